/-! SITES, by my program (wip/whole/gen_sites.py): what the pool entries name -/
theorem xinN {i : Nat} {w : Cond} (h : tables_1[i]? = some w) (hg : xnw w = true) : w ∈ xNN := List.mem_filter.mpr ⟨List.mem_append_right _ (List.mem_of_getElem? h), hg⟩
theorem xinP {i : Nat} {w : Cond} (h : (k2_sels lw_privs)[i]? = some w) (hg : goodWord w = true) : w ∈ xT := List.mem_filter.mpr ⟨List.mem_append_left _ (List.mem_of_getElem? h), hg⟩
theorem k_Op_0 : u_lay R_Op F_Op 0 ∈ xT := xin (i := 239) (by decide +kernel) rfl
theorem k_Op_1 : u_lay R_Op F_Op 1 ∈ xT := xin (i := 241) (by decide +kernel) rfl
theorem k_Op_w : ∀ w ∈ u_ws R_Op F_Op 2, w ∈ xT := by
  show ∀ w ∈ [u_lay R_Op F_Op 0, u_lay R_Op F_Op 1], w ∈ xT
  exact List.forall_mem_cons.mpr ⟨k_Op_0, List.forall_mem_cons.mpr ⟨k_Op_1, fun _ h => absurd h List.not_mem_nil⟩⟩
theorem k_Op : xCls 0 R_Op F_Op 2 t_Op := ⟨rfl, k_Op_w, by decide +kernel, by decide +kernel⟩
theorem n_Op : Cond.instantiable R_Op 2 ∈ xT ∧ Cond.initialized R_Op ∈ xT := ⟨xin (i := 232) (by decide +kernel) rfl, xin (i := 13) (by decide +kernel) rfl⟩
theorem k_Cn_0 : u_lay R_Cn F_Cn 0 ∈ xT := xin (i := 253) (by decide +kernel) rfl
theorem k_Cn_1 : u_lay R_Cn F_Cn 1 ∈ xT := xin (i := 255) (by decide +kernel) rfl
theorem k_Cn_2 : u_lay R_Cn F_Cn 2 ∈ xT := xin (i := 257) (by decide +kernel) rfl
theorem k_Cn_w : ∀ w ∈ u_ws R_Cn F_Cn 3, w ∈ xT := by
  show ∀ w ∈ [u_lay R_Cn F_Cn 0, u_lay R_Cn F_Cn 1, u_lay R_Cn F_Cn 2], w ∈ xT
  exact List.forall_mem_cons.mpr ⟨k_Cn_0, List.forall_mem_cons.mpr ⟨k_Cn_1, List.forall_mem_cons.mpr ⟨k_Cn_2, fun _ h => absurd h List.not_mem_nil⟩⟩⟩
theorem k_Cn : xCls 1 R_Cn F_Cn 3 t_Cn := ⟨rfl, k_Cn_w, by decide +kernel, by decide +kernel⟩
theorem n_Cn : Cond.instantiable R_Cn 3 ∈ xT ∧ Cond.initialized R_Cn ∈ xT := ⟨xin (i := 245) (by decide +kernel) rfl, xin (i := 14) (by decide +kernel) rfl⟩
theorem k_Pa_0 : u_lay R_Pa F_Pa 0 ∈ xT := xin (i := 176) (by decide +kernel) rfl
theorem k_Pa_1 : u_lay R_Pa F_Pa 1 ∈ xT := xin (i := 178) (by decide +kernel) rfl
theorem k_Pa_2 : u_lay R_Pa F_Pa 2 ∈ xT := xin (i := 180) (by decide +kernel) rfl
theorem k_Pa_w : ∀ w ∈ u_ws R_Pa F_Pa 3, w ∈ xT := by
  show ∀ w ∈ [u_lay R_Pa F_Pa 0, u_lay R_Pa F_Pa 1, u_lay R_Pa F_Pa 2], w ∈ xT
  exact List.forall_mem_cons.mpr ⟨k_Pa_0, List.forall_mem_cons.mpr ⟨k_Pa_1, List.forall_mem_cons.mpr ⟨k_Pa_2, fun _ h => absurd h List.not_mem_nil⟩⟩⟩
theorem k_Pa : xCls 2 R_Pa F_Pa 3 t_Pa := ⟨rfl, k_Pa_w, by decide +kernel, by decide +kernel⟩
theorem n_Pa : Cond.instantiable R_Pa 3 ∈ xT ∧ Cond.initialized R_Pa ∈ xT := ⟨xin (i := 111) (by decide +kernel) rfl, xin (i := 11) (by decide +kernel) rfl⟩
theorem k_Ru_0 : u_lay R_Ru F_Ru 0 ∈ xT := xin (i := 79) (by decide +kernel) rfl
theorem k_Ru_1 : u_lay R_Ru F_Ru 1 ∈ xT := xin (i := 81) (by decide +kernel) rfl
theorem k_Ru_2 : u_lay R_Ru F_Ru 2 ∈ xT := xin (i := 83) (by decide +kernel) rfl
theorem k_Ru_3 : u_lay R_Ru F_Ru 3 ∈ xT := xin (i := 85) (by decide +kernel) rfl
theorem k_Ru_4 : u_lay R_Ru F_Ru 4 ∈ xT := xin (i := 87) (by decide +kernel) rfl
theorem k_Ru_5 : u_lay R_Ru F_Ru 5 ∈ xT := xin (i := 89) (by decide +kernel) rfl
theorem k_Ru_6 : u_lay R_Ru F_Ru 6 ∈ xT := xin (i := 91) (by decide +kernel) rfl
theorem k_Ru_7 : u_lay R_Ru F_Ru 7 ∈ xT := xin (i := 93) (by decide +kernel) rfl
theorem k_Ru_w : ∀ w ∈ u_ws R_Ru F_Ru 8, w ∈ xT := by
  show ∀ w ∈ [u_lay R_Ru F_Ru 0, u_lay R_Ru F_Ru 1, u_lay R_Ru F_Ru 2, u_lay R_Ru F_Ru 3, u_lay R_Ru F_Ru 4, u_lay R_Ru F_Ru 5, u_lay R_Ru F_Ru 6, u_lay R_Ru F_Ru 7], w ∈ xT
  exact List.forall_mem_cons.mpr ⟨k_Ru_0, List.forall_mem_cons.mpr ⟨k_Ru_1, List.forall_mem_cons.mpr ⟨k_Ru_2, List.forall_mem_cons.mpr ⟨k_Ru_3, List.forall_mem_cons.mpr ⟨k_Ru_4, List.forall_mem_cons.mpr ⟨k_Ru_5, List.forall_mem_cons.mpr ⟨k_Ru_6, List.forall_mem_cons.mpr ⟨k_Ru_7, fun _ h => absurd h List.not_mem_nil⟩⟩⟩⟩⟩⟩⟩⟩
theorem k_Ru : xCls 3 R_Ru F_Ru 8 t_Ru := ⟨rfl, k_Ru_w, by decide +kernel, by decide +kernel⟩
theorem n_Ru : Cond.instantiable R_Ru 8 ∈ xT ∧ Cond.initialized R_Ru ∈ xT := ⟨xin (i := 63) (by decide +kernel) rfl, xin (i := 4) (by decide +kernel) rfl⟩
theorem k_St_0 : u_lay R_St F_St 0 ∈ xT := xin (i := 150) (by decide +kernel) rfl
theorem k_St_1 : u_lay R_St F_St 1 ∈ xT := xin (i := 152) (by decide +kernel) rfl
theorem k_St_2 : u_lay R_St F_St 2 ∈ xT := xin (i := 154) (by decide +kernel) rfl
theorem k_St_3 : u_lay R_St F_St 3 ∈ xT := xin (i := 156) (by decide +kernel) rfl
theorem k_St_4 : u_lay R_St F_St 4 ∈ xT := xin (i := 158) (by decide +kernel) rfl
theorem k_St_5 : u_lay R_St F_St 5 ∈ xT := xin (i := 160) (by decide +kernel) rfl
theorem k_St_6 : u_lay R_St F_St 6 ∈ xT := xin (i := 162) (by decide +kernel) rfl
theorem k_St_7 : u_lay R_St F_St 7 ∈ xT := xin (i := 164) (by decide +kernel) rfl
theorem k_St_8 : u_lay R_St F_St 8 ∈ xT := xin (i := 166) (by decide +kernel) rfl
theorem k_St_9 : u_lay R_St F_St 9 ∈ xT := xin (i := 168) (by decide +kernel) rfl
theorem k_St_10 : u_lay R_St F_St 10 ∈ xT := xin (i := 170) (by decide +kernel) rfl
theorem k_St_w : ∀ w ∈ u_ws R_St F_St 11, w ∈ xT := by
  show ∀ w ∈ [u_lay R_St F_St 0, u_lay R_St F_St 1, u_lay R_St F_St 2, u_lay R_St F_St 3, u_lay R_St F_St 4, u_lay R_St F_St 5, u_lay R_St F_St 6, u_lay R_St F_St 7, u_lay R_St F_St 8, u_lay R_St F_St 9, u_lay R_St F_St 10], w ∈ xT
  exact List.forall_mem_cons.mpr ⟨k_St_0, List.forall_mem_cons.mpr ⟨k_St_1, List.forall_mem_cons.mpr ⟨k_St_2, List.forall_mem_cons.mpr ⟨k_St_3, List.forall_mem_cons.mpr ⟨k_St_4, List.forall_mem_cons.mpr ⟨k_St_5, List.forall_mem_cons.mpr ⟨k_St_6, List.forall_mem_cons.mpr ⟨k_St_7, List.forall_mem_cons.mpr ⟨k_St_8, List.forall_mem_cons.mpr ⟨k_St_9, List.forall_mem_cons.mpr ⟨k_St_10, fun _ h => absurd h List.not_mem_nil⟩⟩⟩⟩⟩⟩⟩⟩⟩⟩⟩
theorem k_St : xCls 4 R_St F_St 11 t_St := ⟨rfl, k_St_w, by decide +kernel, by decide +kernel⟩
theorem n_St : Cond.instantiable R_St 11 ∈ xT ∧ Cond.initialized R_St ∈ xT := ⟨xin (i := 117) (by decide +kernel) rfl, xin (i := 12) (by decide +kernel) rfl⟩
theorem k_Ta_0 : u_lay R_Ta F_Ta 0 ∈ xT := xin (i := 55) (by decide +kernel) rfl
theorem k_Ta_1 : u_lay R_Ta F_Ta 1 ∈ xT := xin (i := 57) (by decide +kernel) rfl
theorem k_Ta_2 : u_lay R_Ta F_Ta 2 ∈ xT := xin (i := 59) (by decide +kernel) rfl
theorem k_Ta_w : ∀ w ∈ u_ws R_Ta F_Ta 3, w ∈ xT := by
  show ∀ w ∈ [u_lay R_Ta F_Ta 0, u_lay R_Ta F_Ta 1, u_lay R_Ta F_Ta 2], w ∈ xT
  exact List.forall_mem_cons.mpr ⟨k_Ta_0, List.forall_mem_cons.mpr ⟨k_Ta_1, List.forall_mem_cons.mpr ⟨k_Ta_2, fun _ h => absurd h List.not_mem_nil⟩⟩⟩
theorem k_Ta : xCls 5 R_Ta F_Ta 3 t_Ta := ⟨rfl, k_Ta_w, by decide +kernel, by decide +kernel⟩
theorem n_Ta : Cond.instantiable R_Ta 3 ∈ xT ∧ Cond.initialized R_Ta ∈ xT := ⟨xin (i := 47) (by decide +kernel) rfl, xin (i := 3) (by decide +kernel) rfl⟩
theorem k_To_0 : u_lay R_To F_To 0 ∈ xT := xin (i := 38) (by decide +kernel) rfl
theorem k_To_1 : u_lay R_To F_To 1 ∈ xT := xin (i := 40) (by decide +kernel) rfl
theorem k_To_2 : u_lay R_To F_To 2 ∈ xT := xin (i := 42) (by decide +kernel) rfl
theorem k_To_w : ∀ w ∈ u_ws R_To F_To 3, w ∈ xT := by
  show ∀ w ∈ [u_lay R_To F_To 0, u_lay R_To F_To 1, u_lay R_To F_To 2], w ∈ xT
  exact List.forall_mem_cons.mpr ⟨k_To_0, List.forall_mem_cons.mpr ⟨k_To_1, List.forall_mem_cons.mpr ⟨k_To_2, fun _ h => absurd h List.not_mem_nil⟩⟩⟩
theorem k_To : xCls 6 R_To F_To 3 t_To := ⟨rfl, k_To_w, by decide +kernel, by decide +kernel⟩
theorem n_To : Cond.instantiable R_To 3 ∈ xT ∧ Cond.initialized R_To ∈ xT := ⟨xin (i := 26) (by decide +kernel) rfl, xin (i := 2) (by decide +kernel) rfl⟩
theorem k_CB_0 : u_lay R_CB F_CB 0 ∈ xT := xin (i := 99) (by decide +kernel) rfl
theorem k_CB_1 : u_lay R_CB F_CB 1 ∈ xT := xin (i := 101) (by decide +kernel) rfl
theorem k_CB_2 : u_lay R_CB F_CB 2 ∈ xT := xin (i := 103) (by decide +kernel) rfl
theorem k_CB_w : ∀ w ∈ u_ws R_CB F_CB 3, w ∈ xT := by
  show ∀ w ∈ [u_lay R_CB F_CB 0, u_lay R_CB F_CB 1, u_lay R_CB F_CB 2], w ∈ xT
  exact List.forall_mem_cons.mpr ⟨k_CB_0, List.forall_mem_cons.mpr ⟨k_CB_1, List.forall_mem_cons.mpr ⟨k_CB_2, fun _ h => absurd h List.not_mem_nil⟩⟩⟩
theorem k_CB : xCls 7 R_CB F_CB 3 t_CB := ⟨rfl, k_CB_w, by decide +kernel, by decide +kernel⟩
theorem n_CB : Cond.instantiable R_CB 3 ∈ xT ∧ Cond.initialized R_CB ∈ xT := ⟨xin (i := 18) (by decide +kernel) rfl, xin (i := 1) (by decide +kernel) rfl⟩
theorem k_Mo_0 : u_lay R_Mo F_Mo 0 ∈ xT := xin (i := 663) (by decide +kernel) rfl
theorem k_Mo_1 : u_lay R_Mo F_Mo 1 ∈ xT := xin (i := 665) (by decide +kernel) rfl
theorem k_Mo_2 : u_lay R_Mo F_Mo 2 ∈ xT := xin (i := 667) (by decide +kernel) rfl
theorem k_Mo_3 : u_lay R_Mo F_Mo 3 ∈ xT := xin (i := 669) (by decide +kernel) rfl
theorem k_Mo_4 : u_lay R_Mo F_Mo 4 ∈ xT := xin (i := 671) (by decide +kernel) rfl
theorem k_Mo_5 : u_lay R_Mo F_Mo 5 ∈ xT := xin (i := 673) (by decide +kernel) rfl
theorem k_Mo_6 : u_lay R_Mo F_Mo 6 ∈ xT := xin (i := 675) (by decide +kernel) rfl
theorem k_Mo_7 : u_lay R_Mo F_Mo 7 ∈ xT := xin (i := 677) (by decide +kernel) rfl
theorem k_Mo_8 : u_lay R_Mo F_Mo 8 ∈ xT := xin (i := 679) (by decide +kernel) rfl
theorem k_Mo_9 : u_lay R_Mo F_Mo 9 ∈ xT := xin (i := 681) (by decide +kernel) rfl
theorem k_Mo_10 : u_lay R_Mo F_Mo 10 ∈ xT := xin (i := 683) (by decide +kernel) rfl
theorem k_Mo_11 : u_lay R_Mo F_Mo 11 ∈ xT := xin (i := 685) (by decide +kernel) rfl
theorem k_Mo_12 : u_lay R_Mo F_Mo 12 ∈ xT := xin (i := 687) (by decide +kernel) rfl
theorem k_Mo_13 : u_lay R_Mo F_Mo 13 ∈ xT := xin (i := 689) (by decide +kernel) rfl
theorem k_Mo_14 : u_lay R_Mo F_Mo 14 ∈ xT := xin (i := 691) (by decide +kernel) rfl
theorem k_Mo_15 : u_lay R_Mo F_Mo 15 ∈ xT := xin (i := 693) (by decide +kernel) rfl
theorem k_Mo_16 : u_lay R_Mo F_Mo 16 ∈ xT := xin (i := 695) (by decide +kernel) rfl
theorem k_Mo_17 : u_lay R_Mo F_Mo 17 ∈ xT := xin (i := 697) (by decide +kernel) rfl
theorem k_Mo_18 : u_lay R_Mo F_Mo 18 ∈ xT := xin (i := 699) (by decide +kernel) rfl
theorem k_Mo_19 : u_lay R_Mo F_Mo 19 ∈ xT := xin (i := 701) (by decide +kernel) rfl
theorem k_Mo_20 : u_lay R_Mo F_Mo 20 ∈ xT := xin (i := 703) (by decide +kernel) rfl
theorem k_Mo_21 : u_lay R_Mo F_Mo 21 ∈ xT := xin (i := 705) (by decide +kernel) rfl
theorem k_Mo_22 : u_lay R_Mo F_Mo 22 ∈ xT := xin (i := 707) (by decide +kernel) rfl
theorem k_Mo_23 : u_lay R_Mo F_Mo 23 ∈ xT := xin (i := 709) (by decide +kernel) rfl
theorem k_Mo_24 : u_lay R_Mo F_Mo 24 ∈ xT := xin (i := 711) (by decide +kernel) rfl
theorem k_Mo_25 : u_lay R_Mo F_Mo 25 ∈ xT := xin (i := 713) (by decide +kernel) rfl
theorem k_Mo_26 : u_lay R_Mo F_Mo 26 ∈ xT := xin (i := 715) (by decide +kernel) rfl
theorem k_Mo_27 : u_lay R_Mo F_Mo 27 ∈ xT := xin (i := 717) (by decide +kernel) rfl
theorem k_Mo_28 : u_lay R_Mo F_Mo 28 ∈ xT := xin (i := 719) (by decide +kernel) rfl
theorem k_Mo_w : ∀ w ∈ u_ws R_Mo F_Mo 29, w ∈ xT := by
  show ∀ w ∈ [u_lay R_Mo F_Mo 0, u_lay R_Mo F_Mo 1, u_lay R_Mo F_Mo 2, u_lay R_Mo F_Mo 3, u_lay R_Mo F_Mo 4, u_lay R_Mo F_Mo 5, u_lay R_Mo F_Mo 6, u_lay R_Mo F_Mo 7, u_lay R_Mo F_Mo 8, u_lay R_Mo F_Mo 9, u_lay R_Mo F_Mo 10, u_lay R_Mo F_Mo 11, u_lay R_Mo F_Mo 12, u_lay R_Mo F_Mo 13, u_lay R_Mo F_Mo 14, u_lay R_Mo F_Mo 15, u_lay R_Mo F_Mo 16, u_lay R_Mo F_Mo 17, u_lay R_Mo F_Mo 18, u_lay R_Mo F_Mo 19, u_lay R_Mo F_Mo 20, u_lay R_Mo F_Mo 21, u_lay R_Mo F_Mo 22, u_lay R_Mo F_Mo 23, u_lay R_Mo F_Mo 24, u_lay R_Mo F_Mo 25, u_lay R_Mo F_Mo 26, u_lay R_Mo F_Mo 27, u_lay R_Mo F_Mo 28], w ∈ xT
  exact List.forall_mem_cons.mpr ⟨k_Mo_0, List.forall_mem_cons.mpr ⟨k_Mo_1, List.forall_mem_cons.mpr ⟨k_Mo_2, List.forall_mem_cons.mpr ⟨k_Mo_3, List.forall_mem_cons.mpr ⟨k_Mo_4, List.forall_mem_cons.mpr ⟨k_Mo_5, List.forall_mem_cons.mpr ⟨k_Mo_6, List.forall_mem_cons.mpr ⟨k_Mo_7, List.forall_mem_cons.mpr ⟨k_Mo_8, List.forall_mem_cons.mpr ⟨k_Mo_9, List.forall_mem_cons.mpr ⟨k_Mo_10, List.forall_mem_cons.mpr ⟨k_Mo_11, List.forall_mem_cons.mpr ⟨k_Mo_12, List.forall_mem_cons.mpr ⟨k_Mo_13, List.forall_mem_cons.mpr ⟨k_Mo_14, List.forall_mem_cons.mpr ⟨k_Mo_15, List.forall_mem_cons.mpr ⟨k_Mo_16, List.forall_mem_cons.mpr ⟨k_Mo_17, List.forall_mem_cons.mpr ⟨k_Mo_18, List.forall_mem_cons.mpr ⟨k_Mo_19, List.forall_mem_cons.mpr ⟨k_Mo_20, List.forall_mem_cons.mpr ⟨k_Mo_21, List.forall_mem_cons.mpr ⟨k_Mo_22, List.forall_mem_cons.mpr ⟨k_Mo_23, List.forall_mem_cons.mpr ⟨k_Mo_24, List.forall_mem_cons.mpr ⟨k_Mo_25, List.forall_mem_cons.mpr ⟨k_Mo_26, List.forall_mem_cons.mpr ⟨k_Mo_27, List.forall_mem_cons.mpr ⟨k_Mo_28, fun _ h => absurd h List.not_mem_nil⟩⟩⟩⟩⟩⟩⟩⟩⟩⟩⟩⟩⟩⟩⟩⟩⟩⟩⟩⟩⟩⟩⟩⟩⟩⟩⟩⟩⟩
theorem k_Mo : xCls 8 R_Mo F_Mo 29 t_Mo := ⟨rfl, k_Mo_w, by decide +kernel, by decide +kernel⟩
theorem n_Mo : Cond.instantiable R_Mo 29 ∈ xT ∧ Cond.initialized R_Mo ∈ xT := ⟨xin (i := 629) (by decide +kernel) rfl, xin (i := 5) (by decide +kernel) rfl⟩
theorem n_La : Cond.initialized R_La ∈ xT := xin (i := 0) (by decide +kernel) rfl
theorem ac_int : Cond.arrayClass .int ∈ xT := xin (i := 45) (by decide +kernel) rfl
theorem ac_long : Cond.arrayClass .long ∈ xT := xin (i := 883) (by decide +kernel) rfl
theorem c_La_8 : Cond.classLink R_La 8 R_CB ∈ xT := xin (i := 17) (by decide +kernel) rfl
theorem c_CB_7 : Cond.classLink R_CB 7 R_To ∈ xT := xin (i := 25) (by decide +kernel) rfl
theorem f_To_9 : xFl R_To 9 R_To F_To 3 0 := ⟨by decide, rfl, Or.inl (xin (i := 31) (by decide +kernel) rfl)⟩
theorem g_To_9 : 0 < 3 ∧ (F_To 0).1 = R_To ∧ Cond.fieldLink R_To 9 R_To (F_To 0).2.1 (F_To 0).2.2.1 ∈ xT := ⟨by decide, rfl, xin (i := 31) (by decide +kernel) rfl⟩
theorem f_Pa_124 : xFl R_Pa 124 R_To F_To 3 0 := ⟨by decide, rfl, Or.inr ⟨"CursorBase", xinN (i := 32) (by decide +kernel) rfl⟩⟩
theorem f_To_15 : xFl R_To 15 R_To F_To 3 1 := ⟨by decide, rfl, Or.inl (xin (i := 33) (by decide +kernel) rfl)⟩
theorem g_To_15 : 1 < 3 ∧ (F_To 1).1 = R_To ∧ Cond.fieldLink R_To 15 R_To (F_To 1).2.1 (F_To 1).2.2.1 ∈ xT := ⟨by decide, rfl, xin (i := 33) (by decide +kernel) rfl⟩
theorem f_Pa_79 : xFl R_Pa 79 R_To F_To 3 1 := ⟨by decide, rfl, Or.inr ⟨"CursorBase", xinN (i := 34) (by decide +kernel) rfl⟩⟩
theorem f_CB_54 : xFl R_CB 54 R_To F_To 3 2 := ⟨by decide, rfl, Or.inr ⟨"CursorBase", xinN (i := 35) (by decide +kernel) rfl⟩⟩
theorem f_Pa_55 : xFl R_Pa 55 R_To F_To 3 2 := ⟨by decide, rfl, Or.inr ⟨"CursorBase", xinN (i := 36) (by decide +kernel) rfl⟩⟩
theorem f_To_22 : xFl R_To 22 R_To F_To 3 2 := ⟨by decide, rfl, Or.inl (xin (i := 37) (by decide +kernel) rfl)⟩
theorem c_CB_16 : Cond.classLink R_CB 16 R_Ta ∈ xT := xin (i := 46) (by decide +kernel) rfl
theorem f_Ta_9 : xFl R_Ta 9 R_Ta F_Ta 3 0 := ⟨by decide, rfl, Or.inl (xin (i := 52) (by decide +kernel) rfl)⟩
theorem g_Ta_9 : 0 < 3 ∧ (F_Ta 0).1 = R_Ta ∧ Cond.fieldLink R_Ta 9 R_Ta (F_Ta 0).2.1 (F_Ta 0).2.2.1 ∈ xT := ⟨by decide, rfl, xin (i := 52) (by decide +kernel) rfl⟩
theorem f_Ta_15 : xFl R_Ta 15 R_Ta F_Ta 3 1 := ⟨by decide, rfl, Or.inl (xin (i := 53) (by decide +kernel) rfl)⟩
theorem g_Ta_15 : 1 < 3 ∧ (F_Ta 1).1 = R_Ta ∧ Cond.fieldLink R_Ta 15 R_Ta (F_Ta 1).2.1 (F_Ta 1).2.2.1 ∈ xT := ⟨by decide, rfl, xin (i := 53) (by decide +kernel) rfl⟩
theorem f_Ta_18 : xFl R_Ta 18 R_Ta F_Ta 3 2 := ⟨by decide, rfl, Or.inl (xin (i := 54) (by decide +kernel) rfl)⟩
theorem g_Ta_18 : 2 < 3 ∧ (F_Ta 2).1 = R_Ta ∧ Cond.fieldLink R_Ta 18 R_Ta (F_Ta 2).2.1 (F_Ta 2).2.2.1 ∈ xT := ⟨by decide, rfl, xin (i := 54) (by decide +kernel) rfl⟩
theorem c_CB_23 : Cond.classLink R_CB 23 R_Ru ∈ xT := xin (i := 62) (by decide +kernel) rfl
theorem f_Ru_15 : xFl R_Ru 15 R_Ru F_Ru 8 0 := ⟨by decide, rfl, Or.inl (xin (i := 68) (by decide +kernel) rfl)⟩
theorem f_CB_84 : xFl R_CB 84 R_Ru F_Ru 8 0 := ⟨by decide, rfl, Or.inr ⟨"CursorBase", xinN (i := 69) (by decide +kernel) rfl⟩⟩
theorem f_Ru_19 : xFl R_Ru 19 R_Ru F_Ru 8 1 := ⟨by decide, rfl, Or.inl (xin (i := 70) (by decide +kernel) rfl)⟩
theorem f_CB_93 : xFl R_CB 93 R_Ru F_Ru 8 1 := ⟨by decide, rfl, Or.inr ⟨"CursorBase", xinN (i := 71) (by decide +kernel) rfl⟩⟩
theorem f_Ru_23 : xFl R_Ru 23 R_Ru F_Ru 8 2 := ⟨by decide, rfl, Or.inl (xin (i := 72) (by decide +kernel) rfl)⟩
theorem f_CB_100 : xFl R_CB 100 R_Ru F_Ru 8 2 := ⟨by decide, rfl, Or.inr ⟨"CursorBase", xinN (i := 73) (by decide +kernel) rfl⟩⟩
theorem f_Ru_27 : xFl R_Ru 27 R_Ru F_Ru 8 3 := ⟨by decide, rfl, Or.inl (xin (i := 74) (by decide +kernel) rfl)⟩
theorem f_Ru_30 : xFl R_Ru 30 R_Ru F_Ru 8 4 := ⟨by decide, rfl, Or.inl (xin (i := 75) (by decide +kernel) rfl)⟩
theorem f_Ru_33 : xFl R_Ru 33 R_Ru F_Ru 8 5 := ⟨by decide, rfl, Or.inl (xin (i := 76) (by decide +kernel) rfl)⟩
theorem f_Ru_95 : xFl R_Ru 95 R_Ru F_Ru 8 6 := ⟨by decide, rfl, Or.inl (xin (i := 77) (by decide +kernel) rfl)⟩
theorem f_Ru_9 : xFl R_Ru 9 R_Ru F_Ru 8 7 := ⟨by decide, rfl, Or.inl (xin (i := 78) (by decide +kernel) rfl)⟩
theorem g_Ru_9 : 7 < 8 ∧ (F_Ru 7).1 = R_Ru ∧ Cond.fieldLink R_Ru 9 R_Ru (F_Ru 7).2.1 (F_Ru 7).2.2.1 ∈ xT := ⟨by decide, rfl, xin (i := 78) (by decide +kernel) rfl⟩
theorem f_CB_10 : xFl R_CB 10 R_CB F_CB 3 0 := ⟨by decide, rfl, Or.inl (xin (i := 96) (by decide +kernel) rfl)⟩
theorem g_CB_10 : 0 < 3 ∧ (F_CB 0).1 = R_CB ∧ Cond.fieldLink R_CB 10 R_CB (F_CB 0).2.1 (F_CB 0).2.2.1 ∈ xT := ⟨by decide, rfl, xin (i := 96) (by decide +kernel) rfl⟩
theorem f_CB_19 : xFl R_CB 19 R_CB F_CB 3 1 := ⟨by decide, rfl, Or.inl (xin (i := 97) (by decide +kernel) rfl)⟩
theorem g_CB_19 : 1 < 3 ∧ (F_CB 1).1 = R_CB ∧ Cond.fieldLink R_CB 19 R_CB (F_CB 1).2.1 (F_CB 1).2.2.1 ∈ xT := ⟨by decide, rfl, xin (i := 97) (by decide +kernel) rfl⟩
theorem f_CB_26 : xFl R_CB 26 R_CB F_CB 3 2 := ⟨by decide, rfl, Or.inl (xin (i := 98) (by decide +kernel) rfl)⟩
theorem g_CB_26 : 2 < 3 ∧ (F_CB 2).1 = R_CB ∧ Cond.fieldLink R_CB 26 R_CB (F_CB 2).2.1 (F_CB 2).2.2.1 ∈ xT := ⟨by decide, rfl, xin (i := 98) (by decide +kernel) rfl⟩
theorem c_CB_58 : Cond.classLink R_CB 58 R_Pa ∈ xT := xin (i := 110) (by decide +kernel) rfl
theorem c_Pa_9 : Cond.classLink R_Pa 9 R_St ∈ xT := xin (i := 116) (by decide +kernel) rfl
theorem c_St_25 : Cond.classLink R_St 25 R_Op ∈ xT := xin (i := 122) (by decide +kernel) rfl
theorem c_St_31 : Cond.classLink R_St 31 R_Cn ∈ xT := xin (i := 124) (by decide +kernel) rfl
theorem f_Pa_26 : xFl R_Pa 26 R_St F_St 11 0 := ⟨by decide, rfl, Or.inr ⟨"CursorBase", xinN (i := 126) (by decide +kernel) rfl⟩⟩
theorem f_Ru_36 : xFl R_Ru 36 R_St F_St 11 0 := ⟨by decide, rfl, Or.inr ⟨"CursorBase", xinN (i := 127) (by decide +kernel) rfl⟩⟩
theorem f_St_49 : xFl R_St 49 R_St F_St 11 0 := ⟨by decide, rfl, Or.inl (xin (i := 128) (by decide +kernel) rfl)⟩
theorem f_St_9 : xFl R_St 9 R_St F_St 11 1 := ⟨by decide, rfl, Or.inl (xin (i := 129) (by decide +kernel) rfl)⟩
theorem f_Ru_100 : xFl R_Ru 100 R_St F_St 11 1 := ⟨by decide, rfl, Or.inr ⟨"CursorBase", xinN (i := 130) (by decide +kernel) rfl⟩⟩
theorem f_Pa_93 : xFl R_Pa 93 R_St F_St 11 1 := ⟨by decide, rfl, Or.inr ⟨"CursorBase", xinN (i := 131) (by decide +kernel) rfl⟩⟩
theorem f_St_15 : xFl R_St 15 R_St F_St 11 2 := ⟨by decide, rfl, Or.inl (xin (i := 132) (by decide +kernel) rfl)⟩
theorem f_Ru_41 : xFl R_Ru 41 R_St F_St 11 2 := ⟨by decide, rfl, Or.inr ⟨"CursorBase", xinN (i := 133) (by decide +kernel) rfl⟩⟩
theorem f_Pa_83 : xFl R_Pa 83 R_St F_St 11 2 := ⟨by decide, rfl, Or.inr ⟨"CursorBase", xinN (i := 134) (by decide +kernel) rfl⟩⟩
theorem f_St_18 : xFl R_St 18 R_St F_St 11 3 := ⟨by decide, rfl, Or.inl (xin (i := 135) (by decide +kernel) rfl)⟩
theorem f_Pa_68 : xFl R_Pa 68 R_St F_St 11 3 := ⟨by decide, rfl, Or.inr ⟨"CursorBase", xinN (i := 136) (by decide +kernel) rfl⟩⟩
theorem f_Ru_113 : xFl R_Ru 113 R_St F_St 11 3 := ⟨by decide, rfl, Or.inr ⟨"CursorBase", xinN (i := 137) (by decide +kernel) rfl⟩⟩
theorem f_Pa_71 : xFl R_Pa 71 R_St F_St 11 4 := ⟨by decide, rfl, Or.inr ⟨"CursorBase", xinN (i := 138) (by decide +kernel) rfl⟩⟩
theorem f_Ru_119 : xFl R_Ru 119 R_St F_St 11 4 := ⟨by decide, rfl, Or.inr ⟨"CursorBase", xinN (i := 139) (by decide +kernel) rfl⟩⟩
theorem f_St_37 : xFl R_St 37 R_St F_St 11 5 := ⟨by decide, rfl, Or.inl (xin (i := 140) (by decide +kernel) rfl)⟩
theorem f_Pa_90 : xFl R_Pa 90 R_St F_St 11 5 := ⟨by decide, rfl, Or.inr ⟨"CursorBase", xinN (i := 141) (by decide +kernel) rfl⟩⟩
theorem f_St_21 : xFl R_St 21 R_St F_St 11 6 := ⟨by decide, rfl, Or.inl (xin (i := 142) (by decide +kernel) rfl)⟩
theorem g_St_21 : 6 < 11 ∧ (F_St 6).1 = R_St ∧ Cond.fieldLink R_St 21 R_St (F_St 6).2.1 (F_St 6).2.2.1 ∈ xT := ⟨by decide, rfl, xin (i := 142) (by decide +kernel) rfl⟩
theorem f_Ru_44 : xFl R_Ru 44 R_St F_St 11 6 := ⟨by decide, rfl, Or.inr ⟨"CursorBase", xinN (i := 143) (by decide +kernel) rfl⟩⟩
theorem f_St_40 : xFl R_St 40 R_St F_St 11 7 := ⟨by decide, rfl, Or.inl (xin (i := 144) (by decide +kernel) rfl)⟩
theorem f_Pa_102 : xFl R_Pa 102 R_St F_St 11 7 := ⟨by decide, rfl, Or.inr ⟨"CursorBase", xinN (i := 145) (by decide +kernel) rfl⟩⟩
theorem f_St_27 : xFl R_St 27 R_St F_St 11 8 := ⟨by decide, rfl, Or.inl (xin (i := 146) (by decide +kernel) rfl)⟩
theorem g_St_27 : 8 < 11 ∧ (F_St 8).1 = R_St ∧ Cond.fieldLink R_St 27 R_St (F_St 8).2.1 (F_St 8).2.2.1 ∈ xT := ⟨by decide, rfl, xin (i := 146) (by decide +kernel) rfl⟩
theorem f_Ru_103 : xFl R_Ru 103 R_St F_St 11 8 := ⟨by decide, rfl, Or.inr ⟨"CursorBase", xinN (i := 147) (by decide +kernel) rfl⟩⟩
theorem f_St_46 : xFl R_St 46 R_St F_St 11 9 := ⟨by decide, rfl, Or.inl (xin (i := 148) (by decide +kernel) rfl)⟩
theorem f_St_33 : xFl R_St 33 R_St F_St 11 10 := ⟨by decide, rfl, Or.inl (xin (i := 149) (by decide +kernel) rfl)⟩
theorem g_St_33 : 10 < 11 ∧ (F_St 10).1 = R_St ∧ Cond.fieldLink R_St 33 R_St (F_St 10).2.1 (F_St 10).2.2.1 ∈ xT := ⟨by decide, rfl, xin (i := 149) (by decide +kernel) rfl⟩
theorem f_Pa_18 : xFl R_Pa 18 R_Pa F_Pa 3 0 := ⟨by decide, rfl, Or.inl (xin (i := 173) (by decide +kernel) rfl)⟩
theorem g_Pa_18 : 0 < 3 ∧ (F_Pa 0).1 = R_Pa ∧ Cond.fieldLink R_Pa 18 R_Pa (F_Pa 0).2.1 (F_Pa 0).2.2.1 ∈ xT := ⟨by decide, rfl, xin (i := 173) (by decide +kernel) rfl⟩
theorem f_Pa_12 : xFl R_Pa 12 R_Pa F_Pa 3 1 := ⟨by decide, rfl, Or.inl (xin (i := 174) (by decide +kernel) rfl)⟩
theorem g_Pa_12 : 1 < 3 ∧ (F_Pa 1).1 = R_Pa ∧ Cond.fieldLink R_Pa 12 R_Pa (F_Pa 1).2.1 (F_Pa 1).2.2.1 ∈ xT := ⟨by decide, rfl, xin (i := 174) (by decide +kernel) rfl⟩
theorem f_Pa_52 : xFl R_Pa 52 R_Pa F_Pa 3 2 := ⟨by decide, rfl, Or.inl (xin (i := 175) (by decide +kernel) rfl)⟩
theorem c_Pa_122 : Cond.classLink R_Pa 122 R_Op ∈ xT := xin (i := 231) (by decide +kernel) rfl
theorem f_Op_9 : xFl R_Op 9 R_Op F_Op 2 0 := ⟨by decide, rfl, Or.inl (xin (i := 237) (by decide +kernel) rfl)⟩
theorem g_Op_9 : 0 < 2 ∧ (F_Op 0).1 = R_Op ∧ Cond.fieldLink R_Op 9 R_Op (F_Op 0).2.1 (F_Op 0).2.2.1 ∈ xT := ⟨by decide, rfl, xin (i := 237) (by decide +kernel) rfl⟩
theorem f_Op_15 : xFl R_Op 15 R_Op F_Op 2 1 := ⟨by decide, rfl, Or.inl (xin (i := 238) (by decide +kernel) rfl)⟩
theorem g_Op_15 : 1 < 2 ∧ (F_Op 1).1 = R_Op ∧ Cond.fieldLink R_Op 15 R_Op (F_Op 1).2.1 (F_Op 1).2.2.1 ∈ xT := ⟨by decide, rfl, xin (i := 238) (by decide +kernel) rfl⟩
theorem c_Pa_117 : Cond.classLink R_Pa 117 R_Cn ∈ xT := xin (i := 244) (by decide +kernel) rfl
theorem f_Cn_9 : xFl R_Cn 9 R_Cn F_Cn 3 0 := ⟨by decide, rfl, Or.inl (xin (i := 250) (by decide +kernel) rfl)⟩
theorem g_Cn_9 : 0 < 3 ∧ (F_Cn 0).1 = R_Cn ∧ Cond.fieldLink R_Cn 9 R_Cn (F_Cn 0).2.1 (F_Cn 0).2.2.1 ∈ xT := ⟨by decide, rfl, xin (i := 250) (by decide +kernel) rfl⟩
theorem f_Cn_15 : xFl R_Cn 15 R_Cn F_Cn 3 1 := ⟨by decide, rfl, Or.inl (xin (i := 251) (by decide +kernel) rfl)⟩
theorem g_Cn_15 : 1 < 3 ∧ (F_Cn 1).1 = R_Cn ∧ Cond.fieldLink R_Cn 15 R_Cn (F_Cn 1).2.1 (F_Cn 1).2.2.1 ∈ xT := ⟨by decide, rfl, xin (i := 251) (by decide +kernel) rfl⟩
theorem f_Cn_19 : xFl R_Cn 19 R_Cn F_Cn 3 2 := ⟨by decide, rfl, Or.inl (xin (i := 252) (by decide +kernel) rfl)⟩
theorem g_Cn_19 : 2 < 3 ∧ (F_Cn 2).1 = R_Cn ∧ Cond.fieldLink R_Cn 19 R_Cn (F_Cn 2).2.1 (F_Cn 2).2.2.1 ∈ xT := ⟨by decide, rfl, xin (i := 252) (by decide +kernel) rfl⟩
theorem q_Ru_99 : Cond.constant R_Ru 99 160000 ∈ xT := xin (i := 538) (by decide +kernel) rfl
theorem c_La_42 : Cond.classLink R_La 42 R_Mo ∈ xT := xin (i := 628) (by decide +kernel) rfl
theorem f_Mo_31 : xFl R_Mo 31 R_Mo F_Mo 29 0 := ⟨by decide, rfl, Or.inl (xin (i := 634) (by decide +kernel) rfl)⟩
theorem f_Mo_7 : xFl R_Mo 7 R_Mo F_Mo 29 1 := ⟨by decide, rfl, Or.inl (xin (i := 635) (by decide +kernel) rfl)⟩
theorem g_Mo_7 : 1 < 29 ∧ (F_Mo 1).1 = R_Mo ∧ Cond.fieldLink R_Mo 7 R_Mo (F_Mo 1).2.1 (F_Mo 1).2.2.1 ∈ xT := ⟨by decide, rfl, xin (i := 635) (by decide +kernel) rfl⟩
theorem f_Mo_13 : xFl R_Mo 13 R_Mo F_Mo 29 2 := ⟨by decide, rfl, Or.inl (xin (i := 636) (by decide +kernel) rfl)⟩
theorem g_Mo_13 : 2 < 29 ∧ (F_Mo 2).1 = R_Mo ∧ Cond.fieldLink R_Mo 13 R_Mo (F_Mo 2).2.1 (F_Mo 2).2.2.1 ∈ xT := ⟨by decide, rfl, xin (i := 636) (by decide +kernel) rfl⟩
theorem f_Mo_16 : xFl R_Mo 16 R_Mo F_Mo 29 3 := ⟨by decide, rfl, Or.inl (xin (i := 637) (by decide +kernel) rfl)⟩
theorem g_Mo_16 : 3 < 29 ∧ (F_Mo 3).1 = R_Mo ∧ Cond.fieldLink R_Mo 16 R_Mo (F_Mo 3).2.1 (F_Mo 3).2.2.1 ∈ xT := ⟨by decide, rfl, xin (i := 637) (by decide +kernel) rfl⟩
theorem f_Mo_159 : xFl R_Mo 159 R_Mo F_Mo 29 4 := ⟨by decide, rfl, Or.inl (xin (i := 638) (by decide +kernel) rfl)⟩
theorem f_Mo_19 : xFl R_Mo 19 R_Mo F_Mo 29 5 := ⟨by decide, rfl, Or.inl (xin (i := 639) (by decide +kernel) rfl)⟩
theorem g_Mo_19 : 5 < 29 ∧ (F_Mo 5).1 = R_Mo ∧ Cond.fieldLink R_Mo 19 R_Mo (F_Mo 5).2.1 (F_Mo 5).2.2.1 ∈ xT := ⟨by decide, rfl, xin (i := 639) (by decide +kernel) rfl⟩
theorem f_Mo_22 : xFl R_Mo 22 R_Mo F_Mo 29 6 := ⟨by decide, rfl, Or.inl (xin (i := 640) (by decide +kernel) rfl)⟩
theorem g_Mo_22 : 6 < 29 ∧ (F_Mo 6).1 = R_Mo ∧ Cond.fieldLink R_Mo 22 R_Mo (F_Mo 6).2.1 (F_Mo 6).2.2.1 ∈ xT := ⟨by decide, rfl, xin (i := 640) (by decide +kernel) rfl⟩
theorem f_Mo_49 : xFl R_Mo 49 R_Mo F_Mo 29 7 := ⟨by decide, rfl, Or.inl (xin (i := 641) (by decide +kernel) rfl)⟩
theorem f_Mo_25 : xFl R_Mo 25 R_Mo F_Mo 29 8 := ⟨by decide, rfl, Or.inl (xin (i := 642) (by decide +kernel) rfl)⟩
theorem g_Mo_25 : 8 < 29 ∧ (F_Mo 8).1 = R_Mo ∧ Cond.fieldLink R_Mo 25 R_Mo (F_Mo 8).2.1 (F_Mo 8).2.2.1 ∈ xT := ⟨by decide, rfl, xin (i := 642) (by decide +kernel) rfl⟩
theorem f_Mo_28 : xFl R_Mo 28 R_Mo F_Mo 29 9 := ⟨by decide, rfl, Or.inl (xin (i := 643) (by decide +kernel) rfl)⟩
theorem g_Mo_28 : 9 < 29 ∧ (F_Mo 9).1 = R_Mo ∧ Cond.fieldLink R_Mo 28 R_Mo (F_Mo 9).2.1 (F_Mo 9).2.2.1 ∈ xT := ⟨by decide, rfl, xin (i := 643) (by decide +kernel) rfl⟩
theorem f_Mo_112 : xFl R_Mo 112 R_Mo F_Mo 29 10 := ⟨by decide, rfl, Or.inl (xin (i := 644) (by decide +kernel) rfl)⟩
theorem f_Mo_130 : xFl R_Mo 130 R_Mo F_Mo 29 11 := ⟨by decide, rfl, Or.inl (xin (i := 645) (by decide +kernel) rfl)⟩
theorem f_Mo_115 : xFl R_Mo 115 R_Mo F_Mo 29 12 := ⟨by decide, rfl, Or.inl (xin (i := 646) (by decide +kernel) rfl)⟩
theorem f_Mo_118 : xFl R_Mo 118 R_Mo F_Mo 29 13 := ⟨by decide, rfl, Or.inl (xin (i := 647) (by decide +kernel) rfl)⟩
theorem f_Mo_121 : xFl R_Mo 121 R_Mo F_Mo 29 14 := ⟨by decide, rfl, Or.inl (xin (i := 648) (by decide +kernel) rfl)⟩
theorem f_Mo_124 : xFl R_Mo 124 R_Mo F_Mo 29 15 := ⟨by decide, rfl, Or.inl (xin (i := 649) (by decide +kernel) rfl)⟩
theorem f_Mo_127 : xFl R_Mo 127 R_Mo F_Mo 29 16 := ⟨by decide, rfl, Or.inl (xin (i := 650) (by decide +kernel) rfl)⟩
theorem f_Mo_136 : xFl R_Mo 136 R_Mo F_Mo 29 17 := ⟨by decide, rfl, Or.inl (xin (i := 651) (by decide +kernel) rfl)⟩
theorem f_Mo_139 : xFl R_Mo 139 R_Mo F_Mo 29 18 := ⟨by decide, rfl, Or.inl (xin (i := 652) (by decide +kernel) rfl)⟩
theorem f_Mo_142 : xFl R_Mo 142 R_Mo F_Mo 29 19 := ⟨by decide, rfl, Or.inl (xin (i := 653) (by decide +kernel) rfl)⟩
theorem f_Mo_145 : xFl R_Mo 145 R_Mo F_Mo 29 20 := ⟨by decide, rfl, Or.inl (xin (i := 654) (by decide +kernel) rfl)⟩
theorem f_Mo_148 : xFl R_Mo 148 R_Mo F_Mo 29 21 := ⟨by decide, rfl, Or.inl (xin (i := 655) (by decide +kernel) rfl)⟩
theorem f_Mo_172 : xFl R_Mo 172 R_Mo F_Mo 29 22 := ⟨by decide, rfl, Or.inl (xin (i := 656) (by decide +kernel) rfl)⟩
theorem f_Mo_52 : xFl R_Mo 52 R_Mo F_Mo 29 23 := ⟨by decide, rfl, Or.inl (xin (i := 657) (by decide +kernel) rfl)⟩
theorem f_Mo_82 : xFl R_Mo 82 R_Mo F_Mo 29 24 := ⟨by decide, rfl, Or.inl (xin (i := 658) (by decide +kernel) rfl)⟩
theorem f_Mo_85 : xFl R_Mo 85 R_Mo F_Mo 29 25 := ⟨by decide, rfl, Or.inl (xin (i := 659) (by decide +kernel) rfl)⟩
theorem f_Mo_62 : xFl R_Mo 62 R_Mo F_Mo 29 26 := ⟨by decide, rfl, Or.inl (xin (i := 660) (by decide +kernel) rfl)⟩
theorem f_Mo_65 : xFl R_Mo 65 R_Mo F_Mo 29 27 := ⟨by decide, rfl, Or.inl (xin (i := 661) (by decide +kernel) rfl)⟩
theorem f_Mo_91 : xFl R_Mo 91 R_Mo F_Mo 29 28 := ⟨by decide, rfl, Or.inl (xin (i := 662) (by decide +kernel) rfl)⟩
theorem q_Mo_35 : Cond.constantLong R_Mo 35 13 ∈ xT := xin (i := 730) (by decide +kernel) rfl
theorem q_Mo_41 : Cond.constantLong R_Mo 41 9 ∈ xT := xin (i := 734) (by decide +kernel) rfl
theorem q_Mo_43 : Cond.constantLong R_Mo 43 5 ∈ xT := xin (i := 735) (by decide +kernel) rfl
theorem q_Mo_45 : Cond.constantLong R_Mo 45 10 ∈ xT := xin (i := 736) (by decide +kernel) rfl
theorem q_Mo_47 : Cond.constantLong R_Mo 47 15 ∈ xT := xin (i := 737) (by decide +kernel) rfl
theorem q_Mo_104 : Cond.constantLong R_Mo 104 6 ∈ xT := xin (i := 786) (by decide +kernel) rfl
theorem v_CB_init : xY 1 y_CB_init b_CB_init 1 none 0 := ⟨xin (i := 21) (by decide +kernel) rfl, xin (i := 1) (by decide +kernel) rfl, ⟨by decide +kernel, by decide +kernel⟩, by decide +kernel, fun h => absurd h (by decide), fun _ => ⟨xin (i := 20) (by decide +kernel) rfl, rfl, rfl⟩, fun h => absurd h (by decide)⟩
theorem v_To_init : xY 1 y_To_init b_To_init 1 none 0 := ⟨xin (i := 29) (by decide +kernel) rfl, xin (i := 2) (by decide +kernel) rfl, ⟨by decide +kernel, by decide +kernel⟩, by decide +kernel, fun h => absurd h (by decide), fun _ => ⟨xin (i := 28) (by decide +kernel) rfl, rfl, rfl⟩, fun h => absurd h (by decide)⟩
theorem v_Ta_init : xY 1 y_Ta_init b_Ta_init 1 none 0 := ⟨xin (i := 50) (by decide +kernel) rfl, xin (i := 3) (by decide +kernel) rfl, ⟨by decide +kernel, by decide +kernel⟩, by decide +kernel, fun h => absurd h (by decide), fun _ => ⟨xin (i := 49) (by decide +kernel) rfl, rfl, rfl⟩, fun h => absurd h (by decide)⟩
theorem v_Ru_init : xY 1 y_Ru_init b_Ru_init 1 none 0 := ⟨xin (i := 66) (by decide +kernel) rfl, xin (i := 4) (by decide +kernel) rfl, ⟨by decide +kernel, by decide +kernel⟩, by decide +kernel, fun h => absurd h (by decide), fun _ => ⟨xin (i := 65) (by decide +kernel) rfl, rfl, rfl⟩, fun h => absurd h (by decide)⟩
theorem v_CB_prepare : xY 0 y_CB_prepare b_CB_prepare 3 (some .int) 0 := ⟨xin (i := 109) (by decide +kernel) rfl, xin (i := 1) (by decide +kernel) rfl, ⟨by decide +kernel, by decide +kernel⟩, by decide +kernel, fun _ => ⟨xin (i := 107) (by decide +kernel) rfl, xin (i := 108) (by decide +kernel) rfl⟩, fun h => absurd h (by decide), fun h => absurd h (by decide)⟩
theorem v_Pa_init : xY 1 y_Pa_init b_Pa_init 2 none 1 := ⟨xin (i := 114) (by decide +kernel) rfl, xin (i := 11) (by decide +kernel) rfl, ⟨by decide +kernel, by decide +kernel⟩, by decide +kernel, fun h => absurd h (by decide), fun _ => ⟨xin (i := 113) (by decide +kernel) rfl, rfl, rfl⟩, fun h => absurd h (by decide)⟩
theorem v_St_init : xY 1 y_St_init b_St_init 1 none 0 := ⟨xin (i := 120) (by decide +kernel) rfl, xin (i := 12) (by decide +kernel) rfl, ⟨by decide +kernel, by decide +kernel⟩, by decide +kernel, fun h => absurd h (by decide), fun _ => ⟨xin (i := 119) (by decide +kernel) rfl, rfl, rfl⟩, fun h => absurd h (by decide)⟩
theorem v_Pa_parse : xY 0 y_Pa_parse b_Pa_parse 2 (some (.object "CursorBase$Statement")) 0 := ⟨xin (i := 186) (by decide +kernel) rfl, xin (i := 11) (by decide +kernel) rfl, ⟨by decide +kernel, by decide +kernel⟩, by decide +kernel, fun _ => ⟨xin (i := 184) (by decide +kernel) rfl, xin (i := 185) (by decide +kernel) rfl⟩, fun h => absurd h (by decide), fun h => absurd h (by decide)⟩
theorem v_Pa_takeWordBetween : xY 0 y_Pa_takeWordBetween b_Pa_takeWordBetween 3 (some .int) 2 := ⟨xin (i := 190) (by decide +kernel) rfl, xin (i := 11) (by decide +kernel) rfl, ⟨by decide +kernel, by decide +kernel⟩, by decide +kernel, fun _ => ⟨xin (i := 189) (by decide +kernel) rfl, xinP (i := 0) (by decide +kernel) rfl⟩, fun h => absurd h (by decide), fun h => absurd h (by decide)⟩
theorem v_To_isKind : xY 0 y_To_isKind b_To_isKind 3 (some .boolean) 2 := ⟨xin (i := 194) (by decide +kernel) rfl, xin (i := 2) (by decide +kernel) rfl, ⟨by decide +kernel, by decide +kernel⟩, by decide +kernel, fun _ => ⟨xin (i := 192) (by decide +kernel) rfl, xin (i := 193) (by decide +kernel) rfl⟩, fun h => absurd h (by decide), fun h => absurd h (by decide)⟩
theorem v_Pa_takeFirstTable : xY 0 y_Pa_takeFirstTable b_Pa_takeFirstTable 1 (some .boolean) 0 := ⟨xin (i := 198) (by decide +kernel) rfl, xin (i := 11) (by decide +kernel) rfl, ⟨by decide +kernel, by decide +kernel⟩, by decide +kernel, fun _ => ⟨xin (i := 197) (by decide +kernel) rfl, xinP (i := 1) (by decide +kernel) rfl⟩, fun h => absurd h (by decide), fun h => absurd h (by decide)⟩
theorem v_Pa_takeTable : xY 0 y_Pa_takeTable b_Pa_takeTable 1 (some .int) 0 := ⟨xin (i := 202) (by decide +kernel) rfl, xin (i := 11) (by decide +kernel) rfl, ⟨by decide +kernel, by decide +kernel⟩, by decide +kernel, fun _ => ⟨xin (i := 201) (by decide +kernel) rfl, xinP (i := 2) (by decide +kernel) rfl⟩, fun h => absurd h (by decide), fun h => absurd h (by decide)⟩
theorem v_Pa_takeNumber : xY 0 y_Pa_takeNumber b_Pa_takeNumber 1 (some .boolean) 0 := ⟨xin (i := 206) (by decide +kernel) rfl, xin (i := 11) (by decide +kernel) rfl, ⟨by decide +kernel, by decide +kernel⟩, by decide +kernel, fun _ => ⟨xin (i := 205) (by decide +kernel) rfl, xinP (i := 3) (by decide +kernel) rfl⟩, fun h => absurd h (by decide), fun h => absurd h (by decide)⟩
theorem v_St_addNumber : xY 0 y_St_addNumber b_St_addNumber 2 none 1 := ⟨xin (i := 210) (by decide +kernel) rfl, xin (i := 12) (by decide +kernel) rfl, ⟨by decide +kernel, by decide +kernel⟩, by decide +kernel, fun _ => ⟨xin (i := 208) (by decide +kernel) rfl, xin (i := 209) (by decide +kernel) rfl⟩, fun h => absurd h (by decide), fun h => absurd h (by decide)⟩
theorem v_Pa_takeNumbers : xY 0 y_Pa_takeNumbers b_Pa_takeNumbers 3 (some .boolean) 0 := ⟨xin (i := 214) (by decide +kernel) rfl, xin (i := 11) (by decide +kernel) rfl, ⟨by decide +kernel, by decide +kernel⟩, by decide +kernel, fun _ => ⟨xin (i := 213) (by decide +kernel) rfl, xinP (i := 4) (by decide +kernel) rfl⟩, fun h => absurd h (by decide), fun h => absurd h (by decide)⟩
theorem v_Pa_takeConditions : xY 0 y_Pa_takeConditions b_Pa_takeConditions 4 (some .boolean) 0 := ⟨xin (i := 218) (by decide +kernel) rfl, xin (i := 11) (by decide +kernel) rfl, ⟨by decide +kernel, by decide +kernel⟩, by decide +kernel, fun _ => ⟨xin (i := 217) (by decide +kernel) rfl, xinP (i := 5) (by decide +kernel) rfl⟩, fun h => absurd h (by decide), fun h => absurd h (by decide)⟩
theorem v_Pa_takeWord : xY 0 y_Pa_takeWord b_Pa_takeWord 2 (some .boolean) 1 := ⟨xin (i := 222) (by decide +kernel) rfl, xin (i := 11) (by decide +kernel) rfl, ⟨by decide +kernel, by decide +kernel⟩, by decide +kernel, fun _ => ⟨xin (i := 221) (by decide +kernel) rfl, xinP (i := 6) (by decide +kernel) rfl⟩, fun h => absurd h (by decide), fun h => absurd h (by decide)⟩
theorem v_Pa_takeCondition : xY 0 y_Pa_takeCondition b_Pa_takeCondition 4 (some (.object "CursorBase$Condition")) 0 := ⟨xin (i := 226) (by decide +kernel) rfl, xin (i := 11) (by decide +kernel) rfl, ⟨by decide +kernel, by decide +kernel⟩, by decide +kernel, fun _ => ⟨xin (i := 225) (by decide +kernel) rfl, xinP (i := 7) (by decide +kernel) rfl⟩, fun h => absurd h (by decide), fun h => absurd h (by decide)⟩
theorem v_Pa_takeOperand : xY 0 y_Pa_takeOperand b_Pa_takeOperand 1 (some (.object "CursorBase$Operand")) 0 := ⟨xin (i := 230) (by decide +kernel) rfl, xin (i := 11) (by decide +kernel) rfl, ⟨by decide +kernel, by decide +kernel⟩, by decide +kernel, fun _ => ⟨xin (i := 229) (by decide +kernel) rfl, xinP (i := 8) (by decide +kernel) rfl⟩, fun h => absurd h (by decide), fun h => absurd h (by decide)⟩
theorem v_Op_init : xY 1 y_Op_init b_Op_init 3 none 2 := ⟨xin (i := 235) (by decide +kernel) rfl, xin (i := 13) (by decide +kernel) rfl, ⟨by decide +kernel, by decide +kernel⟩, by decide +kernel, fun h => absurd h (by decide), fun _ => ⟨xin (i := 234) (by decide +kernel) rfl, rfl, rfl⟩, fun h => absurd h (by decide)⟩
theorem v_Cn_init : xY 1 y_Cn_init b_Cn_init 4 none 3 := ⟨xin (i := 248) (by decide +kernel) rfl, xin (i := 14) (by decide +kernel) rfl, ⟨by decide +kernel, by decide +kernel⟩, by decide +kernel, fun h => absurd h (by decide), fun _ => ⟨xin (i := 247) (by decide +kernel) rfl, rfl, rfl⟩, fun h => absurd h (by decide)⟩
theorem v_St_addCondition : xY 0 y_St_addCondition b_St_addCondition 2 none 1 := ⟨xin (i := 263) (by decide +kernel) rfl, xin (i := 12) (by decide +kernel) rfl, ⟨by decide +kernel, by decide +kernel⟩, by decide +kernel, fun _ => ⟨xin (i := 261) (by decide +kernel) rfl, xin (i := 262) (by decide +kernel) rfl⟩, fun h => absurd h (by decide), fun h => absurd h (by decide)⟩
theorem v_Pa_takeList : xY 0 y_Pa_takeList b_Pa_takeList 1 (some .boolean) 0 := ⟨xin (i := 267) (by decide +kernel) rfl, xin (i := 11) (by decide +kernel) rfl, ⟨by decide +kernel, by decide +kernel⟩, by decide +kernel, fun _ => ⟨xin (i := 266) (by decide +kernel) rfl, xinP (i := 9) (by decide +kernel) rfl⟩, fun h => absurd h (by decide), fun h => absurd h (by decide)⟩
theorem v_Pa_takeColumns : xY 0 y_Pa_takeColumns b_Pa_takeColumns 3 (some .boolean) 1 := ⟨xin (i := 271) (by decide +kernel) rfl, xin (i := 11) (by decide +kernel) rfl, ⟨by decide +kernel, by decide +kernel⟩, by decide +kernel, fun _ => ⟨xin (i := 270) (by decide +kernel) rfl, xinP (i := 10) (by decide +kernel) rfl⟩, fun h => absurd h (by decide), fun h => absurd h (by decide)⟩
theorem v_St_addPick : xY 0 y_St_addPick b_St_addPick 2 none 1 := ⟨xin (i := 275) (by decide +kernel) rfl, xin (i := 12) (by decide +kernel) rfl, ⟨by decide +kernel, by decide +kernel⟩, by decide +kernel, fun _ => ⟨xin (i := 273) (by decide +kernel) rfl, xin (i := 274) (by decide +kernel) rfl⟩, fun h => absurd h (by decide), fun h => absurd h (by decide)⟩
theorem v_Pa_takeFrom : xY 0 y_Pa_takeFrom b_Pa_takeFrom 1 (some .boolean) 0 := ⟨xin (i := 280) (by decide +kernel) rfl, xin (i := 11) (by decide +kernel) rfl, ⟨by decide +kernel, by decide +kernel⟩, by decide +kernel, fun _ => ⟨xin (i := 279) (by decide +kernel) rfl, xinP (i := 11) (by decide +kernel) rfl⟩, fun h => absurd h (by decide), fun h => absurd h (by decide)⟩
theorem v_Pa_takeOrder : xY 0 y_Pa_takeOrder b_Pa_takeOrder 1 (some .boolean) 0 := ⟨xin (i := 284) (by decide +kernel) rfl, xin (i := 11) (by decide +kernel) rfl, ⟨by decide +kernel, by decide +kernel⟩, by decide +kernel, fun _ => ⟨xin (i := 283) (by decide +kernel) rfl, xinP (i := 12) (by decide +kernel) rfl⟩, fun h => absurd h (by decide), fun h => absurd h (by decide)⟩
theorem v_To_drop : xY 0 y_To_drop b_To_drop 1 none 0 := ⟨xin (i := 288) (by decide +kernel) rfl, xin (i := 2) (by decide +kernel) rfl, ⟨by decide +kernel, by decide +kernel⟩, by decide +kernel, fun _ => ⟨xin (i := 286) (by decide +kernel) rfl, xin (i := 287) (by decide +kernel) rfl⟩, fun h => absurd h (by decide), fun h => absurd h (by decide)⟩
theorem v_St_fault : xY 0 y_St_fault b_St_fault 2 (some .int) 1 := ⟨xin (i := 292) (by decide +kernel) rfl, xin (i := 12) (by decide +kernel) rfl, ⟨by decide +kernel, by decide +kernel⟩, by decide +kernel, fun _ => ⟨xin (i := 290) (by decide +kernel) rfl, xin (i := 291) (by decide +kernel) rfl⟩, fun h => absurd h (by decide), fun h => absurd h (by decide)⟩
theorem v_St_faultOfCreate : xY 0 y_St_faultOfCreate b_St_faultOfCreate 2 (some .int) 1 := ⟨xin (i := 296) (by decide +kernel) rfl, xin (i := 12) (by decide +kernel) rfl, ⟨by decide +kernel, by decide +kernel⟩, by decide +kernel, fun _ => ⟨xin (i := 295) (by decide +kernel) rfl, xinP (i := 13) (by decide +kernel) rfl⟩, fun h => absurd h (by decide), fun h => absurd h (by decide)⟩
theorem v_Ta_isThere : xY 0 y_Ta_isThere b_Ta_isThere 2 (some .boolean) 1 := ⟨xin (i := 300) (by decide +kernel) rfl, xin (i := 3) (by decide +kernel) rfl, ⟨by decide +kernel, by decide +kernel⟩, by decide +kernel, fun _ => ⟨xin (i := 298) (by decide +kernel) rfl, xin (i := 299) (by decide +kernel) rfl⟩, fun h => absurd h (by decide), fun h => absurd h (by decide)⟩
theorem v_Ta_columnsOf : xY 0 y_Ta_columnsOf b_Ta_columnsOf 2 (some .int) 1 := ⟨xin (i := 304) (by decide +kernel) rfl, xin (i := 3) (by decide +kernel) rfl, ⟨by decide +kernel, by decide +kernel⟩, by decide +kernel, fun _ => ⟨xin (i := 302) (by decide +kernel) rfl, xin (i := 303) (by decide +kernel) rfl⟩, fun h => absurd h (by decide), fun h => absurd h (by decide)⟩
theorem v_St_columnsAreThere : xY 0 y_St_columnsAreThere b_St_columnsAreThere 4 (some .boolean) 2 := ⟨xin (i := 309) (by decide +kernel) rfl, xin (i := 12) (by decide +kernel) rfl, ⟨by decide +kernel, by decide +kernel⟩, by decide +kernel, fun _ => ⟨xin (i := 308) (by decide +kernel) rfl, xinP (i := 14) (by decide +kernel) rfl⟩, fun h => absurd h (by decide), fun h => absurd h (by decide)⟩
theorem v_Op_isThere : xY 0 y_Op_isThere b_Op_isThere 3 (some .boolean) 2 := ⟨xin (i := 313) (by decide +kernel) rfl, xin (i := 13) (by decide +kernel) rfl, ⟨by decide +kernel, by decide +kernel⟩, by decide +kernel, fun _ => ⟨xin (i := 311) (by decide +kernel) rfl, xin (i := 312) (by decide +kernel) rfl⟩, fun h => absurd h (by decide), fun h => absurd h (by decide)⟩
theorem v_Cn_isThere : xY 0 y_Cn_isThere b_Cn_isThere 3 (some .boolean) 2 := ⟨xin (i := 317) (by decide +kernel) rfl, xin (i := 14) (by decide +kernel) rfl, ⟨by decide +kernel, by decide +kernel⟩, by decide +kernel, fun _ => ⟨xin (i := 315) (by decide +kernel) rfl, xin (i := 316) (by decide +kernel) rfl⟩, fun h => absurd h (by decide), fun h => absurd h (by decide)⟩
theorem v_St_spellOutAll : xY 0 y_St_spellOutAll b_St_spellOutAll 2 none 1 := ⟨xin (i := 322) (by decide +kernel) rfl, xin (i := 12) (by decide +kernel) rfl, ⟨by decide +kernel, by decide +kernel⟩, by decide +kernel, fun _ => ⟨xin (i := 320) (by decide +kernel) rfl, xin (i := 321) (by decide +kernel) rfl⟩, fun h => absurd h (by decide), fun h => absurd h (by decide)⟩
theorem v_St_addPicks : xY 0 y_St_addPicks b_St_addPicks 4 none 2 := ⟨xin (i := 326) (by decide +kernel) rfl, xin (i := 12) (by decide +kernel) rfl, ⟨by decide +kernel, by decide +kernel⟩, by decide +kernel, fun _ => ⟨xin (i := 325) (by decide +kernel) rfl, xinP (i := 15) (by decide +kernel) rfl⟩, fun h => absurd h (by decide), fun h => absurd h (by decide)⟩
theorem v_Ru_begin : xY 0 y_Ru_begin b_Ru_begin 2 none 1 := ⟨xin (i := 331) (by decide +kernel) rfl, xin (i := 4) (by decide +kernel) rfl, ⟨by decide +kernel, by decide +kernel⟩, by decide +kernel, fun _ => ⟨xin (i := 329) (by decide +kernel) rfl, xin (i := 330) (by decide +kernel) rfl⟩, fun h => absurd h (by decide), fun h => absurd h (by decide)⟩
theorem v_CB_all : xY 0 y_CB_all b_CB_all 1 (some .int) 0 := ⟨xin (i := 335) (by decide +kernel) rfl, xin (i := 1) (by decide +kernel) rfl, ⟨by decide +kernel, by decide +kernel⟩, by decide +kernel, fun _ => ⟨xin (i := 333) (by decide +kernel) rfl, xin (i := 334) (by decide +kernel) rfl⟩, fun h => absurd h (by decide), fun h => absurd h (by decide)⟩
theorem v_Ta_rowsInAll : xY 0 y_Ta_rowsInAll b_Ta_rowsInAll 1 (some .int) 0 := ⟨xin (i := 339) (by decide +kernel) rfl, xin (i := 3) (by decide +kernel) rfl, ⟨by decide +kernel, by decide +kernel⟩, by decide +kernel, fun _ => ⟨xin (i := 337) (by decide +kernel) rfl, xin (i := 338) (by decide +kernel) rfl⟩, fun h => absurd h (by decide), fun h => absurd h (by decide)⟩
theorem v_CB_clear : xY 0 y_CB_clear b_CB_clear 1 none 0 := ⟨xin (i := 343) (by decide +kernel) rfl, xin (i := 1) (by decide +kernel) rfl, ⟨by decide +kernel, by decide +kernel⟩, by decide +kernel, fun _ => ⟨xin (i := 341) (by decide +kernel) rfl, xin (i := 342) (by decide +kernel) rfl⟩, fun h => absurd h (by decide), fun h => absurd h (by decide)⟩
theorem v_Ta_drop : xY 0 y_Ta_drop b_Ta_drop 2 none 0 := ⟨xin (i := 347) (by decide +kernel) rfl, xin (i := 3) (by decide +kernel) rfl, ⟨by decide +kernel, by decide +kernel⟩, by decide +kernel, fun _ => ⟨xin (i := 345) (by decide +kernel) rfl, xin (i := 346) (by decide +kernel) rfl⟩, fun h => absurd h (by decide), fun h => absurd h (by decide)⟩
theorem v_CB_feed : xY 0 y_CB_feed b_CB_feed 3 (some .int) 2 := ⟨xin (i := 356) (by decide +kernel) rfl, xin (i := 1) (by decide +kernel) rfl, ⟨by decide +kernel, by decide +kernel⟩, by decide +kernel, fun _ => ⟨xin (i := 354) (by decide +kernel) rfl, xin (i := 355) (by decide +kernel) rfl⟩, fun h => absurd h (by decide), fun h => absurd h (by decide)⟩
theorem v_To_isToken : xY 2 y_To_isToken b_To_isToken 2 (some .boolean) 2 := ⟨xin (i := 359) (by decide +kernel) rfl, xin (i := 2) (by decide +kernel) rfl, ⟨by decide +kernel, by decide +kernel⟩, by decide +kernel, fun h => absurd h (by decide), fun h => absurd h (by decide), fun _ => xin (i := 358) (by decide +kernel) rfl⟩
theorem v_To_isColumnFrom : xY 2 y_To_isColumnFrom b_To_isColumnFrom 2 (some .boolean) 2 := ⟨xin (i := 362) (by decide +kernel) rfl, xin (i := 2) (by decide +kernel) rfl, ⟨by decide +kernel, by decide +kernel⟩, by decide +kernel, fun h => absurd h (by decide), fun h => absurd h (by decide), fun _ => xin (i := 361) (by decide +kernel) rfl⟩
theorem v_To_isFull : xY 0 y_To_isFull b_To_isFull 1 (some .boolean) 0 := ⟨xin (i := 434) (by decide +kernel) rfl, xin (i := 2) (by decide +kernel) rfl, ⟨by decide +kernel, by decide +kernel⟩, by decide +kernel, fun _ => ⟨xin (i := 432) (by decide +kernel) rfl, xin (i := 433) (by decide +kernel) rfl⟩, fun h => absurd h (by decide), fun h => absurd h (by decide)⟩
theorem v_To_put : xY 0 y_To_put b_To_put 3 none 2 := ⟨xin (i := 454) (by decide +kernel) rfl, xin (i := 2) (by decide +kernel) rfl, ⟨by decide +kernel, by decide +kernel⟩, by decide +kernel, fun _ => ⟨xin (i := 452) (by decide +kernel) rfl, xin (i := 453) (by decide +kernel) rfl⟩, fun h => absurd h (by decide), fun h => absurd h (by decide)⟩
theorem v_CB_step : xY 0 y_CB_step b_CB_step 1 (some .int) 0 := ⟨xin (i := 462) (by decide +kernel) rfl, xin (i := 1) (by decide +kernel) rfl, ⟨by decide +kernel, by decide +kernel⟩, by decide +kernel, fun _ => ⟨xin (i := 460) (by decide +kernel) rfl, xin (i := 461) (by decide +kernel) rfl⟩, fun h => absurd h (by decide), fun h => absurd h (by decide)⟩
theorem v_Ru_advance : xY 0 y_Ru_advance b_Ru_advance 3 (some .int) 1 := ⟨xin (i := 467) (by decide +kernel) rfl, xin (i := 4) (by decide +kernel) rfl, ⟨by decide +kernel, by decide +kernel⟩, by decide +kernel, fun _ => ⟨xin (i := 465) (by decide +kernel) rfl, xin (i := 466) (by decide +kernel) rfl⟩, fun h => absurd h (by decide), fun h => absurd h (by decide)⟩
theorem v_Ta_create : xY 0 y_Ta_create b_Ta_create 3 (some .int) 2 := ⟨xin (i := 471) (by decide +kernel) rfl, xin (i := 3) (by decide +kernel) rfl, ⟨by decide +kernel, by decide +kernel⟩, by decide +kernel, fun _ => ⟨xin (i := 469) (by decide +kernel) rfl, xin (i := 470) (by decide +kernel) rfl⟩, fun h => absurd h (by decide), fun h => absurd h (by decide)⟩
theorem v_Ta_insert : xY 0 y_Ta_insert b_Ta_insert 5 (some .int) 2 := ⟨xin (i := 476) (by decide +kernel) rfl, xin (i := 3) (by decide +kernel) rfl, ⟨by decide +kernel, by decide +kernel⟩, by decide +kernel, fun _ => ⟨xin (i := 474) (by decide +kernel) rfl, xin (i := 475) (by decide +kernel) rfl⟩, fun h => absurd h (by decide), fun h => absurd h (by decide)⟩
theorem v_Ta_placeNotBelow : xY 0 y_Ta_placeNotBelow b_Ta_placeNotBelow 5 (some .int) 2 := ⟨xin (i := 480) (by decide +kernel) rfl, xin (i := 3) (by decide +kernel) rfl, ⟨by decide +kernel, by decide +kernel⟩, by decide +kernel, fun _ => ⟨xin (i := 479) (by decide +kernel) rfl, xinP (i := 17) (by decide +kernel) rfl⟩, fun h => absurd h (by decide), fun h => absurd h (by decide)⟩
theorem v_Ta_rowsOf : xY 0 y_Ta_rowsOf b_Ta_rowsOf 2 (some .int) 1 := ⟨xin (i := 484) (by decide +kernel) rfl, xin (i := 3) (by decide +kernel) rfl, ⟨by decide +kernel, by decide +kernel⟩, by decide +kernel, fun _ => ⟨xin (i := 482) (by decide +kernel) rfl, xin (i := 483) (by decide +kernel) rfl⟩, fun h => absurd h (by decide), fun h => absurd h (by decide)⟩
theorem v_Ta_keyAt : xY 0 y_Ta_keyAt b_Ta_keyAt 3 (some .int) 2 := ⟨xin (i := 488) (by decide +kernel) rfl, xin (i := 3) (by decide +kernel) rfl, ⟨by decide +kernel, by decide +kernel⟩, by decide +kernel, fun _ => ⟨xin (i := 486) (by decide +kernel) rfl, xin (i := 487) (by decide +kernel) rfl⟩, fun h => absurd h (by decide), fun h => absurd h (by decide)⟩
theorem v_Ta_cellOf : xY 0 y_Ta_cellOf b_Ta_cellOf 3 (some .int) 2 := ⟨xin (i := 492) (by decide +kernel) rfl, xin (i := 3) (by decide +kernel) rfl, ⟨by decide +kernel, by decide +kernel⟩, by decide +kernel, fun _ => ⟨xin (i := 491) (by decide +kernel) rfl, xinP (i := 18) (by decide +kernel) rfl⟩, fun h => absurd h (by decide), fun h => absurd h (by decide)⟩
theorem v_Ta_hasKeyAt : xY 0 y_Ta_hasKeyAt b_Ta_hasKeyAt 4 (some .boolean) 3 := ⟨xin (i := 496) (by decide +kernel) rfl, xin (i := 3) (by decide +kernel) rfl, ⟨by decide +kernel, by decide +kernel⟩, by decide +kernel, fun _ => ⟨xin (i := 495) (by decide +kernel) rfl, xinP (i := 19) (by decide +kernel) rfl⟩, fun h => absurd h (by decide), fun h => absurd h (by decide)⟩
theorem v_Ta_moveStartsBehind : xY 0 y_Ta_moveStartsBehind b_Ta_moveStartsBehind 4 none 2 := ⟨xin (i := 504) (by decide +kernel) rfl, xin (i := 3) (by decide +kernel) rfl, ⟨by decide +kernel, by decide +kernel⟩, by decide +kernel, fun _ => ⟨xin (i := 503) (by decide +kernel) rfl, xinP (i := 20) (by decide +kernel) rfl⟩, fun h => absurd h (by decide), fun h => absurd h (by decide)⟩
theorem v_Ru_deleteRows : xY 0 y_Ru_deleteRows b_Ru_deleteRows 3 none 1 := ⟨xin (i := 508) (by decide +kernel) rfl, xin (i := 4) (by decide +kernel) rfl, ⟨by decide +kernel, by decide +kernel⟩, by decide +kernel, fun _ => ⟨xin (i := 507) (by decide +kernel) rfl, xinP (i := 21) (by decide +kernel) rfl⟩, fun h => absurd h (by decide), fun h => absurd h (by decide)⟩
theorem v_Ta_read : xY 0 y_Ta_read b_Ta_read 5 none 4 := ⟨xin (i := 513) (by decide +kernel) rfl, xin (i := 3) (by decide +kernel) rfl, ⟨by decide +kernel, by decide +kernel⟩, by decide +kernel, fun _ => ⟨xin (i := 511) (by decide +kernel) rfl, xin (i := 512) (by decide +kernel) rfl⟩, fun h => absurd h (by decide), fun h => absurd h (by decide)⟩
theorem v_St_holds : xY 0 y_St_holds b_St_holds 3 (some .boolean) 1 := ⟨xin (i := 517) (by decide +kernel) rfl, xin (i := 12) (by decide +kernel) rfl, ⟨by decide +kernel, by decide +kernel⟩, by decide +kernel, fun _ => ⟨xin (i := 515) (by decide +kernel) rfl, xin (i := 516) (by decide +kernel) rfl⟩, fun h => absurd h (by decide), fun h => absurd h (by decide)⟩
theorem v_Cn_holds : xY 0 y_Cn_holds b_Cn_holds 4 (some .boolean) 1 := ⟨xin (i := 521) (by decide +kernel) rfl, xin (i := 14) (by decide +kernel) rfl, ⟨by decide +kernel, by decide +kernel⟩, by decide +kernel, fun _ => ⟨xin (i := 519) (by decide +kernel) rfl, xin (i := 520) (by decide +kernel) rfl⟩, fun h => absurd h (by decide), fun h => absurd h (by decide)⟩
theorem v_Op_value : xY 0 y_Op_value b_Op_value 2 (some .int) 1 := ⟨xin (i := 525) (by decide +kernel) rfl, xin (i := 13) (by decide +kernel) rfl, ⟨by decide +kernel, by decide +kernel⟩, by decide +kernel, fun _ => ⟨xin (i := 523) (by decide +kernel) rfl, xin (i := 524) (by decide +kernel) rfl⟩, fun h => absurd h (by decide), fun h => absurd h (by decide)⟩
theorem v_Ta_remove : xY 0 y_Ta_remove b_Ta_remove 4 none 2 := ⟨xin (i := 529) (by decide +kernel) rfl, xin (i := 3) (by decide +kernel) rfl, ⟨by decide +kernel, by decide +kernel⟩, by decide +kernel, fun _ => ⟨xin (i := 527) (by decide +kernel) rfl, xin (i := 528) (by decide +kernel) rfl⟩, fun h => absurd h (by decide), fun h => absurd h (by decide)⟩
theorem v_St_hasTotal : xY 0 y_St_hasTotal b_St_hasTotal 1 (some .boolean) 0 := ⟨xin (i := 533) (by decide +kernel) rfl, xin (i := 12) (by decide +kernel) rfl, ⟨by decide +kernel, by decide +kernel⟩, by decide +kernel, fun _ => ⟨xin (i := 531) (by decide +kernel) rfl, xin (i := 532) (by decide +kernel) rfl⟩, fun h => absurd h (by decide), fun h => absurd h (by decide)⟩
theorem v_Ru_giveTotal : xY 0 y_Ru_giveTotal b_Ru_giveTotal 3 (some .int) 1 := ⟨xin (i := 537) (by decide +kernel) rfl, xin (i := 4) (by decide +kernel) rfl, ⟨by decide +kernel, by decide +kernel⟩, by decide +kernel, fun _ => ⟨xin (i := 536) (by decide +kernel) rfl, xinP (i := 22) (by decide +kernel) rfl⟩, fun h => absurd h (by decide), fun h => absurd h (by decide)⟩
theorem v_Ru_findRow : xY 0 y_Ru_findRow b_Ru_findRow 4 (some .boolean) 1 := ⟨xin (i := 542) (by decide +kernel) rfl, xin (i := 4) (by decide +kernel) rfl, ⟨by decide +kernel, by decide +kernel⟩, by decide +kernel, fun _ => ⟨xin (i := 541) (by decide +kernel) rfl, xinP (i := 23) (by decide +kernel) rfl⟩, fun h => absurd h (by decide), fun h => absurd h (by decide)⟩
theorem v_Ru_place : xY 0 y_Ru_place b_Ru_place 3 (some .int) 2 := ⟨xin (i := 546) (by decide +kernel) rfl, xin (i := 4) (by decide +kernel) rfl, ⟨by decide +kernel, by decide +kernel⟩, by decide +kernel, fun _ => ⟨xin (i := 545) (by decide +kernel) rfl, xinP (i := 24) (by decide +kernel) rfl⟩, fun h => absurd h (by decide), fun h => absurd h (by decide)⟩
theorem v_Ru_giveRow : xY 0 y_Ru_giveRow b_Ru_giveRow 2 (some .int) 1 := ⟨xin (i := 551) (by decide +kernel) rfl, xin (i := 4) (by decide +kernel) rfl, ⟨by decide +kernel, by decide +kernel⟩, by decide +kernel, fun _ => ⟨xin (i := 550) (by decide +kernel) rfl, xinP (i := 25) (by decide +kernel) rfl⟩, fun h => absurd h (by decide), fun h => absurd h (by decide)⟩
theorem v_Ru_note : xY 0 y_Ru_note b_Ru_note 2 none 1 := ⟨xin (i := 555) (by decide +kernel) rfl, xin (i := 4) (by decide +kernel) rfl, ⟨by decide +kernel, by decide +kernel⟩, by decide +kernel, fun _ => ⟨xin (i := 554) (by decide +kernel) rfl, xinP (i := 26) (by decide +kernel) rfl⟩, fun h => absurd h (by decide), fun h => absurd h (by decide)⟩
theorem v_CB_reset : xY 0 y_CB_reset b_CB_reset 2 (some .int) 0 := ⟨xin (i := 562) (by decide +kernel) rfl, xin (i := 1) (by decide +kernel) rfl, ⟨by decide +kernel, by decide +kernel⟩, by decide +kernel, fun _ => ⟨xin (i := 560) (by decide +kernel) rfl, xin (i := 561) (by decide +kernel) rfl⟩, fun h => absurd h (by decide), fun h => absurd h (by decide)⟩
theorem v_CB_width : xY 0 y_CB_width b_CB_width 1 (some .int) 0 := ⟨xin (i := 569) (by decide +kernel) rfl, xin (i := 1) (by decide +kernel) rfl, ⟨by decide +kernel, by decide +kernel⟩, by decide +kernel, fun _ => ⟨xin (i := 567) (by decide +kernel) rfl, xin (i := 568) (by decide +kernel) rfl⟩, fun h => absurd h (by decide), fun h => absurd h (by decide)⟩
theorem v_St_columnCount : xY 0 y_St_columnCount b_St_columnCount 1 (some .int) 0 := ⟨xin (i := 573) (by decide +kernel) rfl, xin (i := 12) (by decide +kernel) rfl, ⟨by decide +kernel, by decide +kernel⟩, by decide +kernel, fun _ => ⟨xin (i := 571) (by decide +kernel) rfl, xin (i := 572) (by decide +kernel) rfl⟩, fun h => absurd h (by decide), fun h => absurd h (by decide)⟩
theorem v_CB_column : xY 0 y_CB_column b_CB_column 2 (some .long) 1 := ⟨xin (i := 582) (by decide +kernel) rfl, xin (i := 1) (by decide +kernel) rfl, ⟨by decide +kernel, by decide +kernel⟩, by decide +kernel, fun _ => ⟨xin (i := 580) (by decide +kernel) rfl, xin (i := 581) (by decide +kernel) rfl⟩, fun h => absurd h (by decide), fun h => absurd h (by decide)⟩
theorem v_Ru_valueAt : xY 0 y_Ru_valueAt b_Ru_valueAt 2 (some .long) 1 := ⟨xin (i := 603) (by decide +kernel) rfl, xin (i := 4) (by decide +kernel) rfl, ⟨by decide +kernel, by decide +kernel⟩, by decide +kernel, fun _ => ⟨xin (i := 601) (by decide +kernel) rfl, xin (i := 602) (by decide +kernel) rfl⟩, fun h => absurd h (by decide), fun h => absurd h (by decide)⟩
theorem v_CB_rows : xY 0 y_CB_rows b_CB_rows 2 (some .int) 1 := ⟨xin (i := 610) (by decide +kernel) rfl, xin (i := 1) (by decide +kernel) rfl, ⟨by decide +kernel, by decide +kernel⟩, by decide +kernel, fun _ => ⟨xin (i := 608) (by decide +kernel) rfl, xin (i := 609) (by decide +kernel) rfl⟩, fun h => absurd h (by decide), fun h => absurd h (by decide)⟩
theorem v_CB_nearest : xY 0 y_CB_nearest b_CB_nearest 5 (some .int) 3 := ⟨xin (i := 620) (by decide +kernel) rfl, xin (i := 1) (by decide +kernel) rfl, ⟨by decide +kernel, by decide +kernel⟩, by decide +kernel, fun _ => ⟨xin (i := 618) (by decide +kernel) rfl, xin (i := 619) (by decide +kernel) rfl⟩, fun h => absurd h (by decide), fun h => absurd h (by decide)⟩
theorem v_Ta_placeNearest : xY 0 y_Ta_placeNearest b_Ta_placeNearest 5 (some .int) 3 := ⟨xin (i := 625) (by decide +kernel) rfl, xin (i := 3) (by decide +kernel) rfl, ⟨by decide +kernel, by decide +kernel⟩, by decide +kernel, fun _ => ⟨xin (i := 623) (by decide +kernel) rfl, xin (i := 624) (by decide +kernel) rfl⟩, fun h => absurd h (by decide), fun h => absurd h (by decide)⟩
theorem v_Mo_init : xY 1 y_Mo_init b_Mo_init 1 none 0 := ⟨xin (i := 632) (by decide +kernel) rfl, xin (i := 5) (by decide +kernel) rfl, ⟨by decide +kernel, by decide +kernel⟩, by decide +kernel, fun h => absurd h (by decide), fun _ => ⟨xin (i := 631) (by decide +kernel) rfl, rfl, rfl⟩, fun h => absurd h (by decide)⟩
theorem v_Mo_thrown : xY 0 y_Mo_thrown b_Mo_thrown 1 (some .int) 0 := ⟨xin (i := 725) (by decide +kernel) rfl, xin (i := 5) (by decide +kernel) rfl, ⟨by decide +kernel, by decide +kernel⟩, by decide +kernel, fun _ => ⟨xin (i := 723) (by decide +kernel) rfl, xin (i := 724) (by decide +kernel) rfl⟩, fun h => absurd h (by decide), fun h => absurd h (by decide)⟩
theorem v_Mo_feed : xY 0 y_Mo_feed b_Mo_feed 4 (some .int) 2 := ⟨xin (i := 729) (by decide +kernel) rfl, xin (i := 5) (by decide +kernel) rfl, ⟨by decide +kernel, by decide +kernel⟩, by decide +kernel, fun _ => ⟨xin (i := 727) (by decide +kernel) rfl, xin (i := 728) (by decide +kernel) rfl⟩, fun h => absurd h (by decide), fun h => absurd h (by decide)⟩
theorem v_Mo_in : xY 2 y_Mo_in b_Mo_in 6 (some .boolean) 3 := ⟨xin (i := 733) (by decide +kernel) rfl, xin (i := 5) (by decide +kernel) rfl, ⟨by decide +kernel, by decide +kernel⟩, by decide +kernel, fun h => absurd h (by decide), fun h => absurd h (by decide), fun _ => xin (i := 732) (by decide +kernel) rfl⟩
theorem v_Mo_prepare : xY 0 y_Mo_prepare b_Mo_prepare 3 (some .int) 0 := ⟨xin (i := 741) (by decide +kernel) rfl, xin (i := 5) (by decide +kernel) rfl, ⟨by decide +kernel, by decide +kernel⟩, by decide +kernel, fun _ => ⟨xin (i := 739) (by decide +kernel) rfl, xin (i := 740) (by decide +kernel) rfl⟩, fun h => absurd h (by decide), fun h => absurd h (by decide)⟩
theorem v_Mo_wrong : xY 0 y_Mo_wrong b_Mo_wrong 2 (some .int) 0 := ⟨xin (i := 745) (by decide +kernel) rfl, xin (i := 5) (by decide +kernel) rfl, ⟨by decide +kernel, by decide +kernel⟩, by decide +kernel, fun _ => ⟨xin (i := 744) (by decide +kernel) rfl, xinP (i := 27) (by decide +kernel) rfl⟩, fun h => absurd h (by decide), fun h => absurd h (by decide)⟩
theorem v_Mo_reads : xY 0 y_Mo_reads b_Mo_reads 2 (some .boolean) 0 := ⟨xin (i := 749) (by decide +kernel) rfl, xin (i := 5) (by decide +kernel) rfl, ⟨by decide +kernel, by decide +kernel⟩, by decide +kernel, fun _ => ⟨xin (i := 748) (by decide +kernel) rfl, xinP (i := 28) (by decide +kernel) rfl⟩, fun h => absurd h (by decide), fun h => absurd h (by decide)⟩
theorem v_Mo_readsSelect : xY 0 y_Mo_readsSelect b_Mo_readsSelect 1 (some .boolean) 0 := ⟨xin (i := 753) (by decide +kernel) rfl, xin (i := 5) (by decide +kernel) rfl, ⟨by decide +kernel, by decide +kernel⟩, by decide +kernel, fun _ => ⟨xin (i := 752) (by decide +kernel) rfl, xinP (i := 29) (by decide +kernel) rfl⟩, fun h => absurd h (by decide), fun h => absurd h (by decide)⟩
theorem v_Mo_readsList : xY 0 y_Mo_readsList b_Mo_readsList 3 (some .boolean) 0 := ⟨xin (i := 757) (by decide +kernel) rfl, xin (i := 5) (by decide +kernel) rfl, ⟨by decide +kernel, by decide +kernel⟩, by decide +kernel, fun _ => ⟨xin (i := 756) (by decide +kernel) rfl, xinP (i := 30) (by decide +kernel) rfl⟩, fun h => absurd h (by decide), fun h => absurd h (by decide)⟩
theorem v_Mo_skips : xY 0 y_Mo_skips b_Mo_skips 2 (some .boolean) 1 := ⟨xin (i := 761) (by decide +kernel) rfl, xin (i := 5) (by decide +kernel) rfl, ⟨by decide +kernel, by decide +kernel⟩, by decide +kernel, fun _ => ⟨xin (i := 760) (by decide +kernel) rfl, xinP (i := 31) (by decide +kernel) rfl⟩, fun h => absurd h (by decide), fun h => absurd h (by decide)⟩
theorem v_Mo_isWord : xY 0 y_Mo_isWord b_Mo_isWord 2 (some .boolean) 1 := ⟨xin (i := 765) (by decide +kernel) rfl, xin (i := 5) (by decide +kernel) rfl, ⟨by decide +kernel, by decide +kernel⟩, by decide +kernel, fun _ => ⟨xin (i := 764) (by decide +kernel) rfl, xinP (i := 32) (by decide +kernel) rfl⟩, fun h => absurd h (by decide), fun h => absurd h (by decide)⟩
theorem v_Mo_isKind : xY 0 y_Mo_isKind b_Mo_isKind 2 (some .boolean) 1 := ⟨xin (i := 769) (by decide +kernel) rfl, xin (i := 5) (by decide +kernel) rfl, ⟨by decide +kernel, by decide +kernel⟩, by decide +kernel, fun _ => ⟨xin (i := 768) (by decide +kernel) rfl, xinP (i := 33) (by decide +kernel) rfl⟩, fun h => absurd h (by decide), fun h => absurd h (by decide)⟩
theorem v_Mo_readsTable : xY 0 y_Mo_readsTable b_Mo_readsTable 1 (some .int) 0 := ⟨xin (i := 773) (by decide +kernel) rfl, xin (i := 5) (by decide +kernel) rfl, ⟨by decide +kernel, by decide +kernel⟩, by decide +kernel, fun _ => ⟨xin (i := 772) (by decide +kernel) rfl, xinP (i := 34) (by decide +kernel) rfl⟩, fun h => absurd h (by decide), fun h => absurd h (by decide)⟩
theorem v_Mo_readsConditions : xY 0 y_Mo_readsConditions b_Mo_readsConditions 2 (some .boolean) 0 := ⟨xin (i := 777) (by decide +kernel) rfl, xin (i := 5) (by decide +kernel) rfl, ⟨by decide +kernel, by decide +kernel⟩, by decide +kernel, fun _ => ⟨xin (i := 776) (by decide +kernel) rfl, xinP (i := 35) (by decide +kernel) rfl⟩, fun h => absurd h (by decide), fun h => absurd h (by decide)⟩
theorem v_Mo_readsOperand : xY 0 y_Mo_readsOperand b_Mo_readsOperand 1 (some .boolean) 0 := ⟨xin (i := 781) (by decide +kernel) rfl, xin (i := 5) (by decide +kernel) rfl, ⟨by decide +kernel, by decide +kernel⟩, by decide +kernel, fun _ => ⟨xin (i := 780) (by decide +kernel) rfl, xinP (i := 36) (by decide +kernel) rfl⟩, fun h => absurd h (by decide), fun h => absurd h (by decide)⟩
theorem v_Mo_isThere : xY 0 y_Mo_isThere b_Mo_isThere 2 (some .boolean) 1 := ⟨xin (i := 785) (by decide +kernel) rfl, xin (i := 5) (by decide +kernel) rfl, ⟨by decide +kernel, by decide +kernel⟩, by decide +kernel, fun _ => ⟨xin (i := 784) (by decide +kernel) rfl, xinP (i := 37) (by decide +kernel) rfl⟩, fun h => absurd h (by decide), fun h => absurd h (by decide)⟩
theorem v_Mo_haveColumns : xY 0 y_Mo_haveColumns b_Mo_haveColumns 5 (some .boolean) 0 := ⟨xin (i := 790) (by decide +kernel) rfl, xin (i := 5) (by decide +kernel) rfl, ⟨by decide +kernel, by decide +kernel⟩, by decide +kernel, fun _ => ⟨xin (i := 789) (by decide +kernel) rfl, xinP (i := 38) (by decide +kernel) rfl⟩, fun h => absurd h (by decide), fun h => absurd h (by decide)⟩
theorem v_Mo_begins : xY 0 y_Mo_begins b_Mo_begins 1 none 0 := ⟨xin (i := 794) (by decide +kernel) rfl, xin (i := 5) (by decide +kernel) rfl, ⟨by decide +kernel, by decide +kernel⟩, by decide +kernel, fun _ => ⟨xin (i := 793) (by decide +kernel) rfl, xinP (i := 39) (by decide +kernel) rfl⟩, fun h => absurd h (by decide), fun h => absurd h (by decide)⟩
theorem v_Mo_step : xY 0 y_Mo_step b_Mo_step 1 (some .int) 0 := ⟨xin (i := 798) (by decide +kernel) rfl, xin (i := 5) (by decide +kernel) rfl, ⟨by decide +kernel, by decide +kernel⟩, by decide +kernel, fun _ => ⟨xin (i := 796) (by decide +kernel) rfl, xin (i := 797) (by decide +kernel) rfl⟩, fun h => absurd h (by decide), fun h => absurd h (by decide)⟩
theorem v_Mo_selects : xY 0 y_Mo_selects b_Mo_selects 2 (some .int) 0 := ⟨xin (i := 802) (by decide +kernel) rfl, xin (i := 5) (by decide +kernel) rfl, ⟨by decide +kernel, by decide +kernel⟩, by decide +kernel, fun _ => ⟨xin (i := 801) (by decide +kernel) rfl, xinP (i := 40) (by decide +kernel) rfl⟩, fun h => absurd h (by decide), fun h => absurd h (by decide)⟩
theorem v_Mo_isFold : xY 0 y_Mo_isFold b_Mo_isFold 1 (some .boolean) 0 := ⟨xin (i := 806) (by decide +kernel) rfl, xin (i := 5) (by decide +kernel) rfl, ⟨by decide +kernel, by decide +kernel⟩, by decide +kernel, fun _ => ⟨xin (i := 805) (by decide +kernel) rfl, xinP (i := 41) (by decide +kernel) rfl⟩, fun h => absurd h (by decide), fun h => absurd h (by decide)⟩
theorem v_Mo_folds : xY 0 y_Mo_folds b_Mo_folds 4 none 0 := ⟨xin (i := 810) (by decide +kernel) rfl, xin (i := 5) (by decide +kernel) rfl, ⟨by decide +kernel, by decide +kernel⟩, by decide +kernel, fun _ => ⟨xin (i := 809) (by decide +kernel) rfl, xinP (i := 42) (by decide +kernel) rfl⟩, fun h => absurd h (by decide), fun h => absurd h (by decide)⟩
theorem v_Mo_holds : xY 0 y_Mo_holds b_Mo_holds 8 (some .boolean) 2 := ⟨xin (i := 814) (by decide +kernel) rfl, xin (i := 5) (by decide +kernel) rfl, ⟨by decide +kernel, by decide +kernel⟩, by decide +kernel, fun _ => ⟨xin (i := 813) (by decide +kernel) rfl, xinP (i := 43) (by decide +kernel) rfl⟩, fun h => absurd h (by decide), fun h => absurd h (by decide)⟩
theorem v_Mo_value : xY 0 y_Mo_value b_Mo_value 5 (some .int) 3 := ⟨xin (i := 818) (by decide +kernel) rfl, xin (i := 5) (by decide +kernel) rfl, ⟨by decide +kernel, by decide +kernel⟩, by decide +kernel, fun _ => ⟨xin (i := 817) (by decide +kernel) rfl, xinP (i := 44) (by decide +kernel) rfl⟩, fun h => absurd h (by decide), fun h => absurd h (by decide)⟩
theorem v_Mo_cell : xY 0 y_Mo_cell b_Mo_cell 3 (some .int) 2 := ⟨xin (i := 822) (by decide +kernel) rfl, xin (i := 5) (by decide +kernel) rfl, ⟨by decide +kernel, by decide +kernel⟩, by decide +kernel, fun _ => ⟨xin (i := 821) (by decide +kernel) rfl, xinP (i := 45) (by decide +kernel) rfl⟩, fun h => absurd h (by decide), fun h => absurd h (by decide)⟩
theorem v_Mo_moves : xY 0 y_Mo_moves b_Mo_moves 1 (some .boolean) 0 := ⟨xin (i := 826) (by decide +kernel) rfl, xin (i := 5) (by decide +kernel) rfl, ⟨by decide +kernel, by decide +kernel⟩, by decide +kernel, fun _ => ⟨xin (i := 825) (by decide +kernel) rfl, xinP (i := 46) (by decide +kernel) rfl⟩, fun h => absurd h (by decide), fun h => absurd h (by decide)⟩
theorem v_Mo_behind : xY 0 y_Mo_behind b_Mo_behind 6 (some .int) 2 := ⟨xin (i := 830) (by decide +kernel) rfl, xin (i := 5) (by decide +kernel) rfl, ⟨by decide +kernel, by decide +kernel⟩, by decide +kernel, fun _ => ⟨xin (i := 829) (by decide +kernel) rfl, xinP (i := 47) (by decide +kernel) rfl⟩, fun h => absurd h (by decide), fun h => absurd h (by decide)⟩
theorem v_Mo_creates : xY 0 y_Mo_creates b_Mo_creates 1 (some .int) 0 := ⟨xin (i := 834) (by decide +kernel) rfl, xin (i := 5) (by decide +kernel) rfl, ⟨by decide +kernel, by decide +kernel⟩, by decide +kernel, fun _ => ⟨xin (i := 833) (by decide +kernel) rfl, xinP (i := 48) (by decide +kernel) rfl⟩, fun h => absurd h (by decide), fun h => absurd h (by decide)⟩
theorem v_Mo_inserts : xY 0 y_Mo_inserts b_Mo_inserts 2 (some .int) 0 := ⟨xin (i := 838) (by decide +kernel) rfl, xin (i := 5) (by decide +kernel) rfl, ⟨by decide +kernel, by decide +kernel⟩, by decide +kernel, fun _ => ⟨xin (i := 837) (by decide +kernel) rfl, xinP (i := 49) (by decide +kernel) rfl⟩, fun h => absurd h (by decide), fun h => absurd h (by decide)⟩
theorem v_Mo_findKey : xY 0 y_Mo_findKey b_Mo_findKey 5 (some .int) 2 := ⟨xin (i := 842) (by decide +kernel) rfl, xin (i := 5) (by decide +kernel) rfl, ⟨by decide +kernel, by decide +kernel⟩, by decide +kernel, fun _ => ⟨xin (i := 841) (by decide +kernel) rfl, xinP (i := 50) (by decide +kernel) rfl⟩, fun h => absurd h (by decide), fun h => absurd h (by decide)⟩
theorem v_Mo_deletes : xY 0 y_Mo_deletes b_Mo_deletes 4 (some .int) 0 := ⟨xin (i := 846) (by decide +kernel) rfl, xin (i := 5) (by decide +kernel) rfl, ⟨by decide +kernel, by decide +kernel⟩, by decide +kernel, fun _ => ⟨xin (i := 845) (by decide +kernel) rfl, xinP (i := 51) (by decide +kernel) rfl⟩, fun h => absurd h (by decide), fun h => absurd h (by decide)⟩
theorem v_Mo_reset : xY 0 y_Mo_reset b_Mo_reset 2 (some .int) 0 := ⟨xin (i := 850) (by decide +kernel) rfl, xin (i := 5) (by decide +kernel) rfl, ⟨by decide +kernel, by decide +kernel⟩, by decide +kernel, fun _ => ⟨xin (i := 848) (by decide +kernel) rfl, xin (i := 849) (by decide +kernel) rfl⟩, fun h => absurd h (by decide), fun h => absurd h (by decide)⟩
theorem v_Mo_width : xY 0 y_Mo_width b_Mo_width 1 (some .int) 0 := ⟨xin (i := 854) (by decide +kernel) rfl, xin (i := 5) (by decide +kernel) rfl, ⟨by decide +kernel, by decide +kernel⟩, by decide +kernel, fun _ => ⟨xin (i := 852) (by decide +kernel) rfl, xin (i := 853) (by decide +kernel) rfl⟩, fun h => absurd h (by decide), fun h => absurd h (by decide)⟩
theorem v_Mo_wide : xY 0 y_Mo_wide b_Mo_wide 1 (some .int) 0 := ⟨xin (i := 858) (by decide +kernel) rfl, xin (i := 5) (by decide +kernel) rfl, ⟨by decide +kernel, by decide +kernel⟩, by decide +kernel, fun _ => ⟨xin (i := 857) (by decide +kernel) rfl, xinP (i := 52) (by decide +kernel) rfl⟩, fun h => absurd h (by decide), fun h => absurd h (by decide)⟩
theorem v_Mo_listed : xY 0 y_Mo_listed b_Mo_listed 2 (some .int) 0 := ⟨xin (i := 862) (by decide +kernel) rfl, xin (i := 5) (by decide +kernel) rfl, ⟨by decide +kernel, by decide +kernel⟩, by decide +kernel, fun _ => ⟨xin (i := 861) (by decide +kernel) rfl, xinP (i := 53) (by decide +kernel) rfl⟩, fun h => absurd h (by decide), fun h => absurd h (by decide)⟩
theorem v_Mo_column : xY 0 y_Mo_column b_Mo_column 3 (some .long) 1 := ⟨xin (i := 866) (by decide +kernel) rfl, xin (i := 5) (by decide +kernel) rfl, ⟨by decide +kernel, by decide +kernel⟩, by decide +kernel, fun _ => ⟨xin (i := 864) (by decide +kernel) rfl, xin (i := 865) (by decide +kernel) rfl⟩, fun h => absurd h (by decide), fun h => absurd h (by decide)⟩
theorem v_Mo_rows : xY 0 y_Mo_rows b_Mo_rows 4 (some .int) 1 := ⟨xin (i := 870) (by decide +kernel) rfl, xin (i := 5) (by decide +kernel) rfl, ⟨by decide +kernel, by decide +kernel⟩, by decide +kernel, fun _ => ⟨xin (i := 868) (by decide +kernel) rfl, xin (i := 869) (by decide +kernel) rfl⟩, fun h => absurd h (by decide), fun h => absurd h (by decide)⟩
theorem v_Mo_all : xY 0 y_Mo_all b_Mo_all 1 (some .int) 0 := ⟨xin (i := 874) (by decide +kernel) rfl, xin (i := 5) (by decide +kernel) rfl, ⟨by decide +kernel, by decide +kernel⟩, by decide +kernel, fun _ => ⟨xin (i := 872) (by decide +kernel) rfl, xin (i := 873) (by decide +kernel) rfl⟩, fun h => absurd h (by decide), fun h => absurd h (by decide)⟩
theorem v_Mo_nearest : xY 0 y_Mo_nearest b_Mo_nearest 8 (some .int) 3 := ⟨xin (i := 878) (by decide +kernel) rfl, xin (i := 5) (by decide +kernel) rfl, ⟨by decide +kernel, by decide +kernel⟩, by decide +kernel, fun _ => ⟨xin (i := 876) (by decide +kernel) rfl, xin (i := 877) (by decide +kernel) rfl⟩, fun h => absurd h (by decide), fun h => absurd h (by decide)⟩
theorem v_Mo_clear : xY 0 y_Mo_clear b_Mo_clear 2 none 0 := ⟨xin (i := 882) (by decide +kernel) rfl, xin (i := 5) (by decide +kernel) rfl, ⟨by decide +kernel, by decide +kernel⟩, by decide +kernel, fun _ => ⟨xin (i := 880) (by decide +kernel) rfl, xin (i := 881) (by decide +kernel) rfl⟩, fun h => absurd h (by decide), fun h => absurd h (by decide)⟩
theorem l_La_41 : xLk R_La 41 y_CB_init := Or.inl (xin (i := 19) (by decide +kernel) rfl)
theorem l_CB_1 : Cond.methodLink R_CB 1 objectInit ∈ xT := xin (i := 22) (by decide +kernel) rfl
theorem l_CB_9 : xLk R_CB 9 y_To_init := Or.inr ⟨"CursorBase", xinN (i := 27) (by decide +kernel) rfl⟩
theorem l_To_3 : Cond.methodLink R_To 3 objectInit ∈ xT := xin (i := 30) (by decide +kernel) rfl
theorem l_CB_18 : xLk R_CB 18 y_Ta_init := Or.inr ⟨"CursorBase", xinN (i := 48) (by decide +kernel) rfl⟩
theorem l_Ta_3 : Cond.methodLink R_Ta 3 objectInit ∈ xT := xin (i := 51) (by decide +kernel) rfl
theorem l_CB_25 : xLk R_CB 25 y_Ru_init := Or.inr ⟨"CursorBase", xinN (i := 64) (by decide +kernel) rfl⟩
theorem l_Ru_3 : Cond.methodLink R_Ru 3 objectInit ∈ xT := xin (i := 67) (by decide +kernel) rfl
theorem l_La_54 : xLk R_La 54 y_CB_prepare := Or.inl (xin (i := 106) (by decide +kernel) rfl)
theorem l_CB_60 : xLk R_CB 60 y_Pa_init := Or.inl (xin (i := 112) (by decide +kernel) rfl)
theorem l_Pa_3 : Cond.methodLink R_Pa 3 objectInit ∈ xT := xin (i := 115) (by decide +kernel) rfl
theorem l_Pa_11 : xLk R_Pa 11 y_St_init := Or.inr ⟨"CursorBase", xinN (i := 118) (by decide +kernel) rfl⟩
theorem l_St_3 : Cond.methodLink R_St 3 objectInit ∈ xT := xin (i := 121) (by decide +kernel) rfl
theorem l_CB_63 : xLk R_CB 63 y_Pa_parse := Or.inl (xin (i := 183) (by decide +kernel) rfl)
theorem l_Pa_22 : xLk R_Pa 22 y_Pa_takeWordBetween := Or.inl (xin (i := 187) (by decide +kernel) rfl)
theorem l_Pa_75 : xLk R_Pa 75 y_To_isKind := Or.inl (xin (i := 191) (by decide +kernel) rfl)
theorem l_Pa_30 : xLk R_Pa 30 y_Pa_takeFirstTable := Or.inl (xin (i := 195) (by decide +kernel) rfl)
theorem l_Pa_64 : xLk R_Pa 64 y_Pa_takeTable := Or.inl (xin (i := 199) (by decide +kernel) rfl)
theorem l_Pa_34 : xLk R_Pa 34 y_Pa_takeNumber := Or.inl (xin (i := 203) (by decide +kernel) rfl)
theorem l_Pa_86 : xLk R_Pa 86 y_St_addNumber := Or.inl (xin (i := 207) (by decide +kernel) rfl)
theorem l_Pa_37 : xLk R_Pa 37 y_Pa_takeNumbers := Or.inl (xin (i := 211) (by decide +kernel) rfl)
theorem l_Pa_40 : xLk R_Pa 40 y_Pa_takeConditions := Or.inl (xin (i := 215) (by decide +kernel) rfl)
theorem l_Pa_60 : xLk R_Pa 60 y_Pa_takeWord := Or.inl (xin (i := 219) (by decide +kernel) rfl)
theorem l_Pa_105 : xLk R_Pa 105 y_Pa_takeCondition := Or.inl (xin (i := 223) (by decide +kernel) rfl)
theorem l_Pa_113 : xLk R_Pa 113 y_Pa_takeOperand := Or.inl (xin (i := 227) (by decide +kernel) rfl)
theorem l_Pa_127 : xLk R_Pa 127 y_Op_init := Or.inl (xin (i := 233) (by decide +kernel) rfl)
theorem l_Op_3 : Cond.methodLink R_Op 3 objectInit ∈ xT := xin (i := 236) (by decide +kernel) rfl
theorem l_Pa_119 : xLk R_Pa 119 y_Cn_init := Or.inl (xin (i := 246) (by decide +kernel) rfl)
theorem l_Cn_3 : Cond.methodLink R_Cn 3 objectInit ∈ xT := xin (i := 249) (by decide +kernel) rfl
theorem l_Pa_109 : xLk R_Pa 109 y_St_addCondition := Or.inl (xin (i := 260) (by decide +kernel) rfl)
theorem l_Pa_43 : xLk R_Pa 43 y_Pa_takeList := Or.inl (xin (i := 264) (by decide +kernel) rfl)
theorem l_Pa_96 : xLk R_Pa 96 y_Pa_takeColumns := Or.inl (xin (i := 268) (by decide +kernel) rfl)
theorem l_Pa_99 : xLk R_Pa 99 y_St_addPick := Or.inl (xin (i := 272) (by decide +kernel) rfl)
theorem l_St_43 : xLk R_St 43 y_Op_init := Or.inl (xin (i := 276) (by decide +kernel) rfl)
theorem l_Pa_46 : xLk R_Pa 46 y_Pa_takeFrom := Or.inl (xin (i := 277) (by decide +kernel) rfl)
theorem l_Pa_49 : xLk R_Pa 49 y_Pa_takeOrder := Or.inl (xin (i := 281) (by decide +kernel) rfl)
theorem l_CB_67 : xLk R_CB 67 y_To_drop := Or.inl (xin (i := 285) (by decide +kernel) rfl)
theorem l_CB_70 : xLk R_CB 70 y_St_fault := Or.inl (xin (i := 289) (by decide +kernel) rfl)
theorem l_St_52 : xLk R_St 52 y_St_faultOfCreate := Or.inl (xin (i := 293) (by decide +kernel) rfl)
theorem l_St_56 : xLk R_St 56 y_Ta_isThere := Or.inl (xin (i := 297) (by decide +kernel) rfl)
theorem l_Ta_21 : xLk R_Ta 21 y_Ta_columnsOf := Or.inl (xin (i := 301) (by decide +kernel) rfl)
theorem l_St_62 : xLk R_St 62 y_Ta_columnsOf := Or.inl (xin (i := 305) (by decide +kernel) rfl)
theorem l_St_66 : xLk R_St 66 y_St_columnsAreThere := Or.inl (xin (i := 306) (by decide +kernel) rfl)
theorem l_St_70 : xLk R_St 70 y_Op_isThere := Or.inl (xin (i := 310) (by decide +kernel) rfl)
theorem l_St_72 : xLk R_St 72 y_Cn_isThere := Or.inl (xin (i := 314) (by decide +kernel) rfl)
theorem l_Cn_22 : xLk R_Cn 22 y_Op_isThere := Or.inl (xin (i := 318) (by decide +kernel) rfl)
theorem l_CB_76 : xLk R_CB 76 y_St_spellOutAll := Or.inl (xin (i := 319) (by decide +kernel) rfl)
theorem l_St_73 : xLk R_St 73 y_St_addPicks := Or.inl (xin (i := 323) (by decide +kernel) rfl)
theorem l_St_76 : xLk R_St 76 y_St_addPick := Or.inl (xin (i := 327) (by decide +kernel) rfl)
theorem l_CB_80 : xLk R_CB 80 y_Ru_begin := Or.inl (xin (i := 328) (by decide +kernel) rfl)
theorem l_La_75 : xLk R_La 75 y_CB_all := Or.inl (xin (i := 332) (by decide +kernel) rfl)
theorem l_CB_125 : xLk R_CB 125 y_Ta_rowsInAll := Or.inl (xin (i := 336) (by decide +kernel) rfl)
theorem l_La_83 : xLk R_La 83 y_CB_clear := Or.inl (xin (i := 340) (by decide +kernel) rfl)
theorem l_CB_140 : xLk R_CB 140 y_Ta_drop := Or.inl (xin (i := 344) (by decide +kernel) rfl)
theorem l_La_45 : xLk R_La 45 y_La_feed := Or.inl (xin (i := 348) (by decide +kernel) rfl)
theorem l_La_7 : xLk R_La 7 y_CB_feed := Or.inl (xin (i := 353) (by decide +kernel) rfl)
theorem l_CB_30 : xLk R_CB 30 y_To_isToken := Or.inl (xin (i := 357) (by decide +kernel) rfl)
theorem l_To_18 : xLk R_To 18 y_To_isColumnFrom := Or.inl (xin (i := 360) (by decide +kernel) rfl)
theorem l_CB_41 : xLk R_CB 41 y_To_isFull := Or.inl (xin (i := 431) (by decide +kernel) rfl)
theorem l_CB_50 : xLk R_CB 50 y_To_put := Or.inl (xin (i := 451) (by decide +kernel) rfl)
theorem l_To_26 : xLk R_To 26 y_To_isFull := Or.inl (xin (i := 455) (by decide +kernel) rfl)
theorem l_La_58 : xLk R_La 58 y_La_step := Or.inl (xin (i := 456) (by decide +kernel) rfl)
theorem l_La_17 : xLk R_La 17 y_CB_step := Or.inl (xin (i := 459) (by decide +kernel) rfl)
theorem l_CB_90 : xLk R_CB 90 y_Ru_advance := Or.inl (xin (i := 464) (by decide +kernel) rfl)
theorem l_Ru_47 : xLk R_Ru 47 y_Ta_create := Or.inl (xin (i := 468) (by decide +kernel) rfl)
theorem l_Ta_48 : xLk R_Ta 48 y_Ta_isThere := Or.inl (xin (i := 472) (by decide +kernel) rfl)
theorem l_Ru_53 : xLk R_Ru 53 y_Ta_insert := Or.inl (xin (i := 473) (by decide +kernel) rfl)
theorem l_Ta_41 : xLk R_Ta 41 y_Ta_placeNotBelow := Or.inl (xin (i := 477) (by decide +kernel) rfl)
theorem l_Ta_35 : xLk R_Ta 35 y_Ta_rowsOf := Or.inl (xin (i := 481) (by decide +kernel) rfl)
theorem l_Ta_38 : xLk R_Ta 38 y_Ta_keyAt := Or.inl (xin (i := 485) (by decide +kernel) rfl)
theorem l_Ta_25 : xLk R_Ta 25 y_Ta_cellOf := Or.inl (xin (i := 489) (by decide +kernel) rfl)
theorem l_Ta_44 : xLk R_Ta 44 y_Ta_hasKeyAt := Or.inl (xin (i := 493) (by decide +kernel) rfl)
theorem l_Ta_52 : xLk R_Ta 52 y_Ta_rowsInAll := Or.inl (xin (i := 497) (by decide +kernel) rfl)
theorem l_Ta_29 : Cond.methodLink R_Ta 29 arraycopyName ∈ xT := xin (i := 498) (by decide +kernel) rfl
theorem l_Ta_56 : xLk R_Ta 56 y_Ta_moveStartsBehind := Or.inl (xin (i := 501) (by decide +kernel) rfl)
theorem l_Ru_57 : xLk R_Ru 57 y_Ru_deleteRows := Or.inl (xin (i := 505) (by decide +kernel) rfl)
theorem l_Ru_76 : xLk R_Ru 76 y_Ta_rowsOf := Or.inl (xin (i := 509) (by decide +kernel) rfl)
theorem l_Ru_80 : xLk R_Ru 80 y_Ta_read := Or.inl (xin (i := 510) (by decide +kernel) rfl)
theorem l_Ru_83 : xLk R_Ru 83 y_St_holds := Or.inl (xin (i := 514) (by decide +kernel) rfl)
theorem l_St_84 : xLk R_St 84 y_Cn_holds := Or.inl (xin (i := 518) (by decide +kernel) rfl)
theorem l_Cn_28 : xLk R_Cn 28 y_Op_value := Or.inl (xin (i := 522) (by decide +kernel) rfl)
theorem l_Ru_87 : xLk R_Ru 87 y_Ta_remove := Or.inl (xin (i := 526) (by decide +kernel) rfl)
theorem l_Ru_61 : xLk R_Ru 61 y_St_hasTotal := Or.inl (xin (i := 530) (by decide +kernel) rfl)
theorem l_Ru_65 : xLk R_Ru 65 y_Ru_giveTotal := Or.inl (xin (i := 534) (by decide +kernel) rfl)
theorem l_Ru_91 : xLk R_Ru 91 y_Ru_findRow := Or.inl (xin (i := 539) (by decide +kernel) rfl)
theorem l_Ru_116 : xLk R_Ru 116 y_Ru_place := Or.inl (xin (i := 543) (by decide +kernel) rfl)
theorem l_Ru_107 : xLk R_Ru 107 y_Op_value := Or.inl (xin (i := 547) (by decide +kernel) rfl)
theorem l_Ru_69 : xLk R_Ru 69 y_Ru_giveRow := Or.inl (xin (i := 548) (by decide +kernel) rfl)
theorem l_Ru_72 : xLk R_Ru 72 y_Ru_note := Or.inl (xin (i := 552) (by decide +kernel) rfl)
theorem l_La_62 : xLk R_La 62 y_La_reset := Or.inl (xin (i := 556) (by decide +kernel) rfl)
theorem l_La_21 : xLk R_La 21 y_CB_reset := Or.inl (xin (i := 559) (by decide +kernel) rfl)
theorem l_La_65 : xLk R_La 65 y_La_width := Or.inl (xin (i := 563) (by decide +kernel) rfl)
theorem l_La_24 : xLk R_La 24 y_CB_width := Or.inl (xin (i := 566) (by decide +kernel) rfl)
theorem l_CB_96 : xLk R_CB 96 y_St_columnCount := Or.inl (xin (i := 570) (by decide +kernel) rfl)
theorem l_St_80 : xLk R_St 80 y_St_hasTotal := Or.inl (xin (i := 574) (by decide +kernel) rfl)
theorem l_La_68 : xLk R_La 68 y_La_column := Or.inl (xin (i := 575) (by decide +kernel) rfl)
theorem l_La_27 : xLk R_La 27 y_CB_column := Or.inl (xin (i := 579) (by decide +kernel) rfl)
theorem l_CB_111 : xLk R_CB 111 y_Ru_valueAt := Or.inl (xin (i := 600) (by decide +kernel) rfl)
theorem l_La_72 : xLk R_La 72 y_La_rows := Or.inl (xin (i := 604) (by decide +kernel) rfl)
theorem l_La_33 : xLk R_La 33 y_CB_rows := Or.inl (xin (i := 607) (by decide +kernel) rfl)
theorem l_CB_117 : xLk R_CB 117 y_Ta_isThere := Or.inl (xin (i := 612) (by decide +kernel) rfl)
theorem l_CB_121 : xLk R_CB 121 y_Ta_rowsOf := Or.inl (xin (i := 613) (by decide +kernel) rfl)
theorem l_La_79 : xLk R_La 79 y_La_nearest := Or.inl (xin (i := 614) (by decide +kernel) rfl)
theorem l_La_37 : xLk R_La 37 y_CB_nearest := Or.inl (xin (i := 617) (by decide +kernel) rfl)
theorem l_CB_130 : xLk R_CB 130 y_Ta_placeNearest := Or.inl (xin (i := 622) (by decide +kernel) rfl)
theorem l_CB_136 : xLk R_CB 136 y_Ta_keyAt := Or.inl (xin (i := 627) (by decide +kernel) rfl)
theorem l_La_44 : xLk R_La 44 y_Mo_init := Or.inl (xin (i := 630) (by decide +kernel) rfl)
theorem l_Mo_1 : Cond.methodLink R_Mo 1 objectInit ∈ xT := xin (i := 633) (by decide +kernel) rfl
theorem l_La_51 : xLk R_La 51 y_Mo_thrown := Or.inl (xin (i := 722) (by decide +kernel) rfl)
theorem l_La_50 : xLk R_La 50 y_Mo_feed := Or.inl (xin (i := 726) (by decide +kernel) rfl)
theorem l_Mo_37 : xLk R_Mo 37 y_Mo_in := Or.inl (xin (i := 731) (by decide +kernel) rfl)
theorem l_La_57 : xLk R_La 57 y_Mo_prepare := Or.inl (xin (i := 738) (by decide +kernel) rfl)
theorem l_Mo_109 : xLk R_Mo 109 y_Mo_wrong := Or.inl (xin (i := 742) (by decide +kernel) rfl)
theorem l_Mo_98 : xLk R_Mo 98 y_Mo_reads := Or.inl (xin (i := 746) (by decide +kernel) rfl)
theorem l_Mo_95 : xLk R_Mo 95 y_Mo_readsSelect := Or.inl (xin (i := 750) (by decide +kernel) rfl)
theorem l_Mo_75 : xLk R_Mo 75 y_Mo_readsList := Or.inl (xin (i := 754) (by decide +kernel) rfl)
theorem l_Mo_68 : xLk R_Mo 68 y_Mo_skips := Or.inl (xin (i := 758) (by decide +kernel) rfl)
theorem l_Mo_59 : xLk R_Mo 59 y_Mo_isWord := Or.inl (xin (i := 762) (by decide +kernel) rfl)
theorem l_Mo_55 : xLk R_Mo 55 y_Mo_isKind := Or.inl (xin (i := 766) (by decide +kernel) rfl)
theorem l_Mo_78 : xLk R_Mo 78 y_Mo_readsTable := Or.inl (xin (i := 770) (by decide +kernel) rfl)
theorem l_Mo_88 : xLk R_Mo 88 y_Mo_readsConditions := Or.inl (xin (i := 774) (by decide +kernel) rfl)
theorem l_Mo_71 : xLk R_Mo 71 y_Mo_readsOperand := Or.inl (xin (i := 778) (by decide +kernel) rfl)
theorem l_Mo_101 : xLk R_Mo 101 y_Mo_isThere := Or.inl (xin (i := 782) (by decide +kernel) rfl)
theorem l_Mo_106 : xLk R_Mo 106 y_Mo_haveColumns := Or.inl (xin (i := 787) (by decide +kernel) rfl)
theorem l_Mo_133 : xLk R_Mo 133 y_Mo_begins := Or.inl (xin (i := 791) (by decide +kernel) rfl)
theorem l_La_61 : xLk R_La 61 y_Mo_step := Or.inl (xin (i := 795) (by decide +kernel) rfl)
theorem l_Mo_185 : xLk R_Mo 185 y_Mo_selects := Or.inl (xin (i := 799) (by decide +kernel) rfl)
theorem l_Mo_176 : xLk R_Mo 176 y_Mo_isFold := Or.inl (xin (i := 803) (by decide +kernel) rfl)
theorem l_Mo_179 : xLk R_Mo 179 y_Mo_folds := Or.inl (xin (i := 807) (by decide +kernel) rfl)
theorem l_Mo_168 : xLk R_Mo 168 y_Mo_holds := Or.inl (xin (i := 811) (by decide +kernel) rfl)
theorem l_Mo_155 : xLk R_Mo 155 y_Mo_value := Or.inl (xin (i := 815) (by decide +kernel) rfl)
theorem l_Mo_151 : xLk R_Mo 151 y_Mo_cell := Or.inl (xin (i := 819) (by decide +kernel) rfl)
theorem l_Mo_182 : xLk R_Mo 182 y_Mo_moves := Or.inl (xin (i := 823) (by decide +kernel) rfl)
theorem l_Mo_162 : xLk R_Mo 162 y_Mo_behind := Or.inl (xin (i := 827) (by decide +kernel) rfl)
theorem l_Mo_188 : xLk R_Mo 188 y_Mo_creates := Or.inl (xin (i := 831) (by decide +kernel) rfl)
theorem l_Mo_191 : xLk R_Mo 191 y_Mo_inserts := Or.inl (xin (i := 835) (by decide +kernel) rfl)
theorem l_Mo_165 : xLk R_Mo 165 y_Mo_findKey := Or.inl (xin (i := 839) (by decide +kernel) rfl)
theorem l_Mo_194 : xLk R_Mo 194 y_Mo_deletes := Or.inl (xin (i := 843) (by decide +kernel) rfl)
theorem l_La_64 : xLk R_La 64 y_Mo_reset := Or.inl (xin (i := 847) (by decide +kernel) rfl)
theorem l_La_67 : xLk R_La 67 y_Mo_width := Or.inl (xin (i := 851) (by decide +kernel) rfl)
theorem l_Mo_200 : xLk R_Mo 200 y_Mo_wide := Or.inl (xin (i := 855) (by decide +kernel) rfl)
theorem l_Mo_197 : xLk R_Mo 197 y_Mo_listed := Or.inl (xin (i := 859) (by decide +kernel) rfl)
theorem l_La_71 : xLk R_La 71 y_Mo_column := Or.inl (xin (i := 863) (by decide +kernel) rfl)
theorem l_La_74 : xLk R_La 74 y_Mo_rows := Or.inl (xin (i := 867) (by decide +kernel) rfl)
theorem l_La_78 : xLk R_La 78 y_Mo_all := Or.inl (xin (i := 871) (by decide +kernel) rfl)
theorem l_La_82 : xLk R_La 82 y_Mo_nearest := Or.inl (xin (i := 875) (by decide +kernel) rfl)
theorem l_La_86 : xLk R_La 86 y_Mo_clear := Or.inl (xin (i := 879) (by decide +kernel) rfl)
theorem oi_i : Cond.instanceMethod objectInit ∈ xT := xin (i := 23) (by decide +kernel) rfl
theorem oi_c : Cond.code objectInit ⟨#[0xb1]⟩ 1 none ∈ xT := xin (i := 24) (by decide +kernel) rfl
theorem acp : Cond.native arraycopyName ∈ xT ∧ Cond.static arraycopyName ∈ xT ∧ Cond.initialized "java/lang/System" ∈ xT := ⟨xin (i := 500) (by decide +kernel) rfl, xin (i := 499) (by decide +kernel) rfl, xin (i := 15) (by decide +kernel) rfl⟩
