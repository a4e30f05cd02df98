/-! THE LAW: its loop, and its beginning -/
theorem sw10 (w : Int32) : w = 0 ∨ w = 1 ∨ w = 2 ∨ w = 3 ∨ w = 4 ∨ w = 5 ∨ w = 6 ∨ w = 7 ∨ w = 8 ∨ w = 9 ∨ (w.toInt < 0 ∨ 9 < w.toInt) := by
  by_cases h1 : w.toInt < 0
  · simp only [h1, true_or, or_true]
  · by_cases h2 : 9 < w.toInt
    · simp only [h2, or_true]
    · have e : w = Int32.ofInt w.toInt := (Int32.ofInt_toInt w).symm
      have h3 : w.toInt = 0 ∨ w.toInt = 1 ∨ w.toInt = 2 ∨ w.toInt = 3 ∨ w.toInt = 4 ∨ w.toInt = 5 ∨ w.toInt = 6 ∨ w.toInt = 7 ∨ w.toInt = 8 ∨ w.toInt = 9 := by omega
      rcases h3 with z | z | z | z | z | z | z | z | z | z <;> rw [z] at e <;> subst e <;> decide
theorem law_end {L i : Nat} (hL : L ≤ 2048) (hi : i ≤ 4096) : nI L - 4 < nI i ↔ L < i + 4 := by
  rcases Nat.lt_or_ge L 4 with z | z
  · have h1 : L = 0 ∨ L = 1 ∨ L = 2 ∨ L = 3 := by omega
    refine ⟨fun _ => by omega, fun _ => ?_⟩
    have h2 : (nI L - 4).toInt < 0 := by
      rcases h1 with rfl | rfl | rfl | rfl <;> decide
    exact Int32.lt_iff_toInt_lt.mpr (by rw [nI_toInt (n := i) (by omega)]; omega)
  · have e : nI L - 4 = nI (L - 4) := by
      have h1 : nI (L - 4) + 4 = nI L := by
        rw [show (4 : Int32) = nI 4 from rfl, nI_add]; congr 1; omega
      rw [← h1, Int32.add_sub_cancel]
    rw [e, nI_ltI (by omega) (by omega)]
    omega
theorem law_loop {V : xV} {K : xK} {b L : Nat} {xs : Nat → Int32} {A : Nat → Nat} (C : lawC V K b L xs) (hL : L ≤ 2048) : ∀ (n i : Nat) (h : xH), INV V A h → L < i + 4 * n + 4 → i ≤ 2048 → K (49 * n) (136 * n) h 23 (lawV A b i) [] := by
  have fin : ∀ {n i mc ms : Nat} {h : xH}, (i + 4 ≤ L → K mc ms h 32 (lawV A b i) []) → i ≤ 2048 → K mc ms h 23 (lawV A b i) [] := by
    intro n i mc ms h k hi
    unfold lawV at k ⊢
    refine x_iload C d_La_law_23 rfl ?_
    refine x_aload_n C d_La_law_25 rfl rfl ?_
    refine x_slen C d_La_law_26 ?_
    refine x_iconst (v := 4) C d_La_law_27 (by decide) ?_
    refine x_isub C d_La_law_28 ?_
    refine x_icmp_gt (tgt := 542) C d_La_law_29 rfl (fun q => ?_) (fun q => ?_)
    · refine x_iconst (v := 1) C d_La_law_542 (by decide) ?_
      exact x_zret C d_La_law_543 rfl rfl
    · refine k ?_
      have h1 := mt (law_end (i := i) hL (by omega)).mpr q
      omega
  intro n
  induction n with
  | zero =>
    intro i h hI h1 h2
    exact fin (n := 0) (fun z => by omega) h2
  | succ n ih =>
    intro i h hI h1 h2
    refine fin (n := 0) (fun hi => ?_) h2
    have kk : ∀ h2, INV V A h2 → K (49 * n) (136 * n) h2 536 (lawV A b i) [] := by
      intro h2 hI2
      unfold lawV
      refine x_iinc (v := nI (i + 4)) (k0 := 0) (lv' := [(4, _), (3, _), (2, _), (1, _), (0, _)]) C d_La_law_536 (by rfl) (nI_add i 4) (by decide) (by rfl) ?_
      refine x_goto (tgt := 23) C d_La_law_539 rfl ?_
      exact ih (i + 4) h2 hI2 (by omega) (by omega)
    show K (49 * n + 49) (136 * n + 136) h 32 (lawV A b i) []
    have rest : ∀ w : Int32, K (49 * n + 49) (136 * n + 136) h 39 (lawV A b i) [.int w] := by
      intro w
      rcases sw10 w with rfl | rfl | rfl | rfl | rfl | rfl | rfl | rfl | rfl | rfl | q
      · exact x_tabIn (tgt := 92) C d_La_law_39 (by decide) (by decide) (by rfl) rfl (law_feed C hI hi hL kk)
      · exact x_tabIn (tgt := 160) C d_La_law_39 (by decide) (by decide) (by rfl) rfl (law_prepare C hI hi hL kk)
      · exact x_tabIn (tgt := 173) C d_La_law_39 (by decide) (by decide) (by rfl) rfl (law_step C hI hi hL kk)
      · exact x_tabIn (tgt := 217) C d_La_law_39 (by decide) (by decide) (by rfl) rfl (law_reset C hI hi hL kk)
      · exact x_tabIn (tgt := 261) C d_La_law_39 (by decide) (by decide) (by rfl) rfl (law_width C hI hi hL kk)
      · exact x_tabIn (tgt := 305) C d_La_law_39 (by decide) (by decide) (by rfl) rfl (law_column C hI hi hL kk)
      · exact x_tabIn (tgt := 360) C d_La_law_39 (by decide) (by decide) (by rfl) rfl (law_rows C hI hi hL kk)
      · exact x_tabIn (tgt := 416) C d_La_law_39 (by decide) (by decide) (by rfl) rfl (law_all C hI hi hL kk)
      · by_cases hz : xs (nI i + 3).toNatClampNeg = 0
        · exact x_tabIn (tgt := 429) C d_La_law_39 (by decide) (by decide) (by rfl) rfl (law_nearest0 C hI hi hL kk hz)
        · exact x_tabIn (tgt := 429) C d_La_law_39 (by decide) (by decide) (by rfl) rfl (law_nearest1 C hI hi hL kk hz)
      · exact x_tabIn (tgt := 525) C d_La_law_39 (by decide) (by decide) (by rfl) rfl (law_clear C hI hi hL kk)
      · exact x_tabOut (tgt := 536) C d_La_law_39 q rfl (x_mono (mc := 49 * n) (ms := 136 * n) C (by omega) (by omega) (kk _ hI))
    unfold lawV at rest ⊢
    refine x_aload_n C d_La_law_32 rfl rfl ?_
    refine x_iload C d_La_law_33 rfl ?_
    refine x_sld C d_La_law_35 (vp_in_nI (by omega) (by omega)) ?_
    refine x_bipush (v := 15) C d_La_law_36 (by decide) ?_
    refine x_iand C d_La_law_38 ?_
    exact rest _
/-- the addresses, out of a list -/
def aOf (l : List Nat) : Nat → Nat := fun k => l.getD k 0
/-- what the constructors leave is the invariant -/
theorem law_inv {V : xV} {h4 h5 h6 : xH} {x T kr nr B ce co sr U rd m mco mof mce mki mnu mhk mhn out : Nat} {fs : List Value} (fx : h4 x = some (oCB T B U)) (pK : pTo V h4 T kr nr (fun _ => 0) (fun _ => 0) 0) (pT : pTa V h4 B ce co sr (fun _ => 0) (fun _ => 0) (fun _ => 0)) (fU : h4 U = some (oRu .null 0 0 0 0 0 0 rd)) (frd : h4 rd = some (xI V 16 (fun _ => 0))) (fm4 : h4 m = some (.inr (8, [.int 0, .null, .null, .null, .int 0, .null, .null, .int 0, .null, .null, .int 0, .int 0, .int 0, .int 0, .int 0, .int 0, .int 0, .int 0, .int 0, .int 0, .int 0, .int 0, .long 0, .int 0, .int 0, .int 0, .int 0, .int 0, .int 0])))
    (fm : h5 m = some (.inr (8, fs))) (mu : mUp [1, 2, 3, 5, 6, 8, 9] [.int 0, .null, .null, .null, .int 0, .null, .null, .int 0, .null, .null, .int 0, .int 0, .int 0, .int 0, .int 0, .int 0, .int 0, .int 0, .int 0, .int 0, .int 0, .int 0, .long 0, .int 0, .int 0, .int 0, .int 0, .int 0, .int 0] fs)
    (g1 : fs[1]? = some (.ref mco)) (g2 : fs[2]? = some (.ref mof)) (g3 : fs[3]? = some (.ref mce)) (g5 : fs[5]? = some (.ref mki)) (g6 : fs[6]? = some (.ref mnu)) (g8 : fs[8]? = some (.ref mhk)) (g9 : fs[9]? = some (.ref mhn))
    (f1 : h5 mco = some (xI V 10 (fun _ => 0))) (f2 : h5 mof = some (xI V 400 (fun _ => 0))) (f3 : h5 mce = some (xI V 2400 (fun _ => 0))) (f5 : h5 mki = some (xI V 60 (fun _ => 0))) (f6 : h5 mnu = some (xI V 60 (fun _ => 0))) (f8 : h5 mhk = some (xI V 60 (fun _ => 0))) (f9 : h5 mhn = some (xI V 60 (fun _ => 0)))
    (n1 : mki ≠ mnu) (n2 : mhk ≠ mki) (n3 : mhk ≠ mnu) (n4 : mhn ≠ mki) (n5 : mhn ≠ mnu) (n6 : mhk ≠ mhn) (kp : xKeep [m] h4 h5) (z1 : h4 mco = none) (z2 : h4 mof = none) (z3 : h4 mce = none) (z5 : h4 mki = none) (z6 : h4 mnu = none) (z8 : h4 mhk = none) (z9 : h4 mhn = none) (zo : h5 out = none) (u : h6 = va_up h5 out (some (xJ V 1 (fun _ => 0)))) :
    INV V (aOf [x, T, kr, nr, B, ce, co, sr, U, rd, m, mco, mof, mce, mki, mnu, mhk, mhn, out]) h6 := by
  obtain ⟨k1, k2, k3, k4, k5⟩ := pK
  obtain ⟨t1, t2, t3, t4⟩ := pT
  -- a cell of the class: what it is in h4, h5, h6
  have old : ∀ {q e}, h4 q = some e → (∀ z, e ≠ .inr (8, z)) → h5 q = some e := fun {q e} f n => kp.get f (nm_c (x_ne f fm4 (fun z => n _ z.symm)) nm_n)
  have upd : ∀ {q e}, h5 q = some e → h6 q = some e := fun {q e} f => xUp_new u zo f
  have apart : ∀ {q e}, h4 q = some e → (∀ z, e ≠ .inr (8, z)) → q ∉ [m, mco, mof, mce, mki, mnu, mhk, mhn, out] := fun {q e} f n =>
    nm_c (x_ne f fm4 (fun z => n _ z.symm)) (nm_c (x_nn f z1) (nm_c (x_nn f z2) (nm_c (x_nn f z3) (nm_c (x_nn f z5) (nm_c (x_nn f z6) (nm_c (x_nn f z8) (nm_c (x_nn f z9) (nm_c (x_nn (old f n) zo) nm_n))))))))
  refine ⟨fun _ => 0, fun _ => 0, fun _ => 0, fun _ => 0, fun _ => 0, fun _ => 0, fun _ => 0, fun _ => 0, fun _ => 0, fun _ => 0, fun _ => 0, 0, 0, fun _ => 0, .null, 0, 0, 0, 0, 0, 0, fs, fun _ => 0, ⟨?_, n1, n2, n3, n4, n5, n6⟩, ?_, ?_, ?_, ?_, ?_, by omega, fun _ _ => rfl, fun i hi => absurd hi (Nat.not_lt_zero i), tie_zero (fun _ _ => rfl), Or.inl ?_⟩
  · show ∀ a ∈ [x, T, kr, nr, B, ce, co, sr, U, rd], a ∉ [m, mco, mof, mce, mki, mnu, mhk, mhn, out]
    intro a ha
    simp only [List.mem_cons, List.not_mem_nil, or_false] at ha
    rcases ha with rfl | rfl | rfl | rfl | rfl | rfl | rfl | rfl | rfl | rfl
    · exact apart fx (by simp)
    · exact apart k1 (by simp)
    · exact apart k2 (by simp)
    · exact apart k3 (by simp)
    · exact apart t1 (by simp)
    · exact apart t2 (by simp)
    · exact apart t3 (by simp)
    · exact apart t4 (by simp)
    · exact apart fU (by simp)
    · exact apart frd (by simp)
  · exact ⟨upd (old fx (by simp)), ⟨upd (old k1 (by simp)), upd (old k2 (by simp)), upd (old k3 (by simp)), k4, k5⟩, ⟨upd (old t1 (by simp)), upd (old t2 (by simp)), upd (old t3 (by simp)), upd (old t4 (by simp))⟩, upd (old fU (by simp)), upd (old frd (by simp)), ⟨fun _ _ => rfl, fun _ _ => Nat.le_refl _, by decide⟩, rfl, fun _ _ => ⟨0, by omega, rfl⟩⟩
  · exact ⟨upd fm, upd f1, upd f2, upd f3, upd f5, upd f6, upd f8, upd f9, xUp_at u⟩
  · exact ⟨mu.1, g1, g2, g3, g5, g6, g8, g9⟩
  · exact mu.get (v := .int 0) rfl (by decide)
  · exact mu.get (v := .int 0) rfl (by decide)
  · exact ⟨rfl, mu.get (v := .int 0) rfl (by decide), ⟨0, mu.get rfl (by decide)⟩, ⟨0, mu.get rfl (by decide)⟩, ⟨0, mu.get rfl (by decide)⟩, ⟨0, mu.get rfl (by decide)⟩, ⟨0, mu.get rfl (by decide)⟩, ⟨0, mu.get rfl (by decide)⟩, ⟨0, mu.get rfl (by decide)⟩, ⟨0, mu.get rfl (by decide)⟩⟩
set_option maxRecDepth 20000 in
set_option maxHeartbeats 1000000 in
/-- the law from its entry -/
theorem law_start {V : xV} {K : xK} {b L : Nat} {xs : Nat → Int32} (C : lawC V K b L xs) (hL : L ≤ 2048) : K 25107 75286 (fun _ => none) 0 [(0, .ref b)] [] := by
  refine x_new (mc := 25106) (ms := 75283) (fs := [.null, .null, .null]) C k_CB ⟨c_La_8, n_CB.1, n_CB.2⟩ d_La_law_0 (by decide +revert) (fun x h1 e1 u1 => ?_)
  have fx := xUp_at u1
  refine x_dup C d_La_law_3 rfl ?_
  refine x_callI (mc := 25097) (ms := 72712) C l_La_41 v_CB_init d_La_law_4 (m_CB_init fx) rfl (by rfl) (by rfl) (by decide) (by decide) (Nat.le_of_ble_eq_true rfl) ?_
  rintro v9 h2 ⟨rfl, T, kr, nr, B, ce, co, sr, U, rd, fx, pK, pT, fU, frd, -⟩
  refine x_astore_n (lv' := [(1, _), (0, _)]) C d_La_law_7 rfl (by decide) (by rfl) ?_
  refine x_new (mc := 25096) (ms := 72683) (fs := [.int 0, .null, .null, .null, .int 0, .null, .null, .int 0, .null, .null, .int 0, .int 0, .int 0, .int 0, .int 0, .int 0, .int 0, .int 0, .int 0, .int 0, .int 0, .int 0, .long 0, .int 0, .int 0, .int 0, .int 0, .int 0, .int 0]) C k_Mo ⟨c_La_42, n_Mo.1, n_Mo.2⟩ d_La_law_8 (by decide +revert) (fun m h4 e4 u4 => ?_)
  have fm := xUp_at u4
  have up4 : ∀ {q e}, h2 q = some e → h4 q = some e := fun {q e} f => xUp_new u4 e4 f
  refine x_dup C d_La_law_11 rfl ?_
  refine x_callI (mc := 25089) (ms := 69633) C l_La_44 v_Mo_init d_La_law_12 (m_Mo_init fm rfl) rfl (by rfl) (by rfl) (by decide) (by decide) (Nat.le_of_ble_eq_true rfl) ?_
  rintro v9 h5 ⟨rfl, fs, mco, mof, mce, mki, mnu, mhk, mhn, fm5, mu, g1, g2, g3, g5, g6, g8, g9, f1, f2, f3, f5, f6, f8, f9, n1, n2, n3, n4, n5, n6, kp, z1, z2, z3, z5, z6, z8, z9⟩
  refine x_astore_n (lv' := [(2, _), (1, _), (0, _)]) C d_La_law_15 rfl (by decide) (by rfl) ?_
  refine x_iconst (v := 1) C d_La_law_16 (by decide) ?_
  refine x_newJ (mc := 25088) (ms := 69632) (N := 1) C ac_long d_La_law_17 (by decide) (by decide) (by decide) (fun out h6 zo u6 => ?_)
  refine x_astore_n (lv' := [(3, _), (2, _), (1, _), (0, _)]) C d_La_law_19 rfl (by decide) (by rfl) ?_
  refine x_iconst (v := 0) C d_La_law_20 (by decide) ?_
  refine x_istore (lv' := [(4, _), (3, _), (2, _), (1, _), (0, _)]) C d_La_law_21 (by decide) (by rfl) ?_
  obtain ⟨k1, k2, k3, k4, k5⟩ := pK
  obtain ⟨t1, t2, t3, t4⟩ := pT
  have hI := law_inv (V := V) (up4 fx) ⟨up4 k1, up4 k2, up4 k3, k4, k5⟩ ⟨up4 t1, up4 t2, up4 t3, up4 t4⟩ (up4 fU) (up4 frd) fm fm5 mu g1 g2 g3 g5 g6 g8 g9 f1 f2 f3 f5 f6 f8 f9 n1 n2 n3 n4 n5 n6 kp z1 z2 z3 z5 z6 z8 z9 zo u6
  exact law_loop (A := aOf [x, T, kr, nr, B, ce, co, sr, U, rd, m, mco, mof, mce, mki, mnu, mhk, mhn, out]) C hL 512 0 h6 hI (by omega) (by omega)
