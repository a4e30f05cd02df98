/-! CursorBase$Tables -/
set_option maxRecDepth 20000 in
set_option maxHeartbeats 1000000 in
theorem m_Ta_columnsOf {V : xV} {h : xH} {B ce co sr : Nat} {f c s : Nat → Int32} (pT : pTa V h B ce co sr f c s) (t : Int32) : xM V y_Ta_columnsOf b_Ta_columnsOf 2 (some .int) 0 [.ref B, .int t] h 0 0 (fun v h' => h' = h ∧ v = some (.int (colOf c t))) := by
  refine xM_of false (by decide) (fun h => nomatch h) (Nat.le_of_ble_eq_true rfl) (fun K C => ?_)
  show K 0 0 h 0 [(0, .ref B), (1, .int t)] []
  obtain ⟨fB, fce, fco, fsr⟩ := pT
  refine x_iload_n C d_Ta_columnsOf_0 rfl rfl ?_
  refine x_if_lt (tgt := 19) C d_Ta_columnsOf_1 rfl (fun q1 => ?_) (fun q1 => ?_)
  · skip
    refine x_iconst (v := 0) C d_Ta_columnsOf_19 (by decide) ?_
    refine x_iret C d_Ta_columnsOf_20 ?_
    exact ⟨rfl, by simp [colOf, *]⟩
  · skip
    refine x_iload_n C d_Ta_columnsOf_4 rfl rfl ?_
    refine x_bipush (v := 10) C d_Ta_columnsOf_5 (by decide) ?_
    refine x_icmp_ge (tgt := 19) C d_Ta_columnsOf_7 rfl (fun q7 => ?_) (fun q7 => ?_)
    · skip
      refine x_iconst (v := 0) C d_Ta_columnsOf_19 (by decide) ?_
      refine x_iret C d_Ta_columnsOf_20 ?_
      exact ⟨rfl, by simp [colOf, *]⟩
    · skip
      refine x_aload_n C d_Ta_columnsOf_10 rfl rfl ?_
      refine x_get C k_Ta f_Ta_15 d_Ta_columnsOf_11 fB (by rfl) ?_
      refine x_iload_n C d_Ta_columnsOf_14 rfl rfl ?_
      refine x_iald C d_Ta_columnsOf_15 fco (in_of (n := 10) q1 q7 (by decide) (by decide)) ?_
      refine x_goto (tgt := 20) C d_Ta_columnsOf_16 rfl ?_
      refine x_iret C d_Ta_columnsOf_20 ?_
      exact ⟨rfl, by simp [colOf, *]⟩
set_option maxRecDepth 20000 in
set_option maxHeartbeats 1000000 in
theorem m_Ta_isThere {V : xV} {h : xH} {B ce co sr : Nat} {f c s : Nat → Int32} (pT : pTa V h B ce co sr f c s) (t : Int32) : xM V y_Ta_isThere b_Ta_isThere 2 (some .boolean) 1 [.ref B, .int t] h 0 0 (fun v h' => h' = h ∧ v = some (.int (bI (!decide (colOf c t ≤ 0))))) := by
  refine xM_of false (by decide) (fun h => nomatch h) (Nat.le_of_ble_eq_true rfl) (fun K C => ?_)
  show K 0 0 h 0 [(0, .ref B), (1, .int t)] []
  obtain ⟨fB, fce, fco, fsr⟩ := pT
  refine x_aload_n C d_Ta_isThere_0 rfl rfl ?_
  refine x_iload_n C d_Ta_isThere_1 rfl rfl ?_
  refine x_callV C l_Ta_21 v_Ta_columnsOf d_Ta_isThere_2 (m_Ta_columnsOf ⟨fB, fce, fco, fsr⟩ t) fB rfl (by rfl) (by rfl) (by decide) (by decide) (Nat.le_of_ble_eq_true rfl) ?_
  rintro v h' ⟨rfl, rfl⟩
  refine x_if_le (tgt := 12) C d_Ta_isThere_5 rfl (fun q5 => ?_) (fun q5 => ?_)
  · skip
    refine x_iconst (v := 0) C d_Ta_isThere_12 (by decide) ?_
    refine x_zret C d_Ta_isThere_13 (by rfl) ?_
    exact ⟨rfl, by simp [bI, *]⟩
  · skip
    refine x_iconst (v := 1) C d_Ta_isThere_8 (by decide) ?_
    refine x_goto (tgt := 13) C d_Ta_isThere_9 rfl ?_
    refine x_zret C d_Ta_isThere_13 (by rfl) ?_
    exact ⟨rfl, by simp [bI, *]⟩
set_option maxRecDepth 20000 in
set_option maxHeartbeats 1000000 in
theorem m_Ta_rowsOf {V : xV} {h : xH} {B ce co sr : Nat} {f c s : Nat → Int32} (pT : pTa V h B ce co sr f c s) (t : Int32) : xM V y_Ta_rowsOf b_Ta_rowsOf 2 (some .int) 0 [.ref B, .int t] h 0 0 (fun v h' => h' = h ∧ v = some (.int (rowOf s t))) := by
  refine xM_of false (by decide) (fun h => nomatch h) (Nat.le_of_ble_eq_true rfl) (fun K C => ?_)
  show K 0 0 h 0 [(0, .ref B), (1, .int t)] []
  obtain ⟨fB, fce, fco, fsr⟩ := pT
  refine x_iload_n C d_Ta_rowsOf_0 rfl rfl ?_
  refine x_if_lt (tgt := 28) C d_Ta_rowsOf_1 rfl (fun q1 => ?_) (fun q1 => ?_)
  · skip
    refine x_iconst (v := 0) C d_Ta_rowsOf_28 (by decide) ?_
    refine x_iret C d_Ta_rowsOf_29 ?_
    exact ⟨rfl, by simp [rowOf, *]⟩
  · skip
    refine x_iload_n C d_Ta_rowsOf_4 rfl rfl ?_
    refine x_bipush (v := 10) C d_Ta_rowsOf_5 (by decide) ?_
    refine x_icmp_ge (tgt := 28) C d_Ta_rowsOf_7 rfl (fun q7 => ?_) (fun q7 => ?_)
    · skip
      refine x_iconst (v := 0) C d_Ta_rowsOf_28 (by decide) ?_
      refine x_iret C d_Ta_rowsOf_29 ?_
      exact ⟨rfl, by simp [rowOf, *]⟩
    · skip
      refine x_aload_n C d_Ta_rowsOf_10 rfl rfl ?_
      refine x_get C k_Ta f_Ta_18 d_Ta_rowsOf_11 fB (by rfl) ?_
      refine x_iload_n C d_Ta_rowsOf_14 rfl rfl ?_
      refine x_iconst (v := 1) C d_Ta_rowsOf_15 (by decide) ?_
      refine x_iadd C d_Ta_rowsOf_16 ?_
      refine x_iald C d_Ta_rowsOf_17 fsr (in_of1 (n := 10) q1 q7 (by decide) (by decide)) ?_
      refine x_aload_n C d_Ta_rowsOf_18 rfl rfl ?_
      refine x_get C k_Ta f_Ta_18 d_Ta_rowsOf_19 fB (by rfl) ?_
      refine x_iload_n C d_Ta_rowsOf_22 rfl rfl ?_
      refine x_iald C d_Ta_rowsOf_23 fsr (in_of (n := 10) q1 q7 (by decide) (by decide)) ?_
      refine x_isub C d_Ta_rowsOf_24 ?_
      refine x_goto (tgt := 29) C d_Ta_rowsOf_25 rfl ?_
      refine x_iret C d_Ta_rowsOf_29 ?_
      exact ⟨rfl, by simp [rowOf, *]⟩
set_option maxRecDepth 20000 in
set_option maxHeartbeats 1000000 in
theorem m_Ta_rowsInAll {V : xV} {h : xH} {B ce co sr : Nat} {f c s : Nat → Int32} (pT : pTa V h B ce co sr f c s) : xM V y_Ta_rowsInAll b_Ta_rowsInAll 1 (some .int) 0 [.ref B] h 0 0 (fun v h' => h' = h ∧ v = some (.int (s 10))) := by
  refine xM_of false (by decide) (fun h => nomatch h) (Nat.le_of_ble_eq_true rfl) (fun K C => ?_)
  show K 0 0 h 0 [(0, .ref B)] []
  obtain ⟨fB, fce, fco, fsr⟩ := pT
  refine x_aload_n C d_Ta_rowsInAll_0 rfl rfl ?_
  refine x_get C k_Ta f_Ta_18 d_Ta_rowsInAll_1 fB (by rfl) ?_
  refine x_bipush (v := 10) C d_Ta_rowsInAll_4 (by decide) ?_
  refine x_iald C d_Ta_rowsInAll_6 fsr (vp_in_nI (n := 10) (by decide) (by decide)) ?_
  refine x_iret C d_Ta_rowsInAll_7 ?_
  exact ⟨rfl, rfl⟩
set_option maxRecDepth 20000 in
set_option maxHeartbeats 1000000 in
theorem m_Ta_cellOf {V : xV} {h : xH} {B ce co sr : Nat} {f c s : Nat → Int32} (pT : pTa V h B ce co sr f c s) {t : Nat} (ht : t ≤ 10) (p : Int32) : xM V y_Ta_cellOf b_Ta_cellOf 3 (some .int) 0 [.ref B, .int (nI t), .int p] h 0 0 (fun v h' => h' = h ∧ v = some (.int ((s t + p) * 6))) := by
  refine xM_of false (by decide) (fun h => nomatch h) (Nat.le_of_ble_eq_true rfl) (fun K C => ?_)
  show K 0 0 h 0 [(0, .ref B), (1, .int (nI t)), (2, .int p)] []
  obtain ⟨fB, fce, fco, fsr⟩ := pT
  refine x_aload_n C d_Ta_cellOf_0 rfl rfl ?_
  refine x_get C k_Ta f_Ta_18 d_Ta_cellOf_1 fB (by rfl) ?_
  refine x_iload_n C d_Ta_cellOf_4 rfl rfl ?_
  refine x_iald C d_Ta_cellOf_5 fsr (vp_in_nI (by omega) (by decide)) ?_
  refine x_iload_n C d_Ta_cellOf_6 rfl rfl ?_
  refine x_iadd C d_Ta_cellOf_7 ?_
  refine x_bipush (v := 6) C d_Ta_cellOf_8 (by decide) ?_
  refine x_imul C d_Ta_cellOf_10 ?_
  refine x_iret C d_Ta_cellOf_11 ?_
  exact ⟨rfl, by rw [nI_clamp (by omega)]⟩
set_option maxRecDepth 20000 in
set_option maxHeartbeats 1000000 in
theorem m_Ta_keyAt {V : xV} {h : xH} {B ce co sr : Nat} {f c s : Nat → Int32} (pT : pTa V h B ce co sr f c s) {t : Nat} (ht : t ≤ 10) {p : Int32} {a : Nat} (ha : a < 2400) (hp : (s t + p) * 6 = nI a) : xM V y_Ta_keyAt b_Ta_keyAt 3 (some .int) 1 [.ref B, .int (nI t), .int p] h 0 0 (fun v h' => h' = h ∧ v = some (.int (f a))) := by
  refine xM_of false (by decide) (fun h => nomatch h) (Nat.le_of_ble_eq_true rfl) (fun K C => ?_)
  show K 0 0 h 0 [(0, .ref B), (1, .int (nI t)), (2, .int p)] []
  obtain ⟨fB, fce, fco, fsr⟩ := pT
  refine x_aload_n C d_Ta_keyAt_0 rfl rfl ?_
  refine x_get C k_Ta f_Ta_9 d_Ta_keyAt_1 fB (by rfl) ?_
  refine x_aload_n C d_Ta_keyAt_4 rfl rfl ?_
  refine x_iload_n C d_Ta_keyAt_5 rfl rfl ?_
  refine x_iload_n C d_Ta_keyAt_6 rfl rfl ?_
  refine x_callV C l_Ta_25 v_Ta_cellOf d_Ta_keyAt_7 (m_Ta_cellOf ⟨fB, fce, fco, fsr⟩ ht p) fB rfl (by rfl) (by rfl) (by decide) (by decide) (Nat.le_of_ble_eq_true rfl) ?_
  rintro v h' ⟨rfl, rfl⟩
  refine x_iald C d_Ta_keyAt_10 fce (by rw [hp]; exact vp_in_nI ha (by decide)) ?_
  refine x_iret C d_Ta_keyAt_11 ?_
  exact ⟨rfl, by rw [hp, nI_clamp (by omega)]⟩
set_option maxRecDepth 20000 in
set_option maxHeartbeats 1000000 in
theorem m_Ta_read {V : xV} {h : xH} {B ce co sr : Nat} {f c s : Nat → Int32} (pT : pTa V h B ce co sr f c s) {t : Nat} (ht : t ≤ 10) {p : Int32} {a : Nat} (ha : a + 6 ≤ 2400) (hp : (s t + p) * 6 = nI a) {r b : Nat} {g : Nat → Int32} (fr : h r = some (xI V 16 g)) (hb : b + 6 ≤ 16) : xM V y_Ta_read b_Ta_read 5 none 3 [.ref B, .int (nI t), .int p, .ref r, .int (nI b)] h 0 0 (fun v h' => v = none ∧ h' = va_up h r (some (xI V 16 (va_cpy f g a b 6)))) := by
  refine xM_of false (by decide) (fun h => nomatch h) (Nat.le_of_ble_eq_true rfl) (fun K C => ?_)
  show K 0 0 h 0 [(0, .ref B), (1, .int (nI t)), (2, .int p), (3, .ref r), (4, .int (nI b))] []
  obtain ⟨fB, fce, fco, fsr⟩ := pT
  refine x_aload_n C d_Ta_read_0 rfl rfl ?_
  refine x_get C k_Ta f_Ta_9 d_Ta_read_1 fB (by rfl) ?_
  refine x_aload_n C d_Ta_read_4 rfl rfl ?_
  refine x_iload_n C d_Ta_read_5 rfl rfl ?_
  refine x_iload_n C d_Ta_read_6 rfl rfl ?_
  refine x_callV C l_Ta_25 v_Ta_cellOf d_Ta_read_7 (m_Ta_cellOf ⟨fB, fce, fco, fsr⟩ ht p) fB rfl (by rfl) (by rfl) (by decide) (by decide) (Nat.le_of_ble_eq_true rfl) ?_
  rintro v h' ⟨rfl, rfl⟩
  refine x_aload_n C d_Ta_read_10 rfl rfl ?_
  refine x_iload C d_Ta_read_11 rfl ?_
  refine x_bipush (v := 6) C d_Ta_read_13 (by decide) ?_
  refine x_copy C ⟨l_Ta_29, acp.1, acp.2.1, acp.2.2⟩ (by decide) (Nat.le_of_ble_eq_true rfl) fce fr (by rw [hp]; exact nI_pos (by omega)) (nI_pos (by omega)) (by decide) (by rw [hp, nI_clamp (by omega)]; exact ha) (by rw [nI_clamp (by omega)]; exact hb) d_Ta_read_15 (fun h1 u1 => ?_)
  have fB := xUp_ne u1 fB (by first | assumption | exact Ne.symm (by assumption) | exact x_ne fB fr (by simp))
  have fce := xUp_ne u1 fce (by first | assumption | exact Ne.symm (by assumption) | exact x_ne fce fr (by simp))
  have fco := xUp_ne u1 fco (by first | assumption | exact Ne.symm (by assumption) | exact x_ne fco fr (by simp))
  have fsr := xUp_ne u1 fsr (by first | assumption | exact Ne.symm (by assumption) | exact x_ne fsr fr (by simp))
  have fr := xUp_at u1
  refine x_vret C d_Ta_read_18 ?_
  refine ⟨rfl, ?_⟩
  rw [u1, hp, nI_clamp (by omega), nI_clamp (by omega)]
  rfl
set_option maxRecDepth 20000 in
set_option maxHeartbeats 1000000 in
theorem m_Ta_placeNotBelow {V : xV} {h : xH} {B ce co sr : Nat} {f c s : Nat → Int32} (pT : pTa V h B ce co sr f c s) {S : Nat → Nat} (hS : pS s S) {t : Nat} (ht : t < 10) (k : Int32) : xM V y_Ta_placeNotBelow b_Ta_placeNotBelow 5 (some .int) 2 [.ref B, .int (nI t), .int k] h 0 0 (fun v h' => h' = h ∧ ∃ p, v = some (.int (nI p)) ∧ pNB (fun j => f ((S t + j) * 6)) (S (t + 1) - S t) k p) := by
  refine xM_of false (by decide) (fun h => nomatch h) (Nat.le_of_ble_eq_true rfl) (fun K C => ?_)
  show K 0 0 h 0 [(0, .ref B), (1, .int (nI t)), (2, .int k)] []
  obtain ⟨fB, fce, fco, fsr⟩ := pT
  have hs0 := hS.1 t (by omega)
  have hl1 := hS.le (t + 1) (by omega)
  have hl2 := hS.2.1 t ht
  have loop : ∀ m : Nat, ∀ j : Nat, S (t + 1) - S t - j < m → j ≤ S (t + 1) - S t → (∀ i, i < j → f ((S t + i) * 6) < k) → K 0 0 h 9 [(4, .int (nI j)), (3, .int (nI (S (t + 1) - S t))), (0, .ref B), (1, .int (nI t)), (2, .int k)] [] := by
    intro m
    induction m with
    | zero => intro j hm hj hk; omega
    | succ m ih =>
      intro j hm hj hk
      refine x_iload C d_Ta_placeNotBelow_9 rfl ?_
      refine x_iload_n C d_Ta_placeNotBelow_11 rfl rfl ?_
      refine x_icmp_ge (tgt := 32) C d_Ta_placeNotBelow_12 rfl (fun q12 => ?_) (fun q12 => ?_)
      · skip
        have hjn : j = S (t + 1) - S t := by rcases Nat.lt_or_ge j (S (t + 1) - S t) with z | z; exact absurd q12 (nI_ge z (by omega)); omega
        refine x_iload C d_Ta_placeNotBelow_32 rfl ?_
        refine x_iret C d_Ta_placeNotBelow_34 ?_
        refine ⟨rfl, j, rfl, hj, hk, fun z => ?_⟩
        first | exact absurd z (by omega) | exact Int32.not_lt.mpr q23
      · skip
        have hjn : j < S (t + 1) - S t := by rcases Nat.lt_or_ge j (S (t + 1) - S t) with z | z; exact z; exact absurd (nI_le z (by omega)) q12
        refine x_aload_n C d_Ta_placeNotBelow_15 rfl rfl ?_
        refine x_iload_n C d_Ta_placeNotBelow_16 rfl rfl ?_
        refine x_iload C d_Ta_placeNotBelow_17 rfl ?_
        refine x_callV C l_Ta_38 v_Ta_keyAt d_Ta_placeNotBelow_19 (m_Ta_keyAt ⟨fB, fce, fco, fsr⟩ (t := t) (p := nI j) (a := (S t + j) * 6) (by omega) (by omega) (by rw [hs0, cell_eq])) fB rfl (by rfl) (by rfl) (by decide) (by decide) (Nat.le_of_ble_eq_true rfl) ?_
        rintro v h' ⟨rfl, rfl⟩
        refine x_iload_n C d_Ta_placeNotBelow_22 rfl rfl ?_
        refine x_icmp_ge (tgt := 32) C d_Ta_placeNotBelow_23 rfl (fun q23 => ?_) (fun q23 => ?_)
        · skip
          refine x_iload C d_Ta_placeNotBelow_32 rfl ?_
          refine x_iret C d_Ta_placeNotBelow_34 ?_
          refine ⟨rfl, j, rfl, hj, hk, fun z => ?_⟩
          first | exact absurd z (by omega) | exact Int32.not_lt.mpr q23
        · skip
          replace q23 := Int32.not_le.mp q23
          refine x_iinc (v := nI (j + 1)) (k0 := 0) (lv' := [(4, _), (3, _), (0, _), (1, _), (2, _)]) C d_Ta_placeNotBelow_26 (by rfl) (nI_1 j) (by decide) (by rfl) ?_
          refine x_goto (tgt := 9) C d_Ta_placeNotBelow_29 rfl ?_
          exact ih (j + 1) (by omega) (by omega) (lt_s hk (by simpa using q23))
  refine x_aload_n C d_Ta_placeNotBelow_0 rfl rfl ?_
  refine x_iload_n C d_Ta_placeNotBelow_1 rfl rfl ?_
  refine x_callV C l_Ta_35 v_Ta_rowsOf d_Ta_placeNotBelow_2 (m_Ta_rowsOf ⟨fB, fce, fco, fsr⟩ (nI t)) fB rfl (by rfl) (by rfl) (by decide) (by decide) (Nat.le_of_ble_eq_true rfl) ?_
  rintro v h' ⟨rfl, rfl⟩
  rw [hS.row ht]
  refine x_istore_n (lv' := [(3, _), (0, _), (1, _), (2, _)]) C d_Ta_placeNotBelow_5 rfl (by decide) (by rfl) ?_
  refine x_iconst (v := 0) C d_Ta_placeNotBelow_6 (by decide) ?_
  refine x_istore (lv' := [(4, _), (3, _), (0, _), (1, _), (2, _)]) C d_Ta_placeNotBelow_7 (by decide) (by rfl) ?_
  exact loop (S (t + 1) - S t + 1) 0 (by omega) (by omega) lt_0
set_option maxRecDepth 20000 in
set_option maxHeartbeats 1000000 in
theorem m_Ta_hasKeyAt {V : xV} {h : xH} {B ce co sr : Nat} {f c s : Nat → Int32} (pT : pTa V h B ce co sr f c s) {S : Nat → Nat} (hS : pS s S) {t : Nat} (ht : t < 10) {j : Nat} (hj : j ≤ 400) (k : Int32) : xM V y_Ta_hasKeyAt b_Ta_hasKeyAt 4 (some .boolean) 2 [.ref B, .int (nI t), .int (nI j), .int k] h 0 0 (fun v h' => h' = h ∧ v = some (.int (bI (decide (j < S (t + 1) - S t) && decide (f ((S t + j) * 6) = k))))) := by
  refine xM_of false (by decide) (fun h => nomatch h) (Nat.le_of_ble_eq_true rfl) (fun K C => ?_)
  show K 0 0 h 0 [(0, .ref B), (1, .int (nI t)), (2, .int (nI j)), (3, .int k)] []
  obtain ⟨fB, fce, fco, fsr⟩ := pT
  have hs0 := hS.1 t (by omega)
  have hl1 := hS.le (t + 1) (by omega)
  have hl2 := hS.2.1 t ht
  refine x_iload_n C d_Ta_hasKeyAt_0 rfl rfl ?_
  refine x_aload_n C d_Ta_hasKeyAt_1 rfl rfl ?_
  refine x_iload_n C d_Ta_hasKeyAt_2 rfl rfl ?_
  refine x_callV C l_Ta_35 v_Ta_rowsOf d_Ta_hasKeyAt_3 (m_Ta_rowsOf ⟨fB, fce, fco, fsr⟩ (nI t)) fB rfl (by rfl) (by rfl) (by decide) (by decide) (Nat.le_of_ble_eq_true rfl) ?_
  rintro v h' ⟨rfl, rfl⟩
  rw [hS.row ht]
  refine x_icmp_ge (tgt := 23) C d_Ta_hasKeyAt_6 rfl (fun q6 => ?_) (fun q6 => ?_)
  · skip
    have hjn : ¬ j < S (t + 1) - S t := fun z => absurd q6 (nI_ge z (by omega))
    refine x_iconst (v := 0) C d_Ta_hasKeyAt_23 (by decide) ?_
    refine x_zret C d_Ta_hasKeyAt_24 (by rfl) ?_
    exact ⟨rfl, by simp [bI, *]⟩
  · skip
    have hjn : j < S (t + 1) - S t := by rcases Nat.lt_or_ge j (S (t + 1) - S t) with z | z; exact z; exact absurd (nI_le z (by omega)) q6
    refine x_aload_n C d_Ta_hasKeyAt_9 rfl rfl ?_
    refine x_iload_n C d_Ta_hasKeyAt_10 rfl rfl ?_
    refine x_iload_n C d_Ta_hasKeyAt_11 rfl rfl ?_
    refine x_callV C l_Ta_38 v_Ta_keyAt d_Ta_hasKeyAt_12 (m_Ta_keyAt ⟨fB, fce, fco, fsr⟩ (t := t) (p := nI j) (a := (S t + j) * 6) (by omega) (by omega) (by rw [hs0, cell_eq])) fB rfl (by rfl) (by rfl) (by decide) (by decide) (Nat.le_of_ble_eq_true rfl) ?_
    rintro v h' ⟨rfl, rfl⟩
    refine x_iload_n C d_Ta_hasKeyAt_15 rfl rfl ?_
    refine x_icmp_ne (tgt := 23) C d_Ta_hasKeyAt_16 rfl (fun q16 => ?_) (fun q16 => ?_)
    · skip
      refine x_iconst (v := 0) C d_Ta_hasKeyAt_23 (by decide) ?_
      refine x_zret C d_Ta_hasKeyAt_24 (by rfl) ?_
      exact ⟨rfl, by simp [bI, *]⟩
    · skip
      refine x_iconst (v := 1) C d_Ta_hasKeyAt_19 (by decide) ?_
      refine x_goto (tgt := 24) C d_Ta_hasKeyAt_20 rfl ?_
      refine x_zret C d_Ta_hasKeyAt_24 (by rfl) ?_
      exact ⟨rfl, by simp [bI, *]⟩
set_option maxRecDepth 20000 in
set_option maxHeartbeats 1000000 in
theorem m_Ta_placeNearest {V : xV} {h : xH} {B ce co sr : Nat} {f c s : Nat → Int32} (pT : pTa V h B ce co sr f c s) {S : Nat → Nat} (hS : pS s S) {t : Nat} (ht : t < 10) (k u : Int32) : xM V y_Ta_placeNearest b_Ta_placeNearest 5 (some .int) 3 [.ref B, .int (nI t), .int k, .int u] h 0 0 (fun v h' => h' = h ∧ ∃ p, pNB (fun j => f ((S t + j) * 6)) (S (t + 1) - S t) k p ∧ v = some (.int (nearP (fun j => f ((S t + j) * 6)) (S (t + 1) - S t) k u p))) := by
  refine xM_of false (by decide) (fun h => nomatch h) (Nat.le_of_ble_eq_true rfl) (fun K C => ?_)
  show K 0 0 h 0 [(0, .ref B), (1, .int (nI t)), (2, .int k), (3, .int u)] []
  obtain ⟨fB, fce, fco, fsr⟩ := pT
  have hs0 := hS.1 t (by omega)
  have hl1 := hS.le (t + 1) (by omega)
  have hl2 := hS.2.1 t ht
  refine x_aload_n C d_Ta_placeNearest_0 rfl rfl ?_
  refine x_iload_n C d_Ta_placeNearest_1 rfl rfl ?_
  refine x_iload_n C d_Ta_placeNearest_2 rfl rfl ?_
  refine x_callV C l_Ta_41 v_Ta_placeNotBelow d_Ta_placeNearest_3 (m_Ta_placeNotBelow ⟨fB, fce, fco, fsr⟩ hS ht k) fB rfl (by rfl) (by rfl) (by decide) (by decide) (Nat.le_of_ble_eq_true rfl) ?_
  rintro v h' ⟨rfl, p, rfl, hp⟩
  have hp1 := hp.1
  refine x_istore (lv' := [(4, _), (0, _), (1, _), (2, _), (3, _)]) C d_Ta_placeNearest_6 (by decide) (by rfl) ?_
  refine x_iload_n C d_Ta_placeNearest_8 rfl rfl ?_
  refine x_if_eq (tgt := 29) C d_Ta_placeNearest_9 rfl (fun q9 => ?_) (fun q9 => ?_)
  · skip
    refine x_aload_n C d_Ta_placeNearest_29 rfl rfl ?_
    refine x_iload_n C d_Ta_placeNearest_30 rfl rfl ?_
    refine x_iload C d_Ta_placeNearest_31 rfl ?_
    refine x_iload_n C d_Ta_placeNearest_33 rfl rfl ?_
    refine x_callV C l_Ta_44 v_Ta_hasKeyAt d_Ta_placeNearest_34 (m_Ta_hasKeyAt ⟨fB, fce, fco, fsr⟩ hS ht (j := p) (by omega) k) fB rfl (by rfl) (by rfl) (by decide) (by decide) (Nat.le_of_ble_eq_true rfl) ?_
    rintro v h' ⟨rfl, rfl⟩
    refine x_if_eq (tgt := 43) C d_Ta_placeNearest_37 rfl (fun q37 => ?_) (fun q37 => ?_)
    · skip
      replace q37 := bI_f q37
      have hk : ¬ (p < S (t + 1) - S t ∧ f ((S t + p) * 6) = k) := fun z => by simp [z.1, z.2] at q37
      refine x_iload C d_Ta_placeNearest_43 rfl ?_
      refine x_if_le (tgt := 55) C d_Ta_placeNearest_45 rfl (fun q45 => ?_) (fun q45 => ?_)
      · skip
        have hp0 : ¬ 0 < p := fun z => absurd q45 (nI_nle z (by omega))
        refine x_iconst (v := -1) C d_Ta_placeNearest_55 (by decide) ?_
        refine x_iret C d_Ta_placeNearest_56 ?_
        refine ⟨rfl, p, hp, ?_⟩
        unfold nearP
        rw [if_pos q9, if_neg hk]
        first | rw [if_neg hp0] | (rw [if_pos hp0]; obtain ⟨p', rfl⟩ : ∃ p', p = p' + 1 := ⟨p - 1, by omega⟩; rw [nI_pred]; rfl)
      · skip
        have hp0 : 0 < p := by rcases Nat.eq_zero_or_pos p with z | z; exact absurd (by rw [z]; decide) q45; exact z
        refine x_iload C d_Ta_placeNearest_48 rfl ?_
        refine x_iconst (v := 1) C d_Ta_placeNearest_50 (by decide) ?_
        refine x_isub C d_Ta_placeNearest_51 ?_
        refine x_goto (tgt := 56) C d_Ta_placeNearest_52 rfl ?_
        refine x_iret C d_Ta_placeNearest_56 ?_
        refine ⟨rfl, p, hp, ?_⟩
        unfold nearP
        rw [if_pos q9, if_neg hk]
        first | rw [if_neg hp0] | (rw [if_pos hp0]; obtain ⟨p', rfl⟩ : ∃ p', p = p' + 1 := ⟨p - 1, by omega⟩; rw [nI_pred]; rfl)
    · skip
      replace q37 := bI_t q37
      have hk : p < S (t + 1) - S t ∧ f ((S t + p) * 6) = k := by simpa using q37
      refine x_iload C d_Ta_placeNearest_40 rfl ?_
      refine x_iret C d_Ta_placeNearest_42 ?_
      refine ⟨rfl, p, hp, ?_⟩
      unfold nearP
      rw [if_pos q9, if_pos hk]
  · skip
    refine x_iload C d_Ta_placeNearest_12 rfl ?_
    refine x_aload_n C d_Ta_placeNearest_14 rfl rfl ?_
    refine x_iload_n C d_Ta_placeNearest_15 rfl rfl ?_
    refine x_callV C l_Ta_35 v_Ta_rowsOf d_Ta_placeNearest_16 (m_Ta_rowsOf ⟨fB, fce, fco, fsr⟩ (nI t)) fB rfl (by rfl) (by rfl) (by decide) (by decide) (Nat.le_of_ble_eq_true rfl) ?_
    rintro v h' ⟨rfl, rfl⟩
    rw [hS.row ht]
    refine x_icmp_ge (tgt := 27) C d_Ta_placeNearest_19 rfl (fun q19 => ?_) (fun q19 => ?_)
    · skip
      have hn := nge_of q19 (by omega)
      refine x_iconst (v := -1) C d_Ta_placeNearest_27 (by decide) ?_
      refine x_iret C d_Ta_placeNearest_28 ?_
      refine ⟨rfl, p, hp, ?_⟩
      unfold nearP
      rw [if_neg q9]
      first | rw [if_pos hn] | rw [if_neg (by omega)]
    · skip
      have hn := nlt_of q19 (by omega) (by omega)
      refine x_iload C d_Ta_placeNearest_22 rfl ?_
      refine x_goto (tgt := 28) C d_Ta_placeNearest_24 rfl ?_
      refine x_iret C d_Ta_placeNearest_28 ?_
      refine ⟨rfl, p, hp, ?_⟩
      unfold nearP
      rw [if_neg q9]
      first | rw [if_pos hn] | rw [if_neg (by omega)]
set_option maxRecDepth 20000 in
set_option maxHeartbeats 1000000 in
theorem m_Ta_create {V : xV} {h : xH} {B ce co sr : Nat} {f c s : Nat → Int32} (pT : pTa V h B ce co sr f c s) {t : Nat} (ht : t < 10) (k : Int32) : xM V y_Ta_create b_Ta_create 3 (some .int) 2 [.ref B, .int (nI t), .int k] h 0 0 (fun v h' => (v = some (.int (-3)) ∧ ¬ colOf c (nI t) ≤ 0 ∧ h' = h) ∨ (v = some (.int 0) ∧ colOf c (nI t) ≤ 0 ∧ h' = va_up h co (some (xI V 10 (upd c t k))))) := by
  refine xM_of false (by decide) (fun h => nomatch h) (Nat.le_of_ble_eq_true rfl) (fun K C => ?_)
  show K 0 0 h 0 [(0, .ref B), (1, .int (nI t)), (2, .int k)] []
  obtain ⟨fB, fce, fco, fsr⟩ := pT
  refine x_aload_n C d_Ta_create_0 rfl rfl ?_
  refine x_iload_n C d_Ta_create_1 rfl rfl ?_
  refine x_callV C l_Ta_48 v_Ta_isThere d_Ta_create_2 (m_Ta_isThere ⟨fB, fce, fco, fsr⟩ (nI t)) fB rfl (by rfl) (by rfl) (by decide) (by decide) (Nat.le_of_ble_eq_true rfl) ?_
  rintro v h' ⟨rfl, rfl⟩
  refine x_if_eq (tgt := 11) C d_Ta_create_5 rfl (fun q5 => ?_) (fun q5 => ?_)
  · skip
    replace q5 := bI_f q5
    refine x_aload_n C d_Ta_create_11 rfl rfl ?_
    refine x_get C k_Ta f_Ta_15 d_Ta_create_12 fB (by rfl) ?_
    refine x_iload_n C d_Ta_create_15 rfl rfl ?_
    refine x_iload_n C d_Ta_create_16 rfl rfl ?_
    refine x_iast C d_Ta_create_17 fco (vp_in_nI ht (by decide)) (fun h1 u1 => ?_)
    have fB := xUp_ne u1 fB (by first | assumption | exact Ne.symm (by assumption) | exact x_ne fB fco (by simp))
    have fce := xUp_ne u1 fce (by first | assumption | exact Ne.symm (by assumption) | exact x_ne fce fco (by simp))
    have fsr := xUp_ne u1 fsr (by first | assumption | exact Ne.symm (by assumption) | exact x_ne fsr fco (by simp))
    have fco := xUp_at u1
    refine x_iconst (v := 0) C d_Ta_create_18 (by decide) ?_
    refine x_iret C d_Ta_create_19 ?_
    refine Or.inr ⟨rfl, by simpa using q5, ?_⟩
    rw [u1, nI_clamp (by omega)]
  · skip
    replace q5 := bI_t q5
    refine x_bipush (v := -3) C d_Ta_create_8 (by decide) ?_
    refine x_iret C d_Ta_create_10 ?_
    exact Or.inl ⟨rfl, by simpa using q5, rfl⟩
set_option maxRecDepth 20000 in
set_option maxHeartbeats 1000000 in
theorem m_Ta_moveStartsBehind {V : xV} {h : xH} {B ce co sr : Nat} {f c s : Nat → Int32} (pT : pTa V h B ce co sr f c s) {t : Nat} (ht : t < 10) (k : Int32) : xM V y_Ta_moveStartsBehind b_Ta_moveStartsBehind 4 none 0 [.ref B, .int (nI t), .int k] h 0 0 (fun v h' => v = none ∧ ∃ s', pTa V h' B ce co sr f c s' ∧ (∀ i, s' i = if t < i ∧ i < 11 then s i + k else s i) ∧ xKeep [sr] h h') := by
  refine xM_of false (by decide) (fun h => nomatch h) (Nat.le_of_ble_eq_true rfl) (fun K C => ?_)
  show K 0 0 h 0 [(0, .ref B), (1, .int (nI t)), (2, .int k)] []
  have kp : xKeep [sr] h h := xKeep.rf
  obtain ⟨fB, fce, fco, fsr⟩ := pT
  have loop : ∀ m : Nat, ∀ (j : Nat) (h1 : xH) (s1 : Nat → Int32), 11 - j < m → t < j → j ≤ 11 → pTa V h1 B ce co sr f c s1 → xKeep [sr] h h1 → (∀ i, s1 i = if t < i ∧ i < j then s i + k else s i) → K 0 0 h1 4 [(3, .int (nI j)), (0, .ref B), (1, .int (nI t)), (2, .int k)] [] := by
    intro m
    induction m with
    | zero => intro j h1 s1 hm hj hj2 pT kp hs1; omega
    | succ m ih =>
      intro j h1 s1 hm hj hj2 pT kp hs1
      obtain ⟨fB, fce, fco, fsr⟩ := pT
      refine x_iload_n C d_Ta_moveStartsBehind_4 rfl rfl ?_
      refine x_bipush (v := 10) C d_Ta_moveStartsBehind_5 (by decide) ?_
      refine x_icmp_gt (tgt := 26) C d_Ta_moveStartsBehind_7 rfl (fun q7 => ?_) (fun q7 => ?_)
      · skip
        have hj10 : 10 < j := llt_of (a := 10) (b := j) q7 (by decide)
        refine x_vret C d_Ta_moveStartsBehind_26 ?_
        have hj11 : j = 11 := by omega
        subst hj11
        exact ⟨rfl, s1, ⟨fB, fce, fco, fsr⟩, hs1, kp⟩
      · skip
        have hj10 : j ≤ 10 := lge_of (b := j) (a := 10) q7 (by omega)
        refine x_aload_n C d_Ta_moveStartsBehind_10 rfl rfl ?_
        refine x_get C k_Ta f_Ta_18 d_Ta_moveStartsBehind_11 fB (by rfl) ?_
        refine x_iload_n C d_Ta_moveStartsBehind_14 rfl rfl ?_
        refine x_dup2 C d_Ta_moveStartsBehind_15 rfl rfl ?_
        refine x_iald C d_Ta_moveStartsBehind_16 fsr (vp_in_nI (by omega) (by decide)) ?_
        refine x_iload_n C d_Ta_moveStartsBehind_17 rfl rfl ?_
        refine x_iadd C d_Ta_moveStartsBehind_18 ?_
        refine x_iast C d_Ta_moveStartsBehind_19 fsr (vp_in_nI (by omega) (by decide)) (fun h1 u1 => ?_)
        have fB := xUp_ne u1 fB (by first | assumption | exact Ne.symm (by assumption) | exact x_ne fB fsr (by simp))
        have fce := xUp_ne u1 fce (by first | assumption | exact Ne.symm (by assumption) | exact x_ne fce fsr (by simp))
        have fco := xUp_ne u1 fco (by first | assumption | exact Ne.symm (by assumption) | exact x_ne fco fsr (by simp))
        have fsr := xUp_at u1
        have kp := kp.up u1 (by simp)
        refine x_iinc (v := nI (j + 1)) (k0 := 0) (lv' := [(3, _), (0, _), (1, _), (2, _)]) C d_Ta_moveStartsBehind_20 (by rfl) (nI_1 j) (by decide) (by rfl) ?_
        refine x_goto (tgt := 4) C d_Ta_moveStartsBehind_23 rfl ?_
        refine ih (j + 1) _ (upd s1 j (s1 j + k)) (by omega) (by omega) (by omega) ⟨fB, fce, fco, ?_⟩ kp (mv_step hs1 hj)
        rw [fsr, nI_clamp (by omega)]
  refine x_iload_n C d_Ta_moveStartsBehind_0 rfl rfl ?_
  refine x_iconst (v := 1) C d_Ta_moveStartsBehind_1 (by decide) ?_
  refine x_iadd C d_Ta_moveStartsBehind_2 ?_
  refine x_istore_n (lv' := [(3, _), (0, _), (1, _), (2, _)]) C d_Ta_moveStartsBehind_3 rfl (by decide) (by rfl) ?_
  rw [nI_1]
  exact loop 12 (t + 1) h s (by omega) (by omega) (by omega) ⟨fB, fce, fco, fsr⟩ xKeep.rf (fun i => by rw [if_neg (by omega)])
set_option maxRecDepth 20000 in
set_option maxHeartbeats 1000000 in
theorem m_Ta_insert {V : xV} {h : xH} {B ce co sr : Nat} {f c s : Nat → Int32} (pT : pTa V h B ce co sr f c s) {S : Nat → Nat} (hS : pS s S) {t : Nat} (ht : t < 10) {nb : Nat} {g : Nat → Int32} (fnb : h nb = some (xI V 6 g)) : xM V y_Ta_insert b_Ta_insert 5 (some .int) 3 [.ref B, .int (nI t), .ref nb] h 0 0 (fun v h' => ∃ p, pNB (fun j => f ((S t + j) * 6)) (S (t + 1) - S t) (g 0) p ∧ ((v = some (.int (-1)) ∧ (p < S (t + 1) - S t ∧ f ((S t + p) * 6) = g 0) ∧ h' = h) ∨ (v = some (.int (-2)) ∧ ¬ (p < S (t + 1) - S t ∧ f ((S t + p) * 6) = g 0) ∧ 400 ≤ S 10 ∧ h' = h) ∨ (v = some (.int 0) ∧ ¬ (p < S (t + 1) - S t ∧ f ((S t + p) * 6) = g 0) ∧ S 10 < 400 ∧ ∃ s', pTa V h' B ce co sr (va_cpy g (va_cpy f f ((S t + p) * 6) ((S t + p) * 6 + 6) (S 10 * 6 - (S t + p) * 6)) 0 ((S t + p) * 6) 6) c s' ∧ (∀ i, s' i = if t < i ∧ i < 11 then s i + 1 else s i) ∧ xKeep [ce, sr] h h'))) := by
  refine xM_of false (by decide) (fun h => nomatch h) (Nat.le_of_ble_eq_true rfl) (fun K C => ?_)
  show K 0 0 h 0 [(0, .ref B), (1, .int (nI t)), (2, .ref nb)] []
  have kp : xKeep [ce, sr] h h := xKeep.rf
  obtain ⟨fB, fce, fco, fsr⟩ := pT
  have hs0 := hS.1 t (by omega)
  have hl1 := hS.le (t + 1) (by omega)
  have hl2 := hS.2.1 t ht
  have hs10 := hS.1 10 (by omega)
  have hl10 := hS.2.2
  refine x_aload_n C d_Ta_insert_0 rfl rfl ?_
  refine x_iload_n C d_Ta_insert_1 rfl rfl ?_
  refine x_aload_n C d_Ta_insert_2 rfl rfl ?_
  refine x_iconst (v := 0) C d_Ta_insert_3 (by decide) ?_
  refine x_iald C d_Ta_insert_4 fnb (vp_in_nI (n := 0) (by decide) (by decide)) ?_
  refine x_callV C l_Ta_41 v_Ta_placeNotBelow d_Ta_insert_5 (m_Ta_placeNotBelow ⟨fB, fce, fco, fsr⟩ hS ht (g 0)) fB rfl (by rfl) (by rfl) (by decide) (by decide) (Nat.le_of_ble_eq_true rfl) ?_
  rintro v h' ⟨rfl, p, rfl, hp⟩
  have hp1 := hp.1
  refine x_istore_n (lv' := [(3, _), (0, _), (1, _), (2, _)]) C d_Ta_insert_8 rfl (by decide) (by rfl) ?_
  refine x_aload_n C d_Ta_insert_9 rfl rfl ?_
  refine x_iload_n C d_Ta_insert_10 rfl rfl ?_
  refine x_iload_n C d_Ta_insert_11 rfl rfl ?_
  refine x_aload_n C d_Ta_insert_12 rfl rfl ?_
  refine x_iconst (v := 0) C d_Ta_insert_13 (by decide) ?_
  refine x_iald C d_Ta_insert_14 fnb (vp_in_nI (n := 0) (by decide) (by decide)) ?_
  refine x_callV C l_Ta_44 v_Ta_hasKeyAt d_Ta_insert_15 (m_Ta_hasKeyAt ⟨fB, fce, fco, fsr⟩ hS ht (j := p) (by omega) (g 0)) fB rfl (by rfl) (by rfl) (by decide) (by decide) (Nat.le_of_ble_eq_true rfl) ?_
  rintro v h' ⟨rfl, rfl⟩
  refine x_if_eq (tgt := 23) C d_Ta_insert_18 rfl (fun q18 => ?_) (fun q18 => ?_)
  · skip
    replace q18 := bI_f q18
    have hk : ¬ (p < S (t + 1) - S t ∧ f ((S t + p) * 6) = g 0) := fun z => by simp [z.1, z.2] at q18
    refine x_aload_n C d_Ta_insert_23 rfl rfl ?_
    refine x_callV C l_Ta_52 v_Ta_rowsInAll d_Ta_insert_24 (m_Ta_rowsInAll ⟨fB, fce, fco, fsr⟩) fB rfl (by rfl) (by rfl) (by decide) (by decide) (Nat.le_of_ble_eq_true rfl) ?_
    rintro v h' ⟨rfl, rfl⟩
    rw [hs10]
    refine x_sipush (v := 400) C d_Ta_insert_27 (by decide) ?_
    refine x_icmp_lt (tgt := 36) C d_Ta_insert_30 rfl (fun q30 => ?_) (fun q30 => ?_)
    · skip
      have hfull : S 10 < 400 := llt_of (b := 400) q30 (by omega)
      have hle : (S t + p) * 6 ≤ S 10 * 6 := by have := hS.mono (t + 1) 10 (by omega) (by omega); omega
      have hdp : nI ((S t + p) * 6) + 6 = nI ((S t + p) * 6 + 6) := nI_add _ 6
      have hln : nI (S 10) * 6 - nI ((S t + p) * 6) = nI (S 10 * 6 - (S t + p) * 6) := by rw [show nI (S 10) * 6 = nI (S 10 * 6) from pk_mul (S 10) 6, pk_sub hle]
      refine x_aload_n C d_Ta_insert_36 rfl rfl ?_
      refine x_iload_n C d_Ta_insert_37 rfl rfl ?_
      refine x_iload_n C d_Ta_insert_38 rfl rfl ?_
      refine x_callV C l_Ta_25 v_Ta_cellOf d_Ta_insert_39 (m_Ta_cellOf ⟨fB, fce, fco, fsr⟩ (t := t) (by omega) (nI p)) fB rfl (by rfl) (by rfl) (by decide) (by decide) (Nat.le_of_ble_eq_true rfl) ?_
      rintro v h' ⟨rfl, rfl⟩
      rw [hs0, cell_eq]
      refine x_istore (lv' := [(4, _), (3, _), (0, _), (1, _), (2, _)]) C d_Ta_insert_42 (by decide) (by rfl) ?_
      refine x_aload_n C d_Ta_insert_44 rfl rfl ?_
      refine x_get C k_Ta f_Ta_9 d_Ta_insert_45 fB (by rfl) ?_
      refine x_iload C d_Ta_insert_48 rfl ?_
      refine x_aload_n C d_Ta_insert_50 rfl rfl ?_
      refine x_get C k_Ta f_Ta_9 d_Ta_insert_51 fB (by rfl) ?_
      refine x_iload C d_Ta_insert_54 rfl ?_
      refine x_bipush (v := 6) C d_Ta_insert_56 (by decide) ?_
      refine x_iadd C d_Ta_insert_58 ?_
      refine x_aload_n C d_Ta_insert_59 rfl rfl ?_
      refine x_callV C l_Ta_52 v_Ta_rowsInAll d_Ta_insert_60 (m_Ta_rowsInAll ⟨fB, fce, fco, fsr⟩) fB rfl (by rfl) (by rfl) (by decide) (by decide) (Nat.le_of_ble_eq_true rfl) ?_
      rintro v h' ⟨rfl, rfl⟩
      rw [hs10]
      refine x_bipush (v := 6) C d_Ta_insert_63 (by decide) ?_
      refine x_imul C d_Ta_insert_65 ?_
      refine x_iload C d_Ta_insert_66 rfl ?_
      refine x_isub C d_Ta_insert_68 ?_
      refine x_copy C ⟨l_Ta_29, acp.1, acp.2.1, acp.2.2⟩ (by decide) (Nat.le_of_ble_eq_true rfl) fce fce (nI_pos (by omega)) (by rw [hdp]; exact nI_pos (by omega)) (by rw [hln]; exact nI_pos (by omega)) (by rw [hln, nI_clamp (by omega), nI_clamp (by omega)]; omega) (by rw [hln, hdp, nI_clamp (by omega), nI_clamp (by omega)]; omega) d_Ta_insert_69 (fun h1 u1 => ?_)
      have fB := xUp_ne u1 fB (by first | assumption | exact Ne.symm (by assumption) | exact x_ne fB fce (by simp))
      have fco := xUp_ne u1 fco (by first | assumption | exact Ne.symm (by assumption) | exact x_ne fco fce (by simp))
      have fsr := xUp_ne u1 fsr (by first | assumption | exact Ne.symm (by assumption) | exact x_ne fsr fce (by simp))
      have fnb := xUp_ne u1 fnb (by first | assumption | exact Ne.symm (by assumption) | exact x_ne fnb fce (by simp))
      have fce := xUp_at u1
      have kp := kp.up u1 (by simp)
      refine x_aload_n C d_Ta_insert_72 rfl rfl ?_
      refine x_iconst (v := 0) C d_Ta_insert_73 (by decide) ?_
      refine x_aload_n C d_Ta_insert_74 rfl rfl ?_
      refine x_get C k_Ta f_Ta_9 d_Ta_insert_75 fB (by rfl) ?_
      refine x_iload C d_Ta_insert_78 rfl ?_
      refine x_bipush (v := 6) C d_Ta_insert_80 (by decide) ?_
      refine x_copy C ⟨l_Ta_29, acp.1, acp.2.1, acp.2.2⟩ (by decide) (Nat.le_of_ble_eq_true rfl) fnb fce (by decide) (nI_pos (by omega)) (by decide) (by decide) (by rw [nI_clamp (by omega)]; show (S t + p) * 6 + 6 ≤ 2400; omega) d_Ta_insert_82 (fun h2 u2 => ?_)
      have fB := xUp_ne u2 fB (by first | assumption | exact Ne.symm (by assumption) | exact x_ne fB fce (by simp))
      have fco := xUp_ne u2 fco (by first | assumption | exact Ne.symm (by assumption) | exact x_ne fco fce (by simp))
      have fsr := xUp_ne u2 fsr (by first | assumption | exact Ne.symm (by assumption) | exact x_ne fsr fce (by simp))
      have fnb := xUp_ne u2 fnb (by first | assumption | exact Ne.symm (by assumption) | exact x_ne fnb fce (by simp))
      have fce := xUp_at u2
      have kp := kp.up u2 (by simp)
      refine x_aload_n C d_Ta_insert_85 rfl rfl ?_
      refine x_iload_n C d_Ta_insert_86 rfl rfl ?_
      refine x_iconst (v := 1) C d_Ta_insert_87 (by decide) ?_
      refine x_callV C l_Ta_56 v_Ta_moveStartsBehind d_Ta_insert_88 (m_Ta_moveStartsBehind ⟨fB, fce, fco, fsr⟩ ht 1) fB rfl (by rfl) (by rfl) (by decide) (by decide) (Nat.le_of_ble_eq_true rfl) ?_
      rintro v h' ⟨rfl, s', pT', hs', kp'⟩
      have kp := kp.tr (kp'.mono (by simp))
      refine x_iconst (v := 0) C d_Ta_insert_91 (by decide) ?_
      refine x_iret C d_Ta_insert_92 ?_
      rw [hdp, hln, nI_clamp (by omega), nI_clamp (by omega), nI_clamp (by omega)] at pT'
      exact ⟨p, hp, Or.inr (Or.inr ⟨rfl, hk, hfull, s', pT', hs', kp⟩)⟩
    · skip
      have hfull : 400 ≤ S 10 := lge_of (b := 400) q30 (by decide)
      refine x_bipush (v := -2) C d_Ta_insert_33 (by decide) ?_
      refine x_iret C d_Ta_insert_35 ?_
      exact ⟨p, hp, Or.inr (Or.inl ⟨rfl, hk, hfull, rfl⟩)⟩
  · skip
    replace q18 := bI_t q18
    have hk : p < S (t + 1) - S t ∧ f ((S t + p) * 6) = g 0 := by simpa using q18
    refine x_iconst (v := -1) C d_Ta_insert_21 (by decide) ?_
    refine x_iret C d_Ta_insert_22 ?_
    exact ⟨p, hp, Or.inl ⟨rfl, hk, rfl⟩⟩
set_option maxRecDepth 20000 in
set_option maxHeartbeats 1000000 in
theorem m_Ta_remove {V : xV} {h : xH} {B ce co sr : Nat} {f c s : Nat → Int32} (pT : pTa V h B ce co sr f c s) {S : Nat → Nat} (hS : pS s S) {t : Nat} (ht : t < 10) {j : Nat} (hj : j < S (t + 1) - S t) : xM V y_Ta_remove b_Ta_remove 4 none 3 [.ref B, .int (nI t), .int (nI j)] h 0 0 (fun v h' => v = none ∧ ∃ s', pTa V h' B ce co sr (va_cpy f f ((S t + j + 1) * 6) ((S t + j + 1) * 6 - 6) (S 10 * 6 - (S t + j + 1) * 6)) c s' ∧ (∀ i, s' i = if t < i ∧ i < 11 then s i + (-1) else s i) ∧ xKeep [ce, sr] h h') := by
  refine xM_of false (by decide) (fun h => nomatch h) (Nat.le_of_ble_eq_true rfl) (fun K C => ?_)
  show K 0 0 h 0 [(0, .ref B), (1, .int (nI t)), (2, .int (nI j))] []
  have kp : xKeep [ce, sr] h h := xKeep.rf
  obtain ⟨fB, fce, fco, fsr⟩ := pT
  have hs0 := hS.1 t (by omega)
  have hl1 := hS.le (t + 1) (by omega)
  have hl2 := hS.2.1 t ht
  have hs10 := hS.1 10 (by omega)
  have hl10 := hS.2.2
  have hle : (S t + j + 1) * 6 ≤ S 10 * 6 := by have := hS.mono (t + 1) 10 (by omega) (by omega); omega
  have hdp : nI ((S t + j + 1) * 6) - 6 = nI ((S t + j + 1) * 6 - 6) := pk_sub (b := 6) (by omega)
  have hln : nI (S 10) * 6 - nI ((S t + j + 1) * 6) = nI (S 10 * 6 - (S t + j + 1) * 6) := by rw [show nI (S 10) * 6 = nI (S 10 * 6) from pk_mul (S 10) 6, pk_sub hle]
  refine x_aload_n C d_Ta_remove_0 rfl rfl ?_
  refine x_iload_n C d_Ta_remove_1 rfl rfl ?_
  refine x_iload_n C d_Ta_remove_2 rfl rfl ?_
  refine x_iconst (v := 1) C d_Ta_remove_3 (by decide) ?_
  refine x_iadd C d_Ta_remove_4 ?_
  refine x_callV C l_Ta_25 v_Ta_cellOf d_Ta_remove_5 (m_Ta_cellOf ⟨fB, fce, fco, fsr⟩ (t := t) (by omega) (nI j + 1)) fB rfl (by rfl) (by rfl) (by decide) (by decide) (Nat.le_of_ble_eq_true rfl) ?_
  rintro v h' ⟨rfl, rfl⟩
  rw [hs0, nI_1, cell_eq, show S t + (j + 1) = S t + j + 1 by omega]
  refine x_istore_n (lv' := [(3, _), (0, _), (1, _), (2, _)]) C d_Ta_remove_8 rfl (by decide) (by rfl) ?_
  refine x_aload_n C d_Ta_remove_9 rfl rfl ?_
  refine x_get C k_Ta f_Ta_9 d_Ta_remove_10 fB (by rfl) ?_
  refine x_iload_n C d_Ta_remove_13 rfl rfl ?_
  refine x_aload_n C d_Ta_remove_14 rfl rfl ?_
  refine x_get C k_Ta f_Ta_9 d_Ta_remove_15 fB (by rfl) ?_
  refine x_iload_n C d_Ta_remove_18 rfl rfl ?_
  refine x_bipush (v := 6) C d_Ta_remove_19 (by decide) ?_
  refine x_isub C d_Ta_remove_21 ?_
  refine x_aload_n C d_Ta_remove_22 rfl rfl ?_
  refine x_callV C l_Ta_52 v_Ta_rowsInAll d_Ta_remove_23 (m_Ta_rowsInAll ⟨fB, fce, fco, fsr⟩) fB rfl (by rfl) (by rfl) (by decide) (by decide) (Nat.le_of_ble_eq_true rfl) ?_
  rintro v h' ⟨rfl, rfl⟩
  rw [hs10]
  refine x_bipush (v := 6) C d_Ta_remove_26 (by decide) ?_
  refine x_imul C d_Ta_remove_28 ?_
  refine x_iload_n C d_Ta_remove_29 rfl rfl ?_
  refine x_isub C d_Ta_remove_30 ?_
  refine x_copy C ⟨l_Ta_29, acp.1, acp.2.1, acp.2.2⟩ (by decide) (Nat.le_of_ble_eq_true rfl) fce fce (nI_pos (by omega)) (by rw [hdp]; exact nI_pos (by omega)) (by rw [hln]; exact nI_pos (by omega)) (by rw [hln, nI_clamp (by omega), nI_clamp (by omega)]; omega) (by rw [hln, hdp, nI_clamp (by omega), nI_clamp (by omega)]; omega) d_Ta_remove_31 (fun h1 u1 => ?_)
  have fB := xUp_ne u1 fB (by first | assumption | exact Ne.symm (by assumption) | exact x_ne fB fce (by simp))
  have fco := xUp_ne u1 fco (by first | assumption | exact Ne.symm (by assumption) | exact x_ne fco fce (by simp))
  have fsr := xUp_ne u1 fsr (by first | assumption | exact Ne.symm (by assumption) | exact x_ne fsr fce (by simp))
  have fce := xUp_at u1
  have kp := kp.up u1 (by simp)
  refine x_aload_n C d_Ta_remove_34 rfl rfl ?_
  refine x_iload_n C d_Ta_remove_35 rfl rfl ?_
  refine x_iconst (v := -1) C d_Ta_remove_36 (by decide) ?_
  refine x_callV C l_Ta_56 v_Ta_moveStartsBehind d_Ta_remove_37 (m_Ta_moveStartsBehind ⟨fB, fce, fco, fsr⟩ ht (-1)) fB rfl (by rfl) (by rfl) (by decide) (by decide) (Nat.le_of_ble_eq_true rfl) ?_
  rintro v h' ⟨rfl, s', pT', hs', kp'⟩
  have kp := kp.tr (kp'.mono (by simp))
  refine x_vret C d_Ta_remove_40 ?_
  rw [hdp, hln, nI_clamp (by omega), nI_clamp (by omega), nI_clamp (by omega)] at pT'
  exact ⟨rfl, s', pT', hs', kp⟩
set_option maxRecDepth 20000 in
set_option maxHeartbeats 1000000 in
theorem m_Ta_drop {V : xV} {h : xH} {B ce co sr : Nat} {f c s : Nat → Int32} (pT : pTa V h B ce co sr f c s) : xM V y_Ta_drop b_Ta_drop 2 none 0 [.ref B] h 0 0 (fun v h' => v = none ∧ ∃ c' s', pTa V h' B ce co sr f c' s' ∧ (∀ i, i < 10 → c' i = 0) ∧ (∀ i, 1 ≤ i → i < 11 → s' i = 0) ∧ s' 0 = s 0 ∧ xKeep [co, sr] h h') := by
  refine xM_of false (by decide) (fun h => nomatch h) (Nat.le_of_ble_eq_true rfl) (fun K C => ?_)
  show K 0 0 h 0 [(0, .ref B)] []
  have kp : xKeep [co, sr] h h := xKeep.rf
  obtain ⟨fB, fce, fco, fsr⟩ := pT
  have loop : ∀ m : Nat, ∀ (j : Nat) (h1 : xH) (c1 s1 : Nat → Int32), 10 - j < m → j ≤ 10 → pTa V h1 B ce co sr f c1 s1 → (∀ i, i < j → c1 i = 0) → (∀ i, 1 ≤ i → i < j + 1 → s1 i = 0) → s1 0 = s 0 → xKeep [co, sr] h h1 → K 0 0 h1 2 [(1, .int (nI j)), (0, .ref B)] [] := by
    intro m
    induction m with
    | zero => intro j h1 c1 s1 hm hj pT hc1 hs1 hs0 kp; omega
    | succ m ih =>
      intro j h1 c1 s1 hm hj pT hc1 hs1 hs0 kp
      obtain ⟨fB, fce, fco, fsr⟩ := pT
      refine x_iload_n C d_Ta_drop_2 rfl rfl ?_
      refine x_bipush (v := 10) C d_Ta_drop_3 (by decide) ?_
      refine x_icmp_ge (tgt := 30) C d_Ta_drop_5 rfl (fun q5 => ?_) (fun q5 => ?_)
      · skip
        have hj10 : 10 ≤ j := nge_of (b := 10) q5 (by decide)
        refine x_vret C d_Ta_drop_30 ?_
        have hj11 : j = 10 := by omega
        subst hj11
        exact ⟨rfl, c1, s1, ⟨fB, fce, fco, fsr⟩, hc1, hs1, hs0, kp⟩
      · skip
        have hj10 : j < 10 := nlt_of (b := 10) q5 (by decide) (by omega)
        refine x_aload_n C d_Ta_drop_8 rfl rfl ?_
        refine x_get C k_Ta f_Ta_15 d_Ta_drop_9 fB (by rfl) ?_
        refine x_iload_n C d_Ta_drop_12 rfl rfl ?_
        refine x_iconst (v := 0) C d_Ta_drop_13 (by decide) ?_
        refine x_iast C d_Ta_drop_14 fco (vp_in_nI (by omega) (by decide)) (fun h1 u1 => ?_)
        have fB := xUp_ne u1 fB (by first | assumption | exact Ne.symm (by assumption) | exact x_ne fB fco (by simp))
        have fce := xUp_ne u1 fce (by first | assumption | exact Ne.symm (by assumption) | exact x_ne fce fco (by simp))
        have fsr := xUp_ne u1 fsr (by first | assumption | exact Ne.symm (by assumption) | exact x_ne fsr fco (by simp))
        have fco := xUp_at u1
        have kp := kp.up u1 (by simp)
        refine x_aload_n C d_Ta_drop_15 rfl rfl ?_
        refine x_get C k_Ta f_Ta_18 d_Ta_drop_16 fB (by rfl) ?_
        refine x_iload_n C d_Ta_drop_19 rfl rfl ?_
        refine x_iconst (v := 1) C d_Ta_drop_20 (by decide) ?_
        refine x_iadd C d_Ta_drop_21 ?_
        refine x_iconst (v := 0) C d_Ta_drop_22 (by decide) ?_
        refine x_iast C d_Ta_drop_23 fsr (by rw [nI_1]; exact vp_in_nI (by omega) (by decide)) (fun h2 u2 => ?_)
        have fB := xUp_ne u2 fB (by first | assumption | exact Ne.symm (by assumption) | exact x_ne fB fsr (by simp))
        have fce := xUp_ne u2 fce (by first | assumption | exact Ne.symm (by assumption) | exact x_ne fce fsr (by simp))
        have fco := xUp_ne u2 fco (by first | assumption | exact Ne.symm (by assumption) | exact x_ne fco fsr (by simp))
        have fsr := xUp_at u2
        have kp := kp.up u2 (by simp)
        refine x_iinc (v := nI (j + 1)) (k0 := 0) (lv' := [(1, _), (0, _)]) C d_Ta_drop_24 (by rfl) (nI_1 j) (by decide) (by rfl) ?_
        refine x_goto (tgt := 2) C d_Ta_drop_27 rfl ?_
        refine ih (j + 1) _ (upd c1 j 0) (upd s1 (j + 1) 0) (by omega) (by omega) ⟨fB, fce, ?_, ?_⟩ (lt_s (fun i hi => by rw [pk_un (by omega)]; exact hc1 i hi) pk_us) (fun i h1 h2 => ?_) (by rw [pk_un (by omega)]; exact hs0) kp
        · rw [fco, nI_clamp (by omega)]
        · rw [fsr, nI_1, nI_clamp (by omega)]
        · by_cases hi : i = j + 1
          · rw [hi]; exact pk_us
          · rw [pk_un hi]; exact hs1 i h1 (by omega)
  refine x_iconst (v := 0) C d_Ta_drop_0 (by decide) ?_
  refine x_istore_n (lv' := [(1, _), (0, _)]) C d_Ta_drop_1 rfl (by decide) (by rfl) ?_
  exact loop 11 0 h c s (by omega) (by omega) ⟨fB, fce, fco, fsr⟩ lt_0 (fun i h1 h2 => absurd h2 (by omega)) rfl xKeep.rf
set_option maxRecDepth 20000 in
set_option maxHeartbeats 1000000 in
theorem m_Ta_init {V : xV} {h : xH} {B : Nat} (fB : h B = some (.inr (5, [.null, .null, .null]))) : xM V y_Ta_init b_Ta_init 1 none 1 [.ref B] h 3 2421 (fun v h' => v = none ∧ ∃ ce co sr, pTa V h' B ce co sr (fun _ => 0) (fun _ => 0) (fun _ => 0) ∧ h ce = none ∧ h co = none ∧ h sr = none ∧ xKeep [B] h h') := by
  refine xM_of true (by decide) (fun _ => rfl) (Nat.le_of_ble_eq_true rfl) (fun K C => ?_)
  show K 3 2421 h 0 [(0, .ref B)] []
  have kp : xKeep [B] h h := xKeep.rf
  refine x_aload_n C d_Ta_init_0 rfl rfl ?_
  refine x_objInit C ⟨l_Ta_3, oi_i, oi_c⟩ (by decide) (Nat.le_of_ble_eq_true rfl) d_Ta_init_1 ?_
  refine x_aload_n C d_Ta_init_4 rfl rfl ?_
  refine x_sipush (v := 2400) C d_Ta_init_5 (by decide) ?_
  refine x_newI (N := 2400) C ac_int d_Ta_init_8 (by decide) (by decide) (by decide) (fun ce h1 n1 u1 => ?_)
  have x1_B := x_nn fB n1
  have fB := xUp_new u1 n1 fB
  have z_ce := kp.isn n1 (by simp only [List.mem_cons, List.not_mem_nil, or_false, not_or]; exact Ne.symm x1_B)
  have kp := kp.upN u1 z_ce
  have f_ce := xUp_at u1
  refine x_putF (fs' := [_, _, _]) C k_Ta g_Ta_9 d_Ta_init_10 fB (by rfl) (by rfl) (by rfl) (Nat.le_of_ble_eq_true rfl) (by rfl) (fun h2 u2 => ?_)
  have f_ce := xUp_ne u2 f_ce (by first | assumption | exact Ne.symm (by assumption) | exact x_ne f_ce fB (by simp))
  have fB := xUp_at u2
  have kp := kp.up u2 (by simp)
  refine x_aload_n C d_Ta_init_13 rfl rfl ?_
  refine x_bipush (v := 10) C d_Ta_init_14 (by decide) ?_
  refine x_newI (N := 10) C ac_int d_Ta_init_16 (by decide) (by decide) (by decide) (fun co h3 n3 u3 => ?_)
  have x3_B := x_nn fB n3
  have x3_ce := x_nn f_ce n3
  have fB := xUp_new u3 n3 fB
  have f_ce := xUp_new u3 n3 f_ce
  have z_co := kp.isn n3 (by simp only [List.mem_cons, List.not_mem_nil, or_false, not_or]; exact Ne.symm x3_B)
  have kp := kp.upN u3 z_co
  have f_co := xUp_at u3
  refine x_putF (fs' := [_, _, _]) C k_Ta g_Ta_15 d_Ta_init_18 fB (by rfl) (by rfl) (by rfl) (Nat.le_of_ble_eq_true rfl) (by rfl) (fun h4 u4 => ?_)
  have f_ce := xUp_ne u4 f_ce (by first | assumption | exact Ne.symm (by assumption) | exact x_ne f_ce fB (by simp))
  have f_co := xUp_ne u4 f_co (by first | assumption | exact Ne.symm (by assumption) | exact x_ne f_co fB (by simp))
  have fB := xUp_at u4
  have kp := kp.up u4 (by simp)
  refine x_aload_n C d_Ta_init_21 rfl rfl ?_
  refine x_bipush (v := 11) C d_Ta_init_22 (by decide) ?_
  refine x_newI (N := 11) C ac_int d_Ta_init_24 (by decide) (by decide) (by decide) (fun sr h5 n5 u5 => ?_)
  have x5_B := x_nn fB n5
  have x5_ce := x_nn f_ce n5
  have x5_co := x_nn f_co n5
  have fB := xUp_new u5 n5 fB
  have f_ce := xUp_new u5 n5 f_ce
  have f_co := xUp_new u5 n5 f_co
  have z_sr := kp.isn n5 (by simp only [List.mem_cons, List.not_mem_nil, or_false, not_or]; exact Ne.symm x5_B)
  have kp := kp.upN u5 z_sr
  have f_sr := xUp_at u5
  refine x_putF (fs' := [_, _, _]) C k_Ta g_Ta_18 d_Ta_init_26 fB (by rfl) (by rfl) (by rfl) (Nat.le_of_ble_eq_true rfl) (by rfl) (fun h6 u6 => ?_)
  have f_ce := xUp_ne u6 f_ce (by first | assumption | exact Ne.symm (by assumption) | exact x_ne f_ce fB (by simp))
  have f_co := xUp_ne u6 f_co (by first | assumption | exact Ne.symm (by assumption) | exact x_ne f_co fB (by simp))
  have f_sr := xUp_ne u6 f_sr (by first | assumption | exact Ne.symm (by assumption) | exact x_ne f_sr fB (by simp))
  have fB := xUp_at u6
  have kp := kp.up u6 (by simp)
  refine x_vret C d_Ta_init_29 ?_
  exact ⟨rfl, ce, co, sr, ⟨fB, f_ce, f_co, f_sr⟩, z_ce, z_co, z_sr, kp⟩
