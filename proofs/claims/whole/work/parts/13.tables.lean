/-! CursorBase$Tables -/
set_option maxRecDepth 20000 in
set_option maxHeartbeats 1000000 in
theorem m_Ta_columnsOf {V : xV} {h : xH} {B ce co sr : Nat} {f c s : Nat → Int32} (pT : pTa V h B ce co sr f c s) (t : Int32) : xM V y_Ta_columnsOf b_Ta_columnsOf 2 (some .int) 0 [.ref B, .int t] h 0 0 (fun v h' => h' = h ∧ v = some (.int (colOf c t))) := by
  refine xM_of false (by decide) (fun h => nomatch h) (Nat.le_of_ble_eq_true rfl) (fun K C => ?_)
  show K 0 0 h 0 [(0, .ref B), (1, .int t)] []
  obtain ⟨fB, fce, fco, fsr⟩ := pT
  refine x_iload_n C d_Ta_columnsOf_0 rfl rfl ?_
  refine x_if_lt (tgt := 19) C d_Ta_columnsOf_1 rfl (fun q1 => ?_) (fun q1 => ?_)
  · skip
    refine x_iconst (v := 0) C d_Ta_columnsOf_19 (by decide) ?_
    refine x_iret C d_Ta_columnsOf_20 ?_
    exact ⟨rfl, by simp [colOf, *]⟩
  · skip
    refine x_iload_n C d_Ta_columnsOf_4 rfl rfl ?_
    refine x_bipush (v := 10) C d_Ta_columnsOf_5 (by decide) ?_
    refine x_icmp_ge (tgt := 19) C d_Ta_columnsOf_7 rfl (fun q7 => ?_) (fun q7 => ?_)
    · skip
      refine x_iconst (v := 0) C d_Ta_columnsOf_19 (by decide) ?_
      refine x_iret C d_Ta_columnsOf_20 ?_
      exact ⟨rfl, by simp [colOf, *]⟩
    · skip
      refine x_aload_n C d_Ta_columnsOf_10 rfl rfl ?_
      refine x_get C k_Ta f_Ta_15 d_Ta_columnsOf_11 fB (by rfl) ?_
      refine x_iload_n C d_Ta_columnsOf_14 rfl rfl ?_
      refine x_iald C d_Ta_columnsOf_15 fco (in_of (n := 10) q1 q7 (by decide) (by decide)) ?_
      refine x_goto (tgt := 20) C d_Ta_columnsOf_16 rfl ?_
      refine x_iret C d_Ta_columnsOf_20 ?_
      exact ⟨rfl, by simp [colOf, *]⟩
set_option maxRecDepth 20000 in
set_option maxHeartbeats 1000000 in
theorem m_Ta_isThere {V : xV} {h : xH} {B ce co sr : Nat} {f c s : Nat → Int32} (pT : pTa V h B ce co sr f c s) (t : Int32) : xM V y_Ta_isThere b_Ta_isThere 2 (some .boolean) 1 [.ref B, .int t] h 0 0 (fun v h' => h' = h ∧ v = some (.int (bI (!decide (colOf c t ≤ 0))))) := by
  refine xM_of false (by decide) (fun h => nomatch h) (Nat.le_of_ble_eq_true rfl) (fun K C => ?_)
  show K 0 0 h 0 [(0, .ref B), (1, .int t)] []
  obtain ⟨fB, fce, fco, fsr⟩ := pT
  refine x_aload_n C d_Ta_isThere_0 rfl rfl ?_
  refine x_iload_n C d_Ta_isThere_1 rfl rfl ?_
  refine x_callV C l_Ta_21 v_Ta_columnsOf d_Ta_isThere_2 (m_Ta_columnsOf ⟨fB, fce, fco, fsr⟩ t) fB rfl (by rfl) (by rfl) (by decide) (by decide) (Nat.le_of_ble_eq_true rfl) ?_
  rintro v h' ⟨rfl, rfl⟩
  refine x_if_le (tgt := 12) C d_Ta_isThere_5 rfl (fun q5 => ?_) (fun q5 => ?_)
  · skip
    refine x_iconst (v := 0) C d_Ta_isThere_12 (by decide) ?_
    refine x_zret C d_Ta_isThere_13 (by rfl) ?_
    exact ⟨rfl, by simp [bI, *]⟩
  · skip
    refine x_iconst (v := 1) C d_Ta_isThere_8 (by decide) ?_
    refine x_goto (tgt := 13) C d_Ta_isThere_9 rfl ?_
    refine x_zret C d_Ta_isThere_13 (by rfl) ?_
    exact ⟨rfl, by simp [bI, *]⟩
set_option maxRecDepth 20000 in
set_option maxHeartbeats 1000000 in
theorem m_Ta_rowsOf {V : xV} {h : xH} {B ce co sr : Nat} {f c s : Nat → Int32} (pT : pTa V h B ce co sr f c s) (t : Int32) : xM V y_Ta_rowsOf b_Ta_rowsOf 2 (some .int) 0 [.ref B, .int t] h 0 0 (fun v h' => h' = h ∧ v = some (.int (rowOf s t))) := by
  refine xM_of false (by decide) (fun h => nomatch h) (Nat.le_of_ble_eq_true rfl) (fun K C => ?_)
  show K 0 0 h 0 [(0, .ref B), (1, .int t)] []
  obtain ⟨fB, fce, fco, fsr⟩ := pT
  refine x_iload_n C d_Ta_rowsOf_0 rfl rfl ?_
  refine x_if_lt (tgt := 28) C d_Ta_rowsOf_1 rfl (fun q1 => ?_) (fun q1 => ?_)
  · skip
    refine x_iconst (v := 0) C d_Ta_rowsOf_28 (by decide) ?_
    refine x_iret C d_Ta_rowsOf_29 ?_
    exact ⟨rfl, by simp [rowOf, *]⟩
  · skip
    refine x_iload_n C d_Ta_rowsOf_4 rfl rfl ?_
    refine x_bipush (v := 10) C d_Ta_rowsOf_5 (by decide) ?_
    refine x_icmp_ge (tgt := 28) C d_Ta_rowsOf_7 rfl (fun q7 => ?_) (fun q7 => ?_)
    · skip
      refine x_iconst (v := 0) C d_Ta_rowsOf_28 (by decide) ?_
      refine x_iret C d_Ta_rowsOf_29 ?_
      exact ⟨rfl, by simp [rowOf, *]⟩
    · skip
      refine x_aload_n C d_Ta_rowsOf_10 rfl rfl ?_
      refine x_get C k_Ta f_Ta_18 d_Ta_rowsOf_11 fB (by rfl) ?_
      refine x_iload_n C d_Ta_rowsOf_14 rfl rfl ?_
      refine x_iconst (v := 1) C d_Ta_rowsOf_15 (by decide) ?_
      refine x_iadd C d_Ta_rowsOf_16 ?_
      refine x_iald C d_Ta_rowsOf_17 fsr (in_of1 (n := 10) q1 q7 (by decide) (by decide)) ?_
      refine x_aload_n C d_Ta_rowsOf_18 rfl rfl ?_
      refine x_get C k_Ta f_Ta_18 d_Ta_rowsOf_19 fB (by rfl) ?_
      refine x_iload_n C d_Ta_rowsOf_22 rfl rfl ?_
      refine x_iald C d_Ta_rowsOf_23 fsr (in_of (n := 10) q1 q7 (by decide) (by decide)) ?_
      refine x_isub C d_Ta_rowsOf_24 ?_
      refine x_goto (tgt := 29) C d_Ta_rowsOf_25 rfl ?_
      refine x_iret C d_Ta_rowsOf_29 ?_
      exact ⟨rfl, by simp [rowOf, *]⟩
set_option maxRecDepth 20000 in
set_option maxHeartbeats 1000000 in
theorem m_Ta_rowsInAll {V : xV} {h : xH} {B ce co sr : Nat} {f c s : Nat → Int32} (pT : pTa V h B ce co sr f c s) : xM V y_Ta_rowsInAll b_Ta_rowsInAll 1 (some .int) 0 [.ref B] h 0 0 (fun v h' => h' = h ∧ v = some (.int (s 10))) := by
  refine xM_of false (by decide) (fun h => nomatch h) (Nat.le_of_ble_eq_true rfl) (fun K C => ?_)
  show K 0 0 h 0 [(0, .ref B)] []
  obtain ⟨fB, fce, fco, fsr⟩ := pT
  refine x_aload_n C d_Ta_rowsInAll_0 rfl rfl ?_
  refine x_get C k_Ta f_Ta_18 d_Ta_rowsInAll_1 fB (by rfl) ?_
  refine x_bipush (v := 10) C d_Ta_rowsInAll_4 (by decide) ?_
  refine x_iald C d_Ta_rowsInAll_6 fsr (vp_in_nI (n := 10) (by decide) (by decide)) ?_
  refine x_iret C d_Ta_rowsInAll_7 ?_
  exact ⟨rfl, rfl⟩
set_option maxRecDepth 20000 in
set_option maxHeartbeats 1000000 in
theorem m_Ta_cellOf {V : xV} {h : xH} {B ce co sr : Nat} {f c s : Nat → Int32} (pT : pTa V h B ce co sr f c s) {t : Nat} (ht : t ≤ 10) (p : Int32) : xM V y_Ta_cellOf b_Ta_cellOf 3 (some .int) 0 [.ref B, .int (nI t), .int p] h 0 0 (fun v h' => h' = h ∧ v = some (.int ((s t + p) * 6))) := by
  refine xM_of false (by decide) (fun h => nomatch h) (Nat.le_of_ble_eq_true rfl) (fun K C => ?_)
  show K 0 0 h 0 [(0, .ref B), (1, .int (nI t)), (2, .int p)] []
  obtain ⟨fB, fce, fco, fsr⟩ := pT
  refine x_aload_n C d_Ta_cellOf_0 rfl rfl ?_
  refine x_get C k_Ta f_Ta_18 d_Ta_cellOf_1 fB (by rfl) ?_
  refine x_iload_n C d_Ta_cellOf_4 rfl rfl ?_
  refine x_iald C d_Ta_cellOf_5 fsr (vp_in_nI (by omega) (by decide)) ?_
  refine x_iload_n C d_Ta_cellOf_6 rfl rfl ?_
  refine x_iadd C d_Ta_cellOf_7 ?_
  refine x_bipush (v := 6) C d_Ta_cellOf_8 (by decide) ?_
  refine x_imul C d_Ta_cellOf_10 ?_
  refine x_iret C d_Ta_cellOf_11 ?_
  exact ⟨rfl, by rw [nI_clamp (by omega)]⟩
set_option maxRecDepth 20000 in
set_option maxHeartbeats 1000000 in
theorem m_Ta_keyAt {V : xV} {h : xH} {B ce co sr : Nat} {f c s : Nat → Int32} (pT : pTa V h B ce co sr f c s) {t : Nat} (ht : t ≤ 10) {p : Int32} {a : Nat} (ha : a < 2400) (hp : (s t + p) * 6 = nI a) : xM V y_Ta_keyAt b_Ta_keyAt 3 (some .int) 1 [.ref B, .int (nI t), .int p] h 0 0 (fun v h' => h' = h ∧ v = some (.int (f a))) := by
  refine xM_of false (by decide) (fun h => nomatch h) (Nat.le_of_ble_eq_true rfl) (fun K C => ?_)
  show K 0 0 h 0 [(0, .ref B), (1, .int (nI t)), (2, .int p)] []
  obtain ⟨fB, fce, fco, fsr⟩ := pT
  refine x_aload_n C d_Ta_keyAt_0 rfl rfl ?_
  refine x_get C k_Ta f_Ta_9 d_Ta_keyAt_1 fB (by rfl) ?_
  refine x_aload_n C d_Ta_keyAt_4 rfl rfl ?_
  refine x_iload_n C d_Ta_keyAt_5 rfl rfl ?_
  refine x_iload_n C d_Ta_keyAt_6 rfl rfl ?_
  refine x_callV C l_Ta_25 v_Ta_cellOf d_Ta_keyAt_7 (m_Ta_cellOf ⟨fB, fce, fco, fsr⟩ ht p) fB rfl (by rfl) (by rfl) (by decide) (by decide) (Nat.le_of_ble_eq_true rfl) ?_
  rintro v h' ⟨rfl, rfl⟩
  refine x_iald C d_Ta_keyAt_10 fce (by rw [hp]; exact vp_in_nI ha (by decide)) ?_
  refine x_iret C d_Ta_keyAt_11 ?_
  exact ⟨rfl, by rw [hp, nI_clamp (by omega)]⟩
set_option maxRecDepth 20000 in
set_option maxHeartbeats 1000000 in
theorem m_Ta_read {V : xV} {h : xH} {B ce co sr : Nat} {f c s : Nat → Int32} (pT : pTa V h B ce co sr f c s) {t : Nat} (ht : t ≤ 10) {p : Int32} {a : Nat} (ha : a + 6 ≤ 2400) (hp : (s t + p) * 6 = nI a) {r b : Nat} {g : Nat → Int32} (fr : h r = some (xI V 16 g)) (hb : b + 6 ≤ 16) : xM V y_Ta_read b_Ta_read 5 none 3 [.ref B, .int (nI t), .int p, .ref r, .int (nI b)] h 0 0 (fun v h' => v = none ∧ h' = va_up h r (some (xI V 16 (va_cpy f g a b 6)))) := by
  refine xM_of false (by decide) (fun h => nomatch h) (Nat.le_of_ble_eq_true rfl) (fun K C => ?_)
  show K 0 0 h 0 [(0, .ref B), (1, .int (nI t)), (2, .int p), (3, .ref r), (4, .int (nI b))] []
  obtain ⟨fB, fce, fco, fsr⟩ := pT
  refine x_aload_n C d_Ta_read_0 rfl rfl ?_
  refine x_get C k_Ta f_Ta_9 d_Ta_read_1 fB (by rfl) ?_
  refine x_aload_n C d_Ta_read_4 rfl rfl ?_
  refine x_iload_n C d_Ta_read_5 rfl rfl ?_
  refine x_iload_n C d_Ta_read_6 rfl rfl ?_
  refine x_callV C l_Ta_25 v_Ta_cellOf d_Ta_read_7 (m_Ta_cellOf ⟨fB, fce, fco, fsr⟩ ht p) fB rfl (by rfl) (by rfl) (by decide) (by decide) (Nat.le_of_ble_eq_true rfl) ?_
  rintro v h' ⟨rfl, rfl⟩
  refine x_aload_n C d_Ta_read_10 rfl rfl ?_
  refine x_iload C d_Ta_read_11 rfl ?_
  refine x_bipush (v := 6) C d_Ta_read_13 (by decide) ?_
  refine x_copy C ⟨l_Ta_29, acp.1, acp.2.1, acp.2.2⟩ (by decide) (Nat.le_of_ble_eq_true rfl) fce fr (by rw [hp]; exact nI_pos (by omega)) (nI_pos (by omega)) (by decide) (by rw [hp, nI_clamp (by omega)]; exact ha) (by rw [nI_clamp (by omega)]; exact hb) d_Ta_read_15 (fun h1 u1 => ?_)
  have fB := xUp_ne u1 fB (by first | assumption | exact Ne.symm (by assumption) | exact x_ne fB fr (by simp))
  have fce := xUp_ne u1 fce (by first | assumption | exact Ne.symm (by assumption) | exact x_ne fce fr (by simp))
  have fco := xUp_ne u1 fco (by first | assumption | exact Ne.symm (by assumption) | exact x_ne fco fr (by simp))
  have fsr := xUp_ne u1 fsr (by first | assumption | exact Ne.symm (by assumption) | exact x_ne fsr fr (by simp))
  have fr := xUp_at u1
  refine x_vret C d_Ta_read_18 ?_
  refine ⟨rfl, ?_⟩
  rw [u1, hp, nI_clamp (by omega), nI_clamp (by omega)]
  rfl
set_option maxRecDepth 20000 in
set_option maxHeartbeats 1000000 in
theorem m_Ta_placeNotBelow {V : xV} {h : xH} {B ce co sr : Nat} {f c s : Nat → Int32} (pT : pTa V h B ce co sr f c s) {S : Nat → Nat} (hS : pS s S) {t : Nat} (ht : t < 10) (k : Int32) : xM V y_Ta_placeNotBelow b_Ta_placeNotBelow 5 (some .int) 2 [.ref B, .int (nI t), .int k] h 0 0 (fun v h' => h' = h ∧ ∃ p, v = some (.int (nI p)) ∧ pNB (fun j => f ((S t + j) * 6)) (S (t + 1) - S t) k p) := by
  refine xM_of false (by decide) (fun h => nomatch h) (Nat.le_of_ble_eq_true rfl) (fun K C => ?_)
  show K 0 0 h 0 [(0, .ref B), (1, .int (nI t)), (2, .int k)] []
  obtain ⟨fB, fce, fco, fsr⟩ := pT
  have hs0 := hS.1 t (by omega)
  have hl1 := hS.le (t + 1) (by omega)
  have hl2 := hS.2.1 t ht
  have loop : ∀ m : Nat, ∀ j : Nat, S (t + 1) - S t - j < m → j ≤ S (t + 1) - S t → (∀ i, i < j → f ((S t + i) * 6) < k) → K 0 0 h 9 [(4, .int (nI j)), (3, .int (nI (S (t + 1) - S t))), (0, .ref B), (1, .int (nI t)), (2, .int k)] [] := by
    intro m
    induction m with
    | zero => intro j hm hj hk; omega
    | succ m ih =>
      intro j hm hj hk
      refine x_iload C d_Ta_placeNotBelow_9 rfl ?_
      refine x_iload_n C d_Ta_placeNotBelow_11 rfl rfl ?_
      refine x_icmp_ge (tgt := 32) C d_Ta_placeNotBelow_12 rfl (fun q12 => ?_) (fun q12 => ?_)
      · skip
        have hjn : j = S (t + 1) - S t := by rcases Nat.lt_or_ge j (S (t + 1) - S t) with z | z; exact absurd q12 (nI_ge z (by omega)); omega
        refine x_iload C d_Ta_placeNotBelow_32 rfl ?_
        refine x_iret C d_Ta_placeNotBelow_34 ?_
        refine ⟨rfl, j, rfl, hj, hk, fun z => ?_⟩
        first | exact absurd z (by omega) | exact Int32.not_lt.mpr q23
      · skip
        have hjn : j < S (t + 1) - S t := by rcases Nat.lt_or_ge j (S (t + 1) - S t) with z | z; exact z; exact absurd (nI_le z (by omega)) q12
        refine x_aload_n C d_Ta_placeNotBelow_15 rfl rfl ?_
        refine x_iload_n C d_Ta_placeNotBelow_16 rfl rfl ?_
        refine x_iload C d_Ta_placeNotBelow_17 rfl ?_
        refine x_callV C l_Ta_38 v_Ta_keyAt d_Ta_placeNotBelow_19 (m_Ta_keyAt ⟨fB, fce, fco, fsr⟩ (t := t) (p := nI j) (a := (S t + j) * 6) (by omega) (by omega) (by rw [hs0, cell_eq])) fB rfl (by rfl) (by rfl) (by decide) (by decide) (Nat.le_of_ble_eq_true rfl) ?_
        rintro v h' ⟨rfl, rfl⟩
        refine x_iload_n C d_Ta_placeNotBelow_22 rfl rfl ?_
        refine x_icmp_ge (tgt := 32) C d_Ta_placeNotBelow_23 rfl (fun q23 => ?_) (fun q23 => ?_)
        · skip
          refine x_iload C d_Ta_placeNotBelow_32 rfl ?_
          refine x_iret C d_Ta_placeNotBelow_34 ?_
          refine ⟨rfl, j, rfl, hj, hk, fun z => ?_⟩
          first | exact absurd z (by omega) | exact Int32.not_lt.mpr q23
        · skip
          replace q23 := Int32.not_le.mp q23
          refine x_iinc (v := nI (j + 1)) (k0 := 0) (lv' := [(4, _), (3, _), (0, _), (1, _), (2, _)]) C d_Ta_placeNotBelow_26 (by rfl) (nI_1 j) (by decide) (by rfl) ?_
          refine x_goto (tgt := 9) C d_Ta_placeNotBelow_29 rfl ?_
          exact ih (j + 1) (by omega) (by omega) (lt_s hk (by simpa using q23))
  refine x_aload_n C d_Ta_placeNotBelow_0 rfl rfl ?_
  refine x_iload_n C d_Ta_placeNotBelow_1 rfl rfl ?_
  refine x_callV C l_Ta_35 v_Ta_rowsOf d_Ta_placeNotBelow_2 (m_Ta_rowsOf ⟨fB, fce, fco, fsr⟩ (nI t)) fB rfl (by rfl) (by rfl) (by decide) (by decide) (Nat.le_of_ble_eq_true rfl) ?_
  rintro v h' ⟨rfl, rfl⟩
  rw [hS.row ht]
  refine x_istore_n (lv' := [(3, _), (0, _), (1, _), (2, _)]) C d_Ta_placeNotBelow_5 rfl (by decide) (by rfl) ?_
  refine x_iconst (v := 0) C d_Ta_placeNotBelow_6 (by decide) ?_
  refine x_istore (lv' := [(4, _), (3, _), (0, _), (1, _), (2, _)]) C d_Ta_placeNotBelow_7 (by decide) (by rfl) ?_
  exact loop (S (t + 1) - S t + 1) 0 (by omega) (by omega) lt_0
set_option maxRecDepth 20000 in
set_option maxHeartbeats 1000000 in
theorem m_Ta_hasKeyAt {V : xV} {h : xH} {B ce co sr : Nat} {f c s : Nat → Int32} (pT : pTa V h B ce co sr f c s) {S : Nat → Nat} (hS : pS s S) {t : Nat} (ht : t < 10) {j : Nat} (hj : j < 400) (k : Int32) : xM V y_Ta_hasKeyAt b_Ta_hasKeyAt 4 (some .boolean) 2 [.ref B, .int (nI t), .int (nI j), .int k] h 0 0 (fun v h' => h' = h ∧ v = some (.int (bI (decide (j < S (t + 1) - S t) && decide (f ((S t + j) * 6) = k))))) := by
  refine xM_of false (by decide) (fun h => nomatch h) (Nat.le_of_ble_eq_true rfl) (fun K C => ?_)
  show K 0 0 h 0 [(0, .ref B), (1, .int (nI t)), (2, .int (nI j)), (3, .int k)] []
  obtain ⟨fB, fce, fco, fsr⟩ := pT
  have hs0 := hS.1 t (by omega)
  have hl1 := hS.le (t + 1) (by omega)
  have hl2 := hS.2.1 t ht
  refine x_iload_n C d_Ta_hasKeyAt_0 rfl rfl ?_
  refine x_aload_n C d_Ta_hasKeyAt_1 rfl rfl ?_
  refine x_iload_n C d_Ta_hasKeyAt_2 rfl rfl ?_
  refine x_callV C l_Ta_35 v_Ta_rowsOf d_Ta_hasKeyAt_3 (m_Ta_rowsOf ⟨fB, fce, fco, fsr⟩ (nI t)) fB rfl (by rfl) (by rfl) (by decide) (by decide) (Nat.le_of_ble_eq_true rfl) ?_
  rintro v h' ⟨rfl, rfl⟩
  rw [hS.row ht]
  refine x_icmp_ge (tgt := 23) C d_Ta_hasKeyAt_6 rfl (fun q6 => ?_) (fun q6 => ?_)
  · skip
    have hjn : ¬ j < S (t + 1) - S t := fun z => absurd q6 (nI_ge z (by omega))
    refine x_iconst (v := 0) C d_Ta_hasKeyAt_23 (by decide) ?_
    refine x_zret C d_Ta_hasKeyAt_24 (by rfl) ?_
    exact ⟨rfl, by simp [bI, *]⟩
  · skip
    have hjn : j < S (t + 1) - S t := by rcases Nat.lt_or_ge j (S (t + 1) - S t) with z | z; exact z; exact absurd (nI_le z (by omega)) q6
    refine x_aload_n C d_Ta_hasKeyAt_9 rfl rfl ?_
    refine x_iload_n C d_Ta_hasKeyAt_10 rfl rfl ?_
    refine x_iload_n C d_Ta_hasKeyAt_11 rfl rfl ?_
    refine x_callV C l_Ta_38 v_Ta_keyAt d_Ta_hasKeyAt_12 (m_Ta_keyAt ⟨fB, fce, fco, fsr⟩ (t := t) (p := nI j) (a := (S t + j) * 6) (by omega) (by omega) (by rw [hs0, cell_eq])) fB rfl (by rfl) (by rfl) (by decide) (by decide) (Nat.le_of_ble_eq_true rfl) ?_
    rintro v h' ⟨rfl, rfl⟩
    refine x_iload_n C d_Ta_hasKeyAt_15 rfl rfl ?_
    refine x_icmp_ne (tgt := 23) C d_Ta_hasKeyAt_16 rfl (fun q16 => ?_) (fun q16 => ?_)
    · skip
      refine x_iconst (v := 0) C d_Ta_hasKeyAt_23 (by decide) ?_
      refine x_zret C d_Ta_hasKeyAt_24 (by rfl) ?_
      exact ⟨rfl, by simp [bI, *]⟩
    · skip
      refine x_iconst (v := 1) C d_Ta_hasKeyAt_19 (by decide) ?_
      refine x_goto (tgt := 24) C d_Ta_hasKeyAt_20 rfl ?_
      refine x_zret C d_Ta_hasKeyAt_24 (by rfl) ?_
      exact ⟨rfl, by simp [bI, *]⟩
