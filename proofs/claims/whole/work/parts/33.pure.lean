/-! methods that touch nothing -/
/-! CursorBase$Tokens -/
set_option maxRecDepth 20000 in
set_option maxHeartbeats 1000000 in
theorem p_To_isFull {V : xV} {h : xH} {T kr nr : Nat} {ks ns : Nat → Int32} {n : Nat} (pT : pTo V h T kr nr ks ns n) : xM0 V y_To_isFull b_To_isFull 1 (some .boolean) 0 [.ref T] h (fun v => v = some (.int (bI (!decide (nI n < 60))))) := by
  refine xM0_of (by decide) (Nat.le_of_ble_eq_true rfl) (fun K C => ?_)
  show K 0 0 h 0 [(0, .ref T)] []
  obtain ⟨fT, fkr, fnr, hkn, hn60⟩ := pT
  refine x_aload_n C d_To_isFull_0 rfl rfl ?_
  refine x_get C k_To f_To_22 d_To_isFull_1 fT (by rfl) ?_
  refine x_bipush (v := 60) C d_To_isFull_4 (by decide) ?_
  refine x_icmp_lt (tgt := 13) C d_To_isFull_6 rfl (fun q6 => ?_) (fun q6 => ?_)
  · skip
    refine x_iconst (v := 0) C d_To_isFull_13 (by decide) ?_
    refine x_zret C d_To_isFull_14 (by rfl) ?_
    exact by simp [bI, *]
  · skip
    refine x_iconst (v := 1) C d_To_isFull_9 (by decide) ?_
    refine x_goto (tgt := 14) C d_To_isFull_10 rfl ?_
    refine x_zret C d_To_isFull_14 (by rfl) ?_
    exact by simp [bI, *]
set_option maxRecDepth 20000 in
set_option maxHeartbeats 1000000 in
theorem p_To_isColumnFrom {V : xV} {h : xH} (a k : Int32) : xM0 V y_To_isColumnFrom b_To_isColumnFrom 2 (some .boolean) 0 [.int a, .int k] h (fun v => v = some (.int (bI (colIn a k)))) := by
  refine xM0_of (by decide) (Nat.le_of_ble_eq_true rfl) (fun K C => ?_)
  show K 0 0 h 0 [(0, .int a), (1, .int k)] []
  refine x_iload_n C d_To_isColumnFrom_0 rfl rfl ?_
  refine x_iload_n C d_To_isColumnFrom_1 rfl rfl ?_
  refine x_icmp_lt (tgt := 17) C d_To_isColumnFrom_2 rfl (fun q2 => ?_) (fun q2 => ?_)
  · skip
    refine x_iconst (v := 0) C d_To_isColumnFrom_17 (by decide) ?_
    refine x_zret C d_To_isColumnFrom_18 (by rfl) ?_
    exact by simp [bI, colIn, *]
  · skip
    refine x_iload_n C d_To_isColumnFrom_5 rfl rfl ?_
    refine x_iload_n C d_To_isColumnFrom_6 rfl rfl ?_
    refine x_bipush (v := 6) C d_To_isColumnFrom_7 (by decide) ?_
    refine x_iadd C d_To_isColumnFrom_9 ?_
    refine x_icmp_ge (tgt := 17) C d_To_isColumnFrom_10 rfl (fun q10 => ?_) (fun q10 => ?_)
    · skip
      refine x_iconst (v := 0) C d_To_isColumnFrom_17 (by decide) ?_
      refine x_zret C d_To_isColumnFrom_18 (by rfl) ?_
      exact by simp [bI, colIn, *]
    · skip
      refine x_iconst (v := 1) C d_To_isColumnFrom_13 (by decide) ?_
      refine x_goto (tgt := 18) C d_To_isColumnFrom_14 rfl ?_
      refine x_zret C d_To_isColumnFrom_18 (by rfl) ?_
      exact by simp [bI, colIn, *]
set_option maxRecDepth 20000 in
set_option maxHeartbeats 1000000 in
theorem p_To_isToken {V : xV} {h : xH} (k n : Int32) : xM0 V y_To_isToken b_To_isToken 2 (some .boolean) 1 [.int k, .int n] h (fun v => v = some (.int (bI (tokOK k n)))) := by
  refine xM0_of (by decide) (Nat.le_of_ble_eq_true rfl) (fun K C => ?_)
  show K 0 0 h 0 [(0, .int k), (1, .int n)] []
  refine x_iload_n C d_To_isToken_0 rfl rfl ?_
  rcases sw4 k with rfl | rfl | rfl | rfl | q1
  · skip
    refine x_tabIn (tgt := 32) C d_To_isToken_1 (by decide) (by decide) (by rfl) rfl ?_
    refine x_iload_n C d_To_isToken_32 rfl rfl ?_
    refine x_if_lt (tgt := 46) C d_To_isToken_33 rfl (fun q33 => ?_) (fun q33 => ?_)
    · skip
      refine x_iconst (v := 0) C d_To_isToken_46 (by decide) ?_
      refine x_zret C d_To_isToken_47 (by rfl) ?_
      exact by simp [bI, tokOK, *]
    · skip
      refine x_iload_n C d_To_isToken_36 rfl rfl ?_
      refine x_bipush (v := 13) C d_To_isToken_37 (by decide) ?_
      refine x_icmp_gt (tgt := 46) C d_To_isToken_39 rfl (fun q39 => ?_) (fun q39 => ?_)
      · skip
        refine x_iconst (v := 0) C d_To_isToken_46 (by decide) ?_
        refine x_zret C d_To_isToken_47 (by rfl) ?_
        exact by simp [bI, tokOK, *]
      · skip
        refine x_iconst (v := 1) C d_To_isToken_42 (by decide) ?_
        refine x_goto (tgt := 47) C d_To_isToken_43 rfl ?_
        refine x_zret C d_To_isToken_47 (by rfl) ?_
        exact by simp [bI, tokOK, *]
  · skip
    refine x_tabIn (tgt := 48) C d_To_isToken_1 (by decide) (by decide) (by rfl) rfl ?_
    refine x_iload_n C d_To_isToken_48 rfl rfl ?_
    refine x_if_lt (tgt := 62) C d_To_isToken_49 rfl (fun q49 => ?_) (fun q49 => ?_)
    · skip
      refine x_iconst (v := 0) C d_To_isToken_62 (by decide) ?_
      refine x_zret C d_To_isToken_63 (by rfl) ?_
      exact by simp [bI, tokOK, *]
    · skip
      refine x_iload_n C d_To_isToken_52 rfl rfl ?_
      refine x_bipush (v := 10) C d_To_isToken_53 (by decide) ?_
      refine x_icmp_ge (tgt := 62) C d_To_isToken_55 rfl (fun q55 => ?_) (fun q55 => ?_)
      · skip
        refine x_iconst (v := 0) C d_To_isToken_62 (by decide) ?_
        refine x_zret C d_To_isToken_63 (by rfl) ?_
        exact by simp [bI, tokOK, *]
      · skip
        refine x_iconst (v := 1) C d_To_isToken_58 (by decide) ?_
        refine x_goto (tgt := 63) C d_To_isToken_59 rfl ?_
        refine x_zret C d_To_isToken_63 (by rfl) ?_
        exact by simp [bI, tokOK, *]
  · skip
    refine x_tabIn (tgt := 64) C d_To_isToken_1 (by decide) (by decide) (by rfl) rfl ?_
    refine x_iconst (v := 0) C d_To_isToken_64 (by decide) ?_
    refine x_iload_n C d_To_isToken_65 rfl rfl ?_
    refine x_callS0 C l_To_18 v_To_isColumnFrom d_To_isToken_66 (p_To_isColumnFrom 0 n) (by rfl) (by rfl) (by decide) (by decide) (Nat.le_of_ble_eq_true rfl) ?_
    rintro v9 rfl
    refine x_if_ne (tgt := 81) C d_To_isToken_69 rfl (fun q69 => ?_) (fun q69 => ?_)
    · skip
      replace q69 := bI_t q69
      refine x_iconst (v := 1) C d_To_isToken_81 (by decide) ?_
      refine x_goto (tgt := 86) C d_To_isToken_82 rfl ?_
      refine x_zret C d_To_isToken_86 (by rfl) ?_
      exact by simp [bI, tokOK, *]
    · skip
      replace q69 := bI_f q69
      refine x_bipush (v := 10) C d_To_isToken_72 (by decide) ?_
      refine x_iload_n C d_To_isToken_74 rfl rfl ?_
      refine x_callS0 C l_To_18 v_To_isColumnFrom d_To_isToken_75 (p_To_isColumnFrom 10 n) (by rfl) (by rfl) (by decide) (by decide) (Nat.le_of_ble_eq_true rfl) ?_
      rintro v9 rfl
      refine x_if_eq (tgt := 85) C d_To_isToken_78 rfl (fun q78 => ?_) (fun q78 => ?_)
      · skip
        replace q78 := bI_f q78
        refine x_iconst (v := 0) C d_To_isToken_85 (by decide) ?_
        refine x_zret C d_To_isToken_86 (by rfl) ?_
        exact by simp [bI, tokOK, *]
      · skip
        replace q78 := bI_t q78
        refine x_iconst (v := 1) C d_To_isToken_81 (by decide) ?_
        refine x_goto (tgt := 86) C d_To_isToken_82 rfl ?_
        refine x_zret C d_To_isToken_86 (by rfl) ?_
        exact by simp [bI, tokOK, *]
  · skip
    refine x_tabIn (tgt := 87) C d_To_isToken_1 (by decide) (by decide) (by rfl) rfl ?_
    refine x_iconst (v := 1) C d_To_isToken_87 (by decide) ?_
    refine x_zret C d_To_isToken_88 (by rfl) ?_
    exact by simp [bI, tokOK, *]
  · skip
    refine x_tabOut (tgt := 89) C d_To_isToken_1 q1 rfl ?_
    refine x_iconst (v := 0) C d_To_isToken_89 (by decide) ?_
    refine x_zret C d_To_isToken_90 (by rfl) ?_
    skip
    have z0 : ¬ k = 0 := fun z => by rw [z] at q1; revert q1; decide
    have z1 : ¬ k = 1 := fun z => by rw [z] at q1; revert q1; decide
    have z2 : ¬ k = 2 := fun z => by rw [z] at q1; revert q1; decide
    have z3 : ¬ k = 3 := fun z => by rw [z] at q1; revert q1; decide
    simp [bI, tokOK, z0, z1, z2, z3]
/-! CursorBase$Tables -/
set_option maxRecDepth 20000 in
set_option maxHeartbeats 1000000 in
theorem p_Ta_columnsOf {V : xV} {h : xH} {B ce co sr : Nat} {f c s : Nat → Int32} (pT : pTa V h B ce co sr f c s) (t : Int32) : xM0 V y_Ta_columnsOf b_Ta_columnsOf 2 (some .int) 0 [.ref B, .int t] h (fun v => v = some (.int (colOf c t))) := by
  refine xM0_of (by decide) (Nat.le_of_ble_eq_true rfl) (fun K C => ?_)
  show K 0 0 h 0 [(0, .ref B), (1, .int t)] []
  obtain ⟨fB, fce, fco, fsr⟩ := pT
  refine x_iload_n C d_Ta_columnsOf_0 rfl rfl ?_
  refine x_if_lt (tgt := 19) C d_Ta_columnsOf_1 rfl (fun q1 => ?_) (fun q1 => ?_)
  · skip
    refine x_iconst (v := 0) C d_Ta_columnsOf_19 (by decide) ?_
    refine x_iret C d_Ta_columnsOf_20 ?_
    exact by simp [colOf, *]
  · skip
    refine x_iload_n C d_Ta_columnsOf_4 rfl rfl ?_
    refine x_bipush (v := 10) C d_Ta_columnsOf_5 (by decide) ?_
    refine x_icmp_ge (tgt := 19) C d_Ta_columnsOf_7 rfl (fun q7 => ?_) (fun q7 => ?_)
    · skip
      refine x_iconst (v := 0) C d_Ta_columnsOf_19 (by decide) ?_
      refine x_iret C d_Ta_columnsOf_20 ?_
      exact by simp [colOf, *]
    · skip
      refine x_aload_n C d_Ta_columnsOf_10 rfl rfl ?_
      refine x_get C k_Ta f_Ta_15 d_Ta_columnsOf_11 fB (by rfl) ?_
      refine x_iload_n C d_Ta_columnsOf_14 rfl rfl ?_
      refine x_iald C d_Ta_columnsOf_15 fco (in_of (n := 10) q1 q7 (by decide) (by decide)) ?_
      refine x_goto (tgt := 20) C d_Ta_columnsOf_16 rfl ?_
      refine x_iret C d_Ta_columnsOf_20 ?_
      exact by simp [colOf, *]
set_option maxRecDepth 20000 in
set_option maxHeartbeats 1000000 in
theorem p_Ta_isThere {V : xV} {h : xH} {B ce co sr : Nat} {f c s : Nat → Int32} (pT : pTa V h B ce co sr f c s) (t : Int32) : xM0 V y_Ta_isThere b_Ta_isThere 2 (some .boolean) 1 [.ref B, .int t] h (fun v => v = some (.int (bI (!decide (colOf c t ≤ 0))))) := by
  refine xM0_of (by decide) (Nat.le_of_ble_eq_true rfl) (fun K C => ?_)
  show K 0 0 h 0 [(0, .ref B), (1, .int t)] []
  obtain ⟨fB, fce, fco, fsr⟩ := pT
  refine x_aload_n C d_Ta_isThere_0 rfl rfl ?_
  refine x_iload_n C d_Ta_isThere_1 rfl rfl ?_
  refine x_callV0 C l_Ta_21 v_Ta_columnsOf d_Ta_isThere_2 (p_Ta_columnsOf ⟨fB, fce, fco, fsr⟩ t) fB rfl (by rfl) (by rfl) (by decide) (by decide) (Nat.le_of_ble_eq_true rfl) ?_
  rintro v9 rfl
  refine x_if_le (tgt := 12) C d_Ta_isThere_5 rfl (fun q5 => ?_) (fun q5 => ?_)
  · skip
    refine x_iconst (v := 0) C d_Ta_isThere_12 (by decide) ?_
    refine x_zret C d_Ta_isThere_13 (by rfl) ?_
    exact by simp [bI, *]
  · skip
    refine x_iconst (v := 1) C d_Ta_isThere_8 (by decide) ?_
    refine x_goto (tgt := 13) C d_Ta_isThere_9 rfl ?_
    refine x_zret C d_Ta_isThere_13 (by rfl) ?_
    exact by simp [bI, *]
set_option maxRecDepth 20000 in
set_option maxHeartbeats 1000000 in
theorem p_Ta_rowsOf {V : xV} {h : xH} {B ce co sr : Nat} {f c s : Nat → Int32} (pT : pTa V h B ce co sr f c s) (t : Int32) : xM0 V y_Ta_rowsOf b_Ta_rowsOf 2 (some .int) 0 [.ref B, .int t] h (fun v => v = some (.int (rowOf s t))) := by
  refine xM0_of (by decide) (Nat.le_of_ble_eq_true rfl) (fun K C => ?_)
  show K 0 0 h 0 [(0, .ref B), (1, .int t)] []
  obtain ⟨fB, fce, fco, fsr⟩ := pT
  refine x_iload_n C d_Ta_rowsOf_0 rfl rfl ?_
  refine x_if_lt (tgt := 28) C d_Ta_rowsOf_1 rfl (fun q1 => ?_) (fun q1 => ?_)
  · skip
    refine x_iconst (v := 0) C d_Ta_rowsOf_28 (by decide) ?_
    refine x_iret C d_Ta_rowsOf_29 ?_
    exact by simp [rowOf, *]
  · skip
    refine x_iload_n C d_Ta_rowsOf_4 rfl rfl ?_
    refine x_bipush (v := 10) C d_Ta_rowsOf_5 (by decide) ?_
    refine x_icmp_ge (tgt := 28) C d_Ta_rowsOf_7 rfl (fun q7 => ?_) (fun q7 => ?_)
    · skip
      refine x_iconst (v := 0) C d_Ta_rowsOf_28 (by decide) ?_
      refine x_iret C d_Ta_rowsOf_29 ?_
      exact by simp [rowOf, *]
    · skip
      refine x_aload_n C d_Ta_rowsOf_10 rfl rfl ?_
      refine x_get C k_Ta f_Ta_18 d_Ta_rowsOf_11 fB (by rfl) ?_
      refine x_iload_n C d_Ta_rowsOf_14 rfl rfl ?_
      refine x_iconst (v := 1) C d_Ta_rowsOf_15 (by decide) ?_
      refine x_iadd C d_Ta_rowsOf_16 ?_
      refine x_iald C d_Ta_rowsOf_17 fsr (in_of1 (n := 10) q1 q7 (by decide) (by decide)) ?_
      refine x_aload_n C d_Ta_rowsOf_18 rfl rfl ?_
      refine x_get C k_Ta f_Ta_18 d_Ta_rowsOf_19 fB (by rfl) ?_
      refine x_iload_n C d_Ta_rowsOf_22 rfl rfl ?_
      refine x_iald C d_Ta_rowsOf_23 fsr (in_of (n := 10) q1 q7 (by decide) (by decide)) ?_
      refine x_isub C d_Ta_rowsOf_24 ?_
      refine x_goto (tgt := 29) C d_Ta_rowsOf_25 rfl ?_
      refine x_iret C d_Ta_rowsOf_29 ?_
      exact by simp [rowOf, *]
set_option maxRecDepth 20000 in
set_option maxHeartbeats 1000000 in
theorem p_Ta_cellOf {V : xV} {h : xH} {B ce co sr : Nat} {f c s : Nat → Int32} (pT : pTa V h B ce co sr f c s) {t : Nat} (ht : t ≤ 10) (p : Int32) : xM0 V y_Ta_cellOf b_Ta_cellOf 3 (some .int) 0 [.ref B, .int (nI t), .int p] h (fun v => v = some (.int ((s t + p) * 6))) := by
  refine xM0_of (by decide) (Nat.le_of_ble_eq_true rfl) (fun K C => ?_)
  show K 0 0 h 0 [(0, .ref B), (1, .int (nI t)), (2, .int p)] []
  obtain ⟨fB, fce, fco, fsr⟩ := pT
  refine x_aload_n C d_Ta_cellOf_0 rfl rfl ?_
  refine x_get C k_Ta f_Ta_18 d_Ta_cellOf_1 fB (by rfl) ?_
  refine x_iload_n C d_Ta_cellOf_4 rfl rfl ?_
  refine x_iald C d_Ta_cellOf_5 fsr (vp_in_nI (by omega) (by decide)) ?_
  refine x_iload_n C d_Ta_cellOf_6 rfl rfl ?_
  refine x_iadd C d_Ta_cellOf_7 ?_
  refine x_bipush (v := 6) C d_Ta_cellOf_8 (by decide) ?_
  refine x_imul C d_Ta_cellOf_10 ?_
  refine x_iret C d_Ta_cellOf_11 ?_
  exact by rw [nI_clamp (by omega)]
set_option maxRecDepth 20000 in
set_option maxHeartbeats 1000000 in
theorem p_Ta_keyAt {V : xV} {h : xH} {B ce co sr : Nat} {f c s : Nat → Int32} (pT : pTa V h B ce co sr f c s) {t : Nat} (ht : t ≤ 10) {p : Int32} {a : Nat} (ha : a < 2400) (hp : (s t + p) * 6 = nI a) : xM0 V y_Ta_keyAt b_Ta_keyAt 3 (some .int) 1 [.ref B, .int (nI t), .int p] h (fun v => v = some (.int (f a))) := by
  refine xM0_of (by decide) (Nat.le_of_ble_eq_true rfl) (fun K C => ?_)
  show K 0 0 h 0 [(0, .ref B), (1, .int (nI t)), (2, .int p)] []
  obtain ⟨fB, fce, fco, fsr⟩ := pT
  refine x_aload_n C d_Ta_keyAt_0 rfl rfl ?_
  refine x_get C k_Ta f_Ta_9 d_Ta_keyAt_1 fB (by rfl) ?_
  refine x_aload_n C d_Ta_keyAt_4 rfl rfl ?_
  refine x_iload_n C d_Ta_keyAt_5 rfl rfl ?_
  refine x_iload_n C d_Ta_keyAt_6 rfl rfl ?_
  refine x_callV0 C l_Ta_25 v_Ta_cellOf d_Ta_keyAt_7 (p_Ta_cellOf ⟨fB, fce, fco, fsr⟩ ht p) fB rfl (by rfl) (by rfl) (by decide) (by decide) (Nat.le_of_ble_eq_true rfl) ?_
  rintro v9 rfl
  refine x_iald C d_Ta_keyAt_10 fce (by rw [hp]; exact vp_in_nI ha (by decide)) ?_
  refine x_iret C d_Ta_keyAt_11 ?_
  exact by rw [hp, nI_clamp (by omega)]
set_option maxRecDepth 20000 in
set_option maxHeartbeats 1000000 in
theorem p_Ta_placeNotBelow {V : xV} {h : xH} {B ce co sr : Nat} {f c s : Nat → Int32} (pT : pTa V h B ce co sr f c s) {S : Nat → Nat} (hS : pS s S) {t : Nat} (ht : t < 10) (k : Int32) : xM0 V y_Ta_placeNotBelow b_Ta_placeNotBelow 5 (some .int) 2 [.ref B, .int (nI t), .int k] h (fun v => ∃ p, v = some (.int (nI p)) ∧ pNB (fun j => f ((S t + j) * 6)) (S (t + 1) - S t) k p) := by
  refine xM0_of (by decide) (Nat.le_of_ble_eq_true rfl) (fun K C => ?_)
  show K 0 0 h 0 [(0, .ref B), (1, .int (nI t)), (2, .int k)] []
  obtain ⟨fB, fce, fco, fsr⟩ := pT
  have hs0 := hS.1 t (by omega)
  have hl1 := hS.le (t + 1) (by omega)
  have hl2 := hS.2.1 t ht
  have loop : ∀ m : Nat, ∀ j : Nat, S (t + 1) - S t - j < m → j ≤ S (t + 1) - S t → (∀ i, i < j → f ((S t + i) * 6) < k) → K 0 0 h 9 [(4, .int (nI j)), (3, .int (nI (S (t + 1) - S t))), (0, .ref B), (1, .int (nI t)), (2, .int k)] [] := by
    intro m
    induction m with
    | zero => intro j hm hj hk; omega
    | succ m ih =>
      intro j hm hj hk
      refine x_iload C d_Ta_placeNotBelow_9 rfl ?_
      refine x_iload_n C d_Ta_placeNotBelow_11 rfl rfl ?_
      refine x_icmp_ge (tgt := 32) C d_Ta_placeNotBelow_12 rfl (fun q12 => ?_) (fun q12 => ?_)
      · skip
        have hjn : j = S (t + 1) - S t := by rcases Nat.lt_or_ge j (S (t + 1) - S t) with z | z; exact absurd q12 (nI_ge z (by omega)); omega
        refine x_iload C d_Ta_placeNotBelow_32 rfl ?_
        refine x_iret C d_Ta_placeNotBelow_34 ?_
        refine ⟨j, rfl, hj, hk, fun z => ?_⟩
        first | exact absurd z (by omega) | exact Int32.not_lt.mpr q23
      · skip
        have hjn : j < S (t + 1) - S t := by rcases Nat.lt_or_ge j (S (t + 1) - S t) with z | z; exact z; exact absurd (nI_le z (by omega)) q12
        refine x_aload_n C d_Ta_placeNotBelow_15 rfl rfl ?_
        refine x_iload_n C d_Ta_placeNotBelow_16 rfl rfl ?_
        refine x_iload C d_Ta_placeNotBelow_17 rfl ?_
        refine x_callV0 C l_Ta_38 v_Ta_keyAt d_Ta_placeNotBelow_19 (p_Ta_keyAt ⟨fB, fce, fco, fsr⟩ (t := t) (p := nI j) (a := (S t + j) * 6) (by omega) (by omega) (by rw [hs0, cell_eq])) fB rfl (by rfl) (by rfl) (by decide) (by decide) (Nat.le_of_ble_eq_true rfl) ?_
        rintro v9 rfl
        refine x_iload_n C d_Ta_placeNotBelow_22 rfl rfl ?_
        refine x_icmp_ge (tgt := 32) C d_Ta_placeNotBelow_23 rfl (fun q23 => ?_) (fun q23 => ?_)
        · skip
          refine x_iload C d_Ta_placeNotBelow_32 rfl ?_
          refine x_iret C d_Ta_placeNotBelow_34 ?_
          refine ⟨j, rfl, hj, hk, fun z => ?_⟩
          first | exact absurd z (by omega) | exact Int32.not_lt.mpr q23
        · skip
          replace q23 := Int32.not_le.mp q23
          refine x_iinc (v := nI (j + 1)) (k0 := 0) (lv' := [(4, _), (3, _), (0, _), (1, _), (2, _)]) C d_Ta_placeNotBelow_26 (by rfl) (nI_1 j) (by decide) (by rfl) ?_
          refine x_goto (tgt := 9) C d_Ta_placeNotBelow_29 rfl ?_
          exact ih (j + 1) (by omega) (by omega) (lt_s hk (by simpa using q23))
  refine x_aload_n C d_Ta_placeNotBelow_0 rfl rfl ?_
  refine x_iload_n C d_Ta_placeNotBelow_1 rfl rfl ?_
  refine x_callV0 C l_Ta_35 v_Ta_rowsOf d_Ta_placeNotBelow_2 (p_Ta_rowsOf ⟨fB, fce, fco, fsr⟩ (nI t)) fB rfl (by rfl) (by rfl) (by decide) (by decide) (Nat.le_of_ble_eq_true rfl) ?_
  rintro v9 rfl
  rw [hS.row ht]
  refine x_istore_n (lv' := [(3, _), (0, _), (1, _), (2, _)]) C d_Ta_placeNotBelow_5 rfl (by decide) (by rfl) ?_
  refine x_iconst (v := 0) C d_Ta_placeNotBelow_6 (by decide) ?_
  refine x_istore (lv' := [(4, _), (3, _), (0, _), (1, _), (2, _)]) C d_Ta_placeNotBelow_7 (by decide) (by rfl) ?_
  exact loop (S (t + 1) - S t + 1) 0 (by omega) (by omega) lt_0
set_option maxRecDepth 20000 in
set_option maxHeartbeats 1000000 in
theorem p_Ta_hasKeyAt {V : xV} {h : xH} {B ce co sr : Nat} {f c s : Nat → Int32} (pT : pTa V h B ce co sr f c s) {S : Nat → Nat} (hS : pS s S) {t : Nat} (ht : t < 10) {j : Nat} (hj : j ≤ 400) (k : Int32) : xM0 V y_Ta_hasKeyAt b_Ta_hasKeyAt 4 (some .boolean) 2 [.ref B, .int (nI t), .int (nI j), .int k] h (fun v => v = some (.int (bI (decide (j < S (t + 1) - S t) && decide (f ((S t + j) * 6) = k))))) := by
  refine xM0_of (by decide) (Nat.le_of_ble_eq_true rfl) (fun K C => ?_)
  show K 0 0 h 0 [(0, .ref B), (1, .int (nI t)), (2, .int (nI j)), (3, .int k)] []
  obtain ⟨fB, fce, fco, fsr⟩ := pT
  have hs0 := hS.1 t (by omega)
  have hl1 := hS.le (t + 1) (by omega)
  have hl2 := hS.2.1 t ht
  refine x_iload_n C d_Ta_hasKeyAt_0 rfl rfl ?_
  refine x_aload_n C d_Ta_hasKeyAt_1 rfl rfl ?_
  refine x_iload_n C d_Ta_hasKeyAt_2 rfl rfl ?_
  refine x_callV0 C l_Ta_35 v_Ta_rowsOf d_Ta_hasKeyAt_3 (p_Ta_rowsOf ⟨fB, fce, fco, fsr⟩ (nI t)) fB rfl (by rfl) (by rfl) (by decide) (by decide) (Nat.le_of_ble_eq_true rfl) ?_
  rintro v9 rfl
  rw [hS.row ht]
  refine x_icmp_ge (tgt := 23) C d_Ta_hasKeyAt_6 rfl (fun q6 => ?_) (fun q6 => ?_)
  · skip
    have hjn : ¬ j < S (t + 1) - S t := fun z => absurd q6 (nI_ge z (by omega))
    refine x_iconst (v := 0) C d_Ta_hasKeyAt_23 (by decide) ?_
    refine x_zret C d_Ta_hasKeyAt_24 (by rfl) ?_
    exact by simp [bI, *]
  · skip
    have hjn : j < S (t + 1) - S t := by rcases Nat.lt_or_ge j (S (t + 1) - S t) with z | z; exact z; exact absurd (nI_le z (by omega)) q6
    refine x_aload_n C d_Ta_hasKeyAt_9 rfl rfl ?_
    refine x_iload_n C d_Ta_hasKeyAt_10 rfl rfl ?_
    refine x_iload_n C d_Ta_hasKeyAt_11 rfl rfl ?_
    refine x_callV0 C l_Ta_38 v_Ta_keyAt d_Ta_hasKeyAt_12 (p_Ta_keyAt ⟨fB, fce, fco, fsr⟩ (t := t) (p := nI j) (a := (S t + j) * 6) (by omega) (by omega) (by rw [hs0, cell_eq])) fB rfl (by rfl) (by rfl) (by decide) (by decide) (Nat.le_of_ble_eq_true rfl) ?_
    rintro v9 rfl
    refine x_iload_n C d_Ta_hasKeyAt_15 rfl rfl ?_
    refine x_icmp_ne (tgt := 23) C d_Ta_hasKeyAt_16 rfl (fun q16 => ?_) (fun q16 => ?_)
    · skip
      refine x_iconst (v := 0) C d_Ta_hasKeyAt_23 (by decide) ?_
      refine x_zret C d_Ta_hasKeyAt_24 (by rfl) ?_
      exact by simp [bI, *]
    · skip
      refine x_iconst (v := 1) C d_Ta_hasKeyAt_19 (by decide) ?_
      refine x_goto (tgt := 24) C d_Ta_hasKeyAt_20 rfl ?_
      refine x_zret C d_Ta_hasKeyAt_24 (by rfl) ?_
      exact by simp [bI, *]
set_option maxRecDepth 20000 in
set_option maxHeartbeats 1000000 in
theorem p_Ta_placeNearest {V : xV} {h : xH} {B ce co sr : Nat} {f c s : Nat → Int32} (pT : pTa V h B ce co sr f c s) {S : Nat → Nat} (hS : pS s S) {t : Nat} (ht : t < 10) (k u : Int32) : xM0 V y_Ta_placeNearest b_Ta_placeNearest 5 (some .int) 3 [.ref B, .int (nI t), .int k, .int u] h (fun v => ∃ p, pNB (fun j => f ((S t + j) * 6)) (S (t + 1) - S t) k p ∧ v = some (.int (nearP (fun j => f ((S t + j) * 6)) (S (t + 1) - S t) k u p))) := by
  refine xM0_of (by decide) (Nat.le_of_ble_eq_true rfl) (fun K C => ?_)
  show K 0 0 h 0 [(0, .ref B), (1, .int (nI t)), (2, .int k), (3, .int u)] []
  obtain ⟨fB, fce, fco, fsr⟩ := pT
  have hs0 := hS.1 t (by omega)
  have hl1 := hS.le (t + 1) (by omega)
  have hl2 := hS.2.1 t ht
  refine x_aload_n C d_Ta_placeNearest_0 rfl rfl ?_
  refine x_iload_n C d_Ta_placeNearest_1 rfl rfl ?_
  refine x_iload_n C d_Ta_placeNearest_2 rfl rfl ?_
  refine x_callV0 C l_Ta_41 v_Ta_placeNotBelow d_Ta_placeNearest_3 (p_Ta_placeNotBelow ⟨fB, fce, fco, fsr⟩ hS ht k) fB rfl (by rfl) (by rfl) (by decide) (by decide) (Nat.le_of_ble_eq_true rfl) ?_
  rintro v9 ⟨p, rfl, hp⟩
  have hp1 := hp.1
  refine x_istore (lv' := [(4, _), (0, _), (1, _), (2, _), (3, _)]) C d_Ta_placeNearest_6 (by decide) (by rfl) ?_
  refine x_iload_n C d_Ta_placeNearest_8 rfl rfl ?_
  refine x_if_eq (tgt := 29) C d_Ta_placeNearest_9 rfl (fun q9 => ?_) (fun q9 => ?_)
  · skip
    refine x_aload_n C d_Ta_placeNearest_29 rfl rfl ?_
    refine x_iload_n C d_Ta_placeNearest_30 rfl rfl ?_
    refine x_iload C d_Ta_placeNearest_31 rfl ?_
    refine x_iload_n C d_Ta_placeNearest_33 rfl rfl ?_
    refine x_callV0 C l_Ta_44 v_Ta_hasKeyAt d_Ta_placeNearest_34 (p_Ta_hasKeyAt ⟨fB, fce, fco, fsr⟩ hS ht (j := p) (by omega) k) fB rfl (by rfl) (by rfl) (by decide) (by decide) (Nat.le_of_ble_eq_true rfl) ?_
    rintro v9 rfl
    refine x_if_eq (tgt := 43) C d_Ta_placeNearest_37 rfl (fun q37 => ?_) (fun q37 => ?_)
    · skip
      replace q37 := bI_f q37
      have hk : ¬ (p < S (t + 1) - S t ∧ f ((S t + p) * 6) = k) := fun z => by simp [z.1, z.2] at q37
      refine x_iload C d_Ta_placeNearest_43 rfl ?_
      refine x_if_le (tgt := 55) C d_Ta_placeNearest_45 rfl (fun q45 => ?_) (fun q45 => ?_)
      · skip
        have hp0 : ¬ 0 < p := fun z => absurd q45 (nI_nle z (by omega))
        refine x_iconst (v := -1) C d_Ta_placeNearest_55 (by decide) ?_
        refine x_iret C d_Ta_placeNearest_56 ?_
        refine ⟨p, hp, ?_⟩
        unfold nearP
        rw [if_pos q9, if_neg hk]
        first | rw [if_neg hp0] | (rw [if_pos hp0]; obtain ⟨p', rfl⟩ : ∃ p', p = p' + 1 := ⟨p - 1, by omega⟩; rw [nI_pred]; rfl)
      · skip
        have hp0 : 0 < p := by rcases Nat.eq_zero_or_pos p with z | z; exact absurd (by rw [z]; decide) q45; exact z
        refine x_iload C d_Ta_placeNearest_48 rfl ?_
        refine x_iconst (v := 1) C d_Ta_placeNearest_50 (by decide) ?_
        refine x_isub C d_Ta_placeNearest_51 ?_
        refine x_goto (tgt := 56) C d_Ta_placeNearest_52 rfl ?_
        refine x_iret C d_Ta_placeNearest_56 ?_
        refine ⟨p, hp, ?_⟩
        unfold nearP
        rw [if_pos q9, if_neg hk]
        first | rw [if_neg hp0] | (rw [if_pos hp0]; obtain ⟨p', rfl⟩ : ∃ p', p = p' + 1 := ⟨p - 1, by omega⟩; rw [nI_pred]; rfl)
    · skip
      replace q37 := bI_t q37
      have hk : p < S (t + 1) - S t ∧ f ((S t + p) * 6) = k := by simpa using q37
      refine x_iload C d_Ta_placeNearest_40 rfl ?_
      refine x_iret C d_Ta_placeNearest_42 ?_
      refine ⟨p, hp, ?_⟩
      unfold nearP
      rw [if_pos q9, if_pos hk]
  · skip
    refine x_iload C d_Ta_placeNearest_12 rfl ?_
    refine x_aload_n C d_Ta_placeNearest_14 rfl rfl ?_
    refine x_iload_n C d_Ta_placeNearest_15 rfl rfl ?_
    refine x_callV0 C l_Ta_35 v_Ta_rowsOf d_Ta_placeNearest_16 (p_Ta_rowsOf ⟨fB, fce, fco, fsr⟩ (nI t)) fB rfl (by rfl) (by rfl) (by decide) (by decide) (Nat.le_of_ble_eq_true rfl) ?_
    rintro v9 rfl
    rw [hS.row ht]
    refine x_icmp_ge (tgt := 27) C d_Ta_placeNearest_19 rfl (fun q19 => ?_) (fun q19 => ?_)
    · skip
      have hn := nge_of q19 (by omega)
      refine x_iconst (v := -1) C d_Ta_placeNearest_27 (by decide) ?_
      refine x_iret C d_Ta_placeNearest_28 ?_
      refine ⟨p, hp, ?_⟩
      unfold nearP
      rw [if_neg q9]
      first | rw [if_pos hn] | rw [if_neg (by omega)]
    · skip
      have hn := nlt_of q19 (by omega) (by omega)
      refine x_iload C d_Ta_placeNearest_22 rfl ?_
      refine x_goto (tgt := 28) C d_Ta_placeNearest_24 rfl ?_
      refine x_iret C d_Ta_placeNearest_28 ?_
      refine ⟨p, hp, ?_⟩
      unfold nearP
      rw [if_neg q9]
      first | rw [if_pos hn] | rw [if_neg (by omega)]
/-! CursorBase$Statement -/
set_option maxRecDepth 20000 in
set_option maxHeartbeats 1000000 in
theorem p_St_hasTotal {V : xV} {h : xH} {S nb pk cd : Nat} {vb ls fi se fa nc np kc : Int32} (fS : h S = some (oSt vb ls fi se fa nc nb np pk kc cd)) : xM0 V y_St_hasTotal b_St_hasTotal 1 (some .boolean) 0 [.ref S] h (fun v => v = some (.int (bI (decide (ls = 5) || decide (ls = 6))))) := by
  refine xM0_of (by decide) (Nat.le_of_ble_eq_true rfl) (fun K C => ?_)
  show K 0 0 h 0 [(0, .ref S)] []
  refine x_aload_n C d_St_hasTotal_0 rfl rfl ?_
  refine x_get C k_St f_St_9 d_St_hasTotal_1 fS (by rfl) ?_
  refine x_iconst (v := 5) C d_St_hasTotal_4 (by decide) ?_
  refine x_icmp_eq (tgt := 17) C d_St_hasTotal_5 rfl (fun q5 => ?_) (fun q5 => ?_)
  · skip
    refine x_iconst (v := 1) C d_St_hasTotal_17 (by decide) ?_
    refine x_goto (tgt := 22) C d_St_hasTotal_18 rfl ?_
    refine x_zret C d_St_hasTotal_22 (by rfl) ?_
    exact by simp [bI, *]
  · skip
    refine x_aload_n C d_St_hasTotal_8 rfl rfl ?_
    refine x_get C k_St f_St_9 d_St_hasTotal_9 fS (by rfl) ?_
    refine x_bipush (v := 6) C d_St_hasTotal_12 (by decide) ?_
    refine x_icmp_ne (tgt := 21) C d_St_hasTotal_14 rfl (fun q14 => ?_) (fun q14 => ?_)
    · skip
      refine x_iconst (v := 0) C d_St_hasTotal_21 (by decide) ?_
      refine x_zret C d_St_hasTotal_22 (by rfl) ?_
      exact by simp [bI, *]
    · skip
      refine x_iconst (v := 1) C d_St_hasTotal_17 (by decide) ?_
      refine x_goto (tgt := 22) C d_St_hasTotal_18 rfl ?_
      refine x_zret C d_St_hasTotal_22 (by rfl) ?_
      exact by simp [bI, *]
set_option maxRecDepth 20000 in
set_option maxHeartbeats 1000000 in
theorem p_St_columnCount {V : xV} {h : xH} {S nb pk cd : Nat} {vb ls fi se fa nc np kc : Int32} (fS : h S = some (oSt vb ls fi se fa nc nb np pk kc cd)) : xM0 V y_St_columnCount b_St_columnCount 1 (some .int) 1 [.ref S] h (fun v => v = some (.int (if ls = 5 ∨ ls = 6 then 1 else np))) := by
  refine xM0_of (by decide) (Nat.le_of_ble_eq_true rfl) (fun K C => ?_)
  show K 0 0 h 0 [(0, .ref S)] []
  refine x_aload_n C d_St_columnCount_0 rfl rfl ?_
  refine x_callV0 C l_St_80 v_St_hasTotal d_St_columnCount_1 (p_St_hasTotal fS) fS rfl (by rfl) (by rfl) (by decide) (by decide) (Nat.le_of_ble_eq_true rfl) ?_
  rintro v9 rfl
  refine x_if_eq (tgt := 11) C d_St_columnCount_4 rfl (fun q4 => ?_) (fun q4 => ?_)
  · skip
    replace q4 := bI_f q4
    refine x_aload_n C d_St_columnCount_11 rfl rfl ?_
    refine x_get C k_St f_St_40 d_St_columnCount_12 fS (by rfl) ?_
    refine x_iret C d_St_columnCount_15 ?_
    skip
    simp only [Bool.or_eq_true, Bool.or_eq_false_iff, decide_eq_true_eq, decide_eq_false_iff_not] at q4
    first | rw [if_pos q4] | rw [if_neg (fun z => z.elim q4.1 q4.2)]
  · skip
    replace q4 := bI_t q4
    refine x_iconst (v := 1) C d_St_columnCount_7 (by decide) ?_
    refine x_goto (tgt := 15) C d_St_columnCount_8 rfl ?_
    refine x_iret C d_St_columnCount_15 ?_
    skip
    simp only [Bool.or_eq_true, Bool.or_eq_false_iff, decide_eq_true_eq, decide_eq_false_iff_not] at q4
    first | rw [if_pos q4] | rw [if_neg (fun z => z.elim q4.1 q4.2)]
