/-! TIE: conditions and columns -/
theorem tp_conds {ks ns : Nat → Int32} {n : Nat} {dd : tD} (h : tParse ks ns n = some dd) : dd.2.2.2.2.1 ≤ 8 ∧ ∀ j, j < dd.2.2.2.2.1 → tCond ks ns n (dd.2.2.2.2.2 + 4 * j + 1) = true := by
  rcases tp_shape h with ⟨-, -, -, -, -, e⟩ | ⟨i, -, -, -, -, -, -, e⟩ | ⟨k, -, -, -, hc, h8, -, e⟩ | ⟨r, Q, k, ls, -, -, -, -, hc, h8, -, -, e⟩
  · rw [e]; exact ⟨Nat.zero_le 8, fun j hj => absurd hj (Nat.not_lt_zero j)⟩
  · rw [e]; exact ⟨Nat.zero_le 8, fun j hj => absurd hj (Nat.not_lt_zero j)⟩
  · rw [e]; exact ⟨h8, fun j hj => (hc j hj).2⟩
  · rw [e]; exact ⟨h8, fun j hj => (hc j hj).2⟩
theorem tOp_kind {ks : Nat → Int32} {n p : Nat} (h : tOp ks n p = true) : p < n ∧ (ks p = 2 ∨ ks p = 3) := by
  unfold tOp at h
  rcases Bool.or_eq_true_iff.mp h with z | z
  · exact ⟨(tK_iff.mp z).1, Or.inl (tK_iff.mp z).2⟩
  · exact ⟨(tK_iff.mp z).1, Or.inr (tK_iff.mp z).2⟩
/-- where the columns of a statement stand -/
theorem tp_cols {ks ns : Nat → Int32} {n : Nat} {dd : tD} (h : tParse ks ns n = some dd) : (∀ j, j < dd.2.2.1 → dd.2.2.2.1 + j < n ∧ ks (dd.2.2.2.1 + j) = 2) ∧ ∀ i, i < n → ks i = 2 → (∃ j, j < dd.2.2.1 ∧ i = dd.2.2.2.1 + j) ∨ ∃ j, j < dd.2.2.2.2.1 ∧ (i = dd.2.2.2.2.2 + 4 * j + 1 ∨ i = dd.2.2.2.2.2 + 4 * j + 1 + 2) := by
  have no : ∀ {x a b : Int32}, x = a → x = b → ¬ a = b → False := fun h1 h2 h3 => h3 (h1.symm.trans h2)
  have cnd : ∀ (b k : Nat), (∀ j, j < k → ks (b + 4 * j) = 0 ∧ tCond ks ns n (b + 4 * j + 1) = true) → ∀ i, b ≤ i → i < b + 4 * k → ks i = 2 → ∃ j, j < k ∧ (i = b + 4 * j + 1 ∨ i = b + 4 * j + 1 + 2) := by
    intro b k hc i h1 h2 h3
    obtain ⟨h4, h5⟩ := hc ((i - b) / 4) (by omega)
    obtain ⟨h6, h7, h8⟩ := tCond_iff.mp h5
    have hw := (tW_iff.mp h7).2.1
    refine ⟨(i - b) / 4, by omega, ?_⟩
    have h9 : i = b + 4 * ((i - b) / 4) ∨ i = b + 4 * ((i - b) / 4) + 1 ∨ i = b + 4 * ((i - b) / 4) + 1 + 1 ∨ i = b + 4 * ((i - b) / 4) + 1 + 2 := by omega
    rcases h9 with z | z | z | z
    · rw [← z] at h4; exact (no h4 h3 (by decide)).elim
    · exact Or.inl z
    · rw [← z] at hw; exact (no hw h3 (by decide)).elim
    · exact Or.inr z
  rcases tp_shape h with ⟨h0, hn, h1, h2, hk, e⟩ | ⟨i0, h0, hn, hi, h1, h2, hk, e⟩ | ⟨k, h0, hn, h1, hc, h8, hk, e⟩ | ⟨r, Q, k, ls, h0, hL, h7, h1, hc, h8, he, hk, e⟩
  · rw [e]
    refine ⟨fun j hj => absurd hj (Nat.not_lt_zero j), fun i hi h3 => ?_⟩
    have h5 : i = 0 ∨ i = 1 ∨ i = 2 := by omega
    rcases h5 with rfl | rfl | rfl
    · exact (no hk h3 (by decide)).elim
    · exact (no (tK_iff.mp h1).2 h3 (by decide)).elim
    · exact (no (tK_iff.mp h2).2 h3 (by decide)).elim
  · rw [e]
    refine ⟨fun j hj => absurd hj (Nat.not_lt_zero j), fun i hi9 h3 => ?_⟩
    have h5 : i = 0 ∨ i = 1 ∨ (2 ≤ i ∧ i < 2 + i0) := by omega
    rcases h5 with rfl | rfl | h5
    · exact (no hk h3 (by decide)).elim
    · exact (no (tK_iff.mp h1).2 h3 (by decide)).elim
    · have h6 := (tK_iff.mp (h2 (i - 2) (by omega))).2
      rw [show 2 + (i - 2) = i by omega] at h6
      exact (no h6 h3 (by decide)).elim
  · rw [e]
    refine ⟨fun j hj => absurd hj (Nat.not_lt_zero j), fun i hi9 h3 => ?_⟩
    have h5 : i = 0 ∨ i = 1 ∨ (2 ≤ i ∧ i < 2 + 4 * k) := by omega
    rcases h5 with rfl | rfl | h5
    · exact (no hk h3 (by decide)).elim
    · exact (no (tK_iff.mp h1).2 h3 (by decide)).elim
    · exact Or.inr (cnd 2 k hc i h5.1 h5.2 h3)
  · rw [e]
    have hQ1 := (tK_iff.mp h1)
    have hsh := tl_shape hL
    have hst : (∀ j, j < r → (if ls = 6 then 2 else 1) + j < n ∧ ks ((if ls = 6 then 2 else 1) + j) = 2) ∧ ∀ i, i < Q → ks i = 2 → ∃ j, j < r ∧ i = (if ls = 6 then 2 else 1) + j := by
      rcases hsh with ⟨hw, hls, hr, hQ⟩ | ⟨hw, hls, hr, hQ⟩ | ⟨hw, hls, hr, hQ, h2⟩ | ⟨hls, hr0, hr8, hQ, h2⟩
      · refine ⟨fun j hj => by omega, fun i hi h3 => ?_⟩
        have h5 : i = 0 ∨ i = 1 := by omega
        rcases h5 with rfl | rfl
        · exact (no hk h3 (by decide)).elim
        · exact (no (tW_iff.mp hw).2.1 h3 (by decide)).elim
      · refine ⟨fun j hj => by omega, fun i hi h3 => ?_⟩
        have h5 : i = 0 ∨ i = 1 := by omega
        rcases h5 with rfl | rfl
        · exact (no hk h3 (by decide)).elim
        · exact (no (tW_iff.mp hw).2.1 h3 (by decide)).elim
      · rw [if_pos hls]
        refine ⟨fun j hj => ?_, fun i hi h3 => ?_⟩
        · rw [show 2 + j = 2 by omega]; exact tK_iff.mp h2
        · have h5 : i = 0 ∨ i = 1 ∨ i = 2 := by omega
          rcases h5 with rfl | rfl | rfl
          · exact (no hk h3 (by decide)).elim
          · exact (no (tW_iff.mp hw).2.1 h3 (by decide)).elim
          · exact ⟨0, by omega, rfl⟩
      · rw [if_neg (by rw [hls]; decide)]
        refine ⟨fun j hj => tK_iff.mp (h2 j hj), fun i hi h3 => ?_⟩
        rcases Nat.eq_zero_or_pos i with z | z
        · subst z; exact (no hk h3 (by decide)).elim
        · exact ⟨i - 1, by omega, by omega⟩
    refine ⟨hst.1, fun i hi h3 => ?_⟩
    rcases Nat.lt_or_ge i Q with z | z
    · exact Or.inl (hst.2 i z h3)
    · right
      rcases Nat.lt_or_ge i (tB ks n Q) with z2 | z2
      · have hB : tB ks n Q = (if tK ks n (Q + 2) 1 = true then Q + 3 else Q + 2) := rfl
        have h5 : i = Q ∨ i = Q + 1 ∨ (i = Q + 2 ∧ tK ks n (Q + 2) 1 = true) := by
          by_cases hz : tK ks n (Q + 2) 1 = true
          · have h9 : i < Q + 3 := by rw [hB, if_pos hz] at z2; exact z2
            rcases (show i = Q ∨ i = Q + 1 ∨ i = Q + 2 by omega) with y | y | y
            · exact Or.inl y
            · exact Or.inr (Or.inl y)
            · exact Or.inr (Or.inr ⟨y, hz⟩)
          · have h9 : i < Q + 2 := by rw [hB, if_neg hz] at z2; exact z2
            rcases (show i = Q ∨ i = Q + 1 by omega) with y | y
            · exact Or.inl y
            · exact Or.inr (Or.inl y)
        rcases h5 with rfl | rfl | ⟨rfl, hz⟩
        · exact (no h7 h3 (by decide)).elim
        · exact (no hQ1.2 h3 (by decide)).elim
        · exact (no (tK_iff.mp hz).2 h3 (by decide)).elim
      · rcases Nat.lt_or_ge i (tB ks n Q + 4 * k) with z3 | z3
        · exact cnd _ k hc i z2 z3 h3
        · exfalso
          unfold tEnd at he
          by_cases hz : tW ks ns n (tB ks n Q + 4 * k) 13 13 = true
          · rw [if_pos hz] at he
            have h6 := (tW_iff.mp hz).2.1
            rw [show tB ks n Q + 4 * k = i by omega] at h6
            exact no h6 h3 (by decide)
          · rw [if_neg hz] at he; omega
theorem cols_tie {ks ns c pick : Nat → Int32} {n : Nat} {dd : tD} {cf : Nat → tCd} (h : tParse ks ns n = some dd) (hp : ∀ j, j < dd.2.2.1 → pick j = ns (dd.2.2.2.1 + j)) (hcf : ∀ j, j < dd.2.2.2.2.1 → cf j = cdAt ks ns (dd.2.2.2.2.2 + 4 * j + 1)) :
    colsOK dd.2.2.1 pick dd.2.2.2.2.1 cf (colOf c dd.1.2.2.1) (colOf c dd.1.2.2.2.1) = decide (∀ jj, jj < n → mCol ks ns c dd.1.2.2.1 dd.1.2.2.2.1 jj = true) := by
  obtain ⟨h1, h2⟩ := tp_cols h
  obtain ⟨h8, h3⟩ := tp_conds h
  have op : ∀ p, tOp ks n p = true → (opThere (ks p) (ns p) (colOf c dd.1.2.2.1) (colOf c dd.1.2.2.2.1) = true ↔ mCol ks ns c dd.1.2.2.1 dd.1.2.2.2.1 p = true) := by
    intro p hp9
    rcases (tOp_kind hp9).2 with z | z
    · unfold mCol; rw [if_pos z, z]
    · have e9 : opThere (ks p) (ns p) (colOf c dd.1.2.2.1) (colOf c dd.1.2.2.2.1) = true := by unfold opThere; rw [if_pos z]
      exact ⟨fun _ => mc_no (by rw [z]; decide), fun _ => e9⟩
  rw [Bool.eq_iff_iff]
  unfold colsOK
  rw [Bool.and_eq_true, decide_eq_true_eq, decide_eq_true_eq, decide_eq_true_eq]
  constructor
  · rintro ⟨a1, a2⟩ i hi
    by_cases hk : ks i = 2
    · rcases h2 i hi hk with ⟨j, hj, e⟩ | ⟨j, hj, e⟩
      · have := a1 j hj
        rw [hp j hj, ← e] at this
        unfold mCol; rw [if_pos hk]; exact this
      · have h5 := a2 j hj
        rw [hcf j hj] at h5
        unfold cdThere cdAt at h5
        rw [Bool.and_eq_true] at h5
        obtain ⟨t1, t2, t3⟩ := tCond_iff.mp (h3 j hj)
        rcases e with e | e
        · rw [e]; exact (op _ t1).mp h5.1
        · rw [e]; exact (op _ t3).mp h5.2
    · exact mc_no hk
  · intro a
    refine ⟨fun j hj => ?_, fun j hj => ?_⟩
    · obtain ⟨b1, b2⟩ := h1 j hj
      have := a _ b1
      unfold mCol at this
      rw [if_pos b2] at this
      rw [hp j hj]; exact this
    · obtain ⟨t1, t2, t3⟩ := tCond_iff.mp (h3 j hj)
      rw [hcf j hj]
      unfold cdThere cdAt
      rw [Bool.and_eq_true]
      exact ⟨(op _ t1).mpr (a _ (tOp_kind t1).1), (op _ t3).mpr (a _ (tOp_kind t3).1)⟩
theorem colOf_eq {c c2 : Nat → Int32} (h : ∀ t, t < 10 → c2 t = c t) (t : Int32) : colOf c2 t = colOf c t := by
  unfold colOf
  by_cases h1 : t < 0
  · rw [if_pos h1, if_pos h1]
  · rw [if_neg h1, if_neg h1]
    by_cases h2 : (10 : Int32) ≤ t
    · rw [if_pos h2, if_pos h2]
    · rw [if_neg h2, if_neg h2]
      rcases pk_ix t (n := 10) (by decide) with z | z | ⟨j, hj, rfl⟩
      · exact absurd z h1
      · exact absurd z h2
      · rw [nI_clamp (by omega)]; exact h j hj
theorem mCol_eq {ks ns c c2 : Nat → Int32} (h : ∀ t, t < 10 → c2 t = c t) (a b : Int32) (i : Nat) : mCol ks ns c2 a b i = mCol ks ns c a b i := by
  unfold mCol
  rw [colOf_eq h, colOf_eq h]
theorem fault_tie {ks ns c c2 g pick : Nat → Int32} {n : Nat} {dd : tD} {cf : Nat → tCd} (h : tParse ks ns n = some dd) (hc : ∀ t, t < 10 → c2 t = c t) (hg : ∀ j, j < dd.2.1 → j < 6 → g j = ns (2 + j)) (hp : ∀ j, j < dd.2.2.1 → pick j = ns (dd.2.2.2.1 + j)) (hcf : ∀ j, j < dd.2.2.2.2.1 → cf j = cdAt ks ns (dd.2.2.2.2.2 + 4 * j + 1)) :
    faultS dd.1.1 dd.1.2.2.1 dd.1.2.2.2.1 (nI dd.2.1) (g 0) c (colsOK dd.2.2.1 pick dd.2.2.2.2.1 cf (colOf c dd.1.2.2.1) (colOf c dd.1.2.2.2.1)) = faultS dd.1.1 dd.1.2.2.1 dd.1.2.2.2.1 (nI (n - 2)) (ns 2) c2 (decide (∀ jj, jj < n → mCol ks ns c2 dd.1.2.2.1 dd.1.2.2.2.1 jj = true)) := by
  have e1 : (decide (∀ jj, jj < n → mCol ks ns c2 dd.1.2.2.1 dd.1.2.2.2.1 jj = true)) = (decide (∀ jj, jj < n → mCol ks ns c dd.1.2.2.1 dd.1.2.2.2.1 jj = true)) := decide_eq_decide.mpr ⟨fun z jj hj => by rw [← mCol_eq hc]; exact z jj hj, fun z jj hj => by rw [mCol_eq hc]; exact z jj hj⟩
  rw [cols_tie h hp hcf, e1]
  unfold faultS faultC
  rw [colOf_eq hc, colOf_eq hc]
  by_cases h0 : dd.1.1 = 0
  · rw [if_pos h0, if_pos h0]
    have : g 0 = ns 2 := by
      rcases tp_shape h with ⟨-, -, -, -, -, e⟩ | ⟨i, -, -, -, -, -, -, e⟩ | ⟨k, -, -, -, -, -, -, e⟩ | ⟨r, Q, k, ls, -, -, -, -, -, -, -, -, e⟩
      · exact hg 0 (by rw [e]; exact Nat.one_pos) (by decide)
      · rw [e] at h0; exact absurd (show (1 : Int32) = 0 from h0) (by decide)
      · rw [e] at h0; exact absurd (show (2 : Int32) = 0 from h0) (by decide)
      · rw [e] at h0; exact absurd (show (3 : Int32) = 0 from h0) (by decide)
    rw [this]
  · rw [if_neg h0, if_neg h0]
    by_cases h1 : dd.1.1 = 1
    · have : dd.2.1 = n - 2 := by
        rcases tp_shape h with ⟨-, -, -, -, -, e⟩ | ⟨i, -, hn, -, -, -, -, e⟩ | ⟨k, -, -, -, -, -, -, e⟩ | ⟨r, Q, k, ls, -, -, -, -, -, -, -, -, e⟩
        · rw [e] at h1; exact absurd (show (0 : Int32) = 1 from h1) (by decide)
        · rw [e]; show i = n - 2; omega
        · rw [e] at h1; exact absurd (show (2 : Int32) = 1 from h1) (by decide)
        · rw [e] at h1; exact absurd (show (3 : Int32) = 1 from h1) (by decide)
      rw [this]
    · rw [if_neg (show ¬ (dd.1.1 = 1 ∧ ¬ nI dd.2.1 = colOf c dd.1.2.2.1) from fun z => h1 z.1), if_neg (show ¬ (dd.1.1 = 1 ∧ ¬ nI (n - 2) = colOf c dd.1.2.2.1) from fun z => h1 z.1)]
