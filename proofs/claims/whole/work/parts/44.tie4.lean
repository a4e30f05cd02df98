/-! TIE: values of conditions, first rows, sums, nearest keys -/
theorem col_nat {n : Int32} (h : tokOK 2 n = true) : (∃ j, j < 6 ∧ n = nI j) ∨ ∃ j, j < 6 ∧ n = nI (10 + j) := by
  unfold tokOK at h
  rw [if_neg (by decide), if_neg (by decide), if_pos rfl] at h
  rcases Bool.or_eq_true_iff.mp h with z | z
  · unfold colIn at z
    rw [Bool.and_eq_true] at z
    simp only [Bool.not_eq_true', decide_eq_false_iff_not] at z
    rcases pk_ix n (n := 6) (by decide) with y | y | ⟨j, hj, y⟩
    · exact absurd y z.1
    · exact absurd y z.2
    · exact Or.inl ⟨j, hj, y⟩
  · unfold colIn at z
    rw [Bool.and_eq_true] at z
    simp only [Bool.not_eq_true', decide_eq_false_iff_not] at z
    rcases pk_ix n (n := 16) (by decide) with y | y | ⟨j, hj, y⟩
    · exact absurd (Int32.lt_trans y (by decide : (0 : Int32) < 10)) z.1
    · exact absurd y z.2
    · have : 10 ≤ j := by
        rw [y] at z
        exact lge_of (a := j) (b := 10) z.1 (by omega)
      exact Or.inr ⟨j - 10, by omega, by rw [y]; congr 1; omega⟩
theorem nine_lo {j : Nat} (hj : j < 6) : ¬ 9 < nI j := nI_nlt (a := 9) (by omega) (by omega)
theorem nine_hi {j : Nat} (hj : j < 6) : 9 < nI (10 + j) := nI_lt (a := 9) (by omega) (by omega)
theorem ten_off {j : Nat} : nI (10 + j) - 10 = nI j := by
  have := pk_sub (a := 10 + j) (b := 10) (by omega)
  rw [show 10 + j - 10 = j by omega] at this
  exact this
theorem there_1 {j : Nat} {fc sc : Int32} (hj : j < 6) (h : opThere 2 (nI j) fc sc = true) : nI j < fc := by
  unfold opThere at h
  rw [if_neg (by decide), if_neg (fun z => nine_lo hj (nine.mpr z))] at h
  simp only [Bool.not_eq_true', decide_eq_false_iff_not] at h
  exact Int32.not_le.mp h
theorem there_2 {j : Nat} {fc sc : Int32} (hj : j < 6) (h : opThere 2 (nI (10 + j)) fc sc = true) : nI j < sc := by
  unfold opThere at h
  rw [if_neg (by decide), if_pos (nine.mp (nine_hi hj)), ten_off] at h
  simp only [Bool.not_eq_true', decide_eq_false_iff_not] at h
  exact Int32.not_le.mp h
/-- what was read holds the two rows, as far as their tables have columns -/
def agr (fc sc : Int32) (F ra rb : Nat → Int32) : Prop := (∀ k, k < 6 → nI k < fc → F k = ra k) ∧ ∀ k, k < 6 → nI k < sc → F (10 + k) = rb k
theorem op_tie {k n fc sc : Int32} {F ra rb : Nat → Int32} (hkk : k = 2 ∨ k = 3) (hv : tokOK k n = true) (hth : opThere k n fc sc = true) (ha : agr fc sc F ra rb) : opVal k n F = if k = 3 then n else if 9 < n then rb (n - 10).toNatClampNeg else ra n.toNatClampNeg := by
  unfold opVal
  rcases hkk with rfl | rfl
  · rw [if_neg (by decide), if_neg (by decide)]
    rcases col_nat hv with ⟨j, hj, rfl⟩ | ⟨j, hj, rfl⟩
    · rw [if_neg (nine_lo hj), nI_clamp (by omega)]
      exact ha.1 j hj (there_1 hj hth)
    · rw [if_pos (nine_hi hj), ten_off, nI_clamp (by omega), nI_clamp (by omega)]
      exact ha.2 j hj (there_2 hj hth)
  · rw [if_pos rfl, if_pos rfl]
theorem colOf_m1 {c : Nat → Int32} : colOf c (-1) = 0 := by unfold colOf; rw [if_pos (by decide)]
/-- a column that is there is one of the rows at hand -/
theorem tok_in {hk hn c : Nat → Int32} {a1 a2 : Int32} {t : Nat} (hkk : hk t = 2 ∨ hk t = 3) (hv : tokOK (hk t) (hn t) = true) (hth : opThere (hk t) (hn t) (colOf c a1) (colOf c a2) = true) : mTok hk hn a2 t := by
  rcases hkk with z | z
  · rw [z] at hv hth
    rcases col_nat hv with ⟨j, hj, e⟩ | ⟨j, hj, e⟩
    · rw [e] at hth
      exact Or.inr (Or.inr ⟨by rw [e]; exact nine_lo hj, by rw [e]; exact vp_in_nI hj (by decide)⟩)
    · rw [e] at hth
      refine Or.inr (Or.inl ⟨by rw [e]; exact nine_hi hj, fun z2 => ?_, by rw [e, ten_off]; exact vp_in_nI hj (by decide)⟩)
      have h1 := there_2 hj hth
      rw [z2, colOf_m1] at h1
      exact nI_pos (by omega) h1
  · exact Or.inl z
theorem op_in {k n : Int32} (hkk : k = 2 ∨ k = 3) (hv : tokOK k n = true) : k = 3 ∨ vp_in n 16 := by
  rcases hkk with rfl | rfl
  · rcases col_nat hv with ⟨j, hj, rfl⟩ | ⟨j, hj, rfl⟩
    · exact Or.inr (vp_in_nI (by omega) (by decide))
    · exact Or.inr (vp_in_nI (by omega) (by decide))
  · exact Or.inl rfl
section COND
variable {ks ns hk hn c : Nat → Int32} {n fr b kc : Nat} {cf : Nat → tCd} {a1 a2 : Int32}
/-- the conditions' tokens, as both sides hold them -/
def cdT (ks ns hk hn : Nat → Int32) (n b kc fr : Nat) (cf : Nat → tCd) (fc sc : Int32) : Prop := (0 < kc → fr = b + 1) ∧ tokS ks ns n ∧ (∀ i, i < n → hk i = ks i ∧ hn i = ns i) ∧ (∀ j, j < kc → tCond ks ns n (b + 4 * j + 1) = true) ∧ (∀ j, j < kc → cf j = cdAt ks ns (b + 4 * j + 1)) ∧ ∀ j, j < kc → cdThere (cf j) fc sc = true
theorem cdT.one {fc sc : Int32} (h : cdT ks ns hk hn n b kc fr cf fc sc) {j : Nat} (hj : j < kc) : cf j = ((hk (fr + 4 * j), hn (fr + 4 * j)), hn (fr + 4 * j + 1), (hk (fr + 4 * j + 2), hn (fr + 4 * j + 2))) ∧ ((hk (fr + 4 * j) = 2 ∨ hk (fr + 4 * j) = 3) ∧ tokOK (hk (fr + 4 * j)) (hn (fr + 4 * j)) = true ∧ opThere (hk (fr + 4 * j)) (hn (fr + 4 * j)) fc sc = true) ∧ ((hk (fr + 4 * j + 2) = 2 ∨ hk (fr + 4 * j + 2) = 3) ∧ tokOK (hk (fr + 4 * j + 2)) (hn (fr + 4 * j + 2)) = true ∧ opThere (hk (fr + 4 * j + 2)) (hn (fr + 4 * j + 2)) fc sc = true) := by
  obtain ⟨h1, hv, h2, h3, h4, h5⟩ := h
  have e : fr = b + 1 := h1 (by omega)
  obtain ⟨t1, t2, t3⟩ := tCond_iff.mp (h3 j hj)
  have k1 := tOp_kind t1
  have k3 := tOp_kind t3
  have k2 := (tW_iff.mp t2).1
  have e1 : b + 4 * j + 1 = fr + 4 * j := by omega
  have h6 := h5 j hj
  rw [h4 j hj] at h6 ⊢
  rw [e1] at k1 k2 k3 h6 ⊢
  unfold cdThere cdAt at h6
  rw [Bool.and_eq_true] at h6
  unfold cdAt
  obtain ⟨p1, p2⟩ := h2 _ k1.1
  obtain ⟨p3, p4⟩ := h2 _ k2
  obtain ⟨p5, p6⟩ := h2 _ k3.1
  rw [p1, p2, p4, p5, p6]
  exact ⟨rfl, ⟨k1.2, hv _ k1.1, h6.1⟩, ⟨k3.2, hv _ k3.1, h6.2⟩⟩
theorem cdT.toks (h : cdT ks ns hk hn n b kc fr cf (colOf c a1) (colOf c a2)) : mToks hk hn a2 fr kc := fun j hj => by
  obtain ⟨-, h1, h2⟩ := h.one hj
  exact ⟨tok_in h1.1 h1.2.1 h1.2.2, tok_in h2.1 h2.2.1 h2.2.2⟩
theorem cdT.ins {fc sc : Int32} (h : cdT ks ns hk hn n b kc fr cf fc sc) : ∀ j, j < kc → cdIn (cf j) := fun j hj => by
  obtain ⟨e, h1, h2⟩ := h.one hj
  rw [e]
  exact ⟨op_in h1.1 h1.2.1, op_in h2.1 h2.2.1⟩
theorem cdT.val {fc sc : Int32} {F ra rb : Nat → Int32} (h : cdT ks ns hk hn n b kc fr cf fc sc) (ha : agr fc sc F ra rb) : cdsVal kc cf F = mHR hk hn fr kc ra rb := by
  have key : ∀ j, j < kc → cdVal (cf j) F = cmp (hn (fr + 4 * j + 1)) (mVR hk hn ra rb (fr + 4 * j)) (mVR hk hn ra rb (fr + 4 * j + 2)) := fun j hj => by
    obtain ⟨e, h1, h2⟩ := h.one hj
    rw [e]
    unfold cdVal mVR
    dsimp only
    rw [op_tie h1.1 h1.2.1 h1.2.2 ha, op_tie h2.1 h2.2.1 h2.2.2 ha]
  unfold cdsVal mHR
  exact decide_eq_decide.mpr ⟨fun z j hj => by rw [← key j hj]; exact z j hj, fun z j hj => by rw [key j hj]; exact z j hj⟩
end COND
theorem first_eq {G : Nat → Nat → Bool} {n1 n2 i j a b a' b' : Nat} (ha : a < n1) (hb : b < n2) (ha' : a' < n1) (hb' : b' < n2) (h1 : bhd i j a b) (h2 : bhd i j a' b') (b1 : bad G n1 n2 i j a b) (b2 : bad G n1 n2 i j a' b') (g1 : G a b = true) (g2 : G a' b' = true) : a = a' ∧ b = b' := by
  have n1' : ¬ (a < a' ∨ (a = a' ∧ b < b')) := fun z => by rw [b2 a b ha hb h1 z] at g1; cases g1
  have n2' : ¬ (a' < a ∨ (a' = a ∧ b' < b)) := fun z => by rw [b1 a' b' ha' hb' h2 z] at g2; cases g2
  omega
theorem bad_cong {G G' : Nat → Nat → Bool} {n1 n2 i j a b : Nat} (h : ∀ a b, a < n1 → b < n2 → G a b = G' a b) (hb : bad G n1 n2 i j a b) : bad G' n1 n2 i j a b := fun x y h1 h2 h3 h4 => by rw [← h x y h1 h2]; exact hb x y h1 h2 h3 h4
theorem first_none {G : Nat → Nat → Bool} {n1 n2 i j a b : Nat} (ha : a < n1) (hb : b < n2) (h1 : bhd i j a b) (b1 : bad G n1 n2 i j n1 0) (g : G a b = true) : False := by
  rw [b1 a b ha hb h1 (Or.inl ha)] at g
  cases g
/-! sums -/
theorem sumUp_eq {w : Nat → Nat → Int64} {n2 : Nat} : ∀ n1, sumUp w n2 n1 0 = sumRow (fun a => sumRow (w a) n2) n1 := by
  have key : ∀ i, sumUp w n2 i n2 = sumRow (fun a => sumRow (w a) n2) (i + 1) := by
    intro i
    induction i with
    | zero => show sumRow (w 0) n2 = 0 + sumRow (w 0) n2; rw [Int64.zero_add]
    | succ i ih => show sumUp w n2 i n2 + sumRow (w (i + 1)) n2 = sumRow _ (i + 1) + sumRow (w (i + 1)) n2; rw [ih]
  intro n1
  cases n1 with
  | zero => rfl
  | succ i => rw [sumUp_line, key]
theorem sumRow_cong {w w' : Nat → Int64} {n : Nat} (h : ∀ k, k < n → w k = w' k) : sumRow w n = sumRow w' n := by
  induction n with
  | zero => rfl
  | succ n ih => show sumRow w n + w n = sumRow w' n + w' n; rw [ih (fun k hk => h k (by omega)), h n (by omega)]
def sumL : List Int64 → Int64
  | [] => 0
  | x :: l => x + sumL l
theorem sumL_app (l : List Int64) (x : Int64) : sumL (l ++ [x]) = sumL l + x := by
  induction l with
  | nil => show x + 0 = 0 + x; rw [Int64.add_zero, Int64.zero_add]
  | cons y l ih => show y + sumL (l ++ [x]) = y + sumL l + x; rw [ih, Int64.add_assoc]
theorem sumL_perm {l l' : List Int64} (h : l.Perm l') : sumL l = sumL l' := by
  induction h with
  | nil => rfl
  | cons x _ ih => show x + _ = x + _; rw [ih]
  | swap x y l => show y + (x + sumL l) = x + (y + sumL l); rw [← Int64.add_assoc, ← Int64.add_assoc, Int64.add_comm y x]
  | trans _ _ ih1 ih2 => exact ih1.trans ih2
theorem sumRow_L {w : Nat → Int64} : ∀ n, sumRow w n = sumL ((List.range n).map w) := by
  intro n
  induction n with
  | zero => rfl
  | succ n ih => show sumRow w n + w n = _; rw [List.range_succ, List.map_append, List.map_cons, List.map_nil, sumL_app, ih]
theorem sumRow_plcs {of : Nat → Int32} {t : Int32} {F : Nat → Int64} : ∀ N, sumRow (fun k => if of k = t then F k else 0) N = sumL ((plcs of N t).map F) := by
  intro N
  induction N with
  | zero => rfl
  | succ N ih =>
    show sumRow _ N + (if of N = t then F N else 0) = _
    unfold plcs at ih ⊢
    rw [List.range_succ, List.filter_append, List.map_append, ih]
    by_cases h : of N = t
    · rw [if_pos h, List.filter_cons_of_pos (by simpa using h), List.filter_nil, List.map_cons, List.map_nil, sumL_app]
    · rw [if_neg h, List.filter_cons_of_neg (by simpa using h), List.filter_nil, List.map_nil, List.append_nil, Int64.add_zero]
theorem sum_ord {of key : Nat → Int32} {fl t : Int32} {N n : Nat} {p : Nat → Nat} {F : Nat → Int64} (ho : ordS of key fl N t n p) : sumRow (fun k => if of k = t then F k else 0) N = sumRow (fun j => F (p j)) n := by
  have hnd : ((List.range n).map p).Nodup := by
    unfold List.Nodup
    rw [List.pairwise_map]
    refine List.Pairwise.imp_of_mem (fun {i j} hi hj hij e => ?_) List.pairwise_lt_range
    have := ho.2.2 i j hij (List.mem_range.mp hj)
    rw [e] at this
    exact nrr_irr this
  have hperm : (plcs of N t).Perm ((List.range n).map p) := (List.perm_ext_iff_of_nodup plcs_nodup hnd).mpr (fun k => by
    rw [mem_plcs, List.mem_map]
    constructor
    · rintro ⟨h1, h2⟩
      obtain ⟨j, hj, e⟩ := ho.2.1 k h1 h2
      exact ⟨j, List.mem_range.mpr hj, e⟩
    · rintro ⟨j, hj, rfl⟩
      exact ho.1 j (List.mem_range.mp hj))
  rw [sumRow_plcs, sumRow_L, sumL_perm (hperm.map F), List.map_map]
  rfl
/-! nearest -/
theorem near_tie {f c : Nat → Int32} {SS : Nat → Nat} {of f2 : Nat → Int32} {N t p : Nat} {k u bs : Int32} (h : tieT f c SS of f2 N t) (hc : ¬ c t ≤ 0) (hN : N ≤ 400) (hp : pNB (fun j => f ((SS t + j) * 6)) (SS (t + 1) - SS t) k p)
    (hb : mBh (fun q => of q = nI t ∧ (if u = 0 then ¬ k < f2 (q * 6) else ¬ f2 (q * 6) < k)) (if u = 0 then 1 else 0) (fun q => f2 (q * 6)) N bs) :
    (bs = -1 ∧ nearP (fun j => f ((SS t + j) * 6)) (SS (t + 1) - SS t) k u p = -1) ∨ ∃ kb pl, bs = nI kb ∧ kb < N ∧ pl < SS (t + 1) - SS t ∧ nearP (fun j => f ((SS t + j) * 6)) (SS (t + 1) - SS t) k u p = nI pl ∧ f2 (kb * 6) = f ((SS t + pl) * 6) := by
  obtain ⟨P, hP, hl, hq⟩ := tie_list h
  have A : ∀ q, q < N → of q = nI t → ∃ j, j < SS (t + 1) - SS t ∧ f2 (q * 6) = f ((SS t + j) * 6) := fun q h1 h2 => by
    obtain ⟨j, hj⟩ := List.mem_iff_getElem?.mp (hP.mem_iff.mpr (mem_plcs.mpr ⟨h1, h2⟩))
    have hj1 : j < SS (t + 1) - SS t := by rw [← hl]; exact (List.getElem?_eq_some_iff.mp hj).1
    obtain ⟨k', h4, h5⟩ := hq j hj1
    rw [hj] at h4
    cases h4
    exact ⟨j, hj1, key_cut hc h5⟩
  have B : ∀ j, j < SS (t + 1) - SS t → ∃ q, q < N ∧ of q = nI t ∧ f2 (q * 6) = f ((SS t + j) * 6) := fun j hj => by
    obtain ⟨q, h3, h4⟩ := hq j hj
    obtain ⟨h5, h6⟩ := mem_plcs.mp (hP.mem_iff.mp (List.mem_of_getElem? h3))
    exact ⟨q, h5, h6, key_cut hc h4⟩
  have mono : ∀ i j, i ≤ j → j < SS (t + 1) - SS t → f ((SS t + i) * 6) ≤ f ((SS t + j) * 6) := fun i j hij hj => by
    rcases Nat.lt_or_ge i j with z | z
    · exact Int32.le_of_lt (tie_keys h z hj)
    · rw [show i = j by omega]; exact Int32.le_refl _
  obtain ⟨p1, p2, p3⟩ := hp
  dsimp only at p2 p3
  by_cases hu : u = 0
  · simp only [if_pos hu] at hb
    unfold nearP
    rw [if_pos hu]
    -- the greatest key that isn't above k
    have fin : ∀ pl, pl < SS (t + 1) - SS t → ¬ k < f ((SS t + pl) * 6) → (∀ j, j < SS (t + 1) - SS t → ¬ k < f ((SS t + j) * 6) → j ≤ pl) → ∃ kb, bs = nI kb ∧ kb < N ∧ f2 (kb * 6) = f ((SS t + pl) * 6) := by
      intro pl h1 h2 h3
      obtain ⟨q, q1, q2, q3⟩ := B pl h1
      rcases hb with z | ⟨kb, k1, k2, k3, k4⟩
      · exact absurd ⟨q2, by rw [q3]; exact h2⟩ (z.2 q q1)
      · refine ⟨kb, k2, k1, ?_⟩
        obtain ⟨j, j1, j2⟩ := A kb k1 k3.1
        have h4 := k4 q q1 ⟨q2, by rw [q3]; exact h2⟩
        have h5 : ¬ f2 (kb * 6) < f2 (q * 6) := fun z => h4 (nrr_n (by decide) z)
        have h6 := h3 j j1 (by rw [← j2]; exact k3.2)
        have h7 := mono j pl h6 h1
        rw [q3] at h5
        rw [← j2] at h7
        exact Int32.le_antisymm h7 (Int32.not_lt.mp h5)
    by_cases hk : p < SS (t + 1) - SS t ∧ f ((SS t + p) * 6) = k
    · rw [if_pos hk]
      obtain ⟨kb, e1, e2, e3⟩ := fin p hk.1 (by rw [hk.2]; exact Int32.lt_irrefl) (fun j j1 j2 => by
        rcases Nat.lt_or_ge p j with z | z
        · have := tie_keys h z j1
          rw [hk.2] at this
          exact absurd this j2
        · exact z)
      exact Or.inr ⟨kb, p, e1, e2, hk.1, rfl, e3⟩
    · rw [if_neg hk]
      have above : ∀ j, j < SS (t + 1) - SS t → p ≤ j → k < f ((SS t + j) * 6) := fun j j1 j2 => by
        have h5 : k < f ((SS t + p) * 6) := by
          rcases Int32.lt_or_eq_of_le (Int32.not_lt.mp (p3 (by omega))) with z | z
          · exact z
          · exact absurd ⟨by omega, z.symm⟩ hk
        rcases Nat.lt_or_ge p j with z | z
        · exact Int32.lt_trans h5 (tie_keys h z j1)
        · rw [show j = p by omega]; exact h5
      by_cases h0 : 0 < p
      · rw [if_pos h0]
        obtain ⟨kb, e1, e2, e3⟩ := fin (p - 1) (by omega) (fun z => Int32.lt_irrefl (Int32.lt_trans z (p2 (p - 1) (by omega)))) (fun j j1 j2 => by
          rcases Nat.lt_or_ge j p with z | z
          · omega
          · exact absurd (above j j1 z) j2)
        exact Or.inr ⟨kb, p - 1, e1, e2, by omega, rfl, e3⟩
      · rw [if_neg h0]
        left
        refine ⟨?_, rfl⟩
        rcases hb with z | ⟨kb, k1, k2, k3, k4⟩
        · exact z.1
        · obtain ⟨j, j1, j2⟩ := A kb k1 k3.1
          have := above j j1 (by omega)
          rw [← j2] at this
          exact absurd this k3.2
  · simp only [if_neg hu] at hb
    unfold nearP
    rw [if_neg hu]
    by_cases hpn : p < SS (t + 1) - SS t
    · rw [if_pos hpn]
      right
      obtain ⟨q, q1, q2, q3⟩ := B p hpn
      have hcq : ¬ f2 (q * 6) < k := by rw [q3]; exact p3 hpn
      rcases hb with z | ⟨kb, k1, k2, k3, k4⟩
      · exact absurd ⟨q2, hcq⟩ (z.2 q q1)
      · refine ⟨kb, p, k2, k1, hpn, rfl, ?_⟩
        obtain ⟨j, j1, j2⟩ := A kb k1 k3.1
        have h5 : ¬ f2 (q * 6) < f2 (kb * 6) := fun z => k4 q q1 ⟨q2, hcq⟩ (nrr_p rfl z)
        have hpj : p ≤ j := by
          rcases Nat.lt_or_ge j p with z | z
          · have := p2 j z
            rw [← j2] at this
            exact absurd this k3.2
          · exact z
        have h7 := mono p j hpj j1
        rw [← j2] at h7
        rw [q3] at h5
        exact Int32.le_antisymm (Int32.not_lt.mp h5) h7
    · rw [if_neg hpn]
      left
      refine ⟨?_, rfl⟩
      rcases hb with z | ⟨kb, k1, k2, k3, k4⟩
      · exact z.1
      · obtain ⟨j, j1, j2⟩ := A kb k1 k3.1
        have := p2 j (by omega)
        rw [← j2] at this
        exact absurd this k3.2
