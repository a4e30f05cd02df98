/-! STATE of the reference's cursors -/
/-- the next pair, from (i, j) on -/
def nx2 (n1 n2 i j : Nat) : Option (Nat × Nat) := if i < n1 ∧ j < n2 then some (i, j) else if i + 1 < n1 ∧ 0 < n2 then some (i + 1, 0) else none
/-- the reference's cursors stand at the pair ahead of (i, j), or nowhere yet -/
def mCur (a2 : Int32) (p1 p2 : Nat → Nat) (n1 n2 i j : Nat) (aT bT : Int32) : Prop := (i = 0 ∧ j = 0 ∧ aT = -1 ∧ bT = -1) ∨ ∃ j', j = j' + 1 ∧ i < n1 ∧ j' < n2 ∧ aT = nI (p1 i) ∧ ((a2 = -1 ∧ bT = -1) ∨ (¬ a2 = -1 ∧ bT = nI (p2 j')))
theorem ordS.lt {of key : Nat → Int32} {fl t : Int32} {N n : Nat} {pi : Nat → Nat} (ho : ordS of key fl N t n pi) (hN : N ≤ 400) {j : Nat} (hj : j < n) : pi j < 400 := by
  have := (ho.1 j hj).1
  omega
theorem nxP_lt {pi : Nat → Nat} {n ii : Nat} {x : Int32} (e : x = nxP pi n ii) (h : ¬ x = -1) : ii < n ∧ x = nI (pi ii) := by
  unfold nxP at e
  by_cases hi : ii < n
  · rw [if_pos hi] at e; exact ⟨hi, e⟩
  · rw [if_neg hi] at e; exact absurd e h
theorem nxP_ge {of key : Nat → Int32} {fl t : Int32} {N n ii : Nat} {pi : Nat → Nat} {x : Int32} (ho : ordS of key fl N t n pi) (hN : N ≤ 400) (e : x = nxP pi n ii) (h : x = -1) : ¬ ii < n := fun hi => by
  unfold nxP at e
  rw [if_pos hi] at e
  have := ho.lt hN hi
  exact nI_m1 (by omega) (e.symm.trans h)
/-- the first cursor has to move: to row ii -/
def mvP (of key : Nat → Int32) (fl a1 : Int32) (N n1 n2 i j : Nat) (p1 : Nat → Nat) (aT : Int32) : Prop := ∃ ii r0, (aT = -1 ∨ (aT = nI r0 ∧ r0 < 400)) ∧ (∀ x, mBh (fun k => of k = a1 ∧ (aT = -1 ∨ nrr fl (key r0) (key k))) fl key N x → x = nxP p1 n1 ii) ∧ nx2 n1 n2 i j = if ii < n1 ∧ 0 < n2 then some (ii, 0) else none
/-- the move is done -/
def mvD (a2 : Int32) (p1 p2 : Nat → Nat) (n1 n2 i j : Nat) (aT bT : Int32) : Prop := ∃ i' j', nx2 n1 n2 i j = some (i', j') ∧ mCur a2 p1 p2 n1 n2 i' (j' + 1) aT bT
theorem mv_fresh {of key : Nat → Int32} {fl a1 : Int32} {N n1 n2 : Nat} {p1 : Nat → Nat} {aT : Int32} (ho : ordS of key fl N a1 n1 p1) (hN : N ≤ 400) (ha : aT = -1) : mvP of key fl a1 N n1 n2 0 0 p1 aT := by
  refine ⟨0, 0, Or.inl ha, fun x hx => bh_first ho ha hN hx, ?_⟩
  unfold nx2
  by_cases h : 0 < n1 ∧ 0 < n2
  · rw [if_pos h, if_pos h]
  · rw [if_neg h, if_neg h, if_neg (by omega)]
theorem mv_line {of key : Nat → Int32} {fl a1 : Int32} {N n1 n2 i j : Nat} {p1 : Nat → Nat} {aT : Int32} (ho : ordS of key fl N a1 n1 p1) (hN : N ≤ 400) (hi : i < n1) (ha : aT = nI (p1 i)) (hj : n2 ≤ j) : mvP of key fl a1 N n1 n2 i j p1 aT := by
  refine ⟨i + 1, p1 i, Or.inr ⟨ha, ho.lt hN hi⟩, fun x hx => bh_next ho ha hi hN hx, ?_⟩
  unfold nx2
  rw [if_neg (by omega)]
theorem mv_one {of key : Nat → Int32} {fl a1 : Int32} {N n1 i j : Nat} {p1 p2 : Nat → Nat} {aT bT : Int32} (ho : ordS of key fl N a1 n1 p1) (hN : N ≤ 400) (hc : mCur (-1) p1 p2 n1 1 i j aT bT) : mvP of key fl a1 N n1 1 i j p1 aT ∧ bT = -1 := by
  rcases hc with ⟨rfl, rfl, ha, hb⟩ | ⟨j', rfl, hi, hj, ha, hb⟩
  · exact ⟨mv_fresh ho hN ha, hb⟩
  · refine ⟨mv_line ho hN hi ha (by omega), ?_⟩
    rcases hb with hb | hb
    · exact hb.2
    · exact absurd rfl hb.1
theorem mv_at {of key : Nat → Int32} {fl a1 : Int32} {N n1 n2 : Nat} {p1 p2 : Nat → Nat} {a2 aT bT : Int32} {i j : Nat} (ho : ordS of key fl N a1 n1 p1) (hN : N ≤ 400) (hc : mCur a2 p1 p2 n1 n2 i j aT bT) (h : aT = -1) : i = 0 ∧ j = 0 := by
  rcases hc with ⟨h1, h2, -⟩ | ⟨j', -, hi, -, ha, -⟩
  · exact ⟨h1, h2⟩
  · have := ho.lt hN hi
    exact absurd (ha.symm.trans h) (nI_m1 (by omega))
theorem mv_on {n1 n2 : Nat} {p1 p2 : Nat → Nat} {a2 aT bT : Int32} {i j : Nat} (hc : mCur a2 p1 p2 n1 n2 i j aT bT) (h : ¬ aT = -1) (h2 : ¬ a2 = -1) : ∃ j', j = j' + 1 ∧ i < n1 ∧ j' < n2 ∧ aT = nI (p1 i) ∧ bT = nI (p2 j') := by
  rcases hc with ⟨-, -, ha, -⟩ | ⟨j', hj, hi, hj', ha, hb⟩
  · exact absurd ha h
  · rcases hb with hb | hb
    · exact absurd hb.1 h2
    · exact ⟨j', hj, hi, hj', ha, hb.2⟩
theorem mvD.ne {a2 : Int32} {p1 p2 : Nat → Nat} {n1 n2 i j : Nat} {aT bT : Int32} (h : mvD a2 p1 p2 n1 n2 i j aT bT) (h2 : ¬ a2 = -1) (hp1 : ∀ k, k < n1 → p1 k < 400) (hp2 : ∀ k, k < n2 → p2 k < 400) : ¬ aT = -1 ∧ ¬ bT = -1 := by
  obtain ⟨i', j', -, hc⟩ := h
  rcases hc with ⟨-, z, -⟩ | ⟨j9, hj, hi, hj', ha, hb⟩
  · omega
  · rcases hb with hb | hb
    · exact absurd hb.1 h2
    · have h3 := hp1 _ hi
      have h4 := hp2 _ hj'
      exact ⟨by rw [ha]; exact nI_m1 (by omega), by rw [hb.2]; exact nI_m1 (by omega)⟩
theorem mCur.at_pair {a2 : Int32} {p1 p2 : Nat → Nat} {n1 n2 i j : Nat} {aT bT : Int32} (hi : i < n1) (hj : j < n2) (ha : aT = nI (p1 i)) (hb : (a2 = -1 ∧ bT = -1) ∨ (¬ a2 = -1 ∧ bT = nI (p2 j))) : mCur a2 p1 p2 n1 n2 i (j + 1) aT bT := Or.inr ⟨j, rfl, hi, hj, ha, hb⟩
theorem nx2_here {n1 n2 i j : Nat} (hi : i < n1) (hj : j < n2) : nx2 n1 n2 i j = some (i, j) := by unfold nx2; rw [if_pos ⟨hi, hj⟩]
/-- what a condition's token names is in the rows at hand -/
def mTok (hk hn : Nat → Int32) (a2 : Int32) (t : Nat) : Prop := hk t = 3 ∨ (9 < hn t ∧ ¬ a2 = -1 ∧ vp_in (hn t - 10) 6) ∨ (¬ 9 < hn t ∧ vp_in (hn t) 6)
theorem mTok.at_pair {hk hn : Nat → Int32} {a2 : Int32} {p1 p2 : Nat → Nat} {n1 n2 i j t : Nat} {aT bT : Int32} (h : mTok hk hn a2 t) (hc : mCur a2 p1 p2 n1 n2 i (j + 1) aT bT) (hp1 : ∀ k, k < n1 → p1 k < 400) (hp2 : ¬ a2 = -1 → ∀ k, k < n2 → p2 k < 400) : mIn hk hn t aT bT (p1 i) (p2 j) := by
  rcases hc with ⟨-, z, -⟩ | ⟨j9, hj, hi, hj', ha, hb⟩
  · omega
  · have e : j9 = j := by omega
    subst e
    rcases h with h | ⟨h1, h2, h3⟩ | ⟨h1, h3⟩
    · exact Or.inl h
    · rcases hb with hb | hb
      · exact absurd hb.1 h2
      · exact Or.inr (Or.inl ⟨h1, hb.2, hp2 h2 _ hj', h3⟩)
    · exact Or.inr (Or.inr ⟨h1, ha, hp1 _ hi, h3⟩)
theorem pos_lt {n1 n2 i j : Nat} (hi : i < n1) (hj : j < n2) : i * n2 + j < n1 * n2 := by
  have := Nat.mul_le_mul_right n2 (show i + 1 ≤ n1 from hi)
  rw [Nat.add_mul, Nat.one_mul] at this
  omega
theorem nx2_next {n1 n2 i j i' j' : Nat} (hi : i < n1) (hj : j < n2) (h : nx2 n1 n2 i (j + 1) = some (i', j')) : i' < n1 ∧ j' < n2 ∧ i' * n2 + j' = i * n2 + j + 1 ∧ bhd i j i' j' ∧ ((i' = i ∧ j' = j + 1) ∨ (i' = i + 1 ∧ j' = 0 ∧ n2 ≤ j + 1)) := by
  unfold nx2 at h
  by_cases h1 : i < n1 ∧ j + 1 < n2
  · rw [if_pos h1] at h
    cases h
    exact ⟨h1.1, h1.2, by omega, Or.inr ⟨rfl, by omega⟩, Or.inl ⟨rfl, rfl⟩⟩
  · rw [if_neg h1] at h
    by_cases h2 : i + 1 < n1 ∧ 0 < n2
    · rw [if_pos h2] at h
      cases h
      refine ⟨h2.1, h2.2, ?_, Or.inl (by omega), Or.inr ⟨rfl, rfl, by omega⟩⟩
      rw [Nat.add_mul, Nat.one_mul]
      omega
    · rw [if_neg h2] at h; cases h
theorem nx2_end {n1 n2 i j : Nat} (hi : i < n1) (hj : j < n2) (h : nx2 n1 n2 i (j + 1) = none) : n2 ≤ j + 1 ∧ n1 ≤ i + 1 := by
  unfold nx2 at h
  by_cases h1 : i < n1 ∧ j + 1 < n2
  · rw [if_pos h1] at h; cases h
  · rw [if_neg h1] at h
    by_cases h2 : i + 1 < n1 ∧ 0 < n2
    · rw [if_pos h2] at h; cases h
    · omega
theorem bhd.tr {i j a b c d : Nat} (h : bhd i j a b) (h2 : bhd a b c d) : bhd i j c d := by
  unfold bhd at *
  omega
/-- the first look: from (i, j) on -/
theorem nx2_first {a2 : Int32} {p1 p2 : Nat → Nat} {n1 n2 i j i' j' : Nat} {aT bT : Int32} (hc : mCur a2 p1 p2 n1 n2 i j aT bT) (h : nx2 n1 n2 i j = some (i', j')) : i' < n1 ∧ j' < n2 ∧ bhd i j i' j' ∧ ((i' = i ∧ j' = j) ∨ (i' = i + 1 ∧ j' = 0 ∧ n2 ≤ j)) := by
  have hjn : j ≤ n2 := by
    rcases hc with ⟨-, z, -⟩ | ⟨j9, hj, -, hj', -⟩ <;> omega
  unfold nx2 at h
  by_cases h1 : i < n1 ∧ j < n2
  · rw [if_pos h1] at h
    cases h
    exact ⟨h1.1, h1.2, Or.inr ⟨rfl, by omega⟩, Or.inl ⟨rfl, rfl⟩⟩
  · rw [if_neg h1] at h
    by_cases h2 : i + 1 < n1 ∧ 0 < n2
    · rw [if_pos h2] at h
      cases h
      exact ⟨h2.1, h2.2, Or.inl (by omega), Or.inr ⟨rfl, rfl, by omega⟩⟩
    · rw [if_neg h2] at h; cases h
theorem bad_first {G : Nat → Nat → Bool} {n1 n2 i j i' j' : Nat} (h : (i' = i ∧ j' = j) ∨ (i' = i + 1 ∧ j' = 0 ∧ n2 ≤ j)) : bad G n1 n2 i j i' j' := by
  rcases h with ⟨rfl, rfl⟩ | ⟨rfl, rfl, h⟩
  · exact bad.rf
  · exact bad.line bad.rf h
theorem bad_none {G : Nat → Nat → Bool} {n1 n2 i j : Nat} (h : nx2 n1 n2 i j = none) : bad G n1 n2 i j n1 0 := fun a b h1 h2 h3 h4 => by
  exfalso
  unfold nx2 at h
  by_cases z : i < n1 ∧ j < n2
  · rw [if_pos z] at h; cases h
  · rw [if_neg z] at h
    by_cases y : i + 1 < n1 ∧ 0 < n2
    · rw [if_pos y] at h; cases h
    · unfold bhd at h3
      omega
theorem bad_next {G : Nat → Nat → Bool} {n1 n2 i j i1 j1 i' j' : Nat} (h : bad G n1 n2 i j i1 j1) (hg : G i1 j1 = false) (hn : (i' = i1 ∧ j' = j1 + 1) ∨ (i' = i1 + 1 ∧ j' = 0 ∧ n2 ≤ j1 + 1)) : bad G n1 n2 i j i' j' := by
  rcases hn with ⟨rfl, rfl⟩ | ⟨rfl, rfl, hz⟩
  · exact h.next hg
  · exact (h.next hg).line hz
theorem bad_end {G : Nat → Nat → Bool} {n1 n2 i j i1 j1 : Nat} (h : bad G n1 n2 i j i1 j1) (hg : G i1 j1 = false) (h2 : n2 ≤ j1 + 1) (h1 : n1 ≤ i1 + 1) : bad G n1 n2 i j n1 0 := fun a b x1 x2 x3 x4 => (h.next hg).line h2 a b x1 x2 x3 (by omega)
/-! the reference's rows as a list: table and cells -/
def mRows (of f : Nat → Int32) (N : Nat) : List (Int32 × (Nat → Int32)) := (List.range N).map (fun k => (of k, row6 f (k * 6)))
theorem mRows_succ {of f : Nat → Int32} {k : Nat} : mRows of f (k + 1) = mRows of f k ++ [(of k, row6 f (k * 6))] := by
  unfold mRows
  rw [List.range_succ, List.map_append]
  rfl
theorem mRows_len {of f : Nat → Int32} {k : Nat} : (mRows of f k).length = k := by simp [mRows]
theorem mRows_eq {of f of2 f2 : Nat → Int32} {k : Nat} (h1 : ∀ q, q < k → of2 q = of q) (h2 : ∀ q, q < k * 6 → f2 q = f q) : mRows of2 f2 k = mRows of f k := by
  unfold mRows
  refine List.map_congr_left (fun q hq => ?_)
  have hq := List.mem_range.mp hq
  rw [h1 q hq]
  refine congrArg (Prod.mk _) ?_
  funext c
  unfold row6
  by_cases hc : c < 6
  · rw [if_pos hc, if_pos hc]; exact h2 _ (by omega)
  · rw [if_neg hc, if_neg hc]
theorem row6_eq {f f2 : Nat → Int32} {o o2 : Nat} (h : ∀ c, c < 6 → f2 (o2 + c) = f (o + c)) : row6 f2 o2 = row6 f o := by
  funext c
  unfold row6
  by_cases hc : c < 6
  · rw [if_pos hc, if_pos hc]; exact h c hc
  · rw [if_neg hc, if_neg hc]
/-- the value of token t over two rows -/
def mVR (hk hn ra rb : Nat → Int32) (t : Nat) : Int32 := if hk t = 3 then hn t else if 9 < hn t then rb (hn t - 10).toNatClampNeg else ra (hn t).toNatClampNeg
theorem mVR_eq {hk hn f : Nat → Int32} {a2 : Int32} {t a b : Nat} (h : mTok hk hn a2 t) : mVal hk hn f t a b = mVR hk hn (row6 f (a * 6)) (row6 f (b * 6)) t := by
  unfold mVal mVR
  by_cases h3 : hk t = 3
  · rw [if_pos h3, if_pos h3]
  · rw [if_neg h3, if_neg h3]
    rcases h with h | ⟨h1, -, h2⟩ | ⟨h1, h2⟩
    · exact absurd h h3
    · obtain ⟨k, hk6, e⟩ := vp_in_of h2 (by decide)
      rw [if_pos h1, if_pos h1, e, nI_clamp (by omega)]
      unfold row6
      rw [if_pos hk6]
    · obtain ⟨k, hk6, e⟩ := vp_in_of h2 (by decide)
      rw [if_neg h1, if_neg h1, e, nI_clamp (by omega)]
      unfold row6
      rw [if_pos hk6]
/-- all conditions hold for two rows -/
def mHR (hk hn : Nat → Int32) (fr kc : Nat) (ra rb : Nat → Int32) : Bool := decide (∀ jj, jj < kc → cmp (hn (fr + 4 * jj + 1)) (mVR hk hn ra rb (fr + 4 * jj)) (mVR hk hn ra rb (fr + 4 * jj + 2)) = true)
def mToks (hk hn : Nat → Int32) (a2 : Int32) (fr kc : Nat) : Prop := ∀ j, j < kc → mTok hk hn a2 (fr + 4 * j) ∧ mTok hk hn a2 (fr + 4 * j + 2)
theorem mHR_eq {hk hn f : Nat → Int32} {a2 : Int32} {fr kc a b : Nat} (h : mToks hk hn a2 fr kc) : decide (∀ jj, jj < kc → cmp (hn (fr + 4 * jj + 1)) (mVal hk hn f (fr + 4 * jj) a b) (mVal hk hn f (fr + 4 * jj + 2) a b) = true) = mHR hk hn fr kc (row6 f (a * 6)) (row6 f (b * 6)) := by
  unfold mHR
  refine decide_eq_decide.mpr ⟨fun z jj hj => ?_, fun z jj hj => ?_⟩
  · have := z jj hj
    rwa [mVR_eq (h jj hj).1, mVR_eq (h jj hj).2] at this
  · have := z jj hj
    rwa [mVR_eq (h jj hj).1, mVR_eq (h jj hj).2]
theorem mTok.one {hk hn : Nat → Int32} {t a b : Nat} {A B : Int32} (h : mTok hk hn (-1) t) (hA : A = nI a) (ha : a < 400) : mIn hk hn t A B a b := by
  rcases h with h | ⟨-, h2, -⟩ | ⟨h1, h3⟩
  · exact Or.inl h
  · exact absurd rfl h2
  · exact Or.inr (Or.inr ⟨h1, hA, ha, h3⟩)
theorem mTok.two {hk hn : Nat → Int32} {a2 : Int32} {t a b : Nat} {A B : Int32} (h : mTok hk hn a2 t) (hA : A = nI a) (ha : a < 400) (hB : B = nI b) (hb : b < 400) : mIn hk hn t A B a b := by
  rcases h with h | ⟨h1, -, h3⟩ | ⟨h1, h3⟩
  · exact Or.inl h
  · exact Or.inr (Or.inl ⟨h1, hB, hb, h3⟩)
  · exact Or.inr (Or.inr ⟨h1, hA, ha, h3⟩)
/-- what a fold adds for the places a and b -/
def mGd (hk hn of f : Nat → Int32) (a2 : Int32) (fr kc a b : Nat) : Bool := (decide (a2 = -1) || decide (of b = a2)) && mHR hk hn fr kc (row6 f (a * 6)) (row6 f ((if a2 = -1 then a else b) * 6))
def mW (hk hn of f : Nat → Int32) (a2 : Int32) (fr kc a b : Nat) : Int64 := if mGd hk hn of f a2 fr kc a b = true then (if hn 1 = 5 then 1 else (mVal hk hn f 2 a b).toInt64) else 0
def mNb (a2 : Int32) (N : Nat) : Nat := if a2 = -1 then 1 else N
def mTold (hk hn of f : Nat → Int32) (a1 a2 : Int32) (fr kc N : Nat) : Int64 := sumRow (fun a => if of a = a1 then sumRow (mW hk hn of f a2 fr kc a) (mNb a2 N) else 0) N
/-- how wide a row of the statement is -/
def mWide (hk hn c : Nat → Int32) (a1 a2 : Int32) (r : Nat) : Int32 := if ¬ hn 0 = 3 then 0 else if hk 1 = 0 ∧ ¬ hn 1 = 4 then 1 else if hk 1 = 0 then colOf c a1 + (if a2 = -1 then 0 else colOf c a2) else nI r
theorem fold_step {S : Int64} {w : Nat → Int64} {b : Nat} {x : Int64} (h : w b = x) : S + sumRow w b + x = S + sumRow w (b + 1) := by
  subst h
  show _ = S + (sumRow w b + w b)
  rw [Int64.add_assoc]
theorem fold_yes {of : Nat → Int32} {a1 : Int32} {g : Nat → Int64} {a : Nat} (h : of a = a1) : sumRow (fun a => if of a = a1 then g a else 0) a + g a = sumRow (fun a => if of a = a1 then g a else 0) (a + 1) := by
  show _ = _ + (if of a = a1 then g a else 0)
  rw [if_pos h]
theorem fold_no {of : Nat → Int32} {a1 : Int32} {g : Nat → Int64} {a : Nat} (h : ¬ of a = a1) : sumRow (fun a => if of a = a1 then g a else 0) a + 0 = sumRow (fun a => if of a = a1 then g a else 0) (a + 1) := by
  show _ = _ + (if of a = a1 then g a else 0)
  rw [if_neg h]
/-- what a DELETE leaves -/
def mKeep (hk hn : Nat → Int32) (fr kc : Nat) (t : Int32) (r : Int32 × (Nat → Int32)) : Bool := !(decide (r.1 = t) && mHR hk hn fr kc r.2 r.2)
section MG
variable {hk hn of f : Nat → Int32} {a2 : Int32} {fr kc a b : Nat}
theorem mW_no (h : mGd hk hn of f a2 fr kc a b = false) : mW hk hn of f a2 fr kc a b = 0 := by unfold mW; rw [if_neg (by rw [h]; decide)]
theorem mW_cnt (h : mGd hk hn of f a2 fr kc a b = true) (h5 : hn 1 = 5) : mW hk hn of f a2 fr kc a b = 1 := by unfold mW; rw [if_pos h, if_pos h5]
theorem mW_sum (h : mGd hk hn of f a2 fr kc a b = true) (h5 : ¬ hn 1 = 5) : mW hk hn of f a2 fr kc a b = (mVal hk hn f 2 a b).toInt64 := by unfold mW; rw [if_pos h, if_neg h5]
theorem gd2_no1 (h2 : ¬ a2 = -1) (h : ¬ of b = a2) : mGd hk hn of f a2 fr kc a b = false := by unfold mGd; rw [decide_eq_false h2, decide_eq_false h]; rfl
theorem gd2_no2 (h2 : ¬ a2 = -1) (h : mHR hk hn fr kc (row6 f (a * 6)) (row6 f (b * 6)) = false) : mGd hk hn of f a2 fr kc a b = false := by unfold mGd; rw [if_neg h2, h, Bool.and_false]
theorem gd2_yes (h2 : ¬ a2 = -1) (h : of b = a2) (h3 : mHR hk hn fr kc (row6 f (a * 6)) (row6 f (b * 6)) = true) : mGd hk hn of f a2 fr kc a b = true := by unfold mGd; rw [if_neg h2, h3, decide_eq_true h, Bool.or_true]; rfl
theorem gd1_no (h : mHR hk hn fr kc (row6 f (a * 6)) (row6 f (a * 6)) = false) : mGd hk hn of f (-1) fr kc a b = false := by unfold mGd; rw [if_pos rfl, h, Bool.and_false]
theorem gd1_yes (h : mHR hk hn fr kc (row6 f (a * 6)) (row6 f (a * 6)) = true) : mGd hk hn of f (-1) fr kc a b = true := by unfold mGd; rw [if_pos rfl, h, decide_eq_true rfl]; rfl
end MG
