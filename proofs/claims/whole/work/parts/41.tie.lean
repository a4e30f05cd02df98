/-! TIE: the rows of the class and of the reference -/
/-- a row, cut to m columns -/
def cut (m : Int32) (r : Nat → Int32) : Nat → Int32 := fun k => if nI k < m then r k else 0
theorem perm_pre {α β : Type} {F : α → β} {A B : List β} (h : A.Perm B) : ∀ l : List α, l.map F = A → ∃ l' : List α, l'.Perm l ∧ l'.map F = B := by
  induction h with
  | nil => intro l hl; exact ⟨l, List.Perm.refl _, hl⟩
  | cons x _ ih =>
    intro l hl
    cases l with
    | nil => simp at hl
    | cons a l =>
      simp only [List.map_cons, List.cons.injEq] at hl
      obtain ⟨l', h1, h2⟩ := ih l hl.2
      exact ⟨a :: l', h1.cons a, by rw [List.map_cons, hl.1, h2]⟩
  | swap x y A =>
    intro l hl
    cases l with
    | nil => simp at hl
    | cons a l =>
      cases l with
      | nil => simp at hl
      | cons b l =>
        simp only [List.map_cons, List.cons.injEq] at hl
        exact ⟨b :: a :: l, List.Perm.swap a b l, by rw [List.map_cons, List.map_cons, hl.1, hl.2.1, hl.2.2]⟩
  | trans _ _ ih1 ih2 =>
    intro l hl
    obtain ⟨l1, h1, h2⟩ := ih1 l hl
    obtain ⟨l2, h3, h4⟩ := ih2 l1 h2
    exact ⟨l2, h3.trans h1, h4⟩
/-- the places of table t in the reference -/
def plcs (of : Nat → Int32) (N : Nat) (t : Int32) : List Nat := (List.range N).filter (fun k => decide (of k = t))
theorem mem_plcs {of : Nat → Int32} {N k : Nat} {t : Int32} : k ∈ plcs of N t ↔ k < N ∧ of k = t := by
  unfold plcs
  rw [List.mem_filter, List.mem_range, decide_eq_true_eq]
theorem plcs_nodup {of : Nat → Int32} {N : Nat} {t : Int32} : (plcs of N t).Nodup := List.nodup_range.sublist List.filter_sublist
theorem mRows_plcs {of f2 : Nat → Int32} {N : Nat} {t : Int32} {β : Type} {F : (Nat → Int32) → β} : ((mRows of f2 N).filter (fun r => decide (r.1 = t))).map (fun r => F r.2) = (plcs of N t).map (fun k => F (row6 f2 (k * 6))) := by
  unfold mRows plcs
  rw [List.filter_map, List.map_map]
  rfl
/-- table t of the class and of the reference hold the same rows; the class's keys rise -/
def tieT (f c : Nat → Int32) (SS : Nat → Nat) (of f2 : Nat → Int32) (N t : Nat) : Prop :=
  (tbl f SS t).Pairwise (fun a b => a 0 < b 0) ∧ (c t = 0 → SS (t + 1) = SS t) ∧ (((mRows of f2 N).filter (fun r => decide (r.1 = nI t))).map (fun r => cut (c t) r.2)).Perm ((tbl f SS t).map (cut (c t)))
def tieR (f c : Nat → Int32) (SS : Nat → Nat) (of f2 : Nat → Int32) (N : Nat) : Prop := (∀ k, k < N → ∃ t, t < 10 ∧ of k = nI t) ∧ ∀ t, t < 10 → tieT f c SS of f2 N t
theorem tbl_get {f : Nat → Int32} {SS : Nat → Nat} {t j : Nat} (hj : j < SS (t + 1) - SS t) : (tbl f SS t)[j]? = some (row6 f ((SS t + j) * 6)) := by
  unfold tbl
  rw [rws_get, if_pos hj]
theorem row6_0 {f : Nat → Int32} {o : Nat} : row6 f o 0 = f o := by unfold row6; rw [if_pos (by omega)]; rfl
theorem cut_0 {m : Int32} {r : Nat → Int32} (h : ¬ m ≤ 0) : cut m r 0 = r 0 := by
  unfold cut
  rw [if_pos (show nI 0 < m from Int32.not_le.mp h)]
theorem key_cut {m : Int32} {f f2 : Nat → Int32} {o o2 : Nat} (hm : ¬ m ≤ 0) (h : cut m (row6 f2 o2) = cut m (row6 f o)) : f2 o2 = f o := by
  have h1 := congrFun h 0
  rw [cut_0 hm, cut_0 hm, row6_0, row6_0] at h1
  exact h1
theorem tie_keys {f c : Nat → Int32} {SS : Nat → Nat} {of f2 : Nat → Int32} {N t : Nat} (h : tieT f c SS of f2 N t) {i j : Nat} (hij : i < j) (hj : j < SS (t + 1) - SS t) : f ((SS t + i) * 6) < f ((SS t + j) * 6) := by
  have h1 := List.pairwise_iff_getElem.mp h.1 i j (by rw [tbl_len]; omega) (by rw [tbl_len]; exact hj) hij
  have e1 : (tbl f SS t)[i]'(by rw [tbl_len]; omega) = row6 f ((SS t + i) * 6) := by
    have := tbl_get (f := f) (SS := SS) (t := t) (j := i) (by omega)
    exact (List.getElem?_eq_some_iff.mp this).2
  have e2 : (tbl f SS t)[j]'(by rw [tbl_len]; exact hj) = row6 f ((SS t + j) * 6) := (List.getElem?_eq_some_iff.mp (tbl_get hj)).2
  rw [e1, e2, row6_0, row6_0] at h1
  exact h1
theorem tie_len {f c : Nat → Int32} {SS : Nat → Nat} {of f2 : Nat → Int32} {N t : Nat} (h : tieT f c SS of f2 N t) : (plcs of N (nI t)).length = SS (t + 1) - SS t := by
  have h1 := h.2.2.length_eq
  rw [mRows_plcs (F := cut (c t)), List.length_map, List.length_map, tbl_len] at h1
  exact h1
/-- the reference's places of table t, in the class's order -/
theorem tie_list {f c : Nat → Int32} {SS : Nat → Nat} {of f2 : Nat → Int32} {N t : Nat} (h : tieT f c SS of f2 N t) : ∃ P : List Nat, P.Perm (plcs of N (nI t)) ∧ P.length = SS (t + 1) - SS t ∧ ∀ j, j < SS (t + 1) - SS t → ∃ k, P[j]? = some k ∧ cut (c t) (row6 f2 (k * 6)) = cut (c t) (row6 f ((SS t + j) * 6)) := by
  have h1 := h.2.2
  rw [mRows_plcs (F := cut (c t))] at h1
  obtain ⟨P, hP, hm⟩ := perm_pre h1 _ rfl
  have hl : P.length = SS (t + 1) - SS t := by rw [hP.length_eq]; exact tie_len h
  refine ⟨P, hP, hl, fun j hj => ?_⟩
  have hk : P[j]? = some (P[j]'(by omega)) := List.getElem?_eq_getElem _
  refine ⟨_, hk, ?_⟩
  have h2 := congrArg (fun l => l[j]?) hm
  rw [List.getElem?_map, List.getElem?_map, hk, tbl_get hj] at h2
  exact Option.some.inj h2
/-- the order that the reference's cursors follow -/
theorem tie_ord {f c : Nat → Int32} {SS : Nat → Nat} {of f2 : Nat → Int32} {N t : Nat} {fa : Int32} (h : tieT f c SS of f2 N t) (hc : ¬ c t ≤ 0) : ∃ p : Nat → Nat, ordS of (fun k => f2 (k * 6)) fa N (nI t) (SS (t + 1) - SS t) p ∧ ∀ j, j < SS (t + 1) - SS t → cut (c t) (row6 f2 (p j * 6)) = cut (c t) (row6 f ((SS t + plc fa (SS (t + 1) - SS t) j) * 6)) := by
  obtain ⟨P, hP, hl, hq⟩ := tie_list h
  have hpl : ∀ j, j < SS (t + 1) - SS t → plc fa (SS (t + 1) - SS t) j < SS (t + 1) - SS t := fun j hj => plc_lt hj
  have hp : ∀ j, j < SS (t + 1) - SS t → ∃ k, P[plc fa (SS (t + 1) - SS t) j]? = some k ∧ cut (c t) (row6 f2 (k * 6)) = cut (c t) (row6 f ((SS t + plc fa (SS (t + 1) - SS t) j) * 6)) := fun j hj => hq _ (hpl j hj)
  refine ⟨fun j => (P[plc fa (SS (t + 1) - SS t) j]?).getD 0, ⟨fun j hj => ?_, fun k hk hof => ?_, fun i j hij hj => ?_⟩, fun j hj => ?_⟩
  · obtain ⟨k, h1, -⟩ := hp j hj
    dsimp only
    rw [h1]
    exact mem_plcs.mp (hP.mem_iff.mp (List.mem_of_getElem? h1))
  · obtain ⟨j0, hj0⟩ := List.mem_iff_getElem?.mp (hP.mem_iff.mpr (mem_plcs.mpr ⟨hk, hof⟩))
    have hj1 : j0 < SS (t + 1) - SS t := by rw [← hl]; exact (List.getElem?_eq_some_iff.mp hj0).1
    refine ⟨plc fa (SS (t + 1) - SS t) j0, plc_lt hj1, ?_⟩
    have e : plc fa (SS (t + 1) - SS t) (plc fa (SS (t + 1) - SS t) j0) = j0 := by
      unfold plc
      by_cases hf : fa = 0
      · rw [if_pos hf, if_pos hf]
      · rw [if_neg hf, if_neg hf]; omega
    dsimp only
    rw [e, hj0]
    rfl
  · obtain ⟨k1, h1, h2⟩ := hp i (by omega)
    obtain ⟨k2, h3, h4⟩ := hp j hj
    dsimp only
    rw [h1, h3]
    show nrr fa (f2 (k1 * 6)) (f2 (k2 * 6))
    rw [key_cut hc h2, key_cut hc h4]
    unfold nrr plc
    by_cases hf : fa = 0
    · rw [if_pos hf, if_pos hf, if_pos hf]
      exact tie_keys h hij hj
    · rw [if_neg hf, if_neg hf, if_neg hf]
      exact tie_keys h (by omega) (by omega)
  · obtain ⟨k, h1, h2⟩ := hp j hj
    dsimp only
    rw [h1]
    exact h2
/-! how many -/
def sumN (g : Nat → Nat) : Nat → Nat
  | 0 => 0
  | k + 1 => sumN g k + g k
theorem cnt_split {α : Type} (l : List (Int32 × α)) : ∀ T, T ≤ 10 → (l.filter (fun r => decide (∃ t, t < T ∧ r.1 = nI t))).length = sumN (fun t => (l.filter (fun r => decide (r.1 = nI t))).length) T := by
  intro T
  induction T with
  | zero =>
    intro _
    show _ = 0
    rw [List.filter_eq_nil_iff.mpr (fun r _ => by simp)]
    rfl
  | succ T ih =>
    intro hT
    show _ = sumN _ T + (l.filter (fun r => decide (r.1 = nI T))).length
    rw [← ih (by omega)]
    clear ih
    induction l with
    | nil => rfl
    | cons r l ihl =>
      by_cases h1 : r.1 = nI T
      · have h2 : ¬ ∃ t, t < T ∧ r.1 = nI t := fun ⟨t, ht, e⟩ => by
          have := (nI_eq (by omega) (by omega)).mp (h1.symm.trans e)
          omega
        have h3 : ∃ t, t < T + 1 ∧ r.1 = nI t := ⟨T, by omega, h1⟩
        rw [List.filter_cons_of_pos (by simpa using h3), List.filter_cons_of_neg (by simpa using h2), List.filter_cons_of_pos (by simpa using h1), List.length_cons, List.length_cons, ihl]
        omega
      · by_cases h2 : ∃ t, t < T ∧ r.1 = nI t
        · have h3 : ∃ t, t < T + 1 ∧ r.1 = nI t := by obtain ⟨t, ht, e⟩ := h2; exact ⟨t, by omega, e⟩
          rw [List.filter_cons_of_pos (by simpa using h3), List.filter_cons_of_pos (by simpa using h2), List.filter_cons_of_neg (by simpa using h1), List.length_cons, List.length_cons, ihl]
          omega
        · have h3 : ¬ ∃ t, t < T + 1 ∧ r.1 = nI t := fun ⟨t, ht, e⟩ => by
            rcases Nat.lt_or_ge t T with z | z
            · exact h2 ⟨t, z, e⟩
            · exact h1 (by rw [e, show t = T by omega])
          rw [List.filter_cons_of_neg (by simpa using h3), List.filter_cons_of_neg (by simpa using h2), List.filter_cons_of_neg (by simpa using h1), ihl]
theorem sumN_tel {SS : Nat → Nat} {g : Nat → Nat} {T : Nat} (h : ∀ t, t < T → SS t ≤ SS (t + 1) ∧ g t = SS (t + 1) - SS t) : SS 0 + sumN g T = SS T := by
  induction T with
  | zero => rfl
  | succ T ih =>
    have h1 := ih (fun t ht => h t (by omega))
    have h2 := h T (by omega)
    show SS 0 + (sumN g T + g T) = _
    omega
theorem tie_all {f c s : Nat → Int32} {SS : Nat → Nat} {of f2 : Nat → Int32} {N : Nat} (h : tieR f c SS of f2 N) (hS : pS s SS) (h0 : SS 0 = 0) : N = SS 10 := by
  have key : ∀ T, T = 10 → N = SS 10 := by
    intro T hT
    have h1 := cnt_split (mRows of f2 N) T (by omega)
    have h2 : (mRows of f2 N).filter (fun r => decide (∃ t, t < T ∧ r.1 = nI t)) = mRows of f2 N := List.filter_eq_self.mpr (fun r hr => by
      unfold mRows at hr
      obtain ⟨k, hk, rfl⟩ := List.mem_map.mp hr
      obtain ⟨t, ht, e⟩ := h.1 k (List.mem_range.mp hk)
      exact decide_eq_true ⟨t, by omega, e⟩)
    rw [h2, mRows_len] at h1
    have h3 := sumN_tel (SS := SS) (g := fun t => ((mRows of f2 N).filter (fun r => decide (r.1 = nI t))).length) (T := T) (fun t ht => ⟨hS.2.1 t (by omega), by
      have := (h.2 t (by omega)).2.2.length_eq
      rw [List.length_map, List.length_map, tbl_len] at this
      exact this⟩)
    rw [hT] at h1 h3
    omega
  exact key 10 rfl
