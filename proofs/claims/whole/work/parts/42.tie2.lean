/-! TIE: what INSERT, DELETE and CREATE do to it -/
theorem pw_ins {α : Type} {R : α → α → Prop} {l : List α} {p : Nat} {v : α} (h : l.Pairwise R) (hp : p ≤ l.length) (h1 : ∀ j a, j < p → l[j]? = some a → R a v) (h2 : ∀ j a, p ≤ j → l[j]? = some a → R v a) : (l.insertIdx p v).Pairwise R := by
  have hlen : (l.insertIdx p v).length = l.length + 1 := List.length_insertIdx_of_le_length hp v
  refine List.pairwise_iff_getElem.mpr (fun i j hi hj hij => ?_)
  have gi : (l.insertIdx p v)[i]? = some ((l.insertIdx p v)[i]) := List.getElem?_eq_getElem hi
  have gj : (l.insertIdx p v)[j]? = some ((l.insertIdx p v)[j]) := List.getElem?_eq_getElem hj
  rw [List.getElem?_insertIdx] at gi gj
  by_cases a1 : i < p
  · rw [if_pos a1] at gi
    by_cases b1 : j < p
    · rw [if_pos b1] at gj
      have hi' := (List.getElem?_eq_some_iff.mp gi)
      have hj' := (List.getElem?_eq_some_iff.mp gj)
      have := List.pairwise_iff_getElem.mp h i j hi'.1 hj'.1 hij
      rw [hi'.2, hj'.2] at this
      exact this
    · rw [if_neg b1] at gj
      by_cases b2 : j = p
      · rw [if_pos b2, if_pos (by omega)] at gj
        rw [← Option.some.inj gj]
        exact h1 i _ a1 gi
      · rw [if_neg b2] at gj
        have hi' := (List.getElem?_eq_some_iff.mp gi)
        have hj' := (List.getElem?_eq_some_iff.mp gj)
        have := List.pairwise_iff_getElem.mp h i (j - 1) hi'.1 hj'.1 (by omega)
        rw [hi'.2, hj'.2] at this
        exact this
  · rw [if_neg a1] at gi
    by_cases a2 : i = p
    · rw [if_pos a2, if_pos (by omega)] at gi
      rw [← Option.some.inj gi]
      rw [if_neg (by omega), if_neg (by omega)] at gj
      exact h2 (j - 1) _ (by omega) gj
    · rw [if_neg a2] at gi
      rw [if_neg (by omega), if_neg (by omega)] at gj
      have hi' := (List.getElem?_eq_some_iff.mp gi)
      have hj' := (List.getElem?_eq_some_iff.mp gj)
      have := List.pairwise_iff_getElem.mp h (i - 1) (j - 1) hi'.1 hj'.1 (by omega)
      rw [hi'.2, hj'.2] at this
      exact this
/-- a key is in both or in neither -/
theorem tie_has {f c : Nat → Int32} {SS : Nat → Nat} {of f2 : Nat → Int32} {N t : Nat} (h : tieT f c SS of f2 N t) (hc : ¬ c t ≤ 0) {k : Int32} {p : Nat} (hp : pNB (fun j => f ((SS t + j) * 6)) (SS (t + 1) - SS t) k p) : (∃ q, q < N ∧ of q = nI t ∧ f2 (q * 6) = k) ↔ (p < SS (t + 1) - SS t ∧ f ((SS t + p) * 6) = k) := by
  obtain ⟨P, hP, hl, hq⟩ := tie_list h
  constructor
  · rintro ⟨q, h1, h2, h3⟩
    obtain ⟨j, hj⟩ := List.mem_iff_getElem?.mp (hP.mem_iff.mpr (mem_plcs.mpr ⟨h1, h2⟩))
    have hj1 : j < SS (t + 1) - SS t := by rw [← hl]; exact (List.getElem?_eq_some_iff.mp hj).1
    obtain ⟨k', h4, h5⟩ := hq j hj1
    rw [hj] at h4
    cases h4
    have h6 := key_cut hc h5
    rw [h3] at h6
    obtain ⟨p1, p2, p3⟩ := hp
    rcases Nat.lt_trichotomy j p with z | z | z
    · have := p2 j z
      dsimp only at this
      rw [← h6] at this
      exact absurd this Int32.lt_irrefl
    · rw [← z]; exact ⟨hj1, h6.symm⟩
    · have h7 := tie_keys h z hj1
      rw [← h6] at h7
      exact absurd h7 (p3 (by omega))
  · rintro ⟨h1, h2⟩
    obtain ⟨q, h3, h4⟩ := hq p h1
    obtain ⟨h5, h6⟩ := mem_plcs.mp (hP.mem_iff.mp (List.mem_of_getElem? h3))
    exact ⟨q, h5, h6, (key_cut hc h4).trans h2⟩
theorem tie_ins {f c : Nat → Int32} {SS : Nat → Nat} {of f2 : Nat → Int32} {N t1 p cN : Nat} {f' : Nat → Int32} {SS' : Nat → Nat} {f2' g hn : Nat → Int32} (h : tieR f c SS of f2 N) (ht1 : t1 < 10) (hc : ¬ c t1 ≤ 0) (hcN : c t1 = nI cN) (hc6 : cN ≤ 6)
    (hp : pNB (fun j => f ((SS t1 + j) * 6)) (SS (t1 + 1) - SS t1) (g 0) p) (hno : ¬ (p < SS (t1 + 1) - SS t1 ∧ f ((SS t1 + p) * 6) = g 0)) (hlen : ∀ t, t < 10 → t ≠ t1 → SS' (t + 1) - SS' t = SS (t + 1) - SS t) (hle : ∀ t, t < 10 → SS' t ≤ SS' (t + 1))
    (hT : tbl f' SS' t1 = (tbl f SS t1).insertIdx p (row6 g 0)) (hO : ∀ t', t' < 10 → t' ≠ t1 → tbl f' SS' t' = tbl f SS t') (h1 : ∀ q, q < N * 6 → f2' q = f2 q) (h2 : ∀ k, k < cN → f2' (N * 6 + k) = hn (2 + k)) (hg : ∀ k, k < cN → g k = hn (2 + k)) :
    tieR f' c SS' (upd of N (nI t1)) f2' (N + 1) := by
  have hM : mRows (upd of N (nI t1)) f2' (N + 1) = mRows of f2 N ++ [(nI t1, row6 f2' (N * 6))] := by
    rw [mRows_succ, mRows_eq (of := of) (f := f2) (fun q hq => pk_un (by omega)) h1, pk_us]
  refine ⟨fun k hk => ?_, fun t ht => ?_⟩
  · by_cases hkN : k = N
    · rw [hkN, pk_us]; exact ⟨t1, ht1, rfl⟩
    · rw [pk_un hkN]; exact h.1 k (by omega)
  · obtain ⟨a1, a2, a3⟩ := h.2 t ht
    by_cases htt : t = t1
    · subst htt
      refine ⟨?_, fun z => absurd (by rw [z]; decide) hc, ?_⟩
      · rw [hT]
        refine pw_ins a1 (by rw [tbl_len]; exact hp.1) (fun j a hj ha => ?_) (fun j a hj ha => ?_)
        · have hjn : j < SS (t + 1) - SS t := by have := hp.1; omega
          rw [tbl_get hjn] at ha
          rw [← Option.some.inj ha, row6_0, row6_0]
          exact hp.2.1 j hj
        · have hjn : j < SS (t + 1) - SS t := by rw [← tbl_len (f := f)]; exact (List.getElem?_eq_some_iff.mp ha).1
          rw [tbl_get hjn] at ha
          rw [← Option.some.inj ha, row6_0, row6_0]
          have hpn : p < SS (t + 1) - SS t := by omega
          have h5 : g 0 < f ((SS t + p) * 6) := by
            have h6 := hp.2.2 hpn
            rcases Int32.lt_or_eq_of_le (Int32.not_lt.mp h6) with z | z
            · exact z
            · exact absurd ⟨hpn, z.symm⟩ hno
          rcases Nat.lt_or_ge p j with z | z
          · exact Int32.lt_trans h5 (tie_keys (h.2 t ht) z hjn)
          · rw [show j = p by omega]; exact h5
      · rw [hM, List.filter_append, List.map_append, hT]
        have e1 : ([(nI t, row6 f2' (N * 6))] : List (Int32 × (Nat → Int32))).filter (fun r => decide (r.1 = nI t)) = [(nI t, row6 f2' (N * 6))] := by simp
        rw [e1]
        have e2 : cut (c t) (row6 f2' (N * 6)) = cut (c t) (row6 g 0) := by
          funext k
          unfold cut
          by_cases hk : nI k < c t
          · rw [if_pos hk, if_pos hk]
            by_cases hk6 : k < 6
            · have hkc : k < cN := by
                rw [hcN] at hk
                exact llt_of hk (by omega)
              unfold row6
              rw [if_pos hk6, if_pos hk6, h2 k hkc, Nat.zero_add, hg k hkc]
            · unfold row6
              rw [if_neg hk6, if_neg hk6]
          · rw [if_neg hk, if_neg hk]
        refine List.Perm.trans ?_ ((List.perm_insertIdx (row6 g 0) (tbl f SS t) (by rw [tbl_len]; exact hp.1)).symm.map (cut (c t)))
        refine List.Perm.trans (List.perm_append_comm) ?_
        show (cut (c t) (row6 f2' (N * 6)) :: ((mRows of f2 N).filter (fun r => decide (r.1 = nI t))).map (fun r => cut (c t) r.2)).Perm (cut (c t) (row6 g 0) :: (tbl f SS t).map (cut (c t)))
        rw [e2]
        exact a3.cons _
    · have hne : ¬ nI t1 = nI t := fun z => htt ((nI_eq (by omega) (by omega)).mp z).symm
      rw [show tieT f' c SS' (upd of N (nI t1)) f2' (N + 1) t = _ from rfl]
      unfold tieT
      rw [hO t ht htt, hM, List.filter_append]
      have e1 : ([(nI t1, row6 f2' (N * 6))] : List (Int32 × (Nat → Int32))).filter (fun r => decide (r.1 = nI t)) = [] := by simp [hne]
      rw [e1, List.append_nil]
      refine ⟨a1, fun z => ?_, a3⟩
      have := a2 z
      have h8 := hlen t ht htt
      have h9 := hle t ht
      omega
theorem tie_del {f c : Nat → Int32} {SS : Nat → Nat} {of f2 : Nat → Int32} {N N' t1 : Nat} {f' : Nat → Int32} {SS' : Nat → Nat} {of' f2' : Nat → Int32} {P Q : (Nat → Int32) → Bool} {kp : Int32 × (Nat → Int32) → Bool} (h : tieR f c SS of f2 N) (ht1 : t1 < 10) (hc : ¬ c t1 ≤ 0) (hle : ∀ t, t < 10 → SS' t ≤ SS' (t + 1))
    (hT : tbl f' SS' t1 = (tbl f SS t1).filter P) (hO : ∀ t', t' < 10 → t' ≠ t1 → tbl f' SS' t' = tbl f SS t') (hM : mRows of' f2' N' = (mRows of f2 N).filter kp) (h1 : ∀ r, ¬ r.1 = nI t1 → kp r = true) (h2 : ∀ r, r.1 = nI t1 → kp r = Q (cut (c t1) r.2)) (h3 : ∀ r ∈ tbl f SS t1, P r = Q (cut (c t1) r)) :
    tieR f' c SS' of' f2' N' := by
  refine ⟨fun k hk => ?_, fun t ht => ?_⟩
  · have hm : (of' k, row6 f2' (k * 6)) ∈ mRows of' f2' N' := List.mem_map.mpr ⟨k, List.mem_range.mpr hk, rfl⟩
    rw [hM] at hm
    obtain ⟨k', hk', e⟩ := List.mem_map.mp (List.mem_filter.mp hm).1
    obtain ⟨t, ht, e2⟩ := h.1 k' (List.mem_range.mp hk')
    exact ⟨t, ht, (show of k' = of' k from congrArg Prod.fst e).symm.trans e2⟩
  · obtain ⟨a1, a2, a3⟩ := h.2 t ht
    unfold tieT
    rw [hM, List.filter_filter]
    by_cases htt : t = t1
    · subst htt
      rw [hT]
      refine ⟨a1.filter P, fun z => absurd (by rw [z]; decide) hc, ?_⟩
      have e1 : (mRows of f2 N).filter (fun a => decide (a.1 = nI t) && kp a) = ((mRows of f2 N).filter (fun r => decide (r.1 = nI t))).filter (fun r => Q (cut (c t) r.2)) := by
        rw [List.filter_filter]
        refine List.filter_congr (fun r _ => ?_)
        by_cases hr : r.1 = nI t
        · rw [h2 r hr, Bool.and_comm]
        · rw [decide_eq_false hr, Bool.and_false]; rfl
      have e2 : (tbl f SS t).filter P = (tbl f SS t).filter (fun r => Q (cut (c t) r)) := List.filter_congr h3
      rw [e1, e2]
      have e3 : ∀ l : List (Int32 × (Nat → Int32)), (l.filter (fun r => Q (cut (c t) r.2))).map (fun r => cut (c t) r.2) = (l.map (fun r => cut (c t) r.2)).filter Q := fun l => by rw [List.filter_map]; rfl
      have e4 : ∀ l : List (Nat → Int32), (l.filter (fun r => Q (cut (c t) r))).map (cut (c t)) = (l.map (cut (c t))).filter Q := fun l => by rw [List.filter_map]; rfl
      rw [e3, e4]
      exact a3.filter Q
    · have e1 : (mRows of f2 N).filter (fun a => decide (a.1 = nI t) && kp a) = (mRows of f2 N).filter (fun r => decide (r.1 = nI t)) := by
        refine List.filter_congr (fun r _ => ?_)
        by_cases hr : r.1 = nI t
        · rw [h1 r (fun z => htt ((nI_eq (by omega) (by omega)).mp (hr.symm.trans z))), Bool.and_true]
        · rw [decide_eq_false hr]; rfl
      have hl : SS' (t + 1) - SS' t = SS (t + 1) - SS t := by
        have := congrArg List.length (hO t ht htt)
        rwa [tbl_len, tbl_len] at this
      rw [e1, hO t ht htt]
      refine ⟨a1, fun z => ?_, a3⟩
      have := a2 z
      have h9 := hle t ht
      omega
/-- a new table is empty -/
theorem tie_cre {f c : Nat → Int32} {SS : Nat → Nat} {of f2 : Nat → Int32} {N t1 : Nat} {k : Int32} (h : tieR f c SS of f2 N) (ht1 : t1 < 10) (hc : c t1 = 0) (hk : ¬ k = 0) : tieR f (upd c t1 k) SS of f2 N := by
  refine ⟨h.1, fun t ht => ?_⟩
  obtain ⟨a1, a2, a3⟩ := h.2 t ht
  by_cases htt : t = t1
  · subst htt
    have h0 := a2 hc
    have e : tbl f SS t = [] := by
      have h3 : (tbl f SS t).length = 0 := by rw [tbl_len]; omega
      exact List.length_eq_zero_iff.mp h3
    unfold tieT
    rw [e] at a3 ⊢
    have e2 : (mRows of f2 N).filter (fun r => decide (r.1 = nI t)) = [] := by
      have h4 := a3.length_eq
      rw [List.length_map, List.length_map] at h4
      exact List.length_eq_zero_iff.mp h4
    rw [e2, pk_us]
    exact ⟨List.Pairwise.nil, fun z => absurd z hk, List.Perm.refl _⟩
  · unfold tieT
    rw [pk_un htt]
    exact ⟨a1, a2, a3⟩
theorem tie_zero {f c : Nat → Int32} {SS : Nat → Nat} {of f2 : Nat → Int32} (hS : ∀ t, t < 10 → SS (t + 1) = SS t) : tieR f c SS of f2 0 := by
  refine ⟨fun k hk => absurd hk (Nat.not_lt_zero k), fun t ht => ?_⟩
  have e : tbl f SS t = [] := by
    have h3 : (tbl f SS t).length = 0 := by rw [tbl_len, hS t ht]; omega
    exact List.length_eq_zero_iff.mp h3
  unfold tieT
  rw [e]
  exact ⟨List.Pairwise.nil, fun _ => hS t ht, List.Perm.refl _⟩
