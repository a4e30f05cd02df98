/-! TABLES as lists of rows -/
def row6 (f : Nat → Int32) (o : Nat) : Nat → Int32 := fun c => if c < 6 then f (o + c) else 0
def rws {α : Type} (R : Nat → α) (b n : Nat) : List α := (List.range n).map (fun j => R (b + j))
theorem rws_get {α : Type} {R : Nat → α} {b n j : Nat} : (rws R b n)[j]? = if j < n then some (R (b + j)) else none := by
  unfold rws
  by_cases h : j < n
  · simp [h]
  · simp [h]
theorem rws_len {α : Type} {R : Nat → α} {b n : Nat} : (rws R b n).length = n := by simp [rws]
theorem rws_eq {α : Type} {R R' : Nat → α} {b b' n : Nat} (h : ∀ j, j < n → R' (b' + j) = R (b + j)) : rws R' b' n = rws R b n := by
  unfold rws
  exact List.map_congr_left (fun j hj => h j (List.mem_range.mp hj))
theorem rws_ins {α : Type} {R R' : Nat → α} {b n p : Nat} {v : α} (hp : p ≤ n) (h : ∀ j, j ≤ n → R' (b + j) = if j < p then R (b + j) else if j = p then v else R (b + (j - 1))) : rws R' b (n + 1) = (rws R b n).insertIdx p v := by
  apply List.ext_getElem?
  intro j
  rw [rws_get, List.getElem?_insertIdx, rws_get, rws_get, rws_len]
  by_cases h1 : j < p
  · rw [if_pos h1, if_pos (by omega), if_pos (by omega), h j (by omega), if_pos h1]
  · rw [if_neg h1]
    by_cases h2 : j = p
    · rw [if_pos h2, if_pos (by omega), if_pos (by omega), h j (by omega), if_neg h1, if_pos h2]
    · rw [if_neg h2]
      by_cases h3 : j < n + 1
      · rw [if_pos h3, if_pos (by omega), h j (by omega), if_neg h1, if_neg h2]
      · rw [if_neg h3, if_neg (by omega)]
theorem rws_rem {α : Type} {R R' : Nat → α} {b n p : Nat} (hp : p < n) (h : ∀ j, j < n - 1 → R' (b + j) = if j < p then R (b + j) else R (b + (j + 1))) : rws R' b (n - 1) = (rws R b n).eraseIdx p := by
  apply List.ext_getElem?
  intro j
  rw [rws_get, List.getElem?_eraseIdx, rws_get, rws_get]
  by_cases h1 : j < p
  · rw [if_pos h1, if_pos (by omega), if_pos (by omega), h j (by omega), if_pos h1]
  · rw [if_neg h1]
    by_cases h3 : j < n - 1
    · rw [if_pos h3, if_pos (by omega), h j h3, if_neg h1]
    · rw [if_neg h3, if_neg (by omega)]
/-- the rows of table t -/
def tbl (f : Nat → Int32) (SS : Nat → Nat) (t : Nat) : List (Nat → Int32) := rws (fun x => row6 f (x * 6)) (SS t) (SS (t + 1) - SS t)
theorem tbl_len {f : Nat → Int32} {SS : Nat → Nat} {t : Nat} : (tbl f SS t).length = SS (t + 1) - SS t := rws_len
def incB (SS : Nat → Nat) (t : Nat) : Nat → Nat := fun i => if t < i then SS i + 1 else SS i
def decB (SS : Nat → Nat) (t : Nat) : Nat → Nat := fun i => if t < i then SS i - 1 else SS i
/-- row x of the array behind an insertion at row r -/
theorem row_ins {f g : Nat → Int32} {r N x : Nat} (hr : r ≤ N) (hx : x ≤ N) : row6 (va_cpy g (va_cpy f f (r * 6) (r * 6 + 6) (N * 6 - r * 6)) 0 (r * 6) 6) (x * 6) = if x < r then row6 f (x * 6) else if x = r then row6 g 0 else row6 f ((x - 1) * 6) := by
  funext c
  unfold row6
  by_cases hc : c < 6
  · rw [if_pos hc]
    by_cases h1 : x < r
    · rw [if_pos h1, if_pos hc, pk_cpy_out (Or.inl (by omega)), pk_cpy_out (Or.inl (by omega))]
    · rw [if_neg h1]
      by_cases h2 : x = r
      · rw [if_pos h2, if_pos hc, pk_cpy_in (by omega) (by omega)]; congr 1; omega
      · rw [if_neg h2, if_pos hc, pk_cpy_out (Or.inr (by omega)), pk_cpy_in (by omega) (by omega)]; congr 1; omega
  · rw [if_neg hc]
    by_cases h1 : x < r
    · rw [if_pos h1, if_neg hc]
    · rw [if_neg h1]
      by_cases h2 : x = r
      · rw [if_pos h2, if_neg hc]
      · rw [if_neg h2, if_neg hc]
theorem row_rem {f : Nat → Int32} {r N x : Nat} (hr : r < N) (hx : x < N - 1) : row6 (va_cpy f f ((r + 1) * 6) ((r + 1) * 6 - 6) (N * 6 - (r + 1) * 6)) (x * 6) = if x < r then row6 f (x * 6) else row6 f ((x + 1) * 6) := by
  funext c
  unfold row6
  by_cases hc : c < 6
  · rw [if_pos hc]
    by_cases h1 : x < r
    · rw [if_pos h1, if_pos hc, pk_cpy_out (Or.inl (by omega))]
    · rw [if_neg h1, if_pos hc, pk_cpy_in (by omega) (by omega)]; congr 1; omega
  · rw [if_neg hc]
    by_cases h1 : x < r
    · rw [if_pos h1, if_neg hc]
    · rw [if_neg h1, if_neg hc]
theorem pS.inc {s s' : Nat → Int32} {SS : Nat → Nat} {t : Nat} (h : pS s SS) (ht : t < 10) (hs : ∀ i, s' i = if t < i ∧ i < 11 then s i + 1 else s i) (hl : SS 10 < 400) : pS s' (incB SS t) := by
  refine ⟨fun i hi => ?_, fun i hi => ?_, ?_⟩
  · rw [hs i]
    unfold incB
    by_cases h1 : t < i
    · rw [if_pos ⟨h1, by omega⟩, if_pos h1, h.1 i hi, nI_1]
    · rw [if_neg (by omega), if_neg h1, h.1 i hi]
  · have := h.2.1 i hi
    unfold incB
    by_cases h1 : t < i
    · rw [if_pos h1, if_pos (by omega)]; omega
    · rw [if_neg h1]
      by_cases h2 : t < i + 1
      · rw [if_pos h2]; omega
      · rw [if_neg h2]; omega
  · unfold incB; rw [if_pos (by omega)]; omega
theorem pS.dec {s s' : Nat → Int32} {SS : Nat → Nat} {t : Nat} (h : pS s SS) (ht : t < 10) (hs : ∀ i, s' i = if t < i ∧ i < 11 then s i + (-1) else s i) (hl : SS t < SS (t + 1)) : pS s' (decB SS t) := by
  have hm : ∀ i, t < i → i ≤ 10 → SS t < SS i := fun i h1 h2 => Nat.lt_of_lt_of_le hl (h.mono (t + 1) i (by omega) h2)
  refine ⟨fun i hi => ?_, fun i hi => ?_, ?_⟩
  · rw [hs i]
    unfold decB
    by_cases h1 : t < i
    · rw [if_pos ⟨h1, by omega⟩, if_pos h1, h.1 i hi, sb_m1 (by have := hm i h1 hi; omega)]
    · rw [if_neg (by omega), if_neg h1, h.1 i hi]
  · have := h.2.1 i hi
    unfold decB
    by_cases h1 : t < i
    · rw [if_pos h1, if_pos (by omega)]; omega
    · rw [if_neg h1]
      by_cases h2 : t < i + 1
      · rw [if_pos h2]
        have h3 : i = t := by omega
        subst h3; omega
      · rw [if_neg h2]; omega
  · have := h.2.2
    unfold decB; rw [if_pos (by omega)]; omega
theorem tbl_ins {s f g : Nat → Int32} {SS : Nat → Nat} {t p : Nat} (h : pS s SS) (ht : t < 10) (hp : p ≤ SS (t + 1) - SS t) : tbl (va_cpy g (va_cpy f f ((SS t + p) * 6) ((SS t + p) * 6 + 6) (SS 10 * 6 - (SS t + p) * 6)) 0 ((SS t + p) * 6) 6) (incB SS t) t = (tbl f SS t).insertIdx p (row6 g 0) := by
  have hm := h.mono (t + 1) 10 (by omega) (by omega)
  have h1 := h.2.1 t ht
  unfold tbl
  rw [show incB SS t (t + 1) - incB SS t t = SS (t + 1) - SS t + 1 by unfold incB; rw [if_pos (by omega), if_neg (by omega)]; omega, show incB SS t t = SS t by unfold incB; rw [if_neg (by omega)]]
  refine rws_ins hp (fun j hj => ?_)
  rw [row_ins (by omega) (by omega)]
  by_cases h2 : j < p
  · rw [if_pos (by omega), if_pos h2]
  · rw [if_neg (by omega), if_neg h2]
    by_cases h3 : j = p
    · rw [if_pos (by omega), if_pos h3]
    · rw [if_neg (by omega), if_neg h3, show SS t + j - 1 = SS t + (j - 1) by omega]
theorem tbl_insO {s f g : Nat → Int32} {SS : Nat → Nat} {t t' p : Nat} (h : pS s SS) (ht : t < 10) (ht' : t' < 10) (hne : t' ≠ t) (hp : p ≤ SS (t + 1) - SS t) : tbl (va_cpy g (va_cpy f f ((SS t + p) * 6) ((SS t + p) * 6 + 6) (SS 10 * 6 - (SS t + p) * 6)) 0 ((SS t + p) * 6) 6) (incB SS t) t' = tbl f SS t' := by
  have hm := h.mono (t + 1) 10 (by omega) (by omega)
  have h1 := h.2.1 t ht
  have h4 := h.2.1 t' ht'
  have h5 := h.mono (t' + 1) 10 (by omega) (by omega)
  unfold tbl
  rcases Nat.lt_or_ge t' t with hlt | hge
  · have hm2 := h.mono (t' + 1) t (by omega) (by omega)
    rw [show incB SS t (t' + 1) = SS (t' + 1) by unfold incB; rw [if_neg (by omega)], show incB SS t t' = SS t' by unfold incB; rw [if_neg (by omega)]]
    refine rws_eq (fun j hj => ?_)
    rw [row_ins (by omega) (by omega), if_pos (by omega)]
  · have hm2 := h.mono (t + 1) t' (by omega) (by omega)
    rw [show incB SS t (t' + 1) = SS (t' + 1) + 1 by unfold incB; rw [if_pos (by omega)], show incB SS t t' = SS t' + 1 by unfold incB; rw [if_pos (by omega)], show SS (t' + 1) + 1 - (SS t' + 1) = SS (t' + 1) - SS t' by omega]
    refine rws_eq (fun j hj => ?_)
    rw [row_ins (by omega) (by omega), if_neg (by omega), if_neg (by omega), show SS t' + 1 + j - 1 = SS t' + j by omega]
theorem tbl_rem {s f : Nat → Int32} {SS : Nat → Nat} {t p : Nat} (h : pS s SS) (ht : t < 10) (hp : p < SS (t + 1) - SS t) : tbl (va_cpy f f ((SS t + p + 1) * 6) ((SS t + p + 1) * 6 - 6) (SS 10 * 6 - (SS t + p + 1) * 6)) (decB SS t) t = (tbl f SS t).eraseIdx p := by
  have hm := h.mono (t + 1) 10 (by omega) (by omega)
  unfold tbl
  rw [show decB SS t (t + 1) - decB SS t t = SS (t + 1) - SS t - 1 by unfold decB; rw [if_pos (by omega), if_neg (by omega)]; omega, show decB SS t t = SS t by unfold decB; rw [if_neg (by omega)]]
  refine rws_rem hp (fun j hj => ?_)
  rw [row_rem (by omega) (by omega)]
  by_cases h2 : j < p
  · rw [if_pos (by omega), if_pos h2]
  · rw [if_neg (by omega), if_neg h2, show SS t + j + 1 = SS t + (j + 1) by omega]
theorem tbl_remO {s f : Nat → Int32} {SS : Nat → Nat} {t t' p : Nat} (h : pS s SS) (ht : t < 10) (ht' : t' < 10) (hne : t' ≠ t) (hp : p < SS (t + 1) - SS t) : tbl (va_cpy f f ((SS t + p + 1) * 6) ((SS t + p + 1) * 6 - 6) (SS 10 * 6 - (SS t + p + 1) * 6)) (decB SS t) t' = tbl f SS t' := by
  have hm := h.mono (t + 1) 10 (by omega) (by omega)
  have h4 := h.2.1 t' ht'
  have h5 := h.mono (t' + 1) 10 (by omega) (by omega)
  unfold tbl
  rcases Nat.lt_or_ge t' t with hlt | hge
  · have hm2 := h.mono (t' + 1) t (by omega) (by omega)
    rw [show decB SS t (t' + 1) = SS (t' + 1) by unfold decB; rw [if_neg (by omega)], show decB SS t t' = SS t' by unfold decB; rw [if_neg (by omega)]]
    refine rws_eq (fun j hj => ?_)
    rw [row_rem (by omega) (by omega), if_pos (by omega)]
  · have hm2 := h.mono (t + 1) t' (by omega) (by omega)
    rw [show decB SS t (t' + 1) = SS (t' + 1) - 1 by unfold decB; rw [if_pos (by omega)], show decB SS t t' = SS t' - 1 by unfold decB; rw [if_pos (by omega)], show SS (t' + 1) - 1 - (SS t' - 1) = SS (t' + 1) - SS t' by omega]
    refine rws_eq (fun j hj => ?_)
    rw [row_rem (by omega) (by omega), if_neg (by omega), show SS t' - 1 + j + 1 = SS t' + j by omega]
def mix (r g : Nat → Int32) : Nat → Int32 := fun c => if c < 6 then r c else g c
theorem mix_eq {f g1 g : Nat → Int32} {o : Nat} (h : rdE (-1) g1 g) : va_cpy f g1 o 0 6 = mix (row6 f o) g := by
  funext c
  unfold mix row6
  by_cases hc : c < 6
  · rw [if_pos hc, if_pos hc, pk_cpy_in (by omega) (by omega)]; congr 1
  · rw [if_neg hc, pk_cpy_out (Or.inr (by omega))]; exact h c (by omega) (Or.inr (Or.inr rfl))
theorem del_split {α : Type} {L : List α} {k : Nat} {r : α} (hr : L[k]? = some r) : L.take (k + 1) = L.take k ++ [r] ∧ L.drop k = r :: L.drop (k + 1) := by
  obtain ⟨hk, he⟩ := List.getElem?_eq_some_iff.mp hr
  constructor
  · rw [List.take_succ, hr]; rfl
  · rw [List.drop_eq_getElem_cons hk, he]
theorem del_keep {α : Type} {q : α → Bool} {L : List α} {k : Nat} {r : α} (hr : L[k]? = some r) (hq : q r = true) : L.take (k + 1) ++ (L.drop (k + 1)).filter q = L.take k ++ (L.drop k).filter q := by
  rw [(del_split hr).1, (del_split hr).2, List.filter_cons_of_pos hq, List.append_assoc]; rfl
theorem del_rem {α : Type} {q : α → Bool} {L : List α} {k : Nat} {r : α} (hr : L[k]? = some r) (hq : q r = false) : (L.take (k + 1) ++ (L.drop (k + 1)).filter q).eraseIdx k = L.take k ++ (L.drop k).filter q := by
  obtain ⟨hk, -⟩ := List.getElem?_eq_some_iff.mp hr
  have hl : (L.take k).length = k := by rw [List.length_take]; omega
  rw [(del_split hr).1, (del_split hr).2, List.filter_cons_of_neg (by rw [hq]; decide), List.append_assoc, List.eraseIdx_append_of_length_le (by omega), hl, Nat.sub_self]
  rfl
theorem del_row {f : Nat → Int32} {SS : Nat → Nat} {t k : Nat} {L X : List (Nat → Int32)} (h : tbl f SS t = L.take (k + 1) ++ X) (hk : k < L.length) : k < SS (t + 1) - SS t ∧ L[k]? = some (row6 f ((SS t + k) * 6)) := by
  have hl : k < (tbl f SS t).length := by rw [h, List.length_append, List.length_take]; omega
  have h1 : (tbl f SS t)[k]? = L[k]? := by
    rw [h, List.getElem?_append_left (by rw [List.length_take]; omega), List.getElem?_take_of_lt (by omega)]
  rw [tbl_len] at hl
  refine ⟨hl, h1.symm.trans ?_⟩
  unfold tbl
  rw [rws_get, if_pos hl]
