/-! STATE: what lies in the cells of the class -/
abbrev bI (b : Bool) : Int32 := bif b then 1 else 0
theorem bI_t {b : Bool} (h : ¬ bI b = 0) : b = true := by cases b with
  | true => rfl
  | false => exact absurd rfl h
theorem bI_f {b : Bool} (h : bI b = 0) : b = false := by cases b with
  | false => rfl
  | true => exact absurd h (by decide)
theorem in_of {a : Int32} {n N : Nat} (h1 : ¬ a < 0) (h2 : ¬ nI n ≤ a) (h3 : n ≤ N) (h4 : N < 2 ^ 31) : vp_in a N := by
  rcases pk_ix a (n := n) (by omega) with h | h | ⟨j, hj, rfl⟩
  · exact absurd h h1
  · exact absurd h h2
  · exact vp_in_nI (by omega) h4
theorem in_of1 {a : Int32} {n N : Nat} (h1 : ¬ a < 0) (h2 : ¬ nI n ≤ a) (h3 : n + 1 ≤ N) (h4 : N < 2 ^ 31) : vp_in (a + 1) N := by
  rcases pk_ix a (n := n) (by omega) with h | h | ⟨j, hj, rfl⟩
  · exact absurd h h1
  · exact absurd h h2
  · rw [nI_1]; exact vp_in_nI (by omega) h4
/-- what was there outside the cells of M is there -/
def xKeep (M : List Nat) (h h' : xH) : Prop := ∀ q e, h q = some e → q ∉ M → h' q = some e
theorem xKeep.rf {M : List Nat} {h : xH} : xKeep M h h := fun _ _ f _ => f
theorem xKeep.up {M : List Nat} {h h1 h2 : xH} {a : Nat} {e : va_E} (o : xKeep M h h1) (u : h2 = va_up h1 a (some e)) (ha : a ∈ M) : xKeep M h h2 := fun q e9 f hq => by
  rw [u, va_up_ne _ _ (fun z9 => hq (by rw [z9]; exact ha))]
  exact o q e9 f hq
theorem xKeep.upN {M : List Nat} {h h1 h2 : xH} {a : Nat} {e : va_E} (o : xKeep M h h1) (u : h2 = va_up h1 a (some e)) (ha : h a = none) : xKeep M h h2 := fun q e9 f hq => by
  rw [u, va_up_ne _ _ (x_nn f ha)]
  exact o q e9 f hq
theorem xKeep.isn {M : List Nat} {h h1 : xH} {q : Nat} (o : xKeep M h h1) (n : h1 q = none) (hq : q ∉ M) : h q = none := by
  cases hh : h q with
  | none => rfl
  | some e => rw [o q e hh hq] at n; cases n
theorem xKeep.tr {M : List Nat} {h h1 h2 : xH} (o : xKeep M h h1) (o2 : xKeep M h1 h2) : xKeep M h h2 := fun q e f hq => o2 q e (o q e f hq) hq
theorem xKeep.mono {M N : List Nat} {h h1 : xH} (o : xKeep M h h1) (hs : ∀ q ∈ M, q ∈ N) : xKeep N h h1 := fun q e f hq => o q e f (fun h9 => hq (hs q h9))
/-- a callee's cells are this one's, or new -/
theorem xKeep.call {M N : List Nat} {h h1 h2 : xH} (o : xKeep M h h1) (o2 : xKeep N h1 h2) (hs : ∀ q ∈ N, q ∈ M ∨ h q = none) : xKeep M h h2 := fun q e f hq => o2 q e (o q e f hq) (fun h9 => by
  rcases hs q h9 with z | z
  · exact hq z
  · rw [f] at z; cases z)
theorem xKeep.get {M : List Nat} {h h1 : xH} {q : Nat} {e : va_E} (o : xKeep M h h1) (f : h q = some e) (hq : q ∉ M) : h1 q = some e := o q e f hq
abbrev oOp (k n : Int32) : va_E := .inr (0, [.int k, .int n])
abbrev oCn (l : Nat) (c : Int32) (r : Nat) : va_E := .inr (1, [.ref l, .int c, .ref r])
abbrev oPa (T S : Nat) (p : Int32) : va_E := .inr (2, [.ref T, .ref S, .int p])
abbrev oTo (kr nr : Nat) (n : Int32) : va_E := .inr (6, [.ref kr, .ref nr, .int n])
abbrev oTa (ce co sr : Nat) : va_E := .inr (5, [.ref ce, .ref co, .ref sr])
/-- the pending tokens: n of them, kinds ks, numbers ns -/
def pTo (V : xV) (h : xH) (T kr nr : Nat) (ks ns : Nat → Int32) (n : Nat) : Prop := h T = some (oTo kr nr (nI n)) ∧ h kr = some (xI V 60 ks) ∧ h nr = some (xI V 60 ns) ∧ kr ≠ nr ∧ n ≤ 60
/-- the tables: cells f, columns c, starts s -/
def pTa (V : xV) (h : xH) (B ce co sr : Nat) (f c s : Nat → Int32) : Prop := h B = some (oTa ce co sr) ∧ h ce = some (xI V 2400 f) ∧ h co = some (xI V 10 c) ∧ h sr = some (xI V 11 s)
def colOf (c : Nat → Int32) (t : Int32) : Int32 := if t < 0 then 0 else if 10 ≤ t then 0 else c t.toNatClampNeg
def rowOf (s : Nat → Int32) (t : Int32) : Int32 := if t < 0 then 0 else if 10 ≤ t then 0 else s (t + 1).toNatClampNeg - s t.toNatClampNeg
/-- the starts as numbers -/
def pS (s : Nat → Int32) (S : Nat → Nat) : Prop := (∀ i, i ≤ 10 → s i = nI (S i)) ∧ (∀ i, i < 10 → S i ≤ S (i + 1)) ∧ S 10 ≤ 400
theorem pS.le {s : Nat → Int32} {S : Nat → Nat} (h : pS s S) : ∀ i, i ≤ 10 → S i ≤ 400 := by
  intro i hi
  have : ∀ k, i + k ≤ 10 → S i ≤ S (i + k) := by
    intro k
    induction k with
    | zero => intro _; exact Nat.le_refl _
    | succ k ih => intro hk; exact Nat.le_trans (ih (by omega)) (h.2.1 (i + k) (by omega))
  have h2 := this (10 - i) (by omega)
  rw [show i + (10 - i) = 10 by omega] at h2
  exact Nat.le_trans h2 h.2.2
theorem pS.mono {s : Nat → Int32} {S : Nat → Nat} (h : pS s S) (i j : Nat) (hij : i ≤ j) (hj : j ≤ 10) : S i ≤ S j := by
  have : ∀ k, i + k ≤ 10 → S i ≤ S (i + k) := by
    intro k
    induction k with
    | zero => intro _; exact Nat.le_refl _
    | succ k ih => intro hk; exact Nat.le_trans (ih (by omega)) (h.2.1 (i + k) (by omega))
  have h2 := this (j - i) (by omega)
  rw [show i + (j - i) = j by omega] at h2
  exact h2
theorem pS.row {s : Nat → Int32} {S : Nat → Nat} (h : pS s S) {t : Nat} (ht : t < 10) : rowOf s (nI t) = nI (S (t + 1) - S t) := by
  unfold rowOf
  rw [if_neg (nI_pos (by omega)), if_neg (show ¬ (10 : Int32) ≤ nI t from nI_ge (b := 10) ht (by decide)), nI_1, nI_clamp (by omega), nI_clamp (by omega), h.1 (t + 1) (by omega), h.1 t (by omega), pk_sub (h.2.1 t ht)]
theorem cell_eq (a j : Nat) : (nI a + nI j) * 6 = nI ((a + j) * 6) := by rw [nI_add]; exact pk_mul (a + j) 6
def opThere (k n fc sc : Int32) : Bool := if k = 3 then true else if 10 ≤ n then !decide (sc ≤ n - 10) else !decide (fc ≤ n)
def opVal (k n : Int32) (f : Nat → Int32) : Int32 := if k = 3 then n else f n.toNatClampNeg
def cmp (c x y : Int32) : Bool := if c = 10 then decide (x = y) else if c = 11 then !decide (y ≤ x) else !decide (x ≤ y)
/-- place p is the first of n whose key (by 'key') isn't below k -/
def pNB (key : Nat → Int32) (n : Nat) (k : Int32) (p : Nat) : Prop := p ≤ n ∧ (∀ j, j < p → key j < k) ∧ (p < n → ¬ key p < k)
def colIn (a k : Int32) : Bool := !decide (k < a) && !decide (a + 6 ≤ k)
def tokOK (k n : Int32) : Bool := if k = 0 then !decide (n < 0) && !decide (13 < n) else if k = 1 then !decide (n < 0) && !decide (10 ≤ n) else if k = 2 then colIn 0 n || colIn 10 n else decide (k = 3)
/-- the token at place a (of n) is of kind k -/
def isKd (ks : Nat → Int32) (n : Nat) (a k : Int32) : Bool := !decide (a < 0) && (!decide (nI n ≤ a) && decide (ks a.toNatClampNeg = k))
theorem toInt_eq {x y : Int32} (h : x.toInt = y.toInt) : x = y := Int32.toInt_inj.mp h
theorem sw4 (x : Int32) : x = 0 ∨ x = 1 ∨ x = 2 ∨ x = 3 ∨ (x.toInt < 0 ∨ 3 < x.toInt) := by
  rcases (by omega : x.toInt < 0 ∨ 0 ≤ x.toInt) with h | h
  · exact Or.inr (Or.inr (Or.inr (Or.inr (Or.inl h))))
  rcases (by omega : 3 < x.toInt ∨ x.toInt ≤ 3) with h2 | h2
  · exact Or.inr (Or.inr (Or.inr (Or.inr (Or.inr h2))))
  rcases (by omega : x.toInt = 0 ∨ x.toInt = 1 ∨ x.toInt = 2 ∨ x.toInt = 3) with z | z | z | z
  · exact Or.inl (toInt_eq z)
  · exact Or.inr (Or.inl (toInt_eq z))
  · exact Or.inr (Or.inr (Or.inl (toInt_eq z)))
  · exact Or.inr (Or.inr (Or.inr (Or.inl (toInt_eq z))))
theorem look2 {x : Int32} {a b d : Int} (h1 : ¬ x = 10) (h2 : ¬ x = 11) : Op.lookupswitch.offset [(10, a), (11, b)] d x.toInt = d := by
  have z1 : ¬ x.toInt = 10 := fun z => h1 (toInt_eq z)
  have z2 : ¬ x.toInt = 11 := fun z => h2 (toInt_eq z)
  have y1 : ¬ (10 : Int) = x.toInt := fun z => z1 z.symm
  have y2 : ¬ (11 : Int) = x.toInt := fun z => z2 z.symm
  simp [Op.lookupswitch.offset, z1, z2, y1, y2]
theorem nlt_of {a b : Nat} (h : ¬ nI b ≤ nI a) (hb : b < 2 ^ 31) (ha : a < 2 ^ 31) : a < b := by
  rcases Nat.lt_or_ge a b with z | z
  · exact z
  · exact absurd (nI_le z ha) h
theorem nge_of {a b : Nat} (h : nI b ≤ nI a) (hb : b < 2 ^ 31) : b ≤ a := by
  rcases Nat.lt_or_ge a b with z | z
  · exact absurd h (nI_ge z hb)
  · exact z
theorem llt_of {a b : Nat} (h : nI a < nI b) (ha : a < 2 ^ 31) : a < b := by
  rcases Nat.lt_or_ge a b with z | z
  · exact z
  · exact absurd h (nI_nlt z ha)
theorem lge_of {a b : Nat} (h : ¬ nI a < nI b) (hb : b < 2 ^ 31) : b ≤ a := by
  rcases Nat.lt_or_ge a b with z | z
  · exact absurd (nI_lt z hb) h
  · exact z
theorem mv_step {s s1 : Nat → Int32} {t j : Nat} {k : Int32} (h : ∀ i, s1 i = if t < i ∧ i < j then s i + k else s i) (hj : t < j) : ∀ i, upd s1 j (s1 j + k) i = if t < i ∧ i < j + 1 then s i + k else s i := by
  intro i
  by_cases hi : i = j
  · subst hi
    rw [pk_us, h i, if_neg (by omega), if_pos (by omega)]
  · rw [pk_un hi, h i]
    by_cases h1 : t < i ∧ i < j
    · rw [if_pos h1, if_pos (by omega)]
    · rw [if_neg h1, if_neg (by omega)]
/-- the place that 'nearest' answers, by the first place p (of n) not below *-/
def nearP (key : Nat → Int32) (n : Nat) (k u : Int32) (p : Nat) : Int32 := if u = 0 then (if p < n ∧ key p = k then nI p else if 0 < p then nI (p - 1) else -1) else if p < n then nI p else -1
theorem nm_c {q a : Nat} {l : List Nat} (h : q ≠ a) (t : q ∉ l) : q ∉ a :: l := fun z => by
  rcases List.mem_cons.mp z with z | z
  · exact h z
  · exact t z
theorem nm_n {q : Nat} : q ∉ ([] : List Nat) := List.not_mem_nil
theorem kc_c {M l : List Nat} {h : xH} {a : Nat} (ha : a ∈ M ∨ h a = none) (t : ∀ q ∈ l, q ∈ M ∨ h q = none) : ∀ q ∈ a :: l, q ∈ M ∨ h q = none := fun q hq => by
  rcases List.mem_cons.mp hq with rfl | z
  · exact ha
  · exact t q z
theorem kc_n {M : List Nat} {h : xH} : ∀ q ∈ ([] : List Nat), q ∈ M ∨ h q = none := fun q hq => absurd hq List.not_mem_nil
/-! the statement -/
abbrev oSt (vb ls fi se fa nc : Int32) (nb : Nat) (np : Int32) (pk : Nat) (kc : Int32) (cd : Nat) : va_E := .inr (4, [.int vb, .int ls, .int fi, .int se, .int fa, .int nc, .ref nb, .int np, .ref pk, .int kc, .ref cd])
/-- an operand: its kind and number; a condition: left, comparison, right -/
abbrev tCd : Type := (Int32 × Int32) × Int32 × (Int32 × Int32)
def pOps (h : xH) (po : Nat → Option Nat) (n : Nat) (pick : Nat → Int32) : Prop := ∀ i, i < n → ∃ a, po i = some a ∧ h a = some (oOp 2 (pick i))
def pCd (h : xH) (q : Nat) (d : tCd) : Prop := ∃ a b, h q = some (oCn a d.2.1 b) ∧ h a = some (oOp d.1.1 d.1.2) ∧ h b = some (oOp d.2.2.1 d.2.2.2)
def pCds (h : xH) (co : Nat → Option Nat) (n : Nat) (cf : Nat → tCd) : Prop := ∀ j, j < n → ∃ q, co j = some q ∧ pCd h q (cf j)
def nOp : va_E → Bool
  | .inr (0, _) => false
  | .inr (1, _) => false
  | _ => true
/-- operands and conditions stay -/
def xOps (h h' : xH) : Prop := ∀ q e, h q = some e → nOp e = false → h' q = some e
theorem xKeep.ops {M : List Nat} {h h' : xH} (kp : xKeep M h h') (hM : ∀ q ∈ M, ∀ e, h q = some e → nOp e = true) : xOps h h' := fun q e f ne => kp q e f (fun hq => by rw [hM q hq e f] at ne; cases ne)
theorem xOps.rf {h : xH} : xOps h h := fun _ _ f _ => f
theorem xOps.tr {h h1 h2 : xH} (o : xOps h h1) (o2 : xOps h1 h2) : xOps h h2 := fun q e f ne => o2 q e (o q e f ne) ne
theorem pOps.keep {h h' : xH} {po : Nat → Option Nat} {n : Nat} {pick : Nat → Int32} (p : pOps h po n pick) (o : xOps h h') : pOps h' po n pick := fun i hi => by
  obtain ⟨a, h1, h2⟩ := p i hi
  exact ⟨a, h1, o a _ h2 rfl⟩
theorem pCd.keep {h h' : xH} {q : Nat} {d : tCd} (p : pCd h q d) (o : xOps h h') : pCd h' q d := by
  obtain ⟨a, b, h1, h2, h3⟩ := p
  exact ⟨a, b, o _ _ h1 rfl, o _ _ h2 rfl, o _ _ h3 rfl⟩
theorem pCds.keep {h h' : xH} {co : Nat → Option Nat} {n : Nat} {cf : Nat → tCd} (p : pCds h co n cf) (o : xOps h h') : pCds h' co n cf := fun j hj => by
  obtain ⟨q, h1, h2⟩ := p j hj
  exact ⟨q, h1, h2.keep o⟩
theorem no_c {l : List Nat} {h : xH} {a : Nat} {ea : va_E} (fa : h a = some ea) (na : nOp ea = true) (t : ∀ q ∈ l, ∀ e, h q = some e → nOp e = true) : ∀ q ∈ a :: l, ∀ e, h q = some e → nOp e = true := fun q hq e f => by
  rcases List.mem_cons.mp hq with rfl | z
  · rw [fa] at f; rw [← Option.some.inj f]; exact na
  · exact t q z e f
theorem no_n {h : xH} : ∀ q ∈ ([] : List Nat), ∀ e, h q = some e → nOp e = true := fun q hq => absurd hq List.not_mem_nil
def cdThere (d : tCd) (fc sc : Int32) : Bool := opThere d.1.1 d.1.2 fc sc && opThere d.2.2.1 d.2.2.2 fc sc
def colsOK (np : Nat) (pick : Nat → Int32) (kc : Nat) (cf : Nat → tCd) (fc sc : Int32) : Bool := decide (∀ i, i < np → opThere 2 (pick i) fc sc = true) && decide (∀ j, j < kc → cdThere (cf j) fc sc = true)
def faultC (fi g0 : Int32) (c : Nat → Int32) : Int32 := if ¬ colOf c fi ≤ 0 then -4 else if g0 < 1 then -5 else if 6 < g0 then -5 else 0
def faultS (vb fi se nc g0 : Int32) (c : Nat → Int32) (ok : Bool) : Int32 := if vb = 0 then faultC fi g0 c else if colOf c fi ≤ 0 then -2 else if ¬ se = -1 ∧ colOf c se ≤ 0 then -2 else if ok = false then -3 else if vb = 1 ∧ ¬ nc = colOf c fi then -5 else 0
/-- a condition's value over what was read -/
def cdVal (d : tCd) (f : Nat → Int32) : Bool := cmp d.2.1 (opVal d.1.1 d.1.2 f) (opVal d.2.2.1 d.2.2.2 f)
def cdIn (d : tCd) : Prop := (d.1.1 = 3 ∨ vp_in d.1.2 16) ∧ (d.2.2.1 = 3 ∨ vp_in d.2.2.2 16)
def cdsVal (kc : Nat) (cf : Nat → tCd) (f : Nat → Int32) : Bool := decide (∀ j, j < kc → cdVal (cf j) f = true)
theorem all_no {n i : Nat} {p : Nat → Bool} (hi : i < n) (h : p i = false) : decide (∀ i, i < n → p i = true) = false := decide_eq_false (fun z => by rw [z i hi] at h; cases h)
/-! tokens, by place -/
def tK (ks : Nat → Int32) (n p : Nat) (k : Int32) : Bool := decide (p < n) && decide (ks p = k)
def tW (ks ns : Nat → Int32) (n p : Nat) (lo hi : Int32) : Bool := tK ks n p 0 && (!decide (ns p < lo) && !decide (hi < ns p))
theorem tK_iff {ks : Nat → Int32} {n p : Nat} {k : Int32} : tK ks n p k = true ↔ p < n ∧ ks p = k := by simp [tK]
theorem tW_iff {ks ns : Nat → Int32} {n p : Nat} {lo hi : Int32} : tW ks ns n p lo hi = true ↔ p < n ∧ ks p = 0 ∧ ¬ ns p < lo ∧ ¬ hi < ns p := by
  unfold tW
  rw [Bool.and_eq_true, Bool.and_eq_true, tK_iff]
  simp [and_assoc]
theorem kd_eq {ks : Nat → Int32} {n p : Nat} {k : Int32} (hp : p < 2 ^ 31) (hn : n < 2 ^ 31) : isKd ks n (nI p) k = tK ks n p k := by
  unfold isKd tK
  rw [nI_clamp hp]
  have h1 : decide (nI p < 0) = false := decide_eq_false (nI_pos hp)
  have h2 : decide (nI n ≤ nI p) = !decide (p < n) := by
    by_cases h : p < n
    · rw [decide_eq_true h]; exact decide_eq_false (nI_ge h hn)
    · rw [decide_eq_false h]; exact decide_eq_true (nI_le (by omega) hp)
  rw [h1, h2]
  simp
/-- how many tokens of kind k stand from p on, at most m -/
def tRun (ks : Nat → Int32) (n : Nat) (k : Int32) : Nat → Nat → Nat
  | 0, _ => 0
  | m + 1, p => if tK ks n p k = true then tRun ks n k m (p + 1) + 1 else 0
def tOp (ks : Nat → Int32) (n p : Nat) : Bool := tK ks n p 2 || tK ks n p 3
def tCond (ks ns : Nat → Int32) (n p : Nat) : Bool := tOp ks n p && (tW ks ns n (p + 1) 10 12 && tOp ks n (p + 2))
/-- how many conditions stand from p on (the first behind 'link', the others behind AND), at most m; none: what stands there is no condition -/
def tConds (ks ns : Nat → Int32) (n : Nat) : Nat → Int32 → Nat → Option Nat
  | 0, _, _ => some 0
  | m + 1, link, p => if tW ks ns n p link link = true then (if tCond ks ns n (p + 1) = true then (tConds ks ns n m 9 (p + 4)).map (· + 1) else none) else some 0
/-- the condition whose first operand stands at p -/
def cdAt (ks ns : Nat → Int32) (p : Nat) : tCd := ((ks p, ns p), ns (p + 1), (ks (p + 2), ns (p + 2)))
theorem tW_le {ks ns : Nat → Int32} {n p : Nat} {lo hi : Int32} (hp : p ≤ 60) (hn : n ≤ 60) : (if tW ks ns n p lo hi = true then p + 1 else p) ≤ 60 := by
  by_cases h : tW ks ns n p lo hi = true
  · have := tW_iff.mp h
    rw [if_pos h]; omega
  · rw [if_neg h]; exact hp
theorem tOp_lt {ks : Nat → Int32} {n p : Nat} (h : tOp ks n p = true) : p < n := by
  unfold tOp at h
  rcases Bool.or_eq_true_iff.mp h with h | h
  · exact (tK_iff.mp h).1
  · exact (tK_iff.mp h).1
theorem tCond_iff {ks ns : Nat → Int32} {n p : Nat} : tCond ks ns n p = true ↔ tOp ks n p = true ∧ tW ks ns n (p + 1) 10 12 = true ∧ tOp ks n (p + 2) = true := by
  unfold tCond
  rw [Bool.and_eq_true, Bool.and_eq_true]
theorem tRun_no {ks : Nat → Int32} {n p m : Nat} {k : Int32} (h : tK ks n p k = false) : tRun ks n k m p = 0 := by
  cases m with
  | zero => rfl
  | succ m => unfold tRun; rw [if_neg (by rw [h]; decide)]
theorem tRun_yes {ks : Nat → Int32} {n p m : Nat} {k : Int32} (h : tK ks n p k = true) : tRun ks n k (m + 1) p = tRun ks n k m (p + 1) + 1 := by
  rw [tRun, if_pos h]
/-- the list of a SELECT at p: is it one; how many columns; where it ends; ALL 4, COUNT 5, SUM 6, columns -1 -/
def tLst (ks ns : Nat → Int32) (n p : Nat) : Bool × Nat × Nat × Int32 := if tW ks ns n p 4 4 = true then (true, 0, p + 1, 4) else if tW ks ns n p 5 5 = true then (true, 0, p + 1, 5) else if tW ks ns n p 6 6 = true then (decide (0 < tRun ks n 2 1 (p + 1)), tRun ks n 2 1 (p + 1), p + 1 + tRun ks n 2 1 (p + 1), 6) else (decide (0 < tRun ks n 2 8 p), tRun ks n 2 8 p, p + tRun ks n 2 8 p, -1)
/-! the whole parse -/
def tT (ks ns : Nat → Int32) (n p : Nat) : Int32 := if tK ks n p 1 = true then ns p else -1
def tFT (ks ns : Nat → Int32) (n p : Nat) : Bool := !decide (tT ks ns n p = -1)
theorem tFT_iff {ks ns : Nat → Int32} {n p : Nat} : tFT ks ns n p = true ↔ tK ks n p 1 = true ∧ ¬ ns p = -1 := by
  unfold tFT tT
  by_cases h : tK ks n p 1 = true
  · rw [if_pos h]; simp [h]
  · rw [if_neg h]; simp [h]
/-- what was read: verb, list (4 ALL, 5 COUNT, 6 SUM, -1), first, second table, falling; how many numbers; how many columns listed, from which place; how many conditions, from which place (that of WHERE) -/
abbrev tD : Type := (Int32 × Int32 × Int32 × Int32 × Bool) × (Nat × Nat × Nat × Nat × Nat)
def tB (ks : Nat → Int32) (n q : Nat) : Nat := if tK ks n (q + 2) 1 = true then q + 3 else q + 2
def tEnd (ks ns : Nat → Int32) (n p : Nat) : Nat := if tW ks ns n p 13 13 = true then p + 1 else p
def tSel (ks ns : Nat → Int32) (n : Nat) (z : Bool × Nat × Nat × Int32) : Option tD :=
  if z.1 = true then
    if tW ks ns n z.2.2.1 7 7 = true ∧ tK ks n (z.2.2.1 + 1) 1 = true ∧ ¬ ns (z.2.2.1 + 1) = -1 then
      (tConds ks ns n 8 8 (tB ks n z.2.2.1)).bind fun k => if tEnd ks ns n (tB ks n z.2.2.1 + 4 * k) = n then some ((3, z.2.2.2, ns (z.2.2.1 + 1), tT ks ns n (z.2.2.1 + 2), tW ks ns n (tB ks n z.2.2.1 + 4 * k) 13 13), (0, z.2.1, if z.2.2.2 = 6 then 2 else 1, k, tB ks n z.2.2.1)) else none
    else none
  else none
def tParse (ks ns : Nat → Int32) (n : Nat) : Option tD :=
  if tW ks ns n 0 0 3 = true then
    if ns 0 = 0 then (if tFT ks ns n 1 = true then (if tK ks n 2 3 = true then (if 3 = n then some ((0, -1, ns 1, -1, false), (1, 0, 0, 0, 0)) else none) else none) else none)
    else if ns 0 = 1 then (if tFT ks ns n 1 = true then (if 0 < tRun ks n 3 60 2 then (if 2 + tRun ks n 3 60 2 = n then some ((1, -1, ns 1, -1, false), (tRun ks n 3 60 2, 0, 0, 0, 0)) else none) else none) else none)
    else if ns 0 = 2 then (if tFT ks ns n 1 = true then ((tConds ks ns n 8 8 2).bind fun k => if 2 + 4 * k = n then some ((2, -1, ns 1, -1, false), (0, 0, 0, k, 2)) else none) else none)
    else tSel ks ns n (tLst ks ns n 1)
  else none
theorem tp_vb {ks ns : Nat → Int32} {n : Nat} {k : Int32} (h : (if tW ks ns n 0 0 3 = true then ns 0 else -1) = k) (hk : ¬ k = -1) : tW ks ns n 0 0 3 = true ∧ ns 0 = k := by
  by_cases hw : tW ks ns n 0 0 3 = true
  · rw [if_pos hw] at h; exact ⟨hw, h⟩
  · rw [if_neg hw] at h; exact absurd h.symm hk
theorem tp_no {ks ns : Nat → Int32} {n : Nat} {x : Int32} (hx : x = if tW ks ns n 0 0 3 = true then ns 0 else -1) (h : x.toInt < 0 ∨ 3 < x.toInt) : tParse ks ns n = none := by
  unfold tParse
  by_cases hw : tW ks ns n 0 0 3 = true
  · exfalso
    rw [if_pos hw] at hx
    have hz := tW_iff.mp hw
    have h1 := Int32.le_iff_toInt_le.mp (Int32.not_lt.mp hz.2.2.1)
    have h2 := Int32.le_iff_toInt_le.mp (Int32.not_lt.mp hz.2.2.2)
    rw [← hx] at h1 h2
    have e0 : (0 : Int32).toInt = 0 := by decide
    have e3 : (3 : Int32).toInt = 3 := by decide
    omega
  · rw [if_neg hw]
theorem tp_0 {ks ns : Nat → Int32} {n : Nat} (hW : tW ks ns n 0 0 3 = true) (hv : ns 0 = 0) : tParse ks ns n = (if tFT ks ns n 1 = true then (if tK ks n 2 3 = true then (if 3 = n then some ((0, -1, ns 1, -1, false), (1, 0, 0, 0, 0)) else none) else none) else none) := by unfold tParse; rw [if_pos hW, if_pos hv]
theorem tp_1 {ks ns : Nat → Int32} {n : Nat} (hW : tW ks ns n 0 0 3 = true) (hv : ns 0 = 1) : tParse ks ns n = (if tFT ks ns n 1 = true then (if 0 < tRun ks n 3 60 2 then (if 2 + tRun ks n 3 60 2 = n then some ((1, -1, ns 1, -1, false), (tRun ks n 3 60 2, 0, 0, 0, 0)) else none) else none) else none) := by unfold tParse; rw [if_pos hW, if_neg (by rw [hv]; decide), if_pos hv]
theorem tp_2 {ks ns : Nat → Int32} {n : Nat} (hW : tW ks ns n 0 0 3 = true) (hv : ns 0 = 2) : tParse ks ns n = (if tFT ks ns n 1 = true then ((tConds ks ns n 8 8 2).bind fun k => if 2 + 4 * k = n then some (((2, -1, ns 1, -1, false), (0, 0, 0, k, 2)) : tD) else none) else none) := by unfold tParse; rw [if_pos hW, if_neg (by rw [hv]; decide), if_neg (by rw [hv]; decide), if_pos hv]
theorem tp_3 {ks ns : Nat → Int32} {n : Nat} (hW : tW ks ns n 0 0 3 = true) (hv : ns 0 = 3) : tParse ks ns n = tSel ks ns n (tLst ks ns n 1) := by unfold tParse; rw [if_pos hW, if_neg (by rw [hv]; decide), if_neg (by rw [hv]; decide), if_neg (by rw [hv]; decide)]
theorem tSel_eq {ks ns : Nat → Int32} {n r q : Nat} {ok : Bool} {ls : Int32} (h : tLst ks ns n 1 = (ok, r, q, ls)) : tSel ks ns n (tLst ks ns n 1) = if ok = true then if tW ks ns n q 7 7 = true ∧ tK ks n (q + 1) 1 = true ∧ ¬ ns (q + 1) = -1 then (tConds ks ns n 8 8 (tB ks n q)).bind fun k => if tEnd ks ns n (tB ks n q + 4 * k) = n then some (((3, ls, ns (q + 1), tT ks ns n (q + 2), tW ks ns n (tB ks n q + 4 * k) 13 13), (0, r, if ls = 6 then 2 else 1, k, tB ks n q)) : tD) else none else none else none := by rw [h]; rfl
