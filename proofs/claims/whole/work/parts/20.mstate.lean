/-! STATE of the reference: one object of 29 fields, read by place -/
theorem gs_ne {h : xH} {m j k : Nat} {fs : List Value} {v w : Value} (_fm : h m = some (.inr (8, fs.set j w))) (g : fs[k]? = some v) (hne : j ≠ k) : (fs.set j w)[k]? = some v := by rw [List.getElem?_set_ne hne]; exact g
theorem gs_eq {h : xH} {m j : Nat} {fs : List Value} {w : Value} (_fm : h m = some (.inr (8, fs.set j w))) (hl : fs.length = 29) (hk : j < 29) : (fs.set j w)[j]? = some w := List.getElem?_set_self (by omega)
theorem gs_len {h : xH} {m j : Nat} {fs : List Value} {w : Value} (_fm : h m = some (.inr (8, fs.set j w))) (hl : fs.length = 29) : (fs.set j w).length = 29 := List.length_set.trans hl
/-- only the fields at the places Ks have changed -/
def mUp (Ks : List Nat) (fs fs' : List Value) : Prop := fs'.length = fs.length ∧ ∀ k, k ∉ Ks → fs'[k]? = fs[k]?
theorem mUp.rf {Ks : List Nat} {fs : List Value} : mUp Ks fs fs := ⟨rfl, fun _ _ => rfl⟩
theorem mUp.set {Ks : List Nat} {fs fs' : List Value} {j : Nat} {w : Value} (h : mUp Ks fs fs') (hj : j ∈ Ks) : mUp Ks fs (fs'.set j w) := ⟨List.length_set.trans h.1, fun k hk => by rw [List.getElem?_set_ne (fun e => hk (by rw [← e]; exact hj))]; exact h.2 k hk⟩
theorem mUp.tr {Ks Js : List Nat} {fs fs' fs2 : List Value} (h : mUp Ks fs fs') (h2 : mUp Js fs' fs2) (hs : ∀ k ∈ Js, k ∈ Ks) : mUp Ks fs fs2 := ⟨h2.1.trans h.1, fun k hk => (h2.2 k (fun z => hk (hs k z))).trans (h.2 k hk)⟩
theorem mUp.get {Ks : List Nat} {fs fs' : List Value} {k : Nat} {v : Value} (h : mUp Ks fs fs') (g : fs[k]? = some v) (hk : k ∉ Ks) : fs'[k]? = some v := (h.2 k hk).trans g
/-- how far a word, a table, an operand moves the reading -/
def tS (ks ns : Nat → Int32) (n p : Nat) (wd : Int32) : Bool := tK ks n p 0 && decide (ns p = wd)
theorem mUp.setF {h : xH} {m j : Nat} {Ks : List Nat} {fs fs' : List Value} {w : Value} (mu : mUp Ks fs fs') (_fm : h m = some (.inr (8, fs'.set j w))) (hj : j ∈ Ks) : mUp Ks fs (fs'.set j w) := mu.set hj
