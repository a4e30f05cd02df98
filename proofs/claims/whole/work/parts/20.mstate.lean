/-! STATE of the reference: one object of 29 fields, read by place -/
theorem gs_ne {h : xH} {m j k : Nat} {fs : List Value} {v w : Value} (_fm : h m = some (.inr (8, fs.set j w))) (g : fs[k]? = some v) (hne : j ≠ k) : (fs.set j w)[k]? = some v := by rw [List.getElem?_set_ne hne]; exact g
theorem gs_eq {h : xH} {m j : Nat} {fs : List Value} {w : Value} (_fm : h m = some (.inr (8, fs.set j w))) (hl : fs.length = 29) (hk : j < 29) : (fs.set j w)[j]? = some w := List.getElem?_set_self (by omega)
theorem gs_len {h : xH} {m j : Nat} {fs : List Value} {w : Value} (_fm : h m = some (.inr (8, fs.set j w))) (hl : fs.length = 29) : (fs.set j w).length = 29 := List.length_set.trans hl
