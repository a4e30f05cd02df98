theorem tS_eq {ks ns : Nat → Int32} {n p : Nat} {wd : Int32} : tS ks ns n p wd = tW ks ns n p wd wd := by
  unfold tS tW
  congr 1
  by_cases h : ns p = wd
  · rw [decide_eq_true h, h]
    simp [Int32.lt_irrefl]
  · rw [decide_eq_false h]
    by_cases h1 : ns p < wd
    · rw [decide_eq_true h1]; rfl
    · rw [decide_eq_false h1]
      by_cases h2 : wd < ns p
      · rw [decide_eq_true h2]; rfl
      · exact absurd (Int32.le_antisymm (Int32.not_lt.mp h2) (Int32.not_lt.mp h1)) h
theorem tW_cmp {ks ns : Nat → Int32} {n p : Nat} : tW ks ns n p 10 12 = (tS ks ns n p 10 || (tS ks ns n p 11 || tS ks ns n p 12)) := by
  by_cases hk : tK ks n p 0 = true
  · unfold tW tS
    rw [hk]
    simp only [Bool.true_and]
    have e10 : (10 : Int32).toInt = 10 := by decide
    have e11 : (11 : Int32).toInt = 11 := by decide
    have e12 : (12 : Int32).toInt = 12 := by decide
    have a1 : ns p < 10 ↔ (ns p).toInt < 10 := by rw [Int32.lt_iff_toInt_lt, e10]
    have a2 : (12 : Int32) < ns p ↔ 12 < (ns p).toInt := by rw [Int32.lt_iff_toInt_lt, e12]
    have b0 : ns p = 10 ↔ (ns p).toInt = 10 := by rw [← Int32.toInt_inj, e10]
    have b1 : ns p = 11 ↔ (ns p).toInt = 11 := by rw [← Int32.toInt_inj, e11]
    have b2 : ns p = 12 ↔ (ns p).toInt = 12 := by rw [← Int32.toInt_inj, e12]
    rw [Bool.eq_iff_iff]
    simp only [Bool.and_eq_true, Bool.not_eq_true', decide_eq_false_iff_not, Bool.or_eq_true, decide_eq_true_eq, a1, a2, b0, b1, b2]
    omega
  · unfold tW tS
    rw [Bool.eq_false_iff.mpr hk]
    rfl
theorem mUp.setF {h : xH} {m j : Nat} {Ks : List Nat} {fs fs' : List Value} {w : Value} (mu : mUp Ks fs fs') (_fm : h m = some (.inr (8, fs'.set j w))) (hj : j ∈ Ks) : mUp Ks fs (fs'.set j w) := mu.set hj
/-- the reference's value of the token at t, over the rows a and b of its cells f -/
def mVal (hk hn f : Nat → Int32) (t a b : Nat) : Int32 := if hk t = 3 then hn t else if 9 < hn t then f (b * 6 + (hn t - 10).toNatClampNeg) else f (a * 6 + (hn t).toNatClampNeg)
/-- a column token names a place within a row, and the row is there -/
def mIn (hk hn : Nat → Int32) (t : Nat) (A B : Int32) (a b : Nat) : Prop := hk t = 3 ∨ (9 < hn t ∧ B = nI b ∧ b < 400 ∧ vp_in (hn t - 10) 6) ∨ (¬ 9 < hn t ∧ A = nI a ∧ a < 400 ∧ vp_in (hn t) 6)
theorem all_step {j : Nat} {b z : Bool} {p : Nat → Bool} (h : b = decide (∀ i, i < j → p i = true)) (hz : p j = z) : (b && z) = decide (∀ i, i < j + 1 → p i = true) := by
  rw [Bool.eq_iff_iff, Bool.and_eq_true, h, decide_eq_true_eq, decide_eq_true_eq, ← hz]
  exact ⟨fun q => lt_s q.1 q.2, fun q => ⟨fun i hi => q i (by omega), q j (by omega)⟩⟩
/-- key x stands ahead of key y (fl: falling) -/
def nrr (fl x y : Int32) : Prop := if fl = 0 then x < y else y < x
