/-! small laws of numbers -/
abbrev ix (x : Int32) : Nat := x.toNatClampNeg
theorem th_self {x : Int32} (h : 0 ≤ x.toInt) : x = nI (ix x) := by
  obtain ⟨j, hj, rfl⟩ := nI_of (x := x) (by rw [Int32.lt_iff_toInt_lt]; exact Int.not_lt.mpr h)
  rw [ix, nI_clamp hj]
theorem th_ixI {x : Int32} (h : 0 ≤ x.toInt) : ((ix x : Nat) : Int) = x.toInt := by
  show ((x.toInt.toNat : Nat) : Int) = x.toInt
  omega
theorem th_lt {x : Int32} {n : Nat} (h0 : 0 ≤ x.toInt) (h : x.toInt < n) : ix x < n := by
  have := th_ixI h0
  omega
theorem th_5 {x y : Int32} {a b : Nat} (hx : x = nI a) (hy : y = nI b) : 5 * x + y = nI (5 * a + b) := by
  subst hx; subst hy
  rw [show (5 : Int32) = nI 5 from rfl, pk_mul, nI_add]
theorem th_20 {x y : Int32} {a b : Nat} (hx : x = nI a) (hy : y = nI b) : 20 * x + y = nI (20 * a + b) := by
  subst hx; subst hy
  rw [show (20 : Int32) = nI 20 from rfl, pk_mul, nI_add]
theorem th_60 {x y : Int32} {a b : Nat} (hx : x = nI a) (hy : y = nI b) : 60 * x + y = nI (60 * a + b) := by
  subst hx; subst hy
  rw [show (60 : Int32) = nI 60 from rfl, pk_mul, nI_add]
theorem i_le {x y : Int32} : x ≤ y ↔ x.toInt ≤ y.toInt := Int32.le_iff_toInt_le
theorem i_lt {x y : Int32} : x < y ↔ x.toInt < y.toInt := Int32.lt_iff_toInt_lt
theorem i_nlt {x y : Int32} (h : ¬ x < y) : y.toInt ≤ x.toInt := Int.not_lt.mp (fun z => h (i_lt.mpr z))
theorem i_nle {x y : Int32} (h : ¬ x ≤ y) : y.toInt < x.toInt := Int.not_le.mp (fun z => h (i_le.mpr z))
theorem th_ne {x y : Int32} (h : ¬ x = y) : x.toInt ≠ y.toInt := fun e => h (Int32.toInt_inj.mp e)
theorem th_sw3 {x : Int32} (h : ¬ (x.toInt < 0 ∨ 3 < x.toInt)) : x = 0 ∨ x = 1 ∨ x = 2 ∨ x = 3 := by
  have h1 : x.toInt = 0 ∨ x.toInt = 1 ∨ x.toInt = 2 ∨ x.toInt = 3 := by omega
  rcases h1 with h | h | h | h
  · exact Or.inl (Int32.toInt_inj.mp h)
  · exact Or.inr (Or.inl (Int32.toInt_inj.mp h))
  · exact Or.inr (Or.inr (Or.inl (Int32.toInt_inj.mp h)))
  · exact Or.inr (Or.inr (Or.inr (Int32.toInt_inj.mp h)))
theorem th_sw6 {x : Int32} (h : ¬ (x.toInt < 0 ∨ 6 < x.toInt)) : x = 0 ∨ x = 1 ∨ x = 2 ∨ x = 3 ∨ x = 4 ∨ x = 5 ∨ x = 6 := by
  have h1 : x.toInt = 0 ∨ x.toInt = 1 ∨ x.toInt = 2 ∨ x.toInt = 3 ∨ x.toInt = 4 ∨ x.toInt = 5 ∨ x.toInt = 6 := by omega
  rcases h1 with h | h | h | h | h | h | h
  · exact Or.inl (Int32.toInt_inj.mp h)
  · exact Or.inr (Or.inl (Int32.toInt_inj.mp h))
  · exact Or.inr (Or.inr (Or.inl (Int32.toInt_inj.mp h)))
  · exact Or.inr (Or.inr (Or.inr (Or.inl (Int32.toInt_inj.mp h))))
  · exact Or.inr (Or.inr (Or.inr (Or.inr (Or.inl (Int32.toInt_inj.mp h)))))
  · exact Or.inr (Or.inr (Or.inr (Or.inr (Or.inr (Or.inl (Int32.toInt_inj.mp h))))))
  · exact Or.inr (Or.inr (Or.inr (Or.inr (Or.inr (Or.inr (Int32.toInt_inj.mp h))))))
theorem th_sw7 {x : Int32} (h : ¬ (x.toInt < 0 ∨ 7 < x.toInt)) : x = 0 ∨ x = 1 ∨ x = 2 ∨ x = 3 ∨ x = 4 ∨ x = 5 ∨ x = 6 ∨ x = 7 := by
  have h1 : ¬ (x.toInt < 0 ∨ 6 < x.toInt) ∨ x.toInt = 7 := by omega
  rcases h1 with h | h
  · rcases th_sw6 h with h | h | h | h | h | h | h <;> simp [h]
  · have : x = 7 := Int32.toInt_inj.mp h
    simp [this]
theorem th_cmp_lt {x y : Int64} : lg_cmp x y < 0 ↔ x.toInt < y.toInt := by
  rw [← Int64.lt_iff_toInt_lt]
  unfold lg_cmp
  by_cases h1 : y < x
  · have h3 : ¬ x < y := by rw [Int64.lt_iff_toInt_lt] at h1 ⊢; omega
    simp [h1, h3]
  · by_cases h2 : x < y
    · have h3 : ¬ x = y := fun e => by subst e; rw [Int64.lt_iff_toInt_lt] at h2; omega
      simp [h1, h2, h3] <;> decide
    · have h3 : x = y := by
        apply Int64.toInt_inj.mp
        rw [Int64.lt_iff_toInt_lt] at h1 h2
        omega
      simp [h3]
theorem th_cmp_gt {x y : Int64} : 0 < lg_cmp x y ↔ y.toInt < x.toInt := by
  rw [← Int64.lt_iff_toInt_lt]
  unfold lg_cmp
  by_cases h1 : y < x
  · simp [h1]
  · by_cases h2 : x < y
    · have h3 : ¬ x = y := fun e => by subst e; rw [Int64.lt_iff_toInt_lt] at h2; omega
      simp [h1, h2, h3] <;> decide
    · have h3 : x = y := by
        apply Int64.toInt_inj.mp
        rw [Int64.lt_iff_toInt_lt] at h1 h2
        omega
      simp [h3]
theorem th_64 {x : Int32} : x.toInt64.toInt = x.toInt := by simp
theorem l_0 : (0 : Int64).toInt = 0 := by decide
theorem l_1 : (1 : Int64).toInt = 1 := by decide
theorem l_2 : (2 : Int64).toInt = 2 := by decide
theorem l_4 : (4 : Int64).toInt = 4 := by decide
theorem l_5 : (5 : Int64).toInt = 5 := by decide
theorem l_7 : (7 : Int64).toInt = 7 := by decide
theorem l_20 : (20 : Int64).toInt = 20 := by decide
theorem l_100 : (100 : Int64).toInt = 100 := by decide
theorem l_65535 : (65535 : Int64).toInt = 65535 := by decide
theorem th_out3 {x : Int32} (h : x.toInt < 0 ∨ 3 < x.toInt) : ¬ x = 0 ∧ ¬ x = 1 ∧ ¬ x = 2 ∧ ¬ x = 3 := ⟨fun e => by subst e; exact absurd h (by decide), fun e => by subst e; exact absurd h (by decide), fun e => by subst e; exact absurd h (by decide), fun e => by subst e; exact absurd h (by decide)⟩
theorem th_out6 {x : Int32} (h : x.toInt < 0 ∨ 6 < x.toInt) : ¬ x = 0 ∧ ¬ x = 1 ∧ ¬ x = 2 ∧ ¬ x = 3 ∧ ¬ x = 4 ∧ ¬ x = 5 ∧ ¬ x = 6 := ⟨fun e => by subst e; exact absurd h (by decide), fun e => by subst e; exact absurd h (by decide), fun e => by subst e; exact absurd h (by decide), fun e => by subst e; exact absurd h (by decide), fun e => by subst e; exact absurd h (by decide), fun e => by subst e; exact absurd h (by decide), fun e => by subst e; exact absurd h (by decide)⟩
theorem th_out7 {x : Int32} (h : x.toInt < 0 ∨ 7 < x.toInt) : ¬ x = 0 ∧ ¬ x = 1 ∧ ¬ x = 2 ∧ ¬ x = 3 ∧ ¬ x = 4 ∧ ¬ x = 5 ∧ ¬ x = 6 ∧ ¬ x = 7 := ⟨fun e => by subst e; exact absurd h (by decide), fun e => by subst e; exact absurd h (by decide), fun e => by subst e; exact absurd h (by decide), fun e => by subst e; exact absurd h (by decide), fun e => by subst e; exact absurd h (by decide), fun e => by subst e; exact absurd h (by decide), fun e => by subst e; exact absurd h (by decide), fun e => by subst e; exact absurd h (by decide)⟩
theorem th_m1 {x : Int32} (h : 0 ≤ x.toInt) (h2 : x.toInt ≤ 1000000) : (x - 1).toInt = x.toInt - 1 := by
  have e := th_self h
  have hi := th_ixI h
  have h3 : ix x < 2 ^ 30 := by omega
  have := pk_sub_toInt (a := ix x) (b := 1) h3 (by decide)
  rw [← e] at this
  rw [show (1 : Int32) = nI 1 from rfl, this, ← hi]
  rfl
