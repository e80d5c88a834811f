/-! numbers: sums over held layers, the miss is never below 0 -/
def sI (p : Nat → Bool) (g : Nat → Int) : Nat → Int
  | 0 => 0
  | k + 1 => cond (p k) (sI p g k + g k) (sI p g k)
theorem sI_nn {p : Nat → Bool} {g : Nat → Int} (h : ∀ j, 0 ≤ g j) : ∀ k, 0 ≤ sI p g k
  | 0 => Int.le_refl _
  | k + 1 => by
    rw [sI]
    have := sI_nn (p := p) h k
    have := h k
    cases p k
    · rw [cond_false]; omega
    · rw [cond_true]; omega
theorem sI_lin {p : Nat → Bool} {c : Nat → Int} (A B C : Int) : ∀ k, sI p (fun j => (A * c j + B * (j : Int) + C) * (A * c j + B * (j : Int) + C)) k = A * A * sI p (fun j => c j * c j) k + B * B * sI p (fun j => (j : Int) * (j : Int)) k + C * C * sI p (fun _ => 1) k + 2 * A * B * sI p (fun j => (j : Int) * c j) k + 2 * A * C * sI p c k + 2 * B * C * sI p (fun j => (j : Int)) k
  | 0 => by simp [sI]
  | k + 1 => by
    have ih := sI_lin (p := p) (c := c) A B C k
    simp only [sI]
    cases p k
    · simp only [cond_false]; exact ih
    · simp only [cond_true]
      rw [ih]
      grind
theorem sq_nn (x : Int) : 0 ≤ x * x := by
  rw [← Int.natAbs_mul_self]
  omega
theorem gram {n x y xx xy yy : Int} (h : ∀ A B C : Int, 0 ≤ A * A * yy + B * B * xx + C * C * n + 2 * A * B * xy + 2 * A * C * y + 2 * B * C * x) (hn : 0 < n) (ha : 0 < n * xx - x * x) : 0 ≤ (n * xx - x * x) * (n * yy - y * y) - (n * xy - x * y) * (n * xy - x * y) := by
  have h1 := h (n * (n * xx - x * x)) (-(n * (n * xy - x * y))) ((n * xy - x * y) * x - (n * xx - x * x) * y)
  have e : (n * (n * xx - x * x)) * (n * (n * xx - x * x)) * yy + (-(n * (n * xy - x * y))) * (-(n * (n * xy - x * y))) * xx + ((n * xy - x * y) * x - (n * xx - x * x) * y) * ((n * xy - x * y) * x - (n * xx - x * x) * y) * n + 2 * (n * (n * xx - x * x)) * (-(n * (n * xy - x * y))) * xy + 2 * (n * (n * xx - x * x)) * ((n * xy - x * y) * x - (n * xx - x * x) * y) * y + 2 * (-(n * (n * xy - x * y))) * ((n * xy - x * y) * x - (n * xx - x * x) * y) * x = (n * (n * xx - x * x)) * ((n * xx - x * x) * (n * yy - y * y) - (n * xy - x * y) * (n * xy - x * y)) := by grind
  rw [e] at h1
  apply Classical.byContradiction
  intro hc
  have hp : 0 < n * (n * xx - x * x) := Int.mul_pos hn ha
  have := Int.mul_neg_of_pos_of_neg hp (Int.not_le.mp hc)
  omega
theorem iO_nat (a : Nat) : Int32.ofInt (a : Int) = nI a := rfl
theorem iO_in {z : Int} (h1 : -2147483648 ≤ z) (h2 : z < 2147483648) : (Int32.ofInt z).toInt = z := Int32.toInt_ofInt_of_le h1 h2
theorem ms_I {h : Int32} {row : Nat → Int32} {p : Nat → Bool} {c : Nat → Int} {K : Nat} (hp : ∀ k, k < K → ((h >>> (nI k &&& 31)) &&& 1 = 0 ↔ p k = false)) (hr : ∀ k, k < K → p k = true → row k = Int32.ofInt (c k)) : ∀ k, k ≤ K → ms h row k = (Int32.ofInt (sI p (fun _ => 1) k), Int32.ofInt (sI p (fun j => (j : Int)) k), Int32.ofInt (sI p c k), Int32.ofInt (sI p (fun j => (j : Int) * (j : Int)) k), Int32.ofInt (sI p (fun j => (j : Int) * c j) k), Int32.ofInt (sI p (fun j => c j * c j) k))
  | 0, _ => rfl
  | k + 1, hk => by
    have ih := ms_I (c := c) hp hr k (by omega)
    rw [ms, ih]
    cases hb : p k
    · rw [if_pos ((hp k (by omega)).mpr hb)]
      simp only [sI, hb, cond_false]
    · rw [if_neg (fun z => by rw [(hp k (by omega)).mp z] at hb; cases hb), hr k (by omega) hb]
      simp only [sI, hb, cond_true, Int32.ofInt_add, Int32.ofInt_mul, iO_nat]
      rfl
/-- what depends on the held layers alone -/
theorem msk (p : Nat → Bool) : (0 ≤ sI p (fun _ => 1) 5 ∧ sI p (fun _ => 1) 5 ≤ 5) ∧ (1 < sI p (fun _ => 1) 5 → 0 < sI p (fun _ => 1) 5 * sI p (fun j => (j : Int) * (j : Int)) 5 - sI p (fun j => (j : Int)) 5 * sI p (fun j => (j : Int)) 5) ∧ (0 ≤ sI p (fun _ => 1) 5 * sI p (fun j => (j : Int) * (j : Int)) 5 - sI p (fun j => (j : Int)) 5 * sI p (fun j => (j : Int)) 5 ∧ sI p (fun _ => 1) 5 * sI p (fun j => (j : Int) * (j : Int)) 5 - sI p (fun j => (j : Int)) 5 * sI p (fun j => (j : Int)) 5 ≤ 50) := by
  simp only [sI]
  cases p 0 <;> cases p 1 <;> cases p 2 <;> cases p 3 <;> cases p 4 <;> decide
theorem msk1 (p : Nat → Bool) (c : Nat → Int) (h : sI p (fun _ => 1) 5 ≤ 1) : sI p (fun _ => 1) 5 * sI p (fun j => (j : Int) * (j : Int)) 5 - sI p (fun j => (j : Int)) 5 * sI p (fun j => (j : Int)) 5 = 0 ∧ sI p (fun _ => 1) 5 * sI p (fun j => (j : Int) * c j) 5 - sI p (fun j => (j : Int)) 5 * sI p c 5 = 0 := by
  revert h
  simp only [sI]
  cases p 0 <;> cases p 1 <;> cases p 2 <;> cases p 3 <;> cases p 4 <;> simp <;> omega
theorem yy_le {p : Nat → Bool} {c : Nat → Int} (hc : ∀ j, 0 ≤ c j ∧ c j ≤ 15) : ∀ k, sI p (fun j => c j * c j) k ≤ 225 * sI p (fun _ => 1) k
  | 0 => by simp [sI]
  | k + 1 => by
    have ih := yy_le (p := p) hc k
    have h1 : c k * c k ≤ 15 * 15 := Int.mul_le_mul (hc k).2 (hc k).2 (hc k).1 (by decide)
    simp only [sI]
    cases p k
    · simp only [cond_false]; exact ih
    · simp only [cond_true]; omega
/-- the number above the line, as the class has it -/
def topC (q : th_6) : Int32 := m6c q * m6a q - m6b q * m6b q
theorem top_ok {h : Int32} {row : Nat → Int32} {p : Nat → Bool} {c : Nat → Int} (hp : ∀ k, k < 5 → ((h >>> (nI k &&& 31)) &&& 1 = 0 ↔ p k = false)) (hr : ∀ k, k < 5 → p k = true → row k = Int32.ofInt (c k)) (hc : ∀ j, 0 ≤ c j ∧ c j ≤ 15) : topC (ms h row 5) = topOf h row ∧ 0 ≤ (topOf h row).toInt ∧ (topOf h row).toInt ≤ 281250 := by
  have e := ms_I hp hr 5 (Nat.le_refl _)
  obtain ⟨⟨b1, b2⟩, b3, b4, b5⟩ := msk p
  have hl := fun A B C => (sI_lin (p := p) (c := c) A B C 5) ▸ sI_nn (p := p) (g := fun j => (A * c j + B * (j : Int) + C) * (A * c j + B * (j : Int) + C)) (fun j => sq_nn _) 5
  have hy := yy_le (p := p) hc 5
  have hm := msk1 p c
  have hyy := sI_nn (p := p) (g := fun j => c j * c j) (fun j => sq_nn _) 5
  unfold topOf
  rw [e]
  generalize sI p (fun _ => 1) 5 = n at *
  generalize sI p (fun j => (j : Int)) 5 = x at *
  generalize sI p c 5 = y at *
  generalize sI p (fun j => (j : Int) * (j : Int)) 5 = xx at *
  generalize sI p (fun j => (j : Int) * c j) 5 = xy at *
  generalize sI p (fun j => c j * c j) 5 = yy at *
  have en : (Int32.ofInt n).toInt = n := iO_in (by omega) (by omega)
  have ec : topC (Int32.ofInt n, Int32.ofInt x, Int32.ofInt y, Int32.ofInt xx, Int32.ofInt xy, Int32.ofInt yy) = Int32.ofInt ((n * yy - y * y) * (n * xx - x * x) - (n * xy - x * y) * (n * xy - x * y)) := by
    simp only [topC, m6a, m6b, m6c, ← Int32.ofInt_mul, ← Int32.ofInt_sub]
  have et : topQ (Int32.ofInt n, Int32.ofInt x, Int32.ofInt y, Int32.ofInt xx, Int32.ofInt xy, Int32.ofInt yy) = topC (Int32.ofInt n, Int32.ofInt x, Int32.ofInt y, Int32.ofInt xx, Int32.ofInt xy, Int32.ofInt yy) := by
    unfold topQ
    by_cases h1 : 1 < n
    · rw [if_pos (by show 1 < (Int32.ofInt n).toInt; omega)]
      unfold topC
      rw [Int32.mul_comm (m6a _) (m6c _)]
    · rw [if_neg (by show ¬ 1 < (Int32.ofInt n).toInt; omega), ec]
      obtain ⟨z1, z2⟩ := hm (by omega)
      rw [z1, z2]
      simp
  rw [et]
  refine ⟨rfl, ?_⟩
  rw [ec]
  have hlo : 0 ≤ (n * yy - y * y) * (n * xx - x * x) - (n * xy - x * y) * (n * xy - x * y) := by
    by_cases h1 : 1 < n
    · have := gram hl (by omega) (b3 h1)
      rw [Int.mul_comm (n * xx - x * x)] at this
      exact this
    · obtain ⟨z1, z2⟩ := hm (by omega)
      rw [z1, z2]
      simp
  have hhi : (n * yy - y * y) * (n * xx - x * x) - (n * xy - x * y) * (n * xy - x * y) ≤ 5625 * 50 := by
    have h0 := sq_nn (n * xy - x * y)
    have h1 := sq_nn y
    have h2 : n * yy ≤ 5 * 1125 := Int.mul_le_mul b2 (by omega) hyy (by decide)
    have h3 : (n * yy - y * y) * (n * xx - x * x) ≤ 5625 * (n * xx - x * x) := Int.mul_le_mul_of_nonneg_right (by omega) b4
    omega
  rw [iO_in (by omega) (by omega)]
  omega
