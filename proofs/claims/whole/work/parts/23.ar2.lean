/-! bits -/
def tbit (x : Int32) (r : Nat) : Bool := x.toBitVec.getLsbD r
theorem tbit_or (a b : Int32) (r : Nat) : tbit (a ||| b) r = (tbit a r || tbit b r) := by
  unfold tbit
  rw [Int32.toBitVec_or, BitVec.getLsbD_or]
theorem tbit_and (a b : Int32) (r : Nat) : tbit (a &&& b) r = (tbit a r && tbit b r) := by
  unfold tbit
  rw [Int32.toBitVec_and, BitVec.getLsbD_and]
theorem tbit_m1 : ∀ r, r < 32 → tbit (-1) r = true := by decide +kernel
theorem tbit_not (a : Int32) {r : Nat} (h : r < 32) : tbit (a ^^^ (-1)) r = !tbit a r := by
  have e := tbit_m1 r h
  unfold tbit at e ⊢
  rw [Int32.toBitVec_xor, BitVec.getLsbD_xor, e]
  cases a.toBitVec.getLsbD r <;> rfl
theorem tbit_0 (r : Nat) : tbit 0 r = false := by
  unfold tbit
  show (0#32).getLsbD r = false
  simp
theorem th_smod : ∀ r, r < 32 → ((nI r &&& 31).toBitVec.smod 32).toNat = r := by decide +kernel
theorem tbit_shl1 : ∀ k, k < 32 → ∀ r, r < 32 → tbit ((1 : Int32) <<< (nI k &&& 31)) r = decide (r = k) := by decide +kernel
theorem tbit_ge {a : Int32} {r : Nat} (h : 32 ≤ r) : tbit a r = false := BitVec.getLsbD_of_ge _ _ h
theorem tbit_shl {k r : Nat} (hk : k < 32) : tbit ((1 : Int32) <<< (nI k &&& 31)) r = decide (r = k) := by
  rcases Nat.lt_or_ge r 32 with h | h
  · exact tbit_shl1 k hk r h
  · rw [tbit_ge h, decide_eq_false (by omega)]
theorem th_and1 (y : Int32) : y &&& 1 = nI (tbit y 0).toNat := by
  have h := pk_and y (m := 1) 1 (by decide)
  rw [h]
  congr 1
  unfold tbit
  rw [BitVec.getLsbD, Nat.testBit_zero]
  rcases (show y.toBitVec.toNat % 2 = 0 ∨ y.toBitVec.toNat % 2 = 1 by omega) with e | e <;> simp [e]
theorem tbit_shr0 {x : Int32} {r : Nat} (h : r < 32) : tbit (x >>> (nI r &&& 31)) 0 = tbit x r := by
  unfold tbit
  rw [Int32.toBitVec_shiftRight, BitVec.sshiftRight', th_smod r h, BitVec.getLsbD_sshiftRight]
  simp [h]
/-- the r-th bit, as the programs ask for it -/
theorem th_bitE {x : Int32} {r : Nat} (h : r < 32) : (x >>> (nI r &&& 31)) &&& 1 = nI (tbit x r).toNat := by rw [th_and1, tbit_shr0 h]
theorem th_bit0 {x : Int32} {r : Nat} (h : r < 32) : (x >>> (nI r &&& 31)) &&& 1 = 0 ↔ tbit x r = false := by
  rw [th_bitE h]
  cases tbit x r <;> decide
theorem th_bit1 {x : Int32} {r : Nat} (h : r < 32) : (x >>> (nI r &&& 31)) &&& 1 = 1 ↔ tbit x r = true := by
  rw [th_bitE h]
  cases tbit x r <;> decide
theorem tbit_lm {p : Nat → Bool} {r : Nat} : ∀ R, R ≤ 31 → tbit (lm p R) r = (decide (r < R) && p r)
  | 0, _ => by rw [lm, tbit_0]; simp
  | R + 1, h => by
    have ih := tbit_lm (p := p) (r := r) R (by omega)
    rw [lm]
    cases hp : p R
    · rw [cond_false, ih]
      rcases Nat.lt_trichotomy r R with z | z | z
      · simp [z, Nat.lt_succ_of_lt z]
      · subst z; simp [hp]
      · have h1 : ¬ r < R := by omega
        have h2 : ¬ r < R + 1 := by omega
        simp [h1, h2]
    · rw [cond_true, tbit_or, ih, tbit_shl (by omega)]
      rcases Nat.lt_trichotomy r R with z | z | z
      · have h1 : ¬ r = R := by omega
        simp [z, Nat.lt_succ_of_lt z, h1]
      · subst z; simp [hp]
      · have h1 : ¬ r < R := by omega
        have h2 : ¬ r < R + 1 := by omega
        have h3 : ¬ r = R := by omega
        simp [h1, h2, h3]
theorem th_sub_bit {a m : Int32} {r : Nat} (hr : r < 32) (h : a &&& (m ^^^ (-1)) = 0) (hb : tbit a r = true) : tbit m r = true := by
  have e := congrArg (fun z => tbit z r) h
  simp only [tbit_and, tbit_not m hr, tbit_0, hb, Bool.true_and] at e
  simpa using e
theorem th_shl1 : ∀ R, R ≤ 12 → (1 : Int32) <<< (nI R &&& 31) = nI (2 ^ R) := by decide +kernel
