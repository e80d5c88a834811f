/-! numbers: counted bits -/
theorem th_andN {n m : Nat} (hn : n < 2 ^ 32) {c : Int32} (hc : c.toBitVec.toNat = m) : nI n &&& c = nI (n &&& m) := by
  have hm : m < 2 ^ 32 := by rw [← hc]; exact c.toBitVec.isLt
  have h2 : n &&& m < 2 ^ 32 := Nat.lt_of_le_of_lt Nat.and_le_left hn
  apply Int32.toBitVec_inj.mp
  apply BitVec.eq_of_toNat_eq
  rw [Int32.toBitVec_and, BitVec.toNat_and, pk_tn hn, hc, pk_tn h2]
def mbN (n : Nat) : Nat → Nat
  | 0 => 0
  | k + 1 => mbN n k + n / 2 ^ k % 2
theorem mb_N {n : Nat} (hn : n < 2 ^ 31) : ∀ k, k ≤ 16 → mb (nI n) k = nI (mbN n k)
  | 0, _ => rfl
  | k + 1, h => by
    have e : nI n >>> (nI k &&& 31) = nI (n / 2 ^ k) := pk_shrN hn _ k (th_smod k (by omega))
    rw [mb, mb_N hn k (by omega), mbN, e, pk_andN (Nat.lt_of_le_of_lt (Nat.div_le_self _ _) (by omega)) 1 (by decide), nI_add]
def nbct (n : Nat) : Nat :=
  let a := n - (Nat.land (n / 2) 1431655765)
  let b := (Nat.land a 858993459) + (Nat.land (a / 4) 858993459)
  let c := Nat.land (b + b / 16) 252645135
  let d := c + c / 256
  Nat.land (d + d / 65536) 63
theorem bct_N {n : Nat} (hn : n < 2 ^ 16) : bct (nI n) = nI (nbct n) := by
  have la : ∀ x y : Nat, Nat.land x y ≤ x := fun x y => Nat.and_le_left
  have e1 : bct1 (nI n) = nI (n - (Nat.land (n / 2) 1431655765)) := by
    unfold bct1
    rw [show iu (nI n) 1 = nI (n / 2 ^ 1) from pk_ushrN (by omega) 1 1 (by decide), th_andN (by omega) (m := 1431655765) (by decide), pk_sub]
    · rfl
    · exact Nat.le_trans (la _ _) (by omega)
  unfold bct nbct
  rw [e1]
  have ha : n - (Nat.land (n / 2) 1431655765) < 2 ^ 16 := by omega
  generalize n - (Nat.land (n / 2) 1431655765) = a at ha ⊢
  have e2 : bct2 (nI a) = nI (Nat.land a 858993459 + Nat.land (a / 4) 858993459) := by
    unfold bct2
    rw [show iu (nI a) 2 = nI (a / 2 ^ 2) from pk_ushrN (by omega) 2 2 (by decide), th_andN (by omega) (m := 858993459) (by decide), th_andN (by omega) (m := 858993459) (by decide), nI_add]
    rfl
  rw [e2]
  have hb : Nat.land a 858993459 + Nat.land (a / 4) 858993459 < 2 ^ 18 := by have := la a 858993459; have := la (a / 4) 858993459; omega
  simp only []
  generalize Nat.land a 858993459 + Nat.land (a / 4) 858993459 = b at hb ⊢
  have e3 : bct3 (nI b) = nI (Nat.land (b + b / 16) 252645135) := by
    unfold bct3
    rw [show iu (nI b) 4 = nI (b / 2 ^ 4) from pk_ushrN (by omega) 4 4 (by decide), nI_add, th_andN (by omega) (m := 252645135) (by decide)]
    rfl
  rw [e3]
  have hc : Nat.land (b + b / 16) 252645135 < 2 ^ 20 := by have := la (b + b / 16) 252645135; omega
  generalize Nat.land (b + b / 16) 252645135 = c at hc ⊢
  have e4 : bct4 (nI c) = nI (c + c / 256) := by
    unfold bct4
    rw [show iu (nI c) 8 = nI (c / 2 ^ 8) from pk_ushrN (by omega) 8 8 (by decide), nI_add]
  rw [e4]
  have hd : c + c / 256 < 2 ^ 22 := by omega
  generalize c + c / 256 = d at hd ⊢
  unfold bct5
  rw [show iu (nI d) 16 = nI (d / 2 ^ 16) from pk_ushrN (by omega) 16 16 (by decide), nI_add, th_andN (by omega) (m := 63) (by decide)]
  rfl
theorem land_st (x k m c : Nat) (hc : c < 2 ^ k) : Nat.land x (2 ^ k * m + c) = 2 ^ k * Nat.land (x / 2 ^ k) m + Nat.land (x % 2 ^ k) c := by
  show x &&& (2 ^ k * m + c) = 2 ^ k * ((x / 2 ^ k) &&& m) + ((x % 2 ^ k) &&& c)
  have h1 : (x &&& (2 ^ k * m + c)) / 2 ^ k = (x / 2 ^ k) &&& m := by
    rw [Nat.and_div_two_pow, Nat.mul_add_div (Nat.two_pow_pos k), Nat.div_eq_of_lt hc, Nat.add_zero]
  have h2 : (x &&& (2 ^ k * m + c)) % 2 ^ k = (x % 2 ^ k) &&& c := by
    rw [Nat.and_mod_two_pow, Nat.mul_add_mod, Nat.mod_eq_of_lt hc]
  rw [← h1, ← h2]
  exact (Nat.div_add_mod _ _).symm
theorem land4 (x m : Nat) : Nat.land x (4 * m + 1) = 4 * Nat.land (x / 4) m + x % 2 := by
  rw [land_st x 2 m 1 (by decide)]
  show 4 * Nat.land (x / 4) m + ((x % 4) &&& 1) = _
  rw [Nat.and_one_is_mod]
  omega
theorem land16 (x m : Nat) : Nat.land x (16 * m + 3) = 16 * Nat.land (x / 16) m + x % 4 := by
  rw [land_st x 4 m 3 (by decide)]
  show 16 * Nat.land (x / 16) m + ((x % 16) &&& 2 ^ 2 - 1) = _
  rw [Nat.and_two_pow_sub_one_eq_mod]
  omega
theorem land256 (x m : Nat) : Nat.land x (256 * m + 15) = 256 * Nat.land (x / 256) m + x % 16 := by
  rw [land_st x 8 m 15 (by decide)]
  show 256 * Nat.land (x / 256) m + ((x % 256) &&& 2 ^ 4 - 1) = _
  rw [Nat.and_two_pow_sub_one_eq_mod]
  omega
def bM1 : Nat → Nat
  | 0 => 0
  | k + 1 => 4 * bM1 k + 1
def bM2 : Nat → Nat
  | 0 => 0
  | k + 1 => 16 * bM2 k + 3
def dg1 : Nat → Nat → Nat
  | 0, _ => 0
  | k + 1, n => (n % 2 + n / 2 % 2) + 4 * dg1 k (n / 4)
def dg2 : Nat → Nat → Nat
  | 0, _ => 0
  | k + 1, n => (n % 2 + n / 2 % 2 + (n / 4 % 2 + n / 4 / 2 % 2)) + 16 * dg2 k (n / 4 / 4)
theorem bl1 : ∀ k n, n < 4 ^ k → Nat.land (n / 2) (bM1 k) ≤ n ∧ n - Nat.land (n / 2) (bM1 k) = dg1 k n
  | 0, n, h => by
    have : n = 0 := by have : 4 ^ 0 = 1 := rfl; omega
    subst this
    exact ⟨by decide, rfl⟩
  | k + 1, n, h => by
    have hk : n / 4 < 4 ^ k := by have : 4 ^ (k + 1) = 4 ^ k * 4 := Nat.pow_succ ..; omega
    obtain ⟨h1, h2⟩ := bl1 k (n / 4) hk
    have e : n / 2 / 4 = n / 4 / 2 := by omega
    rw [bM1, land4, dg1, ← h2, e]
    omega
theorem bl2 : ∀ k n, Nat.land (dg1 (2 * k) n) (bM2 k) + Nat.land (dg1 (2 * k) n / 4) (bM2 k) = dg2 k n
  | 0, n => by
    show (dg1 0 n &&& 0) + (dg1 0 n / 4 &&& 0) = 0
    simp
  | k + 1, n => by
    have ih := bl2 k (n / 4 / 4)
    rw [show 2 * (k + 1) = 2 * k + 1 + 1 from rfl, dg1, dg1, bM2, land16, land16, dg2, ← ih]
    generalize dg1 (2 * k) (n / 4 / 4) = m
    have a1 : (n % 2 + n / 2 % 2 + 4 * (n / 4 % 2 + n / 4 / 2 % 2 + 4 * m)) / 16 = m := by omega
    have a2 : (n % 2 + n / 2 % 2 + 4 * (n / 4 % 2 + n / 4 / 2 % 2 + 4 * m)) / 4 / 16 = m / 4 := by omega
    rw [a1, a2]
    omega
theorem nbct_mbN {n : Nat} (hn : n < 2 ^ 16) : nbct n = mbN n 16 := by
  have e1 := (bl1 16 n (by omega)).2
  have e2 := bl2 8 n
  unfold nbct
  rw [show (1431655765 : Nat) = bM1 16 from rfl, e1, show (858993459 : Nat) = bM2 8 from rfl]
  simp only []
  rw [e2]
  have e3 : ∃ q0 q1 q2 q3, dg2 8 n = q0 + 16 * (q1 + 16 * (q2 + 16 * q3)) ∧ q0 ≤ 4 ∧ q1 ≤ 4 ∧ q2 ≤ 4 ∧ q3 ≤ 4 ∧ q0 + q1 + q2 + q3 = mbN n 16 := by
    have hz : n / 4 / 4 / 4 / 4 / 4 / 4 / 4 / 4 = 0 := by omega
    refine ⟨n % 2 + n / 2 % 2 + (n / 4 % 2 + n / 4 / 2 % 2), n / 4 / 4 % 2 + n / 4 / 4 / 2 % 2 + (n / 4 / 4 / 4 % 2 + n / 4 / 4 / 4 / 2 % 2), n / 4 / 4 / 4 / 4 % 2 + n / 4 / 4 / 4 / 4 / 2 % 2 + (n / 4 / 4 / 4 / 4 / 4 % 2 + n / 4 / 4 / 4 / 4 / 4 / 2 % 2), n / 4 / 4 / 4 / 4 / 4 / 4 % 2 + n / 4 / 4 / 4 / 4 / 4 / 4 / 2 % 2 + (n / 4 / 4 / 4 / 4 / 4 / 4 / 4 % 2 + n / 4 / 4 / 4 / 4 / 4 / 4 / 4 / 2 % 2), ?_, by omega, by omega, by omega, by omega, ?_⟩
    · rw [dg2, dg2, dg2, dg2, hz, show dg2 4 0 = 0 from rfl, Nat.mul_zero, Nat.add_zero]
    · simp only [mbN, Nat.div_div_eq_div_mul, Nat.reduceMul, Nat.reducePow, Nat.div_one]
      omega
  obtain ⟨q0, q1, q2, q3, e4, h0, h1, h2, h3, h5⟩ := e3
  rw [e4, ← h5]
  clear e1 e2 e4 h5 hn
  have e6 : Nat.land (q0 + 16 * (q1 + 16 * (q2 + 16 * q3)) + (q0 + 16 * (q1 + 16 * (q2 + 16 * q3))) / 16) 252645135 = (q0 + q1) + 256 * (q2 + q3) := by
    have z0 : (q0 + 16 * (q1 + 16 * (q2 + 16 * q3))) / 16 = q1 + 16 * (q2 + 16 * q3) := by omega
    have z1 : q0 + 16 * (q1 + 16 * (q2 + 16 * q3)) + (q1 + 16 * (q2 + 16 * q3)) = (q0 + q1) + 16 * ((q1 + q2) + 16 * ((q2 + q3) + 16 * q3)) := by omega
    rw [z0, z1, show (252645135 : Nat) = 256 * (256 * 3855 + 15) + 15 from rfl, land256, land256]
    have z : ((q0 + q1) + 16 * ((q1 + q2) + 16 * ((q2 + q3) + 16 * q3))) / 256 / 256 = 0 := by omega
    have z2 : ((q0 + q1) + 16 * ((q1 + q2) + 16 * ((q2 + q3) + 16 * q3))) / 256 % 16 = q2 + q3 := by
      have : ((q0 + q1) + 16 * ((q1 + q2) + 16 * ((q2 + q3) + 16 * q3))) / 256 = (q2 + q3) + 16 * q3 := by omega
      rw [this]
      omega
    have z3 : ((q0 + q1) + 16 * ((q1 + q2) + 16 * ((q2 + q3) + 16 * q3))) % 16 = q0 + q1 := by omega
    rw [z, z2, z3, show Nat.land 0 3855 = 0 from rfl]
    omega
  rw [e6]
  have e7 : ((q0 + q1) + 256 * (q2 + q3) + ((q0 + q1) + 256 * (q2 + q3)) / 256) = (q0 + q1 + q2 + q3) + 256 * (q2 + q3) := by omega
  rw [e7]
  show ((q0 + q1 + q2 + q3) + 256 * (q2 + q3) + ((q0 + q1 + q2 + q3) + 256 * (q2 + q3)) / 65536) &&& 2 ^ 6 - 1 = _
  rw [Nat.and_two_pow_sub_one_eq_mod]
  have e8 : ((q0 + q1 + q2 + q3) + 256 * (q2 + q3)) / 65536 = 0 := by omega
  rw [e8]
  show ((q0 + q1 + q2 + q3) + 256 * (q2 + q3) + 0) % 64 = _
  omega
theorem bct_mb {x : Int32} (h : inR x 0 65535) : bct x = mb x 16 := by
  have e := th_self h.1
  have hi := th_ixI h.1
  have hl : ix x < 2 ^ 16 := by have := h.2; omega
  rw [e, bct_N hl, mb_N (by omega) 16 (Nat.le_refl _), nbct_mbN hl]
