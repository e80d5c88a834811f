/-! the class: what a look answers is what the reference asks -/
theorem dg_nn {L : Nat → Int32} : ∀ f p a, (a + 1) * 10 ^ f ≤ 1000 → ∃ b, b < 1000 ∧ (dg L f p (nI a)).2 = nI b
  | 0, p, a, h => ⟨a, by omega, rfl⟩
  | f + 1, p, a, h => by
    have hp : 0 < 10 ^ f := Nat.pow_pos (by decide)
    rw [Nat.pow_succ] at h
    have h1 : (a + 1) * (10 ^ f * 10) = (10 * a + 10) * 10 ^ f := by
      rw [Nat.mul_comm (10 ^ f) 10, ← Nat.mul_assoc, Nat.mul_comm (a + 1) 10, Nat.mul_add]
    rw [h1] at h
    have ha : 10 * a + 10 ≤ 1000 := Nat.le_trans (Nat.le_mul_of_pos_right _ hp) h
    rw [dg]
    by_cases hf : isFg (L p)
    · rw [if_pos hf]
      obtain ⟨c, c1, c2, c3⟩ := fg_nI.mp hf
      have e : 10 * nI a + L p - 48 = nI (10 * a + (c - 48)) := by
        rw [c3, show (10 : Int32) = nI 10 from rfl, pk_mul, nI_add, show (48 : Int32) = nI 48 from rfl, pk_sub (by omega)]
        congr 1
        omega
      rw [e]
      exact dg_nn f (p + 1) (10 * a + (c - 48)) (Nat.le_trans (Nat.mul_le_mul_right _ (by omega)) h)
    · rw [if_neg hf]
      exact ⟨a, by omega, rfl⟩
theorem prs_A {L : Nat → Int32} {A A' : Int32 → Int32 → Bool} (hA : ∀ c (n : Nat), isNm c → n < 1000 → A c (nI n) = A' c (nI n)) : ∀ f m o b p, prs L A f m o b p = prs L A' f m o b p := by
  intro f
  induction f with
  | zero => intros; rfl
  | succ f ih =>
    intro m o b p
    match m with
    | 0 =>
      rw [prs, prs, ih 0, ih 2]
      by_cases hn : isNm (L p)
      · obtain ⟨k, k1, k2⟩ := dg_nn (L := L) 3 (p + 1) 0 (by decide)
        have k2 : (dg L 3 (p + 1) 0).2 = nI k := k2
        rw [k2, hA (L p) k hn k1]
      · rw [if_neg hn, if_neg hn]
    | 1 =>
      rw [prs, prs, ih 0]
      cases prs L A' f 0 o false p with
      | none => rfl
      | some q =>
        show (if q.2.2 = true then prs L A f 3 o q.1 q.2.1 else some q) = (if q.2.2 = true then prs L A' f 3 o q.1 q.2.1 else some q)
        rw [ih 3]
    | 2 =>
      rw [prs, prs, ih 1]
      cases prs L A' f 1 o false p with
      | none => rfl
      | some q =>
        show (if q.2.2 = true then prs L A f 4 o q.1 q.2.1 else some q) = (if q.2.2 = true then prs L A' f 4 o q.1 q.2.1 else some q)
        rw [ih 4]
    | 3 =>
      rw [prs, prs, ih 0]
      cases prs L A' f 0 o false (p + 1) with
      | none => rfl
      | some q =>
        show (if L p = 38 then (if q.2.2 = true then prs L A f 3 o (b && q.1) q.2.1 else some q) else some (b, p, true)) = (if L p = 38 then (if q.2.2 = true then prs L A' f 3 o (b && q.1) q.2.1 else some q) else some (b, p, true))
        rw [ih 3]
    | m + 4 =>
      rw [prs, prs, ih 1]
      cases prs L A' f 1 o false (p + 1) with
      | none => rfl
      | some q =>
        show (if L p = 124 then (if q.2.2 = true then prs L A f 4 o (b || q.1) q.2.1 else some q) else some (b, p, true)) = (if L p = 124 then (if q.2.2 = true then prs L A' f 4 o (b || q.1) q.2.1 else some q) else some (b, p, true))
        rw [ih 4]
theorem and_in {x y : Int32} (h : inR x 0 65535) : inR (x &&& y) 0 65535 := by
  have e := th_self h.1
  have hi := th_ixI h.1
  have hx : ix x ≤ 65535 := by have := h.2; omega
  have h1 : (x &&& y).toBitVec.toNat ≤ ix x := by
    rw [Int32.toBitVec_and, BitVec.toNat_and]
    have h2 : x.toBitVec.toNat = ix x := by
      conv => lhs; rw [e]
      exact pk_tn (by omega)
    rw [h2]
    exact Nat.and_le_left
  have h2 : (x &&& y).toInt = ((x &&& y).toBitVec.toNat : Int) := by
    show (x &&& y).toBitVec.toInt = _
    rw [BitVec.toInt_eq_toNat_of_lt (by omega)]
  constructor
  · omega
  · omega
theorem sn_in {s : th_Vl} (h : bHi s) {k : Nat} (hk : k < 5) : inR (sn s k) 0 65535 := and_in (and_in (h k hk))
theorem isA_104 (s : th_Vl) : ∀ k, isSumA s 104 k = ah (sn s) k
  | 0 => rfl
  | k + 1 => by
    rw [isSumA, ah, isA_104 s k, if_neg (by decide), if_pos rfl]
theorem isA_108 (s : th_Vl) : ∀ k, isSumA s 108 k = lyS (sn s) k
  | 0 => rfl
  | k + 1 => by
    rw [isSumA, lyS, isA_108 s k, if_pos rfl, if_neg (by decide)]
    by_cases h : sn s k = 0
    · rw [if_pos h, if_pos h]; simp
    · rw [if_neg h, if_neg h]
theorem isA_116 (s : th_Vl) : ∀ k, isSumA s 116 k = mb (hpS s).1 16
  | 0 => by rw [isSumA, if_neg (by decide), if_pos rfl]
  | k + 1 => by rw [isSumA, isA_116 s k, if_neg (by decide), if_neg (by decide)]
theorem isA_119 (s : th_Vl) : ∀ k, isSumA s 119 k = (hpS s).2
  | 0 => by rw [isSumA, if_pos rfl]
  | k + 1 => by rw [isSumA, isA_119 s k, if_neg (by decide), if_neg (by decide)]
theorem ans_is {V t : th_Vl} {R : Nat} (h : LkR V t R) (hR : R = ix (t 36 6)) (hb : bRo t) (hh : bHi t) (c : Int32) (n : Nat) (hc : isNm c) (hn : n < 1000) : ansB V c (nI n) = isAB t c (nI n) := by
  obtain ⟨h1, h2, h3, h4, h5, h6⟩ := h
  have hI := th_ixI hb.1
  have hR12 : R ≤ 12 := by have := hb.2; omega
  have hin := hpS_in t (by omega)
  rcases hc with rfl | rfl | rfl | rfl | rfl
  · show decide (_ ≤ (bct (V 22 5)).toInt) = decide (_ ≤ (isSumA t 116 5).toInt)
    rw [h3, bct_mb hin.1, isA_116]
  · show decide (_ ≤ (V 16 3).toInt) = decide (_ ≤ (isSumA t 104 5).toInt)
    rw [h5, isA_104, acB_ah 5 (fun j hj => ⟨h1 j hj, sn_in hh hj⟩)]
  · show decide (_ ≤ (V 22 6).toInt) = decide (_ ≤ (isSumA t 119 5).toInt)
    rw [isA_119, h4]
  · show decide (_ ≤ (V 16 4).toInt) = decide (_ ≤ (isSumA t 108 5).toInt)
    rw [h6, isA_108, lyS_f 5 h1]
  · show ltB V (nI n) = (decide (isRd t (nI n)) && litB t (ix (nI n)))
    have ei : ix (nI n) = n := nI_clamp (by omega)
    have hm := th_m1 hb.1 (by have := hb.2; omega)
    have hrd : isRd t (nI n) ↔ n < R := by
      unfold isRd inR
      rw [hm, nI_toInt (by omega)]
      omega
    rw [ltB_lm h2 hR12 hn, ei]
    by_cases hn12 : n < R
    · rw [decide_eq_true (hrd.mpr hn12), decide_eq_true hn12]
    · rw [decide_eq_false (fun z => hn12 (hrd.mp z)), decide_eq_false hn12]
/-- bytes -/
def isBy (x : Int32) : Prop := x.toInt8.toInt32 = x
def bBy (s : th_Vl) : Prop := (∀ k, isBy (s 45 k)) ∧ ∀ k, isBy (s 46 k)
theorem isBy_8 (x : Int32) : isBy x.toInt8.toInt32 := by
  unfold isBy
  have := pk_vb x
  rw [vp_nar_byte] at this
  exact this
theorem tbit_up {x : Int32} (h : isBy x) {c : Nat} (h8 : 8 ≤ c) (hc : c < 32) : tbit x c = tbit x 7 := by
  have e : tbit x.toInt8.toInt32 c = tbit x.toInt8.toInt32 7 := by
    unfold tbit
    rw [Int8.toBitVec_toInt32, BitVec.getLsbD_signExtend, BitVec.getLsbD_signExtend, if_neg (by omega), if_pos (by decide)]
    simp [hc, BitVec.msb_eq_getLsbD_last]
  unfold isBy at h
  rw [h] at e
  exact e
theorem chv_rel {y : Int32} (h : isBy y) {c : Nat} (hc : c < 128) : chv y = nI c ↔ y = nI c := by
  have h7 : c.testBit 7 = false := Nat.testBit_lt_two_pow (by omega)
  have hcb : ∀ q, q < 32 → tbit (chv y) q = (tbit y q && decide (q < 8)) := fun q hq => by
    unfold chv
    rw [tbit_and, tbit_255 q hq]
  constructor
  · intro e
    have hb : ∀ q, q < 32 → (tbit y q && decide (q < 8)) = c.testBit q := fun q hq => by
      rw [← hcb q hq, e, tbit_nI (by omega)]
    have b7 : tbit y 7 = false := by
      have := hb 7 (by decide)
      rw [h7] at this
      simpa using this
    refine tbit_ext (fun q hq => ?_)
    rw [tbit_nI (by omega)]
    by_cases h8 : q < 8
    · have := hb q hq
      rw [decide_eq_true h8, Bool.and_true] at this
      exact this
    · rw [tbit_up h (by omega) hq, b7]
      exact (Nat.testBit_lt_two_pow (Nat.lt_of_lt_of_le hc (Nat.pow_le_pow_right (n := 2) (by decide) (show 7 ≤ q by omega)))).symm
  · intro e
    refine tbit_ext (fun q hq => ?_)
    rw [hcb q hq, e, tbit_nI (by omega)]
    by_cases h8 : q < 8
    · rw [decide_eq_true h8, Bool.and_true]
    · rw [Nat.testBit_lt_two_pow (Nat.lt_of_lt_of_le hc (Nat.pow_le_pow_right (n := 2) (by decide) (show 7 ≤ q by omega)))]
      rfl
