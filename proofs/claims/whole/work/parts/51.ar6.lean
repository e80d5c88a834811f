/-! numbers: the heaviest heap -/
theorem mb_h5 : ∀ a b c e k : Bool, 0 ≤ (mb (h5 a b c e k) 16).toInt ∧ (mb (h5 a b c e k) 16).toInt ≤ 5 := by decide +kernel
theorem mb_hm (f g : Nat → Int32) : 0 ≤ (mb (hm f g 5) 16).toInt ∧ (mb (hm f g 5) 16).toInt ≤ 5 := mb_h5 (exB (f 0) (g 0) 16) (exB (f 1) (g 1) 16) (exB (f 2) (g 2) 16) (exB (f 3) (g 3) 16) (exB (f 4) (g 4) 16)
theorem wS_in (s : th_Vl) (i : Nat) : 0 ≤ (wS s i).toInt ∧ (wS s i).toInt ≤ 500 := by
  have hm0 : 0 ≤ (mb (hmR s i) 16).toInt ∧ (mb (hmR s i) 16).toInt ≤ 5 := mb_hm _ _
  have ht := tb_top s i
  have hl := tb_pos s i
  have e1 := th_self hm0.1
  have e2 := th_self ht.1
  have e3 := th_self (Int.le_of_lt hl.1)
  have i1 := th_ixI hm0.1
  have i2 := th_ixI ht.1
  have i3 := th_ixI (Int.le_of_lt hl.1)
  have hX : 100 * mb (hmR s i) 16 - 10 * (tb s i).1 / (tb s i).2.1 = nI (100 * ix (mb (hmR s i) 16)) - nI (10 * ix (tb s i).1 / ix (tb s i).2.1) := by
    conv => lhs; rw [e1, e2, e3]
    rw [show (100 : Int32) = nI 100 from rfl, show (10 : Int32) = nI 10 from rfl, pk_mul, pk_mul, pk_div (by omega) (by omega) (by omega)]
  have hq : 10 * ix (tb s i).1 / ix (tb s i).2.1 ≤ 10 * ix (tb s i).1 := Nat.div_le_self _ _
  have hv : (100 * mb (hmR s i) 16 - 10 * (tb s i).1 / (tb s i).2.1).toInt = (100 * ix (mb (hmR s i) 16) : Nat) - (10 * ix (tb s i).1 / ix (tb s i).2.1 : Nat) := by
    rw [hX, pk_sub_toInt (by omega) (by omega)]
  generalize 10 * ix (tb s i).1 / ix (tb s i).2.1 = q at hq hv
  unfold wS wtb
  split
  · omega
  · decide
def wN (s : th_Vl) (r : Nat) : Nat := ix (wS s r)
theorem wN_eq (s : th_Vl) (r : Nat) : wS s r = nI (wN s r) := th_self (wS_in s r).1
theorem wN_le (s : th_Vl) (r : Nat) : wN s r ≤ 500 := by
  have := th_ixI (wS_in s r).1
  have := (wS_in s r).2
  unfold wN
  omega
def sumN (w : Nat → Nat) (k : Nat) : Nat → Nat
  | 0 => 0
  | r + 1 => if k.testBit r = true then sumN w k r + w r else sumN w k r
def upN (w : Nat → Nat) : Nat → Nat
  | 0 => 0
  | r + 1 => upN w r + w r
theorem upN_le {w : Nat → Nat} (h : ∀ r, w r ≤ 500) : ∀ r, upN w r ≤ 500 * r
  | 0 => Nat.le_refl _
  | r + 1 => by
    have := upN_le h r
    have := h r
    rw [upN]
    omega
theorem sumN_up (w : Nat → Nat) (k : Nat) : ∀ r, sumN w k r ≤ upN w r
  | 0 => Nat.le_refl _
  | r + 1 => by
    have := sumN_up w k r
    rw [sumN, upN]
    split <;> omega
theorem tbit_nI {k r : Nat} (hk : k < 2 ^ 31) : tbit (nI k) r = k.testBit r := by
  unfold tbit
  show (BitVec.ofNat 32 k).getLsbD r = _
  rw [BitVec.getLsbD_ofNat]
  by_cases h : r < 32
  · simp [h]
  · have : k.testBit r = false := Nat.testBit_lt_two_pow (Nat.lt_of_lt_of_le hk (Nat.pow_le_pow_right (by decide) (by omega)))
    simp [h, this]
theorem nI_bit0 {k r : Nat} (hk : k < 2 ^ 31) (hr : r < 32) : (nI k >>> (nI r &&& 31)) &&& 1 = 0 ↔ k.testBit r = false := by
  rw [th_bit0 hr, tbit_nI hk]
theorem nI_bit1 {k r : Nat} (hk : k < 2 ^ 31) (hr : r < 32) : (nI k >>> (nI r &&& 31)) &&& 1 = 1 ↔ k.testBit r = true := by
  rw [th_bit1 hr, tbit_nI hk]
theorem sumS_N (s : th_Vl) {k : Nat} (hk : k < 2 ^ 31) : ∀ r, r ≤ 12 → sumS s k r = nI (sumN (wN s) k r)
  | 0, _ => rfl
  | r + 1, h => by
    rw [sumS, sumN, sumS_N s hk r (by omega)]
    by_cases hb : k.testBit r = true
    · rw [if_pos hb, if_neg (fun z => by rw [(nI_bit0 hk (by omega)).mp z] at hb; cases hb), wN_eq, nI_add]
    · rw [if_neg hb, if_pos ((nI_bit0 hk (by omega)).mpr (Bool.eq_false_iff.mpr hb))]
theorem gq_all (s : th_Vl) {k r : Nat} {g : Bool} (hk : k < 2 ^ 31) : ∀ q, q ≤ 12 → (gq s k r g q = true ↔ (g = true ∧ ∀ j, j < q → k.testBit j = true → apS s r j = true))
  | 0, _ => by simp [gq]
  | q + 1, h => by
    have ih := gq_all s (r := r) (g := g) hk q (by omega)
    rw [gq]
    by_cases hb : k.testBit q = true
    · rw [if_pos ((nI_bit1 hk (by omega)).mpr hb), Bool.and_eq_true, ih]
      constructor
      · rintro ⟨⟨h1, h2⟩, h3⟩
        refine ⟨h1, fun j hj hbj => ?_⟩
        by_cases e : j = q
        · rw [e]; exact h3
        · exact h2 j (by omega) hbj
      · rintro ⟨h1, h2⟩
        exact ⟨⟨h1, fun j hj => h2 j (by omega)⟩, h2 q (by omega) hb⟩
    · rw [if_neg (fun z => hb ((nI_bit1 hk (by omega)).mp z)), ih]
      constructor
      · rintro ⟨h1, h2⟩
        refine ⟨h1, fun j hj hbj => ?_⟩
        by_cases e : j = q
        · rw [e] at hbj; exact absurd hbj hb
        · exact h2 j (by omega) hbj
      · rintro ⟨h1, h2⟩
        exact ⟨h1, fun j hj => h2 j (by omega)⟩
theorem gd_all (s : th_Vl) {k : Nat} (hk : k < 2 ^ 31) : ∀ R, R ≤ 12 → (gdS s k R = true ↔ ∀ r, r < R → k.testBit r = true → ∀ q, q < r → k.testBit q = true → apS s r q = true)
  | 0, _ => by simp [gdS]
  | R + 1, h => by
    have ih := gd_all s hk R (by omega)
    rw [gdS]
    by_cases hb : k.testBit R = true
    · rw [if_neg (fun z => by rw [(nI_bit0 hk (by omega)).mp z] at hb; cases hb), gq_all s hk R (by omega), ih]
      constructor
      · rintro ⟨h1, h2⟩ r hr hbr
        by_cases e : r = R
        · rw [e]; exact h2
        · exact h1 r (by omega) hbr
      · intro h1
        exact ⟨fun r hr => h1 r (by omega), h1 R (by omega) hb⟩
    · rw [if_pos ((nI_bit0 hk (by omega)).mpr (Bool.eq_false_iff.mpr hb)), ih]
      constructor
      · intro h1 r hr hbr
        by_cases e : r = R
        · rw [e] at hbr; exact absurd hbr hb
        · exact h1 r (by omega) hbr
      · intro h1 r hr
        exact h1 r (by omega)
/-- may the reference take a set, may the class -/
def goR (s : th_Vl) (R k : Nat) : Prop := (∀ r, r < R → k.testBit r = true → litB s r = true) ∧ ∀ r, r < R → k.testBit r = true → ∀ q, q < r → k.testBit q = true → apS s r q = true
def wv (s : th_Vl) (r : Nat) : Nat := cond (litB s r) (wN s r) 0
theorem wv_le (s : th_Vl) (r : Nat) : wv s r ≤ 500 := by
  unfold wv
  cases litB s r
  · exact Nat.zero_le _
  · exact wN_le s r
def goC (s : th_Vl) (R k : Nat) : Prop := (∀ r, r < R → k.testBit r = true → 0 < wv s r) ∧ ∀ r, r < R → k.testBit r = true → ∀ q, q < r → k.testBit q = true → apS s r q = true
theorem wv_lit {s : th_Vl} {r : Nat} (h : 0 < wv s r) : litB s r = true ∧ wv s r = wN s r := by
  unfold wv at h ⊢
  cases hb : litB s r
  · rw [hb] at h; exact absurd h (Nat.lt_irrefl _)
  · exact ⟨rfl, rfl⟩
theorem goC_R {s : th_Vl} {R k : Nat} (h : goC s R k) : goR s R k := ⟨fun r hr hb => (wv_lit (h.1 r hr hb)).1, h.2⟩
theorem sumN_w {w w' : Nat → Nat} {k : Nat} : ∀ R, (∀ r, r < R → k.testBit r = true → w r = w' r) → sumN w k R = sumN w' k R
  | 0, _ => rfl
  | R + 1, h => by
    rw [sumN, sumN, sumN_w R (fun r hr => h r (by omega))]
    by_cases hb : k.testBit R = true
    · rw [if_pos hb, if_pos hb, h R (by omega) hb]
    · rw [if_neg hb, if_neg hb]
theorem goC_sum {s : th_Vl} {R k : Nat} (h : goC s R k) : sumN (wv s) k R = sumN (wN s) k R := sumN_w R (fun r hr hb => (wv_lit (h.1 r hr hb)).2)
theorem lit_mask {s : th_Vl} {R k : Nat} (hR : R ≤ 12) (hk : k < 2 ^ R) : nI k &&& (lm (litB s) R ^^^ (-1)) = 0 ↔ ∀ r, r < R → k.testBit r = true → litB s r = true := by
  have hk31 : k < 2 ^ 31 := Nat.lt_of_lt_of_le hk (Nat.pow_le_pow_right (by decide) (by omega))
  constructor
  · intro h r hr hb
    have := th_sub_bit (r := r) (by omega) h (by rw [tbit_nI hk31]; exact hb)
    rw [tbit_lm R (by omega)] at this
    simp at this
    exact this.2
  · intro h
    refine tbit_ext (fun c hc => ?_)
    rw [tbit_and, tbit_not _ hc, tbit_lm R (by omega), tbit_nI hk31, tbit_0]
    by_cases hb : k.testBit c = true
    · have hcR : c < R := by
        rcases Nat.lt_or_ge c R with z | z
        · exact z
        · rw [Nat.testBit_lt_two_pow (Nat.lt_of_lt_of_le hk (Nat.pow_le_pow_right (by decide) z))] at hb
          cases hb
      rw [h c hcR hb]
      simp [hcR]
    · rw [Bool.eq_false_iff.mpr hb]
      rfl
noncomputable def cstp (s : th_Vl) (R : Nat) (b : Nat × Nat) (k : Nat) : Nat × Nat := if @decide (goC s R k ∧ b.2 < sumN (wv s) k R) (Classical.propDecidable _) = true then (k, sumN (wv s) k R) else b
theorem cstp_y {s : th_Vl} {R : Nat} {b : Nat × Nat} {k : Nat} (h : goC s R k ∧ b.2 < sumN (wv s) k R) : cstp s R b k = (k, sumN (wv s) k R) := if_pos (@decide_eq_true _ (Classical.propDecidable _) h)
theorem cstp_n {s : th_Vl} {R : Nat} {b : Nat × Nat} {k : Nat} (h : ¬ (goC s R k ∧ b.2 < sumN (wv s) k R)) : cstp s R b k = b := if_neg (fun z => h (@of_decide_eq_true _ (Classical.propDecidable _) z))
theorem tb_lo {r m l q : Nat} (hl : l < 2 ^ r) (hq : q < r) : (2 ^ r * m + l).testBit q = l.testBit q := by
  rw [Nat.testBit_two_pow_mul_add _ hl, if_pos hq]
theorem tb_hi {r m l q : Nat} (hl : l < 2 ^ r) (hq : r ≤ q) : (2 ^ r * m + l).testBit q = m.testBit (q - r) := by
  rw [Nat.testBit_two_pow_mul_add _ hl, if_neg (by omega)]
theorem tb_odd {m n : Nat} (hn : 0 < n) : (2 * m + 1).testBit n = (2 * m).testBit n := by
  cases n with
  | zero => omega
  | succ n => rw [Nat.testBit_succ, Nat.testBit_succ, show (2 * m + 1) / 2 = m by omega, show 2 * m / 2 = m by omega]
theorem tb_odd0 {m : Nat} : (2 * m + 1).testBit 0 = true ∧ (2 * m).testBit 0 = false := by
  rw [Nat.testBit_zero, Nat.testBit_zero]
  constructor
  · exact decide_eq_true (by omega)
  · exact decide_eq_false (by omega)
theorem un_bit {k r : Nat} (hb : k.testBit r = true) : ∃ j, j < k ∧ j.testBit r = false ∧ ∀ q, q ≠ r → j.testBit q = k.testBit q := by
  have hp : 0 < 2 ^ r := Nat.pow_pos (by decide)
  have h1 : k / 2 ^ r % 2 = 1 := by
    rw [Nat.testBit_eq_decide_div_mod_eq] at hb
    exact of_decide_eq_true hb
  have h2 : k = 2 ^ r * (2 * (k / 2 ^ r / 2) + 1) + k % 2 ^ r := by
    rw [show 2 * (k / 2 ^ r / 2) + 1 = k / 2 ^ r by omega]
    exact (Nat.div_add_mod k (2 ^ r)).symm
  have hl := Nat.mod_lt k hp
  generalize k / 2 ^ r / 2 = m at h2
  generalize k % 2 ^ r = x at h2 hl
  subst h2
  refine ⟨2 ^ r * (2 * m) + x, ?_, ?_, fun q hq => ?_⟩
  · have : 2 ^ r * (2 * m) < 2 ^ r * (2 * m + 1) := Nat.mul_lt_mul_of_pos_left (by omega) hp
    omega
  · rw [tb_hi hl (Nat.le_refl _), Nat.sub_self]
    exact tb_odd0.2
  · rcases Nat.lt_or_ge q r with z | z
    · rw [tb_lo hl z, tb_lo hl z]
    · rw [tb_hi hl z, tb_hi hl z, tb_odd (by omega)]
theorem sum_less {w : Nat → Nat} {k j r : Nat} (hb : ∀ q, q ≠ r → j.testBit q = k.testBit q) (hw : w r = 0) : ∀ R, sumN w j R = sumN w k R
  | 0 => rfl
  | R + 1 => by
    rw [sumN, sumN, sum_less hb hw R]
    by_cases e : R = r
    · subst e
      rw [hw, Nat.add_zero]
      simp
    · rw [hb R e]
/-- both go through the sets and hold the same -/
theorem hp_fold {s : th_Vl} {R : Nat} (hR : R ≤ 12) : ∀ n, n ≤ 2 ^ R → hpF s R n = (nI ((List.range n).foldl (cstp s R) (0, 0)).1, nI ((List.range n).foldl (cstp s R) (0, 0)).2) ∧ ((List.range n).foldl (cstp s R) (0, 0)).2 ≤ 6000 ∧ (((List.range n).foldl (cstp s R) (0, 0)).1 < 2 ^ R) ∧ ∀ j, j < n → goR s R j → sumN (wN s) j R ≤ ((List.range n).foldl (cstp s R) (0, 0)).2
  | 0, _ => ⟨rfl, Nat.zero_le _, Nat.pow_pos (by decide), fun j hj => absurd hj (Nat.not_lt_zero _)⟩
  | n + 1, h => by
    obtain ⟨h1, h2, h3, h4⟩ := hp_fold (s := s) hR n (by omega)
    have hn31 : n < 2 ^ 31 := Nat.lt_of_lt_of_le h (Nat.pow_le_pow_right (by decide) (by omega))
    rw [List.range_succ, List.foldl_append, List.foldl_cons, List.foldl_nil, hpF]
    generalize hc : (List.range n).foldl (cstp s R) (0, 0) = c at h1 h2 h3 h4 ⊢
    have hsu : sumN (wN s) n R ≤ 6000 := by
      have := sumN_up (wN s) n R
      have := upN_le (wN_le s) R
      omega
    by_cases e0 : n = 0
    · subst e0
      have e : c = (0, 0) := hc.symm
      subst e
      have hz : ∀ w r, sumN w 0 r = 0 := by
        intro w r
        induction r with
        | zero => rfl
        | succ r ih => rw [sumN, ih]; simp
      rw [if_pos rfl, cstp_n (fun z => by rw [hz] at z; exact absurd z.2 (Nat.lt_irrefl _))]
      refine ⟨rfl, Nat.zero_le _, Nat.pow_pos (by decide), fun j hj _ => ?_⟩
      rw [show j = 0 by omega, hz]
      exact Nat.le_refl _
    · rw [if_neg e0, hstep, h1, sumS_N s hn31 R hR]
      have hkey : (nI n &&& (lm (litB s) R ^^^ (-1)) = 0 ∧ gdS s n R = true ∧ (nI c.2).toInt < (nI (sumN (wN s) n R)).toInt) ↔ (goR s R n ∧ c.2 < sumN (wN s) n R) := by
        rw [lit_mask hR (by omega), gd_all s hn31 R hR, nI_toInt (by omega), nI_toInt (by omega)]
        unfold goR
        constructor
        · rintro ⟨a1, a2, a3⟩
          exact ⟨⟨a1, a2⟩, by omega⟩
        · rintro ⟨⟨a1, a2⟩, a3⟩
          exact ⟨a1, a2, by omega⟩
      by_cases hg : goR s R n ∧ c.2 < sumN (wN s) n R
      · have hC : goC s R n := by
          refine ⟨fun r hr hb => ?_, hg.1.2⟩
          have hl := hg.1.1 r hr hb
          unfold wv
          rw [hl, cond_true]
          apply Classical.byContradiction
          intro hz
          have hz : wN s r = 0 := by omega
          obtain ⟨j, j1, j2, j3⟩ := un_bit hb
          have jb : ∀ q, j.testBit q = true → n.testBit q = true := fun q hq => by
            by_cases e : q = r
            · rw [e]; exact hb
            · rw [← j3 q e]; exact hq
          have q := h4 j j1 ⟨fun r' hr' hb' => hg.1.1 r' hr' (jb r' hb'), fun r' hr' hb' q' hq' hbq => hg.1.2 r' hr' (jb r' hb') q' hq' (jb q' hbq)⟩
          rw [sum_less j3 hz] at q
          have := hg.2
          omega
        rw [if_pos (hkey.mpr hg), cstp_y ⟨hC, by rw [goC_sum hC]; exact hg.2⟩, goC_sum hC]
        refine ⟨rfl, hsu, h, fun j hj hgj => ?_⟩
        by_cases e : j = n
        · rw [e]; exact Nat.le_refl _
        · exact Nat.le_trans (h4 j (by omega) hgj) (Nat.le_of_lt hg.2)
      · rw [if_neg (fun z => hg (hkey.mp z)), cstp_n (fun z => hg ⟨goC_R z.1, by rw [← goC_sum z.1]; exact z.2⟩)]
        refine ⟨rfl, h2, h3, fun j hj hgj => ?_⟩
        by_cases e : j = n
        · rw [e] at hgj ⊢
          rcases Nat.lt_or_ge c.2 (sumN (wN s) n R) with z | z
          · exact absurd ⟨hgj, z⟩ hg
          · exact z
        · exact h4 j (by omega) hgj
