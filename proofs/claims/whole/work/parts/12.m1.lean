/-! walks of the reference: numbers alone -/
theorem th_down {P : Nat → Prop} (N : Nat) (h0 : P N) (hs : ∀ i, i < N → P (i + 1) → P i) : ∀ i, i ≤ N → P i := by
  have key : ∀ k i, i + k = N → P i := by
    intro k
    induction k with
    | zero => intro i h; have : i = N := by omega
              rw [this]; exact h0
    | succ k ih => intro i h; exact hs i (by omega) (ih (i + 1) (by omega))
  intro i hi
  exact key (N - i) i (by omega)
/-- the answer is v, nothing changes -/
abbrev th_is (v : Int32) (S : th_S) : Option Value → th_S → Prop := fun r S' => r = some (.int v) ∧ S' = S
/-- the answer is whether P, nothing changes -/
abbrev th_bo (P : Prop) (S : th_S) : Option Value → th_S → Prop := fun r S' => S' = S ∧ ((P ∧ r = some (.int 1)) ∨ (¬ P ∧ r = some (.int 0)))
def mb (v : Int32) : Nat → Int32
  | 0 => 0
  | k + 1 => mb v k + ((v >>> (nI k &&& 31)) &&& 1)
abbrev isSp (v : Int32) : Prop := 0 ≤ v.toInt ∧ (v / 100).toInt ≤ (v - v / 100 * 100).toInt ∧ (v - v / 100 * 100).toInt < 16 ∧ ((v - v / 100 * 100) - v / 100).toInt ≤ 3
abbrev isFg (c : Int32) : Prop := 48 ≤ c.toInt ∧ c.toInt ≤ 57
abbrev isNm (c : Int32) : Prop := c = 116 ∨ c = 104 ∨ c = 119 ∨ c = 108 ∨ c = 114
section M1
variable {G : th_G} {l : Launch} {d : Nat} {S : th_S}
theorem m_bitsOf (v : Int32) : MT G l yX10_bitsOf kX10_bitsOf d 0 0 [.int v] S (th_is (mb v 16) S) := by
  refine MT.of (by decide) rfl rfl (n := 2) rfl (ls := [some (.int v), none, none]) rfl ?_
  have lp : ∀ i, i ≤ 16 → EV G l kX10_bitsOf d 0 0 4 [some (.int v), some (.int (mb v i)), some (.int (nI i))] [] S (th_is (mb v 16) S) := by
    refine th_down 16 ?_ ?_
    · refine ev_iload2 (q := 5) dX10_bitsOf_4 rfl ?_
      refine ev_bipush (q := 7) (v := 16) dX10_bitsOf_5 rfl rfl ?_
      refine ev_icmp_ge (q := 10) (t := 24) dX10_bitsOf_7 rfl (by decide) (fun c7 => ?_) (fun c7 => ?_)
      · refine ev_iload1 (q := 25) dX10_bitsOf_24 rfl ?_
        exact ev_ireturn dX10_bitsOf_25 rfl rfl ⟨rfl, rfl⟩
      · exact absurd (by decide) c7
    · intro i hi ih
      refine ev_iload2 (q := 5) dX10_bitsOf_4 rfl ?_
      refine ev_bipush (q := 7) (v := 16) dX10_bitsOf_5 rfl rfl ?_
      refine ev_icmp_ge (q := 10) (t := 24) dX10_bitsOf_7 rfl (by decide) (fun c7 => ?_) (fun c7 => ?_)
      · exact absurd c7 (nI_ge hi (by decide))
      · refine ev_iload1 (q := 11) dX10_bitsOf_10 rfl ?_
        refine ev_iload0 (q := 12) dX10_bitsOf_11 rfl ?_
        refine ev_iload2 (q := 13) dX10_bitsOf_12 rfl ?_
        refine ev_ishr (q := 14) dX10_bitsOf_13 rfl ?_
        refine ev_iconst (q := 15) (v := 1) dX10_bitsOf_14 rfl rfl ?_
        refine ev_iand (q := 16) dX10_bitsOf_15 rfl ?_
        refine ev_iadd (q := 17) dX10_bitsOf_16 rfl ?_
        refine ev_istore1 (q := 18) dX10_bitsOf_17 rfl (by decide) rfl ?_
        refine ev_iinc2 (q := 21) dX10_bitsOf_18 rfl (by decide) rfl (nI_succ i).symm ?_
        refine ev_goto (q := 4) dX10_bitsOf_21 (by decide) ?_
        exact ih
  refine ev_iconst (q := 1) (v := 0) dX10_bitsOf_0 rfl rfl ?_
  refine ev_istore1 (q := 2) dX10_bitsOf_1 rfl (by decide) rfl ?_
  refine ev_iconst (q := 3) (v := 0) dX10_bitsOf_2 rfl rfl ?_
  refine ev_istore2 (q := 4) dX10_bitsOf_3 rfl (by decide) rfl ?_
  exact lp 0 (by decide)
theorem m_in (v lo hi : Int64) : MT G l yX10_in kX10_in d 0 0 [.long v, .long lo, .long hi] S (th_bo (lo.toInt ≤ v.toInt ∧ v.toInt ≤ hi.toInt) S) := by
  refine MT.of (by decide) rfl rfl (n := 0) rfl (ls := [some (.long v), none, some (.long lo), none, some (.long hi), none]) rfl ?_
  refine ev_lload0 (q := 1) dX10_in_0 rfl ?_
  refine ev_lload2 (q := 2) dX10_in_1 rfl ?_
  refine ev_lcmp (q := 3) dX10_in_2 rfl ?_
  refine ev_if_lt (q := 6) (t := 17) dX10_in_3 rfl (by decide) (fun c3 => ?_) (fun c3 => ?_)
  · refine ev_iconst (q := 18) (v := 0) dX10_in_17 rfl rfl ?_
    exact ev_ireturn dX10_in_18 rfl rfl ⟨rfl, Or.inr ⟨by rw [th_cmp_lt] at c3; omega, rfl⟩⟩
  · refine ev_lload0 (q := 7) dX10_in_6 rfl ?_
    refine ev_lload4 (q := 9) dX10_in_7 rfl ?_
    refine ev_lcmp (q := 10) dX10_in_9 rfl ?_
    refine ev_if_gt (q := 13) (t := 17) dX10_in_10 rfl (by decide) (fun c10 => ?_) (fun c10 => ?_)
    · refine ev_iconst (q := 18) (v := 0) dX10_in_17 rfl rfl ?_
      exact ev_ireturn dX10_in_18 rfl rfl ⟨rfl, Or.inr ⟨by rw [th_cmp_gt] at c10; omega, rfl⟩⟩
    · refine ev_iconst (q := 14) (v := 1) dX10_in_13 rfl rfl ?_
      refine ev_goto (q := 18) dX10_in_14 (by decide) ?_
      exact ev_ireturn dX10_in_18 rfl rfl ⟨rfl, Or.inl ⟨by rw [th_cmp_lt] at c3; rw [th_cmp_gt] at c10; omega, rfl⟩⟩
theorem m_inI (x : Int32) (lo hi : Int64) {a b : Int} (ha : lo.toInt = a) (hb : hi.toInt = b) : MT G l yX10_in kX10_in d 0 0 [.long x.toInt64, .long lo, .long hi] S (th_bo (a ≤ x.toInt ∧ x.toInt ≤ b) S) := by
  have h := m_in (G := G) (l := l) (d := d) (S := S) x.toInt64 lo hi
  rw [th_64, ha, hb] at h
  exact h
theorem m_isLayer (x : Int32) : MT G l yX10_isLayer kX10_isLayer (d + 1) 0 0 [.int x] S (th_bo (0 ≤ x.toInt ∧ x.toInt ≤ 4) S) := by
  refine MT.of (by decide) rfl rfl (n := 0) rfl (ls := [some (.int x)]) rfl ?_
  refine ev_iload0 (q := 1) dX10_isLayer_0 rfl ?_
  refine ev_i2l (q := 2) dX10_isLayer_1 rfl ?_
  refine ev_lconst (q := 3) (v := 0) dX10_isLayer_2 rfl rfl ?_
  refine ev_ldc2 (q := 6) dX10_isLayer_3 q_X10_93 rfl ?_
  refine ev_cS (K := kX10_isLayer) (pc := 6) (q := 9) (m_inI _ _ _ l_0 l_4) dX10_isLayer_6 l_X10_95 rfl (Nat.le_of_ble_eq_true rfl) (Nat.le_refl _) rfl rfl (fun r S1 hp => ?_)
  rcases hp with ⟨rfl, ⟨hp6, rfl⟩ | ⟨hp6, rfl⟩⟩
  · exact ev_ireturn dX10_isLayer_9 rfl rfl ⟨rfl, Or.inl ⟨hp6, rfl⟩⟩
  · exact ev_ireturn dX10_isLayer_9 rfl rfl ⟨rfl, Or.inr ⟨hp6, rfl⟩⟩
theorem m_isSpan (v : Int32) : MT G l yX10_isSpan kX10_isSpan d 0 0 [.int v] S (th_bo (isSp v) S) := by
  refine MT.of (by decide) rfl rfl (n := 0) rfl (ls := [some (.int v)]) rfl ?_
  refine ev_iload0 (q := 1) dX10_isSpan_0 rfl ?_
  refine ev_if_lt (q := 4) (t := 41) dX10_isSpan_1 rfl (by decide) (fun c1 => ?_) (fun c1 => ?_)
  · refine ev_iconst (q := 42) (v := 0) dX10_isSpan_41 rfl rfl ?_
    exact ev_ireturn dX10_isSpan_42 rfl rfl ⟨rfl, Or.inr ⟨fun h => absurd (i_lt.mp c1) (Int.not_lt.mpr h.1), rfl⟩⟩
  · refine ev_iload0 (q := 5) dX10_isSpan_4 rfl ?_
    refine ev_bipush (q := 7) (v := 100) dX10_isSpan_5 rfl rfl ?_
    refine ev_idiv (q := 8) dX10_isSpan_7 (by decide) rfl ?_
    refine ev_iload0 (q := 9) dX10_isSpan_8 rfl ?_
    refine ev_bipush (q := 11) (v := 100) dX10_isSpan_9 rfl rfl ?_
    refine ev_irem (q := 12) dX10_isSpan_11 (by decide) rfl ?_
    refine ev_icmp_gt (q := 15) (t := 41) dX10_isSpan_12 rfl (by decide) (fun c12 => ?_) (fun c12 => ?_)
    · refine ev_iconst (q := 42) (v := 0) dX10_isSpan_41 rfl rfl ?_
      exact ev_ireturn dX10_isSpan_42 rfl rfl ⟨rfl, Or.inr ⟨fun h => absurd (i_lt.mp c12) (Int.not_lt.mpr h.2.1), rfl⟩⟩
    · refine ev_iload0 (q := 16) dX10_isSpan_15 rfl ?_
      refine ev_bipush (q := 18) (v := 100) dX10_isSpan_16 rfl rfl ?_
      refine ev_irem (q := 19) dX10_isSpan_18 (by decide) rfl ?_
      refine ev_bipush (q := 21) (v := 16) dX10_isSpan_19 rfl rfl ?_
      refine ev_icmp_ge (q := 24) (t := 41) dX10_isSpan_21 rfl (by decide) (fun c21 => ?_) (fun c21 => ?_)
      · refine ev_iconst (q := 42) (v := 0) dX10_isSpan_41 rfl rfl ?_
        exact ev_ireturn dX10_isSpan_42 rfl rfl ⟨rfl, Or.inr ⟨fun h => absurd (i_le.mp c21) (Int.not_le.mpr h.2.2.1), rfl⟩⟩
      · refine ev_iload0 (q := 25) dX10_isSpan_24 rfl ?_
        refine ev_bipush (q := 27) (v := 100) dX10_isSpan_25 rfl rfl ?_
        refine ev_irem (q := 28) dX10_isSpan_27 (by decide) rfl ?_
        refine ev_iload0 (q := 29) dX10_isSpan_28 rfl ?_
        refine ev_bipush (q := 31) (v := 100) dX10_isSpan_29 rfl rfl ?_
        refine ev_idiv (q := 32) dX10_isSpan_31 (by decide) rfl ?_
        refine ev_isub (q := 33) dX10_isSpan_32 rfl ?_
        refine ev_iconst (q := 34) (v := 3) dX10_isSpan_33 rfl rfl ?_
        refine ev_icmp_gt (q := 37) (t := 41) dX10_isSpan_34 rfl (by decide) (fun c34 => ?_) (fun c34 => ?_)
        · refine ev_iconst (q := 42) (v := 0) dX10_isSpan_41 rfl rfl ?_
          exact ev_ireturn dX10_isSpan_42 rfl rfl ⟨rfl, Or.inr ⟨fun h => absurd (i_lt.mp c34) (Int.not_lt.mpr h.2.2.2), rfl⟩⟩
        · refine ev_iconst (q := 38) (v := 1) dX10_isSpan_37 rfl rfl ?_
          refine ev_goto (q := 42) dX10_isSpan_38 (by decide) ?_
          exact ev_ireturn dX10_isSpan_42 rfl rfl ⟨rfl, Or.inl ⟨⟨i_nlt c1, i_nlt c12, i_nle c21, i_nlt c34⟩, rfl⟩⟩
theorem m_isFigure (c : Int32) : MT G l yX10_isFigure kX10_isFigure d 0 0 [.int c] S (th_bo (isFg c) S) := by
  refine MT.of (by decide) rfl rfl (n := 0) rfl (ls := [some (.int c)]) rfl ?_
  refine ev_iload0 (q := 1) dX10_isFigure_0 rfl ?_
  refine ev_bipush (q := 3) (v := 48) dX10_isFigure_1 rfl rfl ?_
  refine ev_icmp_lt (q := 6) (t := 16) dX10_isFigure_3 rfl (by decide) (fun c3 => ?_) (fun c3 => ?_)
  · refine ev_iconst (q := 17) (v := 0) dX10_isFigure_16 rfl rfl ?_
    exact ev_ireturn dX10_isFigure_17 rfl rfl ⟨rfl, Or.inr ⟨fun h => absurd (i_lt.mp c3) (Int.not_lt.mpr h.1), rfl⟩⟩
  · refine ev_iload0 (q := 7) dX10_isFigure_6 rfl ?_
    refine ev_bipush (q := 9) (v := 57) dX10_isFigure_7 rfl rfl ?_
    refine ev_icmp_gt (q := 12) (t := 16) dX10_isFigure_9 rfl (by decide) (fun c9 => ?_) (fun c9 => ?_)
    · refine ev_iconst (q := 17) (v := 0) dX10_isFigure_16 rfl rfl ?_
      exact ev_ireturn dX10_isFigure_17 rfl rfl ⟨rfl, Or.inr ⟨fun h => absurd (i_lt.mp c9) (Int.not_lt.mpr h.2), rfl⟩⟩
    · refine ev_iconst (q := 13) (v := 1) dX10_isFigure_12 rfl rfl ?_
      refine ev_goto (q := 17) dX10_isFigure_13 (by decide) ?_
      exact ev_ireturn dX10_isFigure_17 rfl rfl ⟨rfl, Or.inl ⟨⟨i_nlt c3, i_nlt c9⟩, rfl⟩⟩
theorem m_isName (c : Int32) : MT G l yX10_isName kX10_isName d 0 0 [.int c] S (th_bo (isNm c) S) := by
  refine MT.of (by decide) rfl rfl (n := 0) rfl (ls := [some (.int c)]) rfl ?_
  refine ev_iload0 (q := 1) dX10_isName_0 rfl ?_
  refine ev_bipush (q := 3) (v := 116) dX10_isName_1 rfl rfl ?_
  refine ev_icmp_eq (q := 6) (t := 30) dX10_isName_3 rfl (by decide) (fun c3 => ?_) (fun c3 => ?_)
  · refine ev_iconst (q := 31) (v := 1) dX10_isName_30 rfl rfl ?_
    refine ev_goto (q := 35) dX10_isName_31 (by decide) ?_
    exact ev_ireturn dX10_isName_35 rfl rfl ⟨rfl, Or.inl ⟨Or.inl c3, rfl⟩⟩
  · refine ev_iload0 (q := 7) dX10_isName_6 rfl ?_
    refine ev_bipush (q := 9) (v := 104) dX10_isName_7 rfl rfl ?_
    refine ev_icmp_eq (q := 12) (t := 30) dX10_isName_9 rfl (by decide) (fun c9 => ?_) (fun c9 => ?_)
    · refine ev_iconst (q := 31) (v := 1) dX10_isName_30 rfl rfl ?_
      refine ev_goto (q := 35) dX10_isName_31 (by decide) ?_
      exact ev_ireturn dX10_isName_35 rfl rfl ⟨rfl, Or.inl ⟨Or.inr (Or.inl c9), rfl⟩⟩
    · refine ev_iload0 (q := 13) dX10_isName_12 rfl ?_
      refine ev_bipush (q := 15) (v := 119) dX10_isName_13 rfl rfl ?_
      refine ev_icmp_eq (q := 18) (t := 30) dX10_isName_15 rfl (by decide) (fun c15 => ?_) (fun c15 => ?_)
      · refine ev_iconst (q := 31) (v := 1) dX10_isName_30 rfl rfl ?_
        refine ev_goto (q := 35) dX10_isName_31 (by decide) ?_
        exact ev_ireturn dX10_isName_35 rfl rfl ⟨rfl, Or.inl ⟨Or.inr (Or.inr (Or.inl c15)), rfl⟩⟩
      · refine ev_iload0 (q := 19) dX10_isName_18 rfl ?_
        refine ev_bipush (q := 21) (v := 108) dX10_isName_19 rfl rfl ?_
        refine ev_icmp_eq (q := 24) (t := 30) dX10_isName_21 rfl (by decide) (fun c21 => ?_) (fun c21 => ?_)
        · refine ev_iconst (q := 31) (v := 1) dX10_isName_30 rfl rfl ?_
          refine ev_goto (q := 35) dX10_isName_31 (by decide) ?_
          exact ev_ireturn dX10_isName_35 rfl rfl ⟨rfl, Or.inl ⟨Or.inr (Or.inr (Or.inr (Or.inl c21))), rfl⟩⟩
        · refine ev_iload0 (q := 25) dX10_isName_24 rfl ?_
          refine ev_bipush (q := 27) (v := 114) dX10_isName_25 rfl rfl ?_
          refine ev_icmp_ne (q := 30) (t := 34) dX10_isName_27 rfl (by decide) (fun c27 => ?_) (fun c27 => ?_)
          · refine ev_iconst (q := 35) (v := 0) dX10_isName_34 rfl rfl ?_
            exact ev_ireturn dX10_isName_35 rfl rfl ⟨rfl, Or.inr ⟨fun h => by rcases h with h | h | h | h | h <;> contradiction, rfl⟩⟩
          · refine ev_iconst (q := 31) (v := 1) dX10_isName_30 rfl rfl ?_
            refine ev_goto (q := 35) dX10_isName_31 (by decide) ?_
            exact ev_ireturn dX10_isName_35 rfl rfl ⟨rfl, Or.inl ⟨Or.inr (Or.inr (Or.inr (Or.inr c27))), rfl⟩⟩
end M1
