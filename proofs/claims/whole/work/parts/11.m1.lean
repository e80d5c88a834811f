/-! walks: numbers alone -/
theorem th_down {P : Nat → Prop} (N : Nat) (h0 : P N) (hs : ∀ i, i < N → P (i + 1) → P i) : ∀ i, i ≤ N → P i := by
  have key : ∀ k i, i + k = N → P i := by
    intro k
    induction k with
    | zero => intro i h; have : i = N := by omega
              rw [this]; exact h0
    | succ k ih => intro i h; exact hs i (by omega) (ih (i + 1) (by omega))
  intro i hi
  exact key (N - i) i (by omega)
/-- the answer is v, nothing changes -/
abbrev th_is (v : Int32) (S : th_S) : Option Value → th_S → Prop := fun r S' => r = some (.int v) ∧ S' = S
def mb (v : Int32) : Nat → Int32
  | 0 => 0
  | k + 1 => mb v k + ((v >>> (nI k &&& 31)) &&& 1)
section M1
variable {G : th_G} {l : Launch} {d : Nat} {S : th_S}
theorem m_bitsOf (v : Int32) : MT G l yX10_bitsOf kX10_bitsOf d 0 0 [.int v] S (th_is (mb v 16) S) := by
  refine MT.of (by decide) rfl rfl (n := 2) rfl (ls := [some (.int v), none, none]) rfl ?_
  have lp : ∀ i, i ≤ 16 → EV G l kX10_bitsOf d 0 0 4 [some (.int v), some (.int (mb v i)), some (.int (nI i))] [] S (th_is (mb v 16) S) := by
    refine th_down 16 ?_ ?_
    · refine ev_iload2 dX10_bitsOf_4 rfl ?_
      refine ev_bipush (v := 16) dX10_bitsOf_5 rfl rfl ?_
      refine ev_icmp_ge (t := 24) dX10_bitsOf_7 rfl (by decide) (fun c7 => ?_) (fun c7 => ?_)
      · refine ev_iload1 dX10_bitsOf_24 rfl ?_
        exact ev_ireturn dX10_bitsOf_25 rfl rfl ⟨rfl, rfl⟩
      · exact absurd (by decide) c7
    · intro i hi ih
      refine ev_iload2 dX10_bitsOf_4 rfl ?_
      refine ev_bipush (v := 16) dX10_bitsOf_5 rfl rfl ?_
      refine ev_icmp_ge (t := 24) dX10_bitsOf_7 rfl (by decide) (fun c7 => ?_) (fun c7 => ?_)
      · exact absurd c7 (nI_ge hi (by decide))
      · refine ev_iload1 dX10_bitsOf_10 rfl ?_
        refine ev_iload0 dX10_bitsOf_11 rfl ?_
        refine ev_iload2 dX10_bitsOf_12 rfl ?_
        refine ev_ishr dX10_bitsOf_13 rfl ?_
        refine ev_iconst (v := 1) dX10_bitsOf_14 rfl rfl ?_
        refine ev_iand dX10_bitsOf_15 rfl ?_
        refine ev_iadd dX10_bitsOf_16 rfl ?_
        refine ev_istore1 dX10_bitsOf_17 rfl (by decide) rfl ?_
        refine ev_iinc2 dX10_bitsOf_18 rfl (by decide) rfl (nI_succ i).symm ?_
        refine ev_goto (q := 4) dX10_bitsOf_21 (by decide) ?_
        exact ih
  refine ev_iconst (v := 0) dX10_bitsOf_0 rfl rfl ?_
  refine ev_istore1 dX10_bitsOf_1 rfl (by decide) rfl ?_
  refine ev_iconst (v := 0) dX10_bitsOf_2 rfl rfl ?_
  refine ev_istore2 dX10_bitsOf_3 rfl (by decide) rfl ?_
  exact lp 0 (by decide)
end M1
