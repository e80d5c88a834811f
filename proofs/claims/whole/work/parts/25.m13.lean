/-! the reference: what a text says -/
def isSum (V : th_Vl) (c : Int32) : Nat → Int32
  | 0 => if c = 119 then V 36 36 else if c = 116 then mb (V 36 35) 16 else 0
  | k + 1 => if c = 108 then (if c = 104 then isSum V c k + mb (sn V k) 16 else isSum V c k) + (if sn V k = 0 then 0 else 1) else (if c = 104 then isSum V c k + mb (sn V k) 16 else isSum V c k)
def isB (V : th_Vl) (c m : Int32) : Bool := if c = 114 then (decide (isRd V m) && litB V (ix m)) else decide (m.toInt ≤ (isSum V c 5).toInt)
def lt (V : th_Vl) (k p : Nat) : Int32 := if p < ix (V 47 k) then V 46 (60 * k + p) else 0
def bLe (s : th_Vl) : Prop := ∀ k, k < 8 → inR (s 47 k) 0 60
section M13
variable {G : th_G} {l : Launch} {d : Nat} {n : Nat} {SH : Nat → Option th_K0} {V : th_Vl}
theorem m_is (hW : wM SH) (hb : bRo (res V)) (c m : Int32) : MT G l yX10_is kX10_is (d + 4) 0 0 [.ref 36, .int c, .int m] (n, SH, V) (th_bo (isB V c m = true) (n, SH, V)) := by
  refine MT.of (by decide) rfl rfl (n := 2) rfl (ls := [some (.ref 36), some (.int c), some (.int m), none, none]) rfl ?_
  have lp : ¬ c = 114 → ∀ k, k ≤ 5 → EV G l kX10_is (d + 4) 0 0 58 [some (.ref 36), some (.int c), some (.int m), some (.int (isSum V c k)), some (.int (nI k))] [] (n, SH, V) (th_bo (isB V c m = true) (n, SH, V)) := by
    intro hc
    refine th_down 5 ?_ ?_
    · refine ev_iload4 (q := 60) dX10_is_58 rfl ?_
      refine ev_iconst (q := 61) (v := 5) dX10_is_60 rfl rfl ?_
      refine ev_icmp_ge (q := 64) (t := 111) dX10_is_61 rfl (by decide) (fun c61 => ?_) (fun c61 => ?_)
      · refine ev_iload3 (q := 112) dX10_is_111 rfl ?_
        refine ev_iload2 (q := 113) dX10_is_112 rfl ?_
        refine ev_icmp_lt (q := 116) (t := 120) dX10_is_113 rfl (by decide) (fun c113 => ?_) (fun c113 => ?_)
        · refine ev_iconst (q := 121) (v := 0) dX10_is_120 rfl rfl ?_
          exact ev_ireturn dX10_is_121 rfl rfl ⟨rfl, Or.inr ⟨by rw [isB, if_neg hc]; exact fun h => absurd (i_lt.mp c113) (Int.not_lt.mpr (of_decide_eq_true h)), rfl⟩⟩
        · refine ev_iconst (q := 117) (v := 1) dX10_is_116 rfl rfl ?_
          refine ev_goto (q := 121) dX10_is_117 (by decide) ?_
          exact ev_ireturn dX10_is_121 rfl rfl ⟨rfl, Or.inl ⟨by rw [isB, if_neg hc]; exact decide_eq_true (i_nlt c113), rfl⟩⟩
      · exact absurd (by decide) c61
    · intro k hk ih
      have h82 : EV G l kX10_is (d + 4) 0 0 82 [some (.ref 36), some (.int c), some (.int m), some (.int (if c = 104 then isSum V c k + mb (sn V k) 16 else isSum V c k)), some (.int (nI k))] [] (n, SH, V) (th_bo (isB V c m = true) (n, SH, V)) := by
        refine ev_iload1 (q := 83) dX10_is_82 rfl ?_
        refine ev_bipush (q := 85) (v := 108) dX10_is_83 rfl rfl ?_
        refine ev_icmp_ne (q := 88) (t := 105) dX10_is_85 rfl (by decide) (fun c85 => ?_) (fun c85 => ?_)
        · rw [isSum, if_neg c85] at ih
          refine ev_iinc4 (q := 108) dX10_is_105 rfl (by decide) rfl (nI_succ k).symm ?_
          refine ev_goto (q := 58) dX10_is_108 (by decide) ?_
          exact ih
        · rw [isSum, if_pos c85] at ih
          refine ev_iload3 (q := 89) dX10_is_88 rfl ?_
          refine ev_aload0 (q := 90) dX10_is_89 rfl ?_
          refine ev_iload4 (q := 92) dX10_is_90 rfl ?_
          refine ev_cV (K := kX10_is) (pc := 92) (q := 95) (m_seen hW hk rfl) dX10_is_92 l_X10_116 (hW _ _ rfl) rfl rfl (Nat.le_of_ble_eq_true rfl) (Nat.le_refl _) rfl rfl (fun r S1 hp => ?_)
          obtain ⟨rfl, rfl⟩ := hp
          refine ev_if_eq (q := 98) (t := 102) dX10_is_95 rfl (by decide) (fun c95 => ?_) (fun c95 => ?_)
          · rw [if_pos c95] at ih
            refine ev_iconst (q := 103) (v := 0) dX10_is_102 rfl rfl ?_
            refine ev_iadd (q := 104) dX10_is_103 rfl ?_
            refine ev_istore3 (q := 105) dX10_is_104 rfl (by decide) rfl ?_
            refine ev_iinc4 (q := 108) dX10_is_105 rfl (by decide) rfl (nI_succ k).symm ?_
            refine ev_goto (q := 58) dX10_is_108 (by decide) ?_
            exact ih
          · rw [if_neg c95] at ih
            refine ev_iconst (q := 99) (v := 1) dX10_is_98 rfl rfl ?_
            refine ev_goto (q := 103) dX10_is_99 (by decide) ?_
            refine ev_iadd (q := 104) dX10_is_103 rfl ?_
            refine ev_istore3 (q := 105) dX10_is_104 rfl (by decide) rfl ?_
            refine ev_iinc4 (q := 108) dX10_is_105 rfl (by decide) rfl (nI_succ k).symm ?_
            refine ev_goto (q := 58) dX10_is_108 (by decide) ?_
            exact ih
      refine ev_iload4 (q := 60) dX10_is_58 rfl ?_
      refine ev_iconst (q := 61) (v := 5) dX10_is_60 rfl rfl ?_
      refine ev_icmp_ge (q := 64) (t := 111) dX10_is_61 rfl (by decide) (fun c61 => ?_) (fun c61 => ?_)
      · exact absurd c61 (nI_ge hk (by decide))
      · refine ev_iload1 (q := 65) dX10_is_64 rfl ?_
        refine ev_bipush (q := 67) (v := 104) dX10_is_65 rfl rfl ?_
        refine ev_icmp_ne (q := 70) (t := 82) dX10_is_67 rfl (by decide) (fun c67 => ?_) (fun c67 => ?_)
        · rw [if_neg c67] at h82
          exact h82
        · rw [if_pos c67] at h82
          refine ev_iload3 (q := 71) dX10_is_70 rfl ?_
          refine ev_aload0 (q := 72) dX10_is_71 rfl ?_
          refine ev_iload4 (q := 74) dX10_is_72 rfl ?_
          refine ev_cV (K := kX10_is) (pc := 74) (q := 77) (m_seen hW hk rfl) dX10_is_74 l_X10_116 (hW _ _ rfl) rfl rfl (Nat.le_of_ble_eq_true rfl) (Nat.le_refl _) rfl rfl (fun r S1 hp => ?_)
          obtain ⟨rfl, rfl⟩ := hp
          refine ev_cS (K := kX10_is) (pc := 77) (q := 80) (m_bitsOf _) dX10_is_77 l_X10_101 rfl (Nat.le_of_ble_eq_true rfl) (Nat.le_refl _) rfl rfl (fun r S1 hp => ?_)
          obtain ⟨rfl, rfl⟩ := hp
          refine ev_iadd (q := 81) dX10_is_80 rfl ?_
          refine ev_istore3 (q := 82) dX10_is_81 rfl (by decide) rfl ?_
          exact h82
  refine ev_iload1 (q := 1) dX10_is_0 rfl ?_
  refine ev_bipush (q := 3) (v := 114) dX10_is_1 rfl rfl ?_
  refine ev_icmp_ne (q := 6) (t := 28) dX10_is_3 rfl (by decide) (fun c3 => ?_) (fun c3 => ?_)
  · have h55 : ∀ x : Int32, x = isSum V c 0 → EV G l kX10_is (d + 4) 0 0 55 [some (.ref 36), some (.int c), some (.int m), some (.int x), none] [] (n, SH, V) (th_bo (isB V c m = true) (n, SH, V)) := by
      intro x hx
      subst hx
      refine ev_iconst (q := 56) (v := 0) dX10_is_55 rfl rfl ?_
      refine ev_istore4 (q := 58) dX10_is_56 rfl (by decide) rfl ?_
      exact lp c3 0 (by decide)
    have h44 : ∀ x : Int32, x = (if c = 116 then mb (V 36 35) 16 else 0) → EV G l kX10_is (d + 4) 0 0 44 [some (.ref 36), some (.int c), some (.int m), some (.int x), none] [] (n, SH, V) (th_bo (isB V c m = true) (n, SH, V)) := by
      intro x hx
      refine ev_iload1 (q := 45) dX10_is_44 rfl ?_
      refine ev_bipush (q := 47) (v := 119) dX10_is_45 rfl rfl ?_
      refine ev_icmp_ne (q := 50) (t := 55) dX10_is_47 rfl (by decide) (fun c47 => ?_) (fun c47 => ?_)
      · exact h55 x (by rw [isSum, if_neg c47]; exact hx)
      · refine ev_aload0 (q := 51) dX10_is_50 rfl ?_
        refine ev_getI (q := 54) dX10_is_51 g_X10_165 (hW _ _ rfl) rfl rfl ?_
        refine ev_istore3 (q := 55) dX10_is_54 rfl (by decide) rfl ?_
        exact h55 _ (by rw [isSum, if_pos c47])
    refine ev_iconst (q := 29) (v := 0) dX10_is_28 rfl rfl ?_
    refine ev_istore3 (q := 30) dX10_is_29 rfl (by decide) rfl ?_
    refine ev_iload1 (q := 31) dX10_is_30 rfl ?_
    refine ev_bipush (q := 33) (v := 116) dX10_is_31 rfl rfl ?_
    refine ev_icmp_ne (q := 36) (t := 44) dX10_is_33 rfl (by decide) (fun c33 => ?_) (fun c33 => ?_)
    · exact h44 0 (if_neg c33).symm
    · refine ev_aload0 (q := 37) dX10_is_36 rfl ?_
      refine ev_getI (q := 40) dX10_is_37 g_X10_162 (hW _ _ rfl) rfl rfl ?_
      refine ev_cS (K := kX10_is) (pc := 40) (q := 43) (m_bitsOf _) dX10_is_40 l_X10_101 rfl (Nat.le_of_ble_eq_true rfl) (Nat.le_refl _) rfl rfl (fun r S1 hp => ?_)
      obtain ⟨rfl, rfl⟩ := hp
      refine ev_istore3 (q := 44) dX10_is_43 rfl (by decide) rfl ?_
      exact h44 _ (if_pos c33).symm
  · refine ev_aload0 (q := 7) dX10_is_6 rfl ?_
    refine ev_iload2 (q := 8) dX10_is_7 rfl ?_
    refine ev_cV (K := kX10_is) (pc := 8) (q := 11) (m_isRoad hW _) dX10_is_8 l_X10_128 (hW _ _ rfl) rfl rfl (Nat.le_of_ble_eq_true rfl) (Nat.le_refl _) rfl rfl (fun r S1 hp => ?_)
    rcases hp with ⟨rfl, ⟨hp8, rfl⟩ | ⟨hp8, rfl⟩⟩
    · refine ev_if_eq (q := 14) (t := 26) dX10_is_11 rfl (by decide) (fun c11 => ?_) (fun c11 => ?_)
      · exact absurd c11 (by decide)
      · refine ev_aload0 (q := 15) dX10_is_14 rfl ?_
        refine ev_iload2 (q := 16) dX10_is_15 rfl ?_
        refine ev_cV (K := kX10_is) (pc := 16) (q := 19) (m_isLit hW (isRd_lt hb hp8).2.2 (th_self (isRd_lt hb hp8).1)) dX10_is_16 l_X10_139 (hW _ _ rfl) rfl rfl (Nat.le_of_ble_eq_true rfl) (Nat.le_refl _) rfl rfl (fun r S1 hp => ?_)
        rcases hp with ⟨rfl, ⟨hp16, rfl⟩ | ⟨hp16, rfl⟩⟩
        · refine ev_if_eq (q := 22) (t := 26) dX10_is_19 rfl (by decide) (fun c19 => ?_) (fun c19 => ?_)
          · exact absurd c19 (by decide)
          · refine ev_iconst (q := 23) (v := 1) dX10_is_22 rfl rfl ?_
            refine ev_goto (q := 27) dX10_is_23 (by decide) ?_
            exact ev_ireturn dX10_is_27 rfl rfl ⟨rfl, Or.inl ⟨by rw [isB, if_pos c3, decide_eq_true hp8, hp16]; rfl, rfl⟩⟩
        · refine ev_if_eq (q := 22) (t := 26) dX10_is_19 rfl (by decide) (fun c19 => ?_) (fun c19 => ?_)
          · refine ev_iconst (q := 27) (v := 0) dX10_is_26 rfl rfl ?_
            exact ev_ireturn dX10_is_27 rfl rfl ⟨rfl, Or.inr ⟨by rw [isB, if_pos c3, decide_eq_true hp8, Bool.eq_false_iff.mpr hp16]; decide, rfl⟩⟩
          · exact absurd c19 (by decide)
    · refine ev_if_eq (q := 14) (t := 26) dX10_is_11 rfl (by decide) (fun c11 => ?_) (fun c11 => ?_)
      · refine ev_iconst (q := 27) (v := 0) dX10_is_26 rfl rfl ?_
        exact ev_ireturn dX10_is_27 rfl rfl ⟨rfl, Or.inr ⟨by rw [isB, if_pos c3, decide_eq_false hp8, Bool.false_and]; decide, rfl⟩⟩
      · exact absurd c11 (by decide)
theorem m_letter (hW : wM SH) {k p : Nat} (hk : k < 8) (ha : V 36 38 = nI k) (hp0 : V 36 39 = nI p) (hpb : p < 2 ^ 30) (hL : inR (V 47 k) 0 60) : MT G l yX10_letter kX10_letter d 0 0 [.ref 36] (n, SH, V) (th_is (lt V k p) (n, SH, V)) := by
  refine MT.of (by decide) rfl rfl (n := 0) rfl (ls := [some (.ref 36)]) rfl ?_
  have hLs := th_self hL.1
  have hLi := th_ixI hL.1
  have h60 := hL.2
  refine ev_aload0 (q := 1) dX10_letter_0 rfl ?_
  refine ev_getI (q := 4) dX10_letter_1 g_X10_195 (hW _ _ rfl) rfl rfl ?_
  refine ev_aload0 (q := 5) dX10_letter_4 rfl ?_
  refine ev_getR (q := 8) dX10_letter_5 g_X10_41 (hW _ _ rfl) rfl rfl rfl ?_
  refine ev_aload0 (q := 9) dX10_letter_8 rfl ?_
  refine ev_getI (q := 12) dX10_letter_9 g_X10_198 (hW _ _ rfl) rfl rfl ?_
  refine ev_iald (q := 13) dX10_letter_12 (hW _ _ rfl) ha hk (by decide) rfl ?_
  refine ev_icmp_ge (q := 16) (t := 36) dX10_letter_13 rfl (by decide) (fun c13 => ?_) (fun c13 => ?_)
  · have hn : ¬ p < ix (V 47 k) := fun z => absurd (show V 47 k ≤ V 36 39 from c13) (by rw [hLs, hp0]; exact nI_ge z (by omega))
    refine ev_iconst (q := 37) (v := 0) dX10_letter_36 rfl rfl ?_
    exact ev_ireturn dX10_letter_37 rfl rfl ⟨congrArg (fun z => some (Value.int z)) (if_neg hn).symm, rfl⟩
  · have hn : p < ix (V 47 k) := by
      rcases Nat.lt_or_ge p (ix (V 47 k)) with z | z
      · exact z
      · exact absurd (show V 47 k ≤ V 36 39 by rw [hLs, hp0]; exact nI_le z (by omega)) c13
    refine ev_aload0 (q := 17) dX10_letter_16 rfl ?_
    refine ev_getR (q := 20) dX10_letter_17 g_X10_38 (hW _ _ rfl) rfl rfl rfl ?_
    refine ev_bipush (q := 22) (v := 60) dX10_letter_20 rfl rfl ?_
    refine ev_aload0 (q := 23) dX10_letter_22 rfl ?_
    refine ev_getI (q := 26) dX10_letter_23 g_X10_198 (hW _ _ rfl) rfl rfl ?_
    refine ev_imul (q := 27) dX10_letter_26 rfl ?_
    refine ev_aload0 (q := 28) dX10_letter_27 rfl ?_
    refine ev_getI (q := 31) dX10_letter_28 g_X10_195 (hW _ _ rfl) rfl rfl ?_
    refine ev_iadd (q := 32) dX10_letter_31 rfl ?_
    refine ev_bald (q := 33) dX10_letter_32 (hW _ _ rfl) (th_60 ha hp0) (by omega) (by decide) rfl ?_
    refine ev_goto (q := 37) dX10_letter_33 (by decide) ?_
    exact ev_ireturn dX10_letter_37 rfl rfl ⟨congrArg (fun z => some (Value.int z)) (if_pos hn).symm, rfl⟩
end M13
