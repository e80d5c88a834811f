/-! the reference: tracks -/
abbrev th_6 : Type := Int32 × Int32 × Int32 × Int32 × Int32 × Int32
def ms (h : Int32) (row : Nat → Int32) : Nat → th_6
  | 0 => (0, 0, 0, 0, 0, 0)
  | k + 1 => if (h >>> (nI k &&& 31)) &&& 1 = 0 then ms h row k else
      ((ms h row k).1 + 1, (ms h row k).2.1 + nI k, (ms h row k).2.2.1 + row k, (ms h row k).2.2.2.1 + nI k * nI k, (ms h row k).2.2.2.2.1 + nI k * row k, (ms h row k).2.2.2.2.2 + row k * row k)
abbrev m6a (q : th_6) : Int32 := q.1 * q.2.2.2.1 - q.2.1 * q.2.1
abbrev m6b (q : th_6) : Int32 := q.1 * q.2.2.2.2.1 - q.2.1 * q.2.2.1
abbrev m6c (q : th_6) : Int32 := q.1 * q.2.2.2.2.2 - q.2.2.1 * q.2.2.1
def topQ (q : th_6) : Int32 := if 1 < q.1.toInt then m6a q * m6c q - m6b q * m6b q else 0
def lowQ (q : th_6) : Int32 := if 1 < q.1.toInt then q.1 * m6a q else 1
def topOf (h : Int32) (row : Nat → Int32) : Int32 := topQ (ms h row 5)
def lowOf (h : Int32) (row : Nat → Int32) : Int32 := lowQ (ms h row 5)
theorem th_w_w {V : th_Vl} {a k : Nat} {x y : Int32} : th_w (th_w V a k x) a k y = th_w V a k y := by
  funext b j
  rw [th_w_if, th_w_if, th_w_if]
  by_cases h : b = a ∧ j = k
  · rw [if_pos h, if_pos h]
  · rw [if_neg h, if_neg h, if_neg h]
section M8
variable {G : th_G} {l : Launch} {d : Nat} {n : Nat} {SH : Nat → Option th_K0} {V : th_Vl}
theorem m_missP (hW : wM SH) (h : Int32) : MT G l yX10_miss kX10_miss d 0 0 [.ref 36, .int h] (n, SH, V) (fun r S' => r = some (.int (topOf h (V 58))) ∧ S' = (n, SH, th_w V 36 34 (lowOf h (V 58)))) := by
  refine MT.of (by decide) rfl rfl (n := 9) rfl (ls := [some (.ref 36), some (.int h), none, none, none, none, none, none, none, none, none]) rfl ?_
  have lp : ∀ j, j ≤ 5 → EV G l kX10_miss d 0 0 19 [some (.ref 36), some (.int h), some (.int (ms h (V 58) j).1), some (.int (ms h (V 58) j).2.1), some (.int (ms h (V 58) j).2.2.1), some (.int (ms h (V 58) j).2.2.2.1), some (.int (ms h (V 58) j).2.2.2.2.1), some (.int (ms h (V 58) j).2.2.2.2.2), some (.int (nI j)), none, none] [] (n, SH, V) (fun r S' => r = some (.int (topOf h (V 58))) ∧ S' = (n, SH, th_w V 36 34 (lowOf h (V 58)))) := by
    refine th_down 5 ?_ ?_
    · refine ev_iload8 (q := 21) dX10_miss_19 rfl ?_
      refine ev_iconst (q := 22) (v := 5) dX10_miss_21 rfl rfl ?_
      refine ev_icmp_ge (q := 25) (t := 108) dX10_miss_22 rfl (by decide) (fun c22 => ?_) (fun c22 => ?_)
      · refine ev_iload2 (q := 109) dX10_miss_108 rfl ?_
        refine ev_iload5 (q := 111) dX10_miss_109 rfl ?_
        refine ev_imul (q := 112) dX10_miss_111 rfl ?_
        refine ev_iload3 (q := 113) dX10_miss_112 rfl ?_
        refine ev_iload3 (q := 114) dX10_miss_113 rfl ?_
        refine ev_imul (q := 115) dX10_miss_114 rfl ?_
        refine ev_isub (q := 116) dX10_miss_115 rfl ?_
        refine ev_istore8 (q := 118) dX10_miss_116 rfl (by decide) rfl ?_
        refine ev_iload2 (q := 119) dX10_miss_118 rfl ?_
        refine ev_iload6 (q := 121) dX10_miss_119 rfl ?_
        refine ev_imul (q := 122) dX10_miss_121 rfl ?_
        refine ev_iload3 (q := 123) dX10_miss_122 rfl ?_
        refine ev_iload4 (q := 125) dX10_miss_123 rfl ?_
        refine ev_imul (q := 126) dX10_miss_125 rfl ?_
        refine ev_isub (q := 127) dX10_miss_126 rfl ?_
        refine ev_istore9 (q := 129) dX10_miss_127 rfl (by decide) rfl ?_
        refine ev_iload2 (q := 130) dX10_miss_129 rfl ?_
        refine ev_iload7 (q := 132) dX10_miss_130 rfl ?_
        refine ev_imul (q := 133) dX10_miss_132 rfl ?_
        refine ev_iload4 (q := 135) dX10_miss_133 rfl ?_
        refine ev_iload4 (q := 137) dX10_miss_135 rfl ?_
        refine ev_imul (q := 138) dX10_miss_137 rfl ?_
        refine ev_isub (q := 139) dX10_miss_138 rfl ?_
        refine ev_istore10 (q := 141) dX10_miss_139 rfl (by decide) rfl ?_
        refine ev_aload0 (q := 142) dX10_miss_141 rfl ?_
        refine ev_iload2 (q := 143) dX10_miss_142 rfl ?_
        refine ev_iload8 (q := 145) dX10_miss_143 rfl ?_
        refine ev_imul (q := 146) dX10_miss_145 rfl ?_
        refine ev_putI (q := 149) dX10_miss_146 (p_X10_142 _) (hW _ _ rfl) rfl rfl rfl rfl ?_
        refine ev_iload2 (q := 150) dX10_miss_149 rfl ?_
        refine ev_iconst (q := 151) (v := 1) dX10_miss_150 rfl rfl ?_
        refine ev_icmp_le (q := 154) (t := 166) dX10_miss_151 rfl (by decide) (fun c151 => ?_) (fun c151 => ?_)
        · have hc : ¬ 1 < (ms h (V 58) 5).1.toInt := Int.not_lt.mpr (i_le.mp c151)
          refine ev_aload0 (q := 167) dX10_miss_166 rfl ?_
          refine ev_iconst (q := 168) (v := 1) dX10_miss_167 rfl rfl ?_
          refine ev_putI (q := 171) dX10_miss_168 (p_X10_142 _) (hW _ _ rfl) rfl rfl rfl rfl ?_
          refine ev_iconst (q := 172) (v := 0) dX10_miss_171 rfl rfl ?_
          exact ev_ireturn dX10_miss_172 rfl rfl ⟨congrArg (fun z => some (Value.int z)) (if_neg hc).symm, by show (n, SH, th_w (th_w V 36 34 _) 36 34 1) = _; rw [th_w_w, lowOf, lowQ, if_neg hc]⟩
        · have hc : 1 < (ms h (V 58) 5).1.toInt := i_nle c151
          refine ev_iload8 (q := 156) dX10_miss_154 rfl ?_
          refine ev_iload10 (q := 158) dX10_miss_156 rfl ?_
          refine ev_imul (q := 159) dX10_miss_158 rfl ?_
          refine ev_iload9 (q := 161) dX10_miss_159 rfl ?_
          refine ev_iload9 (q := 163) dX10_miss_161 rfl ?_
          refine ev_imul (q := 164) dX10_miss_163 rfl ?_
          refine ev_isub (q := 165) dX10_miss_164 rfl ?_
          exact ev_ireturn dX10_miss_165 rfl rfl ⟨congrArg (fun z => some (Value.int z)) (if_pos hc).symm, by rw [lowOf, lowQ, if_pos hc]; rfl⟩
      · exact absurd (by decide) c22
    · intro j hj ih
      refine ev_iload8 (q := 21) dX10_miss_19 rfl ?_
      refine ev_iconst (q := 22) (v := 5) dX10_miss_21 rfl rfl ?_
      refine ev_icmp_ge (q := 25) (t := 108) dX10_miss_22 rfl (by decide) (fun c22 => ?_) (fun c22 => ?_)
      · exact absurd c22 (nI_ge hj (by decide))
      · refine ev_iload1 (q := 26) dX10_miss_25 rfl ?_
        refine ev_iload8 (q := 28) dX10_miss_26 rfl ?_
        refine ev_ishr (q := 29) dX10_miss_28 rfl ?_
        refine ev_iconst (q := 30) (v := 1) dX10_miss_29 rfl rfl ?_
        refine ev_iand (q := 31) dX10_miss_30 rfl ?_
        refine ev_if_ne (q := 34) (t := 37) dX10_miss_31 rfl (by decide) (fun c31 => ?_) (fun c31 => ?_)
        · rw [ms, if_neg c31] at ih
          refine ev_iinc2 (q := 40) dX10_miss_37 rfl (by decide) rfl rfl ?_
          refine ev_iload3 (q := 41) dX10_miss_40 rfl ?_
          refine ev_iload8 (q := 43) dX10_miss_41 rfl ?_
          refine ev_iadd (q := 44) dX10_miss_43 rfl ?_
          refine ev_istore3 (q := 45) dX10_miss_44 rfl (by decide) rfl ?_
          refine ev_iload4 (q := 47) dX10_miss_45 rfl ?_
          refine ev_aload0 (q := 48) dX10_miss_47 rfl ?_
          refine ev_getR (q := 51) dX10_miss_48 g_X10_75 (hW _ _ rfl) rfl rfl rfl ?_
          refine ev_iload8 (q := 53) dX10_miss_51 rfl ?_
          refine ev_iald (q := 54) dX10_miss_53 (hW _ _ rfl) rfl hj (by decide) rfl ?_
          refine ev_iadd (q := 55) dX10_miss_54 rfl ?_
          refine ev_istore4 (q := 57) dX10_miss_55 rfl (by decide) rfl ?_
          refine ev_iload5 (q := 59) dX10_miss_57 rfl ?_
          refine ev_iload8 (q := 61) dX10_miss_59 rfl ?_
          refine ev_iload8 (q := 63) dX10_miss_61 rfl ?_
          refine ev_imul (q := 64) dX10_miss_63 rfl ?_
          refine ev_iadd (q := 65) dX10_miss_64 rfl ?_
          refine ev_istore5 (q := 67) dX10_miss_65 rfl (by decide) rfl ?_
          refine ev_iload6 (q := 69) dX10_miss_67 rfl ?_
          refine ev_iload8 (q := 71) dX10_miss_69 rfl ?_
          refine ev_aload0 (q := 72) dX10_miss_71 rfl ?_
          refine ev_getR (q := 75) dX10_miss_72 g_X10_75 (hW _ _ rfl) rfl rfl rfl ?_
          refine ev_iload8 (q := 77) dX10_miss_75 rfl ?_
          refine ev_iald (q := 78) dX10_miss_77 (hW _ _ rfl) rfl hj (by decide) rfl ?_
          refine ev_imul (q := 79) dX10_miss_78 rfl ?_
          refine ev_iadd (q := 80) dX10_miss_79 rfl ?_
          refine ev_istore6 (q := 82) dX10_miss_80 rfl (by decide) rfl ?_
          refine ev_iload7 (q := 84) dX10_miss_82 rfl ?_
          refine ev_aload0 (q := 85) dX10_miss_84 rfl ?_
          refine ev_getR (q := 88) dX10_miss_85 g_X10_75 (hW _ _ rfl) rfl rfl rfl ?_
          refine ev_iload8 (q := 90) dX10_miss_88 rfl ?_
          refine ev_iald (q := 91) dX10_miss_90 (hW _ _ rfl) rfl hj (by decide) rfl ?_
          refine ev_aload0 (q := 92) dX10_miss_91 rfl ?_
          refine ev_getR (q := 95) dX10_miss_92 g_X10_75 (hW _ _ rfl) rfl rfl rfl ?_
          refine ev_iload8 (q := 97) dX10_miss_95 rfl ?_
          refine ev_iald (q := 98) dX10_miss_97 (hW _ _ rfl) rfl hj (by decide) rfl ?_
          refine ev_imul (q := 99) dX10_miss_98 rfl ?_
          refine ev_iadd (q := 100) dX10_miss_99 rfl ?_
          refine ev_istore7 (q := 102) dX10_miss_100 rfl (by decide) rfl ?_
          refine ev_iinc8 (q := 105) dX10_miss_102 rfl (by decide) rfl (nI_succ j).symm ?_
          refine ev_goto (q := 19) dX10_miss_105 (by decide) ?_
          exact ih
        · rw [ms, if_pos c31] at ih
          refine ev_goto (q := 102) dX10_miss_34 (by decide) ?_
          refine ev_iinc8 (q := 105) dX10_miss_102 rfl (by decide) rfl (nI_succ j).symm ?_
          refine ev_goto (q := 19) dX10_miss_105 (by decide) ?_
          exact ih
  refine ev_iconst (q := 1) (v := 0) dX10_miss_0 rfl rfl ?_
  refine ev_istore2 (q := 2) dX10_miss_1 rfl (by decide) rfl ?_
  refine ev_iconst (q := 3) (v := 0) dX10_miss_2 rfl rfl ?_
  refine ev_istore3 (q := 4) dX10_miss_3 rfl (by decide) rfl ?_
  refine ev_iconst (q := 5) (v := 0) dX10_miss_4 rfl rfl ?_
  refine ev_istore4 (q := 7) dX10_miss_5 rfl (by decide) rfl ?_
  refine ev_iconst (q := 8) (v := 0) dX10_miss_7 rfl rfl ?_
  refine ev_istore5 (q := 10) dX10_miss_8 rfl (by decide) rfl ?_
  refine ev_iconst (q := 11) (v := 0) dX10_miss_10 rfl rfl ?_
  refine ev_istore6 (q := 13) dX10_miss_11 rfl (by decide) rfl ?_
  refine ev_iconst (q := 14) (v := 0) dX10_miss_13 rfl rfl ?_
  refine ev_istore7 (q := 16) dX10_miss_14 rfl (by decide) rfl ?_
  refine ev_iconst (q := 17) (v := 0) dX10_miss_16 rfl rfl ?_
  refine ev_istore8 (q := 19) dX10_miss_17 rfl (by decide) rfl ?_
  exact lp 0 (by decide)
end M8
