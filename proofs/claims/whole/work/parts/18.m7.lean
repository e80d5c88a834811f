/-! the reference: a road comes; letters come -/
def a_road (s : th_Vl) (z o t h f need : Int32) : Int32 := if ¬ ((∀ k, k < 5 → isSp (tl z o t h f k)) ∧ inR need 1 5) then -1 else if s 36 6 = 12 then -2 else s 36 6
def n_road (s : th_Vl) (z o t h f need : Int32) : th_Vl := if ¬ ((∀ k, k < 5 → isSp (tl z o t h f k)) ∧ inR need 1 5) then s else if s 36 6 = 12 then s else th_w (th_w (th_seg s 43 (5 * ix (s 36 6)) 5 (tl z o t h f)) 44 (ix (s 36 6)) need) 36 6 (s 36 6 + 1)
/-- the k-th byte and what lies above -/
def bt (v : Int32) (k : Nat) : Int32 := (v.toUInt32 >>> ((8 * nI k).toUInt32 &&& Int32.toUInt32 31)).toInt32
def nb (v : Int32) : Nat := if bt v 0 &&& 255 = 0 then 0 else if bt v 1 &&& 255 = 0 then 1 else if bt v 2 &&& 255 = 0 then 2 else if bt v 3 &&& 255 = 0 then 3 else 4
theorem nb_le (v : Int32) : nb v ≤ 4 := by
  unfold nb
  repeat' split
  all_goals decide
theorem nb_is {v : Int32} {i : Nat} (hi : i ≤ 4) (h1 : ∀ j, j < i → ¬ bt v j &&& 255 = 0) (h2 : i = 4 ∨ bt v i &&& 255 = 0) : nb v = i := by
  unfold nb
  rcases (show i = 0 ∨ i = 1 ∨ i = 2 ∨ i = 3 ∨ i = 4 by omega) with rfl | rfl | rfl | rfl | rfl
  · rw [if_pos (h2.resolve_left (by decide))]
  · rw [if_neg (h1 0 (by decide)), if_pos (h2.resolve_left (by decide))]
  · rw [if_neg (h1 0 (by decide)), if_neg (h1 1 (by decide)), if_pos (h2.resolve_left (by decide))]
  · rw [if_neg (h1 0 (by decide)), if_neg (h1 1 (by decide)), if_neg (h1 2 (by decide)), if_pos (h2.resolve_left (by decide))]
  · rw [if_neg (h1 0 (by decide)), if_neg (h1 1 (by decide)), if_neg (h1 2 (by decide)), if_neg (h1 3 (by decide))]
def bB (v : Int32) (k : Nat) : Int32 := (bt v k).toInt8.toInt32
def a_feed (s : th_Vl) (v : Int32) : Int32 := if 60 < (s 36 10).toInt + nb v then -2 else s 36 10 + nI (nb v)
def n_feed (s : th_Vl) (v : Int32) : th_Vl := if 60 < (s 36 10).toInt + nb v then s else th_w (th_seg s 45 (ix (s 36 10)) (nb v) (bB v)) 36 10 (s 36 10 + nI (nb v))
theorem th_sub1 {x : Int32} : x + 1 - 1 = x := by rw [Int32.sub_eq_add_neg, Int32.add_assoc]; simp
section M7
variable {G : th_G} {l : Launch} {d : Nat} {n : Nat} {SH : Nat → Option th_K0} {V : th_Vl}
theorem m_road (hW : wM SH) (hb : bRo (res V)) (z o t h f need : Int32) : MT G l yX10_road kX10_road (d + 1) 0 0 [.ref 36, .int z, .int o, .int t, .int h, .int f, .int need] (n, SH, V) (MP n SH V (a_road (res V) z o t h f need) (n_road (res V) z o t h f need)) := by
  refine MT.of (by decide) rfl rfl (n := 1) rfl (ls := [some (.ref 36), some (.int z), some (.int o), some (.int t), some (.int h), some (.int f), some (.int need), none]) rfl ?_
  have hF : FM V (th_w (th_w (th_w (th_w (th_w V 57 0 z) 57 1 o) 57 2 t) 57 3 h) 57 4 f) := ((((FM.rf.w (by decide)).w (by decide)).w (by decide)).w (by decide)).w (by decide)
  have hT : ∀ k, k < 5 → (th_w (th_w (th_w (th_w (th_w V 57 0 z) 57 1 o) 57 2 t) 57 3 h) 57 4 f) 57 k = tl z o t h f k := by
    intro k hk
    rcases (show k = 0 ∨ k = 1 ∨ k = 2 ∨ k = 3 ∨ k = 4 by omega) with rfl | rfl | rfl | rfl | rfl <;> rfl
  have hE : res (th_w (th_w (th_w (th_w (th_w V 57 0 z) 57 1 o) 57 2 t) 57 3 h) 57 4 f) = res V := by
    rw [res_s (by rfl), res_s (by rfl), res_s (by rfl), res_s (by rfl), res_s (by rfl)]
  have hRo : (th_w (th_w (th_w (th_w (th_w V 57 0 z) 57 1 o) 57 2 t) 57 3 h) 57 4 f) 36 6 = V 36 6 := rfl
  refine ev_aload0 (q := 1) dX10_road_0 rfl ?_
  refine ev_getR (q := 4) dX10_road_1 g_X10_72 (hW _ _ rfl) rfl rfl rfl ?_
  refine ev_iconst (q := 5) (v := 0) dX10_road_4 rfl rfl ?_
  refine ev_iload1 (q := 6) dX10_road_5 rfl ?_
  refine ev_iast (q := 7) dX10_road_6 (hW _ _ rfl) rfl (by decide) (by decide) rfl ?_
  refine ev_aload0 (q := 8) dX10_road_7 rfl ?_
  refine ev_getR (q := 11) dX10_road_8 g_X10_72 (hW _ _ rfl) rfl rfl rfl ?_
  refine ev_iconst (q := 12) (v := 1) dX10_road_11 rfl rfl ?_
  refine ev_iload2 (q := 13) dX10_road_12 rfl ?_
  refine ev_iast (q := 14) dX10_road_13 (hW _ _ rfl) rfl (by decide) (by decide) rfl ?_
  refine ev_aload0 (q := 15) dX10_road_14 rfl ?_
  refine ev_getR (q := 18) dX10_road_15 g_X10_72 (hW _ _ rfl) rfl rfl rfl ?_
  refine ev_iconst (q := 19) (v := 2) dX10_road_18 rfl rfl ?_
  refine ev_iload3 (q := 20) dX10_road_19 rfl ?_
  refine ev_iast (q := 21) dX10_road_20 (hW _ _ rfl) rfl (by decide) (by decide) rfl ?_
  refine ev_aload0 (q := 22) dX10_road_21 rfl ?_
  refine ev_getR (q := 25) dX10_road_22 g_X10_72 (hW _ _ rfl) rfl rfl rfl ?_
  refine ev_iconst (q := 26) (v := 3) dX10_road_25 rfl rfl ?_
  refine ev_iload4 (q := 28) dX10_road_26 rfl ?_
  refine ev_iast (q := 29) dX10_road_28 (hW _ _ rfl) rfl (by decide) (by decide) rfl ?_
  refine ev_aload0 (q := 30) dX10_road_29 rfl ?_
  refine ev_getR (q := 33) dX10_road_30 g_X10_72 (hW _ _ rfl) rfl rfl rfl ?_
  refine ev_iconst (q := 34) (v := 4) dX10_road_33 rfl rfl ?_
  refine ev_iload5 (q := 36) dX10_road_34 rfl ?_
  refine ev_iast (q := 37) dX10_road_36 (hW _ _ rfl) rfl (by decide) (by decide) rfl ?_
  refine ev_iconst (q := 38) (v := 0) dX10_road_37 rfl rfl ?_
  refine ev_istore7 (q := 40) dX10_road_38 rfl (by decide) rfl ?_
  show EV G l kX10_road (d + 1) 0 0 40 _ _ (n, SH, th_w (th_w (th_w (th_w (th_w V 57 0 z) 57 1 o) 57 2 t) 57 3 h) 57 4 f) _
  generalize th_w (th_w (th_w (th_w (th_w V 57 0 z) 57 1 o) 57 2 t) 57 3 h) 57 4 f = U at hF hT hE hRo ⊢
  have h0 : 0 ≤ (V 36 6).toInt := hb.1
  have h12 : (V 36 6).toInt ≤ 12 := hb.2
  have hR := th_self h0
  have hI := th_ixI h0
  have lq : (∀ k, k < 5 → isSp (tl z o t h f k)) ∧ inR need 1 5 → ¬ V 36 6 = 12 → ∀ j, j ≤ 5 → EV G l kX10_road (d + 1) 0 0 97 [some (.ref 36), some (.int z), some (.int o), some (.int t), some (.int h), some (.int f), some (.int need), some (.int (nI j))] [] (n, SH, th_seg U 43 (5 * ix (V 36 6)) j (tl z o t h f)) (MP n SH V (a_road (res V) z o t h f need) (n_road (res V) z o t h f need)) := by
    intro hok hne
    have hlt : ix (V 36 6) < 12 := by
      have := th_ne hne
      have h12' : (12 : Int32).toInt = 12 := by decide
      omega
    refine th_down 5 ?_ ?_
    · refine ev_iload7 (q := 99) dX10_road_97 rfl ?_
      refine ev_iconst (q := 100) (v := 5) dX10_road_99 rfl rfl ?_
      refine ev_icmp_ge (q := 103) (t := 130) dX10_road_100 rfl (by decide) (fun c => ?_) (fun c => ?_)
      · refine ev_aload0 (q := 131) dX10_road_130 rfl ?_
        refine ev_getR (q := 134) dX10_road_131 g_X10_31 (hW _ _ rfl) rfl rfl rfl ?_
        refine ev_aload0 (q := 135) dX10_road_134 rfl ?_
        refine ev_getI (q := 138) dX10_road_135 g_X10_124 (hW _ _ rfl) rfl rfl ?_
        refine ev_iload6 (q := 140) dX10_road_138 rfl ?_
        refine ev_iast (q := 141) dX10_road_140 (hW _ _ rfl) (show U 36 6 = _ by rw [hRo]; exact hR) hlt (by decide) rfl ?_
        refine ev_aload0 (q := 142) dX10_road_141 rfl ?_
        refine ev_dup (q := 143) dX10_road_142 rfl rfl ?_
        refine ev_getI (q := 146) dX10_road_143 g_X10_124 (hW _ _ rfl) rfl rfl ?_
        refine ev_iconst (q := 147) (v := 1) dX10_road_146 rfl rfl ?_
        refine ev_iadd (q := 148) dX10_road_147 rfl ?_
        refine ev_putI (q := 151) dX10_road_148 (p_X10_124 _) (hW _ _ rfl) rfl rfl rfl rfl ?_
        refine ev_aload0 (q := 152) dX10_road_151 rfl ?_
        refine ev_getI (q := 155) dX10_road_152 g_X10_124 (hW _ _ rfl) rfl rfl ?_
        refine ev_iconst (q := 156) (v := 1) dX10_road_155 rfl rfl ?_
        refine ev_isub (q := 157) dX10_road_156 rfl ?_
        exact ev_ireturn dX10_road_157 rfl rfl (MP.mk (th_w (th_w (th_seg U 43 (5 * ix (V 36 6)) 5 (tl z o t h f)) 44 (ix (V 36 6)) need) 36 6 (U 36 6 + 1)) (((if_neg (not_not_intro hok)).trans (if_neg hne)).trans (by show V 36 6 = U 36 6 + 1 - 1; rw [hRo, th_sub1])) ((if_neg (not_not_intro hok)).trans ((if_neg hne).trans (by rw [res_w (by rfl), res_w (by rfl), res_seg (fun _ => rfl), hE, hRo]; rfl))) (((hF.sg (by decide)).w (by decide)).w (by decide)))
      · exact absurd (by decide) c
    · intro j hj ih
      rw [← th_seg_s] at ih
      refine ev_iload7 (q := 99) dX10_road_97 rfl ?_
      refine ev_iconst (q := 100) (v := 5) dX10_road_99 rfl rfl ?_
      refine ev_icmp_ge (q := 103) (t := 130) dX10_road_100 rfl (by decide) (fun c => ?_) (fun c => ?_)
      · exact absurd c (nI_ge hj (by decide))
      · refine ev_aload0 (q := 104) dX10_road_103 rfl ?_
        refine ev_getR (q := 107) dX10_road_104 g_X10_28 (hW _ _ rfl) rfl rfl rfl ?_
        refine ev_iconst (q := 108) (v := 5) dX10_road_107 rfl rfl ?_
        refine ev_aload0 (q := 109) dX10_road_108 rfl ?_
        refine ev_getI (q := 112) dX10_road_109 g_X10_124 (hW _ _ rfl) rfl rfl ?_
        refine ev_imul (q := 113) dX10_road_112 rfl ?_
        refine ev_iload7 (q := 115) dX10_road_113 rfl ?_
        refine ev_iadd (q := 116) dX10_road_115 rfl ?_
        refine ev_aload0 (q := 117) dX10_road_116 rfl ?_
        refine ev_getR (q := 120) dX10_road_117 g_X10_72 (hW _ _ rfl) rfl rfl rfl ?_
        refine ev_iload7 (q := 122) dX10_road_120 rfl ?_
        refine ev_iald (q := 123) dX10_road_122 (hW _ _ rfl) rfl hj (by decide) rfl ?_
        refine ev_iast (q := 124) dX10_road_123 (hW _ _ rfl) (th_5 (show U 36 6 = _ by rw [hRo]; exact hR) rfl) (by omega) (by decide) rfl ?_
        refine ev_iinc7 (q := 127) dX10_road_124 rfl (by decide) rfl (nI_succ j).symm ?_
        refine ev_goto (q := 97) dX10_road_127 (by decide) ?_
        rw [← hT j hj] at ih
        exact ih
  have lp : ∀ j, j ≤ 5 → (∀ k, k < j → isSp (tl z o t h f k)) → EV G l kX10_road (d + 1) 0 0 40 [some (.ref 36), some (.int z), some (.int o), some (.int t), some (.int h), some (.int f), some (.int need), some (.int (nI j))] [] (n, SH, U) (MP n SH V (a_road (res V) z o t h f need) (n_road (res V) z o t h f need)) := by
    refine th_down 5 ?_ ?_
    · intro hall
      refine ev_iload7 (q := 42) dX10_road_40 rfl ?_
      refine ev_iconst (q := 43) (v := 5) dX10_road_42 rfl rfl ?_
      refine ev_icmp_ge (q := 46) (t := 67) dX10_road_43 rfl (by decide) (fun c => ?_) (fun c => ?_)
      · refine ev_iload6 (q := 69) dX10_road_67 rfl ?_
        refine ev_i2l (q := 70) dX10_road_69 rfl ?_
        refine ev_lconst (q := 71) (v := 1) dX10_road_70 rfl rfl ?_
        refine ev_ldc2 (q := 74) dX10_road_71 q_X10_122 rfl ?_
        refine ev_cS (K := kX10_road) (pc := 74) (q := 77) (m_inI _ _ _ l_1 l_5) dX10_road_74 l_X10_95 rfl (Nat.le_of_ble_eq_true rfl) (Nat.le_refl _) rfl rfl (fun r S1 hp => ?_)
        rcases hp with ⟨rfl, ⟨hp74, rfl⟩ | ⟨hp74, rfl⟩⟩
        · refine ev_if_ne (q := 80) (t := 82) dX10_road_77 rfl (by decide) (fun c77 => ?_) (fun c77 => ?_)
          · refine ev_aload0 (q := 83) dX10_road_82 rfl ?_
            refine ev_getI (q := 86) dX10_road_83 g_X10_124 (hW _ _ rfl) rfl rfl ?_
            refine ev_bipush (q := 88) (v := 12) dX10_road_86 rfl rfl ?_
            refine ev_icmp_ne (q := 91) (t := 94) dX10_road_88 rfl (by decide) (fun c88 => ?_) (fun c88 => ?_)
            · have hok : (∀ k, k < 5 → isSp (tl z o t h f k)) ∧ inR need 1 5 := ⟨hall, hp74⟩
              have hne : ¬ V 36 6 = 12 := fun e => c88 (hRo.trans e)
              refine ev_iconst (q := 95) (v := 0) dX10_road_94 rfl rfl ?_
              refine ev_istore7 (q := 97) dX10_road_95 rfl (by decide) rfl ?_
              have hh := lq hok hne 0 (by decide)
              rw [th_seg_0] at hh
              exact hh
            · refine ev_bipush (q := 93) (v := (-2)) dX10_road_91 rfl rfl ?_
              exact ev_ireturn dX10_road_93 rfl rfl (MP.mk U ((if_neg (not_not_intro ⟨hall, hp74⟩)).trans (if_pos (hRo.symm.trans c88))) ((if_neg (not_not_intro ⟨hall, hp74⟩)).trans ((if_pos (hRo.symm.trans c88)).trans hE.symm)) hF)
          · exact absurd c77 (by decide)
        · refine ev_if_ne (q := 80) (t := 82) dX10_road_77 rfl (by decide) (fun c77 => ?_) (fun c77 => ?_)
          · exact absurd c77 (by decide)
          · refine ev_iconst (q := 81) (v := (-1)) dX10_road_80 rfl rfl ?_
            exact ev_ireturn dX10_road_81 rfl rfl (MP.mk U (if_pos (fun q => hp74 q.2)) ((if_pos (fun q => hp74 q.2)).trans hE.symm) hF)
      · exact absurd (by decide) c
    · intro j hj ih hall
      refine ev_iload7 (q := 42) dX10_road_40 rfl ?_
      refine ev_iconst (q := 43) (v := 5) dX10_road_42 rfl rfl ?_
      refine ev_icmp_ge (q := 46) (t := 67) dX10_road_43 rfl (by decide) (fun c => ?_) (fun c => ?_)
      · exact absurd c (nI_ge hj (by decide))
      · refine ev_aload0 (q := 47) dX10_road_46 rfl ?_
        refine ev_getR (q := 50) dX10_road_47 g_X10_72 (hW _ _ rfl) rfl rfl rfl ?_
        refine ev_iload7 (q := 52) dX10_road_50 rfl ?_
        refine ev_iald (q := 53) dX10_road_52 (hW _ _ rfl) rfl hj (by decide) rfl ?_
        refine ev_cS (K := kX10_road) (pc := 53) (q := 56) (m_isSpan _) dX10_road_53 l_X10_119 rfl (Nat.le_of_ble_eq_true rfl) (Nat.le_refl _) rfl rfl (fun r S1 hp => ?_)
        rcases hp with ⟨rfl, ⟨hp53, rfl⟩ | ⟨hp53, rfl⟩⟩
        · have hp53 : isSp (U 57 j) := hp53
          rw [hT j hj] at hp53
          refine ev_if_ne (q := 59) (t := 61) dX10_road_56 rfl (by decide) (fun c56 => ?_) (fun c56 => ?_)
          · refine ev_iinc7 (q := 64) dX10_road_61 rfl (by decide) rfl (nI_succ j).symm ?_
            refine ev_goto (q := 40) dX10_road_64 (by decide) ?_
            exact ih (fun k hk => by
              rcases Nat.lt_or_ge k j with q | q
              · exact hall k q
              · rw [show k = j by omega]; exact hp53)
          · exact absurd c56 (by decide)
        · have hp53 : ¬ isSp (U 57 j) := hp53
          rw [hT j hj] at hp53
          refine ev_if_ne (q := 59) (t := 61) dX10_road_56 rfl (by decide) (fun c56 => ?_) (fun c56 => ?_)
          · exact absurd rfl c56
          · refine ev_iconst (q := 60) (v := (-1)) dX10_road_59 rfl rfl ?_
            exact ev_ireturn dX10_road_60 rfl rfl (MP.mk U (if_pos (fun q => hp53 (q.1 j hj))) ((if_pos (fun q => hp53 (q.1 j hj))).trans hE.symm) hF)
  exact lp 0 (by decide) (fun k hk => absurd hk (Nat.not_lt_zero k))
theorem m_feed (hW : wM SH) (hb : bTp (res V)) (v : Int32) : MT G l yX10_feed kX10_feed d 0 0 [.ref 36, .int v] (n, SH, V) (MP n SH V (a_feed (res V) v) (n_feed (res V) v)) := by
  refine MT.of (by decide) rfl rfl (n := 2) rfl (ls := [some (.ref 36), some (.int v), none, none]) rfl ?_
  have h0 : 0 ≤ (V 36 10).toInt := hb.1
  have h60 : (V 36 10).toInt ≤ 60 := hb.2
  have hT := th_self h0
  have hI := th_ixI h0
  have hn4 := nb_le v
  have hsum : V 36 10 + nI (nb v) = nI (ix (V 36 10) + nb v) := by rw [hT, nI_add, ← hT]
  have hsumI : (V 36 10 + nI (nb v)).toInt = (V 36 10).toInt + nb v := by
    rw [hsum, nI_toInt (by omega)]
    omega
  have h26 : EV G l kX10_feed d 0 0 26 [some (.ref 36), some (.int v), some (.int (nI (nb v))), none] [] (n, SH, V) (MP n SH V (a_feed (res V) v) (n_feed (res V) v)) := by
    have hfull : (60 : Int32).toInt = 60 := by decide
    refine ev_aload0 (q := 27) dX10_feed_26 rfl ?_
    refine ev_getI (q := 30) dX10_feed_27 g_X10_175 (hW _ _ rfl) rfl rfl ?_
    refine ev_iload2 (q := 31) dX10_feed_30 rfl ?_
    refine ev_iadd (q := 32) dX10_feed_31 rfl ?_
    refine ev_bipush (q := 34) (v := 60) dX10_feed_32 rfl rfl ?_
    refine ev_icmp_le (q := 37) (t := 40) dX10_feed_34 rfl (by decide) (fun c34 => ?_) (fun c34 => ?_)
    · have hle : (V 36 10).toInt + nb v ≤ 60 := by
        have := i_le.mp c34
        have this : (V 36 10 + nI (nb v)).toInt ≤ (60 : Int32).toInt := this
        omega
      have lq : ∀ j, j ≤ nb v → EV G l kX10_feed d 0 0 42 [some (.ref 36), some (.int v), some (.int (nI (nb v))), some (.int (nI j))] [] (n, SH, th_seg V 45 (ix (V 36 10)) j (bB v)) (MP n SH V (a_feed (res V) v) (n_feed (res V) v)) := by
        refine th_down (nb v) ?_ ?_
        · refine ev_iload3 (q := 43) dX10_feed_42 rfl ?_
          refine ev_iload2 (q := 44) dX10_feed_43 rfl ?_
          refine ev_icmp_ge (q := 47) (t := 71) dX10_feed_44 rfl (by decide) (fun c => ?_) (fun c => ?_)
          · refine ev_aload0 (q := 72) dX10_feed_71 rfl ?_
            refine ev_dup (q := 73) dX10_feed_72 rfl rfl ?_
            refine ev_getI (q := 76) dX10_feed_73 g_X10_175 (hW _ _ rfl) rfl rfl ?_
            refine ev_iload2 (q := 77) dX10_feed_76 rfl ?_
            refine ev_iadd (q := 78) dX10_feed_77 rfl ?_
            refine ev_putI (q := 81) dX10_feed_78 (p_X10_175 _) (hW _ _ rfl) rfl rfl rfl rfl ?_
            refine ev_aload0 (q := 82) dX10_feed_81 rfl ?_
            refine ev_getI (q := 85) dX10_feed_82 g_X10_175 (hW _ _ rfl) rfl rfl ?_
            exact ev_ireturn dX10_feed_85 rfl rfl (MP.mk (th_w (th_seg V 45 (ix (V 36 10)) (nb v) (bB v)) 36 10 (V 36 10 + nI (nb v))) (if_neg (Int.not_lt.mpr hle)) ((if_neg (Int.not_lt.mpr hle)).trans (by rw [res_w (by rfl), res_seg (fun _ => rfl)]; rfl)) ((FM.rf.sg (by decide)).w (by decide)))
          · exact absurd (Int32.le_refl _) c
        · intro j hj ih
          rw [← th_seg_s] at ih
          refine ev_iload3 (q := 43) dX10_feed_42 rfl ?_
          refine ev_iload2 (q := 44) dX10_feed_43 rfl ?_
          refine ev_icmp_ge (q := 47) (t := 71) dX10_feed_44 rfl (by decide) (fun c => ?_) (fun c => ?_)
          · exact absurd c (nI_ge hj (by omega))
          · refine ev_aload0 (q := 48) dX10_feed_47 rfl ?_
            refine ev_getR (q := 51) dX10_feed_48 g_X10_34 (hW _ _ rfl) rfl rfl rfl ?_
            refine ev_aload0 (q := 52) dX10_feed_51 rfl ?_
            refine ev_getI (q := 55) dX10_feed_52 g_X10_175 (hW _ _ rfl) rfl rfl ?_
            refine ev_iload3 (q := 56) dX10_feed_55 rfl ?_
            refine ev_iadd (q := 57) dX10_feed_56 rfl ?_
            refine ev_iload1 (q := 58) dX10_feed_57 rfl ?_
            refine ev_bipush (q := 60) (v := 8) dX10_feed_58 rfl rfl ?_
            refine ev_iload3 (q := 61) dX10_feed_60 rfl ?_
            refine ev_imul (q := 62) dX10_feed_61 rfl ?_
            refine ev_iushr (q := 63) dX10_feed_62 rfl ?_
            refine ev_i2b (q := 64) dX10_feed_63 rfl ?_
            refine ev_bast (q := 65) dX10_feed_64 (hW _ _ rfl) (show V 36 10 + nI j = nI (ix (V 36 10) + j) by rw [← nI_add, ← hT]) (by omega) (by decide) rfl ?_
            refine ev_iinc3 (q := 68) dX10_feed_65 rfl (by decide) rfl (nI_succ j).symm ?_
            refine ev_goto (q := 42) dX10_feed_68 (by decide) ?_
            rw [show bB v j = vp_nar .byte (bt v j).toInt8.toInt32 from (pk_vb _).symm] at ih
            exact ih
      refine ev_iconst (q := 41) (v := 0) dX10_feed_40 rfl rfl ?_
      refine ev_istore3 (q := 42) dX10_feed_41 rfl (by decide) rfl ?_
      have hh := lq 0 (Nat.zero_le _)
      rw [th_seg_0] at hh
      exact hh
    · have hgt : 60 < (V 36 10).toInt + nb v := by
        have := i_nle c34
        have this : (60 : Int32).toInt < (V 36 10 + nI (nb v)).toInt := this
        omega
      refine ev_bipush (q := 39) (v := (-2)) dX10_feed_37 rfl rfl ?_
      exact ev_ireturn dX10_feed_39 rfl rfl (MP.mk _ (if_pos hgt) (if_pos hgt) FM.rf)
  have lp : ∀ j, j ≤ 4 → (∀ k, k < j → ¬ bt v k &&& 255 = 0) → EV G l kX10_feed d 0 0 2 [some (.ref 36), some (.int v), some (.int (nI j)), none] [] (n, SH, V) (MP n SH V (a_feed (res V) v) (n_feed (res V) v)) := by
    refine th_down 4 ?_ ?_
    · intro hall
      refine ev_iload2 (q := 3) dX10_feed_2 rfl ?_
      refine ev_iconst (q := 4) (v := 4) dX10_feed_3 rfl rfl ?_
      refine ev_icmp_ge (q := 7) (t := 26) dX10_feed_4 rfl (by decide) (fun c => ?_) (fun c => ?_)
      · rw [nb_is (Nat.le_refl 4) hall (Or.inl rfl)] at h26
        exact h26
      · exact absurd (by decide) c
    · intro j hj ih hall
      refine ev_iload2 (q := 3) dX10_feed_2 rfl ?_
      refine ev_iconst (q := 4) (v := 4) dX10_feed_3 rfl rfl ?_
      refine ev_icmp_ge (q := 7) (t := 26) dX10_feed_4 rfl (by decide) (fun c => ?_) (fun c => ?_)
      · exact absurd c (nI_ge hj (by decide))
      · refine ev_iload1 (q := 8) dX10_feed_7 rfl ?_
        refine ev_bipush (q := 10) (v := 8) dX10_feed_8 rfl rfl ?_
        refine ev_iload2 (q := 11) dX10_feed_10 rfl ?_
        refine ev_imul (q := 12) dX10_feed_11 rfl ?_
        refine ev_iushr (q := 13) dX10_feed_12 rfl ?_
        refine ev_sipush (q := 16) (v := 255) dX10_feed_13 rfl rfl ?_
        refine ev_iand (q := 17) dX10_feed_16 rfl ?_
        refine ev_if_eq (q := 20) (t := 26) dX10_feed_17 rfl (by decide) (fun c17 => ?_) (fun c17 => ?_)
        · rw [nb_is (Nat.le_of_lt hj) hall (Or.inr c17)] at h26
          exact h26
        · refine ev_iinc2 (q := 23) dX10_feed_20 rfl (by decide) rfl (nI_succ j).symm ?_
          refine ev_goto (q := 2) dX10_feed_23 (by decide) ?_
          exact ih (fun k hk => by
            rcases Nat.lt_or_ge k j with q | q
            · exact hall k q
            · rw [show k = j by omega]; exact c17)
  refine ev_iconst (q := 1) (v := 0) dX10_feed_0 rfl rfl ?_
  refine ev_istore2 (q := 2) dX10_feed_1 rfl (by decide) rfl ?_
  exact lp 0 (by decide) (fun k hk => absurd hk (Nat.not_lt_zero k))
end M7
