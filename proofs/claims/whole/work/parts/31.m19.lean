/-! the reference: a line comes -/
theorem fTp_res {V : th_Vl} : fTp (res V) = fTp V := by
  unfold fTp
  rw [show res V 45 = V 45 from funext fun _ => rfl]
  rfl
section M19
variable {G : th_G} {l : Launch} {d : Nat} {n : Nat} {SH : Nat → Option th_K0} {V : th_Vl}
theorem m_line (hW : wM SH) (ht : bTp (res V)) (hl : bLi (res V)) (sh : Int32) (b : Bool) : MT G l yX10_line kX10_line (d + 2) 0 0 [.ref 36, .int sh, .int (cond b 1 0)] (n, SH, V) (MP n SH V (a_line (res V) sh) (n_line (res V) sh b)) := by
  refine MT.of (by decide) rfl rfl (n := 2) rfl (ls := [some (.ref 36), some (.int sh), some (.int (cond b 1 0)), none, none]) rfl ?_
  refine ev_iload1 (q := 1) dX10_line_0 rfl ?_
  refine ev_i2l (q := 2) dX10_line_1 rfl ?_
  refine ev_lconst (q := 3) (v := 1) dX10_line_2 rfl rfl ?_
  refine ev_ldc2 (q := 6) dX10_line_3 q_X10_184 rfl ?_
  refine ev_cS (K := kX10_line) (pc := 6) (q := 9) (m_inI _ _ _ l_1 l_100) dX10_line_6 l_X10_95 rfl (Nat.le_of_ble_eq_true rfl) (Nat.le_refl _) rfl rfl (fun r S1 hp => ?_)
  rcases hp with ⟨rfl, ⟨hp6, rfl⟩ | ⟨hp6, rfl⟩⟩
  · refine ev_if_ne (q := 12) (t := 14) dX10_line_9 rfl (by decide) (fun c9 => ?_) (fun c9 => ?_)
    · refine ev_aload0 (q := 15) dX10_line_14 rfl ?_
      refine ev_getI (q := 18) dX10_line_15 g_X10_186 (hW _ _ rfl) rfl rfl ?_
      refine ev_bipush (q := 20) (v := 8) dX10_line_18 rfl rfl ?_
      refine ev_icmp_ne (q := 23) (t := 26) dX10_line_20 rfl (by decide) (fun c20 => ?_) (fun c20 => ?_)
      · refine ev_aload0 (q := 27) dX10_line_26 rfl ?_
        refine ev_cV (K := kX10_line) (pc := 27) (q := 30) (m_faultOf hW ht) dX10_line_27 l_X10_189 (hW _ _ rfl) rfl rfl (Nat.le_of_ble_eq_true rfl) (Nat.le_refl _) rfl rfl (fun r S1 hp => ?_)
        obtain ⟨rfl, W, rfl, hWV⟩ := hp
        have hresW : res W = res V := res_eq (fun a k hpk => by
          by_cases ha : a = 62
          · rw [ha] at hpk; exact absurd (show false = true from hpk) (by decide)
          · rw [hWV a ha])
        have hFM : FM V W := fun a ha => hWV a (by rintro rfl; revert ha; decide)
        have eM : W 36 = V 36 := hWV _ (by decide)
        have eT : W 45 = V 45 := hWV _ (by decide)
        have hl0 : 0 ≤ (V 36 11).toInt := hl.1
        have hl8 : (V 36 11).toInt ≤ 8 := hl.2
        have hlI := th_ixI hl0
        have hne : ¬ V 36 11 = 8 := c20
        have hK8 : ix (V 36 11) < 8 := by
          have := th_ne hne
          have e8 : (8 : Int32).toInt = 8 := by decide
          omega
        have hLn : W 36 11 = nI (ix (V 36 11)) := by rw [eM]; exact th_self hl0
        have ht0 : 0 ≤ (V 36 10).toInt := ht.1
        have ht60 : (V 36 10).toInt ≤ 60 := ht.2
        have htI := th_ixI ht0
        have hTp : W 36 10 = nI (ix (V 36 10)) := by rw [eM]; exact th_self ht0
        have hAL : ∀ {x : Int32} , a_line (res V) sh = (if 0 ≤ (fTp (res V)).toInt then -100 - fTp (res V) else V 36 11) := fun {x} => (if_neg (not_not_intro hp6)).trans (if_neg hne)
        refine ev_istore3 (q := 31) dX10_line_30 rfl (by decide) rfl ?_
        refine ev_iload3 (q := 32) dX10_line_31 rfl ?_
        refine ev_if_lt (q := 35) (t := 40) dX10_line_32 rfl (by decide) (fun c32 => ?_) (fun c32 => ?_)
        · have hf : ¬ 0 ≤ (fTp (res V)).toInt := by rw [fTp_res]; exact Int.not_le.mpr (i_lt.mp c32)
          generalize hK : ix (V 36 11) = K at hK8 hLn
          generalize hT : ix (V 36 10) = T at hTp htI
          have lp : ∀ j, j ≤ T → EV G l kX10_line (d + 2) 0 0 43 [some (.ref 36), some (.int sh), some (.int (cond b 1 0)), some (.int (fTp V)), some (.int (nI j))] [] (n, SH, th_seg W 46 (60 * K) j (ltx V)) (MP n SH V (a_line (res V) sh) (n_line (res V) sh b)) := by
            refine th_down T ?_ ?_
            · refine ev_iload4 (q := 45) dX10_line_43 rfl ?_
              refine ev_aload0 (q := 46) dX10_line_45 rfl ?_
              refine ev_getI (q := 49) dX10_line_46 g_X10_175 (hW _ _ rfl) rfl rfl ?_
              refine ev_icmp_ge (q := 52) (t := 80) dX10_line_49 rfl (by decide) (fun c => ?_) (fun c => ?_)
              · refine ev_aload0 (q := 81) dX10_line_80 rfl ?_
                refine ev_getR (q := 84) dX10_line_81 g_X10_41 (hW _ _ rfl) rfl rfl rfl ?_
                refine ev_aload0 (q := 85) dX10_line_84 rfl ?_
                refine ev_getI (q := 88) dX10_line_85 g_X10_186 (hW _ _ rfl) rfl rfl ?_
                refine ev_aload0 (q := 89) dX10_line_88 rfl ?_
                refine ev_getI (q := 92) dX10_line_89 g_X10_175 (hW _ _ rfl) rfl rfl ?_
                refine ev_iast (q := 93) dX10_line_92 (hW _ _ rfl) hLn hK8 (by decide) rfl ?_
                refine ev_aload0 (q := 94) dX10_line_93 rfl ?_
                refine ev_getR (q := 97) dX10_line_94 g_X10_44 (hW _ _ rfl) rfl rfl rfl ?_
                refine ev_aload0 (q := 98) dX10_line_97 rfl ?_
                refine ev_getI (q := 101) dX10_line_98 g_X10_186 (hW _ _ rfl) rfl rfl ?_
                refine ev_iload1 (q := 102) dX10_line_101 rfl ?_
                refine ev_iast (q := 103) dX10_line_102 (hW _ _ rfl) hLn hK8 (by decide) rfl ?_
                refine ev_aload0 (q := 104) dX10_line_103 rfl ?_
                refine ev_getR (q := 107) dX10_line_104 g_X10_47 (hW _ _ rfl) rfl rfl rfl ?_
                refine ev_aload0 (q := 108) dX10_line_107 rfl ?_
                refine ev_getI (q := 111) dX10_line_108 g_X10_186 (hW _ _ rfl) rfl rfl ?_
                refine ev_iload2 (q := 112) dX10_line_111 rfl ?_
                refine ev_zast (q := 113) dX10_line_112 (hW _ _ rfl) hLn hK8 (by decide) rfl ?_
                refine ev_aload0 (q := 114) dX10_line_113 rfl ?_
                refine ev_getR (q := 117) dX10_line_114 g_X10_51 (hW _ _ rfl) rfl rfl rfl ?_
                refine ev_aload0 (q := 118) dX10_line_117 rfl ?_
                refine ev_getI (q := 121) dX10_line_118 g_X10_186 (hW _ _ rfl) rfl rfl ?_
                refine ev_iconst (q := 122) (v := 0) dX10_line_121 rfl rfl ?_
                refine ev_iast (q := 123) dX10_line_122 (hW _ _ rfl) hLn hK8 (by decide) rfl ?_
                refine ev_aload0 (q := 124) dX10_line_123 rfl ?_
                refine ev_getR (q := 127) dX10_line_124 g_X10_54 (hW _ _ rfl) rfl rfl rfl ?_
                refine ev_aload0 (q := 128) dX10_line_127 rfl ?_
                refine ev_getI (q := 131) dX10_line_128 g_X10_186 (hW _ _ rfl) rfl rfl ?_
                refine ev_iconst (q := 132) (v := 0) dX10_line_131 rfl rfl ?_
                refine ev_iast (q := 133) dX10_line_132 (hW _ _ rfl) hLn hK8 (by decide) rfl ?_
                refine ev_aload0 (q := 134) dX10_line_133 rfl ?_
                refine ev_getR (q := 137) dX10_line_134 g_X10_57 (hW _ _ rfl) rfl rfl rfl ?_
                refine ev_aload0 (q := 138) dX10_line_137 rfl ?_
                refine ev_getI (q := 141) dX10_line_138 g_X10_186 (hW _ _ rfl) rfl rfl ?_
                refine ev_iconst (q := 142) (v := 0) dX10_line_141 rfl rfl ?_
                refine ev_iast (q := 143) dX10_line_142 (hW _ _ rfl) hLn hK8 (by decide) rfl ?_
                refine ev_aload0 (q := 144) dX10_line_143 rfl ?_
                refine ev_getR (q := 147) dX10_line_144 g_X10_60 (hW _ _ rfl) rfl rfl rfl ?_
                refine ev_aload0 (q := 148) dX10_line_147 rfl ?_
                refine ev_getI (q := 151) dX10_line_148 g_X10_186 (hW _ _ rfl) rfl rfl ?_
                refine ev_iconst (q := 152) (v := 0) dX10_line_151 rfl rfl ?_
                refine ev_iast (q := 153) dX10_line_152 (hW _ _ rfl) hLn hK8 (by decide) rfl ?_
                refine ev_aload0 (q := 154) dX10_line_153 rfl ?_
                refine ev_iconst (q := 155) (v := 0) dX10_line_154 rfl rfl ?_
                refine ev_putI (q := 158) dX10_line_155 (p_X10_175 _) (hW _ _ rfl) rfl rfl rfl rfl ?_
                refine ev_aload0 (q := 159) dX10_line_158 rfl ?_
                refine ev_dup (q := 160) dX10_line_159 rfl rfl ?_
                refine ev_getI (q := 163) dX10_line_160 g_X10_186 (hW _ _ rfl) rfl rfl ?_
                refine ev_iconst (q := 164) (v := 1) dX10_line_163 rfl rfl ?_
                refine ev_iadd (q := 165) dX10_line_164 rfl ?_
                refine ev_putI (q := 168) dX10_line_165 (p_X10_186 _) (hW _ _ rfl) rfl rfl rfl rfl ?_
                refine ev_aload0 (q := 169) dX10_line_168 rfl ?_
                refine ev_getI (q := 172) dX10_line_169 g_X10_186 (hW _ _ rfl) rfl rfl ?_
                refine ev_iconst (q := 173) (v := 1) dX10_line_172 rfl rfl ?_
                refine ev_isub (q := 174) dX10_line_173 rfl ?_
                have e1 : n_line (res V) sh b = th_w (th_w (ln1 (res V) sh b K) 36 10 0) 36 11 (V 36 11 + 1) := (if_neg (not_not_intro hp6)).trans ((if_neg hne).trans ((if_neg hf).trans (by rw [show ix (res V 36 11) = K from hK]; rfl)))
                have eb : vp_nar .boolean (cond b 1 0) = cond b 1 0 := by cases b <;> rfl
                refine ev_ireturn dX10_line_174 rfl rfl (MP.mk (th_w (th_w (th_w (th_w (th_w (th_w (th_w (th_w (th_w (th_seg W 46 (60 * K) T (ltx V)) 47 K (W 36 10)) 48 K sh) 49 K (vp_nar .boolean (cond b 1 0))) 50 K 0) 51 K 0) 52 K 0) 53 K 0) 36 10 0) 36 11 (W 36 11 + 1)) ?_ ?_ ?_)
                · rw [hAL (x := 0), if_neg hf]
                  show V 36 11 = W 36 11 + 1 - 1
                  rw [th_sub1, eM]
                · rw [e1, res_w (by rfl), res_w (by rfl), res_w (by rfl), res_w (by rfl), res_w (by rfl), res_w (by rfl), res_w (by rfl), res_w (by rfl), res_w (by rfl), res_seg (fun _ => rfl), hresW, eb, eM, ← hT]
                  rfl
                · exact (((((((((hFM.sg (by decide)).w (by decide)).w (by decide)).w (by decide)).w (by decide)).w (by decide)).w (by decide)).w (by decide)).w (by decide)).w (by decide)
              · exact absurd (show W 36 10 ≤ nI T by rw [hTp]; exact Int32.le_refl _) c
            · intro j hj ih
              rw [← th_seg_s] at ih
              refine ev_iload4 (q := 45) dX10_line_43 rfl ?_
              refine ev_aload0 (q := 46) dX10_line_45 rfl ?_
              refine ev_getI (q := 49) dX10_line_46 g_X10_175 (hW _ _ rfl) rfl rfl ?_
              refine ev_icmp_ge (q := 52) (t := 80) dX10_line_49 rfl (by decide) (fun c => ?_) (fun c => ?_)
              · exact absurd (show W 36 10 ≤ nI j from c) (by rw [hTp]; exact nI_ge hj (by omega))
              · have e62 : 60 * W 36 11 + nI j = nI (60 * K + j) := th_60 hLn rfl
                refine ev_aload0 (q := 53) dX10_line_52 rfl ?_
                refine ev_getR (q := 56) dX10_line_53 g_X10_38 (hW _ _ rfl) rfl rfl rfl ?_
                refine ev_bipush (q := 58) (v := 60) dX10_line_56 rfl rfl ?_
                refine ev_aload0 (q := 59) dX10_line_58 rfl ?_
                refine ev_getI (q := 62) dX10_line_59 g_X10_186 (hW _ _ rfl) rfl rfl ?_
                refine ev_imul (q := 63) dX10_line_62 rfl ?_
                refine ev_iload4 (q := 65) dX10_line_63 rfl ?_
                refine ev_iadd (q := 66) dX10_line_65 rfl ?_
                refine ev_aload0 (q := 67) dX10_line_66 rfl ?_
                refine ev_getR (q := 70) dX10_line_67 g_X10_34 (hW _ _ rfl) rfl rfl rfl ?_
                refine ev_iload4 (q := 72) dX10_line_70 rfl ?_
                refine ev_bald (q := 73) dX10_line_72 (hW _ _ rfl) rfl (show j < 60 by omega) (by decide) rfl ?_
                refine ev_bast (q := 74) dX10_line_73 (hW _ _ rfl) e62 (show 60 * K + j < 480 by omega) (by decide) rfl ?_
                refine ev_iinc4 (q := 77) dX10_line_74 rfl (by decide) rfl (nI_succ j).symm ?_
                refine ev_goto (q := 43) dX10_line_77 (by decide) ?_
                have e : ltx V j = vp_nar .byte (W 45 j) := by rw [eT]; rfl
                rw [e] at ih
                exact ih
          refine ev_iconst (q := 41) (v := 0) dX10_line_40 rfl rfl ?_
          refine ev_istore4 (q := 43) dX10_line_41 rfl (by decide) rfl ?_
          have h := lp 0 (Nat.zero_le _)
          rw [th_seg_0] at h
          exact h
        · refine ev_bipush (q := 37) (v := (-100)) dX10_line_35 rfl rfl ?_
          refine ev_iload3 (q := 38) dX10_line_37 rfl ?_
          refine ev_isub (q := 39) dX10_line_38 rfl ?_
          have hf : 0 ≤ (fTp (res V)).toInt := by rw [fTp_res]; exact i_nlt c32
          exact ev_ireturn dX10_line_39 rfl rfl (MP.mk W ((hAL (x := 0)).trans ((if_pos hf).trans (by rw [fTp_res]))) (((if_neg (not_not_intro hp6)).trans ((if_neg hne).trans (if_pos hf))).trans hresW.symm) hFM)
      · refine ev_bipush (q := 25) (v := (-2)) dX10_line_23 rfl rfl ?_
        exact ev_ireturn dX10_line_25 rfl rfl (MP.mk _ ((if_neg (not_not_intro hp6)).trans (if_pos c20)) ((if_neg (not_not_intro hp6)).trans (if_pos c20)) FM.rf)
    · exact absurd c9 (by decide)
  · refine ev_if_ne (q := 12) (t := 14) dX10_line_9 rfl (by decide) (fun c9 => ?_) (fun c9 => ?_)
    · exact absurd c9 (by decide)
    · refine ev_iconst (q := 13) (v := (-1)) dX10_line_12 rfl rfl ?_
      exact ev_ireturn dX10_line_13 rfl rfl (MP.mk _ (if_pos hp6) (if_pos hp6) FM.rf)
end M19
