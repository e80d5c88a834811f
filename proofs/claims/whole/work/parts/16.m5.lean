/-! the reference's calls with loops, on -/
theorem th_i64 {i : Int32} {k : Nat} (h0 : 0 ≤ i.toInt) (hk : k < 1000) : (i.toInt64 + (nI k).toInt64).toInt = i.toInt + k := by
  rw [Int64.toInt_add, th_64, th_64, nI_toInt (by omega)]
  have := Int32.toInt_lt i
  apply Int.bmod_eq_of_le <;> omega
def lf (s : th_Vl) (r i : Int32) (l : Nat) : Int32 := if i.toInt + l < (s 38 (ix r)).toInt then s 39 (20 * ix r + ix i + l) &&& 65535 else 0
def a_load (s : th_Vl) (r i : Int32) : Int32 := if ¬ (inR r 0 2 ∧ 0 ≤ i.toInt) then -1 else if (s 38 (ix r)).toInt < 0 then -3 else ah (lf s r i) 5
def n_load (s : th_Vl) (r i : Int32) : th_Vl := if ¬ (inR r 0 2 ∧ 0 ≤ i.toInt) then s else if (s 38 (ix r)).toInt < 0 then s else th_seg s 40 0 5 (lf s r i)
def a_sheet (r k n : Int32) : Int32 := if ¬ (inR r 0 2 ∧ inR k 0 2) then -1 else if n.toInt < 0 then -4 else if 20 < n.toInt then -1 else 1
def n_sheet (s : th_Vl) (r k n : Int32) : th_Vl := if ¬ (inR r 0 2 ∧ inR k 0 2) then s else if n.toInt < 0 then s else if 20 < n.toInt then s else th_seg (th_w (th_w s 37 (ix r) k) 38 (ix r) n) 39 (20 * ix r) (ix n) (fun _ => 0)
def cst (k v : Int32) : Int32 := if k = 0 then v.toInt8.toInt32 else if k = 1 then v.toInt16.toInt32 else v
def a_cell (s : th_Vl) (r i : Int32) : Int32 := if ¬ inR r 0 2 then -1 else if (s 38 (ix r)).toInt < 0 then -3 else if ¬ inR i 0 (s 38 (ix r) - 1).toInt then -1 else 1
def n_cell (s : th_Vl) (r i v : Int32) : th_Vl := if ¬ inR r 0 2 then s else if (s 38 (ix r)).toInt < 0 then s else if ¬ inR i 0 (s 38 (ix r) - 1).toInt then s else th_w s 39 (20 * ix r + ix i) (cst (s 37 (ix r)) v)
def tl (z o t h f : Int32) (l : Nat) : Int32 := th_nth [z, o, t, h, f] l 0
def okR (z o t h f need : Int32) : Prop := (∀ l, l < 5 → isSp (tl z o t h f l)) ∧ inR need 1 5
theorem cell_lt {x i : Int32} (h1 : x.toInt ≤ 20) (h0 : 0 ≤ x.toInt) (h : inR i 0 (x - 1).toInt) : ix i < 20 := by
  have h2 := th_m1 h0 (Int.le_trans h1 (by decide))
  have h3 := h.2
  exact th_lt h.1 (by omega)
section M5
variable {G : th_G} {l : Launch} {d : Nat} {n : Nat} {SH : Nat → Option th_K0} {V : th_Vl}
theorem m_load (hW : wM SH) (hb : bSz (res V)) (r i : Int32) : MT G l yX10_load kX10_load (d + 2) 0 0 [.ref 36, .int r, .int i] (n, SH, V) (MP n SH V (a_load (res V) r i) (n_load (res V) r i)) := by
  refine MT.of (by decide) rfl rfl (n := 1) rfl (ls := [some (.ref 36), some (.int r), some (.int i), none]) rfl ?_
  refine ev_iload1 (q := 1) dX10_load_0 rfl ?_
  refine ev_i2l (q := 2) dX10_load_1 rfl ?_
  refine ev_lconst (q := 3) (v := 0) dX10_load_2 rfl rfl ?_
  refine ev_ldc2 (q := 6) dX10_load_3 q_X10_99 rfl ?_
  refine ev_cS (K := kX10_load) (pc := 6) (q := 9) (m_inI _ _ _ l_0 l_2) dX10_load_6 l_X10_95 rfl (Nat.le_of_ble_eq_true rfl) (Nat.le_refl _) rfl rfl (fun r S1 hp => ?_)
  rcases hp with ⟨rfl, ⟨hp6, rfl⟩ | ⟨hp6, rfl⟩⟩
  · refine ev_if_eq (q := 12) (t := 16) dX10_load_9 rfl (by decide) (fun c9 => ?_) (fun c9 => ?_)
    · exact absurd c9 (by decide)
    · refine ev_iload2 (q := 13) dX10_load_12 rfl ?_
      refine ev_if_ge (q := 16) (t := 18) dX10_load_13 rfl (by decide) (fun c13 => ?_) (fun c13 => ?_)
      · refine ev_aload0 (q := 19) dX10_load_18 rfl ?_
        refine ev_getR (q := 22) dX10_load_19 g_X10_13 (hW _ _ rfl) rfl rfl rfl ?_
        refine ev_iload1 (q := 23) dX10_load_22 rfl ?_
        refine ev_iald (q := 24) dX10_load_23 (hW _ _ rfl) (th_self hp6.1) (th_lt hp6.1 (by omega)) (by decide) rfl ?_
        refine ev_if_ge (q := 27) (t := 30) dX10_load_24 rfl (by decide) (fun c24 => ?_) (fun c24 => ?_)
        · have hr3 : ix r < 3 := th_lt hp6.1 (by omega)
          have h0 : 0 ≤ i.toInt := i_le.mp c13
          have hs0 : 0 ≤ (V 38 (ix r)).toInt := i_le.mp c24
          have hs20 : (V 38 (ix r)).toInt ≤ 20 := hb (ix r) hr3
          have lp : ∀ j, j ≤ 5 → EV G l kX10_load (d + 2) 0 0 32 [some (.ref 36), some (.int r), some (.int i), some (.int (nI j))] [] (n, SH, th_seg V 40 0 j (lf V r i)) (MP n SH V (a_load (res V) r i) (n_load (res V) r i)) := by
            refine th_down 5 ?_ ?_
            · refine ev_iload3 (q := 33) dX10_load_32 rfl ?_
              refine ev_iconst (q := 34) (v := 5) dX10_load_33 rfl rfl ?_
              refine ev_icmp_ge (q := 37) (t := 85) dX10_load_34 rfl (by decide) (fun c => ?_) (fun c => ?_)
              · refine ev_aload0 (q := 86) dX10_load_85 rfl ?_
                refine ev_cV (K := kX10_load) (pc := 86) (q := 89) (m_allHits hW) dX10_load_86 l_X10_112 (hW _ _ rfl) rfl rfl (Nat.le_of_ble_eq_true rfl) (Nat.le_refl _) rfl rfl (fun r S1 hp => ?_)
                obtain ⟨rfl, rfl⟩ := hp
                exact ev_ireturn dX10_load_89 rfl rfl (MP.mk _ ((if_neg (not_not_intro ⟨hp6, h0⟩)).trans ((if_neg (Int.not_lt.mpr hs0)).trans (ah_f 5 (fun j hj => (th_seg_in (V := V) (f := lf V r i) (a := 40) (lo := 0) (n := 5) (Nat.zero_le j) (by omega)).symm)))) ((if_neg (not_not_intro ⟨hp6, h0⟩)).trans ((if_neg (Int.not_lt.mpr hs0)).trans (res_seg (fun _ => rfl)).symm)) (FM.rf.sg (by decide)))
              · exact absurd (by decide) c
            · intro j hj ih
              rw [← th_seg_s0] at ih
              refine ev_iload3 (q := 33) dX10_load_32 rfl ?_
              refine ev_iconst (q := 34) (v := 5) dX10_load_33 rfl rfl ?_
              refine ev_icmp_ge (q := 37) (t := 85) dX10_load_34 rfl (by decide) (fun c => ?_) (fun c => ?_)
              · exact absurd c (nI_ge hj (by decide))
              · refine ev_aload0 (q := 38) dX10_load_37 rfl ?_
                refine ev_getR (q := 41) dX10_load_38 g_X10_19 (hW _ _ rfl) rfl rfl rfl ?_
                refine ev_iload3 (q := 42) dX10_load_41 rfl ?_
                refine ev_iload2 (q := 43) dX10_load_42 rfl ?_
                refine ev_i2l (q := 44) dX10_load_43 rfl ?_
                refine ev_iload3 (q := 45) dX10_load_44 rfl ?_
                refine ev_i2l (q := 46) dX10_load_45 rfl ?_
                refine ev_ladd (q := 47) dX10_load_46 rfl ?_
                refine ev_aload0 (q := 48) dX10_load_47 rfl ?_
                refine ev_getR (q := 51) dX10_load_48 g_X10_13 (hW _ _ rfl) rfl rfl rfl ?_
                refine ev_iload1 (q := 52) dX10_load_51 rfl ?_
                refine ev_iald (q := 53) dX10_load_52 (hW _ _ rfl) (th_self hp6.1) hr3 (by decide) rfl ?_
                refine ev_i2l (q := 54) dX10_load_53 rfl ?_
                refine ev_lcmp (q := 55) dX10_load_54 rfl ?_
                have e64 := th_i64 (i := i) (k := j) h0 (by omega)
                refine ev_if_ge (q := 58) (t := 77) dX10_load_55 rfl (by decide) (fun c55 => ?_) (fun c55 => ?_)
                · have c55 := mt th_cmp_lt.mpr (fun h => absurd (i_lt.mp h) (Int.not_lt.mpr (i_le.mp c55)))
                  rw [e64, th_64] at c55
                  refine ev_iconst (q := 78) (v := 0) dX10_load_77 rfl rfl ?_
                  refine ev_iast (q := 79) dX10_load_78 (hW _ _ rfl) rfl hj (by decide) rfl ?_
                  refine ev_iinc3 (q := 82) dX10_load_79 rfl (by decide) rfl (nI_succ j).symm ?_
                  refine ev_goto (q := 32) dX10_load_82 (by decide) ?_
                  have e : lf V r i j = 0 := if_neg c55
                  rw [e] at ih
                  exact ih
                · have c55 := th_cmp_lt.mp (i_lt.mpr (i_nle c55))
                  rw [e64, th_64] at c55
                  have c55 : i.toInt + j < (V 38 (ix r)).toInt := c55
                  have hi20 := th_ixI h0
                  have e3 : 20 * r + i + nI j = nI (20 * ix r + ix i + j) := by
                    rw [th_20 (th_self hp6.1) (th_self h0), nI_add]
                  refine ev_aload0 (q := 59) dX10_load_58 rfl ?_
                  refine ev_getR (q := 62) dX10_load_59 g_X10_16 (hW _ _ rfl) rfl rfl rfl ?_
                  refine ev_bipush (q := 64) (v := 20) dX10_load_62 rfl rfl ?_
                  refine ev_iload1 (q := 65) dX10_load_64 rfl ?_
                  refine ev_imul (q := 66) dX10_load_65 rfl ?_
                  refine ev_iload2 (q := 67) dX10_load_66 rfl ?_
                  refine ev_iadd (q := 68) dX10_load_67 rfl ?_
                  refine ev_iload3 (q := 69) dX10_load_68 rfl ?_
                  refine ev_iadd (q := 70) dX10_load_69 rfl ?_
                  refine ev_iald (q := 71) dX10_load_70 (hW _ _ rfl) e3 (by omega) (by decide) rfl ?_
                  refine ev_ldc (q := 73) dX10_load_71 q_X10_111 rfl ?_
                  refine ev_iand (q := 74) dX10_load_73 rfl ?_
                  refine ev_goto (q := 78) dX10_load_74 (by decide) ?_
                  refine ev_iast (q := 79) dX10_load_78 (hW _ _ rfl) rfl hj (by decide) rfl ?_
                  refine ev_iinc3 (q := 82) dX10_load_79 rfl (by decide) rfl (nI_succ j).symm ?_
                  refine ev_goto (q := 32) dX10_load_82 (by decide) ?_
                  have e : lf V r i j = V 39 (20 * ix r + ix i + j) &&& 65535 := if_pos c55
                  rw [e] at ih
                  exact ih
          refine ev_iconst (q := 31) (v := 0) dX10_load_30 rfl rfl ?_
          refine ev_istore3 (q := 32) dX10_load_31 rfl (by decide) rfl ?_
          have h := lp 0 (by decide)
          rw [th_seg_0] at h
          exact h
        · refine ev_bipush (q := 29) (v := (-3)) dX10_load_27 rfl rfl ?_
          exact ev_ireturn dX10_load_29 rfl rfl (MP.mk _ ((if_neg (not_not_intro ⟨hp6, i_le.mp c13⟩)).trans (if_pos (i_nle c24))) ((if_neg (not_not_intro ⟨hp6, i_le.mp c13⟩)).trans (if_pos (i_nle c24))) FM.rf)
      · refine ev_iconst (q := 17) (v := (-1)) dX10_load_16 rfl rfl ?_
        exact ev_ireturn dX10_load_17 rfl rfl (MP.mk _ (if_pos (fun h => absurd (i_le.mpr h.2) c13)) (if_pos (fun h => absurd (i_le.mpr h.2) c13)) FM.rf)
  · refine ev_if_eq (q := 12) (t := 16) dX10_load_9 rfl (by decide) (fun c9 => ?_) (fun c9 => ?_)
    · refine ev_iconst (q := 17) (v := (-1)) dX10_load_16 rfl rfl ?_
      exact ev_ireturn dX10_load_17 rfl rfl (MP.mk _ (if_pos (fun h => hp6 h.1)) (if_pos (fun h => hp6 h.1)) FM.rf)
    · exact absurd c9 (by decide)
theorem m_sheet (hW : wM SH) (r k nn : Int32) : MT G l yX10_sheet kX10_sheet (d + 1) 0 0 [.ref 36, .int r, .int k, .int nn] (n, SH, V) (MP n SH V (a_sheet r k nn) (n_sheet (res V) r k nn)) := by
  refine MT.of (by decide) rfl rfl (n := 1) rfl (ls := [some (.ref 36), some (.int r), some (.int k), some (.int nn), none]) rfl ?_
  refine ev_iload1 (q := 1) dX10_sheet_0 rfl ?_
  refine ev_i2l (q := 2) dX10_sheet_1 rfl ?_
  refine ev_lconst (q := 3) (v := 0) dX10_sheet_2 rfl rfl ?_
  refine ev_ldc2 (q := 6) dX10_sheet_3 q_X10_99 rfl ?_
  refine ev_cS (K := kX10_sheet) (pc := 6) (q := 9) (m_inI _ _ _ l_0 l_2) dX10_sheet_6 l_X10_95 rfl (Nat.le_of_ble_eq_true rfl) (Nat.le_refl _) rfl rfl (fun r S1 hp => ?_)
  rcases hp with ⟨rfl, ⟨hp6, rfl⟩ | ⟨hp6, rfl⟩⟩
  · refine ev_if_eq (q := 12) (t := 24) dX10_sheet_9 rfl (by decide) (fun c9 => ?_) (fun c9 => ?_)
    · exact absurd c9 (by decide)
    · refine ev_iload2 (q := 13) dX10_sheet_12 rfl ?_
      refine ev_i2l (q := 14) dX10_sheet_13 rfl ?_
      refine ev_lconst (q := 15) (v := 0) dX10_sheet_14 rfl rfl ?_
      refine ev_ldc2 (q := 18) dX10_sheet_15 q_X10_99 rfl ?_
      refine ev_cS (K := kX10_sheet) (pc := 18) (q := 21) (m_inI _ _ _ l_0 l_2) dX10_sheet_18 l_X10_95 rfl (Nat.le_of_ble_eq_true rfl) (Nat.le_refl _) rfl rfl (fun r S1 hp => ?_)
      rcases hp with ⟨rfl, ⟨hp18, rfl⟩ | ⟨hp18, rfl⟩⟩
      · refine ev_if_ne (q := 24) (t := 26) dX10_sheet_21 rfl (by decide) (fun c21 => ?_) (fun c21 => ?_)
        · refine ev_iload3 (q := 27) dX10_sheet_26 rfl ?_
          refine ev_if_ge (q := 30) (t := 33) dX10_sheet_27 rfl (by decide) (fun c27 => ?_) (fun c27 => ?_)
          · refine ev_iload3 (q := 34) dX10_sheet_33 rfl ?_
            refine ev_bipush (q := 36) (v := 20) dX10_sheet_34 rfl rfl ?_
            refine ev_icmp_le (q := 39) (t := 41) dX10_sheet_36 rfl (by decide) (fun c36 => ?_) (fun c36 => ?_)
            · have hr3 : ix r < 3 := th_lt hp6.1 (by omega)
              have h0 : 0 ≤ nn.toInt := i_le.mp c27
              have h20 : nn.toInt ≤ 20 := i_le.mp c36
              have hn := th_self h0
              have hnI := th_ixI h0
              have lp : ∀ j, j ≤ ix nn → EV G l kX10_sheet (d + 1) 0 0 58 [some (.ref 36), some (.int r), some (.int k), some (.int nn), some (.int (nI j))] [] (n, SH, th_seg (th_w (th_w V 37 (ix r) k) 38 (ix r) nn) 39 (20 * ix r) j (fun _ => 0)) (MP n SH V (a_sheet r k nn) (n_sheet (res V) r k nn)) := by
                refine th_down (ix nn) ?_ ?_
                · refine ev_iload4 (q := 60) dX10_sheet_58 rfl ?_
                  refine ev_iload3 (q := 61) dX10_sheet_60 rfl ?_
                  refine ev_icmp_ge (q := 64) (t := 83) dX10_sheet_61 rfl (by decide) (fun c => ?_) (fun c => ?_)
                  · refine ev_iconst (q := 84) (v := 1) dX10_sheet_83 rfl rfl ?_
                    exact ev_ireturn dX10_sheet_84 rfl rfl (MP.mk _ ((if_neg (not_not_intro ⟨hp6, hp18⟩)).trans ((if_neg (Int.not_lt.mpr h0)).trans (if_neg (Int.not_lt.mpr h20)))) ((if_neg (not_not_intro ⟨hp6, hp18⟩)).trans ((if_neg (Int.not_lt.mpr h0)).trans ((if_neg (Int.not_lt.mpr h20)).trans (by rw [res_seg (fun _ => rfl), res_w (by rfl), res_w (by rfl)])))) (((FM.rf.w (by decide)).w (by decide)).sg (by decide)))
                  · exact absurd (by rw [← hn]; exact Int32.le_refl _) c
                · intro j hj ih
                  rw [← th_seg_s] at ih
                  refine ev_iload4 (q := 60) dX10_sheet_58 rfl ?_
                  refine ev_iload3 (q := 61) dX10_sheet_60 rfl ?_
                  refine ev_icmp_ge (q := 64) (t := 83) dX10_sheet_61 rfl (by decide) (fun c => ?_) (fun c => ?_)
                  · exact absurd (by rw [← hn]; exact c) (nI_ge hj (by omega))
                  · refine ev_aload0 (q := 65) dX10_sheet_64 rfl ?_
                    refine ev_getR (q := 68) dX10_sheet_65 g_X10_16 (hW _ _ rfl) rfl rfl rfl ?_
                    refine ev_bipush (q := 70) (v := 20) dX10_sheet_68 rfl rfl ?_
                    refine ev_iload1 (q := 71) dX10_sheet_70 rfl ?_
                    refine ev_imul (q := 72) dX10_sheet_71 rfl ?_
                    refine ev_iload4 (q := 74) dX10_sheet_72 rfl ?_
                    refine ev_iadd (q := 75) dX10_sheet_74 rfl ?_
                    refine ev_iconst (q := 76) (v := 0) dX10_sheet_75 rfl rfl ?_
                    refine ev_iast (q := 77) dX10_sheet_76 (hW _ _ rfl) (th_20 (th_self hp6.1) rfl) (by omega) (by decide) rfl ?_
                    refine ev_iinc4 (q := 80) dX10_sheet_77 rfl (by decide) rfl (nI_succ j).symm ?_
                    refine ev_goto (q := 58) dX10_sheet_80 (by decide) ?_
                    exact ih
              refine ev_aload0 (q := 42) dX10_sheet_41 rfl ?_
              refine ev_getR (q := 45) dX10_sheet_42 g_X10_9 (hW _ _ rfl) rfl rfl rfl ?_
              refine ev_iload1 (q := 46) dX10_sheet_45 rfl ?_
              refine ev_iload2 (q := 47) dX10_sheet_46 rfl ?_
              refine ev_iast (q := 48) dX10_sheet_47 (hW _ _ rfl) (th_self hp6.1) hr3 (by decide) rfl ?_
              refine ev_aload0 (q := 49) dX10_sheet_48 rfl ?_
              refine ev_getR (q := 52) dX10_sheet_49 g_X10_13 (hW _ _ rfl) rfl rfl rfl ?_
              refine ev_iload1 (q := 53) dX10_sheet_52 rfl ?_
              refine ev_iload3 (q := 54) dX10_sheet_53 rfl ?_
              refine ev_iast (q := 55) dX10_sheet_54 (hW _ _ rfl) (th_self hp6.1) hr3 (by decide) rfl ?_
              refine ev_iconst (q := 56) (v := 0) dX10_sheet_55 rfl rfl ?_
              refine ev_istore4 (q := 58) dX10_sheet_56 rfl (by decide) rfl ?_
              have h := lp 0 (Nat.zero_le _)
              rw [th_seg_0] at h
              exact h
            · refine ev_iconst (q := 40) (v := (-1)) dX10_sheet_39 rfl rfl ?_
              exact ev_ireturn dX10_sheet_40 rfl rfl (MP.mk _ ((if_neg (not_not_intro ⟨hp6, hp18⟩)).trans ((if_neg (Int.not_lt.mpr (i_le.mp c27))).trans (if_pos (i_nle c36)))) ((if_neg (not_not_intro ⟨hp6, hp18⟩)).trans ((if_neg (Int.not_lt.mpr (i_le.mp c27))).trans (if_pos (i_nle c36)))) FM.rf)
          · refine ev_bipush (q := 32) (v := (-4)) dX10_sheet_30 rfl rfl ?_
            exact ev_ireturn dX10_sheet_32 rfl rfl (MP.mk _ ((if_neg (not_not_intro ⟨hp6, hp18⟩)).trans (if_pos (i_nle c27))) ((if_neg (not_not_intro ⟨hp6, hp18⟩)).trans (if_pos (i_nle c27))) FM.rf)
        · exact absurd c21 (by decide)
      · refine ev_if_ne (q := 24) (t := 26) dX10_sheet_21 rfl (by decide) (fun c21 => ?_) (fun c21 => ?_)
        · exact absurd c21 (by decide)
        · refine ev_iconst (q := 25) (v := (-1)) dX10_sheet_24 rfl rfl ?_
          exact ev_ireturn dX10_sheet_25 rfl rfl (MP.mk _ (if_pos (fun h => hp18 h.2)) (if_pos (fun h => hp18 h.2)) FM.rf)
  · refine ev_if_eq (q := 12) (t := 24) dX10_sheet_9 rfl (by decide) (fun c9 => ?_) (fun c9 => ?_)
    · refine ev_iconst (q := 25) (v := (-1)) dX10_sheet_24 rfl rfl ?_
      exact ev_ireturn dX10_sheet_25 rfl rfl (MP.mk _ (if_pos (fun h => hp6 h.1)) (if_pos (fun h => hp6 h.1)) FM.rf)
    · exact absurd c9 (by decide)
theorem m_cell (hW : wM SH) (hb : bSz (res V)) (r i v : Int32) : MT G l yX10_cell kX10_cell (d + 1) 0 0 [.ref 36, .int r, .int i, .int v] (n, SH, V) (MP n SH V (a_cell (res V) r i) (n_cell (res V) r i v)) := by
  refine MT.of (by decide) rfl rfl (n := 0) rfl (ls := [some (.ref 36), some (.int r), some (.int i), some (.int v)]) rfl ?_
  refine ev_iload1 (q := 1) dX10_cell_0 rfl ?_
  refine ev_i2l (q := 2) dX10_cell_1 rfl ?_
  refine ev_lconst (q := 3) (v := 0) dX10_cell_2 rfl rfl ?_
  refine ev_ldc2 (q := 6) dX10_cell_3 q_X10_99 rfl ?_
  refine ev_cS (K := kX10_cell) (pc := 6) (q := 9) (m_inI _ _ _ l_0 l_2) dX10_cell_6 l_X10_95 rfl (Nat.le_of_ble_eq_true rfl) (Nat.le_refl _) rfl rfl (fun r S1 hp => ?_)
  rcases hp with ⟨rfl, ⟨hp6, rfl⟩ | ⟨hp6, rfl⟩⟩
  · refine ev_if_ne (q := 12) (t := 14) dX10_cell_9 rfl (by decide) (fun c9 => ?_) (fun c9 => ?_)
    · have hr3 : ix r < 3 := th_lt hp6.1 (by omega)
      refine ev_aload0 (q := 15) dX10_cell_14 rfl ?_
      refine ev_getR (q := 18) dX10_cell_15 g_X10_13 (hW _ _ rfl) rfl rfl rfl ?_
      refine ev_iload1 (q := 19) dX10_cell_18 rfl ?_
      refine ev_iald (q := 20) dX10_cell_19 (hW _ _ rfl) (th_self hp6.1) hr3 (by decide) rfl ?_
      refine ev_if_ge (q := 23) (t := 26) dX10_cell_20 rfl (by decide) (fun c20 => ?_) (fun c20 => ?_)
      · refine ev_iload2 (q := 27) dX10_cell_26 rfl ?_
        refine ev_i2l (q := 28) dX10_cell_27 rfl ?_
        refine ev_lconst (q := 29) (v := 0) dX10_cell_28 rfl rfl ?_
        refine ev_aload0 (q := 30) dX10_cell_29 rfl ?_
        refine ev_getR (q := 33) dX10_cell_30 g_X10_13 (hW _ _ rfl) rfl rfl rfl ?_
        refine ev_iload1 (q := 34) dX10_cell_33 rfl ?_
        refine ev_iald (q := 35) dX10_cell_34 (hW _ _ rfl) (th_self hp6.1) hr3 (by decide) rfl ?_
        refine ev_iconst (q := 36) (v := 1) dX10_cell_35 rfl rfl ?_
        refine ev_isub (q := 37) dX10_cell_36 rfl ?_
        refine ev_i2l (q := 38) dX10_cell_37 rfl ?_
        refine ev_cS (K := kX10_cell) (pc := 38) (q := 41) (m_inI _ _ _ l_0 th_64) dX10_cell_38 l_X10_95 rfl (Nat.le_of_ble_eq_true rfl) (Nat.le_refl _) rfl rfl (fun r S1 hp => ?_)
        rcases hp with ⟨rfl, ⟨hp38, rfl⟩ | ⟨hp38, rfl⟩⟩
        · refine ev_if_ne (q := 44) (t := 46) dX10_cell_41 rfl (by decide) (fun c41 => ?_) (fun c41 => ?_)
          · have hi2 : ix i < 20 := cell_lt (x := V 38 (ix r)) (hb (ix r) hr3) (i_le.mp c20) hp38
            refine ev_aload0 (q := 47) dX10_cell_46 rfl ?_
            refine ev_getR (q := 50) dX10_cell_47 g_X10_16 (hW _ _ rfl) rfl rfl rfl ?_
            refine ev_bipush (q := 52) (v := 20) dX10_cell_50 rfl rfl ?_
            refine ev_iload1 (q := 53) dX10_cell_52 rfl ?_
            refine ev_imul (q := 54) dX10_cell_53 rfl ?_
            refine ev_iload2 (q := 55) dX10_cell_54 rfl ?_
            refine ev_iadd (q := 56) dX10_cell_55 rfl ?_
            refine ev_aload0 (q := 57) dX10_cell_56 rfl ?_
            refine ev_getR (q := 60) dX10_cell_57 g_X10_9 (hW _ _ rfl) rfl rfl rfl ?_
            refine ev_iload1 (q := 61) dX10_cell_60 rfl ?_
            refine ev_iald (q := 62) dX10_cell_61 (hW _ _ rfl) (th_self hp6.1) hr3 (by decide) rfl ?_
            refine ev_if_ne (q := 65) (t := 70) dX10_cell_62 rfl (by decide) (fun c62 => ?_) (fun c62 => ?_)
            · refine ev_aload0 (q := 71) dX10_cell_70 rfl ?_
              refine ev_getR (q := 74) dX10_cell_71 g_X10_9 (hW _ _ rfl) rfl rfl rfl ?_
              refine ev_iload1 (q := 75) dX10_cell_74 rfl ?_
              refine ev_iald (q := 76) dX10_cell_75 (hW _ _ rfl) (th_self hp6.1) hr3 (by decide) rfl ?_
              refine ev_iconst (q := 77) (v := 1) dX10_cell_76 rfl rfl ?_
              refine ev_icmp_ne (q := 80) (t := 85) dX10_cell_77 rfl (by decide) (fun c77 => ?_) (fun c77 => ?_)
              · refine ev_iload3 (q := 86) dX10_cell_85 rfl ?_
                refine ev_iast (q := 87) dX10_cell_86 (hW _ _ rfl) (th_20 (th_self hp6.1) (th_self hp38.1)) (by omega) (by decide) rfl ?_
                refine ev_iconst (q := 88) (v := 1) dX10_cell_87 rfl rfl ?_
                exact ev_ireturn dX10_cell_88 rfl rfl (MP.mk _ ((if_neg (not_not_intro hp6)).trans ((if_neg (Int.not_lt.mpr (i_le.mp c20))).trans (if_neg (not_not_intro hp38)))) ((if_neg (not_not_intro hp6)).trans ((if_neg (Int.not_lt.mpr (i_le.mp c20))).trans ((if_neg (not_not_intro hp38)).trans (by rw [show cst (res V 37 (ix r)) v = v from (if_neg c62).trans (if_neg c77)]; exact (res_w rfl).symm)))) (FM.rf.w (by decide)))
              · refine ev_iload3 (q := 81) dX10_cell_80 rfl ?_
                refine ev_i2s (q := 82) dX10_cell_81 rfl ?_
                refine ev_goto (q := 86) dX10_cell_82 (by decide) ?_
                refine ev_iast (q := 87) dX10_cell_86 (hW _ _ rfl) (th_20 (th_self hp6.1) (th_self hp38.1)) (by omega) (by decide) rfl ?_
                refine ev_iconst (q := 88) (v := 1) dX10_cell_87 rfl rfl ?_
                exact ev_ireturn dX10_cell_88 rfl rfl (MP.mk _ ((if_neg (not_not_intro hp6)).trans ((if_neg (Int.not_lt.mpr (i_le.mp c20))).trans (if_neg (not_not_intro hp38)))) ((if_neg (not_not_intro hp6)).trans ((if_neg (Int.not_lt.mpr (i_le.mp c20))).trans ((if_neg (not_not_intro hp38)).trans (by rw [show cst (res V 37 (ix r)) v = v.toInt16.toInt32 from (if_neg c62).trans (if_pos c77)]; exact (res_w rfl).symm)))) (FM.rf.w (by decide)))
            · refine ev_iload3 (q := 66) dX10_cell_65 rfl ?_
              refine ev_i2b (q := 67) dX10_cell_66 rfl ?_
              refine ev_goto (q := 86) dX10_cell_67 (by decide) ?_
              refine ev_iast (q := 87) dX10_cell_86 (hW _ _ rfl) (th_20 (th_self hp6.1) (th_self hp38.1)) (by omega) (by decide) rfl ?_
              refine ev_iconst (q := 88) (v := 1) dX10_cell_87 rfl rfl ?_
              exact ev_ireturn dX10_cell_88 rfl rfl (MP.mk _ ((if_neg (not_not_intro hp6)).trans ((if_neg (Int.not_lt.mpr (i_le.mp c20))).trans (if_neg (not_not_intro hp38)))) ((if_neg (not_not_intro hp6)).trans ((if_neg (Int.not_lt.mpr (i_le.mp c20))).trans ((if_neg (not_not_intro hp38)).trans (by rw [show cst (res V 37 (ix r)) v = v.toInt8.toInt32 from (if_pos c62)]; exact (res_w rfl).symm)))) (FM.rf.w (by decide)))
          · exact absurd c41 (by decide)
        · refine ev_if_ne (q := 44) (t := 46) dX10_cell_41 rfl (by decide) (fun c41 => ?_) (fun c41 => ?_)
          · exact absurd c41 (by decide)
          · refine ev_iconst (q := 45) (v := (-1)) dX10_cell_44 rfl rfl ?_
            exact ev_ireturn dX10_cell_45 rfl rfl (MP.mk _ ((if_neg (not_not_intro hp6)).trans ((if_neg (Int.not_lt.mpr (i_le.mp c20))).trans (if_pos hp38))) ((if_neg (not_not_intro hp6)).trans ((if_neg (Int.not_lt.mpr (i_le.mp c20))).trans (if_pos hp38))) FM.rf)
      · refine ev_bipush (q := 25) (v := (-3)) dX10_cell_23 rfl rfl ?_
        exact ev_ireturn dX10_cell_25 rfl rfl (MP.mk _ ((if_neg (not_not_intro hp6)).trans (if_pos (i_nle c20))) ((if_neg (not_not_intro hp6)).trans (if_pos (i_nle c20))) FM.rf)
    · exact absurd c9 (by decide)
  · refine ev_if_ne (q := 12) (t := 14) dX10_cell_9 rfl (by decide) (fun c9 => ?_) (fun c9 => ?_)
    · exact absurd c9 (by decide)
    · refine ev_iconst (q := 13) (v := (-1)) dX10_cell_12 rfl rfl ?_
      exact ev_ireturn dX10_cell_13 rfl rfl (MP.mk _ (if_pos hp6) (if_pos hp6) FM.rf)
end M5
