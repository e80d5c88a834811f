/-! the reference's calls, on -/
def a_span (s : th_Vl) (r x v : Int32) : Int32 := if isRd s r ∧ inR x 0 4 ∧ isSp v then s 43 (5 * ix r + ix x) else -1
def n_span (s : th_Vl) (r x v : Int32) : th_Vl := if isRd s r ∧ inR x 0 4 ∧ isSp v then th_w s 43 (5 * ix r + ix x) v else s
def a_thin (s : th_Vl) (k v : Int32) : Int32 := if isLn s k ∧ inR v 1 100 then s 48 (ix k) else -1
def n_thin (s : th_Vl) (k v : Int32) : th_Vl := if isLn s k ∧ inR v 1 100 then th_w s 48 (ix k) v else s
def a_rest (s : th_Vl) (v : Int32) : Int32 := if inR v 0 20 then s 36 24 else -1
def n_rest (s : th_Vl) (v : Int32) : th_Vl := if inR v 0 20 then th_w s 36 24 v else s
def rws (s : th_Vl) : Int32 := if 30 ≤ s 36 22 then 30 else s 36 22
def a_many (s : th_Vl) (w : Int32) : Int32 := if w = 0 then s 36 6 else if w = 1 then s 36 11 else if w = 2 then s 36 20 else if w = 3 then s 36 21 else if w = 4 then s 36 22 else if w = 5 then s 36 23 else if w = 6 then rws s else if w = 7 then s 36 25 else -1
def a_of (s : th_Vl) (k w : Int32) : Int32 := if ¬ isLn s k then -1 else if w = 0 then s 48 (ix k) else if w = 1 then (if s 49 (ix k) = 0 then 0 else 1) else if w = 2 then s 50 (ix k) else if w = 3 then s 51 (ix k) else if w = 4 then s 52 (ix k) else if w = 5 then s 53 (ix k) else if w = 6 then s 47 (ix k) else -1
/-- the numbers of roads, lines, letters are as they may be -/
abbrev bRo (s : th_Vl) : Prop := inR (s 36 6) 0 12
abbrev bLi (s : th_Vl) : Prop := inR (s 36 11) 0 8
theorem isRd_lt {s : th_Vl} {r : Int32} (hb : bRo s) (h : isRd s r) : 0 ≤ r.toInt ∧ r.toInt < (s 36 6).toInt ∧ ix r < 12 := by
  have h1 := th_m1 hb.1 (Int.le_trans hb.2 (by decide))
  have h2 := h.2
  rw [h1] at h2
  have h3 := hb.2
  exact ⟨h.1, by omega, th_lt h.1 (by omega)⟩
theorem isLn_lt {s : th_Vl} {r : Int32} (hb : bLi s) (h : isLn s r) : 0 ≤ r.toInt ∧ r.toInt < (s 36 11).toInt ∧ ix r < 8 := by
  have h1 := th_m1 hb.1 (Int.le_trans hb.2 (by decide))
  have h2 := h.2
  rw [h1] at h2
  have h3 := hb.2
  exact ⟨h.1, by omega, th_lt h.1 (by omega)⟩
section M3
variable {G : th_G} {l : Launch} {d : Nat} {n : Nat} {SH : Nat → Option th_K0} {V : th_Vl}
theorem m_mask (hW : wM SH) (x w b : Int32) : MT G l yX10_mask kX10_mask (d + 2) 0 0 [.ref 36, .int x, .int w, .int b] (n, SH, V) (MP n SH V (a_mask (res V) x w b) (n_mask (res V) x w b)) := by
  refine MT.of (by decide) rfl rfl (n := 1) rfl (ls := [some (.ref 36), some (.int x), some (.int w), some (.int b), none]) rfl ?_
  refine ev_iload1 (q := 1) dX10_mask_0 rfl ?_
  refine ev_cS (K := kX10_mask) (pc := 1) (q := 4) (m_isLayer _) dX10_mask_1 l_X10_105 rfl (Nat.le_of_ble_eq_true rfl) (Nat.le_refl _) rfl rfl (fun r S1 hp => ?_)
  rcases hp with ⟨rfl, ⟨hp1, rfl⟩ | ⟨hp1, rfl⟩⟩
  · refine ev_if_eq (q := 7) (t := 29) dX10_mask_4 rfl (by decide) (fun c4 => ?_) (fun c4 => ?_)
    · exact absurd c4 (by decide)
    · refine ev_iload2 (q := 8) dX10_mask_7 rfl ?_
      refine ev_i2l (q := 9) dX10_mask_8 rfl ?_
      refine ev_lconst (q := 10) (v := 0) dX10_mask_9 rfl rfl ?_
      refine ev_lconst (q := 11) (v := 1) dX10_mask_10 rfl rfl ?_
      refine ev_cS (K := kX10_mask) (pc := 11) (q := 14) (m_inI _ _ _ l_0 l_1) dX10_mask_11 l_X10_95 rfl (Nat.le_of_ble_eq_true rfl) (Nat.le_refl _) rfl rfl (fun r S1 hp => ?_)
      rcases hp with ⟨rfl, ⟨hp11, rfl⟩ | ⟨hp11, rfl⟩⟩
      · refine ev_if_eq (q := 17) (t := 29) dX10_mask_14 rfl (by decide) (fun c14 => ?_) (fun c14 => ?_)
        · exact absurd c14 (by decide)
        · refine ev_iload3 (q := 18) dX10_mask_17 rfl ?_
          refine ev_i2l (q := 19) dX10_mask_18 rfl ?_
          refine ev_lconst (q := 20) (v := 0) dX10_mask_19 rfl rfl ?_
          refine ev_ldc2 (q := 23) dX10_mask_20 q_X10_109 rfl ?_
          refine ev_cS (K := kX10_mask) (pc := 23) (q := 26) (m_inI _ _ _ l_0 l_65535) dX10_mask_23 l_X10_95 rfl (Nat.le_of_ble_eq_true rfl) (Nat.le_refl _) rfl rfl (fun r S1 hp => ?_)
          rcases hp with ⟨rfl, ⟨hp23, rfl⟩ | ⟨hp23, rfl⟩⟩
          · refine ev_if_ne (q := 29) (t := 31) dX10_mask_26 rfl (by decide) (fun c26 => ?_) (fun c26 => ?_)
            · refine ev_iload2 (q := 32) dX10_mask_31 rfl ?_
              refine ev_if_ne (q := 35) (t := 44) dX10_mask_32 rfl (by decide) (fun c32 => ?_) (fun c32 => ?_)
              · refine ev_aload0 (q := 45) dX10_mask_44 rfl ?_
                refine ev_getR (q := 48) dX10_mask_45 g_X10_25 (hW _ _ rfl) rfl rfl rfl ?_
                refine ev_iload1 (q := 49) dX10_mask_48 rfl ?_
                refine ev_iald (q := 50) dX10_mask_49 (hW _ _ rfl) (th_self hp1.1) (th_lt hp1.1 (by omega)) (by decide) rfl ?_
                refine ev_istore4 (q := 52) dX10_mask_50 rfl (by decide) rfl ?_
                skip
                refine ev_iload2 (q := 53) dX10_mask_52 rfl ?_
                refine ev_if_ne (q := 56) (t := 66) dX10_mask_53 rfl (by decide) (fun c53 => ?_) (fun c53 => ?_)
                · refine ev_aload0 (q := 67) dX10_mask_66 rfl ?_
                  refine ev_getR (q := 70) dX10_mask_67 g_X10_25 (hW _ _ rfl) rfl rfl rfl ?_
                  refine ev_iload1 (q := 71) dX10_mask_70 rfl ?_
                  refine ev_iload3 (q := 72) dX10_mask_71 rfl ?_
                  refine ev_iast (q := 73) dX10_mask_72 (hW _ _ rfl) (th_self hp1.1) (th_lt hp1.1 (by omega)) (by decide) rfl ?_
                  refine ev_iload4 (q := 75) dX10_mask_73 rfl ?_
                  exact ev_ireturn dX10_mask_75 rfl rfl (MP.mk _ ((if_pos ⟨hp1, hp11, hp23⟩).trans (if_neg c32)) ((if_pos ⟨hp1, hp11, hp23⟩).trans ((if_neg c32).trans (res_w rfl).symm)) (FM.rf.w (by decide)))
                · refine ev_aload0 (q := 57) dX10_mask_56 rfl ?_
                  refine ev_getR (q := 60) dX10_mask_57 g_X10_22 (hW _ _ rfl) rfl rfl rfl ?_
                  refine ev_iload1 (q := 61) dX10_mask_60 rfl ?_
                  refine ev_iload3 (q := 62) dX10_mask_61 rfl ?_
                  refine ev_iast (q := 63) dX10_mask_62 (hW _ _ rfl) (th_self hp1.1) (th_lt hp1.1 (by omega)) (by decide) rfl ?_
                  refine ev_goto (q := 73) dX10_mask_63 (by decide) ?_
                  refine ev_iload4 (q := 75) dX10_mask_73 rfl ?_
                  exact ev_ireturn dX10_mask_75 rfl rfl (absurd c53 c32)
              · refine ev_aload0 (q := 36) dX10_mask_35 rfl ?_
                refine ev_getR (q := 39) dX10_mask_36 g_X10_22 (hW _ _ rfl) rfl rfl rfl ?_
                refine ev_iload1 (q := 40) dX10_mask_39 rfl ?_
                refine ev_iald (q := 41) dX10_mask_40 (hW _ _ rfl) (th_self hp1.1) (th_lt hp1.1 (by omega)) (by decide) rfl ?_
                refine ev_goto (q := 50) dX10_mask_41 (by decide) ?_
                refine ev_istore4 (q := 52) dX10_mask_50 rfl (by decide) rfl ?_
                skip
                refine ev_iload2 (q := 53) dX10_mask_52 rfl ?_
                refine ev_if_ne (q := 56) (t := 66) dX10_mask_53 rfl (by decide) (fun c53 => ?_) (fun c53 => ?_)
                · refine ev_aload0 (q := 67) dX10_mask_66 rfl ?_
                  refine ev_getR (q := 70) dX10_mask_67 g_X10_25 (hW _ _ rfl) rfl rfl rfl ?_
                  refine ev_iload1 (q := 71) dX10_mask_70 rfl ?_
                  refine ev_iload3 (q := 72) dX10_mask_71 rfl ?_
                  refine ev_iast (q := 73) dX10_mask_72 (hW _ _ rfl) (th_self hp1.1) (th_lt hp1.1 (by omega)) (by decide) rfl ?_
                  refine ev_iload4 (q := 75) dX10_mask_73 rfl ?_
                  exact ev_ireturn dX10_mask_75 rfl rfl (absurd c32 c53)
                · refine ev_aload0 (q := 57) dX10_mask_56 rfl ?_
                  refine ev_getR (q := 60) dX10_mask_57 g_X10_22 (hW _ _ rfl) rfl rfl rfl ?_
                  refine ev_iload1 (q := 61) dX10_mask_60 rfl ?_
                  refine ev_iload3 (q := 62) dX10_mask_61 rfl ?_
                  refine ev_iast (q := 63) dX10_mask_62 (hW _ _ rfl) (th_self hp1.1) (th_lt hp1.1 (by omega)) (by decide) rfl ?_
                  refine ev_goto (q := 73) dX10_mask_63 (by decide) ?_
                  refine ev_iload4 (q := 75) dX10_mask_73 rfl ?_
                  exact ev_ireturn dX10_mask_75 rfl rfl (MP.mk _ ((if_pos ⟨hp1, hp11, hp23⟩).trans (if_pos c32)) ((if_pos ⟨hp1, hp11, hp23⟩).trans ((if_pos c32).trans (res_w rfl).symm)) (FM.rf.w (by decide)))
            · exact absurd c26 (by decide)
          · refine ev_if_ne (q := 29) (t := 31) dX10_mask_26 rfl (by decide) (fun c26 => ?_) (fun c26 => ?_)
            · exact absurd c26 (by decide)
            · refine ev_iconst (q := 30) (v := (-1)) dX10_mask_29 rfl rfl ?_
              exact ev_ireturn dX10_mask_30 rfl rfl (MP.mk _ (if_neg (fun h => hp23 h.2.2)) (if_neg (fun h => hp23 h.2.2)) FM.rf)
      · refine ev_if_eq (q := 17) (t := 29) dX10_mask_14 rfl (by decide) (fun c14 => ?_) (fun c14 => ?_)
        · refine ev_iconst (q := 30) (v := (-1)) dX10_mask_29 rfl rfl ?_
          exact ev_ireturn dX10_mask_30 rfl rfl (MP.mk _ (if_neg (fun h => hp11 h.2.1)) (if_neg (fun h => hp11 h.2.1)) FM.rf)
        · exact absurd c14 (by decide)
  · refine ev_if_eq (q := 7) (t := 29) dX10_mask_4 rfl (by decide) (fun c4 => ?_) (fun c4 => ?_)
    · refine ev_iconst (q := 30) (v := (-1)) dX10_mask_29 rfl rfl ?_
      exact ev_ireturn dX10_mask_30 rfl rfl (MP.mk _ (if_neg (fun h => hp1 h.1)) (if_neg (fun h => hp1 h.1)) FM.rf)
    · exact absurd c4 (by decide)
theorem m_layer (hW : wM SH) (x w : Int32) : MT G l yX10_layer kX10_layer (d + 2) 0 0 [.ref 36, .int x, .int w] (n, SH, V) (MP n SH V (a_layer (res V) x w) (res V)) := by
  refine MT.of (by decide) rfl rfl (n := 0) rfl (ls := [some (.ref 36), some (.int x), some (.int w)]) rfl ?_
  refine ev_iload1 (q := 1) dX10_layer_0 rfl ?_
  refine ev_cS (K := kX10_layer) (pc := 1) (q := 4) (m_isLayer _) dX10_layer_1 l_X10_105 rfl (Nat.le_of_ble_eq_true rfl) (Nat.le_refl _) rfl rfl (fun r S1 hp => ?_)
  rcases hp with ⟨rfl, ⟨hp1, rfl⟩ | ⟨hp1, rfl⟩⟩
  · refine ev_if_ne (q := 7) (t := 9) dX10_layer_4 rfl (by decide) (fun c4 => ?_) (fun c4 => ?_)
    · refine ev_iload2 (q := 10) dX10_layer_9 rfl ?_
      by_cases hsw10 : (w).toInt < 0 ∨ 3 < (w).toInt
      · refine ev_tableOut (q := 67) dX10_layer_10 hsw10 (by decide) ?_
        refine ev_iconst (q := 68) (v := (-1)) dX10_layer_67 rfl rfl ?_
        exact ev_ireturn dX10_layer_68 rfl rfl (MP.mk _ ((if_neg (not_not_intro hp1)).trans ((if_neg (th_out3 hsw10).1).trans ((if_neg (th_out3 hsw10).2.1).trans ((if_neg (th_out3 hsw10).2.2.1).trans (if_neg (th_out3 hsw10).2.2.2))))) rfl FM.rf)
      · have hsv10 : w = 0 ∨ w = 1 ∨ w = 2 ∨ w = 3 := th_sw3 hsw10
        rcases hsv10 with rfl | rfl | rfl | rfl
        · refine ev_tableIn (q := 40) dX10_layer_10 (by decide) (by decide) rfl (by decide) ?_
          refine ev_aload0 (q := 41) dX10_layer_40 rfl ?_
          refine ev_getR (q := 44) dX10_layer_41 g_X10_19 (hW _ _ rfl) rfl rfl rfl ?_
          refine ev_iload1 (q := 45) dX10_layer_44 rfl ?_
          refine ev_iald (q := 46) dX10_layer_45 (hW _ _ rfl) (th_self hp1.1) (th_lt hp1.1 (by omega)) (by decide) rfl ?_
          exact ev_ireturn dX10_layer_46 rfl rfl (MP.mk _ ((if_neg (not_not_intro hp1)).trans rfl) rfl FM.rf)
        · refine ev_tableIn (q := 47) dX10_layer_10 (by decide) (by decide) rfl (by decide) ?_
          refine ev_aload0 (q := 48) dX10_layer_47 rfl ?_
          refine ev_iload1 (q := 49) dX10_layer_48 rfl ?_
          refine ev_cV (K := kX10_layer) (pc := 49) (q := 52) (m_seen hW (th_lt hp1.1 (by omega)) (th_self hp1.1)) dX10_layer_49 l_X10_116 (hW _ _ rfl) rfl rfl (Nat.le_of_ble_eq_true rfl) (Nat.le_refl _) rfl rfl (fun r S1 hp => ?_)
          obtain ⟨rfl, rfl⟩ := hp
          exact ev_ireturn dX10_layer_52 rfl rfl (MP.mk _ ((if_neg (not_not_intro hp1)).trans rfl) rfl FM.rf)
        · refine ev_tableIn (q := 53) dX10_layer_10 (by decide) (by decide) rfl (by decide) ?_
          refine ev_aload0 (q := 54) dX10_layer_53 rfl ?_
          refine ev_getR (q := 57) dX10_layer_54 g_X10_22 (hW _ _ rfl) rfl rfl rfl ?_
          refine ev_iload1 (q := 58) dX10_layer_57 rfl ?_
          refine ev_iald (q := 59) dX10_layer_58 (hW _ _ rfl) (th_self hp1.1) (th_lt hp1.1 (by omega)) (by decide) rfl ?_
          exact ev_ireturn dX10_layer_59 rfl rfl (MP.mk _ ((if_neg (not_not_intro hp1)).trans rfl) rfl FM.rf)
        · refine ev_tableIn (q := 60) dX10_layer_10 (by decide) (by decide) rfl (by decide) ?_
          refine ev_aload0 (q := 61) dX10_layer_60 rfl ?_
          refine ev_getR (q := 64) dX10_layer_61 g_X10_25 (hW _ _ rfl) rfl rfl rfl ?_
          refine ev_iload1 (q := 65) dX10_layer_64 rfl ?_
          refine ev_iald (q := 66) dX10_layer_65 (hW _ _ rfl) (th_self hp1.1) (th_lt hp1.1 (by omega)) (by decide) rfl ?_
          exact ev_ireturn dX10_layer_66 rfl rfl (MP.mk _ ((if_neg (not_not_intro hp1)).trans rfl) rfl FM.rf)
    · exact absurd c4 (by decide)
  · refine ev_if_ne (q := 7) (t := 9) dX10_layer_4 rfl (by decide) (fun c4 => ?_) (fun c4 => ?_)
    · exact absurd c4 (by decide)
    · refine ev_iconst (q := 8) (v := (-1)) dX10_layer_7 rfl rfl ?_
      exact ev_ireturn dX10_layer_8 rfl rfl (MP.mk _ (if_pos hp1) rfl FM.rf)
theorem m_span (hW : wM SH) (hb : bRo (res V)) (r x v : Int32) : MT G l yX10_span kX10_span (d + 2) 0 0 [.ref 36, .int r, .int x, .int v] (n, SH, V) (MP n SH V (a_span (res V) r x v) (n_span (res V) r x v)) := by
  refine MT.of (by decide) rfl rfl (n := 1) rfl (ls := [some (.ref 36), some (.int r), some (.int x), some (.int v), none]) rfl ?_
  refine ev_aload0 (q := 1) dX10_span_0 rfl ?_
  refine ev_iload1 (q := 2) dX10_span_1 rfl ?_
  refine ev_cV (K := kX10_span) (pc := 2) (q := 5) (m_isRoad hW _) dX10_span_2 l_X10_128 (hW _ _ rfl) rfl rfl (Nat.le_of_ble_eq_true rfl) (Nat.le_refl _) rfl rfl (fun r S1 hp => ?_)
  rcases hp with ⟨rfl, ⟨hp2, rfl⟩ | ⟨hp2, rfl⟩⟩
  · refine ev_if_eq (q := 8) (t := 22) dX10_span_5 rfl (by decide) (fun c5 => ?_) (fun c5 => ?_)
    · exact absurd c5 (by decide)
    · refine ev_iload2 (q := 9) dX10_span_8 rfl ?_
      refine ev_cS (K := kX10_span) (pc := 9) (q := 12) (m_isLayer _) dX10_span_9 l_X10_105 rfl (Nat.le_of_ble_eq_true rfl) (Nat.le_refl _) rfl rfl (fun r S1 hp => ?_)
      rcases hp with ⟨rfl, ⟨hp9, rfl⟩ | ⟨hp9, rfl⟩⟩
      · refine ev_if_eq (q := 15) (t := 22) dX10_span_12 rfl (by decide) (fun c12 => ?_) (fun c12 => ?_)
        · exact absurd c12 (by decide)
        · refine ev_iload3 (q := 16) dX10_span_15 rfl ?_
          refine ev_cS (K := kX10_span) (pc := 16) (q := 19) (m_isSpan _) dX10_span_16 l_X10_119 rfl (Nat.le_of_ble_eq_true rfl) (Nat.le_refl _) rfl rfl (fun r S1 hp => ?_)
          rcases hp with ⟨rfl, ⟨hp16, rfl⟩ | ⟨hp16, rfl⟩⟩
          · refine ev_if_ne (q := 22) (t := 24) dX10_span_19 rfl (by decide) (fun c19 => ?_) (fun c19 => ?_)
            · have hr := isRd_lt hb hp2
              have hx := th_lt (n := 5) hp9.1 (by omega)
              refine ev_aload0 (q := 25) dX10_span_24 rfl ?_
              refine ev_getR (q := 28) dX10_span_25 g_X10_28 (hW _ _ rfl) rfl rfl rfl ?_
              refine ev_iconst (q := 29) (v := 5) dX10_span_28 rfl rfl ?_
              refine ev_iload1 (q := 30) dX10_span_29 rfl ?_
              refine ev_imul (q := 31) dX10_span_30 rfl ?_
              refine ev_iload2 (q := 32) dX10_span_31 rfl ?_
              refine ev_iadd (q := 33) dX10_span_32 rfl ?_
              refine ev_iald (q := 34) dX10_span_33 (hW _ _ rfl) (th_5 (th_self hr.1) (th_self hp9.1)) (by omega) (by decide) rfl ?_
              refine ev_istore4 (q := 36) dX10_span_34 rfl (by decide) rfl ?_
              refine ev_aload0 (q := 37) dX10_span_36 rfl ?_
              refine ev_getR (q := 40) dX10_span_37 g_X10_28 (hW _ _ rfl) rfl rfl rfl ?_
              refine ev_iconst (q := 41) (v := 5) dX10_span_40 rfl rfl ?_
              refine ev_iload1 (q := 42) dX10_span_41 rfl ?_
              refine ev_imul (q := 43) dX10_span_42 rfl ?_
              refine ev_iload2 (q := 44) dX10_span_43 rfl ?_
              refine ev_iadd (q := 45) dX10_span_44 rfl ?_
              refine ev_iload3 (q := 46) dX10_span_45 rfl ?_
              refine ev_iast (q := 47) dX10_span_46 (hW _ _ rfl) (th_5 (th_self hr.1) (th_self hp9.1)) (by omega) (by decide) rfl ?_
              refine ev_iload4 (q := 49) dX10_span_47 rfl ?_
              exact ev_ireturn dX10_span_49 rfl rfl (MP.mk _ (if_pos ⟨hp2, hp9, hp16⟩) ((if_pos ⟨hp2, hp9, hp16⟩).trans (res_w rfl).symm) (FM.rf.w (by decide)))
            · exact absurd c19 (by decide)
          · refine ev_if_ne (q := 22) (t := 24) dX10_span_19 rfl (by decide) (fun c19 => ?_) (fun c19 => ?_)
            · exact absurd c19 (by decide)
            · refine ev_iconst (q := 23) (v := (-1)) dX10_span_22 rfl rfl ?_
              exact ev_ireturn dX10_span_23 rfl rfl (MP.mk _ (if_neg (fun h => hp16 h.2.2)) (if_neg (fun h => hp16 h.2.2)) FM.rf)
      · refine ev_if_eq (q := 15) (t := 22) dX10_span_12 rfl (by decide) (fun c12 => ?_) (fun c12 => ?_)
        · refine ev_iconst (q := 23) (v := (-1)) dX10_span_22 rfl rfl ?_
          exact ev_ireturn dX10_span_23 rfl rfl (MP.mk _ (if_neg (fun h => hp9 h.2.1)) (if_neg (fun h => hp9 h.2.1)) FM.rf)
        · exact absurd c12 (by decide)
  · refine ev_if_eq (q := 8) (t := 22) dX10_span_5 rfl (by decide) (fun c5 => ?_) (fun c5 => ?_)
    · refine ev_iconst (q := 23) (v := (-1)) dX10_span_22 rfl rfl ?_
      exact ev_ireturn dX10_span_23 rfl rfl (MP.mk _ (if_neg (fun h => hp2 h.1)) (if_neg (fun h => hp2 h.1)) FM.rf)
    · exact absurd c5 (by decide)
theorem m_thin (hW : wM SH) (hb : bLi (res V)) (k v : Int32) : MT G l yX10_thin kX10_thin (d + 2) 0 0 [.ref 36, .int k, .int v] (n, SH, V) (MP n SH V (a_thin (res V) k v) (n_thin (res V) k v)) := by
  refine MT.of (by decide) rfl rfl (n := 1) rfl (ls := [some (.ref 36), some (.int k), some (.int v), none]) rfl ?_
  refine ev_aload0 (q := 1) dX10_thin_0 rfl ?_
  refine ev_iload1 (q := 2) dX10_thin_1 rfl ?_
  refine ev_cV (K := kX10_thin) (pc := 2) (q := 5) (m_isLine hW _) dX10_thin_2 l_X10_192 (hW _ _ rfl) rfl rfl (Nat.le_of_ble_eq_true rfl) (Nat.le_refl _) rfl rfl (fun r S1 hp => ?_)
  rcases hp with ⟨rfl, ⟨hp2, rfl⟩ | ⟨hp2, rfl⟩⟩
  · refine ev_if_eq (q := 8) (t := 20) dX10_thin_5 rfl (by decide) (fun c5 => ?_) (fun c5 => ?_)
    · exact absurd c5 (by decide)
    · refine ev_iload2 (q := 9) dX10_thin_8 rfl ?_
      refine ev_i2l (q := 10) dX10_thin_9 rfl ?_
      refine ev_lconst (q := 11) (v := 1) dX10_thin_10 rfl rfl ?_
      refine ev_ldc2 (q := 14) dX10_thin_11 q_X10_184 rfl ?_
      refine ev_cS (K := kX10_thin) (pc := 14) (q := 17) (m_inI _ _ _ l_1 l_100) dX10_thin_14 l_X10_95 rfl (Nat.le_of_ble_eq_true rfl) (Nat.le_refl _) rfl rfl (fun r S1 hp => ?_)
      rcases hp with ⟨rfl, ⟨hp14, rfl⟩ | ⟨hp14, rfl⟩⟩
      · refine ev_if_ne (q := 20) (t := 22) dX10_thin_17 rfl (by decide) (fun c17 => ?_) (fun c17 => ?_)
        · have hr := isLn_lt hb hp2
          refine ev_aload0 (q := 23) dX10_thin_22 rfl ?_
          refine ev_getR (q := 26) dX10_thin_23 g_X10_44 (hW _ _ rfl) rfl rfl rfl ?_
          refine ev_iload1 (q := 27) dX10_thin_26 rfl ?_
          refine ev_iald (q := 28) dX10_thin_27 (hW _ _ rfl) (th_self hr.1) hr.2.2 (by decide) rfl ?_
          refine ev_istore3 (q := 29) dX10_thin_28 rfl (by decide) rfl ?_
          refine ev_aload0 (q := 30) dX10_thin_29 rfl ?_
          refine ev_getR (q := 33) dX10_thin_30 g_X10_44 (hW _ _ rfl) rfl rfl rfl ?_
          refine ev_iload1 (q := 34) dX10_thin_33 rfl ?_
          refine ev_iload2 (q := 35) dX10_thin_34 rfl ?_
          refine ev_iast (q := 36) dX10_thin_35 (hW _ _ rfl) (th_self hr.1) hr.2.2 (by decide) rfl ?_
          refine ev_iload3 (q := 37) dX10_thin_36 rfl ?_
          exact ev_ireturn dX10_thin_37 rfl rfl (MP.mk _ (if_pos ⟨hp2, hp14⟩) ((if_pos ⟨hp2, hp14⟩).trans (res_w rfl).symm) (FM.rf.w (by decide)))
        · exact absurd c17 (by decide)
      · refine ev_if_ne (q := 20) (t := 22) dX10_thin_17 rfl (by decide) (fun c17 => ?_) (fun c17 => ?_)
        · exact absurd c17 (by decide)
        · refine ev_iconst (q := 21) (v := (-1)) dX10_thin_20 rfl rfl ?_
          exact ev_ireturn dX10_thin_21 rfl rfl (MP.mk _ (if_neg (fun h => hp14 h.2)) (if_neg (fun h => hp14 h.2)) FM.rf)
  · refine ev_if_eq (q := 8) (t := 20) dX10_thin_5 rfl (by decide) (fun c5 => ?_) (fun c5 => ?_)
    · refine ev_iconst (q := 21) (v := (-1)) dX10_thin_20 rfl rfl ?_
      exact ev_ireturn dX10_thin_21 rfl rfl (MP.mk _ (if_neg (fun h => hp2 h.1)) (if_neg (fun h => hp2 h.1)) FM.rf)
    · exact absurd c5 (by decide)
theorem m_rest (hW : wM SH) (v : Int32) : MT G l yX10_rest kX10_rest (d + 1) 0 0 [.ref 36, .int v] (n, SH, V) (MP n SH V (a_rest (res V) v) (n_rest (res V) v)) := by
  refine MT.of (by decide) rfl rfl (n := 1) rfl (ls := [some (.ref 36), some (.int v), none]) rfl ?_
  refine ev_iload1 (q := 1) dX10_rest_0 rfl ?_
  refine ev_i2l (q := 2) dX10_rest_1 rfl ?_
  refine ev_lconst (q := 3) (v := 0) dX10_rest_2 rfl rfl ?_
  refine ev_ldc2 (q := 6) dX10_rest_3 q_X10_244 rfl ?_
  refine ev_cS (K := kX10_rest) (pc := 6) (q := 9) (m_inI _ _ _ l_0 l_20) dX10_rest_6 l_X10_95 rfl (Nat.le_of_ble_eq_true rfl) (Nat.le_refl _) rfl rfl (fun r S1 hp => ?_)
  rcases hp with ⟨rfl, ⟨hp6, rfl⟩ | ⟨hp6, rfl⟩⟩
  · refine ev_if_ne (q := 12) (t := 14) dX10_rest_9 rfl (by decide) (fun c9 => ?_) (fun c9 => ?_)
    · refine ev_aload0 (q := 15) dX10_rest_14 rfl ?_
      refine ev_getI (q := 18) dX10_rest_15 g_X10_229 (hW _ _ rfl) rfl rfl ?_
      refine ev_istore2 (q := 19) dX10_rest_18 rfl (by decide) rfl ?_
      refine ev_aload0 (q := 20) dX10_rest_19 rfl ?_
      refine ev_iload1 (q := 21) dX10_rest_20 rfl ?_
      refine ev_putI (q := 24) dX10_rest_21 (p_X10_229 _) (hW _ _ rfl) rfl rfl rfl rfl ?_
      refine ev_iload2 (q := 25) dX10_rest_24 rfl ?_
      exact ev_ireturn dX10_rest_25 rfl rfl (MP.mk _ (if_pos hp6) ((if_pos hp6).trans (res_w rfl).symm) (FM.rf.w (by decide)))
    · exact absurd c9 (by decide)
  · refine ev_if_ne (q := 12) (t := 14) dX10_rest_9 rfl (by decide) (fun c9 => ?_) (fun c9 => ?_)
    · exact absurd c9 (by decide)
    · refine ev_iconst (q := 13) (v := (-1)) dX10_rest_12 rfl rfl ?_
      exact ev_ireturn dX10_rest_13 rfl rfl (MP.mk _ (if_neg hp6) (if_neg hp6) FM.rf)
theorem m_raws (hW : wM SH) : MT G l yX10_raws kX10_raws d 0 0 [.ref 36] (n, SH, V) (th_is (rws V) (n, SH, V)) := by
  refine MT.of (by decide) rfl rfl (n := 0) rfl (ls := [some (.ref 36)]) rfl ?_
  refine ev_aload0 (q := 1) dX10_raws_0 rfl ?_
  refine ev_getI (q := 4) dX10_raws_1 g_X10_223 (hW _ _ rfl) rfl rfl ?_
  refine ev_bipush (q := 6) (v := 30) dX10_raws_4 rfl rfl ?_
  refine ev_icmp_ge (q := 9) (t := 16) dX10_raws_6 rfl (by decide) (fun c6 => ?_) (fun c6 => ?_)
  · refine ev_bipush (q := 18) (v := 30) dX10_raws_16 rfl rfl ?_
    exact ev_ireturn dX10_raws_18 rfl rfl ⟨congrArg (fun z => some (Value.int z)) (if_pos c6).symm, rfl⟩
  · refine ev_aload0 (q := 10) dX10_raws_9 rfl ?_
    refine ev_getI (q := 13) dX10_raws_10 g_X10_223 (hW _ _ rfl) rfl rfl ?_
    refine ev_goto (q := 18) dX10_raws_13 (by decide) ?_
    exact ev_ireturn dX10_raws_18 rfl rfl ⟨congrArg (fun z => some (Value.int z)) (if_neg c6).symm, rfl⟩
theorem m_many (hW : wM SH) (w : Int32) : MT G l yX10_many kX10_many (d + 1) 0 0 [.ref 36, .int w] (n, SH, V) (MP n SH V (a_many (res V) w) (res V)) := by
  refine MT.of (by decide) rfl rfl (n := 0) rfl (ls := [some (.ref 36), some (.int w)]) rfl ?_
  refine ev_iload1 (q := 1) dX10_many_0 rfl ?_
  by_cases hsw1 : (w).toInt < 0 ∨ 7 < (w).toInt
  · refine ev_tableOut (q := 88) dX10_many_1 hsw1 (by decide) ?_
    refine ev_iconst (q := 89) (v := (-1)) dX10_many_88 rfl rfl ?_
    exact ev_ireturn dX10_many_89 rfl rfl (MP.mk _ (by obtain ⟨h0, h1, h2, h3, h4, h5, h6, h7⟩ := th_out7 hsw1; rw [a_many, if_neg h0, if_neg h1, if_neg h2, if_neg h3, if_neg h4, if_neg h5, if_neg h6, if_neg h7]) rfl FM.rf)
  · have hsv1 : w = 0 ∨ w = 1 ∨ w = 2 ∨ w = 3 ∨ w = 4 ∨ w = 5 ∨ w = 6 ∨ w = 7 := th_sw7 hsw1
    rcases hsv1 with rfl | rfl | rfl | rfl | rfl | rfl | rfl | rfl
    · refine ev_tableIn (q := 48) dX10_many_1 (by decide) (by decide) rfl (by decide) ?_
      refine ev_aload0 (q := 49) dX10_many_48 rfl ?_
      refine ev_getI (q := 52) dX10_many_49 g_X10_124 (hW _ _ rfl) rfl rfl ?_
      exact ev_ireturn dX10_many_52 rfl rfl (MP.mk _ rfl rfl FM.rf)
    · refine ev_tableIn (q := 53) dX10_many_1 (by decide) (by decide) rfl (by decide) ?_
      refine ev_aload0 (q := 54) dX10_many_53 rfl ?_
      refine ev_getI (q := 57) dX10_many_54 g_X10_186 (hW _ _ rfl) rfl rfl ?_
      exact ev_ireturn dX10_many_57 rfl rfl (MP.mk _ rfl rfl FM.rf)
    · refine ev_tableIn (q := 58) dX10_many_1 (by decide) (by decide) rfl (by decide) ?_
      refine ev_aload0 (q := 59) dX10_many_58 rfl ?_
      refine ev_getI (q := 62) dX10_many_59 g_X10_226 (hW _ _ rfl) rfl rfl ?_
      exact ev_ireturn dX10_many_62 rfl rfl (MP.mk _ rfl rfl FM.rf)
    · refine ev_tableIn (q := 63) dX10_many_1 (by decide) (by decide) rfl (by decide) ?_
      refine ev_aload0 (q := 64) dX10_many_63 rfl ?_
      refine ev_getI (q := 67) dX10_many_64 g_X10_235 (hW _ _ rfl) rfl rfl ?_
      exact ev_ireturn dX10_many_67 rfl rfl (MP.mk _ rfl rfl FM.rf)
    · refine ev_tableIn (q := 68) dX10_many_1 (by decide) (by decide) rfl (by decide) ?_
      refine ev_aload0 (q := 69) dX10_many_68 rfl ?_
      refine ev_getI (q := 72) dX10_many_69 g_X10_223 (hW _ _ rfl) rfl rfl ?_
      exact ev_ireturn dX10_many_72 rfl rfl (MP.mk _ rfl rfl FM.rf)
    · refine ev_tableIn (q := 73) dX10_many_1 (by decide) (by decide) rfl (by decide) ?_
      refine ev_aload0 (q := 74) dX10_many_73 rfl ?_
      refine ev_getI (q := 77) dX10_many_74 g_X10_220 (hW _ _ rfl) rfl rfl ?_
      exact ev_ireturn dX10_many_77 rfl rfl (MP.mk _ rfl rfl FM.rf)
    · refine ev_tableIn (q := 78) dX10_many_1 (by decide) (by decide) rfl (by decide) ?_
      refine ev_aload0 (q := 79) dX10_many_78 rfl ?_
      refine ev_cV (K := kX10_many) (pc := 79) (q := 82) (m_raws hW) dX10_many_79 l_X10_246 (hW _ _ rfl) rfl rfl (Nat.le_of_ble_eq_true rfl) (Nat.le_refl _) rfl rfl (fun r S1 hp => ?_)
      obtain ⟨rfl, rfl⟩ := hp
      exact ev_ireturn dX10_many_82 rfl rfl (MP.mk _ rfl rfl FM.rf)
    · refine ev_tableIn (q := 83) dX10_many_1 (by decide) (by decide) rfl (by decide) ?_
      refine ev_aload0 (q := 84) dX10_many_83 rfl ?_
      refine ev_getI (q := 87) dX10_many_84 g_X10_232 (hW _ _ rfl) rfl rfl ?_
      exact ev_ireturn dX10_many_87 rfl rfl (MP.mk _ rfl rfl FM.rf)
theorem m_of (hW : wM SH) (hb : bLi (res V)) (k w : Int32) : MT G l yX10_of kX10_of (d + 2) 0 0 [.ref 36, .int k, .int w] (n, SH, V) (MP n SH V (a_of (res V) k w) (res V)) := by
  refine MT.of (by decide) rfl rfl (n := 0) rfl (ls := [some (.ref 36), some (.int k), some (.int w)]) rfl ?_
  refine ev_aload0 (q := 1) dX10_of_0 rfl ?_
  refine ev_iload1 (q := 2) dX10_of_1 rfl ?_
  refine ev_cV (K := kX10_of) (pc := 2) (q := 5) (m_isLine hW _) dX10_of_2 l_X10_192 (hW _ _ rfl) rfl rfl (Nat.le_of_ble_eq_true rfl) (Nat.le_refl _) rfl rfl (fun r S1 hp => ?_)
  rcases hp with ⟨rfl, ⟨hp2, rfl⟩ | ⟨hp2, rfl⟩⟩
  · refine ev_if_ne (q := 8) (t := 10) dX10_of_5 rfl (by decide) (fun c5 => ?_) (fun c5 => ?_)
    · have hr := isLn_lt hb hp2
      refine ev_iload2 (q := 11) dX10_of_10 rfl ?_
      by_cases hsw11 : (w).toInt < 0 ∨ 6 < (w).toInt
      · refine ev_tableOut (q := 109) dX10_of_11 hsw11 (by decide) ?_
        refine ev_iconst (q := 110) (v := (-1)) dX10_of_109 rfl rfl ?_
        exact ev_ireturn dX10_of_110 rfl rfl (MP.mk _ ((if_neg (not_not_intro hp2)).trans (by obtain ⟨h0, h1, h2, h3, h4, h5, h6⟩ := th_out6 hsw11; rw [if_neg h0, if_neg h1, if_neg h2, if_neg h3, if_neg h4, if_neg h5, if_neg h6])) rfl FM.rf)
      · have hsv11 : w = 0 ∨ w = 1 ∨ w = 2 ∨ w = 3 ∨ w = 4 ∨ w = 5 ∨ w = 6 := th_sw6 hsw11
        rcases hsv11 with rfl | rfl | rfl | rfl | rfl | rfl | rfl
        · refine ev_tableIn (q := 52) dX10_of_11 (by decide) (by decide) rfl (by decide) ?_
          refine ev_aload0 (q := 53) dX10_of_52 rfl ?_
          refine ev_getR (q := 56) dX10_of_53 g_X10_44 (hW _ _ rfl) rfl rfl rfl ?_
          refine ev_iload1 (q := 57) dX10_of_56 rfl ?_
          refine ev_iald (q := 58) dX10_of_57 (hW _ _ rfl) (th_self hr.1) hr.2.2 (by decide) rfl ?_
          exact ev_ireturn dX10_of_58 rfl rfl (MP.mk _ ((if_neg (not_not_intro hp2)).trans rfl) rfl FM.rf)
        · refine ev_tableIn (q := 59) dX10_of_11 (by decide) (by decide) rfl (by decide) ?_
          refine ev_aload0 (q := 60) dX10_of_59 rfl ?_
          refine ev_getR (q := 63) dX10_of_60 g_X10_47 (hW _ _ rfl) rfl rfl rfl ?_
          refine ev_iload1 (q := 64) dX10_of_63 rfl ?_
          refine ev_zald (q := 65) dX10_of_64 (hW _ _ rfl) (th_self hr.1) hr.2.2 (by decide) rfl ?_
          refine ev_if_eq (q := 68) (t := 72) dX10_of_65 rfl (by decide) (fun c65 => ?_) (fun c65 => ?_)
          · refine ev_iconst (q := 73) (v := 0) dX10_of_72 rfl rfl ?_
            exact ev_ireturn dX10_of_73 rfl rfl (MP.mk _ ((if_neg (not_not_intro hp2)).trans (if_pos c65)) rfl FM.rf)
          · refine ev_iconst (q := 69) (v := 1) dX10_of_68 rfl rfl ?_
            refine ev_goto (q := 73) dX10_of_69 (by decide) ?_
            exact ev_ireturn dX10_of_73 rfl rfl (MP.mk _ ((if_neg (not_not_intro hp2)).trans (if_neg c65)) rfl FM.rf)
        · refine ev_tableIn (q := 74) dX10_of_11 (by decide) (by decide) rfl (by decide) ?_
          refine ev_aload0 (q := 75) dX10_of_74 rfl ?_
          refine ev_getR (q := 78) dX10_of_75 g_X10_51 (hW _ _ rfl) rfl rfl rfl ?_
          refine ev_iload1 (q := 79) dX10_of_78 rfl ?_
          refine ev_iald (q := 80) dX10_of_79 (hW _ _ rfl) (th_self hr.1) hr.2.2 (by decide) rfl ?_
          exact ev_ireturn dX10_of_80 rfl rfl (MP.mk _ ((if_neg (not_not_intro hp2)).trans rfl) rfl FM.rf)
        · refine ev_tableIn (q := 81) dX10_of_11 (by decide) (by decide) rfl (by decide) ?_
          refine ev_aload0 (q := 82) dX10_of_81 rfl ?_
          refine ev_getR (q := 85) dX10_of_82 g_X10_54 (hW _ _ rfl) rfl rfl rfl ?_
          refine ev_iload1 (q := 86) dX10_of_85 rfl ?_
          refine ev_iald (q := 87) dX10_of_86 (hW _ _ rfl) (th_self hr.1) hr.2.2 (by decide) rfl ?_
          exact ev_ireturn dX10_of_87 rfl rfl (MP.mk _ ((if_neg (not_not_intro hp2)).trans rfl) rfl FM.rf)
        · refine ev_tableIn (q := 88) dX10_of_11 (by decide) (by decide) rfl (by decide) ?_
          refine ev_aload0 (q := 89) dX10_of_88 rfl ?_
          refine ev_getR (q := 92) dX10_of_89 g_X10_57 (hW _ _ rfl) rfl rfl rfl ?_
          refine ev_iload1 (q := 93) dX10_of_92 rfl ?_
          refine ev_iald (q := 94) dX10_of_93 (hW _ _ rfl) (th_self hr.1) hr.2.2 (by decide) rfl ?_
          exact ev_ireturn dX10_of_94 rfl rfl (MP.mk _ ((if_neg (not_not_intro hp2)).trans rfl) rfl FM.rf)
        · refine ev_tableIn (q := 95) dX10_of_11 (by decide) (by decide) rfl (by decide) ?_
          refine ev_aload0 (q := 96) dX10_of_95 rfl ?_
          refine ev_getR (q := 99) dX10_of_96 g_X10_60 (hW _ _ rfl) rfl rfl rfl ?_
          refine ev_iload1 (q := 100) dX10_of_99 rfl ?_
          refine ev_iald (q := 101) dX10_of_100 (hW _ _ rfl) (th_self hr.1) hr.2.2 (by decide) rfl ?_
          exact ev_ireturn dX10_of_101 rfl rfl (MP.mk _ ((if_neg (not_not_intro hp2)).trans rfl) rfl FM.rf)
        · refine ev_tableIn (q := 102) dX10_of_11 (by decide) (by decide) rfl (by decide) ?_
          refine ev_aload0 (q := 103) dX10_of_102 rfl ?_
          refine ev_getR (q := 106) dX10_of_103 g_X10_41 (hW _ _ rfl) rfl rfl rfl ?_
          refine ev_iload1 (q := 107) dX10_of_106 rfl ?_
          refine ev_iald (q := 108) dX10_of_107 (hW _ _ rfl) (th_self hr.1) hr.2.2 (by decide) rfl ?_
          exact ev_ireturn dX10_of_108 rfl rfl (MP.mk _ ((if_neg (not_not_intro hp2)).trans rfl) rfl FM.rf)
    · exact absurd c5 (by decide)
  · refine ev_if_ne (q := 8) (t := 10) dX10_of_5 rfl (by decide) (fun c5 => ?_) (fun c5 => ?_)
    · exact absurd c5 (by decide)
    · refine ev_iconst (q := 9) (v := (-1)) dX10_of_8 rfl rfl ?_
      exact ev_ireturn dX10_of_9 rfl rfl (MP.mk _ (if_pos hp2) rfl FM.rf)
end M3
