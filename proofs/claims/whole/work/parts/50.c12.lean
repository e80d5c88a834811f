/-! the class: the fit along a road, track, miss, weight -/
theorem h5_below : ∀ a b c e k : Bool, imax ((ms (h5 a b c e k) (fun _ => 0) 5).1 * m6a (ms (h5 a b c e k) (fun _ => 0) 5)) 1 = lowOf (h5 a b c e k) (fun _ => 0) ∧ (ms (h5 a b c e k) (fun _ => 0) 5).1 = mb (h5 a b c e k) 16 := by decide +kernel
theorem hm_below (f g : Nat → Int32) : imax ((ms (hm f g 5) (fun _ => 0) 5).1 * m6a (ms (hm f g 5) (fun _ => 0) 5)) 1 = lowOf (hm f g 5) (fun _ => 0) ∧ (ms (hm f g 5) (fun _ => 0) 5).1 = mb (hm f g 5) 16 := h5_below (exB (f 0) (g 0) 16) (exB (f 1) (g 1) 16) (exB (f 2) (g 2) 16) (exB (f 3) (g 3) 16) (exB (f 4) (g 4) 16)
theorem exB_f {v v' sp : Int32} (h : v = v') : exB v sp 16 = exB v' sp 16 := by rw [h]
theorem Frw_f {f f' g : Nat → Int32} {k : Nat} (h : f k = f' k) : Frw f g k = Frw f' g k := by
  unfold Frw
  rw [h]
def clL (V : th_Vl) : List Int32 := [V 21 0, V 21 1, V 21 2, V 21 3, V 21 4]
theorem clL_at {V : th_Vl} {k : Nat} (hk : k < 5) : V 21 k = th_nth (clL V) k 0 := by
  have : k = 0 ∨ k = 1 ∨ k = 2 ∨ k = 3 ∨ k = 4 := by omega
  rcases this with rfl | rfl | rfl | rfl | rfl <;> rfl
def frL (V V' : th_Vl) : Prop := ∀ b, b ≠ 18 → b ≠ 19 → b ≠ 20 → b ≠ 21 → V' b = V b
theorem frL.S {V V' : th_Vl} (h : frL V V') : frS V V' := fun a ha => h a (fun e => ha (by unfold scr; omega)) (fun e => ha (by unfold scr; omega)) (fun e => ha (by unfold scr; omega)) (fun e => ha (by unfold scr; omega))
/-- what a fit leaves -/
def PAl (N : Nat) (SH : Nat → Option th_K0) (V : th_Vl) (h : Int32) (b : th_c2) : Option Value → th_S → Prop := fun r S' => r = none ∧ ∃ V', S' = (N, SH, V') ∧ frL V V' ∧ FitK V' h ∧ CsR V' b
def PFa (N : Nat) (SH : Nat → Option th_K0) (V s : th_Vl) (i : Nat) : Option Value → th_S → Prop := fun r S' => (litB s i = false ∧ r = some (.int 0) ∧ S' = (N, SH, V)) ∨ (litB s i = true ∧ r = some (.int 1) ∧ ∃ V', S' = (N, SH, V') ∧ frL V V' ∧ FitK V' (hmR s i) ∧ CsR V' ((tb s i).1, (tb s i).2.2))
section C12
variable {G : th_G} {l : Launch} {d : Nat} {N : Nat} {SH : Nat → Option th_K0} {V s : th_Vl}
theorem c_along (hW : wC SH) {a i : Nat} (hA : rdS N SH a) (hR : rdR V s a i) (hsp : ∀ k, k < 5 → isSp (s 43 (5 * i + k))) : MT G l yX0_along kX0_along (d + 8) 0 0 [.ref 18, .ref a, .ref 17] (N, SH, V) (PAl N SH V (hm (V 17) (fun k => s 43 (5 * i + k)) 5) ((trk (Frw (V 17) (fun k => s 43 (5 * i + k))) 0 5).foldl (cstep (hm (V 17) (fun k => s 43 (5 * i + k)) 5)) (1073741824, clL V))) := by
  refine MT.of (by decide) rfl rfl (n := 2) rfl (ls := [some (.ref 18), some (.ref a), some (.ref 17), none, none]) rfl ?_
  have hA' := hA
  obtain ⟨h64, -, ⟨fa, ha, -, -⟩, -, -⟩ := hA'
  have hh : ∀ k, k < 5 → ((hm (V 17) (fun k => s 43 (5 * i + k)) 5 >>> (nI k &&& 31)) &&& 1 = 0 ↔ exB (V 17 k) (s 43 (5 * i + k)) 16 = false) := fun k hk => hm_bit (f := V 17) (g := fun k => s 43 (5 * i + k)) hk
  generalize hH : hm (V 17) (fun k => s 43 (5 * i + k)) 5 = H at hh ⊢
  have lp : ∀ k, k ≤ 5 → ∀ W : th_Vl, (∀ b, b ≠ 18 → b ≠ 19 → b ≠ 20 → W b = V b) → W 18 3 = (ms H (fun _ => 0) k).1 → W 18 4 = (ms H (fun _ => 0) k).2.1 → (∀ q, q < k → W 19 q = sIn (s 43 (5 * i + q) - s 43 (5 * i + q) / 100 * 100) (s 43 (5 * i + q) / 100) (V 17 q) ∧ W 20 q = -1) → EV G l kX0_along (d + 8) 0 0 15 [some (.ref 18), some (.ref a), some (.ref 17), some (.int (ms H (fun _ => 0) k).2.2.2.1), some (.int (nI k))] [] (N, SH, W) (PAl N SH V H ((trk (Frw (V 17) (fun k => s 43 (5 * i + k))) 0 5).foldl (cstep H) (1073741824, clL V))) := by
    refine th_down 5 ?_ ?_
    · intro W w1 w2 w3 w4
      refine ev_iload4 (q := 17) dX0_along_15 rfl ?_
      refine ev_iconst (q := 18) (v := 5) dX0_along_17 rfl rfl ?_
      refine ev_icmp_ge (q := 21) (t := 88) dX0_along_18 rfl (by decide) (fun c18 => ?_) (fun c18 => ?_)
      · refine ev_aload0 (q := 89) dX0_along_88 rfl ?_
        refine ev_aload0 (q := 90) dX0_along_89 rfl ?_
        refine ev_getI (q := 93) dX0_along_90 g_X0_21 (hW _ _ rfl) rfl rfl ?_
        refine ev_iload3 (q := 94) dX0_along_93 rfl ?_
        refine ev_imul (q := 95) dX0_along_94 rfl ?_
        refine ev_aload0 (q := 96) dX0_along_95 rfl ?_
        refine ev_getI (q := 99) dX0_along_96 g_X0_25 (hW _ _ rfl) rfl rfl ?_
        refine ev_aload0 (q := 100) dX0_along_99 rfl ?_
        refine ev_getI (q := 103) dX0_along_100 g_X0_25 (hW _ _ rfl) rfl rfl ?_
        refine ev_imul (q := 104) dX0_along_103 rfl ?_
        refine ev_isub (q := 105) dX0_along_104 rfl ?_
        show EV G l kX0_along _ 0 0 105 _ [.int (W 18 3 * (ms H (fun _ => 0) 5).2.2.2.1 - W 18 4 * W 18 4), .ref 18] _ _
        rw [w2, w3]
        refine ev_putI (q := 108) dX0_along_105 (p_X0_34 _) (hW _ _ rfl) rfl rfl rfl rfl ?_
        refine ev_aload0 (q := 109) dX0_along_108 rfl ?_
        refine ev_ldc (q := 111) dX0_along_109 q_X0_37 rfl ?_
        refine ev_putI (q := 114) dX0_along_111 (p_X0_38 _) (hW _ _ rfl) rfl rfl rfl rfl ?_
        refine ev_aload0 (q := 115) dX0_along_114 rfl ?_
        refine ev_iconst (q := 116) (v := 0) dX0_along_115 rfl rfl ?_
        refine ev_iconst (q := 117) (v := 0) dX0_along_116 rfl rfl ?_
        refine ev_iconst (q := 118) (v := 0) dX0_along_117 rfl rfl ?_
        refine ev_iconst (q := 119) (v := 0) dX0_along_118 rfl rfl ?_
        show EV G l kX0_along _ 0 0 119 _ [.int 0, .int 0, .int 0, .int 0, .ref 18] (N, SH, th_w (th_w W 18 5 (m6a (ms H (fun _ => 0) 5))) 18 6 1073741824) _
        subst hH
        have hmt := c_tryCells (G := G) (l := l) (N := N) hW (d := d) (f := V 17) (g := fun k => s 43 (5 * i + k)) hsp 5 0 rfl (th_w (th_w W 18 5 (m6a (ms (hm (V 17) (fun k => s 43 (5 * i + k)) 5) (fun _ => 0) 5))) 18 6 1073741824) [] (1073741824, clL V) rfl ⟨w2, w3, rfl⟩ (fun k hk => (w4 k hk).1) (fun q hq => absurd hq (Nat.not_lt_zero _)) (fun q hq _ => (w4 q hq).2) ⟨rfl, fun k hk => (congrFun (w1 21 (by decide) (by decide) (by decide)) k).trans (clL_at hk)⟩ (fun t ht => ⟨(trk_top ht).1, (trk_top ht).2.1⟩) 0 0 0 rfl rfl rfl
        refine ev_cV (K := kX0_along) (pc := 119) (q := 122) (hmt) dX0_along_119 l_X0_41 (hW _ _ rfl) rfl rfl (Nat.le_of_ble_eq_true rfl) (by omega) rfl rfl (fun r S1 hp => ?_)
        obtain ⟨rfl, Y, rfl, y1, y2, y3⟩ := hp
        refine ev_return dX0_along_122 rfl ⟨rfl, Y, rfl, fun b b1 b2 b3 b4 => ?_, y1.K ⟨w2, w3, rfl⟩, y3⟩
        funext k
        rw [y1 b k (by unfold scF; omega), th_w_ne b1, th_w_ne b1, w1 b b1 b2 b3]
      · exact absurd (by decide) c18
    · intro k hk ih W w1 w2 w3 w4
      have hs := hsp k hk
      refine ev_iload4 (q := 17) dX0_along_15 rfl ?_
      refine ev_iconst (q := 18) (v := 5) dX0_along_17 rfl rfl ?_
      refine ev_icmp_ge (q := 21) (t := 88) dX0_along_18 rfl (by decide) (fun c18 => ?_) (fun c18 => ?_)
      · exact absurd c18 (nI_ge hk (by decide))
      · refine ev_aload0 (q := 22) dX0_along_21 rfl ?_
        refine ev_getR (q := 25) dX0_along_22 g_X0_9 (hW _ _ rfl) rfl rfl rfl ?_
        refine ev_iload4 (q := 27) dX0_along_25 rfl ?_
        refine ev_aload1 (q := 28) dX0_along_27 rfl ?_
        refine ev_iload4 (q := 30) dX0_along_28 rfl ?_
        refine ev_aload2 (q := 31) dX0_along_30 rfl ?_
        refine ev_cV (K := kX0_along) (pc := 31) (q := 34) (c_seenIn (d := d) hA (hW _ _ rfl) hk) dX0_along_31 l_X0_28 ha rfl rfl (Nat.le_of_ble_eq_true rfl) (by omega) rfl rfl (fun r S1 hp => ?_)
        obtain ⟨rfl, rfl⟩ := hp
        rw [w1 (a + 2) (by omega) (by omega) (by omega), w1 (a + 1) (by omega) (by omega) (by omega), w1 17 (by decide) (by decide) (by decide), (hR.2 k hk).1, (hR.2 k hk).2]
        have hex := sIn_ex (v := V 17 k) hs
        have hb := hh k hk
        generalize hx : sIn (s 43 (5 * i + k) - s 43 (5 * i + k) / 100 * 100) (s 43 (5 * i + k) / 100) (V 17 k) = x at hex ⊢
        refine ev_iast (q := 35) dX0_along_34 (hW _ _ rfl) rfl hk (by decide) rfl ?_
        refine ev_aload0 (q := 36) dX0_along_35 rfl ?_
        refine ev_getR (q := 39) dX0_along_36 g_X0_15 (hW _ _ rfl) rfl rfl rfl ?_
        refine ev_iload4 (q := 41) dX0_along_39 rfl ?_
        refine ev_iconst (q := 42) (v := (-1)) dX0_along_41 rfl rfl ?_
        refine ev_iast (q := 43) dX0_along_42 (hW _ _ rfl) rfl hk (by decide) rfl ?_
        refine ev_aload0 (q := 44) dX0_along_43 rfl ?_
        refine ev_getR (q := 47) dX0_along_44 g_X0_9 (hW _ _ rfl) rfl rfl rfl ?_
        refine ev_iload4 (q := 49) dX0_along_47 rfl ?_
        refine ev_iald (q := 50) dX0_along_49 (hW _ _ rfl) rfl hk (by decide) rfl ?_
        show EV G l kX0_along _ 0 0 50 _ [.int (th_w (th_w W 19 k x) 20 k (-1) 19 k)] (N, SH, th_w (th_w W 19 k x) 20 k (-1)) _
        rw [show th_w (th_w W 19 k x) 20 k (-1) 19 k = x by rw [th_w_ne (by decide), th_w_if, if_pos ⟨rfl, rfl⟩]]
        have u1 : ∀ b, b ≠ 18 → b ≠ 19 → b ≠ 20 → th_w (th_w W 19 k x) 20 k (-1) b = V b := fun b b1 b2 b3 => by rw [th_w_ne b3, th_w_ne b2, w1 b b1 b2 b3]
        have u2 : th_w (th_w W 19 k x) 20 k (-1) 18 3 = (ms H (fun _ => 0) k).1 := w2
        have u3 : th_w (th_w W 19 k x) 20 k (-1) 18 4 = (ms H (fun _ => 0) k).2.1 := w3
        have u4 : ∀ q, q < k + 1 → th_w (th_w W 19 k x) 20 k (-1) 19 q = sIn (s 43 (5 * i + q) - s 43 (5 * i + q) / 100 * 100) (s 43 (5 * i + q) / 100) (V 17 q) ∧ th_w (th_w W 19 k x) 20 k (-1) 20 q = -1 := fun q hq => by
          by_cases e : q = k
          · subst e
            exact ⟨by rw [th_w_ne (by decide), th_w_if, if_pos ⟨rfl, rfl⟩, hx], by rw [th_w_if, if_pos ⟨rfl, rfl⟩]⟩
          · exact ⟨by rw [th_w_ne (by decide), th_w_j e]; exact (w4 q (by omega)).1, by rw [th_w_j e, th_w_ne (by decide)]; exact (w4 q (by omega)).2⟩
        generalize th_w (th_w W 19 k x) 20 k (-1) = U at u1 u2 u3 u4 ⊢
        refine ev_if_eq (q := 53) (t := 82) dX0_along_50 rfl (by decide) (fun c50 => ?_) (fun c50 => ?_)
        · have e0 : exB (V 17 k) (s 43 (5 * i + k)) 16 = false := by
            cases hq : exB (V 17 k) (s 43 (5 * i + k)) 16
            · rfl
            · exact absurd c50 (hex.mpr hq)
          rw [ms, if_pos (hb.mpr e0)] at ih
          refine ev_iinc4 (q := 85) dX0_along_82 rfl (by decide) rfl (nI_succ k).symm ?_
          refine ev_goto (q := 15) dX0_along_85 (by decide) ?_
          exact ih U u1 u2 u3 u4
        · have e1 : ¬ ((H >>> (nI k &&& 31)) &&& 1 = 0) := fun q => by
            have := hb.mp q
            rw [hex.mp c50] at this
            cases this
          rw [ms, if_neg e1] at ih
          refine ev_aload0 (q := 54) dX0_along_53 rfl ?_
          refine ev_dup (q := 55) dX0_along_54 rfl rfl ?_
          refine ev_getI (q := 58) dX0_along_55 g_X0_21 (hW _ _ rfl) rfl rfl ?_
          refine ev_iconst (q := 59) (v := 1) dX0_along_58 rfl rfl ?_
          refine ev_iadd (q := 60) dX0_along_59 rfl ?_
          refine ev_putI (q := 63) dX0_along_60 (p_X0_21 _) (hW _ _ rfl) rfl rfl rfl rfl ?_
          refine ev_aload0 (q := 64) dX0_along_63 rfl ?_
          refine ev_dup (q := 65) dX0_along_64 rfl rfl ?_
          refine ev_getI (q := 68) dX0_along_65 g_X0_25 (hW _ _ rfl) rfl rfl ?_
          refine ev_iload4 (q := 70) dX0_along_68 rfl ?_
          refine ev_iadd (q := 71) dX0_along_70 rfl ?_
          refine ev_putI (q := 74) dX0_along_71 (p_X0_25 _) (hW _ _ rfl) rfl rfl rfl rfl ?_
          refine ev_iload3 (q := 75) dX0_along_74 rfl ?_
          refine ev_iload4 (q := 77) dX0_along_75 rfl ?_
          refine ev_iload4 (q := 79) dX0_along_77 rfl ?_
          refine ev_imul (q := 80) dX0_along_79 rfl ?_
          refine ev_iadd (q := 81) dX0_along_80 rfl ?_
          refine ev_istore3 (q := 82) dX0_along_81 rfl (by decide) rfl ?_
          refine ev_iinc4 (q := 85) dX0_along_82 rfl (by decide) rfl (nI_succ k).symm ?_
          refine ev_goto (q := 15) dX0_along_85 (by decide) ?_
          refine ih _ (fun b b1 b2 b3 => ?_) ?_ ?_ (fun q hq => ?_)
          · show th_w (th_w U 18 3 _) 18 4 _ b = V b
            rw [th_w_ne b1, th_w_ne b1]
            exact u1 b b1 b2 b3
          · show U 18 3 + 1 = _
            rw [u2]
          · show U 18 4 + nI k = _
            rw [u3]
          · exact u4 q hq
  refine ev_aload0 (q := 1) dX0_along_0 rfl ?_
  refine ev_iconst (q := 2) (v := 0) dX0_along_1 rfl rfl ?_
  refine ev_putI (q := 5) dX0_along_2 (p_X0_21 _) (hW _ _ rfl) rfl rfl rfl rfl ?_
  refine ev_aload0 (q := 6) dX0_along_5 rfl ?_
  refine ev_iconst (q := 7) (v := 0) dX0_along_6 rfl rfl ?_
  refine ev_putI (q := 10) dX0_along_7 (p_X0_25 _) (hW _ _ rfl) rfl rfl rfl rfl ?_
  refine ev_iconst (q := 11) (v := 0) dX0_along_10 rfl rfl ?_
  refine ev_istore3 (q := 12) dX0_along_11 rfl (by decide) rfl ?_
  refine ev_iconst (q := 13) (v := 0) dX0_along_12 rfl rfl ?_
  refine ev_istore4 (q := 15) dX0_along_13 rfl (by decide) rfl ?_
  exact lp 0 (by decide) _ (fun b b1 _ _ => by show th_w (th_w V 18 3 0) 18 4 0 b = V b; rw [th_w_ne b1, th_w_ne b1]) rfl rfl (fun q hq => absurd hq (Nat.not_lt_zero _))
theorem c_above (hW : wC SH) : MT G l yX0_above kX0_above d 0 0 [.ref 18] (N, SH, V) (th_is (V 18 6) (N, SH, V)) := by
  refine MT.of (by decide) rfl rfl (n := 0) rfl (ls := [some (.ref 18)]) rfl ?_
  refine ev_aload0 (q := 1) dX0_above_0 rfl ?_
  refine ev_getI (q := 4) dX0_above_1 g_X0_38 (hW _ _ rfl) rfl rfl ?_
  exact ev_ireturn dX0_above_4 rfl rfl ⟨rfl, rfl⟩
theorem c_below (hW : wC SH) {f g : Nat → Int32} (hK : FitK V (hm f g 5)) : MT G l yX0_below kX0_below (d + 1) 0 0 [.ref 18] (N, SH, V) (th_is (lowOf (hm f g 5) (fun _ => 0)) (N, SH, V)) := by
  refine MT.of (by decide) rfl rfl (n := 0) rfl (ls := [some (.ref 18)]) rfl ?_
  refine ev_aload0 (q := 1) dX0_below_0 rfl ?_
  refine ev_getI (q := 4) dX0_below_1 g_X0_21 (hW _ _ rfl) rfl rfl ?_
  refine ev_aload0 (q := 5) dX0_below_4 rfl ?_
  refine ev_getI (q := 8) dX0_below_5 g_X0_34 (hW _ _ rfl) rfl rfl ?_
  refine ev_imul (q := 9) dX0_below_8 rfl ?_
  refine ev_iconst (q := 10) (v := 1) dX0_below_9 rfl rfl ?_
  refine ev_cS (K := kX0_below) (pc := 10) (q := 13) (j_max _ _) dX0_below_10 l_X0_59 rfl (Nat.le_of_ble_eq_true rfl) (Nat.le_refl _) rfl rfl (fun r S1 hp => ?_)
  obtain ⟨rfl, rfl⟩ := hp
  exact ev_ireturn dX0_below_13 rfl rfl ⟨congrArg (fun z => some (Value.int z)) (show imax (V 18 3 * V 18 5) 1 = _ by rw [hK.1, hK.2.2]; exact (hm_below f g).1), rfl⟩
theorem c_worth (hW : wC SH) {i : Nat} (hK : FitK V (hmR s i)) (hB : CsR V ((tb s i).1, (tb s i).2.2)) : MT G l yX0_worth kX0_worth (d + 2) 0 0 [.ref 18] (N, SH, V) (th_is (wS s i) (N, SH, V)) := by
  refine MT.of (by decide) rfl rfl (n := 0) rfl (ls := [some (.ref 18)]) rfl ?_
  have hl := tb_low s i
  have hp0 := tb_pos s i
  have hne : ¬ lowOf (hmR s i) (fun _ => 0) = 0 := by rw [← hl]; exact th_nz hp0.1
  have key : imax (100 * V 18 3 - 10 * V 18 6 / lowOf (hmR s i) (fun _ => 0)) 0 = wS s i := by
    rw [hK.1, hB.1, ← hl]
    rw [show (ms (hmR s i) (fun _ => 0) 5).1 = mb (hmR s i) 16 from (hm_below _ _).2]
    unfold wS wtb imax
    have e0 : (0 : Int32).toInt = 0 := by decide
    by_cases hc : (100 * mb (hmR s i) 16 - 10 * (tb s i).1 / (tb s i).2.1) < 0
    · rw [if_pos hc, if_neg]
      have := i_lt.mp hc
      omega
    · rw [if_neg hc, if_pos]
      have := i_nlt hc
      omega
  refine ev_bipush (q := 2) (v := 100) dX0_worth_0 rfl rfl ?_
  refine ev_aload0 (q := 3) dX0_worth_2 rfl ?_
  refine ev_getI (q := 6) dX0_worth_3 g_X0_21 (hW _ _ rfl) rfl rfl ?_
  refine ev_imul (q := 7) dX0_worth_6 rfl ?_
  refine ev_bipush (q := 9) (v := 10) dX0_worth_7 rfl rfl ?_
  refine ev_aload0 (q := 10) dX0_worth_9 rfl ?_
  refine ev_getI (q := 13) dX0_worth_10 g_X0_38 (hW _ _ rfl) rfl rfl ?_
  refine ev_imul (q := 14) dX0_worth_13 rfl ?_
  refine ev_aload0 (q := 15) dX0_worth_14 rfl ?_
  refine ev_cV (K := kX0_worth) (pc := 15) (q := 18) (c_below (d := d) hW (f := sn s) (g := fun k => s 43 (5 * i + k)) hK) dX0_worth_15 l_X0_65 (hW _ _ rfl) rfl rfl (Nat.le_of_ble_eq_true rfl) (by omega) rfl rfl (fun r S1 hp => ?_)
  obtain ⟨rfl, rfl⟩ := hp
  refine ev_idiv (q := 19) dX0_worth_18 hne rfl ?_
  refine ev_isub (q := 20) dX0_worth_19 rfl ?_
  refine ev_iconst (q := 21) (v := 0) dX0_worth_20 rfl rfl ?_
  refine ev_cS (K := kX0_worth) (pc := 21) (q := 24) (j_max _ _) dX0_worth_21 l_X0_59 rfl (Nat.le_of_ble_eq_true rfl) (Nat.le_refl _) rfl rfl (fun r S1 hp => ?_)
  obtain ⟨rfl, rfl⟩ := hp
  exact ev_ireturn dX0_worth_24 rfl rfl ⟨congrArg (fun z => some (Value.int z)) key, rfl⟩
theorem c_fitAlong (hW : wC SH) {a i : Nat} (hA : rdS N SH a) (hR : rdR V s a i) (hsp : ∀ k, k < 5 → isSp (s 43 (5 * i + k))) (hsn : ∀ k, k < 5 → V 17 k = sn s k) : MT G l yX3_fitAlong kX3_fitAlong (d + 9) 0 0 [.ref 16, .ref a] (N, SH, V) (PFa N SH V s i) := by
  refine MT.of (by decide) rfl rfl (n := 0) rfl (ls := [some (.ref 16), some (.ref a)]) rfl ?_
  have hA' := hA
  obtain ⟨h64, -, ⟨fa, ha, -, -⟩, -, -⟩ := hA'
  have el : litF (V 17) s i = litB s i := congrFun (litF_litB hsn) i
  have eh : hm (V 17) (fun k => s 43 (5 * i + k)) 5 = hmR s i := hm_f 5 hsn
  have et : trk (Frw (V 17) (fun k => s 43 (5 * i + k))) 0 5 = trk (Frw (sn s) (fun k => s 43 (5 * i + k))) 0 5 := trk_F 5 0 (fun q _ hq => Frw_f (hsn q (by omega)))
  refine ev_aload1 (q := 1) dX3_fitAlong_0 rfl ?_
  refine ev_aload0 (q := 2) dX3_fitAlong_1 rfl ?_
  refine ev_getR (q := 5) dX3_fitAlong_2 g_X3_9 (hW _ _ rfl) rfl rfl rfl ?_
  refine ev_cV (K := kX3_fitAlong) (pc := 5) (q := 8) (c_isLit (d := d) (s := s) (j := i) hA (hW _ _ rfl) hR hsp) dX3_fitAlong_5 l_X3_55 ha rfl rfl (Nat.le_of_ble_eq_true rfl) (by omega) rfl rfl (fun r S1 hp => ?_)
  rcases hp with ⟨rfl, ⟨hp5, rfl⟩ | ⟨hp5, rfl⟩⟩
  · refine ev_if_ne (q := 11) (t := 13) dX3_fitAlong_8 rfl (by decide) (fun c8 => ?_) (fun c8 => ?_)
    · refine ev_aload0 (q := 14) dX3_fitAlong_13 rfl ?_
      refine ev_getR (q := 17) dX3_fitAlong_14 g_X3_18 (hW _ _ rfl) rfl rfl rfl ?_
      refine ev_aload1 (q := 18) dX3_fitAlong_17 rfl ?_
      refine ev_aload0 (q := 19) dX3_fitAlong_18 rfl ?_
      refine ev_getR (q := 22) dX3_fitAlong_19 g_X3_9 (hW _ _ rfl) rfl rfl rfl ?_
      have hal := c_along (G := G) (l := l) (d := d) hW hA hR hsp
      rw [eh, et, cfold_tb] at hal
      refine ev_cV (K := kX3_fitAlong) (pc := 22) (q := 25) (hal) dX3_fitAlong_22 l_X3_59 (hW _ _ rfl) rfl rfl (Nat.le_of_ble_eq_true rfl) (by omega) rfl rfl (fun r S1 hp => ?_)
      obtain ⟨rfl, Y, rfl, y1, y2, y3⟩ := hp
      refine ev_iconst (q := 26) (v := 1) dX3_fitAlong_25 rfl rfl ?_
      exact ev_ireturn dX3_fitAlong_26 rfl rfl (Or.inr ⟨by rw [← el]; exact hp5, rfl, Y, rfl, y1, y2, y3⟩)
    · exact absurd c8 (by decide)
  · refine ev_if_ne (q := 11) (t := 13) dX3_fitAlong_8 rfl (by decide) (fun c8 => ?_) (fun c8 => ?_)
    · exact absurd rfl c8
    · refine ev_iconst (q := 12) (v := 0) dX3_fitAlong_11 rfl rfl ?_
      exact ev_ireturn dX3_fitAlong_12 rfl rfl (Or.inl ⟨by rw [← el]; exact Bool.eq_false_iff.mpr hp5, rfl, rfl⟩)
theorem c_fitInHand {R L eR eL : Nat} {rd ld : Nat → Nat} (hS : RS N SH V R L rd ld eR eL) (hN : RN V s R L rd ld) {i : Nat} (hi : i < R) (hsp : ∀ k, k < 5 → isSp (s 43 (5 * i + k))) : MT G l yX9_fitInHand kX9_fitInHand (d + 10) 0 0 [.ref 4, .ref (rd i)] (N, SH, V) (fun r S' => (litB s i = false ∧ r = some (.int 0) ∧ ∃ V', S' = (N, SH, V') ∧ frS V V') ∨ (litB s i = true ∧ r = some (.int 1) ∧ ∃ V', S' = (N, SH, V') ∧ frS V V' ∧ FitK V' (hmR s i) ∧ CsR V' ((tb s i).1, (tb s i).2.2))) := by
  refine MT.of (by decide) rfl rfl (n := 0) rfl (ls := [some (.ref 4), some (.ref (rd i))]) rfl ?_
  have hW : wC SH := hS.1
  refine ev_aload0 (q := 1) dX9_fitInHand_0 rfl ?_
  refine ev_getR (q := 4) dX9_fitInHand_1 g_X9_36 (hW _ _ rfl) rfl rfl rfl ?_
  refine ev_aload0 (q := 5) dX9_fitInHand_4 rfl ?_
  refine ev_getR (q := 8) dX9_fitInHand_5 g_X9_16 (hW _ _ rfl) rfl rfl rfl ?_
  refine ev_aload0 (q := 9) dX9_fitInHand_8 rfl ?_
  refine ev_getR (q := 12) dX9_fitInHand_9 g_X9_20 (hW _ _ rfl) rfl rfl rfl ?_
  refine ev_aload0 (q := 13) dX9_fitInHand_12 rfl ?_
  refine ev_getR (q := 16) dX9_fitInHand_13 g_X9_23 (hW _ _ rfl) rfl rfl rfl ?_
  refine ev_cV (K := kX9_fitInHand) (pc := 16) (q := 19) (c_see (d := d) hW (hW _ _ rfl) (by decide)) dX9_fitInHand_16 l_X9_134 (hW _ _ rfl) rfl rfl (Nat.le_of_ble_eq_true rfl) (by omega) rfl rfl (fun r S1 hp => ?_)
  obtain ⟨rfl, rfl⟩ := hp
  have hf1 := seeV_fr V 12
  have hN1 := RN.fr hS hN hf1
  refine ev_aload0 (q := 20) dX9_fitInHand_19 rfl ?_
  refine ev_getR (q := 23) dX9_fitInHand_20 g_X9_36 (hW _ _ rfl) rfl rfl rfl ?_
  refine ev_aload1 (q := 24) dX9_fitInHand_23 rfl ?_
  refine ev_cV (K := kX9_fitInHand) (pc := 24) (q := 27) (c_fitAlong (d := d) hW (hS.2.2.2.2.2.2.2.2.1 i hi) (hN1.2.2.2.2.2.1 i hi) hsp (see_sn hN.2.1)) dX9_fitInHand_24 l_X9_299 (hW _ _ rfl) rfl rfl (Nat.le_of_ble_eq_true rfl) (Nat.le_refl _) rfl rfl (fun r S1 hp => ?_)
  rcases hp with ⟨h1, rfl, rfl⟩ | ⟨h1, rfl, Y, rfl, y1, y2, y3⟩
  · exact ev_ireturn dX9_fitInHand_27 rfl rfl (Or.inl ⟨h1, rfl, _, rfl, hf1⟩)
  · exact ev_ireturn dX9_fitInHand_27 rfl rfl (Or.inr ⟨h1, rfl, _, rfl, hf1.tr y1.S, y2, y3⟩)
theorem c_track (hC : CR N SH V s) (hb : bRo s) (hsp : bSp s) (r x : Int32) : MT G l yX9_track kX9_track (d + 11) 0 0 [.ref 4, .int r, .int x] (N, SH, V) (CP N SH V (a_track s r x) s) := by
  refine MT.of (by decide) rfl rfl (n := 2) rfl (ls := [some (.ref 4), some (.int r), some (.int x), none, none]) rfl ?_
  obtain ⟨rd, ld, eR, eL, hS, hN⟩ := hC
  have hW : wC SH := hS.1
  refine ev_aload0 (q := 1) dX9_track_0 rfl ?_
  refine ev_iload1 (q := 2) dX9_track_1 rfl ?_
  refine ev_cV (K := kX9_track) (pc := 2) (q := 5) (c_roadAt (d := d) hS rfl hb r) dX9_track_2 l_X9_127 (hW _ _ rfl) rfl rfl (Nat.le_of_ble_eq_true rfl) (by omega) rfl rfl (fun r S1 hp => ?_)
  rcases hp with ⟨rfl, ⟨h0, rfl⟩ | ⟨h0, rfl⟩⟩
  · refine ev_astoreN3 (q := 6) dX9_track_5 rfl (by decide) rfl ?_
    refine ev_aloadN3 (q := 7) dX9_track_6 rfl ?_
    refine ev_ifnullN (q := 17) dX9_track_7 (by decide) ?_
    refine ev_iconst (q := 18) (v := (-1)) dX9_track_17 rfl rfl ?_
    exact ev_ireturn dX9_track_18 rfl rfl (CP.same hS hN V frS.rf (if_pos (fun h => h0 h.1)))
  · have hlt := isRd_lt hb h0
    have hix : ix r < ix (s 36 6) := by
      have := th_ixI hlt.1
      have := th_ixI hb.1
      omega
    refine ev_astore3 (q := 6) dX9_track_5 rfl (by decide) rfl ?_
    refine ev_aload3 (q := 7) dX9_track_6 rfl ?_
    refine ev_ifnull (q := 10) dX9_track_7 rfl ?_
    refine ev_iload2 (q := 11) dX9_track_10 rfl ?_
    refine ev_cS (K := kX9_track) (pc := 11) (q := 14) (c_isLayer _) dX9_track_11 l_X9_86 rfl (Nat.le_of_ble_eq_true rfl) (Nat.le_refl _) rfl rfl (fun r S1 hp => ?_)
    rcases hp with ⟨rfl, ⟨hp11, rfl⟩ | ⟨hp11, rfl⟩⟩
    · refine ev_if_ne (q := 17) (t := 19) dX9_track_14 rfl (by decide) (fun c14 => ?_) (fun c14 => ?_)
      · have hx5 : ix x < 5 := th_lt hp11.1 (by have := hp11.2; omega)
        have k0 := not_not_intro (And.intro h0 hp11)
        refine ev_aload0 (q := 20) dX9_track_19 rfl ?_
        refine ev_aload3 (q := 21) dX9_track_20 rfl ?_
        refine ev_cV (K := kX9_track) (pc := 21) (q := 24) (c_fitInHand (d := d) hS hN hix (hsp _ hix)) dX9_track_21 l_X9_152 (hW _ _ rfl) rfl rfl (Nat.le_of_ble_eq_true rfl) (Nat.le_refl _) rfl rfl (fun r S1 hp => ?_)
        rcases hp with ⟨q1, rfl, Y, rfl, q2⟩ | ⟨q1, rfl, Y, rfl, q2, q3, q4⟩
        · refine ev_if_ne (q := 27) (t := 30) dX9_track_24 rfl (by decide) (fun c24 => ?_) (fun c24 => ?_)
          · exact absurd rfl c24
          · refine ev_bipush (q := 29) (v := (-5)) dX9_track_27 rfl rfl ?_
            exact ev_ireturn dX9_track_29 rfl rfl (CP.same hS hN Y q2 ((if_neg k0).trans (if_pos (Or.inl q1))))
        · refine ev_if_ne (q := 27) (t := 30) dX9_track_24 rfl (by decide) (fun c24 => ?_) (fun c24 => ?_)
          · refine ev_aload0 (q := 31) dX9_track_30 rfl ?_
            refine ev_getR (q := 34) dX9_track_31 g_X9_36 (hW _ _ rfl) rfl rfl rfl ?_
            refine ev_getR (q := 37) dX9_track_34 g_X9_156 (hW _ _ rfl) rfl rfl rfl ?_
            refine ev_getR (q := 40) dX9_track_37 g_X9_160 (hW _ _ rfl) rfl rfl rfl ?_
            refine ev_iload2 (q := 41) dX9_track_40 rfl ?_
            refine ev_iald (q := 42) dX9_track_41 (hW _ _ rfl) (th_self hp11.1) hx5 (by decide) rfl ?_
            show EV G l kX9_track _ 0 0 42 _ [.int (Y 21 (ix x))] _ _
            rw [q4.2 _ hx5]
            show EV G l kX9_track _ 0 0 42 _ [.int (th_nth (tb s (ix r)).2.2 (ix x) 0)] _ _
            have hm1 : (-1 : Int32).toInt = -1 := by decide
            have hcell := tb_cell s (ix r) hx5
            generalize hz : th_nth (tb s (ix r)).2.2 (ix x) 0 = z at hcell ⊢
            refine ev_istore4 (q := 44) dX9_track_42 rfl (by decide) rfl ?_
            refine ev_iload4 (q := 46) dX9_track_44 rfl ?_
            refine ev_iconst (q := 47) (v := (-1)) dX9_track_46 rfl rfl ?_
            refine ev_icmp_ne (q := 50) (t := 55) dX9_track_47 rfl (by decide) (fun c47 => ?_) (fun c47 => ?_)
            · have hn : ¬ (litB s (ix r) = false ∨ (th_nth (tb s (ix r)).2.2 (ix x) 0).toInt < 0) := by
                rw [q1, hz]
                rintro (h | h)
                · cases h
                · rcases hcell with w | ⟨c, w1, w2⟩
                  · exact c47 w
                  · rw [w2, nI_toInt (by omega)] at h
                    omega
              refine ev_iload4 (q := 57) dX9_track_55 rfl ?_
              exact ev_ireturn dX9_track_57 rfl rfl (CP.same hS hN Y q2 ((if_neg k0).trans ((if_neg hn).trans hz)))
            · refine ev_bipush (q := 52) (v := (-5)) dX9_track_50 rfl rfl ?_
              refine ev_goto (q := 57) dX9_track_52 (by decide) ?_
              exact ev_ireturn dX9_track_57 rfl rfl (CP.same hS hN Y q2 ((if_neg k0).trans (if_pos (Or.inr (by rw [hz, c47]; decide)))))
          · exact absurd c24 (by decide)
      · exact absurd c14 (by decide)
    · refine ev_if_ne (q := 17) (t := 19) dX9_track_14 rfl (by decide) (fun c14 => ?_) (fun c14 => ?_)
      · exact absurd c14 (by decide)
      · refine ev_iconst (q := 18) (v := (-1)) dX9_track_17 rfl rfl ?_
        exact ev_ireturn dX9_track_18 rfl rfl (CP.same hS hN V frS.rf (if_pos (fun h => hp11 h.2)))
theorem c_weight (hC : CR N SH V s) (hb : bRo s) (hsp : bSp s) (r : Int32) : MT G l yX9_weight kX9_weight (d + 11) 0 0 [.ref 4, .int r] (N, SH, V) (CP N SH V (a_weight s r) s) := by
  refine MT.of (by decide) rfl rfl (n := 1) rfl (ls := [some (.ref 4), some (.int r), none]) rfl ?_
  obtain ⟨rd, ld, eR, eL, hS, hN⟩ := hC
  have hW : wC SH := hS.1
  refine ev_aload0 (q := 1) dX9_weight_0 rfl ?_
  refine ev_iload1 (q := 2) dX9_weight_1 rfl ?_
  refine ev_cV (K := kX9_weight) (pc := 2) (q := 5) (c_roadAt (d := d) hS rfl hb r) dX9_weight_2 l_X9_127 (hW _ _ rfl) rfl rfl (Nat.le_of_ble_eq_true rfl) (by omega) rfl rfl (fun r S1 hp => ?_)
  rcases hp with ⟨rfl, ⟨h0, rfl⟩ | ⟨h0, rfl⟩⟩
  · refine ev_astoreN2 (q := 6) dX9_weight_5 rfl (by decide) rfl ?_
    refine ev_aloadN2 (q := 7) dX9_weight_6 rfl ?_
    refine ev_ifnonnullN (q := 10) dX9_weight_7 rfl ?_
    refine ev_iconst (q := 11) (v := (-1)) dX9_weight_10 rfl rfl ?_
    exact ev_ireturn dX9_weight_11 rfl rfl (CP.same hS hN V frS.rf (if_pos h0))
  · have hlt := isRd_lt hb h0
    have hix : ix r < ix (s 36 6) := by
      have := th_ixI hlt.1
      have := th_ixI hb.1
      omega
    have k0 := not_not_intro h0
    refine ev_astore2 (q := 6) dX9_weight_5 rfl (by decide) rfl ?_
    refine ev_aload2 (q := 7) dX9_weight_6 rfl ?_
    refine ev_ifnonnull (q := 12) dX9_weight_7 (by decide) ?_
    refine ev_aload0 (q := 13) dX9_weight_12 rfl ?_
    refine ev_aload2 (q := 14) dX9_weight_13 rfl ?_
    refine ev_cV (K := kX9_weight) (pc := 14) (q := 17) (c_fitInHand (d := d) hS hN hix (hsp _ hix)) dX9_weight_14 l_X9_152 (hW _ _ rfl) rfl rfl (Nat.le_of_ble_eq_true rfl) (Nat.le_refl _) rfl rfl (fun r S1 hp => ?_)
    rcases hp with ⟨q1, rfl, Y, rfl, q2⟩ | ⟨q1, rfl, Y, rfl, q2, q3, q4⟩
    · refine ev_if_eq (q := 20) (t := 33) dX9_weight_17 rfl (by decide) (fun c17 => ?_) (fun c17 => ?_)
      · refine ev_bipush (q := 35) (v := (-5)) dX9_weight_33 rfl rfl ?_
        exact ev_ireturn dX9_weight_35 rfl rfl (CP.same hS hN Y q2 ((if_neg k0).trans (if_neg (by rw [q1]; simp))))
      · exact absurd rfl c17
    · refine ev_if_eq (q := 20) (t := 33) dX9_weight_17 rfl (by decide) (fun c17 => ?_) (fun c17 => ?_)
      · exact absurd c17 (by decide)
      · refine ev_aload0 (q := 21) dX9_weight_20 rfl ?_
        refine ev_getR (q := 24) dX9_weight_21 g_X9_36 (hW _ _ rfl) rfl rfl rfl ?_
        refine ev_getR (q := 27) dX9_weight_24 g_X9_156 (hW _ _ rfl) rfl rfl rfl ?_
        refine ev_cV (K := kX9_weight) (pc := 27) (q := 30) (c_worth (d := d) (s := s) (i := ix r) hW q3 q4) dX9_weight_27 l_X9_175 (hW _ _ rfl) rfl rfl (Nat.le_of_ble_eq_true rfl) (by omega) rfl rfl (fun r S1 hp => ?_)
        obtain ⟨rfl, rfl⟩ := hp
        refine ev_goto (q := 35) dX9_weight_30 (by decide) ?_
        exact ev_ireturn dX9_weight_35 rfl rfl (CP.same hS hN Y q2 ((if_neg k0).trans (if_pos q1)))
theorem c_gcd (S : th_S) {a b : Nat} (ha : a < 2 ^ 31) (hb0 : 0 < b) (hb : b ≤ 1000) : MT G l yX9_greatestDivisor kX9_greatestDivisor (d + 1) 0 0 [.int (nI a), .int (nI b)] S (th_is (nI (Nat.gcd a b)) S) := by
  refine MT.of (by decide) rfl rfl (n := 4) rfl (ls := [some (.int (nI a)), some (.int (nI b)), none, none, none, none]) rfl ?_
  have lp : ∀ n st, st + n = 64 → ∀ (u w : Nat) (o : Option Value), th_c1 [o] = true → u < 2 ^ 31 → w < 2 ^ 31 → Nat.gcd u w = Nat.gcd a b → ((st = 0 ∧ u * w < 2 ^ 41) ∨ (w ≤ u ∧ st ≤ 42 ∧ u * w < 2 ^ (42 - st))) → EV G l kX9_greatestDivisor (d + 1) 0 0 7 [some (.int (nI a)), some (.int (nI b)), some (.int (nI u)), some (.int (nI w)), some (.int (nI st)), o] [] S (th_is (nI (Nat.gcd a b)) S) := by
    intro n
    induction n with
    | zero =>
      intro st hst u w o ho hu hw hg hinv
      exfalso
      omega
    | succ n ih =>
      intro st hst u w o ho hu hw hg hinv
      refine ev_iload4 (q := 9) dX9_greatestDivisor_7 rfl ?_
      refine ev_bipush (q := 11) (v := 64) dX9_greatestDivisor_9 rfl rfl ?_
      refine ev_icmp_ge (q := 14) (t := 34) dX9_greatestDivisor_11 rfl (by decide) (fun c11 => ?_) (fun c11 => ?_)
      · exact absurd c11 (show ¬ nI 64 ≤ nI st from nI_ge (by omega) (by decide))
      · refine ev_iload3 (q := 15) dX9_greatestDivisor_14 rfl ?_
        refine ev_if_eq (q := 18) (t := 34) dX9_greatestDivisor_15 rfl (by decide) (fun c15 => ?_) (fun c15 => ?_)
        · have hw0 : w = 0 := (nI_eq hw (by decide)).mp (show nI w = nI 0 from c15)
          subst hw0
          rw [Nat.gcd_zero_right] at hg
          have hpos : 0 < u := by rw [hg]; exact Nat.gcd_pos_of_pos_right _ hb0
          refine ev_iload2 (q := 35) dX9_greatestDivisor_34 rfl ?_
          refine ev_iconst (q := 36) (v := 1) dX9_greatestDivisor_35 rfl rfl ?_
          refine ev_cS (K := kX9_greatestDivisor) (pc := 36) (q := 39) (j_max (d := d) _ _) dX9_greatestDivisor_36 l_X9_294 rfl (Nat.le_of_ble_eq_true rfl) (by omega) rfl rfl (fun r S1 hp => ?_)
          obtain ⟨rfl, rfl⟩ := hp
          exact ev_ireturn dX9_greatestDivisor_39 rfl rfl ⟨congrArg (fun z => some (Value.int z)) (by rw [imax, if_neg (show ¬ nI u < (1 : Int32) from nI_nlt (b := 1) hpos hu), hg]), rfl⟩
        · have hw0 : 0 < w := Nat.pos_of_ne_zero (fun e => c15 (by rw [e]; rfl))
          have hlt := Nat.mod_lt u hw0
          refine ev_iload2 (q := 19) dX9_greatestDivisor_18 rfl ?_
          refine ev_iload3 (q := 20) dX9_greatestDivisor_19 rfl ?_
          refine ev_irem (q := 21) dX9_greatestDivisor_20 c15 rfl ?_
          rw [pk_rem hu hw0 hw]
          have ho2 : th_c1 [o] = true := ho
          refine ev_istore5 (q := 23) dX9_greatestDivisor_21 rfl (by decide) ho2 ?_
          refine ev_iload3 (q := 24) dX9_greatestDivisor_23 rfl ?_
          refine ev_istore2 (q := 25) dX9_greatestDivisor_24 rfl (by decide) rfl ?_
          refine ev_iload5 (q := 27) dX9_greatestDivisor_25 rfl ?_
          refine ev_istore3 (q := 28) dX9_greatestDivisor_27 rfl (by decide) rfl ?_
          refine ev_iinc4 (q := 31) dX9_greatestDivisor_28 rfl (by decide) rfl (nI_succ st).symm ?_
          refine ev_goto (q := 7) dX9_greatestDivisor_31 (by decide) ?_
          refine ih (st + 1) (by omega) w (u % w) _ rfl hw (by omega) ((gcd_step u w).symm.trans hg) (Or.inr ⟨by omega, ?_, ?_⟩)
          · rcases hinv with ⟨h1, h2⟩ | ⟨h1, h2, h3⟩
            · omega
            · rcases Nat.eq_or_lt_of_le h2 with e | e
              · rw [e] at h3
                have : 0 < u * w := Nat.mul_pos (by omega) hw0
                simp at h3
                omega
              · omega
          · rcases hinv with ⟨h1, h2⟩ | ⟨h1, h2, h3⟩
            · rw [h1]
              have : w * (u % w) ≤ w * u := Nat.mul_le_mul_left w (Nat.mod_le u w)
              rw [Nat.mul_comm w u] at this
              exact Nat.lt_of_le_of_lt this h2
            · have hst42 : st < 42 := by
                rcases Nat.eq_or_lt_of_le h2 with e | e
                · rw [e] at h3
                  have : 0 < u * w := Nat.mul_pos (by omega) hw0
                  simp at h3
                  omega
                · exact e
              have e2 : 2 * (u % w) ≤ u := by
                have q1 := Nat.div_add_mod u w
                have q2 : 1 ≤ u / w := Nat.div_pos h1 hw0
                have q3 : w * 1 ≤ w * (u / w) := Nat.mul_le_mul_left w q2
                omega
              have e3 : w * (2 * (u % w)) ≤ w * u := Nat.mul_le_mul_left w e2
              have e4 : 2 ^ (42 - st) = 2 * 2 ^ (42 - (st + 1)) := by
                rw [show 42 - st = (42 - (st + 1)) + 1 by omega, Nat.pow_succ, Nat.mul_comm]
              rw [e4] at h3
              have e5 : w * (2 * (u % w)) = 2 * (w * (u % w)) := by rw [Nat.mul_left_comm]
              have e6 : w * u = u * w := Nat.mul_comm _ _
              omega
  refine ev_iload0 (q := 1) dX9_greatestDivisor_0 rfl ?_
  refine ev_istore2 (q := 2) dX9_greatestDivisor_1 rfl (by decide) rfl ?_
  refine ev_iload1 (q := 3) dX9_greatestDivisor_2 rfl ?_
  refine ev_istore3 (q := 4) dX9_greatestDivisor_3 rfl (by decide) rfl ?_
  refine ev_iconst (q := 5) (v := 0) dX9_greatestDivisor_4 rfl rfl ?_
  refine ev_istore4 (q := 7) dX9_greatestDivisor_5 rfl (by decide) rfl ?_
  refine lp 64 0 rfl a b none rfl ha (by omega) rfl (Or.inl ⟨rfl, ?_⟩)
  have : a * b ≤ 2 ^ 31 * 1000 := Nat.mul_le_mul (by omega) hb
  omega
theorem c_miss (hC : CR N SH V s) (hb : bRo s) (hsp : bSp s) (r w : Int32) : MT G l yX9_miss kX9_miss (d + 11) 0 0 [.ref 4, .int r, .int w] (N, SH, V) (CP N SH V (a_miss s r w) s) := by
  refine MT.of (by decide) rfl rfl (n := 4) rfl (ls := [some (.ref 4), some (.int r), some (.int w), none, none, none, none]) rfl ?_
  obtain ⟨rd, ld, eR, eL, hS, hN⟩ := hC
  have hW : wC SH := hS.1
  have e0 : (0 : Int32).toInt = 0 := by decide
  have e1 : (1 : Int32).toInt = 1 := by decide
  refine ev_aload0 (q := 1) dX9_miss_0 rfl ?_
  refine ev_iload1 (q := 2) dX9_miss_1 rfl ?_
  refine ev_cV (K := kX9_miss) (pc := 2) (q := 5) (c_roadAt (d := d) hS rfl hb r) dX9_miss_2 l_X9_127 (hW _ _ rfl) rfl rfl (Nat.le_of_ble_eq_true rfl) (by omega) rfl rfl (fun r S1 hp => ?_)
  rcases hp with ⟨rfl, ⟨h0, rfl⟩ | ⟨h0, rfl⟩⟩
  · refine ev_astoreN3 (q := 6) dX9_miss_5 rfl (by decide) rfl ?_
    refine ev_aloadN3 (q := 7) dX9_miss_6 rfl ?_
    refine ev_ifnullN (q := 19) dX9_miss_7 (by decide) ?_
    refine ev_iconst (q := 20) (v := (-1)) dX9_miss_19 rfl rfl ?_
    exact ev_ireturn dX9_miss_20 rfl rfl (CP.same hS hN V frS.rf (if_pos (fun h => h0 h.1)))
  · have hlt := isRd_lt hb h0
    have hix : ix r < ix (s 36 6) := by
      have := th_ixI hlt.1
      have := th_ixI hb.1
      omega
    refine ev_astore3 (q := 6) dX9_miss_5 rfl (by decide) rfl ?_
    refine ev_aload3 (q := 7) dX9_miss_6 rfl ?_
    refine ev_ifnull (q := 10) dX9_miss_7 rfl ?_
    refine ev_iload2 (q := 11) dX9_miss_10 rfl ?_
    refine ev_if_lt (q := 14) (t := 19) dX9_miss_11 rfl (by decide) (fun c11 => ?_) (fun c11 => ?_)
    · refine ev_iconst (q := 20) (v := (-1)) dX9_miss_19 rfl rfl ?_
      exact ev_ireturn dX9_miss_20 rfl rfl (CP.same hS hN V frS.rf (if_pos (fun h => by have := i_lt.mp c11; have := h.2.1; omega)))
    · refine ev_iload2 (q := 15) dX9_miss_14 rfl ?_
      refine ev_iconst (q := 16) (v := 1) dX9_miss_15 rfl rfl ?_
      refine ev_icmp_le (q := 19) (t := 21) dX9_miss_16 rfl (by decide) (fun c16 => ?_) (fun c16 => ?_)
      · have hw : inR w 0 1 := by have := i_nlt c11; have := i_le.mp c16; constructor <;> omega
        have k0 := not_not_intro (And.intro h0 hw)
        refine ev_aload0 (q := 22) dX9_miss_21 rfl ?_
        refine ev_aload3 (q := 23) dX9_miss_22 rfl ?_
        refine ev_cV (K := kX9_miss) (pc := 23) (q := 26) (c_fitInHand (d := d) hS hN hix (hsp _ hix)) dX9_miss_23 l_X9_152 (hW _ _ rfl) rfl rfl (Nat.le_of_ble_eq_true rfl) (Nat.le_refl _) rfl rfl (fun r S1 hp => ?_)
        rcases hp with ⟨q1, rfl, Y, rfl, q2⟩ | ⟨q1, rfl, Y, rfl, q2, q3, q4⟩
        · refine ev_if_ne (q := 29) (t := 32) dX9_miss_26 rfl (by decide) (fun c26 => ?_) (fun c26 => ?_)
          · exact absurd rfl c26
          · refine ev_bipush (q := 31) (v := (-5)) dX9_miss_29 rfl rfl ?_
            exact ev_ireturn dX9_miss_31 rfl rfl (CP.same hS hN Y q2 ((if_neg k0).trans (if_pos q1)))
        · have ql : ¬ litB s (ix r) = false := by rw [q1]; simp
          have ht := tb_top s (ix r)
          have hl := tb_low s (ix r)
          have hp0 := tb_pos s (ix r)
          have t1 := th_self ht.1
          have t2 := th_self (Int.le_of_lt hp0.1)
          have i1 := th_ixI ht.1
          have i2 := th_ixI (Int.le_of_lt hp0.1)
          have hgp : 0 < Nat.gcd (ix (tb s (ix r)).1) (ix (tb s (ix r)).2.1) := Nat.gcd_pos_of_pos_right _ (by omega)
          have hgl : Nat.gcd (ix (tb s (ix r)).1) (ix (tb s (ix r)).2.1) ≤ ix (tb s (ix r)).2.1 := Nat.gcd_le_right _ (by omega)
          have hgn : ¬ nI (Nat.gcd (ix (tb s (ix r)).1) (ix (tb s (ix r)).2.1)) = 0 := nI_ne0 hgp (by omega)
          refine ev_if_ne (q := 29) (t := 32) dX9_miss_26 rfl (by decide) (fun c26 => ?_) (fun c26 => ?_)
          · refine ev_aload0 (q := 33) dX9_miss_32 rfl ?_
            refine ev_getR (q := 36) dX9_miss_33 g_X9_36 (hW _ _ rfl) rfl rfl rfl ?_
            refine ev_getR (q := 39) dX9_miss_36 g_X9_156 (hW _ _ rfl) rfl rfl rfl ?_
            refine ev_cV (K := kX9_miss) (pc := 39) (q := 42) (c_above (d := d) hW) dX9_miss_39 l_X9_165 (hW _ _ rfl) rfl rfl (Nat.le_of_ble_eq_true rfl) (by omega) rfl rfl (fun r S1 hp => ?_)
            obtain ⟨rfl, rfl⟩ := hp
            rw [q4.1]
            show EV G l kX9_miss _ 0 0 42 _ [.int (tb s (ix r)).1] _ _
            refine ev_istore4 (q := 44) dX9_miss_42 rfl (by decide) rfl ?_
            refine ev_aload0 (q := 45) dX9_miss_44 rfl ?_
            refine ev_getR (q := 48) dX9_miss_45 g_X9_36 (hW _ _ rfl) rfl rfl rfl ?_
            refine ev_getR (q := 51) dX9_miss_48 g_X9_156 (hW _ _ rfl) rfl rfl rfl ?_
            refine ev_cV (K := kX9_miss) (pc := 51) (q := 54) (c_below (d := d) (f := sn s) (g := fun k => s 43 (5 * ix r + k)) hW q3) dX9_miss_51 l_X9_168 (hW _ _ rfl) rfl rfl (Nat.le_of_ble_eq_true rfl) (by omega) rfl rfl (fun r S1 hp => ?_)
            obtain ⟨rfl, rfl⟩ := hp
            rw [show lowOf (hm (sn s) (fun k => s 43 (5 * ix r + k)) 5) (fun _ => 0) = (tb s (ix r)).2.1 from hl.symm]
            refine ev_istore5 (q := 56) dX9_miss_54 rfl (by decide) rfl ?_
            refine ev_iload4 (q := 58) dX9_miss_56 rfl ?_
            refine ev_iload5 (q := 60) dX9_miss_58 rfl ?_
            have hg := c_gcd (G := G) (l := l) (d := d) (N, SH, Y) (a := ix (tb s (ix r)).1) (b := ix (tb s (ix r)).2.1) (by omega) (by omega) (by omega)
            rw [← t1, ← t2] at hg
            refine ev_cS (K := kX9_miss) (pc := 60) (q := 63) (hg) dX9_miss_60 l_X9_171 rfl (Nat.le_of_ble_eq_true rfl) (by omega) rfl rfl (fun r S1 hp => ?_)
            obtain ⟨rfl, rfl⟩ := hp
            refine ev_istore6 (q := 65) dX9_miss_63 rfl (by decide) rfl ?_
            refine ev_iload2 (q := 66) dX9_miss_65 rfl ?_
            refine ev_if_ne (q := 69) (t := 77) dX9_miss_66 rfl (by decide) (fun c66 => ?_) (fun c66 => ?_)
            · refine ev_iload5 (q := 79) dX9_miss_77 rfl ?_
              refine ev_iload6 (q := 81) dX9_miss_79 rfl ?_
              refine ev_idiv (q := 82) dX9_miss_81 hgn rfl ?_
              exact ev_ireturn dX9_miss_82 rfl rfl (CP.same hS hN Y q2 ((if_neg k0).trans ((if_neg ql).trans (if_neg c66))))
            · refine ev_iload4 (q := 71) dX9_miss_69 rfl ?_
              refine ev_iload6 (q := 73) dX9_miss_71 rfl ?_
              refine ev_idiv (q := 74) dX9_miss_73 hgn rfl ?_
              refine ev_goto (q := 82) dX9_miss_74 (by decide) ?_
              exact ev_ireturn dX9_miss_82 rfl rfl (CP.same hS hN Y q2 ((if_neg k0).trans ((if_neg ql).trans (if_pos c66))))
          · exact absurd c26 (by decide)
      · refine ev_iconst (q := 20) (v := (-1)) dX9_miss_19 rfl rfl ?_
        exact ev_ireturn dX9_miss_20 rfl rfl (CP.same hS hN V frS.rf (if_pos (fun h => by have := i_nle c16; have := h.2.2; omega)))
end C12
