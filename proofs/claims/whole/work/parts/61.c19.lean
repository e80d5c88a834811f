/-! the class: a line comes -/
theorem shC_lt {a : Nat} {x : th_K0} (hx : shC a = some x) : a < 64 := by
  rcases Nat.lt_or_ge a 64 with z | z
  · exact z
  · exfalso
    have hb : Nat.blt a 4 = false := by
      cases hb : Nat.blt a 4
      · rfl
      · have := Nat.blt_eq.mp hb; omega
    simp only [shC, hb, cond_false] at hx
    rw [show a - 4 = (a - 36) + 32 by omega] at hx
    cases (th_nth_big (d0 := (none : Option th_K0)) _ (a - 36)).symm.trans hx
theorem wC.ext {SH SH' : Nat → Option th_K0} (hW : wC SH) (h : ∀ a, a < 64 → SH' a = SH a) : wC SH' := fun a x hx => (h a (shC_lt hx)).trans (hW a x hx)
section C19
variable {G : th_G} {l : Launch} {d : Nat} {N : Nat} {SH : Nat → Option th_K0} {V s : th_Vl}
theorem c_line (hC : CR N SH V s) (ht : bTp s) (hl : bLi s) (hby : bBy s) (hle : bLe s) (sh : Int32) (b : Bool) : MT G l yX9_line kX9_line (d + 261) 4 84 [.ref 4, .int sh, .int (cond b 1 0)] (N, SH, V) (CP N SH V (a_line s sh) (n_line s sh b)) := by
  refine MT.of (by decide) rfl rfl (n := 0) rfl (ls := [some (.ref 4), some (.int sh), some (.int (cond b 1 0))]) rfl ?_
  obtain ⟨rd, ld, eR, eL, hS, hN⟩ := hC
  have hW : wC SH := hS.1
  have hT0 : 0 ≤ (s 36 10).toInt := ht.1
  have hTI := th_ixI hT0
  have hTS := th_self hT0
  have h60 : ix (s 36 10) ≤ 60 := by have : (s 36 10).toInt ≤ 60 := ht.2; omega
  obtain ⟨t1, t2⟩ := hN.2.2.2.2.1
  have hLS := th_self hl.1
  have hL8 : ix (s 36 11) ≤ 8 := hS.2.2.2.2.1
  have h64 : 64 ≤ N := hS.2.2.1
  have hLs := hS.2.2.2.2.2.2.1
  obtain ⟨fL, hfL⟩ := hLs.sh
  obtain ⟨fR, hfR⟩ := hS.2.1
  have hld := hS.2.2.2.2.2.2.2.2.2.2.1
  have hL0 : ∀ p, ix (s 36 10) ≤ p → (fun p => if p < ix (s 36 10) then s 45 p else 0) p = 0 := fun p hp => if_neg (by omega)
  have hLT : ∀ p, p < ix (s 36 10) → (fun p => if p < ix (s 36 10) then s 45 p else 0) p = s 45 p := fun p hp => if_pos hp
  obtain ⟨⟨tr, q, ok⟩, hr⟩ := prs_tot (A := ansB V) hL0 250 2 0 false 0 (Nat.zero_le _) (by show 4 * (ix (s 36 10) - 0) + 3 ≤ 250; omega)
  obtain ⟨hql, hfl⟩ := prs_fault (T := s 45) hL0 hLT h60 hr
  have hfl : fTp s = if ok = true ∧ q = ix (s 36 10) then -1 else nI q := hfl
  have hLr : ∀ p, p < ix (s 36 10) → ∀ c, 0 < c → c < 128 → (V 28 p = nI c ↔ (fun p => if p < ix (s 36 10) then s 45 p else 0) p = nI c) := fun p hp c h0 h1 => by
    rw [hLT p hp, t2 p hp]
    exact chv_rel (hby.1 p) h1
  refine ev_iload1 (q := 1) dX9_line_0 rfl ?_
  refine ev_cS (K := kX9_line) (pc := 1) (q := 4) (c_isShare _) dX9_line_1 l_X9_210 rfl (Nat.le_of_ble_eq_true rfl) (Nat.le_refl _) rfl rfl (fun r S1 hp => ?_)
  rcases hp with ⟨rfl, ⟨hp1, rfl⟩ | ⟨hp1, rfl⟩⟩
  · refine ev_if_ne (q := 7) (t := 9) dX9_line_4 rfl (by decide) (fun c4 => ?_) (fun c4 => ?_)
    · have hnsh := not_not_intro hp1
      refine ev_aload0 (q := 10) dX9_line_9 rfl ?_
      refine ev_getR (q := 13) dX9_line_10 g_X9_54 (hW _ _ rfl) rfl rfl rfl ?_
      refine ev_cF (K := kX9_line) (pc := 13) (q := 18) (hLs.size (d := d)) dX9_line_13 l_X9_109 hfL rfl (Nat.le_of_ble_eq_true rfl) (by omega) rfl rfl (fun r S1 hp => ?_)
      obtain ⟨rfl, rfl⟩ := hp
      refine ev_bipush (q := 20) (v := 8) dX9_line_18 rfl rfl ?_
      refine ev_icmp_lt (q := 23) (t := 26) dX9_line_20 rfl (by decide) (fun c20 => ?_) (fun c20 => ?_)
      · have hL : ix (s 36 11) < 8 := (nI_ltI (by omega) (by decide)).mp (show nI (ix (s 36 11)) < nI 8 from c20)
        have hne8 : ¬ s 36 11 = 8 := fun z => by rw [z] at hL; exact absurd hL (by decide)
        refine ev_aload0 (q := 27) dX9_line_26 rfl ?_
        refine ev_getR (q := 30) dX9_line_27 g_X9_50 (hW _ _ rfl) rfl rfl rfl ?_
        refine ev_aload0 (q := 31) dX9_line_30 rfl ?_
        refine ev_getR (q := 34) dX9_line_31 g_X9_43 (hW _ _ rfl) rfl rfl rfl ?_
        refine ev_aload0 (q := 35) dX9_line_34 rfl ?_
        refine ev_getR (q := 38) dX9_line_35 g_X9_36 (hW _ _ rfl) rfl rfl rfl ?_
        refine ev_cV (K := kX9_line) (pc := 38) (q := 41) (c_read (d := d) (ta := 27) (tb := 28) (q := q) (t := tr) (ok := ok) hW hfR (hW _ _ rfl) rfl (hW _ _ rfl) ⟨by decide, by decide⟩ (t1.trans hTS) h60 hL0 hLr hr) dX9_line_38 l_X9_213 hfR rfl rfl (Nat.le_of_ble_eq_true rfl) (Nat.le_refl _) rfl rfl (fun r S1 hp => ?_)
        obtain ⟨x, z, SH2, rfl, rfl, hr2, hE, hz⟩ := hp
        have hfr : frS V (rst V q z) := fun a ha => rst_ne (fun e => ha (by unfold scr; omega))
        have hS2 := (hS.c (V' := rst V q z) (hfr _ (by unfold scr; omega)) (hfr _ (by unfold scr; omega))).rdr hE hr2
        have hN2 := RN.fr hS hN hfr
        have hW2 : wC SH2 := hS2.1
        obtain ⟨fR2, hfR2⟩ := hr2
        have hzf : rst V q z 29 3 = z := rfl
        refine ev_pop (q := 42) dX9_line_41 rfl rfl ?_
        refine ev_aload0 (q := 43) dX9_line_42 rfl ?_
        refine ev_getR (q := 46) dX9_line_43 g_X9_50 (hW2 _ _ rfl) rfl rfl rfl ?_
        refine ev_getI (q := 49) dX9_line_46 g_X9_217 hfR2 rfl rfl ?_
        refine ev_iconst (q := 50) (v := (-1)) dX9_line_49 rfl rfl ?_
        show EV G l kX9_line _ 4 84 50 _ [.int (-1), .int (rst V q z 29 3)] _ _
        rw [hzf]
        rcases hz with ⟨z1, z2, z3, z4⟩ | ⟨z1, z2⟩
        · rw [if_pos ⟨z1, z2⟩] at hfl
          have hft : ¬ 0 ≤ (fTp s).toInt := by rw [hfl]; decide
          have ea : a_line s sh = s 36 11 := (if_neg hnsh).trans ((if_neg hne8).trans (if_neg hft))
          have en : n_line s sh b = th_w (th_w (ln1 s sh b (ix (s 36 11))) 36 10 0) 36 11 (s 36 11 + 1) := (if_neg hnsh).trans ((if_neg hne8).trans (if_neg hft))
          refine ev_icmp_eq (q := 53) (t := 64) dX9_line_50 rfl (by decide) (fun c50 => ?_) (fun c50 => ?_)
          · have w1 : ∀ c, c ≠ 29 → rst V q z c = V c := fun c hc => rst_ne hc
            generalize rst V q z = V2 at hfr hS2 hN2 w1 ⊢
            obtain ⟨fX2, hfX2⟩ := hS2.2.2.2.2.2.2.1.sh
            refine ev_aload0 (q := 65) dX9_line_64 rfl ?_
            refine ev_getR (q := 68) dX9_line_65 g_X9_54 (hW2 _ _ rfl) rfl rfl rfl ?_
            refine ev_newX (q := 71) (ci := 2) (bc := 3) (bs := 77) (N := N) (N1 := N + 1) rfl (K := kX9_line) (pc := 68) dX9_line_68 rfl n_X9_220 i1_X2 i2_X2 rfl ?_
            have hW3 : wC (th_u SH2 N (.inr (2, fun _ => none))) := hW2.ext (fun a ha => th_u_ne (by omega))
            refine ev_dup (q := 72) dX9_line_71 rfl rfl ?_
            refine ev_aload0 (q := 73) dX9_line_72 rfl ?_
            refine ev_getR (q := 76) dX9_line_73 g_X9_43 (hW3 _ _ rfl) rfl rfl rfl ?_
            refine ev_iload1 (q := 77) dX9_line_76 rfl ?_
            refine ev_iload2 (q := 78) dX9_line_77 rfl ?_
            have v0 : ∀ c, c < N → th_z V2 N c = V2 c := fun c hc => th_z_ne (by omega)
            have hlt2 : th_z V2 N 28 = V 28 := (v0 _ (by omega)).trans (w1 _ (by decide))
            refine ev_cI (bc := 1) (bs := 15) (K := kX9_line) (pc := 78) (q := 81) (c_lineInit (d := d) (a := N) (len := ix (s 36 10)) (N := N + 1) hW3 th_u_eq (Nat.lt_succ_self _) h64 (by rw [v0 _ (by omega), w1 _ (by decide), t1]; exact hTS) h60 (by rw [hlt2]; exact fun k hk => by rw [t2 k hk]; exact vpc_255 _) sh b) dX9_line_78 l_X9_222 rfl (Nat.le_of_ble_eq_true rfl) (by omega) rfl rfl (fun r S1 hp => ?_)
            obtain ⟨rfl, SH3, V3, rfl, ⟨f3, q1, q2⟩, ⟨f4, q3, q4⟩, q5, q6, ⟨r1, r2, r3, r4, r5, r6⟩, q7, q8⟩ := hp
            have qo : ∀ c, c < N → SH3 c = SH2 c ∧ V3 c = V2 c := fun c hc => by
              have := q6 c (by omega) (by omega)
              rw [th_u_ne (by omega), th_z_ne (by omega)] at this
              exact this
            have hA : lnS (N + 1 + 2) SH3 N := ⟨h64, by omega, ⟨f3, q1, q2⟩, ⟨f4, q3, q4⟩, q5⟩
            have hLs2 : LST (N + 1 + 2) SH3 V3 30 (ix (s 36 11)) ld eL := LST.old hS2.2.2.2.2.2.2.1 (by omega) (qo _ (by omega)).1 (fun z1 z2 => (qo _ z2).1) (qo _ (by omega)).2
            have hfX3 : SH3 30 = some (.inr (11, fX2)) := (qo _ (by omega)).1.trans hfX2
            have hX1 : SH3 4 = some (.inr (9, rf_X)) := (qo _ (by omega)).1.trans (hW2 _ _ rfl)
            refine ev_cF (bc := 0) (bs := 0) (K := kX9_line) (pc := 81) (q := 86) (j_add (d := d) (ci := 2) hLs2 (by omega) (by omega) (by omega) rfl c_Line (fun k hk => ?_) q1 (by omega) (by decide) (by decide)) dX9_line_81 l_X9_123 hfX3 rfl (Nat.le_of_ble_eq_true rfl) (by omega) rfl rfl (fun r S1 hp => ?_)
            · obtain ⟨y1, y2, ⟨fk, y3, -⟩, -, -⟩ := hS2.2.2.2.2.2.2.2.2.2.2.1 k hk
              exact ⟨fk, (qo _ (by omega)).1.trans y3, by omega⟩
            obtain ⟨rfl, N', SH', V', eL', rfl, p1, p2, p3, p4, p5, p6, p7⟩ := hp
            have heL : ∀ b, b < 64 → 3 ≤ b → b ≠ eL := fun b h1 h2 w => by rcases RS.two hLs with r | r <;> omega
            have hX2 : SH' 4 = some (.inr (9, rf_X)) := (p6 _ (by omega) (by decide) (heL _ (by decide) (by decide))).trans hX1
            have hT2 : SH' 27 = some (.inr (8, rf_tape)) := (p6 _ (by omega) (by decide) (heL _ (by decide) (by decide))).trans ((qo _ (by omega)).1.trans (hW2 _ _ rfl))
            refine ev_pop (q := 87) dX9_line_86 rfl rfl ?_
            refine ev_aload0 (q := 88) dX9_line_87 rfl ?_
            refine ev_getR (q := 91) dX9_line_88 g_X9_43 hX2 rfl rfl rfl ?_
            refine ev_iconst (q := 92) (v := 0) dX9_line_91 rfl rfl ?_
            refine ev_putIX (q := 95) dX9_line_92 (p_X9_200 _) hT2 rfl rfl rfl rfl ?_
            have p1' : LST N' SH' (th_w V' 27 1 0) 30 (ix (s 36 11) + 1) (fun k => if k = ix (s 36 11) then N else ld k) eL' := p1.old (Nat.le_refl _) rfl (fun _ _ => rfl) (th_w_ne (by decide))
            obtain ⟨fY, hfY⟩ := p1'.sh
            refine ev_aload0 (q := 96) dX9_line_95 rfl ?_
            refine ev_getR (q := 99) dX9_line_96 g_X9_54 hX2 rfl rfl rfl ?_
            refine ev_cF (K := kX9_line) (pc := 99) (q := 104) (p1'.size (d := d)) dX9_line_99 l_X9_109 hfY rfl (Nat.le_of_ble_eq_true rfl) (by omega) rfl rfl (fun r S1 hp => ?_)
            obtain ⟨rfl, rfl⟩ := hp
            refine ev_iconst (q := 105) (v := 1) dX9_line_104 rfl rfl ?_
            refine ev_isub (q := 106) dX9_line_105 rfl ?_
            have er : nI (ix (s 36 11) + 1) - 1 = nI (ix (s 36 11)) := nI_pred _
            have eN : ∀ b, b < N + 3 → N ≤ b → b ≠ 30 ∧ b ≠ eL := fun b y1 y2 => ⟨by omega, fun w => by rcases RS.two hLs with r | r <;> omega⟩
            have hVo : ∀ b, b < N → b ≠ 30 → b ≠ 27 → th_w V' 27 1 0 b = V2 b := fun b y1 y2 y3 => by
              rw [th_w_ne y3, p7 b (by omega) y2]
              exact (qo b y1).2
            have fin : CR N' SH' (th_w V' 27 1 0) (n_line s sh b) := by
              rw [en]
              have z0 := eN N (by omega) (by omega)
              have z1 := eN (N + 1) (by omega) (by omega)
              have z2 := eN (N + 2) (by omega) (by omega)
              refine CR.line (V := V2) (s := s) hS2 hN2 hL (by omega) p1' p4 (by omega) (fun b y1 y2 y3 => (p6 b (by omega) y2 y3).trans (qo b y1).1) hVo ?_ (Nat.le_refl N) (fun a y1 y2 => ?_) (fun k y1 y2 => ?_) ?_ ?_ ?_ rfl (fun k hk => ?_) (fun x y1 y2 k hk => ?_) (fun k hk => hle k (by omega)) ?_
              · exact ⟨h64, by omega, ⟨f3, (p6 _ (by omega) z0.1 z0.2).trans q1, q2⟩, ⟨f4, (p6 _ (by omega) z1.1 z1.2).trans q3, q4⟩, (p6 _ (by omega) z2.1 z2.2).trans q5⟩
              · unfold ln1
                rw [th_w_ne y1, th_w_ne y1, th_w_ne (by omega), th_w_ne (by omega), th_w_ne (by omega), th_w_ne (by omega), th_w_ne (by omega), th_w_ne (by omega), th_w_ne (by omega), th_seg_ne (by omega)]
              · unfold ln1
                rw [th_w_j y1, th_w_j y2, th_w_ne (by decide), th_w_ne (by decide), th_w_ne (by decide), th_w_ne (by decide), th_w_ne (by decide), th_w_ne (by decide), th_w_ne (by decide), th_seg_ne (by decide)]
              · rw [th_w_j (by decide), th_w_if, if_pos ⟨rfl, rfl⟩]
              · rw [th_w_if, if_pos ⟨rfl, rfl⟩]
              · rw [th_w_if, if_pos ⟨rfl, rfl⟩, nI_succ, ← hLS]
              · unfold ln1
                rw [th_w_ne (by decide), th_w_ne (by decide), th_w_ne (by decide), th_w_ne (by decide), th_w_ne (by decide), th_w_ne (by decide), th_w_ne (by decide), th_w_ne (by decide), th_w_ne (by decide), th_seg_out (Or.inl hk)]
              · have hx : x = 47 ∨ x = 48 ∨ x = 49 ∨ x = 50 ∨ x = 51 ∨ x = 52 ∨ x = 53 := by omega
                have hkk : k ≠ ix (s 36 11) := by omega
                have hk2 : ∀ (W : th_Vl) (a : Nat) (y : Int32) (c : Nat), th_w W a (ix (s 36 11)) y c k = W c k := fun W a y c => by rw [th_w_if, if_neg (fun w => hkk w.2)]
                rw [th_w_ne (by omega), th_w_ne (by omega)]
                unfold ln1
                rw [hk2, hk2, hk2, hk2, hk2, hk2, hk2, th_seg_ne (by omega)]
              · have u0 : th_w V' 27 1 0 N = V3 N := by rw [th_w_ne (by omega), p7 _ (by omega) z0.1]
                have u1 : th_w V' 27 1 0 (N + 1) = V3 (N + 1) := by rw [th_w_ne (by omega), p7 _ (by omega) z1.1]
                have u2 : th_w V' 27 1 0 (N + 2) = V3 (N + 2) := by rw [th_w_ne (by omega), p7 _ (by omega) z2.1]
                have hz0 : ∀ k, th_z V2 N N k = 0 := fun k => by rw [th_z_eq]
                unfold lnR
                rw [u0, u1, u2, r1, r2, r3, r4, r5, r6, hz0, hz0, hz0, hz0, q7]
                unfold ln1
                refine ⟨⟨?_, ?_, ?_, ?_, ?_, ?_⟩, ?_, fun k hk => ?_⟩
                · rw [th_w_ne (by decide), th_w_ne (by decide), th_w_ne (by decide), th_w_ne (by decide), th_w_ne (by decide), th_w_ne (by decide), th_w_if, if_pos ⟨rfl, rfl⟩]
                · rw [th_w_ne (by decide), th_w_ne (by decide), th_w_ne (by decide), th_w_ne (by decide), th_w_ne (by decide), th_w_ne (by decide), th_w_ne (by decide), th_w_if, if_pos ⟨rfl, rfl⟩]
                · rw [th_w_ne (by decide), th_w_ne (by decide), th_w_ne (by decide), th_w_ne (by decide), th_w_ne (by decide), th_w_if, if_pos ⟨rfl, rfl⟩]
                · rw [th_w_ne (by decide), th_w_ne (by decide), th_w_ne (by decide), th_w_ne (by decide), th_w_if, if_pos ⟨rfl, rfl⟩]
                · rw [th_w_ne (by decide), th_w_ne (by decide), th_w_ne (by decide), th_w_if, if_pos ⟨rfl, rfl⟩]
                · rw [th_w_ne (by decide), th_w_ne (by decide), th_w_if, if_pos ⟨rfl, rfl⟩]
                · rw [th_w_ne (by decide), th_w_ne (by decide), th_w_ne (by decide), th_w_ne (by decide), th_w_ne (by decide), th_w_ne (by decide), th_w_ne (by decide), th_w_ne (by decide), th_w_if, if_pos ⟨rfl, rfl⟩]
                  exact hTS.symm
                · have hk : k < ix (s 36 10) := by
                    rw [th_w_ne (by decide), th_w_ne (by decide), th_w_ne (by decide), th_w_ne (by decide), th_w_ne (by decide), th_w_ne (by decide), th_w_ne (by decide), th_w_ne (by decide), th_w_if, if_pos ⟨rfl, rfl⟩] at hk
                    exact hk
                  rw [q8 k hk, hlt2, t2 k hk, th_w_ne (by decide), th_w_ne (by decide), th_w_ne (by decide), th_w_ne (by decide), th_w_ne (by decide), th_w_ne (by decide), th_w_ne (by decide), th_w_ne (by decide), th_w_ne (by decide), th_seg_in (by omega) (by omega), show 60 * ix (s 36 11) + k - 60 * ix (s 36 11) = k by omega, ltx, hby.1 k]
            exact ev_ireturn dX9_line_106 rfl rfl ⟨N', SH', _, rfl, by rw [er, ← hLS, ea], fin, fun a y1 y2 => (hVo a (by omega) (by omega) (by omega)).trans (w1 a (by omega)), fun a y1 y2 => (p6 a (by omega) (by omega) (heL a (by omega) (by omega))).trans ((qo a (by omega)).1.trans (hE a (by omega))), by omega⟩
          · exact absurd z4 c50
        · rw [if_neg z1] at hfl
          have hft : 0 ≤ (fTp s).toInt := by rw [hfl, nI_toInt (by omega)]; omega
          refine ev_icmp_eq (q := 53) (t := 64) dX9_line_50 rfl (by decide) (fun c50 => ?_) (fun c50 => ?_)
          · exact absurd (z2.symm.trans c50) (m1_ne (by omega))
          · refine ev_bipush (q := 55) (v := (-100)) dX9_line_53 rfl rfl ?_
            refine ev_aload0 (q := 56) dX9_line_55 rfl ?_
            refine ev_getR (q := 59) dX9_line_56 g_X9_50 (hW2 _ _ rfl) rfl rfl rfl ?_
            refine ev_getI (q := 62) dX9_line_59 g_X9_217 hfR2 rfl rfl ?_
            show EV G l kX9_line _ 4 84 62 _ [.int (rst V q z 29 3), .int (-100)] _ _
            rw [hzf]
            refine ev_isub (q := 63) dX9_line_62 rfl ?_
            have ea : a_line s sh = -100 - z := (if_neg hnsh).trans ((if_neg hne8).trans ((if_pos hft).trans (by rw [hfl, z2])))
            have en : n_line s sh b = s := (if_neg hnsh).trans ((if_neg hne8).trans (if_pos hft))
            rw [en]
            exact ev_ireturn dX9_line_63 rfl rfl (CP.rdr hS hN hE ⟨fR2, hfR2⟩ hfr ea)
      · have hL : ix (s 36 11) = 8 := by
          rcases Nat.lt_or_ge (ix (s 36 11)) 8 with w | w
          · exact absurd (show nI (ix (s 36 11)) < 8 from nI_lt w (by decide)) c20
          · omega
        have h8 : s 36 11 = 8 := by rw [hLS, hL]; rfl
        refine ev_bipush (q := 25) (v := (-2)) dX9_line_23 rfl rfl ?_
        exact ev_ireturn dX9_line_25 rfl rfl (CP.no hS hN ((if_neg hnsh).trans (if_pos h8)) ((if_neg hnsh).trans (if_pos h8)))
    · exact absurd c4 (by decide)
  · refine ev_if_ne (q := 7) (t := 9) dX9_line_4 rfl (by decide) (fun c4 => ?_) (fun c4 => ?_)
    · exact absurd c4 (by decide)
    · refine ev_iconst (q := 8) (v := (-1)) dX9_line_7 rfl rfl ?_
      exact ev_ireturn dX9_line_8 rfl rfl (CP.no hS hN (if_pos hp1) (if_pos hp1))
end C19
