/-! the class: lit, held, blind, span -/
theorem see_sn {V s : th_Vl} (h : eqL V s) : ∀ k, k < 5 → seeV V 12 17 k = sn s k := by
  intro k hk
  unfold seeV
  rw [sgV_i hk]
  show sS (V 12 k) (V 13 k) (V 14 k) = sS _ _ _
  rw [(h k hk).1, (h k hk).2.1, (h k hk).2.2]
theorem and_m1 (x : Int32) : x &&& ((0 : Int32) ^^^ (-1)) = x := tbit_ext (fun c hc => by rw [tbit_and, tbit_not _ hc, tbit_0]; simp)
theorem see_snD {V s : th_Vl} (h : eqL V s) : ∀ k, k < 5 → see0V V 17 k = snD s k := by
  intro k hk
  unfold see0V
  rw [sgV_i hk]
  show sS (V 12 k) 0 (V 14 k) = s 40 k &&& (s 42 k ^^^ (-1))
  unfold sS
  rw [and_m1, (h k hk).1, (h k hk).2.2]
theorem seeV_fr (V : th_Vl) (c : Nat) : frS V (seeV V c) := ((frS.rf.sg (by unfold scr; omega)).w (by unfold scr; omega)).w (by unfold scr; omega)
theorem see0V_fr (V : th_Vl) : frS V (see0V V) := ((frS.rf.sg (by unfold scr; omega)).w (by unfold scr; omega)).w (by unfold scr; omega)
theorem litF_litB {s : th_Vl} {f : Nat → Int32} (h : ∀ k, k < 5 → f k = sn s k) : litF f s = litB s := litF_f h
/-- a road alone changes -/
theorem RN.rd {V V' s s' : th_Vl} {N R L j : Nat} {SH : Nat → Option th_K0} {rd ld : Nat → Nat} {eR eL : Nat} (hS : RS N SH V R L rd ld eR eL) (h : RN V s R L rd ld) (hj : j < R) (hV : ∀ a, a ≠ rd j → a ≠ rd j + 1 → a ≠ rd j + 2 → V' a = V a) (hs : ∀ a, a ≠ 43 → a ≠ 44 → s' a = s a) (h1 : ∀ k, k < 5 * j ∨ 5 * j + 5 ≤ k → s' 43 k = s 43 k) (h2 : ∀ k, k ≠ j → s' 44 k = s 44 k) (hN : rdR V' s' (rd j) j) : RN V' s' R L rd ld := by
  obtain ⟨g1, g2, g3, g4, g5, g6, g7⟩ := h
  obtain ⟨-, -, -, -, -, -, -, -, k1, k3, k2, -⟩ := hS
  have hA := k1 j hj
  have hV' : ∀ a, a < 64 → V' a = V a := fun a ha => hV a (by have := hA.1; omega) (by have := hA.1; omega) (by have := hA.1; omega)
  refine ⟨fun q hq => (g1 q hq).c (hV' _ (by omega)) (hV' _ (by omega)) (hs _ (by omega) (by omega)) (hs _ (by omega) (by omega)) (hs _ (by omega) (by omega)), g2.c (hV' _ (by omega)) (hV' _ (by omega)) (hV' _ (by omega)) (hs _ (by omega) (by omega)) (hs _ (by omega) (by omega)) (hs _ (by omega) (by omega)), ?_, g4.c (hV' _ (by omega)) (hV' _ (by omega)) (hV' _ (by omega)) (hs _ (by omega) (by omega)) (hs _ (by omega) (by omega)) (hs _ (by omega) (by omega)), g5.c (hV' _ (by omega)) (hV' _ (by omega)) (by rw [hs 36 (by omega) (by omega)]) (hs _ (by omega) (by omega)), fun i hi => ?_, fun i hi => ?_⟩
  · unfold eqF at g3 ⊢
    rw [hV' 4 (by omega), hV' 31 (by omega), hs 36 (by omega) (by omega)]
    exact g3
  · by_cases e : i = j
    · rw [e]; exact hN
    · have hd : rd i + 3 ≤ rd j ∨ rd j + 3 ≤ rd i := by
        rcases Nat.lt_or_gt_of_ne e with z | z
        · exact Or.inl (k3 i j z hj)
        · exact Or.inr (k3 j i z hi)
      have q := g6 i hi
      unfold rdR at q ⊢
      rw [hV (rd i) (by omega) (by omega) (by omega), hV (rd i + 1) (by omega) (by omega) (by omega), hV (rd i + 2) (by omega) (by omega) (by omega), h2 i e]
      refine ⟨q.1, fun k hk => ?_⟩
      rw [h1 (5 * i + k) (by omega)]
      exact q.2 k hk
  · have hB := k2 i hi
    obtain ⟨-, -, ⟨fa, a0, -, -⟩, a1, a2⟩ := hA
    obtain ⟨-, -, ⟨fb, b0, -⟩, ⟨fc, b1, -⟩, b2⟩ := hB
    have ne : ∀ x y (cx cy : th_K0), SH x = some cx → SH y = some cy → cx ≠ cy → x ≠ y := fun x y cx cy e1 e2 e3 e4 => e3 (Option.some.inj (e1.symm.trans ((congrArg SH e4).trans e2)))
    exact (g7 i hi).c (hV _ (ne _ _ _ _ b0 a0 (by simp)) (ne _ _ _ _ b0 a1 (by simp)) (ne _ _ _ _ b0 a2 (by simp))) (hV _ (ne _ _ _ _ b1 a0 (by simp)) (ne _ _ _ _ b1 a1 (by simp)) (ne _ _ _ _ b1 a2 (by simp))) (hV _ (ne _ _ _ _ b2 a0 (by simp)) (ne _ _ _ _ b2 a1 (by simp)) (ne _ _ _ _ b2 a2 (by simp))) (hs _ (by omega) (by omega)) (hs _ (by omega) (by omega)) (hs _ (by omega) (by omega)) (hs _ (by omega) (by omega)) (hs _ (by omega) (by omega)) (hs _ (by omega) (by omega)) (hs _ (by omega) (by omega)) (hs _ (by omega) (by omega))
theorem sp_told (sp : Int32) : 100 * (sp / 100) + (sp - sp / 100 * 100) = sp := by
  rw [Int32.mul_comm 100, Int32.add_comm, Int32.sub_add_cancel]
section C6
variable {G : th_G} {l : Launch} {d : Nat} {N : Nat} {SH : Nat → Option th_K0} {V s : th_Vl}
theorem c_lit (hC : CR N SH V s) (hsp : bSp s) : MT G l yX9_lit kX9_lit (d + 5) 0 0 [.ref 4] (N, SH, V) (CP N SH V (a_lit s) s) := by
  refine MT.of (by decide) rfl rfl (n := 0) rfl (ls := [some (.ref 4)]) rfl ?_
  obtain ⟨rd, ld, eR, eL, hS, hN⟩ := hC
  have hW : wC SH := hS.1
  refine ev_aload0 (q := 1) dX9_lit_0 rfl ?_
  refine ev_getR (q := 4) dX9_lit_1 g_X9_36 (hW _ _ rfl) rfl rfl rfl ?_
  refine ev_aload0 (q := 5) dX9_lit_4 rfl ?_
  refine ev_getR (q := 8) dX9_lit_5 g_X9_16 (hW _ _ rfl) rfl rfl rfl ?_
  refine ev_aload0 (q := 9) dX9_lit_8 rfl ?_
  refine ev_getR (q := 12) dX9_lit_9 g_X9_20 (hW _ _ rfl) rfl rfl rfl ?_
  refine ev_aload0 (q := 13) dX9_lit_12 rfl ?_
  refine ev_getR (q := 16) dX9_lit_13 g_X9_23 (hW _ _ rfl) rfl rfl rfl ?_
  refine ev_cV (K := kX9_lit) (pc := 16) (q := 19) (c_see (d := d) hW (hW _ _ rfl) (by decide)) dX9_lit_16 l_X9_134 (hW _ _ rfl) rfl rfl (Nat.le_of_ble_eq_true rfl) (by omega) rfl rfl (fun r S1 hp => ?_)
  obtain ⟨rfl, rfl⟩ := hp
  have hf1 := seeV_fr V 12
  have hS1 := hS.c (V' := seeV V 12) (hf1 _ (by unfold scr; omega)) (hf1 _ (by unfold scr; omega))
  have hN1 := RN.fr hS hN hf1
  refine ev_aload0 (q := 20) dX9_lit_19 rfl ?_
  refine ev_getR (q := 23) dX9_lit_20 g_X9_36 (hW _ _ rfl) rfl rfl rfl ?_
  refine ev_aload0 (q := 24) dX9_lit_23 rfl ?_
  refine ev_getR (q := 27) dX9_lit_24 g_X9_29 (hW _ _ rfl) rfl rfl rfl ?_
  refine ev_cV (K := kX9_lit) (pc := 27) (q := 30) (c_light (d := d) hS1 hN1.2.2.2.2.2.1 hsp) dX9_lit_27 l_X9_138 (hW _ _ rfl) rfl rfl (Nat.le_of_ble_eq_true rfl) (Nat.le_refl _) rfl rfl (fun r S1 hp => ?_)
  obtain ⟨rfl, rfl⟩ := hp
  refine ev_aload0 (q := 31) dX9_lit_30 rfl ?_
  refine ev_getR (q := 34) dX9_lit_31 g_X9_36 (hW _ _ rfl) rfl rfl rfl ?_
  refine ev_getI (q := 37) dX9_lit_34 g_X9_142 (hW _ _ rfl) rfl rfl ?_
  exact ev_ireturn dX9_lit_37 rfl rfl (CP.same hS hN _ (hf1.w (by unfold scr; omega)) (by rw [a_lit, ← litF_litB (see_sn hN.2.1)]; rfl))
theorem c_held (hC : CR N SH V s) (hb : bRo s) (hsp : bSp s) (r : Int32) : MT G l yX9_held kX9_held (d + 4) 0 0 [.ref 4, .int r] (N, SH, V) (CP N SH V (a_held s r) s) := by
  refine MT.of (by decide) rfl rfl (n := 1) rfl (ls := [some (.ref 4), some (.int r), none]) rfl ?_
  obtain ⟨rd, ld, eR, eL, hS, hN⟩ := hC
  have hW : wC SH := hS.1
  refine ev_aload0 (q := 1) dX9_held_0 rfl ?_
  refine ev_iload1 (q := 2) dX9_held_1 rfl ?_
  refine ev_cV (K := kX9_held) (pc := 2) (q := 5) (c_roadAt (d := d) hS rfl hb r) dX9_held_2 l_X9_127 (hW _ _ rfl) rfl rfl (Nat.le_of_ble_eq_true rfl) (Nat.le_refl _) rfl rfl (fun r S1 hp => ?_)
  rcases hp with ⟨rfl, ⟨h0, rfl⟩ | ⟨h0, rfl⟩⟩
  · refine ev_astoreN2 (q := 6) dX9_held_5 rfl (by decide) rfl ?_
    refine ev_aloadN2 (q := 7) dX9_held_6 rfl ?_
    refine ev_ifnonnullN (q := 10) dX9_held_7 rfl ?_
    refine ev_iconst (q := 11) (v := (-1)) dX9_held_10 rfl rfl ?_
    exact ev_ireturn dX9_held_11 rfl rfl (CP.same hS hN V frS.rf (if_neg h0))
  · have hlt := isRd_lt hb h0
    have hix : ix r < ix (s 36 6) := by
      have := th_ixI hlt.1
      have := th_ixI hb.1
      omega
    have hA := hS.2.2.2.2.2.2.2.2.1 (ix r) hix
    have hA' := hA
    obtain ⟨h64, -, ⟨f, ha, -, -⟩, -, -⟩ := hA'
    refine ev_astore2 (q := 6) dX9_held_5 rfl (by decide) rfl ?_
    refine ev_aload2 (q := 7) dX9_held_6 rfl ?_
    refine ev_ifnonnull (q := 12) dX9_held_7 (by decide) ?_
    refine ev_aload0 (q := 13) dX9_held_12 rfl ?_
    refine ev_getR (q := 16) dX9_held_13 g_X9_36 (hW _ _ rfl) rfl rfl rfl ?_
    refine ev_aload0 (q := 17) dX9_held_16 rfl ?_
    refine ev_getR (q := 20) dX9_held_17 g_X9_16 (hW _ _ rfl) rfl rfl rfl ?_
    refine ev_aload0 (q := 21) dX9_held_20 rfl ?_
    refine ev_getR (q := 24) dX9_held_21 g_X9_20 (hW _ _ rfl) rfl rfl rfl ?_
    refine ev_aload0 (q := 25) dX9_held_24 rfl ?_
    refine ev_getR (q := 28) dX9_held_25 g_X9_23 (hW _ _ rfl) rfl rfl rfl ?_
    refine ev_cV (K := kX9_held) (pc := 28) (q := 31) (c_see (d := d) hW (hW _ _ rfl) (by decide)) dX9_held_28 l_X9_134 (hW _ _ rfl) rfl rfl (Nat.le_of_ble_eq_true rfl) (by omega) rfl rfl (fun r S1 hp => ?_)
    obtain ⟨rfl, rfl⟩ := hp
    have hf1 := seeV_fr V 12
    have hN1 := RN.fr hS hN hf1
    refine ev_aload2 (q := 32) dX9_held_31 rfl ?_
    refine ev_aload0 (q := 33) dX9_held_32 rfl ?_
    refine ev_getR (q := 36) dX9_held_33 g_X9_36 (hW _ _ rfl) rfl rfl rfl ?_
    refine ev_getR (q := 39) dX9_held_36 g_X9_146 (hW _ _ rfl) rfl rfl rfl ?_
    refine ev_cV (K := kX9_held) (pc := 39) (q := 42) (c_layersHeld (d := d) hA (hW _ _ rfl) (hN1.2.2.2.2.2.1 (ix r) hix) (hsp (ix r) hix)) dX9_held_39 l_X9_149 ha rfl rfl (Nat.le_of_ble_eq_true rfl) (by omega) rfl rfl (fun r S1 hp => ?_)
    obtain ⟨rfl, rfl⟩ := hp
    exact ev_ireturn dX9_held_42 rfl rfl (CP.same hS hN _ hf1 ((if_pos h0).trans (hm_f 5 (fun k hk => (see_sn hN.2.1 k hk).symm))))
theorem c_blind (hC : CR N SH V s) (hsp : bSp s) : MT G l yX9_blind kX9_blind (d + 5) 0 0 [.ref 4] (N, SH, V) (CP N SH V (a_blind s) s) := by
  refine MT.of (by decide) rfl rfl (n := 1) rfl (ls := [some (.ref 4), none]) rfl ?_
  obtain ⟨rd, ld, eR, eL, hS, hN⟩ := hC
  have hW : wC SH := hS.1
  have hR12 : ix (s 36 6) ≤ 12 := hS.2.2.2.1
  refine ev_aload0 (q := 1) dX9_blind_0 rfl ?_
  refine ev_getR (q := 4) dX9_blind_1 g_X9_36 (hW _ _ rfl) rfl rfl rfl ?_
  refine ev_aload0 (q := 5) dX9_blind_4 rfl ?_
  refine ev_getR (q := 8) dX9_blind_5 g_X9_16 (hW _ _ rfl) rfl rfl rfl ?_
  refine ev_getNC (q := 11) dX9_blind_8 sl_X9_194 rfl ?_
  refine ev_aload0 (q := 12) dX9_blind_11 rfl ?_
  refine ev_getR (q := 15) dX9_blind_12 g_X9_23 (hW _ _ rfl) rfl rfl rfl ?_
  refine ev_cV (K := kX9_blind) (pc := 15) (q := 18) (c_see0 (d := d) hW) dX9_blind_15 l_X9_134 (hW _ _ rfl) rfl rfl (Nat.le_of_ble_eq_true rfl) (by omega) rfl rfl (fun r S1 hp => ?_)
  obtain ⟨rfl, rfl⟩ := hp
  have hf1 := see0V_fr V
  have hS1 := hS.c (V' := see0V V) (hf1 _ (by unfold scr; omega)) (hf1 _ (by unfold scr; omega))
  have hN1 := RN.fr hS hN hf1
  refine ev_aload0 (q := 19) dX9_blind_18 rfl ?_
  refine ev_getR (q := 22) dX9_blind_19 g_X9_36 (hW _ _ rfl) rfl rfl rfl ?_
  refine ev_aload0 (q := 23) dX9_blind_22 rfl ?_
  refine ev_getR (q := 26) dX9_blind_23 g_X9_29 (hW _ _ rfl) rfl rfl rfl ?_
  refine ev_cV (K := kX9_blind) (pc := 26) (q := 29) (c_light (d := d) hS1 hN1.2.2.2.2.2.1 hsp) dX9_blind_26 l_X9_138 (hW _ _ rfl) rfl rfl (Nat.le_of_ble_eq_true rfl) (Nat.le_refl _) rfl rfl (fun r S1 hp => ?_)
  obtain ⟨rfl, rfl⟩ := hp
  have e1 : lm (litF (see0V V 17) s) (ix (s 36 6)) = lm (litF (snD s) s) (ix (s 36 6)) := by rw [litF_f (see_snD hN.2.1)]
  rw [e1]
  generalize hV2 : th_w (see0V V) 16 5 (lm (litF (snD s) s) (ix (s 36 6))) = V2
  have hf2 : frS V V2 := by rw [← hV2]; exact hf1.w (by unfold scr; omega)
  have hS2 := hS.c (V' := V2) (hf2 _ (by unfold scr; omega)) (hf2 _ (by unfold scr; omega))
  have hN2 := RN.fr hS hN hf2
  have e2 : V2 16 5 = lm (litF (snD s) s) (ix (s 36 6)) := by rw [← hV2]; rfl
  clear hV2
  refine ev_aload0 (q := 30) dX9_blind_29 rfl ?_
  refine ev_getR (q := 33) dX9_blind_30 g_X9_36 (hW _ _ rfl) rfl rfl rfl ?_
  refine ev_getI (q := 36) dX9_blind_33 g_X9_142 (hW _ _ rfl) rfl rfl ?_
  show EV G l kX9_blind _ 0 0 36 _ [.int (V2 16 5)] _ _
  rw [e2]
  refine ev_istore1 (q := 37) dX9_blind_36 rfl (by decide) rfl ?_
  refine ev_aload0 (q := 38) dX9_blind_37 rfl ?_
  refine ev_getR (q := 41) dX9_blind_38 g_X9_36 (hW _ _ rfl) rfl rfl rfl ?_
  refine ev_aload0 (q := 42) dX9_blind_41 rfl ?_
  refine ev_getR (q := 45) dX9_blind_42 g_X9_16 (hW _ _ rfl) rfl rfl rfl ?_
  refine ev_aload0 (q := 46) dX9_blind_45 rfl ?_
  refine ev_getR (q := 49) dX9_blind_46 g_X9_20 (hW _ _ rfl) rfl rfl rfl ?_
  refine ev_aload0 (q := 50) dX9_blind_49 rfl ?_
  refine ev_getR (q := 53) dX9_blind_50 g_X9_23 (hW _ _ rfl) rfl rfl rfl ?_
  refine ev_cV (K := kX9_blind) (pc := 53) (q := 56) (c_see (d := d) hW (hW _ _ rfl) (by decide)) dX9_blind_53 l_X9_134 (hW _ _ rfl) rfl rfl (Nat.le_of_ble_eq_true rfl) (by omega) rfl rfl (fun r S1 hp => ?_)
  obtain ⟨rfl, rfl⟩ := hp
  have hf3 := seeV_fr V2 12
  have hS3 := hS2.c (V' := seeV V2 12) (hf3 _ (by unfold scr; omega)) (hf3 _ (by unfold scr; omega))
  have hN3 := RN.fr hS2 hN2 hf3
  refine ev_aload0 (q := 57) dX9_blind_56 rfl ?_
  refine ev_getR (q := 60) dX9_blind_57 g_X9_36 (hW _ _ rfl) rfl rfl rfl ?_
  refine ev_aload0 (q := 61) dX9_blind_60 rfl ?_
  refine ev_getR (q := 64) dX9_blind_61 g_X9_29 (hW _ _ rfl) rfl rfl rfl ?_
  refine ev_cV (K := kX9_blind) (pc := 64) (q := 67) (c_light (d := d) hS3 hN3.2.2.2.2.2.1 hsp) dX9_blind_64 l_X9_138 (hW _ _ rfl) rfl rfl (Nat.le_of_ble_eq_true rfl) (Nat.le_refl _) rfl rfl (fun r S1 hp => ?_)
  obtain ⟨rfl, rfl⟩ := hp
  refine ev_iload1 (q := 68) dX9_blind_67 rfl ?_
  refine ev_aload0 (q := 69) dX9_blind_68 rfl ?_
  refine ev_getR (q := 72) dX9_blind_69 g_X9_36 (hW _ _ rfl) rfl rfl rfl ?_
  refine ev_getI (q := 75) dX9_blind_72 g_X9_142 (hW _ _ rfl) rfl rfl ?_
  refine ev_iconst (q := 76) (v := (-1)) dX9_blind_75 rfl rfl ?_
  refine ev_ixor (q := 77) dX9_blind_76 rfl ?_
  refine ev_iand (q := 78) dX9_blind_77 rfl ?_
  have e3 : litF (seeV V2 12 17) s = litB s := litF_litB (see_sn hN2.2.1)
  exact ev_ireturn dX9_blind_78 rfl rfl (CP.same hS hN _ ((hf2.tr hf3).w (by unfold scr; omega)) (by
  show a_blind s = lm (litF (snD s) s) (ix (s 36 6)) &&& (lm (litF (seeV V2 12 17) s) (ix (s 36 6)) ^^^ (-1))
  rw [e3]
  refine tbit_ext (fun c hc => ?_)
  rw [a_blind, tbit_and, tbit_not _ hc, tbit_lm _ (by omega), tbit_lm _ (by omega), tbit_lm _ (by omega)]
  show (decide (c < ix (s 36 6)) && (!litB s c && litF (snD s) s c)) = _
  cases decide (c < ix (s 36 6)) <;> cases litB s c <;> cases litF (snD s) s c <;> rfl))
theorem c_span (hC : CR N SH V s) (hb : bRo s) (r x v : Int32) : MT G l yX9_span kX9_span (d + 4) 0 0 [.ref 4, .int r, .int x, .int v] (N, SH, V) (CP N SH V (a_span s r x v) (n_span s r x v)) := by
  refine MT.of (by decide) rfl rfl (n := 2) rfl (ls := [some (.ref 4), some (.int r), some (.int x), some (.int v), none, none]) rfl ?_
  obtain ⟨rd, ld, eR, eL, hS, hN⟩ := hC
  have hW : wC SH := hS.1
  refine ev_aload0 (q := 1) dX9_span_0 rfl ?_
  refine ev_iload1 (q := 2) dX9_span_1 rfl ?_
  refine ev_cV (K := kX9_span) (pc := 2) (q := 5) (c_roadAt (d := d) hS rfl hb r) dX9_span_2 l_X9_127 (hW _ _ rfl) rfl rfl (Nat.le_of_ble_eq_true rfl) (Nat.le_refl _) rfl rfl (fun r S1 hp => ?_)
  rcases hp with ⟨rfl, ⟨h0, rfl⟩ | ⟨h0, rfl⟩⟩
  · refine ev_astoreN4 (q := 7) dX9_span_5 rfl (by decide) rfl ?_
    refine ev_aloadN4 (q := 9) dX9_span_7 rfl ?_
    refine ev_ifnullN (q := 26) dX9_span_9 (by decide) ?_
    refine ev_iconst (q := 27) (v := (-1)) dX9_span_26 rfl rfl ?_
    exact ev_ireturn dX9_span_27 rfl rfl (CP.no hS hN (if_neg (fun h => h0 h.1)) (if_neg (fun h => h0 h.1)))
  · have hlt := isRd_lt hb h0
    have hix : ix r < ix (s 36 6) := by
      have := th_ixI hlt.1
      have := th_ixI hb.1
      omega
    have hA := hS.2.2.2.2.2.2.2.2.1 (ix r) hix
    have hA' := hA
    obtain ⟨h64, -, ⟨f, ha, -, -⟩, -, -⟩ := hA'
    refine ev_astore4 (q := 7) dX9_span_5 rfl (by decide) rfl ?_
    refine ev_aload4 (q := 9) dX9_span_7 rfl ?_
    refine ev_ifnull (q := 12) dX9_span_9 rfl ?_
    refine ev_iload2 (q := 13) dX9_span_12 rfl ?_
    refine ev_cS (K := kX9_span) (pc := 13) (q := 16) (c_isLayer _) dX9_span_13 l_X9_86 rfl (Nat.le_of_ble_eq_true rfl) (Nat.le_refl _) rfl rfl (fun r S1 hp => ?_)
    rcases hp with ⟨rfl, ⟨hp13, rfl⟩ | ⟨hp13, rfl⟩⟩
    · refine ev_if_eq (q := 19) (t := 26) dX9_span_16 rfl (by decide) (fun c16 => ?_) (fun c16 => ?_)
      · exact absurd c16 (by decide)
      · refine ev_iload3 (q := 20) dX9_span_19 rfl ?_
        refine ev_cS (K := kX9_span) (pc := 20) (q := 23) (c_isSpan _) dX9_span_20 l_X9_106 rfl (Nat.le_of_ble_eq_true rfl) (Nat.le_refl _) rfl rfl (fun r S1 hp => ?_)
        rcases hp with ⟨rfl, ⟨hp20, rfl⟩ | ⟨hp20, rfl⟩⟩
        · refine ev_if_ne (q := 26) (t := 28) dX9_span_23 rfl (by decide) (fun c23 => ?_) (fun c23 => ?_)
          · have hx5 : ix x < 5 := th_lt hp13.1 (by have := hp13.2; omega)
            refine ev_aload4 (q := 30) dX9_span_28 rfl ?_
            refine ev_iload2 (q := 31) dX9_span_30 rfl ?_
            refine ev_cV (K := kX9_span) (pc := 31) (q := 34) (c_spanTold (d := d) hA hx5 (th_self hp13.1)) dX9_span_31 l_X9_131 ha rfl rfl (Nat.le_of_ble_eq_true rfl) (by omega) rfl rfl (fun r S1 hp => ?_)
            obtain ⟨rfl, rfl⟩ := hp
            have hq := (hN.2.2.2.2.2.1 (ix r) hix).2 (ix x) hx5
            rw [hq.1, hq.2, sp_told]
            refine ev_istore5 (q := 36) dX9_span_34 rfl (by decide) rfl ?_
            refine ev_aload4 (q := 38) dX9_span_36 rfl ?_
            refine ev_iload2 (q := 39) dX9_span_38 rfl ?_
            refine ev_iload3 (q := 40) dX9_span_39 rfl ?_
            refine ev_cV (K := kX9_span) (pc := 40) (q := 43) (c_setSpan (d := d) hA hx5 (th_self hp13.1) hp20) dX9_span_40 l_X9_120 ha rfl rfl (Nat.le_of_ble_eq_true rfl) (by omega) rfl rfl (fun r S1 hp => ?_)
            obtain ⟨rfl, rfl⟩ := hp
            refine ev_iload5 (q := 45) dX9_span_43 rfl ?_
            rw [show n_span s r x v = _ from if_pos ⟨h0, hp13, hp20⟩]
            refine ev_ireturn dX9_span_45 rfl rfl (CP.mk _ (if_pos ⟨h0, hp13, hp20⟩) hS ?_ ?_ rfl rfl (RN.rd hS hN hix ?_ ?_ ?_ ?_ ?_) ?_)
            · rw [th_w_ne (by omega), th_w_ne (by omega)]
            · rw [th_w_ne (by omega), th_w_ne (by omega)]
            · intro a z1 z2 z3
              rw [th_w_ne z3, th_w_ne z2]
            · intro a z1 z2
              rw [th_w_ne z1]
            · intro k hk
              rw [th_w_j (by omega)]
            · intro k hk
              rfl
            · have q := hN.2.2.2.2.2.1 (ix r) hix
              refine ⟨?_, fun k hk => ?_⟩
              · rw [th_w_ne (by omega), th_w_ne (by omega)]
                exact q.1
              · by_cases e : k = ix x
                · subst e
                  rw [th_w_ne (a := rd (ix r) + 2) (by omega), th_w_if, if_pos ⟨rfl, rfl⟩, th_w_if, if_pos ⟨rfl, rfl⟩, th_w_if, if_pos ⟨rfl, rfl⟩]
                  exact ⟨rfl, rfl⟩
                · rw [th_w_ne (a := rd (ix r) + 2) (by omega), th_w_j e, th_w_j e, th_w_ne (a := rd (ix r) + 1) (by omega), th_w_j (by omega)]
                  exact q.2 k hk
            · exact (FC.rf.w (by omega)).w (by omega)
          · exact absurd c23 (by decide)
        · refine ev_if_ne (q := 26) (t := 28) dX9_span_23 rfl (by decide) (fun c23 => ?_) (fun c23 => ?_)
          · exact absurd c23 (by decide)
          · refine ev_iconst (q := 27) (v := (-1)) dX9_span_26 rfl rfl ?_
            exact ev_ireturn dX9_span_27 rfl rfl (CP.no hS hN (if_neg (fun h => hp20 h.2.2)) (if_neg (fun h => hp20 h.2.2)))
    · refine ev_if_eq (q := 19) (t := 26) dX9_span_16 rfl (by decide) (fun c16 => ?_) (fun c16 => ?_)
      · refine ev_iconst (q := 27) (v := (-1)) dX9_span_26 rfl rfl ?_
        exact ev_ireturn dX9_span_27 rfl rfl (CP.no hS hN (if_neg (fun h => hp13 h.2.1)) (if_neg (fun h => hp13 h.2.1)))
      · exact absurd c16 (by decide)
end C6
