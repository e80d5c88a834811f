/-! the class: mask, layer, thin, of, many -/
theorem eqL.dead {V s : th_Vl} (h : eqL V s) (k : Nat) (b : Int32) : eqL (th_w V 13 k b) (th_w s 41 k b) := fun j hj => by
  have := h j hj
  refine ⟨this.1, ?_, this.2.2⟩
  rw [th_w_if, th_w_if]
  by_cases e : j = k
  · rw [if_pos ⟨rfl, e⟩, if_pos ⟨rfl, e⟩]
  · rw [if_neg (fun z => e z.2), if_neg (fun z => e z.2)]; exact this.2.1
theorem eqL.noisy {V s : th_Vl} (h : eqL V s) (k : Nat) (b : Int32) : eqL (th_w V 14 k b) (th_w s 42 k b) := fun j hj => by
  have := h j hj
  refine ⟨this.1, this.2.1, ?_⟩
  rw [th_w_if, th_w_if]
  by_cases e : j = k
  · rw [if_pos ⟨rfl, e⟩, if_pos ⟨rfl, e⟩]
  · rw [if_neg (fun z => e z.2), if_neg (fun z => e z.2)]; exact this.2.2
theorem lnR.p {V V' s s' : th_Vl} {a j : Nat} (h : lnR V s a j) (e1 : V' a = V a) (e2 : V' (a + 1) = V (a + 1)) (e3 : V' (a + 2) = V (a + 2)) (q : ∀ x, 47 ≤ x → x ≤ 53 → s' x j = s x j) (q8 : ∀ k, s' 46 (60 * j + k) = s 46 (60 * j + k)) : lnR V' s' a j := by
  unfold lnR at h ⊢
  rw [e1, e2, e3, q 49 (by decide) (by decide), q 48 (by decide) (by decide), q 50 (by decide) (by decide), q 51 (by decide) (by decide), q 52 (by decide) (by decide), q 53 (by decide) (by decide), q 47 (by decide) (by decide)]
  exact ⟨h.1, h.2.1, fun k hk => by rw [q8]; exact h.2.2 k hk⟩
/-- lines alone change -/
theorem RN.lns {V V' s s' : th_Vl} {N R L : Nat} {SH : Nat → Option th_K0} {rd ld : Nat → Nat} {eR eL : Nat} (hS : RS N SH V R L rd ld eR eL) (h : RN V s R L rd ld) (hV : ∀ a, (∀ j, j < L → a ≠ ld j) → V' a = V a) (hs : ∀ a, a < 48 ∨ 53 < a → s' a = s a) (hN : ∀ j, j < L → lnR V' s' (ld j) j) : RN V' s' R L rd ld := by
  obtain ⟨g1, g2, g3, g4, g5, g6, g7⟩ := h
  obtain ⟨-, -, -, -, -, -, -, -, k1, k3, k2, -⟩ := hS
  have hV' : ∀ a, a < 64 → V' a = V a := fun a ha => hV a (fun j hj e => by have := (k2 j hj).1; omega)
  refine ⟨fun q hq => (g1 q hq).c (hV' _ (by omega)) (hV' _ (by omega)) (hs _ (by omega)) (hs _ (by omega)) (hs _ (by omega)), g2.c (hV' _ (by omega)) (hV' _ (by omega)) (hV' _ (by omega)) (hs _ (by omega)) (hs _ (by omega)) (hs _ (by omega)), ?_, g4.c (hV' _ (by omega)) (hV' _ (by omega)) (hV' _ (by omega)) (hs _ (by omega)) (hs _ (by omega)) (hs _ (by omega)), g5.c (hV' _ (by omega)) (hV' _ (by omega)) (by rw [hs 36 (by omega)]) (hs _ (by omega)), fun i hi => ?_, hN⟩
  · unfold eqF at g3 ⊢
    rw [hV' 4 (by omega), hV' 31 (by omega), hs 36 (by omega)]
    exact g3
  · have hA := k1 i hi
    obtain ⟨-, -, ⟨fa, a0, -, -⟩, a1, a2⟩ := hA
    have ne : ∀ x (cx : th_K0), SH x = some cx → (∀ f, cx ≠ .inr (2, f)) → ∀ j, j < L → x ≠ ld j := fun x cx e1 e2 j hj e4 => by
      obtain ⟨-, -, ⟨fb, b0, -⟩, -, -⟩ := k2 j hj
      rw [e4] at e1
      exact e2 fb (Option.some.inj (e1.symm.trans b0))
    exact (g6 i hi).c (hV _ (ne _ _ a0 (by simp))) (hV _ (ne _ _ a1 (by simp))) (hV _ (ne _ _ a2 (by simp))) (hs _ (by omega)) (hs _ (by omega))
theorem RS.ldne {N : Nat} {SH : Nat → Option th_K0} {V : th_Vl} {R L : Nat} {rd ld : Nat → Nat} {eR eL : Nat} (hS : RS N SH V R L rd ld eR eL) {i j : Nat} (hi : i < L) (hj : j < L) (h : i ≠ j) : ld i + 3 ≤ ld j ∨ ld j + 3 ≤ ld i := by
  have k := hS.2.2.2.2.2.2.2.2.2.2.2
  rcases Nat.lt_or_gt_of_ne h with z | z
  · exact Or.inl (k i j z hj)
  · exact Or.inr (k j i z hi)
theorem imin_rws {s : th_Vl} : imin (s 36 22) 30 = rws s := by
  unfold imin rws
  by_cases h : (30 : Int32) < s 36 22
  · rw [if_pos h, if_pos (i_le.mpr (Int.le_of_lt (i_lt.mp h)))]
  · rw [if_neg h]
    by_cases h2 : (30 : Int32) ≤ s 36 22
    · rw [if_pos h2]
      have e1 := i_nlt h
      have e2 := i_le.mp h2
      exact Int32.toInt_inj.mp (Int.le_antisymm e1 e2)
    · rw [if_neg h2]
section C7
variable {G : th_G} {l : Launch} {d : Nat} {N : Nat} {SH : Nat → Option th_K0} {V s : th_Vl}
theorem c_mask (hC : CR N SH V s) (x w b : Int32) : MT G l yX9_mask kX9_mask (d + 1) 0 0 [.ref 4, .int x, .int w, .int b] (N, SH, V) (CP N SH V (a_mask s x w b) (n_mask s x w b)) := by
  refine MT.of (by decide) rfl rfl (n := 2) rfl (ls := [some (.ref 4), some (.int x), some (.int w), some (.int b), none, none]) rfl ?_
  obtain ⟨rd, ld, eR, eL, hS, hN⟩ := hC
  have hW : wC SH := hS.1
  have e0 : (0 : Int32).toInt = 0 := by decide
  have e1 : (1 : Int32).toInt = 1 := by decide
  have hD : RN (th_w V 13 (ix x) b) (th_w s 41 (ix x) b) (ix (s 36 6)) (ix (s 36 11)) rd ld := RN.L hS hN (fun a ha => th_w_ne (by omega)) (fun a ha => th_w_ne (by omega)) (hN.2.1.dead _ _)
  have hZ : RN (th_w V 14 (ix x) b) (th_w s 42 (ix x) b) (ix (s 36 6)) (ix (s 36 11)) rd ld := RN.L hS hN (fun a ha => th_w_ne (by omega)) (fun a ha => th_w_ne (by omega)) (hN.2.1.noisy _ _)
  refine ev_iload1 (q := 1) dX9_mask_0 rfl ?_
  refine ev_cS (K := kX9_mask) (pc := 1) (q := 4) (c_isLayer _) dX9_mask_1 l_X9_86 rfl (Nat.le_of_ble_eq_true rfl) (Nat.le_refl _) rfl rfl (fun r S1 hp => ?_)
  rcases hp with ⟨rfl, ⟨hp1, rfl⟩ | ⟨hp1, rfl⟩⟩
  · refine ev_if_eq (q := 7) (t := 23) dX9_mask_4 rfl (by decide) (fun c4 => ?_) (fun c4 => ?_)
    · exact absurd c4 (by decide)
    · refine ev_iload2 (q := 8) dX9_mask_7 rfl ?_
      refine ev_if_lt (q := 11) (t := 23) dX9_mask_8 rfl (by decide) (fun c8 => ?_) (fun c8 => ?_)
      · refine ev_iconst (q := 24) (v := (-1)) dX9_mask_23 rfl rfl ?_
        exact ev_ireturn dX9_mask_24 rfl rfl (CP.no hS hN (if_neg (fun h => by have := i_lt.mp c8; have := h.2.1.1; omega)) (if_neg (fun h => by have := i_lt.mp c8; have := h.2.1.1; omega)))
      · refine ev_iload2 (q := 12) dX9_mask_11 rfl ?_
        refine ev_iconst (q := 13) (v := 1) dX9_mask_12 rfl rfl ?_
        refine ev_icmp_gt (q := 16) (t := 23) dX9_mask_13 rfl (by decide) (fun c13 => ?_) (fun c13 => ?_)
        · refine ev_iconst (q := 24) (v := (-1)) dX9_mask_23 rfl rfl ?_
          exact ev_ireturn dX9_mask_24 rfl rfl (CP.no hS hN (if_neg (fun h => by have := i_lt.mp c13; have := h.2.1.2; omega)) (if_neg (fun h => by have := i_lt.mp c13; have := h.2.1.2; omega)))
        · refine ev_iload3 (q := 17) dX9_mask_16 rfl ?_
          refine ev_cS (K := kX9_mask) (pc := 17) (q := 20) (c_areCells _) dX9_mask_17 l_X9_89 rfl (Nat.le_of_ble_eq_true rfl) (Nat.le_refl _) rfl rfl (fun r S1 hp => ?_)
          rcases hp with ⟨rfl, ⟨hp17, rfl⟩ | ⟨hp17, rfl⟩⟩
          · refine ev_if_ne (q := 23) (t := 25) dX9_mask_20 rfl (by decide) (fun c20 => ?_) (fun c20 => ?_)
            · have hw : inR w 0 1 := by have := i_nlt c8; have := i_nlt c13; constructor <;> omega
              have hx5 : ix x < 5 := th_lt hp1.1 (by have := hp1.2; omega)
              refine ev_iload2 (q := 26) dX9_mask_25 rfl ?_
              refine ev_if_ne (q := 29) (t := 36) dX9_mask_26 rfl (by decide) (fun c26 => ?_) (fun c26 => ?_)
              · refine ev_aload0 (q := 37) dX9_mask_36 rfl ?_
                refine ev_getR (q := 40) dX9_mask_37 g_X9_23 (hW _ _ rfl) rfl rfl rfl ?_
                refine ev_astore4 (q := 42) dX9_mask_40 rfl (by decide) rfl ?_
                refine ev_aload4 (q := 44) dX9_mask_42 rfl ?_
                refine ev_iload1 (q := 45) dX9_mask_44 rfl ?_
                refine ev_iald (q := 46) dX9_mask_45 (hW _ _ rfl) (th_self hp1.1) hx5 (by decide) rfl ?_
                refine ev_istore5 (q := 48) dX9_mask_46 rfl (by decide) rfl ?_
                refine ev_aload4 (q := 50) dX9_mask_48 rfl ?_
                refine ev_iload1 (q := 51) dX9_mask_50 rfl ?_
                refine ev_iload3 (q := 52) dX9_mask_51 rfl ?_
                refine ev_iast (q := 53) dX9_mask_52 (hW _ _ rfl) (th_self hp1.1) hx5 (by decide) rfl ?_
                refine ev_iload5 (q := 55) dX9_mask_53 rfl ?_
                exact ev_ireturn dX9_mask_55 rfl rfl (by rw [show n_mask s x w b = _ from (if_pos ⟨hp1, hw, hp17⟩).trans (if_neg c26)]; exact CP.mk (th_w V 14 (ix x) b) (((if_pos ⟨hp1, hw, hp17⟩).trans (if_neg c26)).trans (hN.2.1 _ hx5).2.2.symm) hS rfl rfl rfl rfl hZ (FC.rf.w (by decide)))
              · refine ev_aload0 (q := 30) dX9_mask_29 rfl ?_
                refine ev_getR (q := 33) dX9_mask_30 g_X9_20 (hW _ _ rfl) rfl rfl rfl ?_
                refine ev_goto (q := 40) dX9_mask_33 (by decide) ?_
                refine ev_astore4 (q := 42) dX9_mask_40 rfl (by decide) rfl ?_
                refine ev_aload4 (q := 44) dX9_mask_42 rfl ?_
                refine ev_iload1 (q := 45) dX9_mask_44 rfl ?_
                refine ev_iald (q := 46) dX9_mask_45 (hW _ _ rfl) (th_self hp1.1) hx5 (by decide) rfl ?_
                refine ev_istore5 (q := 48) dX9_mask_46 rfl (by decide) rfl ?_
                refine ev_aload4 (q := 50) dX9_mask_48 rfl ?_
                refine ev_iload1 (q := 51) dX9_mask_50 rfl ?_
                refine ev_iload3 (q := 52) dX9_mask_51 rfl ?_
                refine ev_iast (q := 53) dX9_mask_52 (hW _ _ rfl) (th_self hp1.1) hx5 (by decide) rfl ?_
                refine ev_iload5 (q := 55) dX9_mask_53 rfl ?_
                exact ev_ireturn dX9_mask_55 rfl rfl (by rw [show n_mask s x w b = _ from (if_pos ⟨hp1, hw, hp17⟩).trans (if_pos c26)]; exact CP.mk (th_w V 13 (ix x) b) (((if_pos ⟨hp1, hw, hp17⟩).trans (if_pos c26)).trans (hN.2.1 _ hx5).2.1.symm) hS rfl rfl rfl rfl hD (FC.rf.w (by decide)))
            · exact absurd c20 (by decide)
          · refine ev_if_ne (q := 23) (t := 25) dX9_mask_20 rfl (by decide) (fun c20 => ?_) (fun c20 => ?_)
            · exact absurd c20 (by decide)
            · refine ev_iconst (q := 24) (v := (-1)) dX9_mask_23 rfl rfl ?_
              exact ev_ireturn dX9_mask_24 rfl rfl (CP.no hS hN (if_neg (fun h => hp17 h.2.2)) (if_neg (fun h => hp17 h.2.2)))
  · refine ev_if_eq (q := 7) (t := 23) dX9_mask_4 rfl (by decide) (fun c4 => ?_) (fun c4 => ?_)
    · refine ev_iconst (q := 24) (v := (-1)) dX9_mask_23 rfl rfl ?_
      exact ev_ireturn dX9_mask_24 rfl rfl (CP.no hS hN (if_neg (fun h => hp1 h.1)) (if_neg (fun h => hp1 h.1)))
    · exact absurd c4 (by decide)
theorem c_layer (hC : CR N SH V s) (x w : Int32) : MT G l yX9_layer kX9_layer (d + 1) 0 0 [.ref 4, .int x, .int w] (N, SH, V) (CP N SH V (a_layer s x w) s) := by
  refine MT.of (by decide) rfl rfl (n := 0) rfl (ls := [some (.ref 4), some (.int x), some (.int w)]) rfl ?_
  obtain ⟨rd, ld, eR, eL, hS, hN⟩ := hC
  have hW : wC SH := hS.1
  refine ev_iload1 (q := 1) dX9_layer_0 rfl ?_
  refine ev_cS (K := kX9_layer) (pc := 1) (q := 4) (c_isLayer _) dX9_layer_1 l_X9_86 rfl (Nat.le_of_ble_eq_true rfl) (Nat.le_refl _) rfl rfl (fun r S1 hp => ?_)
  rcases hp with ⟨rfl, ⟨hp1, rfl⟩ | ⟨hp1, rfl⟩⟩
  · refine ev_if_ne (q := 7) (t := 9) dX9_layer_4 rfl (by decide) (fun c4 => ?_) (fun c4 => ?_)
    · have hx5 : ix x < 5 := th_lt hp1.1 (by have := hp1.2; omega)
      obtain ⟨q1, q2, q3⟩ := hN.2.1 _ hx5
      refine ev_iload2 (q := 10) dX9_layer_9 rfl ?_
      by_cases hsw10 : (w).toInt < 0 ∨ 3 < (w).toInt
      · refine ev_tableOut (q := 86) dX9_layer_10 hsw10 (by decide) ?_
        refine ev_iconst (q := 87) (v := (-1)) dX9_layer_86 rfl rfl ?_
        exact ev_ireturn dX9_layer_87 rfl rfl (CP.same hS hN V frS.rf ((if_neg (not_not_intro hp1)).trans ((if_neg (th_out3 hsw10).1).trans ((if_neg (th_out3 hsw10).2.1).trans ((if_neg (th_out3 hsw10).2.2.1).trans (if_neg (th_out3 hsw10).2.2.2))))))
      · have hsv10 : w = 0 ∨ w = 1 ∨ w = 2 ∨ w = 3 := th_sw3 hsw10
        rcases hsv10 with rfl | rfl | rfl | rfl
        · refine ev_tableIn (q := 40) dX9_layer_10 (by decide) (by decide) rfl (by decide) ?_
          refine ev_aload0 (q := 41) dX9_layer_40 rfl ?_
          refine ev_getR (q := 44) dX9_layer_41 g_X9_16 (hW _ _ rfl) rfl rfl rfl ?_
          refine ev_iload1 (q := 45) dX9_layer_44 rfl ?_
          refine ev_iald (q := 46) dX9_layer_45 (hW _ _ rfl) (th_self hp1.1) hx5 (by decide) rfl ?_
          exact ev_ireturn dX9_layer_46 rfl rfl (CP.same hS hN V frS.rf ((if_neg (not_not_intro hp1)).trans q1.symm))
        · refine ev_tableIn (q := 47) dX9_layer_10 (by decide) (by decide) rfl (by decide) ?_
          refine ev_aload0 (q := 48) dX9_layer_47 rfl ?_
          refine ev_getR (q := 51) dX9_layer_48 g_X9_16 (hW _ _ rfl) rfl rfl rfl ?_
          refine ev_iload1 (q := 52) dX9_layer_51 rfl ?_
          refine ev_iald (q := 53) dX9_layer_52 (hW _ _ rfl) (th_self hp1.1) hx5 (by decide) rfl ?_
          refine ev_aload0 (q := 54) dX9_layer_53 rfl ?_
          refine ev_getR (q := 57) dX9_layer_54 g_X9_20 (hW _ _ rfl) rfl rfl rfl ?_
          refine ev_iload1 (q := 58) dX9_layer_57 rfl ?_
          refine ev_iald (q := 59) dX9_layer_58 (hW _ _ rfl) (th_self hp1.1) hx5 (by decide) rfl ?_
          refine ev_iconst (q := 60) (v := (-1)) dX9_layer_59 rfl rfl ?_
          refine ev_ixor (q := 61) dX9_layer_60 rfl ?_
          refine ev_iand (q := 62) dX9_layer_61 rfl ?_
          refine ev_aload0 (q := 63) dX9_layer_62 rfl ?_
          refine ev_getR (q := 66) dX9_layer_63 g_X9_23 (hW _ _ rfl) rfl rfl rfl ?_
          refine ev_iload1 (q := 67) dX9_layer_66 rfl ?_
          refine ev_iald (q := 68) dX9_layer_67 (hW _ _ rfl) (th_self hp1.1) hx5 (by decide) rfl ?_
          refine ev_iconst (q := 69) (v := (-1)) dX9_layer_68 rfl rfl ?_
          refine ev_ixor (q := 70) dX9_layer_69 rfl ?_
          refine ev_iand (q := 71) dX9_layer_70 rfl ?_
          exact ev_ireturn dX9_layer_71 rfl rfl (CP.same hS hN V frS.rf ((if_neg (not_not_intro hp1)).trans (show sn s (ix x) = sS (V 12 (ix x)) (V 13 (ix x)) (V 14 (ix x)) by rw [q1, q2, q3]; rfl)))
        · refine ev_tableIn (q := 72) dX9_layer_10 (by decide) (by decide) rfl (by decide) ?_
          refine ev_aload0 (q := 73) dX9_layer_72 rfl ?_
          refine ev_getR (q := 76) dX9_layer_73 g_X9_20 (hW _ _ rfl) rfl rfl rfl ?_
          refine ev_iload1 (q := 77) dX9_layer_76 rfl ?_
          refine ev_iald (q := 78) dX9_layer_77 (hW _ _ rfl) (th_self hp1.1) hx5 (by decide) rfl ?_
          exact ev_ireturn dX9_layer_78 rfl rfl (CP.same hS hN V frS.rf ((if_neg (not_not_intro hp1)).trans q2.symm))
        · refine ev_tableIn (q := 79) dX9_layer_10 (by decide) (by decide) rfl (by decide) ?_
          refine ev_aload0 (q := 80) dX9_layer_79 rfl ?_
          refine ev_getR (q := 83) dX9_layer_80 g_X9_23 (hW _ _ rfl) rfl rfl rfl ?_
          refine ev_iload1 (q := 84) dX9_layer_83 rfl ?_
          refine ev_iald (q := 85) dX9_layer_84 (hW _ _ rfl) (th_self hp1.1) hx5 (by decide) rfl ?_
          exact ev_ireturn dX9_layer_85 rfl rfl (CP.same hS hN V frS.rf ((if_neg (not_not_intro hp1)).trans q3.symm))
    · exact absurd c4 (by decide)
  · refine ev_if_ne (q := 7) (t := 9) dX9_layer_4 rfl (by decide) (fun c4 => ?_) (fun c4 => ?_)
    · exact absurd c4 (by decide)
    · refine ev_iconst (q := 8) (v := (-1)) dX9_layer_7 rfl rfl ?_
      exact ev_ireturn dX9_layer_8 rfl rfl (CP.same hS hN V frS.rf (if_pos hp1))
theorem c_thin (hC : CR N SH V s) (hb : bLi s) (r v : Int32) : MT G l yX9_thin kX9_thin (d + 4) 0 0 [.ref 4, .int r, .int v] (N, SH, V) (CP N SH V (a_thin s r v) (n_thin s r v)) := by
  refine MT.of (by decide) rfl rfl (n := 2) rfl (ls := [some (.ref 4), some (.int r), some (.int v), none, none]) rfl ?_
  obtain ⟨rd, ld, eR, eL, hS, hN⟩ := hC
  have hW : wC SH := hS.1
  refine ev_aload0 (q := 1) dX9_thin_0 rfl ?_
  refine ev_iload1 (q := 2) dX9_thin_1 rfl ?_
  refine ev_cV (K := kX9_thin) (pc := 2) (q := 5) (c_lineAt (d := d) hS rfl hb r) dX9_thin_2 l_X9_225 (hW _ _ rfl) rfl rfl (Nat.le_of_ble_eq_true rfl) (Nat.le_refl _) rfl rfl (fun r S1 hp => ?_)
  rcases hp with ⟨rfl, ⟨h0, rfl⟩ | ⟨h0, rfl⟩⟩
  · refine ev_astoreN3 (q := 6) dX9_thin_5 rfl (by decide) rfl ?_
    refine ev_aloadN3 (q := 7) dX9_thin_6 rfl ?_
    refine ev_ifnullN (q := 17) dX9_thin_7 (by decide) ?_
    refine ev_iconst (q := 18) (v := (-1)) dX9_thin_17 rfl rfl ?_
    exact ev_ireturn dX9_thin_18 rfl rfl (CP.no hS hN (if_neg (fun h => h0 h.1)) (if_neg (fun h => h0 h.1)))
  · have hlt := isLn_lt hb h0
    have hix : ix r < ix (s 36 11) := by
      have := th_ixI hlt.1
      have := th_ixI hb.1
      omega
    have hA := hS.2.2.2.2.2.2.2.2.2.2.1 (ix r) hix
    obtain ⟨h64, -, ⟨f, ha, -⟩, -, -⟩ := hA
    have hq := hN.2.2.2.2.2.2 (ix r) hix
    have fin : RN (th_w V (ld (ix r)) 2 v) (th_w s 48 (ix r) v) (ix (s 36 6)) (ix (s 36 11)) rd ld := by
      refine RN.lns hS hN (fun a ha => th_w_ne (ha _ hix)) (fun a ha => th_w_ne (by omega)) (fun j hj => ?_)
      by_cases e : j = ix r
      · subst e
        obtain ⟨⟨g1, g2, g3, g4, g5, g6⟩, g7, g8⟩ := hq
        refine ⟨⟨?_, ?_, ?_, ?_, ?_, ?_⟩, ?_, fun k hk => ?_⟩
        · rw [th_w_j (by decide)]; exact g1
        · rw [th_w_if, if_pos ⟨rfl, rfl⟩, th_w_if, if_pos ⟨rfl, rfl⟩]
        · rw [th_w_j (by decide)]; exact g3
        · rw [th_w_j (by decide)]; exact g4
        · rw [th_w_j (by decide)]; exact g5
        · rw [th_w_j (by decide)]; exact g6
        · rw [th_w_ne (b := ld (ix r) + 1) (by omega)]; exact g7
        · rw [th_w_ne (b := ld (ix r) + 2) (by omega)]; exact g8 k hk
      · have hne := hS.ldne hj hix e
        refine (hN.2.2.2.2.2.2 j hj).p (th_w_ne (by omega)) (th_w_ne (by omega)) (th_w_ne (by omega)) (fun x _ _ => ?_) (fun k => rfl)
        rw [th_w_if, if_neg (fun z => e z.2)]
    refine ev_astore3 (q := 6) dX9_thin_5 rfl (by decide) rfl ?_
    refine ev_aload3 (q := 7) dX9_thin_6 rfl ?_
    refine ev_ifnull (q := 10) dX9_thin_7 rfl ?_
    refine ev_iload2 (q := 11) dX9_thin_10 rfl ?_
    refine ev_cS (K := kX9_thin) (pc := 11) (q := 14) (c_isShare _) dX9_thin_11 l_X9_210 rfl (Nat.le_of_ble_eq_true rfl) (Nat.le_refl _) rfl rfl (fun r S1 hp => ?_)
    rcases hp with ⟨rfl, ⟨hp11, rfl⟩ | ⟨hp11, rfl⟩⟩
    · refine ev_if_ne (q := 17) (t := 19) dX9_thin_14 rfl (by decide) (fun c14 => ?_) (fun c14 => ?_)
      · refine ev_aload3 (q := 20) dX9_thin_19 rfl ?_
        refine ev_getI (q := 23) dX9_thin_20 g_X9_229 ha rfl rfl ?_
        refine ev_istore4 (q := 25) dX9_thin_23 rfl (by decide) rfl ?_
        refine ev_aload3 (q := 26) dX9_thin_25 rfl ?_
        refine ev_iload2 (q := 27) dX9_thin_26 rfl ?_
        refine ev_putI (q := 30) dX9_thin_27 (p_X9_229 _) ha rfl rfl rfl rfl ?_
        refine ev_iload4 (q := 32) dX9_thin_30 rfl ?_
        exact ev_ireturn dX9_thin_32 rfl rfl (by rw [show n_thin s r v = _ from if_pos ⟨h0, hp11⟩]; exact CP.mk (th_w V (ld (ix r)) 2 v) ((if_pos ⟨h0, hp11⟩).trans hq.1.2.1.symm) hS (th_w_ne (by omega)) (th_w_ne (by omega)) rfl rfl fin (FC.rf.w (by omega)))
      · exact absurd c14 (by decide)
    · refine ev_if_ne (q := 17) (t := 19) dX9_thin_14 rfl (by decide) (fun c14 => ?_) (fun c14 => ?_)
      · exact absurd c14 (by decide)
      · refine ev_iconst (q := 18) (v := (-1)) dX9_thin_17 rfl rfl ?_
        exact ev_ireturn dX9_thin_18 rfl rfl (CP.no hS hN (if_neg (fun h => hp11 h.2)) (if_neg (fun h => hp11 h.2)))
theorem c_of (hC : CR N SH V s) (hb : bLi s) (r w : Int32) : MT G l yX9_of kX9_of (d + 4) 0 0 [.ref 4, .int r, .int w] (N, SH, V) (CP N SH V (a_of s r w) s) := by
  refine MT.of (by decide) rfl rfl (n := 1) rfl (ls := [some (.ref 4), some (.int r), some (.int w), none]) rfl ?_
  obtain ⟨rd, ld, eR, eL, hS, hN⟩ := hC
  have hW : wC SH := hS.1
  refine ev_aload0 (q := 1) dX9_of_0 rfl ?_
  refine ev_iload1 (q := 2) dX9_of_1 rfl ?_
  refine ev_cV (K := kX9_of) (pc := 2) (q := 5) (c_lineAt (d := d) hS rfl hb r) dX9_of_2 l_X9_225 (hW _ _ rfl) rfl rfl (Nat.le_of_ble_eq_true rfl) (Nat.le_refl _) rfl rfl (fun r S1 hp => ?_)
  rcases hp with ⟨rfl, ⟨h0, rfl⟩ | ⟨h0, rfl⟩⟩
  · refine ev_astoreN3 (q := 6) dX9_of_5 rfl (by decide) rfl ?_
    refine ev_aloadN3 (q := 7) dX9_of_6 rfl ?_
    refine ev_ifnonnullN (q := 10) dX9_of_7 rfl ?_
    refine ev_iconst (q := 11) (v := (-1)) dX9_of_10 rfl rfl ?_
    exact ev_ireturn dX9_of_11 rfl rfl (CP.same hS hN V frS.rf (if_pos h0))
  · have hlt := isLn_lt hb h0
    have hix : ix r < ix (s 36 11) := by
      have := th_ixI hlt.1
      have := th_ixI hb.1
      omega
    have hA := hS.2.2.2.2.2.2.2.2.2.2.1 (ix r) hix
    obtain ⟨h64, -, ⟨f, ha, hf⟩, ⟨f2, ha2, -⟩, -⟩ := hA
    obtain ⟨⟨g1, g2, g3, g4, g5, g6⟩, g7, -⟩ := hN.2.2.2.2.2.2 (ix r) hix
    have k0 := not_not_intro h0
    refine ev_astore3 (q := 6) dX9_of_5 rfl (by decide) rfl ?_
    refine ev_aload3 (q := 7) dX9_of_6 rfl ?_
    refine ev_ifnonnull (q := 12) dX9_of_7 (by decide) ?_
    refine ev_iload2 (q := 13) dX9_of_12 rfl ?_
    by_cases hsw13 : (w).toInt < 0 ∨ 6 < (w).toInt
    · refine ev_tableOut (q := 102) dX9_of_13 hsw13 (by decide) ?_
      refine ev_iconst (q := 103) (v := (-1)) dX9_of_102 rfl rfl ?_
      exact ev_ireturn dX9_of_103 rfl rfl (CP.same hS hN V frS.rf ((if_neg k0).trans (by obtain ⟨h0, h1, h2, h3, h4, h5, h6⟩ := th_out6 hsw13; rw [if_neg h0, if_neg h1, if_neg h2, if_neg h3, if_neg h4, if_neg h5, if_neg h6])))
    · have hsv13 : w = 0 ∨ w = 1 ∨ w = 2 ∨ w = 3 ∨ w = 4 ∨ w = 5 ∨ w = 6 := th_sw6 hsw13
      rcases hsv13 with rfl | rfl | rfl | rfl | rfl | rfl | rfl
      · refine ev_tableIn (q := 56) dX9_of_13 (by decide) (by decide) rfl (by decide) ?_
        refine ev_aload3 (q := 57) dX9_of_56 rfl ?_
        refine ev_getI (q := 60) dX9_of_57 g_X9_229 ha rfl rfl ?_
        exact ev_ireturn dX9_of_60 rfl rfl (CP.same hS hN V frS.rf ((if_neg k0).trans g2.symm))
      · refine ev_tableIn (q := 61) dX9_of_13 (by decide) (by decide) rfl (by decide) ?_
        refine ev_aload3 (q := 62) dX9_of_61 rfl ?_
        refine ev_getI (q := 65) dX9_of_62 g_X9_235 ha rfl rfl ?_
        refine ev_if_eq (q := 68) (t := 72) dX9_of_65 rfl (by decide) (fun c65 => ?_) (fun c65 => ?_)
        · refine ev_iconst (q := 73) (v := 0) dX9_of_72 rfl rfl ?_
          exact ev_ireturn dX9_of_73 rfl rfl (CP.same hS hN V frS.rf ((if_neg k0).trans (if_pos (g1.symm.trans c65))))
        · refine ev_iconst (q := 69) (v := 1) dX9_of_68 rfl rfl ?_
          refine ev_goto (q := 73) dX9_of_69 (by decide) ?_
          exact ev_ireturn dX9_of_73 rfl rfl (CP.same hS hN V frS.rf ((if_neg k0).trans (if_neg (fun z => c65 (g1.trans z)))))
      · refine ev_tableIn (q := 74) dX9_of_13 (by decide) (by decide) rfl (by decide) ?_
        refine ev_aload3 (q := 75) dX9_of_74 rfl ?_
        refine ev_getI (q := 78) dX9_of_75 g_X9_238 ha rfl rfl ?_
        exact ev_ireturn dX9_of_78 rfl rfl (CP.same hS hN V frS.rf ((if_neg k0).trans g3.symm))
      · refine ev_tableIn (q := 79) dX9_of_13 (by decide) (by decide) rfl (by decide) ?_
        refine ev_aload3 (q := 80) dX9_of_79 rfl ?_
        refine ev_getI (q := 83) dX9_of_80 g_X9_241 ha rfl rfl ?_
        exact ev_ireturn dX9_of_83 rfl rfl (CP.same hS hN V frS.rf ((if_neg k0).trans g4.symm))
      · refine ev_tableIn (q := 84) dX9_of_13 (by decide) (by decide) rfl (by decide) ?_
        refine ev_aload3 (q := 85) dX9_of_84 rfl ?_
        refine ev_getI (q := 88) dX9_of_85 g_X9_244 ha rfl rfl ?_
        exact ev_ireturn dX9_of_88 rfl rfl (CP.same hS hN V frS.rf ((if_neg k0).trans g5.symm))
      · refine ev_tableIn (q := 89) dX9_of_13 (by decide) (by decide) rfl (by decide) ?_
        refine ev_aload3 (q := 90) dX9_of_89 rfl ?_
        refine ev_getI (q := 93) dX9_of_90 g_X9_247 ha rfl rfl ?_
        exact ev_ireturn dX9_of_93 rfl rfl (CP.same hS hN V frS.rf ((if_neg k0).trans g6.symm))
      · refine ev_tableIn (q := 94) dX9_of_13 (by decide) (by decide) rfl (by decide) ?_
        refine ev_aload3 (q := 95) dX9_of_94 rfl ?_
        refine ev_getR (q := 98) dX9_of_95 g_X9_232 ha rfl hf rfl ?_
        refine ev_getI (q := 101) dX9_of_98 g_X9_200 ha2 rfl rfl ?_
        exact ev_ireturn dX9_of_101 rfl rfl (CP.same hS hN V frS.rf ((if_neg k0).trans g7.symm))
theorem c_rsize (hW : wC SH) : MT G l yX4_size kX4_size (d + 1) 0 0 [.ref 31] (N, SH, V) (th_is (imin (V 31 3) 30) (N, SH, V)) := by
  refine MT.of (by decide) rfl rfl (n := 0) rfl (ls := [some (.ref 31)]) rfl ?_
  refine ev_aload0 (q := 1) dX4_size_0 rfl ?_
  refine ev_getI (q := 4) dX4_size_1 g_X4_21 (hW _ _ rfl) rfl rfl ?_
  refine ev_bipush (q := 6) (v := 30) dX4_size_4 rfl rfl ?_
  refine ev_cS (K := kX4_size) (pc := 6) (q := 9) (j_min _ _) dX4_size_6 l_X4_25 rfl (Nat.le_of_ble_eq_true rfl) (Nat.le_refl _) rfl rfl (fun r S1 hp => ?_)
  obtain ⟨rfl, rfl⟩ := hp
  exact ev_ireturn dX4_size_9 rfl rfl ⟨rfl, rfl⟩
theorem c_many (hC : CR N SH V s) (hr : bRo s) (hb : bLi s) (w : Int32) : MT G l yX9_many kX9_many (d + 2) 0 0 [.ref 4, .int w] (N, SH, V) (CP N SH V (a_many s w) s) := by
  refine MT.of (by decide) rfl rfl (n := 0) rfl (ls := [some (.ref 4), some (.int w)]) rfl ?_
  obtain ⟨rd, ld, eR, eL, hS, hN⟩ := hC
  have hW : wC SH := hS.1
  have hLr := hS.2.2.2.2.2.1
  obtain ⟨fR, hfR⟩ := hLr.sh
  have hLl := hS.2.2.2.2.2.2.1
  obtain ⟨fL, hfL⟩ := hLl.sh
  obtain ⟨f1, f2, f3, f4, f5, f6⟩ := hN.2.2.1
  refine ev_iload1 (q := 1) dX9_many_0 rfl ?_
  by_cases hsw1 : (w).toInt < 0 ∨ 7 < (w).toInt
  · refine ev_tableOut (q := 104) dX9_many_1 hsw1 (by decide) ?_
    refine ev_iconst (q := 105) (v := (-1)) dX9_many_104 rfl rfl ?_
    exact ev_ireturn dX9_many_105 rfl rfl (CP.same hS hN V frS.rf (by obtain ⟨h0, h1, h2, h3, h4, h5, h6, h7⟩ := th_out7 hsw1; rw [a_many, if_neg h0, if_neg h1, if_neg h2, if_neg h3, if_neg h4, if_neg h5, if_neg h6, if_neg h7]))
  · have hsv1 : w = 0 ∨ w = 1 ∨ w = 2 ∨ w = 3 ∨ w = 4 ∨ w = 5 ∨ w = 6 ∨ w = 7 := th_sw7 hsw1
    rcases hsv1 with rfl | rfl | rfl | rfl | rfl | rfl | rfl | rfl
    · refine ev_tableIn (q := 48) dX9_many_1 (by decide) (by decide) rfl (by decide) ?_
      refine ev_aload0 (q := 49) dX9_many_48 rfl ?_
      refine ev_getR (q := 52) dX9_many_49 g_X9_29 (hW _ _ rfl) rfl rfl rfl ?_
      refine ev_cF (K := kX9_many) (pc := 52) (q := 57) (hLr.size (d := d + 1)) dX9_many_52 l_X9_109 hfR rfl (Nat.le_of_ble_eq_true rfl) (Nat.le_refl _) rfl rfl (fun r S1 hp => ?_)
      obtain ⟨rfl, rfl⟩ := hp
      exact ev_ireturn dX9_many_57 rfl rfl (CP.same hS hN V frS.rf (show s 36 6 = _ from th_self hr.1))
    · refine ev_tableIn (q := 58) dX9_many_1 (by decide) (by decide) rfl (by decide) ?_
      refine ev_aload0 (q := 59) dX9_many_58 rfl ?_
      refine ev_getR (q := 62) dX9_many_59 g_X9_54 (hW _ _ rfl) rfl rfl rfl ?_
      refine ev_cF (K := kX9_many) (pc := 62) (q := 67) (hLl.size (d := d + 1)) dX9_many_62 l_X9_109 hfL rfl (Nat.le_of_ble_eq_true rfl) (Nat.le_refl _) rfl rfl (fun r S1 hp => ?_)
      obtain ⟨rfl, rfl⟩ := hp
      exact ev_ireturn dX9_many_67 rfl rfl (CP.same hS hN V frS.rf (show s 36 11 = _ from th_self hb.1))
    · refine ev_tableIn (q := 68) dX9_many_1 (by decide) (by decide) rfl (by decide) ?_
      refine ev_aload0 (q := 69) dX9_many_68 rfl ?_
      refine ev_getI (q := 72) dX9_many_69 g_X9_250 (hW _ _ rfl) rfl rfl ?_
      exact ev_ireturn dX9_many_72 rfl rfl (CP.same hS hN V frS.rf f3.symm)
    · refine ev_tableIn (q := 73) dX9_many_1 (by decide) (by decide) rfl (by decide) ?_
      refine ev_aload0 (q := 74) dX9_many_73 rfl ?_
      refine ev_getI (q := 77) dX9_many_74 g_X9_265 (hW _ _ rfl) rfl rfl ?_
      exact ev_ireturn dX9_many_77 rfl rfl (CP.same hS hN V frS.rf f4.symm)
    · refine ev_tableIn (q := 78) dX9_many_1 (by decide) (by decide) rfl (by decide) ?_
      refine ev_aload0 (q := 79) dX9_many_78 rfl ?_
      refine ev_getR (q := 82) dX9_many_79 g_X9_60 (hW _ _ rfl) rfl rfl rfl ?_
      refine ev_getI (q := 85) dX9_many_82 g_X9_268 (hW _ _ rfl) rfl rfl ?_
      exact ev_ireturn dX9_many_85 rfl rfl (CP.same hS hN V frS.rf f6.symm)
    · refine ev_tableIn (q := 86) dX9_many_1 (by decide) (by decide) rfl (by decide) ?_
      refine ev_aload0 (q := 87) dX9_many_86 rfl ?_
      refine ev_getI (q := 90) dX9_many_87 g_X9_269 (hW _ _ rfl) rfl rfl ?_
      exact ev_ireturn dX9_many_90 rfl rfl (CP.same hS hN V frS.rf f5.symm)
    · refine ev_tableIn (q := 91) dX9_many_1 (by decide) (by decide) rfl (by decide) ?_
      refine ev_aload0 (q := 92) dX9_many_91 rfl ?_
      refine ev_getR (q := 95) dX9_many_92 g_X9_60 (hW _ _ rfl) rfl rfl rfl ?_
      refine ev_cV (K := kX9_many) (pc := 95) (q := 98) (c_rsize hW) dX9_many_95 l_X9_272 (hW _ _ rfl) rfl rfl (Nat.le_of_ble_eq_true rfl) (Nat.le_refl _) rfl rfl (fun r S1 hp => ?_)
      obtain ⟨rfl, rfl⟩ := hp
      exact ev_ireturn dX9_many_98 rfl rfl (CP.same hS hN V frS.rf (show rws s = imin (V 31 3) 30 by rw [f6, imin_rws]))
    · refine ev_tableIn (q := 99) dX9_many_1 (by decide) (by decide) rfl (by decide) ?_
      refine ev_aload0 (q := 100) dX9_many_99 rfl ?_
      refine ev_getI (q := 103) dX9_many_100 g_X9_253 (hW _ _ rfl) rfl rfl ?_
      exact ev_ireturn dX9_many_103 rfl rfl (CP.same hS hN V frS.rf f2.symm)
end C7
