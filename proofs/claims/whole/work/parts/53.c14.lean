/-! the class: looks -/
def frQ (V V' : th_Vl) : Prop := ∀ b, b < 18 ∨ 26 < b → V' b = V b
theorem frQ.S {V V' : th_Vl} (h : frQ V V') : frS V V' := fun a ha => h a (by unfold scr at ha; omega)
theorem frQ.tr {V V1 V2 : th_Vl} (h1 : frQ V V1) (h2 : frQ V1 V2) : frQ V V2 := fun a h => (h2 a h).trans (h1 a h)
theorem HpR.fr {V V' s : th_Vl} {n : Nat} (h : HpR V s n) (hf : ∀ b, b = 22 ∨ b = 23 ∨ b = 24 ∨ b = 25 ∨ b = 26 → V' b = V b) : HpR V' s n := by
  unfold HpR HpK HpC at h ⊢
  rw [hf 22 (by omega), hf 23 (by omega), hf 24 (by omega), hf 25 (by omega), hf 26 (by omega)]
  exact h
/-- what a look has seen of a crossing t -/
def LkR (V t : th_Vl) (R : Nat) : Prop := (∀ k, k < 5 → V 17 k = sn t k) ∧ V 16 5 = lm (litB t) R ∧ V 22 5 = (hpS t).1 ∧ V 22 6 = (hpS t).2 ∧ V 16 3 = acB (V 17) 5 ∧ V 16 4 = lyS (V 17) 5
theorem hpS_in (s : th_Vl) (hR : ix (s 36 6) ≤ 12) : inR (hpS s).1 0 65535 ∧ 0 ≤ (hpS s).2.toInt := by
  obtain ⟨h1, h2, h3, -⟩ := hp_fold (s := s) hR (2 ^ ix (s 36 6)) (Nat.le_refl _)
  have hp : 2 ^ ix (s 36 6) ≤ 2 ^ 12 := Nat.pow_le_pow_right (by decide) hR
  unfold hpS
  rw [h1]
  generalize (List.range (2 ^ ix (s 36 6))).foldl (cstp s (ix (s 36 6))) (0, 0) = c at h2 h3
  have e1 := nI_toInt (n := c.1) (by omega)
  have e2 := nI_toInt (n := c.2) (by omega)
  exact ⟨⟨by show 0 ≤ (nI c.1).toInt; omega, by show (nI c.1).toInt ≤ 65535; omega⟩, by show 0 ≤ (nI c.2).toInt; omega⟩
/-- is road n lit, as a look knows it -/
def ltB (V : th_Vl) (n : Int32) : Bool := decide (0 ≤ n.toInt) && (decide (n.toInt < 12) && decide ((V 16 5 >>> (n &&& 31)) &&& 1 = 1))
theorem ltB_lm {V t : th_Vl} {R i : Nat} (h : V 16 5 = lm (litB t) R) (hR : R ≤ 12) (hi : i < 1000) : ltB V (nI i) = (decide (i < R) && litB t i) := by
  have en := nI_toInt (n := i) (by omega)
  unfold ltB
  rw [h, decide_eq_true (show 0 ≤ (nI i).toInt by omega), Bool.true_and]
  by_cases h12 : i < 12
  · have hbit := th_bit1 (x := lm (litB t) R) (r := i) (by omega)
    rw [tbit_lm R (by omega)] at hbit
    rw [decide_eq_true (show (nI i).toInt < 12 by omega), Bool.true_and]
    cases hl : (decide (i < R) && litB t i)
    · rw [hl] at hbit
      exact decide_eq_false (fun z => by have := hbit.mp z; cases this)
    · rw [hl] at hbit
      exact decide_eq_true (hbit.mpr rfl)
  · rw [decide_eq_false (show ¬ (nI i).toInt < 12 by omega), Bool.false_and, decide_eq_false (show ¬ i < R by omega), Bool.false_and]
section C14
variable {G : th_G} {l : Launch} {d : Nat} {N : Nat} {SH : Nat → Option th_K0} {V s : th_Vl}
theorem c_empty (hW : wC SH) : MT G l yX1_empty kX1_empty d 0 0 [.ref 22] (N, SH, V) (fun r S' => r = none ∧ S' = (N, SH, th_w (th_w (th_w V 22 4 0) 22 5 0) 22 6 0)) := by
  refine MT.of (by decide) rfl rfl (n := 0) rfl (ls := [some (.ref 22)]) rfl ?_
  refine ev_aload0 (q := 1) dX1_empty_0 rfl ?_
  refine ev_iconst (q := 2) (v := 0) dX1_empty_1 rfl rfl ?_
  refine ev_putI (q := 5) dX1_empty_2 (p_X1_24 _) (hW _ _ rfl) rfl rfl rfl rfl ?_
  refine ev_aload0 (q := 6) dX1_empty_5 rfl ?_
  refine ev_iconst (q := 7) (v := 0) dX1_empty_6 rfl rfl ?_
  refine ev_putI (q := 10) dX1_empty_7 (p_X1_28 _) (hW _ _ rfl) rfl rfl rfl rfl ?_
  refine ev_aload0 (q := 11) dX1_empty_10 rfl ?_
  refine ev_iconst (q := 12) (v := 0) dX1_empty_11 rfl rfl ?_
  refine ev_putI (q := 15) dX1_empty_12 (p_X1_31 _) (hW _ _ rfl) rfl rfl rfl rfl ?_
  exact ev_return dX1_empty_15 rfl ⟨rfl, rfl⟩
theorem c_lkLit (hW : wC SH) (n : Int32) : MT G l yX3_isLit kX3_isLit d 0 0 [.ref 16, .int n] (N, SH, V) (th_bo (ltB V n = true) (N, SH, V)) := by
  refine MT.of (by decide) rfl rfl (n := 0) rfl (ls := [some (.ref 16), some (.int n)]) rfl ?_
  have e0 : (0 : Int32).toInt = 0 := by decide
  have e12 : (12 : Int32).toInt = 12 := by decide
  refine ev_iload1 (q := 1) dX3_isLit_0 rfl ?_
  refine ev_if_lt (q := 4) (t := 26) dX3_isLit_1 rfl (by decide) (fun c1 => ?_) (fun c1 => ?_)
  · refine ev_iconst (q := 27) (v := 0) dX3_isLit_26 rfl rfl ?_
    exact ev_ireturn dX3_isLit_27 rfl rfl ⟨rfl, Or.inr ⟨by unfold ltB; rw [decide_eq_false (show ¬ 0 ≤ n.toInt by have := i_lt.mp c1; omega)]; simp, rfl⟩⟩
  · refine ev_iload1 (q := 5) dX3_isLit_4 rfl ?_
    refine ev_bipush (q := 7) (v := 12) dX3_isLit_5 rfl rfl ?_
    refine ev_icmp_ge (q := 10) (t := 26) dX3_isLit_7 rfl (by decide) (fun c7 => ?_) (fun c7 => ?_)
    · refine ev_iconst (q := 27) (v := 0) dX3_isLit_26 rfl rfl ?_
      exact ev_ireturn dX3_isLit_27 rfl rfl ⟨rfl, Or.inr ⟨by unfold ltB; rw [decide_eq_false (show ¬ n.toInt < 12 by have := i_le.mp c7; omega)]; simp, rfl⟩⟩
    · refine ev_aload0 (q := 11) dX3_isLit_10 rfl ?_
      refine ev_getI (q := 14) dX3_isLit_11 g_X3_40 (hW _ _ rfl) rfl rfl ?_
      refine ev_iload1 (q := 15) dX3_isLit_14 rfl ?_
      refine ev_ishr (q := 16) dX3_isLit_15 rfl ?_
      refine ev_iconst (q := 17) (v := 1) dX3_isLit_16 rfl rfl ?_
      refine ev_iand (q := 18) dX3_isLit_17 rfl ?_
      refine ev_iconst (q := 19) (v := 1) dX3_isLit_18 rfl rfl ?_
      refine ev_icmp_ne (q := 22) (t := 26) dX3_isLit_19 rfl (by decide) (fun c19 => ?_) (fun c19 => ?_)
      · refine ev_iconst (q := 27) (v := 0) dX3_isLit_26 rfl rfl ?_
        exact ev_ireturn dX3_isLit_27 rfl rfl ⟨rfl, Or.inr ⟨by unfold ltB; rw [decide_eq_false (show ¬ (V 16 5 >>> (n &&& 31)) &&& 1 = 1 from c19)]; simp, rfl⟩⟩
      · refine ev_iconst (q := 23) (v := 1) dX3_isLit_22 rfl rfl ?_
        refine ev_goto (q := 27) dX3_isLit_23 (by decide) ?_
        exact ev_ireturn dX3_isLit_27 rfl rfl ⟨rfl, Or.inl ⟨by unfold ltB; rw [decide_eq_true (show 0 ≤ n.toInt by have := i_nlt c1; omega), decide_eq_true (show n.toInt < 12 by have := i_nle c7; omega), decide_eq_true (show (V 16 5 >>> (n &&& 31)) &&& 1 = 1 from c19)]; rfl, rfl⟩⟩
theorem c_pile {R L eR eL : Nat} {rd ld : Nat → Nat} (hS : RS N SH V R L rd ld eR eL) (hR : ∀ j, j < R → rdR V s (rd j) j) (hsp : ∀ j, j < R → ∀ k, k < 5 → isSp (s 43 (5 * j + k))) (hsn : ∀ k, k < 5 → V 17 k = sn s k) (hlt : V 16 5 = lm (litB s) R) (hRs : R = ix (s 36 6)) : MT G l yX3_pile kX3_pile (d + 15) 0 0 [.ref 16, .ref 15] (N, SH, V) (fun r S' => r = none ∧ ∃ V', S' = (N, SH, V') ∧ frQ V V' ∧ V' 22 5 = (hpS s).1 ∧ V' 22 6 = (hpS s).2) := by
  refine MT.of (by decide) rfl rfl (n := 2) rfl (ls := [some (.ref 16), some (.ref 15), none, none]) rfl ?_
  have hW : wC SH := hS.1
  have hR12 : R ≤ 12 := hS.2.2.2.1
  have hrd := hS.2.2.2.2.2.2.2.2.1
  have lp : ∀ i, i ≤ R → ∀ (W : th_Vl) (o : Option Value), th_c1 [o] = true → frQ V W → HpR W s i → W 22 5 = 0 → W 22 6 = 0 → EV G l kX3_pile (d + 15) 0 0 9 [some (.ref 16), some (.ref 15), some (.int (nI i)), o] [] (N, SH, W) (fun r S' => r = none ∧ ∃ V', S' = (N, SH, V') ∧ frQ V V' ∧ V' 22 5 = (hpS s).1 ∧ V' 22 6 = (hpS s).2) := by
    refine th_down R ?_ ?_
    · intro W o ho hf hH h5 h6
      have hLs := (hS.c (V' := W) (hf _ (by decide)) (hf _ (by decide))).2.2.2.2.2.1
      obtain ⟨fR, hfR⟩ := hLs.sh
      refine ev_iload2 (q := 10) dX3_pile_9 rfl ?_
      refine ev_aload1 (q := 11) dX3_pile_10 rfl ?_
      refine ev_cF (K := kX3_pile) (pc := 11) (q := 16) (hLs.size (d := d)) dX3_pile_11 l_X3_43 hfR rfl (Nat.le_of_ble_eq_true rfl) (by omega) rfl rfl (fun r S1 hp => ?_)
      obtain ⟨rfl, rfl⟩ := hp
      refine ev_icmp_ge (q := 19) (t := 79) dX3_pile_16 rfl (by decide) (fun c16 => ?_) (fun c16 => ?_)
      · refine ev_aload0 (q := 80) dX3_pile_79 rfl ?_
        refine ev_getR (q := 83) dX3_pile_80 g_X3_25 (hW _ _ rfl) rfl rfl rfl ?_
        refine ev_cV (K := kX3_pile) (pc := 83) (q := 86) (c_choose (d := d) (s := s) hW hR12 hH h5 h6 hRs) dX3_pile_83 l_X3_79 (hW _ _ rfl) rfl rfl (Nat.le_of_ble_eq_true rfl) (by omega) rfl rfl (fun r S1 hp => ?_)
        obtain ⟨rfl, V1, rfl, v1, v2, v3⟩ := hp
        exact ev_return dX3_pile_86 rfl ⟨rfl, V1, rfl, fun b hb => (funext (fun k => v1 b k (by omega))).trans (hf b hb), v2, v3⟩
      · exact absurd (Int32.le_refl _) c16
    · intro i hi ih W o ho hf hH h5 h6
      have hS1 := hS.c (V' := W) (hf _ (by decide)) (hf _ (by decide))
      have hLs := hS1.2.2.2.2.2.1
      obtain ⟨fR, hfR⟩ := hLs.sh
      have hA := hrd i hi
      have hA' := hA
      obtain ⟨h64, -, ⟨f, ha, -, -⟩, -, -⟩ := hA'
      have hRi : rdR W s (rd i) i := (hR i hi).c (hf _ (by omega)) (hf _ (by omega)) (hf _ (by omega)) rfl rfl
      have hsW : ∀ k, k < 5 → W 17 k = sn s k := fun k hk => (congrFun (hf 17 (by decide)) k).trans (hsn k hk)
      have hlW : ltB W (nI i) = litB s i := by
        rw [ltB_lm (R := R) ((congrFun (hf 16 (by decide)) 5).trans hlt) hR12 (by omega), decide_eq_true hi, Bool.true_and]
      have tail : ∀ (U : th_Vl) (y : Int32), frQ W U → HpR U s i → U 22 5 = 0 → U 22 6 = 0 → y = nI (wv s i) → (litB s i = true → ∀ k, k < 5 → U 21 k = th_nth (tb s i).2.2 k 0) → EV G l kX3_pile (d + 15) 0 0 58 [some (.ref 16), some (.ref 15), some (.int (nI i)), some (.int y)] [] (N, SH, U) (fun r S' => r = none ∧ ∃ V', S' = (N, SH, V') ∧ frQ V V' ∧ V' 22 5 = (hpS s).1 ∧ V' 22 6 = (hpS s).2) := by
        intro U y u1 u2 u3 u4 u5 u6
        refine ev_aload0 (q := 59) dX3_pile_58 rfl ?_
        refine ev_getR (q := 62) dX3_pile_59 g_X3_25 (hW _ _ rfl) rfl rfl rfl ?_
        refine ev_iload3 (q := 63) dX3_pile_62 rfl ?_
        refine ev_aload0 (q := 64) dX3_pile_63 rfl ?_
        refine ev_getR (q := 67) dX3_pile_64 g_X3_18 (hW _ _ rfl) rfl rfl rfl ?_
        refine ev_getR (q := 70) dX3_pile_67 g_X3_72 (hW _ _ rfl) rfl rfl rfl ?_
        refine ev_cV (K := kX3_pile) (pc := 70) (q := 73) (c_put1 (d := d) (s := s) hW (show i < 12 by omega) u2 u5 u6) dX3_pile_70 l_X3_75 (hW _ _ rfl) rfl rfl (Nat.le_of_ble_eq_true rfl) (by omega) rfl rfl (fun r S1 hp => ?_)
        obtain ⟨rfl, Y, rfl, y1, y2, y3, y4⟩ := hp
        refine ev_iinc2 (q := 76) dX3_pile_73 rfl (by decide) rfl (nI_succ i).symm ?_
        refine ev_goto (q := 9) dX3_pile_76 (by decide) ?_
        exact ih Y _ rfl (fun b hb => (y2 b (by omega) (by omega) (by omega) (by omega) (by omega)).trans ((u1 b hb).trans (hf b hb))) y1 (y3.trans u3) (y4.trans u4)
      refine ev_iload2 (q := 10) dX3_pile_9 rfl ?_
      refine ev_aload1 (q := 11) dX3_pile_10 rfl ?_
      refine ev_cF (K := kX3_pile) (pc := 11) (q := 16) (hLs.size (d := d)) dX3_pile_11 l_X3_43 hfR rfl (Nat.le_of_ble_eq_true rfl) (by omega) rfl rfl (fun r S1 hp => ?_)
      obtain ⟨rfl, rfl⟩ := hp
      refine ev_icmp_ge (q := 19) (t := 79) dX3_pile_16 rfl (by decide) (fun c16 => ?_) (fun c16 => ?_)
      · exact absurd c16 (nI_ge hi (by omega))
      · refine ev_iconst (q := 20) (v := 0) dX3_pile_19 rfl rfl ?_
        refine ev_istore3 (q := 21) dX3_pile_20 rfl (by decide) ho ?_
        refine ev_aload0 (q := 22) dX3_pile_21 rfl ?_
        refine ev_iload2 (q := 23) dX3_pile_22 rfl ?_
        refine ev_cV (K := kX3_pile) (pc := 23) (q := 26) (c_lkLit (d := d) hW (nI i)) dX3_pile_23 l_X3_66 (hW _ _ rfl) rfl rfl (Nat.le_of_ble_eq_true rfl) (by omega) rfl rfl (fun r S1 hp => ?_)
        rcases hp with ⟨rfl, ⟨q0, rfl⟩ | ⟨q0, rfl⟩⟩
        · have q1 : litB s i = true := hlW.symm.trans q0
          refine ev_if_eq (q := 29) (t := 58) dX3_pile_26 rfl (by decide) (fun c26 => ?_) (fun c26 => ?_)
          · exact absurd c26 (by decide)
          · refine ev_aload0 (q := 30) dX3_pile_29 rfl ?_
            refine ev_getR (q := 33) dX3_pile_30 g_X3_18 (hW _ _ rfl) rfl rfl rfl ?_
            refine ev_aload1 (q := 34) dX3_pile_33 rfl ?_
            refine ev_iload2 (q := 35) dX3_pile_34 rfl ?_
            refine ev_cF (K := kX3_pile) (pc := 35) (q := 40) (hLs.get (d := d) hi rfl) dX3_pile_35 l_X3_49 hfR rfl (Nat.le_of_ble_eq_true rfl) (by omega) rfl rfl (fun r S1 hp => ?_)
            obtain ⟨rfl, rfl⟩ := hp
            refine ev_chk (q := 43) dX3_pile_40 ha rfl n_X3_53 rfl ?_
            refine ev_aload0 (q := 44) dX3_pile_43 rfl ?_
            refine ev_getR (q := 47) dX3_pile_44 g_X3_9 (hW _ _ rfl) rfl rfl rfl ?_
            have eh : hm (W 17) (fun k => s 43 (5 * i + k)) 5 = hmR s i := hm_f 5 hsW
            have et : trk (Frw (W 17) (fun k => s 43 (5 * i + k))) 0 5 = trk (Frw (sn s) (fun k => s 43 (5 * i + k))) 0 5 := trk_F 5 0 (fun q _ hq => Frw_f (hsW q (by omega)))
            have hal := c_along (G := G) (l := l) (d := d) hW hA hRi (hsp i hi)
            rw [eh, et, cfold_tb] at hal
            refine ev_cV (K := kX3_pile) (pc := 47) (q := 50) (hal) dX3_pile_47 l_X3_59 (hW _ _ rfl) rfl rfl (Nat.le_of_ble_eq_true rfl) (by omega) rfl rfl (fun r S1 hp => ?_)
            obtain ⟨rfl, Y, rfl, y1, y2, y3⟩ := hp
            refine ev_aload0 (q := 51) dX3_pile_50 rfl ?_
            refine ev_getR (q := 54) dX3_pile_51 g_X3_18 (hW _ _ rfl) rfl rfl rfl ?_
            refine ev_cV (K := kX3_pile) (pc := 54) (q := 57) (c_worth (d := d) (s := s) (i := i) hW y2 y3) dX3_pile_54 l_X3_69 (hW _ _ rfl) rfl rfl (Nat.le_of_ble_eq_true rfl) (by omega) rfl rfl (fun r S1 hp => ?_)
            obtain ⟨rfl, rfl⟩ := hp
            refine ev_istore3 (q := 58) dX3_pile_57 rfl (by decide) rfl ?_
            exact tail Y _ (fun b hb => y1 b (by omega) (by omega) (by omega) (by omega)) (hH.fr (fun b hb => y1 b (by omega) (by omega) (by omega) (by omega))) ((congrFun (y1 22 (by decide) (by decide) (by decide) (by decide)) 5).trans h5) ((congrFun (y1 22 (by decide) (by decide) (by decide) (by decide)) 6).trans h6) (by rw [wv, q1, cond_true]; exact wN_eq s i) (fun _ k hk => y3.2 k hk)
        · have q1 : litB s i = false := Bool.eq_false_iff.mpr (fun z => q0 (hlW.trans z))
          refine ev_if_eq (q := 29) (t := 58) dX3_pile_26 rfl (by decide) (fun c26 => ?_) (fun c26 => ?_)
          · exact tail W 0 (fun _ _ => rfl) hH h5 h6 (by rw [wv, q1]; rfl) (fun z => by rw [q1] at z; cases z)
          · exact absurd rfl c26
  refine ev_aload0 (q := 1) dX3_pile_0 rfl ?_
  refine ev_getR (q := 4) dX3_pile_1 g_X3_25 (hW _ _ rfl) rfl rfl rfl ?_
  refine ev_cV (K := kX3_pile) (pc := 4) (q := 7) (c_empty (d := d) hW) dX3_pile_4 l_X3_63 (hW _ _ rfl) rfl rfl (Nat.le_of_ble_eq_true rfl) (by omega) rfl rfl (fun r S1 hp => ?_)
  obtain ⟨rfl, rfl⟩ := hp
  refine ev_iconst (q := 8) (v := 0) dX3_pile_7 rfl rfl ?_
  refine ev_istore2 (q := 9) dX3_pile_8 rfl (by decide) rfl ?_
  exact lp 0 (Nat.zero_le _) _ none rfl (fun b hb => by rw [th_w_ne (by omega), th_w_ne (by omega), th_w_ne (by omega)]) ⟨rfl, ⟨fun j hj => absurd hj (Nat.not_lt_zero _), fun j q h1 h2 => absurd h2 (Nat.not_lt_zero _), fun j q hj => absurd hj (Nat.not_lt_zero _)⟩, fun j hj => absurd hj (Nat.not_lt_zero _)⟩ rfl rfl
/-- a look at a crossing c: the reference's state t has that crossing's hits -/
theorem c_lookAt {R L eR eL : Nat} {rd ld : Nat → Nat} {t : th_Vl} (hS : RS N SH V R L rd ld eR eL) (hR : ∀ j, j < R → rdR V t (rd j) j) (hsp : ∀ j, j < R → ∀ k, k < 5 → isSp (t 43 (5 * j + k))) {c : Nat} (hc : SH c = some (.inl (0, 5, th_no))) (hcn : c ≠ 17) (hsn : ∀ k, k < 5 → sS (V c k) (V 13 k) (V 14 k) = sn t k) (hRs : R = ix (t 36 6)) : MT G l yX9_lookAt kX9_lookAt (d + 16) 0 0 [.ref 4, .ref c] (N, SH, V) (fun r S' => r = none ∧ ∃ V', S' = (N, SH, V') ∧ frS V V' ∧ LkR V' t R) := by
  refine MT.of (by decide) rfl rfl (n := 0) rfl (ls := [some (.ref 4), some (.ref c)]) rfl ?_
  have hW : wC SH := hS.1
  have hrd := hS.2.2.2.2.2.2.2.2.1
  have hf1 := seeV_fr V c
  have hS1 := hS.c (V' := seeV V c) (hf1 _ (by unfold scr; omega)) (hf1 _ (by unfold scr; omega))
  have hsee : ∀ k, k < 5 → seeV V c 17 k = sn t k := fun k hk => by
    unfold seeV
    rw [sgV_i hk]
    exact hsn k hk
  have hRf : ∀ V' : th_Vl, frS V V' → ∀ j, j < R → rdR V' t (rd j) j := fun V' hf j hj => by
    have := (hrd j hj).1
    exact (hR j hj).c (hf _ (by unfold scr; omega)) (hf _ (by unfold scr; omega)) (hf _ (by unfold scr; omega)) rfl rfl
  refine ev_aload0 (q := 1) dX9_lookAt_0 rfl ?_
  refine ev_getR (q := 4) dX9_lookAt_1 g_X9_36 (hW _ _ rfl) rfl rfl rfl ?_
  refine ev_aload1 (q := 5) dX9_lookAt_4 rfl ?_
  refine ev_aload0 (q := 6) dX9_lookAt_5 rfl ?_
  refine ev_getR (q := 9) dX9_lookAt_6 g_X9_20 (hW _ _ rfl) rfl rfl rfl ?_
  refine ev_aload0 (q := 10) dX9_lookAt_9 rfl ?_
  refine ev_getR (q := 13) dX9_lookAt_10 g_X9_23 (hW _ _ rfl) rfl rfl rfl ?_
  refine ev_cV (K := kX9_lookAt) (pc := 13) (q := 16) (c_see (d := d) hW hc hcn) dX9_lookAt_13 l_X9_134 (hW _ _ rfl) rfl rfl (Nat.le_of_ble_eq_true rfl) (by omega) rfl rfl (fun r S1 hp => ?_)
  obtain ⟨rfl, rfl⟩ := hp
  refine ev_aload0 (q := 17) dX9_lookAt_16 rfl ?_
  refine ev_getR (q := 20) dX9_lookAt_17 g_X9_36 (hW _ _ rfl) rfl rfl rfl ?_
  refine ev_aload0 (q := 21) dX9_lookAt_20 rfl ?_
  refine ev_getR (q := 24) dX9_lookAt_21 g_X9_29 (hW _ _ rfl) rfl rfl rfl ?_
  refine ev_cV (K := kX9_lookAt) (pc := 24) (q := 27) (c_light (d := d) (s := t) hS1 (hRf _ hf1) hsp) dX9_lookAt_24 l_X9_138 (hW _ _ rfl) rfl rfl (Nat.le_of_ble_eq_true rfl) (by omega) rfl rfl (fun r S1 hp => ?_)
  obtain ⟨rfl, rfl⟩ := hp
  have hf2 : frS V (th_w (seeV V c) 16 5 (lm (litF (seeV V c 17) t) R)) := hf1.w (by unfold scr; omega)
  have hS2 := hS.c (V' := th_w (seeV V c) 16 5 (lm (litF (seeV V c 17) t) R)) (hf2 _ (by unfold scr; omega)) (hf2 _ (by unfold scr; omega))
  have e3 : (th_w (seeV V c) 16 5 (lm (litF (seeV V c 17) t) R)) 16 5 = lm (litB t) R := by
    rw [th_w_if, if_pos ⟨rfl, rfl⟩, litF_litB hsee]
  have e4 : ∀ k, k < 5 → (th_w (seeV V c) 16 5 (lm (litF (seeV V c 17) t) R)) 17 k = sn t k := hsee
  have e5 : (th_w (seeV V c) 16 5 (lm (litF (seeV V c 17) t) R)) 16 3 = acB ((th_w (seeV V c) 16 5 (lm (litF (seeV V c 17) t) R)) 17) 5 := by
    rw [th_w_ne (b := 17) (by decide), th_w_j (by decide)]
    exact sgV_3
  have e6 : (th_w (seeV V c) 16 5 (lm (litF (seeV V c 17) t) R)) 16 4 = lyS ((th_w (seeV V c) 16 5 (lm (litF (seeV V c 17) t) R)) 17) 5 := by
    rw [th_w_ne (b := 17) (by decide), th_w_j (by decide)]
    exact sgV_4
  generalize th_w (seeV V c) 16 5 (lm (litF (seeV V c 17) t) R) = V2 at hf2 hS2 e3 e4 e5 e6 ⊢
  refine ev_aload0 (q := 28) dX9_lookAt_27 rfl ?_
  refine ev_getR (q := 31) dX9_lookAt_28 g_X9_36 (hW _ _ rfl) rfl rfl rfl ?_
  refine ev_aload0 (q := 32) dX9_lookAt_31 rfl ?_
  refine ev_getR (q := 35) dX9_lookAt_32 g_X9_29 (hW _ _ rfl) rfl rfl rfl ?_
  refine ev_cV (K := kX9_lookAt) (pc := 35) (q := 38) (c_pile (d := d) (s := t) hS2 (hRf _ hf2) hsp e4 e3 hRs) dX9_lookAt_35 l_X9_302 (hW _ _ rfl) rfl rfl (Nat.le_of_ble_eq_true rfl) (Nat.le_refl _) rfl rfl (fun r S1 hp => ?_)
  obtain ⟨rfl, V3, rfl, v1, v2, v3⟩ := hp
  exact ev_return dX9_lookAt_38 rfl ⟨rfl, V3, rfl, hf2.tr v1.S, fun k hk => (congrFun (v1 17 (by decide)) k).trans (e4 k hk), (congrFun (v1 16 (by decide)) 5).trans e3, v2, v3, by rw [v1 16 (by decide), v1 17 (by decide)]; exact e5, by rw [v1 16 (by decide), v1 17 (by decide)]; exact e6⟩
theorem c_heap (hC : CR N SH V s) (hsp : bSp s) (w : Int32) : MT G l yX9_heap kX9_heap (d + 17) 0 0 [.ref 4, .int w] (N, SH, V) (CP N SH V (a_heap s w) s) := by
  refine MT.of (by decide) rfl rfl (n := 0) rfl (ls := [some (.ref 4), some (.int w)]) rfl ?_
  obtain ⟨rd, ld, eR, eL, hS, hN⟩ := hC
  have hW : wC SH := hS.1
  have e0 : (0 : Int32).toInt = 0 := by decide
  have e2 : (2 : Int32).toInt = 2 := by decide
  have hin := hpS_in s hS.2.2.2.1
  have hsn : ∀ k, k < 5 → sS (V 12 k) (V 13 k) (V 14 k) = sn s k := fun k hk => by
    obtain ⟨q1, q2, q3⟩ := hN.2.1 k hk
    rw [q1, q2, q3]
    rfl
  refine ev_iload1 (q := 1) dX9_heap_0 rfl ?_
  refine ev_if_lt (q := 4) (t := 9) dX9_heap_1 rfl (by decide) (fun c1 => ?_) (fun c1 => ?_)
  · refine ev_iconst (q := 10) (v := (-1)) dX9_heap_9 rfl rfl ?_
    exact ev_ireturn dX9_heap_10 rfl rfl (CP.same hS hN V frS.rf (if_pos (fun h => by have := i_lt.mp c1; have := h.1; omega)))
  · refine ev_iload1 (q := 5) dX9_heap_4 rfl ?_
    refine ev_iconst (q := 6) (v := 2) dX9_heap_5 rfl rfl ?_
    refine ev_icmp_le (q := 9) (t := 11) dX9_heap_6 rfl (by decide) (fun c6 => ?_) (fun c6 => ?_)
    · have hw : inR w 0 2 := by have := i_nlt c1; have := i_le.mp c6; constructor <;> omega
      have k0 := not_not_intro hw
      refine ev_aload0 (q := 12) dX9_heap_11 rfl ?_
      refine ev_aload0 (q := 13) dX9_heap_12 rfl ?_
      refine ev_getR (q := 16) dX9_heap_13 g_X9_16 (hW _ _ rfl) rfl rfl rfl ?_
      refine ev_cV (K := kX9_heap) (pc := 16) (q := 19) (c_lookAt (d := d) (t := s) hS hN.2.2.2.2.2.1 hsp (hW _ _ rfl) (by decide) hsn rfl) dX9_heap_16 l_X9_178 (hW _ _ rfl) rfl rfl (Nat.le_of_ble_eq_true rfl) (Nat.le_refl _) rfl rfl (fun r S1 hp => ?_)
      obtain ⟨rfl, V1, rfl, hf, l1, l2, l3, l4, -⟩ := hp
      refine ev_iload1 (q := 20) dX9_heap_19 rfl ?_
      refine ev_if_ne (q := 23) (t := 34) dX9_heap_20 rfl (by decide) (fun c20 => ?_) (fun c20 => ?_)
      · refine ev_iload1 (q := 35) dX9_heap_34 rfl ?_
        refine ev_iconst (q := 36) (v := 1) dX9_heap_35 rfl rfl ?_
        refine ev_icmp_ne (q := 39) (t := 55) dX9_heap_36 rfl (by decide) (fun c36 => ?_) (fun c36 => ?_)
        · refine ev_aload0 (q := 56) dX9_heap_55 rfl ?_
          refine ev_getR (q := 59) dX9_heap_56 g_X9_36 (hW _ _ rfl) rfl rfl rfl ?_
          refine ev_getR (q := 62) dX9_heap_59 g_X9_182 (hW _ _ rfl) rfl rfl rfl ?_
          refine ev_getI (q := 65) dX9_heap_62 g_X9_191 (hW _ _ rfl) rfl rfl ?_
          exact ev_ireturn dX9_heap_65 rfl rfl (CP.same hS hN V1 hf ((if_neg k0).trans ((if_neg c20).trans ((if_neg c36).trans l4.symm))))
        · refine ev_aload0 (q := 40) dX9_heap_39 rfl ?_
          refine ev_getR (q := 43) dX9_heap_40 g_X9_36 (hW _ _ rfl) rfl rfl rfl ?_
          refine ev_getR (q := 46) dX9_heap_43 g_X9_182 (hW _ _ rfl) rfl rfl rfl ?_
          refine ev_getI (q := 49) dX9_heap_46 g_X9_186 (hW _ _ rfl) rfl rfl ?_
          refine ev_cS (K := kX9_heap) (pc := 49) (q := 52) (j_bitCount _) dX9_heap_49 l_X9_92 rfl (Nat.le_of_ble_eq_true rfl) (Nat.le_refl _) rfl rfl (fun r S1 hp => ?_)
          obtain ⟨rfl, rfl⟩ := hp
          refine ev_goto (q := 65) dX9_heap_52 (by decide) ?_
          exact ev_ireturn dX9_heap_65 rfl rfl (CP.same hS hN V1 hf ((if_neg k0).trans ((if_neg c20).trans ((if_pos c36).trans (show mb (hpS s).1 16 = bct (V1 22 5) by rw [l3, bct_mb hin.1])))))
      · refine ev_aload0 (q := 24) dX9_heap_23 rfl ?_
        refine ev_getR (q := 27) dX9_heap_24 g_X9_36 (hW _ _ rfl) rfl rfl rfl ?_
        refine ev_getR (q := 30) dX9_heap_27 g_X9_182 (hW _ _ rfl) rfl rfl rfl ?_
        refine ev_getI (q := 33) dX9_heap_30 g_X9_186 (hW _ _ rfl) rfl rfl ?_
        exact ev_ireturn dX9_heap_33 rfl rfl (CP.same hS hN V1 hf ((if_neg k0).trans ((if_pos c20).trans l3.symm)))
    · refine ev_iconst (q := 10) (v := (-1)) dX9_heap_9 rfl rfl ?_
      exact ev_ireturn dX9_heap_10 rfl rfl (CP.same hS hN V frS.rf (if_pos (fun h => by have := i_nle c6; have := h.2; omega)))
end C14
