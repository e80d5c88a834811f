/-! the class: raw crossings, again, anew -/
theorem th_5' {x y : Int32} {a b : Nat} (hx : x = nI a) (hy : y = nI b) : x * 5 + y = nI (5 * a + b) := by rw [Int32.mul_comm]; exact th_5 hx hy
theorem inR_m1 {x r : Int32} (h0 : 0 ≤ x.toInt) (h1 : x.toInt ≤ 1000) : inR r 0 (x - 1).toInt ↔ (¬ r < 0 ∧ r < x) := by
  have e0 : (0 : Int32).toInt = 0 := by decide
  have hm := th_m1 h0 (by omega)
  unfold inR
  rw [hm, i_lt, i_lt, e0]
  omega
theorem rws_in {s : th_Vl} (hb : bKp s) : 0 ≤ (rws s).toInt ∧ (rws s).toInt ≤ 30 := by
  have hb : 0 ≤ (s 36 22).toInt := hb
  have e : (30 : Int32).toInt = 30 := by decide
  unfold rws
  split
  · omega
  · rename_i h
    have := i_nle h
    omega
/-- the lines forget -/
def anL (W : th_Vl) (ld : Nat → Nat) : Nat → th_Vl
  | 0 => W
  | i + 1 => th_w (th_w (th_w (th_w (anL W ld i) (ld i) 3 0) (ld i) 4 0) (ld i) 5 0) (ld i) 6 0
theorem anL_ne {W : th_Vl} {ld : Nat → Nat} {a : Nat} : ∀ i, (∀ j, j < i → a ≠ ld j) → anL W ld i a = W a
  | 0, _ => rfl
  | i + 1, h => by
    rw [anL, th_w_ne (h i (by omega)), th_w_ne (h i (by omega)), th_w_ne (h i (by omega)), th_w_ne (h i (by omega)), anL_ne i (fun j hj => h j (by omega))]
theorem anL_at {W : th_Vl} {ld : Nat → Nat} {k j : Nat} : ∀ i, j < i → (∀ m, m < i → m ≠ j → ld m ≠ ld j) → anL W ld i (ld j) k = if 3 ≤ k ∧ k ≤ 6 then 0 else W (ld j) k
  | 0, h, _ => absurd h (Nat.not_lt_zero _)
  | i + 1, h, hn => by
    rw [anL]
    by_cases e : j = i
    · subst e
      rw [th_w_if, th_w_if, th_w_if, th_w_if, anL_ne j (fun m hm => Ne.symm (hn m (by omega) (by omega)))]
      by_cases h6 : k = 6
      · subst h6; simp
      by_cases h5 : k = 5
      · subst h5; simp
      by_cases h4 : k = 4
      · subst h4; simp
      by_cases h3 : k = 3
      · subst h3; simp
      rw [if_neg (fun z => h6 z.2), if_neg (fun z => h5 z.2), if_neg (fun z => h4 z.2), if_neg (fun z => h3 z.2), if_neg (by omega)]
    · have hne : ld j ≠ ld i := Ne.symm (hn i (by omega) (fun z => e z.symm))
      rw [th_w_ne hne, th_w_ne hne, th_w_ne hne, th_w_ne hne]
      exact anL_at i (by omega) (fun m hm hj => hn m (by omega) hj)
section C8
variable {G : th_G} {l : Launch} {d : Nat} {N : Nat} {SH : Nat → Option th_K0} {V s : th_Vl}
theorem c_rhas (hW : wC SH) (hk : V 31 3 = s 36 22) (hb : bKp s) (k : Int32) : MT G l yX4_has kX4_has (d + 2) 0 0 [.ref 31, .int k] (N, SH, V) (th_bo (inR k 0 (rws s - 1).toInt) (N, SH, V)) := by
  refine MT.of (by decide) rfl rfl (n := 0) rfl (ls := [some (.ref 31), some (.int k)]) rfl ?_
  have hr := rws_in hb
  have key := inR_m1 (r := k) hr.1 (by omega)
  have em : imin (V 31 3) 30 = rws s := by rw [hk, imin_rws]
  refine ev_iload1 (q := 1) dX4_has_0 rfl ?_
  refine ev_if_lt (q := 4) (t := 16) dX4_has_1 rfl (by decide) (fun c1 => ?_) (fun c1 => ?_)
  · refine ev_iconst (q := 17) (v := 0) dX4_has_16 rfl rfl ?_
    exact ev_ireturn dX4_has_17 rfl rfl ⟨rfl, Or.inr ⟨fun h => (key.mp h).1 c1, rfl⟩⟩
  · refine ev_iload1 (q := 5) dX4_has_4 rfl ?_
    refine ev_aload0 (q := 6) dX4_has_5 rfl ?_
    refine ev_cV (K := kX4_has) (pc := 6) (q := 9) (c_rsize hW) dX4_has_6 l_X4_31 (hW _ _ rfl) rfl rfl (Nat.le_of_ble_eq_true rfl) (Nat.le_refl _) rfl rfl (fun r S1 hp => ?_)
    obtain ⟨rfl, rfl⟩ := hp
    refine ev_icmp_ge (q := 12) (t := 16) dX4_has_9 rfl (by decide) (fun c9 => ?_) (fun c9 => ?_)
    · refine ev_iconst (q := 17) (v := 0) dX4_has_16 rfl rfl ?_
      exact ev_ireturn dX4_has_17 rfl rfl ⟨rfl, Or.inr ⟨fun h => by have h1 := i_lt.mp (key.mp h).2; have h2 := i_le.mp c9; rw [em] at h2; omega, rfl⟩⟩
    · refine ev_iconst (q := 13) (v := 1) dX4_has_12 rfl rfl ?_
      refine ev_goto (q := 17) dX4_has_13 (by decide) ?_
      exact ev_ireturn dX4_has_17 rfl rfl ⟨rfl, Or.inl ⟨key.mpr ⟨c1, by have h2 := i_nle c9; rw [em] at h2; exact i_lt.mpr h2⟩, rfl⟩⟩
theorem c_slotOf (hW : wC SH) {K j : Nat} {k : Int32} (hK : K < 2 ^ 31) (hV : V 31 3 = nI K) (hk : k = nI j) (hj : j < K) : MT G l yX4_slotOf kX4_slotOf (d + 1) 0 0 [.ref 31, .int k] (N, SH, V) (th_is (nI ((K - 1 - j) % 30)) (N, SH, V)) := by
  refine MT.of (by decide) rfl rfl (n := 0) rfl (ls := [some (.ref 31), some (.int k)]) rfl ?_
  have e : V 31 3 - 1 - k = nI (K - 1 - j) := by
    rw [hV, hk, show (1 : Int32) = nI 1 from rfl, pk_sub (by omega), pk_sub (by omega)]
  refine ev_aload0 (q := 1) dX4_slotOf_0 rfl ?_
  refine ev_getI (q := 4) dX4_slotOf_1 g_X4_21 (hW _ _ rfl) rfl rfl ?_
  refine ev_iconst (q := 5) (v := 1) dX4_slotOf_4 rfl rfl ?_
  refine ev_isub (q := 6) dX4_slotOf_5 rfl ?_
  refine ev_iload1 (q := 7) dX4_slotOf_6 rfl ?_
  refine ev_isub (q := 8) dX4_slotOf_7 rfl ?_
  refine ev_bipush (q := 10) (v := 30) dX4_slotOf_8 rfl rfl ?_
  show EV G l kX4_slotOf _ 0 0 10 _ [.int (nI 30), .int (V 31 3 - 1 - k)] _ _
  rw [e]
  refine ev_cS (K := kX4_slotOf) (pc := 10) (q := 13) (j_floorMod (d := d) (a := K - 1 - j) (b := 30) (by omega) (by decide) (by decide)) dX4_slotOf_10 l_X4_35 rfl (Nat.le_of_ble_eq_true rfl) (Nat.le_refl _) rfl rfl (fun r S1 hp => ?_)
  obtain ⟨rfl, rfl⟩ := hp
  exact ev_ireturn dX4_slotOf_13 rfl rfl ⟨rfl, rfl⟩
theorem c_slot (hW : wC SH) (h0 : V 31 3 = s 36 22) (hb : bKp s) {k : Int32} (h : inR k 0 (rws s - 1).toInt) : MT G l yX4_slotOf kX4_slotOf (d + 1) 0 0 [.ref 31, .int k] (N, SH, V) (th_is (nI (rat s k)) (N, SH, V)) := by
  have hr := isRw_lt hb h
  have hb : 0 ≤ (s 36 22).toInt := hb
  have h1 := th_ixI hb
  have h2 := th_ixI hr.1
  have := Int32.toInt_lt (s 36 22)
  exact c_slotOf hW (by omega) (h0.trans (th_self hb)) (th_self hr.1) (by omega)
theorem c_numberOf (hW : wC SH) (h0 : V 31 3 = s 36 22) (hb : bKp s) {k : Int32} (h : inR k 0 (rws s - 1).toInt) : MT G l yX4_numberOf kX4_numberOf (d + 2) 0 0 [.ref 31, .int k] (N, SH, V) (th_is (V 32 (rat s k)) (N, SH, V)) := by
  refine MT.of (by decide) rfl rfl (n := 0) rfl (ls := [some (.ref 31), some (.int k)]) rfl ?_
  refine ev_aload0 (q := 1) dX4_numberOf_0 rfl ?_
  refine ev_getR (q := 4) dX4_numberOf_1 g_X4_9 (hW _ _ rfl) rfl rfl rfl ?_
  refine ev_aload0 (q := 5) dX4_numberOf_4 rfl ?_
  refine ev_iload1 (q := 6) dX4_numberOf_5 rfl ?_
  refine ev_cV (K := kX4_numberOf) (pc := 6) (q := 9) (c_slot hW h0 hb h) dX4_numberOf_6 l_X4_38 (hW _ _ rfl) rfl rfl (Nat.le_of_ble_eq_true rfl) (Nat.le_refl _) rfl rfl (fun r S1 hp => ?_)
  obtain ⟨rfl, rfl⟩ := hp
  refine ev_iald (q := 10) dX4_numberOf_9 (hW _ _ rfl) rfl rat_lt (by decide) rfl ?_
  exact ev_ireturn dX4_numberOf_10 rfl rfl ⟨rfl, rfl⟩
theorem c_passedAt (hW : wC SH) (h0 : V 31 3 = s 36 22) (hb : bKp s) {k : Int32} (h : inR k 0 (rws s - 1).toInt) : MT G l yX4_passedAt kX4_passedAt (d + 2) 0 0 [.ref 31, .int k] (N, SH, V) (th_is (V 33 (rat s k)) (N, SH, V)) := by
  refine MT.of (by decide) rfl rfl (n := 0) rfl (ls := [some (.ref 31), some (.int k)]) rfl ?_
  refine ev_aload0 (q := 1) dX4_passedAt_0 rfl ?_
  refine ev_getR (q := 4) dX4_passedAt_1 g_X4_15 (hW _ _ rfl) rfl rfl rfl ?_
  refine ev_aload0 (q := 5) dX4_passedAt_4 rfl ?_
  refine ev_iload1 (q := 6) dX4_passedAt_5 rfl ?_
  refine ev_cV (K := kX4_passedAt) (pc := 6) (q := 9) (c_slot hW h0 hb h) dX4_passedAt_6 l_X4_38 (hW _ _ rfl) rfl rfl (Nat.le_of_ble_eq_true rfl) (Nat.le_refl _) rfl rfl (fun r S1 hp => ?_)
  obtain ⟨rfl, rfl⟩ := hp
  refine ev_iald (q := 10) dX4_passedAt_9 (hW _ _ rfl) rfl rat_lt (by decide) rfl ?_
  exact ev_ireturn dX4_passedAt_10 rfl rfl ⟨rfl, rfl⟩
theorem c_copyHits (hW : wC SH) (h0 : V 31 3 = s 36 22) (hb : bKp s) {k : Int32} (h : inR k 0 (rws s - 1).toInt) {q : Nat} (hq : SH q = some (.inl (0, 5, th_no))) (hqn : q ≠ 34) : MT G l yX4_copyHits kX4_copyHits (d + 2) 0 0 [.ref 31, .int k, .ref q] (N, SH, V) (fun r S' => r = none ∧ S' = (N, SH, th_seg V q 0 5 (fun j => V 34 (5 * rat s k + j)))) := by
  refine MT.of (by decide) rfl rfl (n := 2) rfl (ls := [some (.ref 31), some (.int k), some (.ref q), none, none]) rfl ?_
  have hrl : rat s k < 30 := rat_lt
  have lp : ∀ i, i ≤ 5 → EV G l kX4_copyHits (d + 2) 0 0 9 [some (.ref 31), some (.int k), some (.ref q), some (.int (nI (rat s k))), some (.int (nI i))] [] (N, SH, th_seg V q 0 i (fun j => V 34 (5 * rat s k + j))) (fun r S' => r = none ∧ S' = (N, SH, th_seg V q 0 5 (fun j => V 34 (5 * rat s k + j)))) := by
    refine th_down 5 ?_ ?_
    · refine ev_iload4 (q := 11) dX4_copyHits_9 rfl ?_
      refine ev_iconst (q := 12) (v := 5) dX4_copyHits_11 rfl rfl ?_
      refine ev_icmp_ge (q := 15) (t := 36) dX4_copyHits_12 rfl (by decide) (fun c => ?_) (fun c => ?_)
      · exact ev_return dX4_copyHits_36 rfl ⟨rfl, rfl⟩
      · exact absurd (by decide) c
    · intro i hi ih
      rw [← th_seg_s0] at ih
      refine ev_iload4 (q := 11) dX4_copyHits_9 rfl ?_
      refine ev_iconst (q := 12) (v := 5) dX4_copyHits_11 rfl rfl ?_
      refine ev_icmp_ge (q := 15) (t := 36) dX4_copyHits_12 rfl (by decide) (fun c => ?_) (fun c => ?_)
      · exact absurd c (nI_ge hi (by decide))
      · refine ev_aload2 (q := 16) dX4_copyHits_15 rfl ?_
        refine ev_iload4 (q := 18) dX4_copyHits_16 rfl ?_
        refine ev_aload0 (q := 19) dX4_copyHits_18 rfl ?_
        refine ev_getR (q := 22) dX4_copyHits_19 g_X4_18 (hW _ _ rfl) rfl rfl rfl ?_
        refine ev_iload3 (q := 23) dX4_copyHits_22 rfl ?_
        refine ev_iconst (q := 24) (v := 5) dX4_copyHits_23 rfl rfl ?_
        refine ev_imul (q := 25) dX4_copyHits_24 rfl ?_
        refine ev_iload4 (q := 27) dX4_copyHits_25 rfl ?_
        refine ev_iadd (q := 28) dX4_copyHits_27 rfl ?_
        refine ev_iald (q := 29) dX4_copyHits_28 (hW _ _ rfl) (th_5' rfl rfl) (show 5 * rat s k + i < 150 by omega) (by decide) rfl ?_
        show EV G l kX4_copyHits _ 0 0 29 _ (.int (th_seg V q 0 i (fun j => V 34 (5 * rat s k + j)) 34 (5 * rat s k + i)) :: _) _ _
        rw [th_seg_ne (Ne.symm hqn)]
        refine ev_iast (q := 30) dX4_copyHits_29 hq rfl hi (by decide) rfl ?_
        refine ev_iinc4 (q := 33) dX4_copyHits_30 rfl (by decide) rfl (nI_succ i).symm ?_
        refine ev_goto (q := 9) dX4_copyHits_33 (by decide) ?_
        exact ih
  refine ev_aload0 (q := 1) dX4_copyHits_0 rfl ?_
  refine ev_iload1 (q := 2) dX4_copyHits_1 rfl ?_
  refine ev_cV (K := kX4_copyHits) (pc := 2) (q := 5) (c_slot (d := d) hW h0 hb h) dX4_copyHits_2 l_X4_38 (hW _ _ rfl) rfl rfl (Nat.le_of_ble_eq_true rfl) (Nat.le_refl _) rfl rfl (fun r S1 hp => ?_)
  obtain ⟨rfl, rfl⟩ := hp
  refine ev_istore3 (q := 6) dX4_copyHits_5 rfl (by decide) rfl ?_
  refine ev_iconst (q := 7) (v := 0) dX4_copyHits_6 rfl rfl ?_
  refine ev_istore4 (q := 9) dX4_copyHits_7 rfl (by decide) rfl ?_
  have hh := lp 0 (by decide)
  rw [th_seg_0] at hh
  exact hh
theorem c_again (hC : CR N SH V s) (hb : bKp s) (hrh : bRh s) (k : Int32) : MT G l yX9_again kX9_again (d + 3) 0 0 [.ref 4, .int k] (N, SH, V) (CP N SH V (a_again s k) (n_again s k)) := by
  refine MT.of (by decide) rfl rfl (n := 0) rfl (ls := [some (.ref 4), some (.int k)]) rfl ?_
  obtain ⟨rd, ld, eR, eL, hS, hN⟩ := hC
  have hW : wC SH := hS.1
  have h0 := hN.2.2.1.2.2.2.2.2
  have hrl : rat s k < 30 := rat_lt
  refine ev_aload0 (q := 1) dX9_again_0 rfl ?_
  refine ev_getR (q := 4) dX9_again_1 g_X9_60 (hW _ _ rfl) rfl rfl rfl ?_
  refine ev_iload1 (q := 5) dX9_again_4 rfl ?_
  refine ev_cV (K := kX9_again) (pc := 5) (q := 8) (c_rhas (d := d) hW h0 hb k) dX9_again_5 l_X9_273 (hW _ _ rfl) rfl rfl (Nat.le_of_ble_eq_true rfl) (by omega) rfl rfl (fun r S1 hp => ?_)
  rcases hp with ⟨rfl, ⟨hp5, rfl⟩ | ⟨hp5, rfl⟩⟩
  · refine ev_if_ne (q := 11) (t := 13) dX9_again_8 rfl (by decide) (fun c8 => ?_) (fun c8 => ?_)
    · refine ev_aload0 (q := 14) dX9_again_13 rfl ?_
      refine ev_getR (q := 17) dX9_again_14 g_X9_60 (hW _ _ rfl) rfl rfl rfl ?_
      refine ev_iload1 (q := 18) dX9_again_17 rfl ?_
      refine ev_aload0 (q := 19) dX9_again_18 rfl ?_
      refine ev_getR (q := 22) dX9_again_19 g_X9_16 (hW _ _ rfl) rfl rfl rfl ?_
      refine ev_cV (K := kX9_again) (pc := 22) (q := 25) (c_copyHits (d := d) hW h0 hb hp5 (q := 12) (hW _ _ rfl) (by decide)) dX9_again_22 l_X9_280 (hW _ _ rfl) rfl rfl (Nat.le_of_ble_eq_true rfl) (by omega) rfl rfl (fun r S1 hp => ?_)
      obtain ⟨rfl, rfl⟩ := hp
      refine ev_aload0 (q := 26) dX9_again_25 rfl ?_
      refine ev_getR (q := 29) dX9_again_26 g_X9_16 (hW _ _ rfl) rfl rfl rfl ?_
      refine ev_cS (K := kX9_again) (pc := 29) (q := 32) (c_cellsIn (d := d) (a := 12) (hW _ _ rfl)) dX9_again_29 l_X9_102 rfl (Nat.le_of_ble_eq_true rfl) (by omega) rfl rfl (fun r S1 hp => ?_)
      obtain ⟨rfl, rfl⟩ := hp
      rw [show n_again s k = _ from if_pos hp5]
      refine ev_ireturn dX9_again_32 rfl rfl (CP.mk _ ?_ hS (th_seg_ne (by decide)) (th_seg_ne (by decide)) rfl rfl (RN.L hS hN (fun a ha => th_seg_ne (by omega)) (fun a ha => th_seg_ne (by omega)) (fun j hj => ?_)) (FC.rf.sg (by decide)))
      · rw [show a_again s k = _ from if_pos hp5]
        refine (acB_ah 5 (fun j hj => ⟨?_, hrh _ (by omega)⟩)).symm
        rw [th_seg_in (Nat.zero_le _) (by omega)]
        exact hN.2.2.2.1.2 _ (by omega)
      · rw [th_seg_in (Nat.zero_le _) (by omega), th_seg_in (Nat.zero_le _) (by omega)]
        exact ⟨hN.2.2.2.1.2 _ (by omega), (hN.2.1 j hj).2⟩
    · exact absurd c8 (by decide)
  · refine ev_if_ne (q := 11) (t := 13) dX9_again_8 rfl (by decide) (fun c8 => ?_) (fun c8 => ?_)
    · exact absurd c8 (by decide)
    · refine ev_iconst (q := 12) (v := (-1)) dX9_again_11 rfl rfl ?_
      exact ev_ireturn dX9_again_12 rfl rfl (CP.no hS hN (if_neg hp5) (if_neg hp5))
theorem c_forget {a : Nat} {f : Nat → Option Nat} (ha : SH a = some (.inr (2, f))) : MT G l yX2_forget kX2_forget d 0 0 [.ref a] (N, SH, V) (fun r S' => r = none ∧ S' = (N, SH, th_w (th_w (th_w (th_w V a 3 0) a 4 0) a 5 0) a 6 0)) := by
  refine MT.of (by decide) rfl rfl (n := 0) rfl (ls := [some (.ref a)]) rfl ?_
  refine ev_aload0 (q := 1) dX2_forget_0 rfl ?_
  refine ev_iconst (q := 2) (v := 0) dX2_forget_1 rfl rfl ?_
  refine ev_putI (q := 5) dX2_forget_2 (p_X2_28 _) ha rfl rfl rfl rfl ?_
  refine ev_aload0 (q := 6) dX2_forget_5 rfl ?_
  refine ev_iconst (q := 7) (v := 0) dX2_forget_6 rfl rfl ?_
  refine ev_putI (q := 10) dX2_forget_7 (p_X2_31 _) ha rfl rfl rfl rfl ?_
  refine ev_aload0 (q := 11) dX2_forget_10 rfl ?_
  refine ev_iconst (q := 12) (v := 0) dX2_forget_11 rfl rfl ?_
  refine ev_putI (q := 15) dX2_forget_12 (p_X2_34 _) ha rfl rfl rfl rfl ?_
  refine ev_aload0 (q := 16) dX2_forget_15 rfl ?_
  refine ev_iconst (q := 17) (v := 0) dX2_forget_16 rfl rfl ?_
  refine ev_putI (q := 20) dX2_forget_17 (p_X2_37 _) ha rfl rfl rfl rfl ?_
  exact ev_return dX2_forget_20 rfl ⟨rfl, rfl⟩
theorem c_anew (hC : CR N SH V s) : MT G l yX9_anew kX9_anew (d + 3) 0 0 [.ref 4] (N, SH, V) (CP N SH V (s 36 20) (n_anew s)) := by
  refine MT.of (by decide) rfl rfl (n := 2) rfl (ls := [some (.ref 4), none, none]) rfl ?_
  obtain ⟨rd, ld, eR, eL, hS, hN⟩ := hC
  have hW : wC SH := hS.1
  obtain ⟨f1, f2, f3, f4, f5, f6⟩ := hN.2.2.1
  have hL8 : ix (s 36 11) ≤ 8 := hS.2.2.2.2.1
  have hld := hS.2.2.2.2.2.2.2.2.2.2.1
  refine ev_aload0 (q := 1) dX9_anew_0 rfl ?_
  refine ev_getI (q := 4) dX9_anew_1 g_X9_250 (hW _ _ rfl) rfl rfl ?_
  refine ev_istore1 (q := 5) dX9_anew_4 rfl (by decide) rfl ?_
  refine ev_aload0 (q := 6) dX9_anew_5 rfl ?_
  refine ev_iconst (q := 7) (v := 0) dX9_anew_6 rfl rfl ?_
  refine ev_putI (q := 10) dX9_anew_7 (p_X9_250 _) (hW _ _ rfl) rfl rfl rfl rfl ?_
  refine ev_aload0 (q := 11) dX9_anew_10 rfl ?_
  refine ev_iconst (q := 12) (v := 0) dX9_anew_11 rfl rfl ?_
  refine ev_putI (q := 15) dX9_anew_12 (p_X9_265 _) (hW _ _ rfl) rfl rfl rfl rfl ?_
  refine ev_aload0 (q := 16) dX9_anew_15 rfl ?_
  refine ev_iconst (q := 17) (v := 0) dX9_anew_16 rfl rfl ?_
  refine ev_putI (q := 20) dX9_anew_17 (p_X9_269 _) (hW _ _ rfl) rfl rfl rfl rfl ?_
  refine ev_aload0 (q := 21) dX9_anew_20 rfl ?_
  refine ev_iconst (q := 22) (v := 0) dX9_anew_21 rfl rfl ?_
  refine ev_putI (q := 25) dX9_anew_22 (p_X9_253 _) (hW _ _ rfl) rfl rfl rfl rfl ?_
  refine ev_aload0 (q := 26) dX9_anew_25 rfl ?_
  refine ev_getR (q := 29) dX9_anew_26 g_X9_60 (hW _ _ rfl) rfl rfl rfl ?_
  refine ev_iconst (q := 30) (v := 0) dX9_anew_29 rfl rfl ?_
  refine ev_putI (q := 33) dX9_anew_30 (p_X9_268 _) (hW _ _ rfl) rfl rfl rfl rfl ?_
  refine ev_iconst (q := 34) (v := 0) dX9_anew_33 rfl rfl ?_
  refine ev_istore2 (q := 35) dX9_anew_34 rfl (by decide) rfl ?_
  show EV G l kX9_anew _ 0 0 35 [some (.ref 4), some (.int (V 4 13)), some (.int 0)] _ (N, SH, th_w (th_w (th_w (th_w (th_w V 4 13 0) 4 14 0) 4 15 0) 4 12 0) 31 3 0) _
  have hN1 : RN (th_w (th_w (th_w (th_w (th_w V 4 13 0) 4 14 0) 4 15 0) 4 12 0) 31 3 0) (th_w (th_w (th_w (th_w (th_w s 36 20 0) 36 21 0) 36 22 0) 36 23 0) 36 25 0) (ix (s 36 6)) (ix (s 36 11)) rd ld := RN.F hS hN (fun a h1 h2 => by rw [th_w_ne h2, th_w_ne h1, th_w_ne h1, th_w_ne h1, th_w_ne h1]) (fun a h1 => by rw [th_w_ne h1, th_w_ne h1, th_w_ne h1, th_w_ne h1, th_w_ne h1]) rfl ⟨f1, rfl, rfl, rfl, rfl, rfl⟩
  have hS1 := hS.c (V' := th_w (th_w (th_w (th_w (th_w V 4 13 0) 4 14 0) 4 15 0) 4 12 0) 31 3 0) rfl rfl
  have hF1 : FC V (th_w (th_w (th_w (th_w (th_w V 4 13 0) 4 14 0) 4 15 0) 4 12 0) 31 3 0) := ((((FC.rf.w (by decide)).w (by decide)).w (by decide)).w (by decide)).w (by decide)
  have hs1 : n_anew s = th_seg (th_seg (th_seg (th_seg (th_w (th_w (th_w (th_w (th_w s 36 20 0) 36 21 0) 36 22 0) 36 23 0) 36 25 0) 50 0 8 (fun _ => 0)) 51 0 8 (fun _ => 0)) 52 0 8 (fun _ => 0)) 53 0 8 (fun _ => 0) := rfl
  have hr1 : (th_w (th_w (th_w (th_w (th_w s 36 20 0) 36 21 0) 36 22 0) 36 23 0) 36 25 0) 36 6 = s 36 6 := rfl
  have hr2 : (th_w (th_w (th_w (th_w (th_w s 36 20 0) 36 21 0) 36 22 0) 36 23 0) 36 25 0) 36 11 = s 36 11 := rfl
  have hq1 : (th_w (th_w (th_w (th_w (th_w V 4 13 0) 4 14 0) 4 15 0) 4 12 0) 31 3 0) 15 = V 15 := rfl
  have hq2 : (th_w (th_w (th_w (th_w (th_w V 4 13 0) 4 14 0) 4 15 0) 4 12 0) 31 3 0) 30 = V 30 := rfl
  rw [f3]
  generalize th_w (th_w (th_w (th_w (th_w V 4 13 0) 4 14 0) 4 15 0) 4 12 0) 31 3 0 = V1 at hN1 hS1 hF1 hq1 hq2 ⊢
  generalize th_w (th_w (th_w (th_w (th_w s 36 20 0) 36 21 0) 36 22 0) 36 23 0) 36 25 0 = s1 at hN1 hs1 hr1 hr2
  have lo : ∀ i, i ≤ ix (s 36 11) → ∀ a, a < 64 → anL V1 ld i a = V1 a := fun i hi a ha => anL_ne i (fun j hj => by have := (hld j (by omega)).1; omega)
  have lp : ∀ i, i ≤ ix (s 36 11) → EV G l kX9_anew (d + 3) 0 0 35 [some (.ref 4), some (.int (s 36 20)), some (.int (nI i))] [] (N, SH, anL V1 ld i) (CP N SH V (s 36 20) (n_anew s)) := by
    refine th_down _ ?_ ?_
    · have hS2 := hS1.c (V' := anL V1 ld (ix (s 36 11))) (lo _ (Nat.le_refl _) _ (by decide)) (lo _ (Nat.le_refl _) _ (by decide))
      have hLs := hS2.2.2.2.2.2.2.1
      obtain ⟨fR, hfR⟩ := hLs.sh
      refine ev_iload2 (q := 36) dX9_anew_35 rfl ?_
      refine ev_aload0 (q := 37) dX9_anew_36 rfl ?_
      refine ev_getR (q := 40) dX9_anew_37 g_X9_54 (hW _ _ rfl) rfl rfl rfl ?_
      refine ev_cF (K := kX9_anew) (pc := 40) (q := 45) (hLs.size (d := d + 2)) dX9_anew_40 l_X9_109 hfR rfl (Nat.le_of_ble_eq_true rfl) (Nat.le_refl _) rfl rfl (fun r S1 hp => ?_)
      obtain ⟨rfl, rfl⟩ := hp
      refine ev_icmp_ge (q := 48) (t := 70) dX9_anew_45 rfl (by decide) (fun c => ?_) (fun c => ?_)
      · refine ev_iload1 (q := 71) dX9_anew_70 rfl ?_
        have fin : RN (anL V1 ld (ix (s 36 11))) (n_anew s) (ix (s 36 6)) (ix (s 36 11)) rd ld := by
          rw [hs1]
          refine RN.lns hS1 hN1 (fun a ha => anL_ne _ ha) (fun a ha => by rw [th_seg_ne (by omega), th_seg_ne (by omega), th_seg_ne (by omega), th_seg_ne (by omega)]) (fun j hj => ?_)
          have hat : ∀ k, anL V1 ld (ix (s 36 11)) (ld j) k = if 3 ≤ k ∧ k ≤ 6 then 0 else V1 (ld j) k := fun k => anL_at _ hj (fun m hm hmj => by have := hS.ldne hm hj hmj; omega)
          have hn1 : ∀ x, x = 1 ∨ x = 2 → anL V1 ld (ix (s 36 11)) (ld j + x) = V1 (ld j + x) := fun x hx => anL_ne _ (fun m hm => by
            by_cases e : m = j
            · subst e; omega
            · have := hS.ldne hm hj e; omega)
          obtain ⟨⟨g1, g2, -⟩, g4, g5⟩ := hN1.2.2.2.2.2.2 j hj
          unfold lnR
          rw [hat, hat, hat, hat, hat, hat, hn1 1 (Or.inl rfl), hn1 2 (Or.inr rfl)]
          refine ⟨⟨g1, g2, ?_, ?_, ?_, ?_⟩, g4, g5⟩
          · show (0 : Int32) = _
            rw [th_seg_ne (by decide), th_seg_ne (by decide), th_seg_ne (by decide), th_seg_in (Nat.zero_le _) (by omega)]
          · show (0 : Int32) = _
            rw [th_seg_ne (by decide), th_seg_ne (by decide), th_seg_in (Nat.zero_le _) (by omega)]
          · show (0 : Int32) = _
            rw [th_seg_ne (by decide), th_seg_in (Nat.zero_le _) (by omega)]
          · show (0 : Int32) = _
            rw [th_seg_in (Nat.zero_le _) (by omega)]
        exact ev_ireturn dX9_anew_71 rfl rfl (CP.mk _ rfl hS ((lo _ (Nat.le_refl _) _ (by decide)).trans hq1) ((lo _ (Nat.le_refl _) _ (by decide)).trans hq2) rfl rfl fin (fun a h1 h2 => (anL_ne _ (fun m hm => by have := (hld m hm).1; omega)).trans (hF1 a h1 h2)))
      · exact absurd (Int32.le_refl _) c
    · intro i hi ih
      have hS2 := hS1.c (V' := anL V1 ld i) (lo _ (Nat.le_of_lt hi) _ (by decide)) (lo _ (Nat.le_of_lt hi) _ (by decide))
      have hLs := hS2.2.2.2.2.2.2.1
      obtain ⟨fR, hfR⟩ := hLs.sh
      obtain ⟨h64, -, ⟨f, ha, -⟩, -, -⟩ := hld i hi
      refine ev_iload2 (q := 36) dX9_anew_35 rfl ?_
      refine ev_aload0 (q := 37) dX9_anew_36 rfl ?_
      refine ev_getR (q := 40) dX9_anew_37 g_X9_54 (hW _ _ rfl) rfl rfl rfl ?_
      refine ev_cF (K := kX9_anew) (pc := 40) (q := 45) (hLs.size (d := d + 2)) dX9_anew_40 l_X9_109 hfR rfl (Nat.le_of_ble_eq_true rfl) (Nat.le_refl _) rfl rfl (fun r S1 hp => ?_)
      obtain ⟨rfl, rfl⟩ := hp
      refine ev_icmp_ge (q := 48) (t := 70) dX9_anew_45 rfl (by decide) (fun c => ?_) (fun c => ?_)
      · exact absurd c (nI_ge hi (by omega))
      · refine ev_aload0 (q := 49) dX9_anew_48 rfl ?_
        refine ev_getR (q := 52) dX9_anew_49 g_X9_54 (hW _ _ rfl) rfl rfl rfl ?_
        refine ev_iload2 (q := 53) dX9_anew_52 rfl ?_
        refine ev_cF (K := kX9_anew) (pc := 53) (q := 58) (hLs.get (d := d) hi rfl) dX9_anew_53 l_X9_287 hfR rfl (Nat.le_of_ble_eq_true rfl) (by omega) rfl rfl (fun r S1 hp => ?_)
        obtain ⟨rfl, rfl⟩ := hp
        refine ev_chk (q := 61) dX9_anew_58 ha rfl n_X9_220 rfl ?_
        refine ev_cV (K := kX9_anew) (pc := 61) (q := 64) (c_forget (d := d + 2) ha) dX9_anew_61 l_X9_291 ha rfl rfl (Nat.le_of_ble_eq_true rfl) (Nat.le_refl _) rfl rfl (fun r S1 hp => ?_)
        obtain ⟨rfl, rfl⟩ := hp
        refine ev_iinc2 (q := 67) dX9_anew_64 rfl (by decide) rfl (nI_succ i).symm ?_
        refine ev_goto (q := 35) dX9_anew_67 (by decide) ?_
        exact ih
  exact lp 0 (Nat.zero_le _)
end C8
