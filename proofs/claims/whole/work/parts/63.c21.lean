/-! the class: fire -/
theorem th_w_comm {V : th_Vl} {a b k j : Nat} {x y : Int32} (h : a ≠ b ∨ k ≠ j) : th_w (th_w V a k x) b j y = th_w (th_w V b j y) a k x := by
  funext c i
  simp only [th_w_if]
  by_cases h1 : c = a ∧ i = k
  · have h2 : ¬ (c = b ∧ i = j) := by omega
    rw [if_neg h2, if_pos h1, if_pos h1]
  · rw [if_neg h1]
    by_cases h2 : c = b ∧ i = j
    · rw [if_pos h2, if_neg h1]
    · rw [if_neg h2, if_neg h1]
theorem lk1_w {U s : th_Vl} {L k : Nat} {x : Int32} : lk1 (th_w U 36 k x) s L = th_w (lk1 U s L) 36 k x := by
  unfold lk1
  rw [th_w_seg (by decide), th_w_seg (by decide)]
theorem lk2_w {U s : th_Vl} {L k : Nat} {x : Int32} (h : k ≠ 23) : lk2 (th_w U 36 k x) s L = th_w (lk2 U s L) 36 k x := by
  unfold lk2
  rw [lk1_w]
  split
  · exact th_w_comm (Or.inr h)
  · rfl
theorem lk5_w {U s : th_Vl} {L k : Nat} {x : Int32} (h : k ≠ 23 ∧ k ≠ 22 ∧ k ≠ 25) : lk5 (th_w U 36 k x) s L = th_w (lk5 U s L) 36 k x := by
  have a3 : lk3 (th_w U 36 k x) s L L = th_w (lk3 U s L L) 36 k x := by
    unfold lk3
    rw [lk2_w h.1, th_w_seg (a := 53) (by decide), th_w_seg (a := 52) (by decide)]
  have a4 : lk4 (th_w U 36 k x) s L 5 = th_w (lk4 U s L 5) 36 k x := by
    unfold lk4
    rw [a3, th_w_seg (a := 56) (by decide), th_w_comm (a := 55) (b := 36) (Or.inl (by decide)), th_w_comm (a := 54) (b := 36) (Or.inl (by decide))]
  unfold lk5
  rw [a4, th_w_comm (k := k) (j := 22) (Or.inr h.2.1), th_w_comm (k := k) (j := 25) (Or.inr h.2.2)]
def nlk (U s : th_Vl) : th_Vl := if kpc s (ix (s 36 11)) = 0 ∨ brc s (ix (s 36 11)) = true then lk2 U s (ix (s 36 11)) else lk5 U s (ix (s 36 11))
theorem nfire_eq (s : th_Vl) : n_fire s = n_noh (if 0 < (s 36 25).toInt then th_w (th_w (th_w s 36 20 (s 36 20 + 1)) 36 25 (s 36 25 - 1)) 36 21 (s 36 21 + 1) else nlk (th_w s 36 20 (s 36 20 + 1)) s) := by
  unfold n_fire
  congr 1
  by_cases h : 0 < (s 36 25).toInt
  · rw [if_pos h, if_pos h, th_w_comm (j := 20) (Or.inr (by decide)), th_w_comm (a := 36) (k := 25) (j := 20) (Or.inr (by decide))]
  · rw [if_neg h, if_neg h]
    unfold n_look nlk
    split
    · rw [lk2_w (by decide)]
    · rw [lk5_w (by decide)]
section C21
variable {G : th_G} {l : Launch} {d : Nat} {N : Nat} {SH : Nat → Option th_K0} {V s : th_Vl}
def PJg (N : Nat) (SH : Nat → Option th_K0) (V s U : th_Vl) (R L : Nat) (rd ld : Nat → Nat) (eR eL : Nat) : Option Value → th_S → Prop := fun r S' => ∃ SH' V', S' = (N, SH', V') ∧ r = some (.int (a_look s)) ∧ RS N SH' V' R L rd ld eR eL ∧ RN V' (nlk U s) R L rd ld ∧ FC V V' ∧ ∀ b, b ≠ 29 → SH' b = SH b
theorem c_judge {R L eR eL : Nat} {rd ld : Nat → Nat} {U : th_Vl} (hS : RS N SH V R L rd ld eR eL) (hN : RN V U R L rd ld) (hU1 : ∀ a, a ≠ 36 → U a = s a) (hU2 : ∀ k, k ≠ 20 → U 36 k = s 36 k) (hRs : R = ix (s 36 6)) (hLs : L = ix (s 36 11)) (hro : bRo s) (hsp : bSp s) (hhi : bHi s) (hle : bLe s) (hby : bBy s) (hgd : bGd s) (hsh : ∀ j, j < L → 1 ≤ (s 48 j).toInt) (hkp : bKp s) (hk2 : (s 36 22).toInt < 1000000) : MT G l yX9_judgeCrossing kX9_judgeCrossing (d + 263) 0 0 [.ref 4, .int (s 36 20)] (N, SH, V) (PJg N SH V s U R L rd ld eR eL) := by
  refine MT.of (by decide) rfl rfl (n := 3) rfl (ls := [some (.ref 4), some (.int (s 36 20)), none, none, none]) rfl ?_
  have hW : wC SH := hS.1
  have hL8 : L ≤ 8 := hS.2.2.2.2.1
  have hlds := hS.2.2.2.2.2.2.2.2.2.2.1
  have hsn : ∀ k, k < 5 → sS (V 12 k) (V 13 k) (V 14 k) = sn s k := fun k hk => by
    obtain ⟨q1, q2, q3⟩ := hN.2.1 k hk
    rw [q1, q2, q3, hU1 _ (by decide), hU1 _ (by decide), hU1 _ (by decide)]
    rfl
  have hRd : ∀ j, j < R → rdR V s (rd j) j := fun j hj => (hN.2.2.2.2.2.1 j hj).c rfl rfl rfl (hU1 _ (by decide)).symm (hU1 _ (by decide)).symm
  refine ev_aload0 (q := 1) dX9_judgeCrossing_0 rfl ?_
  refine ev_aload0 (q := 2) dX9_judgeCrossing_1 rfl ?_
  refine ev_getR (q := 5) dX9_judgeCrossing_2 g_X9_16 (hW _ _ rfl) rfl rfl rfl ?_
  refine ev_cV (K := kX9_judgeCrossing) (pc := 5) (q := 8) (c_lookAt (d := d) (t := s) hS hRd (by rw [hRs]; exact hsp) (hW _ _ rfl) (by decide) hsn hRs) dX9_judgeCrossing_5 l_X9_178 (hW _ _ rfl) rfl rfl (Nat.le_of_ble_eq_true rfl) (by omega) rfl rfl (fun r S1 hp => ?_)
  obtain ⟨rfl, V1, rfl, hf1, hk1⟩ := hp
  have hS1 := hS.c (V' := V1) (hf1 _ (by unfold scr; omega)) (hf1 _ (by unfold scr; omega))
  have hN1 := RN.fr hS hN hf1
  have toS : ∀ W, (∀ j, j < L → lnR W U (ld j) j) → ∀ j, j < L → lnR W s (ld j) j := fun W h j hj => (h j hj).c rfl rfl rfl (hU1 _ (by decide)).symm (hU1 _ (by decide)).symm (hU1 _ (by decide)).symm (hU1 _ (by decide)).symm (hU1 _ (by decide)).symm (hU1 _ (by decide)).symm (hU1 _ (by decide)).symm (hU1 _ (by decide)).symm
  refine ev_aload0 (q := 9) dX9_judgeCrossing_8 rfl ?_
  refine ev_aload0 (q := 10) dX9_judgeCrossing_9 rfl ?_
  refine ev_cV (K := kX9_judgeCrossing) (pc := 10) (q := 13) (c_holdingLines (d := d) (s := s) hS1 (toS _ hN1.2.2.2.2.2.2) hLs hle hby hgd (ans_is hk1 hRs hro hhi)) dX9_judgeCrossing_10 l_X9_284 (hW _ _ rfl) rfl rfl (Nat.le_of_ble_eq_true rfl) (by omega) rfl rfl (fun r S1 hp => ?_)
  obtain ⟨rfl, SH2, V2, rfl, hE⟩ := hp
  have hf2 : frS V V2 := hf1.tr hE.S
  have hSHe : ∀ b, b ≠ 29 → SH2 b = SH b := fun b hb => (hE.1 b hb).1
  have hS2 := (hS1.c (V' := V2) (hE.S _ (by unfold scr; omega)) (hE.S _ (by unfold scr; omega))).rdr hSHe hE.2
  have hN2 := RN.fr hS1 hN1 hE.S
  have hW2 : wC SH2 := hS2.1
  have hW : wC SH2 := hS2.1
  have hln2 := toS _ hN2.2.2.2.2.2.2
  refine ev_cV (K := kX9_judgeCrossing) (pc := 13) (q := 16) (c_passLines (d := d) (s := s) hS2 hln2 hsh (by rw [hld, hLs])) dX9_judgeCrossing_13 l_X9_305 (hW _ _ rfl) rfl rfl (Nat.le_of_ble_eq_true rfl) (by omega) rfl rfl (fun r S1 hp => ?_)
  obtain ⟨rfl, rfl⟩ := hp
  have lo3 : ∀ a, a < 64 → twV V2 ld 3 4 (f50 s) (f51 s) L a = V2 a := fun a ha => twV_ne L (fun j hj => by have := (hlds j hj).1; omega)
  have at3 : ∀ j, j < L → ∀ k, twV V2 ld 3 4 (f50 s) (f51 s) L (ld j) k = if k = 4 then f51 s j else if k = 3 then f50 s j else V2 (ld j) k := fun j hj k => twV_at L hj (fun m hm hmj => by have := hS.ldne hm hj hmj; omega)
  have nx3 : ∀ j, j < L → ∀ x, x = 1 ∨ x = 2 → twV V2 ld 3 4 (f50 s) (f51 s) L (ld j + x) = V2 (ld j + x) := fun j hj x hx => twV_ne L (fun m hm => by
    by_cases e : m = j
    · subst e; omega
    · have := hS.ldne hm hj e; omega)
  have ne3 : ∀ a, (∀ j, j < L → a ≠ ld j) → twV V2 ld 3 4 (f50 s) (f51 s) L a = V2 a := fun a ha => twV_ne L ha
  generalize twV V2 ld 3 4 (f50 s) (f51 s) L = V3 at lo3 at3 nx3 ne3 ⊢
  have hS3 := hS2.c (V' := V3) (lo3 _ (by decide)) (lo3 _ (by decide))
  have l50 : ∀ j, j < L → lk1 U s L 50 j = f50 s j := fun j hj => by
    unfold lk1
    rw [th_seg_ne (by decide), th_seg_in (Nat.zero_le _) (by omega), Nat.sub_zero]
  have l51 : ∀ j, j < L → lk1 U s L 51 j = f51 s j := fun j hj => by
    unfold lk1
    rw [th_seg_in (Nat.zero_le _) (by omega), Nat.sub_zero]
  have hN3 : RN V3 (lk1 U s L) R L rd ld := by
    refine RN.lns hS2 hN2 ne3 (fun a ha => lk1_row (by omega)) (fun j hj => ?_)
    obtain ⟨⟨g1, g2, g3, g4, g5, g6⟩, g7, g8⟩ := hN2.2.2.2.2.2.2 j hj
    unfold lnR
    rw [at3 j hj, at3 j hj, at3 j hj, at3 j hj, at3 j hj, at3 j hj, nx3 j hj 1 (Or.inl rfl), nx3 j hj 2 (Or.inr rfl), l50 j hj, l51 j hj, lk1_row (a := 49) (by decide), lk1_row (a := 48) (by decide), lk1_row (a := 52) (by decide), lk1_row (a := 53) (by decide), lk1_row (a := 47) (by decide), lk1_row (a := 46) (by decide)]
    exact ⟨⟨g1, g2, rfl, rfl, g5, g6⟩, g7, g8⟩
  have hF3 : FC V V3 := fun a z1 z2 => (lo3 a (by omega)).trans (hf2.FC a z1 z2)
  have hbar : ∀ j, j < L → V3 (ld j) 1 = s 49 j := fun j hj => by
    rw [at3 j hj]
    exact (hln2 j hj).1.1
  obtain ⟨ek, eb⟩ := keeps_lm (s := s) (L := L) (by omega)
  have hk0 : lm (kp s) L = 0 ↔ kpc s L = 0 := by rw [lm_0 (by omega), kpc_cnt, cntB_0]
  have hb0 : lm (fun j => pas s j && !decide (s 49 j = 0)) L = 0 ↔ brc s L = false := by rw [lm_0 (by omega), brc_ex]
  refine ev_istore2 (q := 17) dX9_judgeCrossing_16 rfl (by decide) rfl ?_
  refine ev_iload2 (q := 18) dX9_judgeCrossing_17 rfl ?_
  refine ev_aload0 (q := 19) dX9_judgeCrossing_18 rfl ?_
  refine ev_cV (K := kX9_judgeCrossing) (pc := 19) (q := 22) (c_barLines (d := d) (s := s) hS3 hbar) dX9_judgeCrossing_19 l_X9_308 (hW _ _ rfl) rfl rfl (Nat.le_of_ble_eq_true rfl) (by omega) rfl rfl (fun r S1 hp => ?_)
  obtain ⟨rfl, rfl⟩ := hp
  refine ev_iand (q := 23) dX9_judgeCrossing_22 rfl ?_
  rw [eb]
  rw [eb] at ek
  refine ev_istore3 (q := 24) dX9_judgeCrossing_23 rfl (by decide) rfl ?_
  refine ev_iload2 (q := 25) dX9_judgeCrossing_24 rfl ?_
  refine ev_iload3 (q := 26) dX9_judgeCrossing_25 rfl ?_
  refine ev_iconst (q := 27) (v := (-1)) dX9_judgeCrossing_26 rfl rfl ?_
  refine ev_ixor (q := 28) dX9_judgeCrossing_27 rfl ?_
  refine ev_iand (q := 29) dX9_judgeCrossing_28 rfl ?_
  rw [ek]
  refine ev_istore4 (q := 31) dX9_judgeCrossing_29 rfl (by decide) rfl ?_
  refine ev_iload4 (q := 33) dX9_judgeCrossing_31 rfl ?_
  refine ev_if_ne (q := 36) (t := 38) dX9_judgeCrossing_33 rfl (by decide) (fun c33 => ?_) (fun c33 => ?_)
  · have hkn : ¬ kpc s L = 0 := fun z => c33 (hk0.mpr z)
    refine ev_iload3 (q := 39) dX9_judgeCrossing_38 rfl ?_
    refine ev_if_eq (q := 42) (t := 54) dX9_judgeCrossing_39 rfl (by decide) (fun c39 => ?_) (fun c39 => ?_)
    · have hbf : brc s L = false := hb0.mp c39
      have hno : ¬ (kpc s (ix (s 36 11)) = 0 ∨ brc s (ix (s 36 11)) = true) := by
        rw [← hLs]
        rintro (z | z)
        · exact hkn z
        · rw [hbf] at z; cases z
      have enl : nlk U s = lk5 U s L := by rw [nlk, if_neg hno, hLs]
      have ep : ∀ j, j < L → kp s j = pas s j := fun j hj => by
        have := (brc_ex s L).mp hbf j hj
        unfold kp
        cases hpj : pas s j
        · rfl
        · rw [hpj, Bool.true_and, Bool.not_eq_false'] at this
          rw [this]
          rfl
      have elm : lm (kp s) L = lm (pas s) L := lm_f L ep
      have ecn : cntB (pas s) L = kpc s L := by rw [kpc_cnt, cntB_f L ep]
      have eal : a_look s = lm (kp s) L := by
        refine (if_neg hno).trans ?_
        rw [← hLs, elm]
      have el2 : lk2 U s L = lk1 U s L := by
        unfold lk2
        rw [if_neg (fun z => by rw [hbf] at z; cases z.2)]
      refine ev_aload0 (q := 55) dX9_judgeCrossing_54 rfl ?_
      refine ev_iload4 (q := 57) dX9_judgeCrossing_55 rfl ?_
      refine ev_cV (K := kX9_judgeCrossing) (pc := 57) (q := 60) (c_creditLines (d := d) hS3 (pas s) elm) dX9_judgeCrossing_57 l_X9_311 (hW _ _ rfl) rfl rfl (Nat.le_of_ble_eq_true rfl) (by omega) rfl rfl (fun r S1 hp => ?_)
      obtain ⟨rfl, rfl⟩ := hp
      obtain ⟨F, hF⟩ : ∃ F : Nat → Int32, F = fun j => cond (pas s j) (V3 (ld j) 5 + 1) (V3 (ld j) 5) := ⟨_, rfl⟩
      obtain ⟨Gf, hG⟩ : ∃ Gf : Nat → Int32, Gf = fun j => cond (pas s j && decide (cntB (pas s) L = 1)) (V3 (ld j) 6 + 1) (V3 (ld j) 6) := ⟨_, rfl⟩
      rw [← hF, ← hG]
      have eF : ∀ j, j < L → F j = f52 s j := fun j hj => by
        rw [hF]
        show cond (pas s j) (V3 (ld j) 5 + 1) (V3 (ld j) 5) = _
        rw [at3 j hj]
        show cond (pas s j) (V2 (ld j) 5 + 1) (V2 (ld j) 5) = _
        rw [(hln2 j hj).1.2.2.2.2.1]
        rfl
      have eG : ∀ j, j < L → Gf j = f53 s L j := fun j hj => by
        rw [hG]
        show cond (pas s j && decide (cntB (pas s) L = 1)) (V3 (ld j) 6 + 1) (V3 (ld j) 6) = _
        rw [at3 j hj, ecn]
        show cond (pas s j && decide (kpc s L = 1)) (V2 (ld j) 6 + 1) (V2 (ld j) 6) = _
        rw [(hln2 j hj).1.2.2.2.2.2]
        rfl
      have lo4 : ∀ a, a < 64 → twV V3 ld 5 6 F Gf L a = V3 a := fun a ha => twV_ne L (fun j hj => by have := (hlds j hj).1; omega)
      have at4 : ∀ j, j < L → ∀ k, twV V3 ld 5 6 F Gf L (ld j) k = if k = 6 then f53 s L j else if k = 5 then f52 s j else V3 (ld j) k := fun j hj k => by
        rw [twV_at L hj (fun m hm hmj => by have := hS.ldne hm hj hmj; omega), eF j hj, eG j hj]
      have nx4 : ∀ j, j < L → ∀ x, x = 1 ∨ x = 2 → twV V3 ld 5 6 F Gf L (ld j + x) = V3 (ld j + x) := fun j hj x hx => twV_ne L (fun m hm => by
        by_cases e : m = j
        · subst e; omega
        · have := hS.ldne hm hj e; omega)
      have ne4 : ∀ a, (∀ j, j < L → a ≠ ld j) → twV V3 ld 5 6 F Gf L a = V3 a := fun a ha => twV_ne L ha
      generalize twV V3 ld 5 6 F Gf L = V4 at lo4 at4 nx4 ne4 ⊢
      have hS4 := hS3.c (V' := V4) (lo4 _ (by decide)) (lo4 _ (by decide))
      have l52 : ∀ j, j < L → lk3 U s L L 52 j = f52 s j := fun j hj => by
        unfold lk3
        rw [th_seg_ne (by decide), th_seg_in (Nat.zero_le _) (by omega), Nat.sub_zero]
      have l53 : ∀ j, j < L → lk3 U s L L 53 j = f53 s L j := fun j hj => by
        unfold lk3
        rw [th_seg_in (Nat.zero_le _) (by omega), Nat.sub_zero]
      have l3 : ∀ a, a ≠ 52 → a ≠ 53 → lk3 U s L L a = lk1 U s L a := fun a h1 h2 => (lk3_row ⟨h1, h2⟩).trans (by rw [el2])
      have hN4 : RN V4 (lk3 U s L L) R L rd ld := by
        refine RN.lns hS3 hN3 ne4 (fun a ha => l3 a (by omega) (by omega)) (fun j hj => ?_)
        obtain ⟨⟨g1, g2, g3, g4, g5, g6⟩, g7, g8⟩ := hN3.2.2.2.2.2.2 j hj
        unfold lnR
        rw [at4 j hj, at4 j hj, at4 j hj, at4 j hj, at4 j hj, at4 j hj, nx4 j hj 1 (Or.inl rfl), nx4 j hj 2 (Or.inr rfl), l52 j hj, l53 j hj, l3 49 (by decide) (by decide), l3 48 (by decide) (by decide), l3 50 (by decide) (by decide), l3 51 (by decide) (by decide), l3 47 (by decide) (by decide), l3 46 (by decide) (by decide)]
        exact ⟨⟨g1, g2, g3, g4, rfl, rfl⟩, g7, g8⟩
      have sM : ∀ k, lk3 U s L L 36 k = U 36 k := fun k => by rw [l3 _ (by decide) (by decide), lk1_row (by decide)]
      have hF4 : FC V V4 := fun a z1 z2 => (lo4 a (by omega)).trans (hF3 a z1 z2)
      obtain ⟨m1, m2, m3, m4, m5, m6⟩ := hN4.2.2.1
      rw [sM] at m1 m2 m3 m4 m5 m6
      have hkp : 0 ≤ (s 36 22).toInt := hkp
      have hKS := th_self hkp
      have hKI := th_ixI hkp
      have m6' : V4 31 3 = nI (ix (s 36 22)) := by rw [m6, hU2 _ (by decide)]; exact hKS
      have hit4 : ∀ k, k < 5 → V4 12 k = s 40 k := fun k hk => by
        rw [(hN4.2.1 k hk).1, l3 _ (by decide) (by decide), lk1_row (by decide), hU1 _ (by decide)]
      refine ev_aload0 (q := 61) dX9_judgeCrossing_60 rfl ?_
      refine ev_getR (q := 64) dX9_judgeCrossing_61 g_X9_60 (hW _ _ rfl) rfl rfl rfl ?_
      refine ev_iload1 (q := 65) dX9_judgeCrossing_64 rfl ?_
      refine ev_iload4 (q := 67) dX9_judgeCrossing_65 rfl ?_
      refine ev_aload0 (q := 68) dX9_judgeCrossing_67 rfl ?_
      refine ev_getR (q := 71) dX9_judgeCrossing_68 g_X9_16 (hW _ _ rfl) rfl rfl rfl ?_
      refine ev_cV (K := kX9_judgeCrossing) (pc := 71) (q := 74) (c_keep (d := d) hW2 (show ix (s 36 22) + 1 < 2 ^ 31 by omega) m6' _ _) dX9_judgeCrossing_71 l_X9_314 (hW _ _ rfl) rfl rfl (Nat.le_of_ble_eq_true rfl) (by omega) rfl rfl (fun r S1 hp => ?_)
      obtain ⟨rfl, rfl⟩ := hp
      refine ev_aload0 (q := 75) dX9_judgeCrossing_74 rfl ?_
      refine ev_aload0 (q := 76) dX9_judgeCrossing_75 rfl ?_
      refine ev_getI (q := 79) dX9_judgeCrossing_76 g_X9_262 (hW _ _ rfl) rfl rfl ?_
      refine ev_putI (q := 82) dX9_judgeCrossing_79 (p_X9_253 _) (hW _ _ rfl) rfl rfl rfl rfl ?_
      show EV G l kX9_judgeCrossing _ 0 0 82 _ _ (N, SH2, th_w (th_seg (th_w (th_w (th_w V4 31 3 (nI (ix (s 36 22) + 1))) 32 (ix (s 36 22) % 30) (s 36 20)) 33 (ix (s 36 22) % 30) (lm (kp s) L)) 34 (5 * (ix (s 36 22) % 30)) 5 (V4 12)) 4 12 (V4 4 11)) _
      have fin : RN (th_w (th_seg (th_w (th_w (th_w V4 31 3 (nI (ix (s 36 22) + 1))) 32 (ix (s 36 22) % 30) (s 36 20)) 33 (ix (s 36 22) % 30) (lm (kp s) L)) 34 (5 * (ix (s 36 22) % 30)) 5 (V4 12)) 4 12 (V4 4 11)) (nlk U s) R L rd ld := by
        rw [enl]
        refine RN.FW hS4 hN4 (fun a h1 h2 => ?_) (fun a h1 h2 => ?_) ?_ ⟨?_, ?_, ?_, ?_, ?_, ?_⟩ ⟨fun j hj => ⟨?_, ?_⟩, fun j hj => ?_⟩
        · rw [th_w_ne h1, th_seg_ne (by omega), th_w_ne (by omega), th_w_ne (by omega), th_w_ne (by omega)]
        · unfold lk5 lk4
          rw [th_w_ne h1, th_w_ne h1, th_seg_ne (by omega), th_w_ne (by omega), th_w_ne (by omega)]
        · unfold lk5 lk4
          rw [th_w_j (by decide), th_w_j (by decide), th_seg_ne (by decide), th_w_ne (by decide), th_w_ne (by decide)]
        · unfold lk5 lk4
          rw [th_w_j (by decide), th_seg_ne (by decide), th_w_ne (by decide), th_w_ne (by decide), th_w_ne (by decide), th_w_j (by decide), th_w_j (by decide), th_seg_ne (by decide), th_w_ne (by decide), th_w_ne (by decide), sM]
          exact m1
        · unfold lk5
          rw [th_w_if, if_pos ⟨rfl, rfl⟩, th_w_if, if_pos ⟨rfl, rfl⟩, m1, hU2 _ (by decide)]
        · unfold lk5 lk4
          rw [th_w_j (by decide), th_seg_ne (by decide), th_w_ne (by decide), th_w_ne (by decide), th_w_ne (by decide), th_w_j (by decide), th_w_j (by decide), th_seg_ne (by decide), th_w_ne (by decide), th_w_ne (by decide), sM]
          exact m3
        · unfold lk5 lk4
          rw [th_w_j (by decide), th_seg_ne (by decide), th_w_ne (by decide), th_w_ne (by decide), th_w_ne (by decide), th_w_j (by decide), th_w_j (by decide), th_seg_ne (by decide), th_w_ne (by decide), th_w_ne (by decide), sM]
          exact m4
        · unfold lk5 lk4
          rw [th_w_j (by decide), th_seg_ne (by decide), th_w_ne (by decide), th_w_ne (by decide), th_w_ne (by decide), th_w_j (by decide), th_w_j (by decide), th_seg_ne (by decide), th_w_ne (by decide), th_w_ne (by decide), sM]
          exact m5
        · unfold lk5
          rw [th_w_ne (by decide), th_seg_ne (by decide), th_w_ne (by decide), th_w_ne (by decide), th_w_if, if_pos ⟨rfl, rfl⟩, th_w_j (by decide), th_w_if, if_pos ⟨rfl, rfl⟩, nI_succ, ← hKS]
        · have eR : lk5 U s L 54 j = if j = ix (s 36 22) % 30 then s 36 20 else lk3 U s L L 54 j := by
            unfold lk5 lk4 lto
            rw [th_w_ne (by decide), th_w_ne (by decide), th_seg_ne (by decide), th_w_ne (by decide), th_w_if]
            by_cases e : j = ix (s 36 22) % 30
            · rw [if_pos ⟨rfl, e⟩, if_pos e]
            · rw [if_neg (fun z => e z.2), if_neg e]
          rw [eR, th_w_ne (by decide), th_seg_ne (by decide), th_w_ne (by decide), th_w_if]
          by_cases e : j = ix (s 36 22) % 30
          · rw [if_pos ⟨rfl, e⟩, if_pos e]
          · rw [if_neg (fun z => e z.2), if_neg e, th_w_ne (by decide)]
            exact (hN4.2.2.2.1.1 j hj).1
        · have eR : lk5 U s L 55 j = if j = ix (s 36 22) % 30 then lm (pas s) L else lk3 U s L L 55 j := by
            unfold lk5 lk4 lto
            rw [th_w_ne (by decide), th_w_ne (by decide), th_seg_ne (by decide), th_w_if]
            by_cases e : j = ix (s 36 22) % 30
            · rw [if_pos ⟨rfl, e⟩, if_pos e]
            · rw [if_neg (fun z => e z.2), if_neg e, th_w_ne (by decide)]
          rw [eR, th_w_ne (by decide), th_seg_ne (by decide), th_w_if]
          by_cases e : j = ix (s 36 22) % 30
          · rw [if_pos ⟨rfl, e⟩, if_pos e, elm]
          · rw [if_neg (fun z => e z.2), if_neg e, th_w_ne (by decide), th_w_ne (by decide)]
            exact (hN4.2.2.2.1.1 j hj).2
        · unfold lk5 lk4 lto
          rw [th_w_ne (by decide), th_w_ne (by decide), th_w_ne (by decide)]
          by_cases e : 5 * (ix (s 36 22) % 30) ≤ j ∧ j < 5 * (ix (s 36 22) % 30) + 5
          · rw [th_seg_in e.1 e.2, th_seg_in e.1 e.2]
            exact hit4 _ (by omega)
          · rw [th_seg_out (by omega), th_seg_out (by omega), th_w_ne (by decide), th_w_ne (by decide), th_w_ne (by decide), th_w_ne (by decide), th_w_ne (by decide)]
            exact hN4.2.2.2.1.2 j hj
      refine ev_iload4 (q := 84) dX9_judgeCrossing_82 rfl ?_
      refine ev_ireturn dX9_judgeCrossing_84 rfl rfl ⟨SH2, _, rfl, by rw [eal], hS4.c ?_ ?_, fin, fun a z1 z2 => ?_, hSHe⟩
      · rw [th_w_ne (by decide), th_seg_ne (by decide), th_w_ne (by decide), th_w_ne (by decide), th_w_ne (by decide)]
      · rw [th_w_ne (by decide), th_seg_ne (by decide), th_w_ne (by decide), th_w_ne (by decide), th_w_ne (by decide)]
      · rw [th_w_ne (by omega), th_seg_ne (by omega), th_w_ne (by omega), th_w_ne (by omega), th_w_ne (by omega)]
        exact hF4 a z1 z2
    · have hbt : brc s L = true := by
        cases hb : brc s L
        · exact absurd (hb0.mpr hb) c39
        · rfl
      have hor : kpc s (ix (s 36 11)) = 0 ∨ brc s (ix (s 36 11)) = true := by rw [← hLs]; exact Or.inr hbt
      have enl : nlk U s = th_w (lk1 U s L) 36 23 (s 36 23 + 1) := by
        rw [nlk, if_pos hor, ← hLs]
        unfold lk2
        rw [if_pos ⟨Nat.pos_of_ne_zero hkn, hbt⟩]
      have eal : a_look s = 0 := if_pos hor
      obtain ⟨m1, m2, m3, m4, m5, m6⟩ := hN3.2.2.1
      have sM : ∀ k, lk1 U s L 36 k = U 36 k := fun k => by rw [lk1_row (by decide)]
      refine ev_aload0 (q := 43) dX9_judgeCrossing_42 rfl ?_
      refine ev_dup (q := 44) dX9_judgeCrossing_43 rfl rfl ?_
      refine ev_getI (q := 47) dX9_judgeCrossing_44 g_X9_269 (hW _ _ rfl) rfl rfl ?_
      refine ev_iconst (q := 48) (v := 1) dX9_judgeCrossing_47 rfl rfl ?_
      refine ev_iadd (q := 49) dX9_judgeCrossing_48 rfl ?_
      refine ev_putI (q := 52) dX9_judgeCrossing_49 (p_X9_269 _) (hW _ _ rfl) rfl rfl rfl rfl ?_
      show EV G l kX9_judgeCrossing _ 0 0 52 _ _ (N, SH2, th_w V3 4 15 (V3 4 15 + 1)) _
      have fin : RN (th_w V3 4 15 (V3 4 15 + 1)) (nlk U s) R L rd ld := by
        rw [enl]
        refine RN.F hS3 hN3 (fun a h1 h2 => th_w_ne h1) (fun a h1 => th_w_ne h1) (th_w_j (by decide)) ⟨?_, ?_, ?_, ?_, ?_, ?_⟩
        · rw [th_w_j (by decide), th_w_j (by decide)]; exact m1
        · rw [th_w_j (by decide), th_w_j (by decide)]; exact m2
        · rw [th_w_j (by decide), th_w_j (by decide)]; exact m3
        · rw [th_w_j (by decide), th_w_j (by decide)]; exact m4
        · rw [th_w_if, if_pos ⟨rfl, rfl⟩, th_w_if, if_pos ⟨rfl, rfl⟩, m5, sM, hU2 _ (by decide)]
        · rw [th_w_ne (by decide), th_w_j (by decide)]; exact m6
      refine ev_iconst (q := 53) (v := 0) dX9_judgeCrossing_52 rfl rfl ?_
      exact ev_ireturn dX9_judgeCrossing_53 rfl rfl ⟨SH2, _, rfl, by rw [eal], hS3.c (th_w_ne (by decide)) (th_w_ne (by decide)), fin, hF3.w (by decide), hSHe⟩
  · have hkz : kpc s L = 0 := hk0.mp c33
    have hor : kpc s (ix (s 36 11)) = 0 ∨ brc s (ix (s 36 11)) = true := by rw [← hLs]; exact Or.inl hkz
    have enl : nlk U s = lk1 U s L := by
      rw [nlk, if_pos hor, ← hLs]
      unfold lk2
      rw [if_neg (fun z => by rw [hkz] at z; exact absurd z.1 (Nat.lt_irrefl _))]
    have eal : a_look s = 0 := if_pos hor
    refine ev_iconst (q := 37) (v := 0) dX9_judgeCrossing_36 rfl rfl ?_
    exact ev_ireturn dX9_judgeCrossing_37 rfl rfl ⟨SH2, V3, rfl, by rw [eal], hS3, by rw [enl]; exact hN3, hF3, hSHe⟩
theorem c_loseCrossing (hW : wC SH) : MT G l yX9_loseCrossing kX9_loseCrossing d 0 0 [.ref 4] (N, SH, V) (fun r S' => r = some (.int (-1)) ∧ S' = (N, SH, th_w (th_w V 4 12 (V 4 12 - 1)) 4 14 (V 4 14 + 1))) := by
  refine MT.of (by decide) rfl rfl (n := 0) rfl (ls := [some (.ref 4)]) rfl ?_
  refine ev_aload0 (q := 1) dX9_loseCrossing_0 rfl ?_
  refine ev_dup (q := 2) dX9_loseCrossing_1 rfl rfl ?_
  refine ev_getI (q := 5) dX9_loseCrossing_2 g_X9_253 (hW _ _ rfl) rfl rfl ?_
  refine ev_iconst (q := 6) (v := 1) dX9_loseCrossing_5 rfl rfl ?_
  refine ev_isub (q := 7) dX9_loseCrossing_6 rfl ?_
  refine ev_putI (q := 10) dX9_loseCrossing_7 (p_X9_253 _) (hW _ _ rfl) rfl rfl rfl rfl ?_
  refine ev_aload0 (q := 11) dX9_loseCrossing_10 rfl ?_
  refine ev_dup (q := 12) dX9_loseCrossing_11 rfl rfl ?_
  refine ev_getI (q := 15) dX9_loseCrossing_12 g_X9_265 (hW _ _ rfl) rfl rfl ?_
  refine ev_iconst (q := 16) (v := 1) dX9_loseCrossing_15 rfl rfl ?_
  refine ev_iadd (q := 17) dX9_loseCrossing_16 rfl ?_
  refine ev_putI (q := 20) dX9_loseCrossing_17 (p_X9_265 _) (hW _ _ rfl) rfl rfl rfl rfl ?_
  refine ev_iconst (q := 21) (v := (-1)) dX9_loseCrossing_20 rfl rfl ?_
  exact ev_ireturn dX9_loseCrossing_21 rfl rfl ⟨rfl, rfl⟩
theorem c_fire (hC : CR N SH V s) (hro : bRo s) (hsp : bSp s) (hhi : bHi s) (hle : bLe s) (hby : bBy s) (hgd : bGd s) (hsh : ∀ j, j < ix (s 36 11) → 1 ≤ (s 48 j).toInt) (hkp : bKp s) (hk2 : (s 36 22).toInt < 1000000) : MT G l yX9_fire kX9_fire (d + 264) 0 0 [.ref 4] (N, SH, V) (CP N SH V (a_fire s) (n_fire s)) := by
  refine MT.of (by decide) rfl rfl (n := 3) rfl (ls := [some (.ref 4), none, none, none]) rfl ?_
  obtain ⟨rd, ld, eR, eL, hS, hN⟩ := hC
  have hW : wC SH := hS.1
  obtain ⟨f1, f2, f3, f4, f5, f6⟩ := hN.2.2.1
  have e0 : (0 : Int32).toInt = 0 := by decide
  have tail : ∀ (SH1 : Nat → Option th_K0) (W sx : th_Vl) (y : Int32) (o3 : Option Value), th_c1 [o3] = true → RS N SH1 W (ix (s 36 6)) (ix (s 36 11)) rd ld eR eL → RN W sx (ix (s 36 6)) (ix (s 36 11)) rd ld → FC V W → (∀ b, b ≠ 29 → SH1 b = SH b) → a_fire s = y → n_fire s = n_noh sx → sx 36 6 = s 36 6 → sx 36 11 = s 36 11 → EV G l kX9_fire (d + 264) 0 0 34 [some (.ref 4), some (.int (s 36 20)), none, o3] [.int y] (N, SH1, W) (CP N SH V (a_fire s) (n_fire s)) := by
    intro SH1 W sx y o3 ho3 hS1 hN1 hF hE ea en er el
    have hW1 : wC SH1 := hS1.1
    have hW : wC SH1 := hS1.1
    have lp : ∀ i, i ≤ 5 → EV G l kX9_fire (d + 264) 0 0 37 [some (.ref 4), some (.int (s 36 20)), some (.int y), some (.int (nI i))] [] (N, SH1, th_seg W 12 0 i (fun _ => 0)) (CP N SH V (a_fire s) (n_fire s)) := by
      refine th_down 5 ?_ ?_
      · refine ev_iload3 (q := 38) dX9_fire_37 rfl ?_
        refine ev_iconst (q := 39) (v := 5) dX9_fire_38 rfl rfl ?_
        refine ev_icmp_ge (q := 42) (t := 55) dX9_fire_39 rfl (by decide) (fun c39 => ?_) (fun c39 => ?_)
        · refine ev_iload2 (q := 56) dX9_fire_55 rfl ?_
          refine ev_ireturn dX9_fire_56 rfl rfl ⟨N, SH1, _, rfl, by rw [ea], ⟨rd, ld, eR, eL, ?_, ?_⟩, hF.sg (by decide), fun a z1 z2 => hE a (by omega), Nat.le_refl _⟩
          · rw [en, n_noh, th_seg_ne (by decide), er, el]
            exact hS1.c (th_seg_ne (by decide)) (th_seg_ne (by decide))
          · rw [en, n_noh]
            rw [show th_seg sx 40 0 5 (fun _ => 0) 36 = sx 36 from th_seg_ne (by decide), er, el]
            refine RN.L hS1 hN1 (fun a ha => th_seg_ne (by omega)) (fun a ha => th_seg_ne (by omega)) (fun k hk => ?_)
            rw [th_seg_in (Nat.zero_le _) (by omega), th_seg_in (Nat.zero_le _) (by omega)]
            exact ⟨rfl, (hN1.2.1 k hk).2⟩
        · exact absurd (by decide) c39
      · intro i hi ih
        rw [← th_seg_s0] at ih
        refine ev_iload3 (q := 38) dX9_fire_37 rfl ?_
        refine ev_iconst (q := 39) (v := 5) dX9_fire_38 rfl rfl ?_
        refine ev_icmp_ge (q := 42) (t := 55) dX9_fire_39 rfl (by decide) (fun c39 => ?_) (fun c39 => ?_)
        · exact absurd c39 (nI_ge hi (by decide))
        · refine ev_aload0 (q := 43) dX9_fire_42 rfl ?_
          refine ev_getR (q := 46) dX9_fire_43 g_X9_16 (hW _ _ rfl) rfl rfl rfl ?_
          refine ev_iload3 (q := 47) dX9_fire_46 rfl ?_
          refine ev_iconst (q := 48) (v := 0) dX9_fire_47 rfl rfl ?_
          refine ev_iast (q := 49) dX9_fire_48 (hW1 _ _ rfl) rfl hi (by decide) rfl ?_
          refine ev_iinc3 (q := 52) dX9_fire_49 rfl (by decide) rfl (nI_succ i).symm ?_
          refine ev_goto (q := 37) dX9_fire_52 (by decide) ?_
          exact ih
    refine ev_istore2 (q := 35) dX9_fire_34 rfl (by decide) ho3 ?_
    refine ev_iconst (q := 36) (v := 0) dX9_fire_35 rfl rfl ?_
    refine ev_istore3 (q := 37) dX9_fire_36 rfl (by decide) ho3 ?_
    have hh := lp 0 (by decide)
    rw [th_seg_0] at hh
    exact hh
  refine ev_aload0 (q := 1) dX9_fire_0 rfl ?_
  refine ev_getI (q := 4) dX9_fire_1 g_X9_250 (hW _ _ rfl) rfl rfl ?_
  show EV G l kX9_fire _ 0 0 4 _ [.int (V 4 13)] _ _
  rw [f3]
  refine ev_istore1 (q := 5) dX9_fire_4 rfl (by decide) rfl ?_
  refine ev_aload0 (q := 6) dX9_fire_5 rfl ?_
  refine ev_dup (q := 7) dX9_fire_6 rfl rfl ?_
  refine ev_getI (q := 10) dX9_fire_7 g_X9_250 (hW _ _ rfl) rfl rfl ?_
  refine ev_iconst (q := 11) (v := 1) dX9_fire_10 rfl rfl ?_
  refine ev_iadd (q := 12) dX9_fire_11 rfl ?_
  show EV G l kX9_fire _ 0 0 12 _ [.int (V 4 13 + 1), .ref 4] _ _
  rw [f3]
  refine ev_putI (q := 15) dX9_fire_12 (p_X9_250 _) (hW _ _ rfl) rfl rfl rfl rfl ?_
  show EV G l kX9_fire _ 0 0 15 _ _ (N, SH, th_w V 4 13 (s 36 20 + 1)) _
  have hN1 : RN (th_w V 4 13 (s 36 20 + 1)) (th_w s 36 20 (s 36 20 + 1)) (ix (s 36 6)) (ix (s 36 11)) rd ld := RN.F hS hN (fun a h1 h2 => th_w_ne h1) (fun a h1 => th_w_ne h1) rfl ⟨f1, f2, rfl, f4, f5, f6⟩
  have hS1 := hS.c (V' := th_w V 4 13 (s 36 20 + 1)) rfl rfl
  have hF1 : FC V (th_w V 4 13 (s 36 20 + 1)) := FC.rf.w (by decide)
  have g2 : th_w V 4 13 (s 36 20 + 1) 4 12 = s 36 25 := f2
  have g4 : th_w V 4 13 (s 36 20 + 1) 4 14 = s 36 21 := f4
  generalize th_w V 4 13 (s 36 20 + 1) = V1 at hN1 hS1 hF1 g2 g4 ⊢
  refine ev_aload0 (q := 16) dX9_fire_15 rfl ?_
  refine ev_getI (q := 19) dX9_fire_16 g_X9_253 (hW _ _ rfl) rfl rfl ?_
  show EV G l kX9_fire _ 0 0 19 _ [.int (V1 4 12)] _ _
  rw [g2]
  refine ev_if_le (q := 22) (t := 29) dX9_fire_19 rfl (by decide) (fun c19 => ?_) (fun c19 => ?_)
  · have hl : ¬ 0 < (s 36 25).toInt := by have := i_le.mp c19; omega
    have ea : a_fire s = a_look s := if_neg hl
    have en : n_fire s = n_noh (nlk (th_w s 36 20 (s 36 20 + 1)) s) := by rw [nfire_eq, if_neg hl]
    refine ev_aload0 (q := 30) dX9_fire_29 rfl ?_
    refine ev_iload1 (q := 31) dX9_fire_30 rfl ?_
    refine ev_cV (K := kX9_fire) (pc := 31) (q := 34) (c_judge (d := d) (s := s) (U := th_w s 36 20 (s 36 20 + 1)) hS1 hN1 (fun a ha => th_w_ne ha) (fun k hk => th_w_j hk) rfl rfl hro hsp hhi hle hby hgd hsh hkp hk2) dX9_fire_31 l_X9_259 (hW _ _ rfl) rfl rfl (Nat.le_of_ble_eq_true rfl) (Nat.le_refl _) rfl rfl (fun r S1 hp => ?_)
    obtain ⟨SH2, V2, rfl, rfl, hS2, hN2, hF2, hE2⟩ := hp
    have hfld : ∀ k, k = 6 ∨ k = 11 → nlk (th_w s 36 20 (s 36 20 + 1)) s 36 k = s 36 k := fun k hk => by
      have h20 : k ≠ 20 ∧ k ≠ 23 ∧ k ≠ 22 ∧ k ≠ 25 := by omega
      unfold nlk
      split
      · rw [lk2_fld h20.2.1, th_w_j h20.1]
      · unfold lk5
        rw [th_w_j h20.2.2.2, th_w_j h20.2.2.1, lk4_row (by decide), lk3_row (by decide), lk2_fld h20.2.1, th_w_j h20.1]
    exact tail SH2 V2 _ (a_look s) none rfl hS2 hN2 (hF1.tr hF2) hE2 ea en (hfld _ (Or.inl rfl)) (hfld _ (Or.inr rfl))
  · have hl : 0 < (s 36 25).toInt := by have := i_nle c19; omega
    have ea : a_fire s = -1 := if_pos hl
    have en : n_fire s = n_noh (th_w (th_w (th_w s 36 20 (s 36 20 + 1)) 36 25 (s 36 25 - 1)) 36 21 (s 36 21 + 1)) := by rw [nfire_eq, if_pos hl]
    refine ev_aload0 (q := 23) dX9_fire_22 rfl ?_
    refine ev_cV (K := kX9_fire) (pc := 23) (q := 26) (c_loseCrossing (d := d) hW) dX9_fire_23 l_X9_256 (hW _ _ rfl) rfl rfl (Nat.le_of_ble_eq_true rfl) (by omega) rfl rfl (fun r S1 hp => ?_)
    obtain ⟨rfl, rfl⟩ := hp
    rw [g2, g4]
    refine ev_goto (q := 34) dX9_fire_26 (by decide) ?_
    refine tail SH (th_w (th_w V1 4 12 (s 36 25 - 1)) 4 14 (s 36 21 + 1)) (th_w (th_w (th_w s 36 20 (s 36 20 + 1)) 36 25 (s 36 25 - 1)) 36 21 (s 36 21 + 1)) (-1) none rfl (hS1.c rfl rfl) ?_ ((hF1.w (by decide)).w (by decide)) (fun b hb => rfl) ea en rfl rfl
    obtain ⟨m1, m2, m3, m4, m5, m6⟩ := hN1.2.2.1
    exact RN.F hS1 hN1 (fun a h1 h2 => by rw [th_w_ne h1, th_w_ne h1]) (fun a h1 => by rw [th_w_ne h1, th_w_ne h1]) rfl ⟨m1, rfl, m3, rfl, m5, m6⟩
end C21
