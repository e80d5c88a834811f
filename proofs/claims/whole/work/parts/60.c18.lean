/-! the class: raw, a line comes -/
theorem rwh_ne {s : th_Vl} {k : Int32} {a : Nat} (h : a ≠ 40) : rwh s k a = s a := th_seg_ne h
theorem rwh_at {s : th_Vl} {k : Int32} {j : Nat} (h : j < 5) : rwh s k 40 j = s 56 (5 * rat s k + j) := by
  unfold rwh
  rw [th_seg_in (Nat.zero_le _) (by omega), Nat.sub_zero]
theorem rwh_lt {s : th_Vl} {k : Int32} (j : Nat) : lt (rwh s k) j = lt s j := by
  funext p
  unfold lt
  rw [rwh_ne (by decide), rwh_ne (by decide)]
/-- a line more -/
theorem CR.line {N N' : Nat} {SH SH' : Nat → Option th_K0} {V V' s s' : th_Vl} {R L : Nat} {rd ld : Nat → Nat} {eR eL eL' o : Nat} (hS : RS N SH V R L rd ld eR eL) (hN : RN V s R L rd ld) (hL : L < 8) (hNN : N ≤ N') (hLst : LST N' SH' V' 30 (L + 1) (fun k => if k = L then o else ld k) eL') (he1 : 64 ≤ eL') (he2 : eL' = eL ∨ N ≤ eL') (hSH : ∀ b, b < N → b ≠ 30 → b ≠ eL → SH' b = SH b) (hV : ∀ b, b < N → b ≠ 30 → b ≠ 27 → V' b = V b) (ho : lnS N' SH' o) (hoN : N ≤ o) (hs : ∀ a, a ≠ 36 → (a < 46 ∨ 53 < a) → s' a = s a) (hsM : ∀ k, k ≠ 11 → k ≠ 10 → s' 36 k = s 36 k) (hsT : s' 36 10 = 0) (hVT : V' 27 1 = 0) (hsL : s' 36 11 = nI (L + 1)) (hR : R = ix (s 36 6)) (htx : ∀ k, k < 60 * L → s' 46 k = s 46 k) (hln : ∀ x, 47 ≤ x → x ≤ 53 → ∀ k, k < L → s' x k = s x k) (hle : ∀ k, k < L → inR (s 47 k) 0 60) (hrd : lnR V' s' o L) : CR N' SH' V' s' := by
  have hi : ix (s' 36 11) = L + 1 := by rw [hsL]; exact nI_clamp (by omega)
  have hl : ix (s' 36 6) = R := by rw [hsM _ (by decide) (by decide), hR]
  have hold := RS.old hS hNN (Or.inr rfl) (RS.two hS.2.2.2.2.2.2.1) hSH
  obtain ⟨h1, h2, h3, h4, h5, h6, h7, h8, g1, g2, g3, g4⟩ := hS
  have e2 := RS.two h6
  have hne : ∀ e, 64 ≤ e → e = eR → eL' = e → False := fun e h64 q1 q2 => by
    rcases he2 with z | z
    · have := h8 (by omega); omega
    · rcases e2 with z2 | z2 <;> omega
  have hLr : LST N' SH' V' 15 R rd eR := LST.old h6 hNN (hSH _ (by omega) (by decide) (fun z => by
      rcases RS.two h7 with q | q <;> omega)) (fun z1 z2 => hSH _ z2 (by omega) (fun z => by have := h8 z; omega)) (hV _ (by omega) (by decide) (by decide))
  have hV' : ∀ b, b < 64 → b ≠ 30 → b ≠ 27 → V' b = V b := fun b z1 z2 z3 => hV b (by omega) z2 z3
  refine ⟨rd, fun k => if k = L then o else ld k, eR, eL', ?_, ?_⟩
  · rw [hi, hl]
    refine ⟨hold.1, hold.2.1, by omega, h4, by omega, hLr, hLst, fun z => (hne eR (by omega) rfl z.symm).elim, hold.2.2.1, g2, fun j hj => ?_, fun i j hij hj => ?_⟩
    · show lnS N' SH' (if j = L then o else ld j)
      by_cases e : j = L
      · rw [if_pos e]; exact ho
      · rw [if_neg e]; exact hold.2.2.2 j (by omega)
    · show (if i = L then o else ld i) + 3 ≤ if j = L then o else ld j
      rw [if_neg (show ¬ i = L by omega)]
      by_cases e : j = L
      · rw [if_pos e]
        have := (g3 i (by omega)).2.1
        omega
      · rw [if_neg e]; exact g4 i j hij (by omega)
  · rw [hi, hl]
    obtain ⟨k1, k2, k3, k4, k5, k6, k7⟩ := hN
    refine ⟨fun q hq => (k1 q hq).c (hV' _ (by omega) (by omega) (by omega)) (hV' _ (by omega) (by omega) (by omega)) (hs _ (by omega) (by omega)) (hs _ (by omega) (by omega)) (hs _ (by omega) (by omega)), k2.c (hV' _ (by omega) (by omega) (by omega)) (hV' _ (by omega) (by omega) (by omega)) (hV' _ (by omega) (by omega) (by omega)) (hs _ (by omega) (by omega)) (hs _ (by omega) (by omega)) (hs _ (by omega) (by omega)), ?_, k4.c (hV' _ (by omega) (by omega) (by omega)) (hV' _ (by omega) (by omega) (by omega)) (hV' _ (by omega) (by omega) (by omega)) (hs _ (by omega) (by omega)) (hs _ (by omega) (by omega)) (hs _ (by omega) (by omega)), ⟨by rw [hVT, hsT], fun k hk => by rw [hsT] at hk; exact absurd hk (Nat.not_lt_zero _)⟩, fun i hi => ?_, fun i hi => ?_⟩
    · unfold eqF at k3 ⊢
      rw [hV' 4 (by omega) (by omega) (by omega), hV' 31 (by omega) (by omega) (by omega), hsM _ (by decide) (by decide), hsM _ (by decide) (by decide), hsM _ (by decide) (by decide), hsM _ (by decide) (by decide), hsM _ (by decide) (by decide), hsM _ (by decide) (by decide)]
      exact k3
    · have z := g1 i hi
      have z1 := z.1
      have z2 := z.2.1
      exact (k6 i hi).c (hV _ (by omega) (by omega) (by omega)) (hV _ (by omega) (by omega) (by omega)) (hV _ (by omega) (by omega) (by omega)) (hs _ (by omega) (by omega)) (hs _ (by omega) (by omega))
    · show lnR V' s' (if i = L then o else ld i) i
      by_cases e : i = L
      · rw [if_pos e, e]; exact hrd
      · rw [if_neg e]
        have q := k7 i (by omega)
        have z := g3 i (by omega)
        have z1 := z.1
        have z2 := z.2.1
        have hq : ∀ x, 47 ≤ x → x ≤ 53 → s' x i = s x i := fun x x1 x2 => hln x x1 x2 i (by omega)
        unfold lnR at q ⊢
        rw [hV (ld i) (by omega) (by omega) (by omega), hV (ld i + 1) (by omega) (by omega) (by omega), hV (ld i + 2) (by omega) (by omega) (by omega), hq 49 (by decide) (by decide), hq 48 (by decide) (by decide), hq 50 (by decide) (by decide), hq 51 (by decide) (by decide), hq 52 (by decide) (by decide), hq 53 (by decide) (by decide), hq 47 (by decide) (by decide)]
        refine ⟨q.1, q.2.1, fun k hk => ?_⟩
        have h60 := hle i (by omega)
        have hkk : k < 60 := by
          have := th_ixI h60.1
          have := h60.2
          omega
        rw [htx (60 * i + k) (by omega)]
        exact q.2.2 k hk
section C18
variable {G : th_G} {l : Launch} {d : Nat} {N : Nat} {SH : Nat → Option th_K0} {V s : th_Vl}
theorem c_raw (hC : CR N SH V s) (hb : bLi s) (hro : bRo s) (hsp : bSp s) (hkp : bKp s) (hrh : bRh s) (hle : bLe s) (hby : bBy s) (hgd : bGd s) (k w : Int32) : MT G l yX9_raw kX9_raw (d + 262) 0 0 [.ref 4, .int k, .int w] (N, SH, V) (CP N SH V (a_raw s k w) s) := by
  refine MT.of (by decide) rfl rfl (n := 0) rfl (ls := [some (.ref 4), some (.int k), some (.int w)]) rfl ?_
  obtain ⟨rd, ld, eR, eL, hS, hN⟩ := hC
  have hW : wC SH := hS.1
  have e0 : (0 : Int32).toInt = 0 := by decide
  have e1 : (1 : Int32).toInt = 1 := by decide
  have e7 : (7 : Int32).toInt = 7 := by decide
  have h0 := hN.2.2.1.2.2.2.2.2
  have hrl : rat s k < 30 := rat_lt
  refine ev_aload0 (q := 1) dX9_raw_0 rfl ?_
  refine ev_getR (q := 4) dX9_raw_1 g_X9_60 (hW _ _ rfl) rfl rfl rfl ?_
  refine ev_iload1 (q := 5) dX9_raw_4 rfl ?_
  refine ev_cV (K := kX9_raw) (pc := 5) (q := 8) (c_rhas (d := d) hW h0 hkp k) dX9_raw_5 l_X9_273 (hW _ _ rfl) rfl rfl (Nat.le_of_ble_eq_true rfl) (by omega) rfl rfl (fun r S1 hp => ?_)
  rcases hp with ⟨rfl, ⟨hp5, rfl⟩ | ⟨hp5, rfl⟩⟩
  · refine ev_if_eq (q := 11) (t := 21) dX9_raw_8 rfl (by decide) (fun c8 => ?_) (fun c8 => ?_)
    · exact absurd c8 (by decide)
    · refine ev_iload2 (q := 12) dX9_raw_11 rfl ?_
      refine ev_if_lt (q := 15) (t := 21) dX9_raw_12 rfl (by decide) (fun c12 => ?_) (fun c12 => ?_)
      · refine ev_iconst (q := 22) (v := (-1)) dX9_raw_21 rfl rfl ?_
        exact ev_ireturn dX9_raw_22 rfl rfl (CP.same hS hN V frS.rf (if_pos (fun h => by have := i_lt.mp c12; have := h.2.1; omega)))
      · refine ev_iload2 (q := 16) dX9_raw_15 rfl ?_
        refine ev_bipush (q := 18) (v := 7) dX9_raw_16 rfl rfl ?_
        refine ev_icmp_le (q := 21) (t := 23) dX9_raw_18 rfl (by decide) (fun c18 => ?_) (fun c18 => ?_)
        · have hw : inR w 0 7 := by have := i_nlt c12; have := i_le.mp c18; constructor <;> omega
          have k0 := not_not_intro (And.intro hp5 hw)
          refine ev_iload2 (q := 24) dX9_raw_23 rfl ?_
          refine ev_if_ne (q := 27) (t := 36) dX9_raw_24 rfl (by decide) (fun c24 => ?_) (fun c24 => ?_)
          · refine ev_iload2 (q := 37) dX9_raw_36 rfl ?_
            refine ev_iconst (q := 38) (v := 1) dX9_raw_37 rfl rfl ?_
            refine ev_icmp_ne (q := 41) (t := 50) dX9_raw_38 rfl (by decide) (fun c38 => ?_) (fun c38 => ?_)
            · refine ev_aload0 (q := 51) dX9_raw_50 rfl ?_
              refine ev_getR (q := 54) dX9_raw_51 g_X9_60 (hW _ _ rfl) rfl rfl rfl ?_
              refine ev_iload1 (q := 55) dX9_raw_54 rfl ?_
              refine ev_aload0 (q := 56) dX9_raw_55 rfl ?_
              refine ev_getR (q := 59) dX9_raw_56 g_X9_64 (hW _ _ rfl) rfl rfl rfl ?_
              refine ev_cV (K := kX9_raw) (pc := 59) (q := 62) (c_copyHits (d := d) hW h0 hkp hp5 (q := 35) (hW _ _ rfl) (by decide)) dX9_raw_59 l_X9_280 (hW _ _ rfl) rfl rfl (Nat.le_of_ble_eq_true rfl) (by omega) rfl rfl (fun r S1 hp => ?_)
              obtain ⟨rfl, rfl⟩ := hp
              have hf1 : frS V (th_seg V 35 0 5 (fun j => V 34 (5 * rat s k + j))) := frS.rf.sg (by unfold scr; omega)
              have ev : ∀ j, j < 5 → (th_seg V 35 0 5 (fun j => V 34 (5 * rat s k + j))) 35 j = s 56 (5 * rat s k + j) := fun j hj => by
                rw [th_seg_in (Nat.zero_le _) (by omega), Nat.sub_zero]
                exact hN.2.2.2.1.2 _ (by omega)
              generalize th_seg V 35 0 5 (fun j => V 34 (5 * rat s k + j)) = V1 at hf1 ev ⊢
              have hS1 := hS.c (V' := V1) (hf1 _ (by unfold scr; omega)) (hf1 _ (by unfold scr; omega))
              have hN1 := RN.fr hS hN hf1
              refine ev_iload2 (q := 63) dX9_raw_62 rfl ?_
              refine ev_bipush (q := 65) (v := 7) dX9_raw_63 rfl rfl ?_
              refine ev_icmp_ge (q := 68) (t := 77) dX9_raw_65 rfl (by decide) (fun c65 => ?_) (fun c65 => ?_)
              · have hw7 : ¬ w.toInt < 7 := by have := i_le.mp c65; omega
                have ea : a_raw s k w = hld (rwh s k) := (if_neg k0).trans ((if_neg c24).trans ((if_neg c38).trans (if_neg hw7)))
                refine ev_aload0 (q := 78) dX9_raw_77 rfl ?_
                refine ev_aload0 (q := 79) dX9_raw_78 rfl ?_
                refine ev_getR (q := 82) dX9_raw_79 g_X9_64 (hW _ _ rfl) rfl rfl rfl ?_
                have hRt : ∀ j, j < ix (s 36 6) → rdR V1 (rwh s k) (rd j) j := fun j hj => (hN1.2.2.2.2.2.1 j hj).c rfl rfl rfl (rwh_ne (by decide)) (rwh_ne (by decide))
                have hspt : ∀ j, j < ix (s 36 6) → ∀ q, q < 5 → isSp (rwh s k 43 (5 * j + q)) := fun j hj q hq => by
                  rw [rwh_ne (by decide)]
                  exact hsp j hj q hq
                have hsn : ∀ q, q < 5 → sS (V1 35 q) (V1 13 q) (V1 14 q) = sn (rwh s k) q := fun q hq => by
                  obtain ⟨z1, z2, z3⟩ := hN1.2.1 q hq
                  unfold sn
                  rw [ev q hq, z2, z3, rwh_at hq, rwh_ne (by decide), rwh_ne (by decide)]
                have hrt : ix (s 36 6) = ix (rwh s k 36 6) := by rw [rwh_ne (by decide)]
                have hrl2 : ix (s 36 11) = ix (rwh s k 36 11) := by rw [rwh_ne (by decide)]
                refine ev_cV (K := kX9_raw) (pc := 82) (q := 85) (c_lookAt (d := d) (t := rwh s k) hS1 hRt hspt (hW _ _ rfl) (by decide) hsn hrt) dX9_raw_82 l_X9_178 (hW _ _ rfl) rfl rfl (Nat.le_of_ble_eq_true rfl) (by omega) rfl rfl (fun r S1 hp => ?_)
                obtain ⟨rfl, V2, rfl, hf2, hk2⟩ := hp
                have hS2 := hS1.c (V' := V2) (hf2 _ (by unfold scr; omega)) (hf2 _ (by unfold scr; omega))
                have hN2 := RN.fr hS1 hN1 hf2
                have hLn : ∀ j, j < ix (s 36 11) → lnR V2 (rwh s k) (ld j) j := fun j hj => (hN2.2.2.2.2.2.2 j hj).c rfl rfl rfl (rwh_ne (by decide)) (rwh_ne (by decide)) (rwh_ne (by decide)) (rwh_ne (by decide)) (rwh_ne (by decide)) (rwh_ne (by decide)) (rwh_ne (by decide)) (rwh_ne (by decide))
                have hlet : bLe (rwh s k) := fun j hj => by rw [rwh_ne (by decide)]; exact hle j hj
                have hbyt : bBy (rwh s k) := ⟨fun j => by rw [rwh_ne (by decide)]; exact hby.1 j, fun j => by rw [rwh_ne (by decide)]; exact hby.2 j⟩
                have hgdt : bGd (rwh s k) := fun j hj A => by
                  rw [rwh_lt, rwh_ne (by decide)]
                  exact hgd j (by rw [hrl2]; exact hj) A
                have hrot : bRo (rwh s k) := by
                  show inR (rwh s k 36 6) 0 12
                  rw [rwh_ne (by decide)]
                  exact hro
                have hhit : bHi (rwh s k) := fun j hj => by rw [rwh_at hj]; exact hrh _ (by omega)
                refine ev_aload0 (q := 86) dX9_raw_85 rfl ?_
                refine ev_cV (K := kX9_raw) (pc := 86) (q := 89) (c_holdingLines (d := d) (s := rwh s k) hS2 hLn hrl2 hlet hbyt hgdt (ans_is hk2 hrt hrot hhit)) dX9_raw_86 l_X9_284 (hW _ _ rfl) rfl rfl (Nat.le_of_ble_eq_true rfl) (Nat.le_refl _) rfl rfl (fun r S1 hp => ?_)
                obtain ⟨rfl, SH3, V3, rfl, hE⟩ := hp
                exact ev_ireturn dX9_raw_89 rfl rfl (CP.rdr hS hN (fun b hb => (hE.1 b hb).1) hE.2 ((hf1.tr hf2).tr hE.S) ea)
              · have hw7 : w.toInt < 7 := by have := i_nle c65; omega
                have hw2 : 2 ≤ w.toInt := by
                  have z1 := th_ne c24
                  have z2 := th_ne c38
                  have := hw.1
                  omega
                have hI := th_ixI hw.1
                have ea : a_raw s k w = s 56 (5 * rat s k + ix w - 2) := (if_neg k0).trans ((if_neg c24).trans ((if_neg c38).trans (if_pos hw7)))
                have ew : w - 2 = nI (ix w - 2) := by
                  conv => lhs; rw [th_self hw.1]
                  rw [show (2 : Int32) = nI 2 from rfl, pk_sub (by omega)]
                refine ev_aload0 (q := 69) dX9_raw_68 rfl ?_
                refine ev_getR (q := 72) dX9_raw_69 g_X9_64 (hW _ _ rfl) rfl rfl rfl ?_
                refine ev_iload2 (q := 73) dX9_raw_72 rfl ?_
                refine ev_iconst (q := 74) (v := 2) dX9_raw_73 rfl rfl ?_
                refine ev_isub (q := 75) dX9_raw_74 rfl ?_
                refine ev_iald (q := 76) dX9_raw_75 (hW _ _ rfl) ew (show ix w - 2 < 5 by omega) (by decide) rfl ?_
                show EV G l kX9_raw _ 0 0 76 _ [.int (V1 35 (ix w - 2))] _ _
                rw [ev _ (by omega)]
                exact ev_ireturn dX9_raw_76 rfl rfl (CP.same hS hN V1 hf1 (ea.trans (by rw [show 5 * rat s k + ix w - 2 = 5 * rat s k + (ix w - 2) by omega])))
            · refine ev_aload0 (q := 42) dX9_raw_41 rfl ?_
              refine ev_getR (q := 45) dX9_raw_42 g_X9_60 (hW _ _ rfl) rfl rfl rfl ?_
              refine ev_iload1 (q := 46) dX9_raw_45 rfl ?_
              refine ev_cV (K := kX9_raw) (pc := 46) (q := 49) (c_passedAt (d := d) hW h0 hkp hp5) dX9_raw_46 l_X9_277 (hW _ _ rfl) rfl rfl (Nat.le_of_ble_eq_true rfl) (by omega) rfl rfl (fun r S1 hp => ?_)
              obtain ⟨rfl, rfl⟩ := hp
              exact ev_ireturn dX9_raw_49 rfl rfl (CP.same hS hN V frS.rf ((if_neg k0).trans ((if_neg c24).trans ((if_pos c38).trans (hN.2.2.2.1.1 _ hrl).2.symm))))
          · refine ev_aload0 (q := 28) dX9_raw_27 rfl ?_
            refine ev_getR (q := 31) dX9_raw_28 g_X9_60 (hW _ _ rfl) rfl rfl rfl ?_
            refine ev_iload1 (q := 32) dX9_raw_31 rfl ?_
            refine ev_cV (K := kX9_raw) (pc := 32) (q := 35) (c_numberOf (d := d) hW h0 hkp hp5) dX9_raw_32 l_X9_274 (hW _ _ rfl) rfl rfl (Nat.le_of_ble_eq_true rfl) (by omega) rfl rfl (fun r S1 hp => ?_)
            obtain ⟨rfl, rfl⟩ := hp
            exact ev_ireturn dX9_raw_35 rfl rfl (CP.same hS hN V frS.rf ((if_neg k0).trans ((if_pos c24).trans (hN.2.2.2.1.1 _ hrl).1.symm)))
        · refine ev_iconst (q := 22) (v := (-1)) dX9_raw_21 rfl rfl ?_
          exact ev_ireturn dX9_raw_22 rfl rfl (CP.same hS hN V frS.rf (if_pos (fun h => by have := i_nle c18; have := h.2.2; omega)))
  · refine ev_if_eq (q := 11) (t := 21) dX9_raw_8 rfl (by decide) (fun c8 => ?_) (fun c8 => ?_)
    · refine ev_iconst (q := 22) (v := (-1)) dX9_raw_21 rfl rfl ?_
      exact ev_ireturn dX9_raw_22 rfl rfl (CP.same hS hN V frS.rf (if_pos (fun h => hp5 h.1)))
    · exact absurd c8 (by decide)
/-- what the constructor of a line leaves: its cells at a, N, N + 1 -/
def PLi (N : Nat) (SH : Nat → Option th_K0) (V : th_Vl) (a len : Nat) (sh b : Int32) : Option Value → th_S → Prop := fun r S' => r = none ∧ ∃ SH' V', S' = (N + 2, SH', V') ∧ (∃ f : Nat → Option Nat, SH' a = some (.inr (2, f)) ∧ f 0 = some N) ∧ (∃ f : Nat → Option Nat, SH' N = some (.inr (8, f)) ∧ f 0 = some (N + 1)) ∧ SH' (N + 1) = some (.inl (2, 60, th_no)) ∧ (∀ c, c < N → c ≠ a → SH' c = SH c ∧ V' c = V c) ∧ (V' a 1 = b ∧ V' a 2 = sh ∧ V' a 3 = V a 3 ∧ V' a 4 = V a 4 ∧ V' a 5 = V a 5 ∧ V' a 6 = V a 6) ∧ V' N 1 = nI len ∧ ∀ k, k < len → V' (N + 1) k = V 28 k
theorem c_textInit {a : Nat} {f : Nat → Option Nat} (ha : SH a = some (.inr (8, f))) (haN : a < N) : MT G l yX8_init kX8_init (d + 1) 1 60 [.ref a] (N, SH, V) (fun r S' => r = none ∧ S' = (N + 1, th_u (th_u SH N (.inl (2, 60, fun _ => none))) a (.inr (8, th_u f 0 N)), th_z V N)) := by
  refine MT.of (by decide) rfl rfl (n := 0) rfl (ls := [some (.ref a)]) rfl ?_
  refine ev_aload0 (q := 1) dX8_init_0 rfl ?_
  refine ev_oI (q := 4) dX8_init_1 l_X8_3 l_oi1 l_oi2 (Nat.le_of_ble_eq_true rfl) (by omega) rfl ?_
  refine ev_aload0 (q := 5) dX8_init_4 rfl ?_
  refine ev_bipush (q := 7) (v := 60) dX8_init_5 rfl rfl ?_
  refine ev_newaX (q := 9) (n := 60) (bc := 0) (bs := 0) (N := N) (N1 := N + 1) rfl (K := kX8_init) (pc := 7) (t := 2) dX8_init_7 rfl (by decide) ac_char rfl (by decide) rfl ?_
  have h1 : (th_u SH N (.inl (2, 60, fun _ => none))) a = some (.inr (8, f)) := (th_u_ne (by omega)).trans ha
  refine ev_putRX (q := 12) dX8_init_9 p_X8_9 h1 rfl rfl ?_
  exact ev_return dX8_init_12 rfl ⟨rfl, rfl⟩
theorem c_copy {a c len : Nat} {f : Nat → Option Nat} (hW : wC SH) (ha : SH a = some (.inr (8, f))) (hf : f 0 = some c) (hc : SH c = some (.inl (2, 60, th_no))) (h64 : 64 ≤ a ∧ 64 ≤ c ∧ a ≠ c) (hlen : V 27 1 = nI len) (h60 : len ≤ 60) (hx : ∀ k, k < len → vp_nar .char (V 28 k) = V 28 k) : MT G l yX8_copy kX8_copy (d + 1) 0 0 [.ref a, .ref 27] (N, SH, V) (fun r S' => r = none ∧ S' = (N, SH, th_w (th_seg V c 0 len (V 28)) a 1 (nI len))) := by
  refine MT.of (by decide) rfl rfl (n := 1) rfl (ls := [some (.ref a), some (.ref 27), none]) rfl ?_
  have lp : ∀ i, i ≤ len → EV G l kX8_copy (d + 1) 0 0 7 [some (.ref a), some (.ref 27), some (.int (nI i))] [] (N, SH, th_w (th_seg V c 0 i (V 28)) a 1 (nI i)) (fun r S' => r = none ∧ S' = (N, SH, th_w (th_seg V c 0 len (V 28)) a 1 (nI len))) := by
    have hT : ∀ i, th_w (th_seg V c 0 i (V 28)) a 1 (nI i) 27 1 = nI len := fun i => by rw [th_w_ne (by omega), th_seg_ne (by omega)]; exact hlen
    refine th_down len ?_ ?_
    · refine ev_iload2 (q := 8) dX8_copy_7 rfl ?_
      refine ev_aload1 (q := 9) dX8_copy_8 rfl ?_
      refine ev_getI (q := 12) dX8_copy_9 g_X8_15 (hW _ _ rfl) rfl rfl ?_
      show EV G l kX8_copy _ 0 0 12 _ [.int (th_w (th_seg V c 0 len (V 28)) a 1 (nI len) 27 1), .int (nI len)] _ _
      rw [hT]
      refine ev_icmp_ge (q := 15) (t := 31) dX8_copy_12 rfl (by decide) (fun c12 => ?_) (fun c12 => ?_)
      · exact ev_return dX8_copy_31 rfl ⟨rfl, rfl⟩
      · exact absurd (Int32.le_refl _) c12
    · intro i hi ih
      refine ev_iload2 (q := 8) dX8_copy_7 rfl ?_
      refine ev_aload1 (q := 9) dX8_copy_8 rfl ?_
      refine ev_getI (q := 12) dX8_copy_9 g_X8_15 (hW _ _ rfl) rfl rfl ?_
      show EV G l kX8_copy _ 0 0 12 _ [.int (th_w (th_seg V c 0 i (V 28)) a 1 (nI i) 27 1), .int (nI i)] _ _
      rw [hT]
      refine ev_icmp_ge (q := 15) (t := 31) dX8_copy_12 rfl (by decide) (fun c12 => ?_) (fun c12 => ?_)
      · exact absurd c12 (nI_ge hi (by omega))
      · refine ev_aload0 (q := 16) dX8_copy_15 rfl ?_
        refine ev_aload1 (q := 17) dX8_copy_16 rfl ?_
        refine ev_getR (q := 20) dX8_copy_17 g_X8_9 (hW _ _ rfl) rfl rfl rfl ?_
        refine ev_iload2 (q := 21) dX8_copy_20 rfl ?_
        refine ev_cald (q := 22) dX8_copy_21 (hW _ _ rfl) rfl (show i < 60 by omega) (by decide) rfl ?_
        show EV G l kX8_copy _ 0 0 22 _ (.int (th_w (th_seg V c 0 i (V 28)) a 1 (nI i) 28 i) :: _) _ _
        rw [show th_w (th_seg V c 0 i (V 28)) a 1 (nI i) 28 i = V 28 i by rw [th_w_ne (by omega), th_seg_ne (by omega)]]
        refine ev_cV (K := kX8_copy) (pc := 22) (q := 25) (c_tput (d := d) ha hf hc h64.2.2 (m := i) (by rw [th_w_if, if_pos ⟨rfl, rfl⟩]) (by omega) (hx i hi)) dX8_copy_22 l_X8_19 ha rfl rfl (Nat.le_of_ble_eq_true rfl) (Nat.le_refl _) rfl rfl (fun r S1 hp => ?_)
        obtain ⟨rfl, rfl⟩ := hp
        rw [th_w_sw h64.2.2, th_seg_s0 (f := V 28)]
        refine ev_iinc2 (q := 28) dX8_copy_25 rfl (by decide) rfl (nI_succ i).symm ?_
        refine ev_goto (q := 7) dX8_copy_28 (by decide) ?_
        exact ih
  refine ev_aload0 (q := 1) dX8_copy_0 rfl ?_
  refine ev_iconst (q := 2) (v := 0) dX8_copy_1 rfl rfl ?_
  refine ev_putI (q := 5) dX8_copy_2 (p_X8_15 _) ha rfl rfl rfl rfl ?_
  refine ev_iconst (q := 6) (v := 0) dX8_copy_5 rfl rfl ?_
  refine ev_istore2 (q := 7) dX8_copy_6 rfl (by decide) rfl ?_
  have hh := lp 0 (Nat.zero_le _)
  rw [th_seg_0] at hh
  exact hh
theorem c_lineInit {a len : Nat} {f : Nat → Option Nat} (hW : wC SH) (ha : SH a = some (.inr (2, f))) (haN : a < N) (h64 : 64 ≤ a) (hlen : V 27 1 = nI len) (h60 : len ≤ 60) (hx : ∀ k, k < len → vp_nar .char (V 28 k) = V 28 k) (sh : Int32) (b : Bool) : MT G l yX2_init kX2_init (d + 2) 2 62 [.ref a, .ref 27, .int sh, .int (cond b 1 0)] (N, SH, V) (PLi N SH V a len sh (cond b 1 0)) := by
  refine MT.of (by decide) rfl rfl (n := 0) rfl (ls := [some (.ref a), some (.ref 27), some (.int sh), some (.int (cond b 1 0))]) rfl ?_
  refine ev_aload0 (q := 1) dX2_init_0 rfl ?_
  refine ev_oI (q := 4) dX2_init_1 l_X2_1 l_oi1 l_oi2 (Nat.le_of_ble_eq_true rfl) (by omega) rfl ?_
  refine ev_aload0 (q := 5) dX2_init_4 rfl ?_
  refine ev_newX (q := 8) (ci := 8) (bc := 1) (bs := 60) (N := N) (N1 := N + 1) rfl (K := kX2_init) (pc := 5) dX2_init_5 rfl n_X2_7 i1_X8 i2_X8 rfl ?_
  refine ev_dup (q := 9) dX2_init_8 rfl rfl ?_
  refine ev_cI (bc := 0) (bs := 0) (K := kX2_init) (pc := 9) (q := 12) (c_textInit (d := d) (a := N) (N := N + 1) th_u_eq (Nat.lt_succ_self _)) dX2_init_9 l_X2_9 rfl (Nat.le_of_ble_eq_true rfl) (by omega) rfl rfl (fun r S1 hp => ?_)
  obtain ⟨rfl, rfl⟩ := hp
  have k1 : (th_u (th_u (th_u SH N (.inr (8, fun _ => none))) (N + 1) (.inl (2, 60, fun _ => none))) N (.inr (8, th_u (fun _ => none) 0 (N + 1)))) a = some (.inr (2, f)) := by rw [th_u_ne (by omega), th_u_ne (by omega), th_u_ne (by omega)]; exact ha
  have k2 : (th_u (th_u (th_u SH N (.inr (8, fun _ => none))) (N + 1) (.inl (2, 60, fun _ => none))) N (.inr (8, th_u (fun _ => none) 0 (N + 1)))) N = some (.inr (8, th_u (fun _ => none) 0 (N + 1))) := th_u_eq
  have k3 : (th_u (th_u (th_u SH N (.inr (8, fun _ => none))) (N + 1) (.inl (2, 60, fun _ => none))) N (.inr (8, th_u (fun _ => none) 0 (N + 1)))) (N + 1) = some (.inl (2, 60, th_no)) := by rw [th_u_ne (by omega), th_u_eq]; rfl
  have k4 : ∀ c, c < N → (th_u (th_u (th_u SH N (.inr (8, fun _ => none))) (N + 1) (.inl (2, 60, fun _ => none))) N (.inr (8, th_u (fun _ => none) 0 (N + 1)))) c = SH c := fun c hc => by rw [th_u_ne (by omega), th_u_ne (by omega), th_u_ne (by omega)]
  have k5 : (th_u (fun _ => none) 0 (N + 1) : Nat → Option Nat) 0 = some (N + 1) := th_u_eq
  generalize th_u (th_u (th_u SH N (.inr (8, fun _ => none))) (N + 1) (.inl (2, 60, fun _ => none))) N (.inr (8, th_u (fun _ => none) 0 (N + 1))) = SH1 at k1 k2 k3 k4 ⊢
  generalize (th_u (fun _ => none) 0 (N + 1) : Nat → Option Nat) = fT at k2 k5
  have v1 : ∀ c, c < N → th_z (th_z V N) (N + 1) c = V c := fun c hc => by rw [th_z_ne (by omega), th_z_ne (by omega)]
  generalize th_z (th_z V N) (N + 1) = V1 at v1 ⊢
  refine ev_putRX (q := 15) dX2_init_12 p_X2_10 k1 rfl rfl ?_
  have j1 : (th_u SH1 a (.inr (2, th_u f 0 N))) a = some (.inr (2, th_u f 0 N)) := th_u_eq
  have j2 : (th_u SH1 a (.inr (2, th_u f 0 N))) N = some (.inr (8, fT)) := (th_u_ne (by omega)).trans k2
  have j3 : (th_u SH1 a (.inr (2, th_u f 0 N))) (N + 1) = some (.inl (2, 60, th_no)) := (th_u_ne (by omega)).trans k3
  have j4 : ∀ c, c < N → c ≠ a → (th_u SH1 a (.inr (2, th_u f 0 N))) c = SH c := fun c hc hca => (th_u_ne hca).trans (k4 c hc)
  have j5 : (th_u f 0 N) 0 = some N := th_u_eq
  have jW : wC (th_u SH1 a (.inr (2, th_u f 0 N))) := fun c x hx => by
    have hc : c < 64 := by
      rcases Nat.lt_or_ge c 64 with z | z
      · exact z
      · exfalso
        have hb : Nat.blt c 4 = false := by
          cases hb : Nat.blt c 4
          · rfl
          · have := Nat.blt_eq.mp hb; omega
        simp only [shC, hb, cond_false] at hx
        rw [show c - 4 = (c - 36) + 32 by omega] at hx
        cases (th_nth_big (d0 := (none : Option th_K0)) _ (c - 36)).symm.trans hx
    rw [j4 c (by omega) (by omega)]
    exact hW c x hx
  generalize th_u SH1 a (.inr (2, th_u f 0 N)) = SH2 at j1 j2 j3 j4 jW ⊢
  generalize th_u f 0 N = fL at j1 j5
  have t1 : V1 27 1 = nI len := by rw [v1 _ (by omega)]; exact hlen
  have t2 : V1 28 = V 28 := v1 _ (by omega)
  refine ev_aload0 (q := 16) dX2_init_15 rfl ?_
  refine ev_getR (q := 19) dX2_init_16 g_X2_10 j1 rfl j5 rfl ?_
  refine ev_aload1 (q := 20) dX2_init_19 rfl ?_
  refine ev_cV (K := kX2_init) (pc := 20) (q := 23) (c_copy (d := d) (a := N) (c := N + 1) (N := N + 1 + 1) jW j2 k5 j3 ⟨by omega, by omega, by omega⟩ t1 h60 (by rw [t2]; exact hx)) dX2_init_20 l_X2_16 j2 rfl rfl (Nat.le_of_ble_eq_true rfl) (Nat.le_refl _) rfl rfl (fun r S1 hp => ?_)
  obtain ⟨rfl, rfl⟩ := hp
  rw [t2]
  refine ev_aload0 (q := 24) dX2_init_23 rfl ?_
  refine ev_iload2 (q := 25) dX2_init_24 rfl ?_
  refine ev_putIX (q := 28) dX2_init_25 (p_X2_20 _) j1 rfl rfl rfl rfl ?_
  refine ev_aload0 (q := 29) dX2_init_28 rfl ?_
  refine ev_iload3 (q := 30) dX2_init_29 rfl ?_
  refine ev_putIX (q := 33) dX2_init_30 p_X2_24 j1 rfl (nar_b b) (by cases b <;> rfl) rfl ?_
  refine ev_return dX2_init_33 rfl ⟨rfl, SH2, _, rfl, ⟨fL, j1, j5⟩, ⟨fT, j2, k5⟩, j3, fun c h1 h2 => ⟨j4 c h1 h2, ?_⟩, ⟨?_, ?_, ?_, ?_, ?_, ?_⟩, ?_, fun k hk => ?_⟩
  · rw [th_w_ne h2, th_w_ne h2, th_w_ne (by omega), th_seg_ne (by omega), v1 c h1]
  · rw [th_w_if, if_pos ⟨rfl, rfl⟩]
  · rw [th_w_j (by decide), th_w_if, if_pos ⟨rfl, rfl⟩]
  · rw [th_w_j (by decide), th_w_j (by decide), th_w_ne (by omega), th_seg_ne (by omega), v1 a haN]
  · rw [th_w_j (by decide), th_w_j (by decide), th_w_ne (by omega), th_seg_ne (by omega), v1 a haN]
  · rw [th_w_j (by decide), th_w_j (by decide), th_w_ne (by omega), th_seg_ne (by omega), v1 a haN]
  · rw [th_w_j (by decide), th_w_j (by decide), th_w_ne (by omega), th_seg_ne (by omega), v1 a haN]
  · rw [th_w_ne (by omega), th_w_ne (by omega), th_w_if, if_pos ⟨rfl, rfl⟩]
  · rw [th_w_ne (by omega), th_w_ne (by omega), th_w_ne (by omega), th_seg_in (Nat.zero_le _) (by omega), Nat.sub_zero]
end C18
