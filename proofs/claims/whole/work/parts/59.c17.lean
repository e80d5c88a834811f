/-! the class: texts read, holds, raw -/
theorem RS.rdr {N : Nat} {SH SH' : Nat → Option th_K0} {V : th_Vl} {R L : Nat} {rd ld : Nat → Nat} {eR eL : Nat} (hS : RS N SH V R L rd ld eR eL) (h : ∀ b, b ≠ 29 → SH' b = SH b) (hf : ∃ f, SH' 29 = some (.inr (5, f))) : RS N SH' V R L rd ld eR eL := by
  obtain ⟨h1, h2, h3, h4, h5, h6, h7, h8, g1, g2, g3, g4⟩ := hS
  refine ⟨fun a c ha => ?_, hf, h3, h4, h5, h6.old (Nat.le_refl _) (h _ (by decide)) (fun z _ => h _ (by omega)) rfl, h7.old (Nat.le_refl _) (h _ (by decide)) (fun z _ => h _ (by omega)) rfl, h8, fun j hj => ?_, g2, fun j hj => ?_, g4⟩
  · have : a ≠ 29 := fun e => by subst e; cases ha
    rw [h a this]
    exact h1 a c ha
  · obtain ⟨q1, q2, ⟨f, q3, q4⟩, q5, q6⟩ := g1 j hj
    exact ⟨q1, q2, ⟨f, (h _ (by omega)).trans q3, q4⟩, (h _ (by omega)).trans q5, (h _ (by omega)).trans q6⟩
  · obtain ⟨q1, q2, ⟨f, q3, q4⟩, ⟨f2, q5, q6⟩, q7⟩ := g3 j hj
    exact ⟨q1, q2, ⟨f, (h _ (by omega)).trans q3, q4⟩, ⟨f2, (h _ (by omega)).trans q5, q6⟩, (h _ (by omega)).trans q7⟩
theorem CP.rdr {N : Nat} {SH SH' : Nat → Option th_K0} {V V' s : th_Vl} {av v : Int32} {rd ld : Nat → Nat} {eR eL : Nat} (hS : RS N SH V (ix (s 36 6)) (ix (s 36 11)) rd ld eR eL) (hN : RN V s (ix (s 36 6)) (ix (s 36 11)) rd ld) (hE : ∀ b, b ≠ 29 → SH' b = SH b) (hr : ∃ f, SH' 29 = some (.inr (5, f))) (hf : frS V V') (h1 : av = v) : CP N SH V av s (some (.int v)) (N, SH', V') :=
  ⟨N, SH', V', rfl, by rw [h1], ⟨rd, ld, eR, eL, (hS.c (hf _ (by unfold scr; omega)) (hf _ (by unfold scr; omega))).rdr hE hr, RN.fr hS hN hf⟩, hf.FC, fun a z1 z2 => hE a (by omega), Nat.le_refl _⟩
def PRe (N : Nat) (SH : Nat → Option th_K0) (V : th_Vl) (len : Nat) (t : Bool) (q : Nat) (ok : Bool) : Option Value → th_S → Prop := fun r S' => ∃ (x : Bool) (z : Int32) (SH' : Nat → Option th_K0), r = some (.int (cond x 1 0)) ∧ S' = (N, SH', rst V q z) ∧ (∃ f, SH' 29 = some (.inr (5, f))) ∧ (∀ b, b ≠ 29 → SH' b = SH b) ∧ ((ok = true ∧ q = len ∧ x = t ∧ z = -1) ∨ (¬ (ok = true ∧ q = len) ∧ z = nI q))
/-- every line's text is without a fault -/
def bGd (s : th_Vl) : Prop := ∀ j, j < ix (s 36 11) → ∀ A, ∃ t, prs (lt s j) A 250 2 0 false 0 = some (t, ix (s 47 j), true)
theorem ltt_0 {s : th_Vl} {j : Nat} : ∀ p, ix (s 47 j) ≤ p → lt s j p = 0 := fun p hp => if_neg (by omega)
theorem bGd_Ev {s : th_Vl} (h : bGd s) (hl : bLi s) (he : bLe s) : bEv s := fun k hk A => by
  obtain ⟨t, ht⟩ := h k hk A
  have hk8 : k < 8 := by have := th_ixI hl.1; have := hl.2; omega
  have h60 := he k hk8
  have := th_ixI h60.1
  exact ⟨_, prs_evl (ltt_0 (s := s) (j := k)) (by have := h60.2; omega) _ _ _ _ _ _ _ (Nat.zero_le _) ht⟩
section C17
variable {G : th_G} {l : Launch} {d : Nat} {N : Nat} {SH : Nat → Option th_K0} {V s : th_Vl}
theorem c_read {ta tb len q : Nat} {L : Nat → Int32} {t ok : Bool} (hW : wC SH) {fR : Nat → Option Nat} (h1 : SH 29 = some (.inr (5, fR))) {fT : Nat → Option Nat} (ht : SH ta = some (.inr (8, fT))) (ht0 : fT 0 = some tb) (htb : SH tb = some (.inl (2, 60, th_no))) (hne : ta ≠ 29 ∧ tb ≠ 29) (hlen : V ta 1 = nI len) (h60 : len ≤ 60) (hL0 : ∀ p, len ≤ p → L p = 0) (hLr : ∀ p, p < len → ∀ c, 0 < c → c < 128 → (V tb p = nI c ↔ L p = nI c)) (hr : prs L (ansB V) 250 2 0 false 0 = some (t, q, ok)) : MT G l yX5_read kX5_read (d + 260) 0 0 [.ref 29, .ref ta, .ref 16] (N, SH, V) (PRe N SH V len t q ok) := by
  refine MT.of (by decide) rfl rfl (n := 1) rfl (ls := [some (.ref 29), some (.ref ta), some (.ref 16), none]) rfl ?_
  have hle := prs_le hL0 _ _ _ _ _ _ _ _ (Nat.zero_le _) hr
  refine ev_aload0 (q := 1) dX5_read_0 rfl ?_
  refine ev_aload1 (q := 2) dX5_read_1 rfl ?_
  refine ev_putRX (q := 5) dX5_read_2 (p_X5_9 _) h1 rfl rfl ?_
  refine ev_aload0 (q := 6) dX5_read_5 rfl ?_
  refine ev_aload2 (q := 7) dX5_read_6 rfl ?_
  refine ev_putRX (q := 10) dX5_read_7 (p_X5_15 _) th_u_eq rfl rfl ?_
  refine ev_aload0 (q := 11) dX5_read_10 rfl ?_
  refine ev_iconst (q := 12) (v := 0) dX5_read_11 rfl rfl ?_
  refine ev_putIX (q := 15) dX5_read_12 (p_X5_19 _) th_u_eq rfl rfl rfl rfl ?_
  refine ev_aload0 (q := 16) dX5_read_15 rfl ?_
  refine ev_iconst (q := 17) (v := (-1)) dX5_read_16 rfl rfl ?_
  refine ev_putIX (q := 20) dX5_read_17 (p_X5_23 _) th_u_eq rfl rfl rfl rfl ?_
  show EV G l kX5_read _ 0 0 20 _ _ (N, th_u (th_u SH 29 (.inr (5, th_u fR 0 ta))) 29 (.inr (5, th_u (th_u fR 0 ta) 1 16)), rst V 0 (-1)) _
  have g1 : (th_u (th_u SH 29 (.inr (5, th_u fR 0 ta))) 29 (.inr (5, th_u (th_u fR 0 ta) 1 16))) 29 = some (.inr (5, th_u (th_u fR 0 ta) 1 16)) := th_u_eq
  have g2 : ∀ b, b ≠ 29 → (th_u (th_u SH 29 (.inr (5, th_u fR 0 ta))) 29 (.inr (5, th_u (th_u fR 0 ta) 1 16))) b = SH b := fun b hb => by rw [th_u_ne hb, th_u_ne hb]
  have g3 : (th_u (th_u fR 0 ta) 1 16) 0 = some ta := (th_u_ne (by decide)).trans th_u_eq
  have g4 : (th_u (th_u fR 0 ta) 1 16) 1 = some 16 := th_u_eq
  generalize th_u (th_u SH 29 (.inr (5, th_u fR 0 ta))) 29 (.inr (5, th_u (th_u fR 0 ta) 1 16)) = SH2 at g1 g2 ⊢
  generalize th_u (th_u fR 0 ta) 1 16 = f2 at g1 g3 g4
  have hW2 : wC SH2 := fun a c ha => by
    have : a ≠ 29 := fun e => by subst e; cases ha
    rw [g2 a this]
    exact hW a c ha
  have hR : RdC SH2 V ta tb len L := ⟨hW2, ⟨f2, g1, g3, g4⟩, ⟨fT, (g2 _ hne.1).trans ht, ht0⟩, (g2 _ hne.2).trans htb, hne, hlen, h60, hL0, hLr⟩
  refine ev_aload0 (q := 21) dX5_read_20 rfl ?_
  refine ev_iconst (q := 22) (v := 0) dX5_read_21 rfl rfl ?_
  refine ev_cV (K := kX5_read) (pc := 22) (q := 25) ((c_reads (G := G) (l := l) (N := N) hR 250).2.2.1 0 0 q t ok (by decide) (Nat.zero_le _) hr) dX5_read_22 l_X5_26 g1 rfl rfl (Nat.le_of_ble_eq_true rfl) (by omega) rfl rfl (fun r S1 hp => ?_)
  obtain ⟨x, z, rfl, rfl, hz⟩ := hp
  have e1 : rst V q z ta 1 = nI len := (congrFun (rst_ne hne.1) 1).trans hlen
  refine ev_istore3 (q := 26) dX5_read_25 rfl (by decide) rfl ?_
  refine ev_aload0 (q := 27) dX5_read_26 rfl ?_
  refine ev_getI (q := 30) dX5_read_27 g_X5_19 g1 rfl rfl ?_
  refine ev_aload0 (q := 31) dX5_read_30 rfl ?_
  refine ev_getR (q := 34) dX5_read_31 g_X5_9 g1 rfl g3 rfl ?_
  refine ev_getI (q := 37) dX5_read_34 g_X5_30 ((g2 _ hne.1).trans ht) rfl rfl ?_
  show EV G l kX5_read _ 0 0 37 _ [.int (rst V q z ta 1), .int (rst V q z 29 2)] _ _
  rw [e1, rst_p]
  refine ev_icmp_ge (q := 40) (t := 45) dX5_read_37 rfl (by decide) (fun c37 => ?_) (fun c37 => ?_)
  · have hql : q = len := by
      have := (nI_leI (by omega) (by omega)).mp c37
      omega
    refine ev_iload3 (q := 46) dX5_read_45 rfl ?_
    refine ev_ireturn dX5_read_46 rfl (nar_b x) ⟨x, z, SH2, rfl, rfl, ⟨f2, g1⟩, g2, ?_⟩
    rcases hz with ⟨a1, a2, a3⟩ | ⟨a1, a2⟩
    · exact Or.inl ⟨a1, hql, a2, a3⟩
    · refine Or.inr ⟨fun y => (by rw [a1] at y; cases y.1), ?_⟩
      rcases a2 with a2 | ⟨-, a2⟩
      · exact a2
      · have := fg_lt hL0 a2
        omega
  · have hql : q < len := by
      rcases Nat.lt_or_ge q len with w | w
      · exact w
      · exact absurd (nI_le w (by omega)) c37
    refine ev_aload0 (q := 41) dX5_read_40 rfl ?_
    refine ev_cV (K := kX5_read) (pc := 41) (q := 44) (c_fail (d := d) (p := q) (z := z) hR) dX5_read_41 l_X5_35 g1 rfl rfl (Nat.le_of_ble_eq_true rfl) (by omega) rfl rfl (fun r S1 hp => ?_)
    obtain ⟨rfl, rfl⟩ := hp
    refine ev_pop (q := 45) dX5_read_44 rfl rfl ?_
    refine ev_iload3 (q := 46) dX5_read_45 rfl ?_
    refine ev_ireturn dX5_read_46 rfl (nar_b x) ⟨x, _, SH2, rfl, rfl, ⟨f2, g1⟩, g2, Or.inr ⟨fun y => by omega, ?_⟩⟩
    rcases hz with ⟨a1, a2, a3⟩ | ⟨a1, a2⟩
    · rw [if_pos a3]
    · rcases a2 with a2 | ⟨a2, -⟩
      · rw [a2, if_neg (m1_ne (by omega))]
      · rw [if_pos a2]
/-- only the reader changes -/
def rdE (SH SH' : Nat → Option th_K0) (V V' : th_Vl) : Prop := (∀ b, b ≠ 29 → SH' b = SH b ∧ V' b = V b) ∧ ∃ f, SH' 29 = some (.inr (5, f))
theorem rdE.S {SH SH' : Nat → Option th_K0} {V V' : th_Vl} (h : rdE SH SH' V V') : frS V V' := fun a ha => (h.1 a (fun e => ha (by unfold scr; omega))).2
theorem rdE.ans {SH SH' : Nat → Option th_K0} {V V' : th_Vl} (h : rdE SH SH' V V') : ansB V' = ansB V := by
  funext c n
  unfold ansB ltB
  rw [(h.1 22 (by decide)).2, (h.1 16 (by decide)).2]
theorem PRe.ok {len : Nat} {t : Bool} {r : Option Value} {S' : th_S} (h : PRe N SH V len t len true r S') : r = some (.int (cond t 1 0)) ∧ ∃ SH' V', S' = (N, SH', V') ∧ rdE SH SH' V V' := by
  obtain ⟨x, z, SH', e1, e2, e3, e4, e5⟩ := h
  rcases e5 with ⟨-, -, a1, a2⟩ | ⟨a1, -⟩
  · exact ⟨by rw [e1, a1], SH', _, e2, fun b hb => ⟨e4 b hb, rst_ne hb⟩, e3⟩
  · exact absurd ⟨rfl, rfl⟩ a1
theorem c_readLine {R L eR eL j : Nat} {rd ld : Nat → Nat} (hS : RS N SH V R L rd ld eR eL) (hj : j < L) (hLn : lnR V s (ld j) j) (hLs : L = ix (s 36 11)) (hle : bLe s) (hby : bBy s) (hgd : bGd s) (hA : ∀ c (n : Nat), isNm c → n < 1000 → ansB V c (nI n) = isAB s c (nI n)) : MT G l yX5_read kX5_read (d + 260) 0 0 [.ref 29, .ref (ld j + 1), .ref 16] (N, SH, V) (PRe N SH V (ix (s 47 j)) (tvB s j) (ix (s 47 j)) true) := by
  have hL8 : L ≤ 8 := hS.2.2.2.2.1
  obtain ⟨fR, hfR⟩ := hS.2.1
  obtain ⟨h64, -, -, ⟨f2, q2, q3⟩, q4⟩ := hS.2.2.2.2.2.2.2.2.2.2.1 j hj
  have hl := hle j (by omega)
  have hi := th_ixI hl.1
  obtain ⟨t, ht⟩ := hgd j (by omega) (ansB V)
  have ht2 := ht
  rw [prs_A hA] at ht2
  have hev := prs_evl (ltt_0 (s := s) (j := j)) (by have := hl.2; omega) _ _ _ _ _ _ _ (Nat.zero_le _) ht2
  have htv : tvB s j = t := by
    unfold tvB tvQ
    rw [hev]
  rw [htv]
  exact c_read hS.1 hfR q2 q3 q4 ⟨by omega, by omega⟩ (hLn.2.1.trans (th_self hl.1)) (by have := hl.2; omega) (ltt_0 (s := s) (j := j)) (fun p hp c h0 h1 => by
    rw [hLn.2.2 p hp, chv_rel (hby.2 _) h1]
    unfold lt
    rw [if_pos hp]) ht
/-- what the lines hold -/
theorem c_holdingLines {R L eR eL : Nat} {rd ld : Nat → Nat} (hS : RS N SH V R L rd ld eR eL) (hLn : ∀ j, j < L → lnR V s (ld j) j) (hLs : L = ix (s 36 11)) (hle : bLe s) (hby : bBy s) (hgd : bGd s) (hA : ∀ c (n : Nat), isNm c → n < 1000 → ansB V c (nI n) = isAB s c (nI n)) : MT G l yX9_holdingLines kX9_holdingLines (d + 261) 0 0 [.ref 4] (N, SH, V) (fun r S' => r = some (.int (hld s)) ∧ ∃ SH' V', S' = (N, SH', V') ∧ rdE SH SH' V V') := by
  refine MT.of (by decide) rfl rfl (n := 2) rfl (ls := [some (.ref 4), none, none]) rfl ?_
  have hL8 : L ≤ 8 := hS.2.2.2.2.1
  have hlds := hS.2.2.2.2.2.2.2.2.2.2.1
  have lp : ∀ i, i ≤ L → ∀ (SH1 : Nat → Option th_K0) (W : th_Vl), rdE SH SH1 V W → EV G l kX9_holdingLines (d + 261) 0 0 4 [some (.ref 4), some (.int (lm (tvB s) i)), some (.int (nI i))] [] (N, SH1, W) (fun r S' => r = some (.int (hld s)) ∧ ∃ SH' V', S' = (N, SH', V') ∧ rdE SH SH' V V') := by
    refine th_down L ?_ ?_
    · intro SH1 W hE
      have hS1 := (hS.c (V' := W) (hE.1 _ (by decide)).2 (hE.1 _ (by decide)).2).rdr (fun b hb => (hE.1 b hb).1) hE.2
      have hW : wC SH1 := hS1.1
      have hLs1 := hS1.2.2.2.2.2.2.1
      obtain ⟨fL, hfL⟩ := hLs1.sh
      refine ev_iload2 (q := 5) dX9_holdingLines_4 rfl ?_
      refine ev_aload0 (q := 6) dX9_holdingLines_5 rfl ?_
      refine ev_getR (q := 9) dX9_holdingLines_6 g_X9_54 (hW _ _ rfl) rfl rfl rfl ?_
      refine ev_cF (K := kX9_holdingLines) (pc := 9) (q := 14) (hLs1.size (d := d)) dX9_holdingLines_9 l_X9_109 hfL rfl (Nat.le_of_ble_eq_true rfl) (by omega) rfl rfl (fun r S1 hp => ?_)
      obtain ⟨rfl, rfl⟩ := hp
      refine ev_icmp_ge (q := 17) (t := 59) dX9_holdingLines_14 rfl (by decide) (fun c14 => ?_) (fun c14 => ?_)
      · refine ev_iload1 (q := 60) dX9_holdingLines_59 rfl ?_
        exact ev_ireturn dX9_holdingLines_60 rfl rfl ⟨by rw [hld, hLs], SH1, W, rfl, hE⟩
      · exact absurd (Int32.le_refl _) c14
    · intro i hi ih SH1 W hE
      have hS1 := (hS.c (V' := W) (hE.1 _ (by decide)).2 (hE.1 _ (by decide)).2).rdr (fun b hb => (hE.1 b hb).1) hE.2
      have hW : wC SH1 := hS1.1
      have hLs1 := hS1.2.2.2.2.2.2.1
      obtain ⟨fL, hfL⟩ := hLs1.sh
      obtain ⟨h64, -, ⟨f, ha, hf⟩, -, -⟩ := hS1.2.2.2.2.2.2.2.2.2.2.1 i hi
      obtain ⟨fR, hfR⟩ := hE.2
      have hLi : lnR W s (ld i) i := (hLn i hi).c (hE.1 _ (by omega)).2 (hE.1 _ (by omega)).2 (hE.1 _ (by omega)).2 rfl rfl rfl rfl rfl rfl rfl rfl
      refine ev_iload2 (q := 5) dX9_holdingLines_4 rfl ?_
      refine ev_aload0 (q := 6) dX9_holdingLines_5 rfl ?_
      refine ev_getR (q := 9) dX9_holdingLines_6 g_X9_54 (hW _ _ rfl) rfl rfl rfl ?_
      refine ev_cF (K := kX9_holdingLines) (pc := 9) (q := 14) (hLs1.size (d := d)) dX9_holdingLines_9 l_X9_109 hfL rfl (Nat.le_of_ble_eq_true rfl) (by omega) rfl rfl (fun r S1 hp => ?_)
      obtain ⟨rfl, rfl⟩ := hp
      refine ev_icmp_ge (q := 17) (t := 59) dX9_holdingLines_14 rfl (by decide) (fun c14 => ?_) (fun c14 => ?_)
      · exact absurd c14 (nI_ge hi (by omega))
      · refine ev_aload0 (q := 18) dX9_holdingLines_17 rfl ?_
        refine ev_getR (q := 21) dX9_holdingLines_18 g_X9_50 (hW _ _ rfl) rfl rfl rfl ?_
        refine ev_aload0 (q := 22) dX9_holdingLines_21 rfl ?_
        refine ev_getR (q := 25) dX9_holdingLines_22 g_X9_54 (hW _ _ rfl) rfl rfl rfl ?_
        refine ev_iload2 (q := 26) dX9_holdingLines_25 rfl ?_
        refine ev_cF (K := kX9_holdingLines) (pc := 26) (q := 31) (hLs1.get (d := d) hi rfl) dX9_holdingLines_26 l_X9_287 hfL rfl (Nat.le_of_ble_eq_true rfl) (by omega) rfl rfl (fun r S1 hp => ?_)
        obtain ⟨rfl, rfl⟩ := hp
        refine ev_chk (q := 34) dX9_holdingLines_31 ha rfl n_X9_220 rfl ?_
        refine ev_getR (q := 37) dX9_holdingLines_34 g_X9_232 ha rfl hf rfl ?_
        refine ev_aload0 (q := 38) dX9_holdingLines_37 rfl ?_
        refine ev_getR (q := 41) dX9_holdingLines_38 g_X9_36 (hW _ _ rfl) rfl rfl rfl ?_
        refine ev_cV (K := kX9_holdingLines) (pc := 41) (q := 44) (c_readLine (d := d) (s := s) hS1 hi hLi hLs hle hby hgd (by rw [hE.ans]; exact hA)) dX9_holdingLines_41 l_X9_213 hfR rfl rfl (Nat.le_of_ble_eq_true rfl) (Nat.le_refl _) rfl rfl (fun r S1 hp => ?_)
        obtain ⟨rfl, SH2, W2, rfl, hE2⟩ := hp.ok
        have hE3 : rdE SH SH2 V W2 := ⟨fun b hb => ⟨(hE2.1 b hb).1.trans (hE.1 b hb).1, (hE2.1 b hb).2.trans (hE.1 b hb).2⟩, hE2.2⟩
        rw [lm] at ih
        cases ht : tvB s i
        · rw [ht, cond_false] at ih
          refine ev_if_eq (q := 47) (t := 53) dX9_holdingLines_44 rfl (by decide) (fun c44 => ?_) (fun c44 => ?_)
          · refine ev_iinc2 (q := 56) dX9_holdingLines_53 rfl (by decide) rfl (nI_succ i).symm ?_
            refine ev_goto (q := 4) dX9_holdingLines_56 (by decide) ?_
            exact ih SH2 W2 hE3
          · exact absurd rfl c44
        · rw [ht, cond_true] at ih
          refine ev_if_eq (q := 47) (t := 53) dX9_holdingLines_44 rfl (by decide) (fun c44 => ?_) (fun c44 => ?_)
          · exact absurd c44 (by decide)
          · refine ev_iload1 (q := 48) dX9_holdingLines_47 rfl ?_
            refine ev_iconst (q := 49) (v := 1) dX9_holdingLines_48 rfl rfl ?_
            refine ev_iload2 (q := 50) dX9_holdingLines_49 rfl ?_
            refine ev_ishl (q := 51) dX9_holdingLines_50 rfl ?_
            refine ev_ior (q := 52) dX9_holdingLines_51 rfl ?_
            refine ev_istore1 (q := 53) dX9_holdingLines_52 rfl (by decide) rfl ?_
            refine ev_iinc2 (q := 56) dX9_holdingLines_53 rfl (by decide) rfl (nI_succ i).symm ?_
            refine ev_goto (q := 4) dX9_holdingLines_56 (by decide) ?_
            exact ih SH2 W2 hE3
  refine ev_iconst (q := 1) (v := 0) dX9_holdingLines_0 rfl rfl ?_
  refine ev_istore1 (q := 2) dX9_holdingLines_1 rfl (by decide) rfl ?_
  refine ev_iconst (q := 3) (v := 0) dX9_holdingLines_2 rfl rfl ?_
  refine ev_istore2 (q := 4) dX9_holdingLines_3 rfl (by decide) rfl ?_
  exact lp 0 (Nat.zero_le _) SH V ⟨fun _ _ => ⟨rfl, rfl⟩, hS.2.1⟩
theorem c_holds (hC : CR N SH V s) (hb : bLi s) (hro : bRo s) (hsp : bSp s) (hhi : bHi s) (hle : bLe s) (hby : bBy s) (hgd : bGd s) (r : Int32) : MT G l yX9_holds kX9_holds (d + 261) 0 0 [.ref 4, .int r] (N, SH, V) (CP N SH V (a_holds s r) s) := by
  refine MT.of (by decide) rfl rfl (n := 1) rfl (ls := [some (.ref 4), some (.int r), none]) rfl ?_
  obtain ⟨rd, ld, eR, eL, hS, hN⟩ := hC
  have hW : wC SH := hS.1
  have hsn : ∀ k, k < 5 → sS (V 12 k) (V 13 k) (V 14 k) = sn s k := fun k hk => by
    obtain ⟨q1, q2, q3⟩ := hN.2.1 k hk
    rw [q1, q2, q3]
    rfl
  refine ev_aload0 (q := 1) dX9_holds_0 rfl ?_
  refine ev_iload1 (q := 2) dX9_holds_1 rfl ?_
  refine ev_cV (K := kX9_holds) (pc := 2) (q := 5) (c_lineAt (d := d) hS rfl hb r) dX9_holds_2 l_X9_225 (hW _ _ rfl) rfl rfl (Nat.le_of_ble_eq_true rfl) (by omega) rfl rfl (fun r S1 hp => ?_)
  rcases hp with ⟨rfl, ⟨h0, rfl⟩ | ⟨h0, rfl⟩⟩
  · refine ev_astoreN2 (q := 6) dX9_holds_5 rfl (by decide) rfl ?_
    refine ev_aloadN2 (q := 7) dX9_holds_6 rfl ?_
    refine ev_ifnonnullN (q := 10) dX9_holds_7 rfl ?_
    refine ev_iconst (q := 11) (v := (-1)) dX9_holds_10 rfl rfl ?_
    exact ev_ireturn dX9_holds_11 rfl rfl (CP.same hS hN V frS.rf (if_neg h0))
  · have hlt := isLn_lt hb h0
    have hix : ix r < ix (s 36 11) := by
      have := th_ixI hlt.1
      have := th_ixI hb.1
      omega
    have hL8 : ix (s 36 11) ≤ 8 := hS.2.2.2.2.1
    obtain ⟨h64, -, ⟨f, ha, hf⟩, -, -⟩ := hS.2.2.2.2.2.2.2.2.2.2.1 (ix r) hix
    obtain ⟨fR, hfR⟩ := hS.2.1
    have hv : a_holds s r = nI (tvB s (ix r)).toNat := by
      refine (if_pos h0).trans ?_
      have hb0 : (hld s >>> (r &&& 31)) &&& 1 = (hld s >>> (nI (ix r) &&& 31)) &&& 1 := by rw [← th_self hlt.1]
      rw [hb0, th_bitE (by omega), hld, tbit_lm _ (by omega), decide_eq_true hix, Bool.true_and]
    refine ev_astore2 (q := 6) dX9_holds_5 rfl (by decide) rfl ?_
    refine ev_aload2 (q := 7) dX9_holds_6 rfl ?_
    refine ev_ifnonnull (q := 12) dX9_holds_7 (by decide) ?_
    refine ev_aload0 (q := 13) dX9_holds_12 rfl ?_
    refine ev_aload0 (q := 14) dX9_holds_13 rfl ?_
    refine ev_getR (q := 17) dX9_holds_14 g_X9_16 (hW _ _ rfl) rfl rfl rfl ?_
    refine ev_cV (K := kX9_holds) (pc := 17) (q := 20) (c_lookAt (d := d) (t := s) hS hN.2.2.2.2.2.1 hsp (hW _ _ rfl) (by decide) hsn rfl) dX9_holds_17 l_X9_178 (hW _ _ rfl) rfl rfl (Nat.le_of_ble_eq_true rfl) (by omega) rfl rfl (fun r S1 hp => ?_)
    obtain ⟨rfl, V1, rfl, hf1, hk1⟩ := hp
    have hS1 := hS.c (V' := V1) (hf1 _ (by unfold scr; omega)) (hf1 _ (by unfold scr; omega))
    have hN1 := RN.fr hS hN hf1
    refine ev_aload0 (q := 21) dX9_holds_20 rfl ?_
    refine ev_getR (q := 24) dX9_holds_21 g_X9_50 (hW _ _ rfl) rfl rfl rfl ?_
    refine ev_aload2 (q := 25) dX9_holds_24 rfl ?_
    refine ev_getR (q := 28) dX9_holds_25 g_X9_232 ha rfl hf rfl ?_
    refine ev_aload0 (q := 29) dX9_holds_28 rfl ?_
    refine ev_getR (q := 32) dX9_holds_29 g_X9_36 (hW _ _ rfl) rfl rfl rfl ?_
    refine ev_cV (K := kX9_holds) (pc := 32) (q := 35) (c_readLine (d := d) (s := s) hS1 hix (hN1.2.2.2.2.2.2 _ hix) rfl hle hby hgd (ans_is hk1 rfl hro hhi)) dX9_holds_32 l_X9_213 hfR rfl rfl (Nat.le_of_ble_eq_true rfl) (Nat.le_refl _) rfl rfl (fun r S1 hp => ?_)
    obtain ⟨rfl, SH2, W2, rfl, hE2⟩ := hp.ok
    cases ht : tvB s (ix r)
    · rw [ht] at hv
      refine ev_if_eq (q := 38) (t := 42) dX9_holds_35 rfl (by decide) (fun c35 => ?_) (fun c35 => ?_)
      · refine ev_iconst (q := 43) (v := 0) dX9_holds_42 rfl rfl ?_
        exact ev_ireturn dX9_holds_43 rfl rfl (CP.rdr hS hN (fun b hb => (hE2.1 b hb).1) hE2.2 (hf1.tr hE2.S) hv)
      · exact absurd rfl c35
    · rw [ht] at hv
      refine ev_if_eq (q := 38) (t := 42) dX9_holds_35 rfl (by decide) (fun c35 => ?_) (fun c35 => ?_)
      · exact absurd c35 (by decide)
      · refine ev_iconst (q := 39) (v := 1) dX9_holds_38 rfl rfl ?_
        refine ev_goto (q := 43) dX9_holds_39 (by decide) ?_
        exact ev_ireturn dX9_holds_43 rfl rfl (CP.rdr hS hN (fun b hb => (hE2.1 b hb).1) hE2.2 (hf1.tr hE2.S) hv)
end C17
