/-! the class: the track of a road -/
theorem nz_dec : ∀ fi, fi < 16 → ∀ b0 b1 b2 b3 : Bool, ∀ c, c < 32 → tbit (nI ((b0.toNat + 2 * b1.toNat + 4 * b2.toNat + 8 * b3.toNat) * 2 ^ fi)) c = (if c = fi then b0 else if c = fi + 1 then b1 else if c = fi + 2 then b2 else if c = fi + 3 then b3 else false) := by decide +kernel
theorem nz_ntz : ∀ fi, fi < 16 → ∀ b0 b1 b2 b3 : Bool, (b0 || b1 || b2 || b3) = true → ntz (nI ((b0.toNat + 2 * b1.toNat + 4 * b2.toNat + 8 * b3.toNat) * 2 ^ fi)) = nI (fi + (if b0 = true then 0 else if b1 = true then 1 else if b2 = true then 2 else 3)) := by decide +kernel
theorem low_bit {sp v : Int32} {fi la : Nat} (e1 : sp / 100 = nI fi) (e2 : sp - sp / 100 * 100 = nI la) (h1 : fi ≤ la) (h2 : la < 16) (h3 : la ≤ fi + 3) (hn : ¬ sIn (sp - sp / 100 * 100) (sp / 100) v = 0) : ∃ lo, ntz (sIn (sp - sp / 100 * 100) (sp / 100) v) = nI lo ∧ fi ≤ lo ∧ lo ≤ fi + 3 ∧ ∀ c, c < lo → tbit (sIn (sp - sp / 100 * 100) (sp / 100) v) c = false := by
  rw [e2, e1] at hn ⊢
  have hb := fun c (hc : c < 32) => tbit_sIn (v := v) h1 h2 h3 hc
  have ex : sIn (nI la) (nI fi) v = nI (((tbit (sIn (nI la) (nI fi) v) fi).toNat + 2 * (tbit (sIn (nI la) (nI fi) v) (fi + 1)).toNat + 4 * (tbit (sIn (nI la) (nI fi) v) (fi + 2)).toNat + 8 * (tbit (sIn (nI la) (nI fi) v) (fi + 3)).toNat) * 2 ^ fi) := by
    refine tbit_ext (fun c hc => ?_)
    rw [nz_dec fi (by omega) _ _ _ _ c hc]
    by_cases k0 : c = fi
    · rw [if_pos k0, k0]
    by_cases k1 : c = fi + 1
    · rw [if_neg k0, if_pos k1, k1]
    by_cases k2 : c = fi + 2
    · rw [if_neg k0, if_neg k1, if_pos k2, k2]
    by_cases k3 : c = fi + 3
    · rw [if_neg k0, if_neg k1, if_neg k2, if_pos k3, k3]
    rw [if_neg k0, if_neg k1, if_neg k2, if_neg k3, hb c hc]
    have : ¬ (fi ≤ c ∧ c ≤ la) := by omega
    simp [this]
  have hlow : ∀ c, c < fi → tbit (sIn (nI la) (nI fi) v) c = false := fun c hc => by
    rw [hb c (by omega)]
    have : ¬ (fi ≤ c ∧ c ≤ la) := by omega
    simp [this]
  generalize hx : sIn (nI la) (nI fi) v = x at hn ex hlow ⊢
  clear hb hx
  generalize q0 : tbit x fi = b0 at ex
  generalize q1 : tbit x (fi + 1) = b1 at ex
  generalize q2 : tbit x (fi + 2) = b2 at ex
  generalize q3 : tbit x (fi + 3) = b3 at ex
  have hor : (b0 || b1 || b2 || b3) = true := by
    cases b0 <;> cases b1 <;> cases b2 <;> cases b3 <;> first | rfl | (exfalso; apply hn; rw [ex]; simp; rfl)
  have hz := nz_ntz fi (by omega) b0 b1 b2 b3 hor
  rw [← ex] at hz
  refine ⟨_, hz, by omega, by split <;> (try split) <;> (try split) <;> omega, fun c hc => ?_⟩
  by_cases z : c < fi
  · exact hlow c z
  cases b0
  · by_cases z0 : c = fi
    · rw [z0, q0]
    cases b1
    · by_cases z1 : c = fi + 1
      · rw [z1, q1]
      cases b2
      · by_cases z2 : c = fi + 2
        · rw [z2, q2]
        simp at hc
        omega
      · simp at hc
        omega
    · simp at hc
      omega
  · simp at hc
    omega
theorem ccl_none {v sp : Int32} : ∀ n, (∀ c, c < n → ¬ (¬ (v >>> (nI c &&& 31)) &&& 1 = 0 ∧ inSp sp c)) → ccl v sp n = []
  | 0, _ => rfl
  | n + 1, h => by rw [ccl, if_neg (h n (by omega)), ccl_none n (fun c hc => h c (by omega))]
theorem ccl_pre {v sp : Int32} {n : Nat} : ∀ m, n ≤ m → ∃ r, ccl v sp m = ccl v sp n ++ r
  | 0, h => ⟨[], by rw [show n = 0 by omega, List.append_nil]⟩
  | m + 1, h => by
    by_cases e : n = m + 1
    · exact ⟨[], by rw [e, List.append_nil]⟩
    · obtain ⟨r, hr⟩ := ccl_pre (v := v) (sp := sp) (n := n) m (by omega)
      rw [ccl]
      split
      · exact ⟨r ++ [nI m], by rw [hr, List.append_assoc]⟩
      · exact ⟨r, hr⟩
theorem ccl_up {v sp : Int32} {n : Nat} : ∀ m, n ≤ m → (∀ c, n ≤ c → c < m → ¬ inSp sp c) → ccl v sp m = ccl v sp n
  | 0, h, _ => by rw [show n = 0 by omega]
  | m + 1, h, hc => by
    by_cases e : n = m + 1
    · rw [e]
    · rw [ccl, if_neg (fun z => hc m (by omega) (by omega) z.2)]
      exact ccl_up m (by omega) (fun c h1 h2 => hc c h1 (by omega))
def FitK (V : th_Vl) (h : Int32) : Prop := V 18 3 = (ms h (fun _ => 0) 5).1 ∧ V 18 4 = (ms h (fun _ => 0) 5).2.1 ∧ V 18 5 = m6a (ms h (fun _ => 0) 5)
def chR (V : th_Vl) (f g : Nat → Int32) : Prop := ∀ k, k < 5 → V 19 k = sIn (g k - g k / 100 * 100) (g k / 100) (f k)
def scF (a k : Nat) : Prop := a = 20 ∨ a = 21 ∨ (a = 18 ∧ k = 6)
def frF (V V' : th_Vl) : Prop := ∀ a k, ¬ scF a k → V' a k = V a k
theorem frF.rf {V : th_Vl} : frF V V := fun _ _ _ => rfl
theorem frF.tr {V V1 V2 : th_Vl} (h1 : frF V V1) (h2 : frF V1 V2) : frF V V2 := fun a k h => (h2 a k h).trans (h1 a k h)
theorem frF.w {V V1 : th_Vl} {a k : Nat} {x : Int32} (h : frF V V1) (hs : scF a k) : frF V (th_w V1 a k x) := by
  intro b j hn
  rw [th_w_if, if_neg (fun z => hn (by rw [z.1, z.2]; exact hs))]
  exact h b j hn
theorem frF.sg {V V1 : th_Vl} {a lo m : Nat} {f : Nat → Int32} (h : frF V V1) (hs : ∀ k, scF a k) : frF V (th_seg V1 a lo m f) := by
  intro b j hn
  rw [th_seg_ne (fun z => hn (by rw [z]; exact hs j))]
  exact h b j hn
theorem frF.K {V V' : th_Vl} {h : Int32} (hf : frF V V') (hk : FitK V h) : FitK V' h := by
  unfold FitK at hk ⊢
  rw [hf 18 3 (by unfold scF; omega), hf 18 4 (by unfold scF; omega), hf 18 5 (by unfold scF; omega)]
  exact hk
theorem frF.ch {V V' : th_Vl} {f g : Nat → Int32} (hf : frF V V') (hk : chR V f g) : chR V' f g := fun k h => (hf 19 k (by unfold scF; omega)).trans (hk k h)
def CsR (V : th_Vl) (b : th_c2) : Prop := V 18 6 = b.1 ∧ ∀ k, k < 5 → V 21 k = th_nth b.2 k 0
def PFt (N : Nat) (SH : Nat → Option th_K0) (V : th_Vl) (f g : Nat → Int32) (j : Nat) (b : th_c2) : Option Value → th_S → Prop := fun r S' => r = none ∧ ∃ V', S' = (N, SH, V') ∧ frF V V' ∧ (∀ k, k < 5 → (k < j ∨ exB (f k) (g k) 16 = false) → V' 20 k = V 20 k) ∧ CsR V' b
section C11
variable {G : th_G} {l : Launch} {N : Nat} {SH : Nat → Option th_K0}
theorem c_isPerfect {d : Nat} {V : th_Vl} (hW : wC SH) : MT G l yX0_isPerfect kX0_isPerfect d 0 0 [.ref 18] (N, SH, V) (th_bo (V 18 6 = 0) (N, SH, V)) := by
  refine MT.of (by decide) rfl rfl (n := 0) rfl (ls := [some (.ref 18)]) rfl ?_
  refine ev_aload0 (q := 1) dX0_isPerfect_0 rfl ?_
  refine ev_getI (q := 4) dX0_isPerfect_1 g_X0_38 (hW _ _ rfl) rfl rfl ?_
  refine ev_if_ne (q := 7) (t := 11) dX0_isPerfect_4 rfl (by decide) (fun c4 => ?_) (fun c4 => ?_)
  · refine ev_iconst (q := 12) (v := 0) dX0_isPerfect_11 rfl rfl ?_
    exact ev_ireturn dX0_isPerfect_12 rfl rfl ⟨rfl, Or.inr ⟨c4, rfl⟩⟩
  · refine ev_iconst (q := 8) (v := 1) dX0_isPerfect_7 rfl rfl ?_
    refine ev_goto (q := 12) dX0_isPerfect_8 (by decide) ?_
    exact ev_ireturn dX0_isPerfect_12 rfl rfl ⟨rfl, Or.inl ⟨c4, rfl⟩⟩
theorem c_takeTrial {d : Nat} {V : th_Vl} (hW : wC SH) (f g : Nat → Int32) {h : Int32} {t : List Int32} (hK : FitK V h) (ht : ∀ k, k < 5 → V 20 k = th_nth t k 0) (htop : topC (ms h (rowF t) 5) = topOf h (rowF t)) (b : th_c2) (hB : CsR V b) {x y z : Int32} (hx : x = (ms h (rowF t) 5).2.2.1) (hy : y = (ms h (rowF t) 5).2.2.2.2.2) (hz : z = (ms h (rowF t) 5).2.2.2.2.1) : MT G l yX0_takeTrial kX0_takeTrial d 0 0 [.ref 18, .int x, .int y, .int z] (N, SH, V) (PFt N SH V f g 5 (cstep h b t)) := by
  refine MT.of (by decide) rfl rfl (n := 3) rfl (ls := [some (.ref 18), some (.int x), some (.int y), some (.int z), none, none, none]) rfl ?_
  have e : (V 18 3 * y - x * x) * V 18 5 - (V 18 3 * z - V 18 4 * x) * (V 18 3 * z - V 18 4 * x) = topOf h (rowF t) := by
    obtain ⟨l1, l2, l3⟩ := ms_low (h := h) (f := fun _ => 0) (g := rowF t) 5
    rw [hK.1, hK.2.1, hK.2.2, hx, hy, hz, ← htop]
    unfold m6a
    rw [l1, l2, l3]
    rfl
  refine ev_aload0 (q := 1) dX0_takeTrial_0 rfl ?_
  refine ev_getI (q := 4) dX0_takeTrial_1 g_X0_21 (hW _ _ rfl) rfl rfl ?_
  refine ev_iload3 (q := 5) dX0_takeTrial_4 rfl ?_
  refine ev_imul (q := 6) dX0_takeTrial_5 rfl ?_
  refine ev_aload0 (q := 7) dX0_takeTrial_6 rfl ?_
  refine ev_getI (q := 10) dX0_takeTrial_7 g_X0_25 (hW _ _ rfl) rfl rfl ?_
  refine ev_iload1 (q := 11) dX0_takeTrial_10 rfl ?_
  refine ev_imul (q := 12) dX0_takeTrial_11 rfl ?_
  refine ev_isub (q := 13) dX0_takeTrial_12 rfl ?_
  refine ev_istore4 (q := 15) dX0_takeTrial_13 rfl (by decide) rfl ?_
  refine ev_aload0 (q := 16) dX0_takeTrial_15 rfl ?_
  refine ev_getI (q := 19) dX0_takeTrial_16 g_X0_21 (hW _ _ rfl) rfl rfl ?_
  refine ev_iload2 (q := 20) dX0_takeTrial_19 rfl ?_
  refine ev_imul (q := 21) dX0_takeTrial_20 rfl ?_
  refine ev_iload1 (q := 22) dX0_takeTrial_21 rfl ?_
  refine ev_iload1 (q := 23) dX0_takeTrial_22 rfl ?_
  refine ev_imul (q := 24) dX0_takeTrial_23 rfl ?_
  refine ev_isub (q := 25) dX0_takeTrial_24 rfl ?_
  refine ev_aload0 (q := 26) dX0_takeTrial_25 rfl ?_
  refine ev_getI (q := 29) dX0_takeTrial_26 g_X0_34 (hW _ _ rfl) rfl rfl ?_
  refine ev_imul (q := 30) dX0_takeTrial_29 rfl ?_
  refine ev_iload4 (q := 32) dX0_takeTrial_30 rfl ?_
  refine ev_iload4 (q := 34) dX0_takeTrial_32 rfl ?_
  refine ev_imul (q := 35) dX0_takeTrial_34 rfl ?_
  refine ev_isub (q := 36) dX0_takeTrial_35 rfl ?_
  show EV G l kX0_takeTrial _ 0 0 36 _ [.int ((V 18 3 * y - x * x) * V 18 5 - (V 18 3 * z - V 18 4 * x) * (V 18 3 * z - V 18 4 * x))] _ _
  rw [e]
  generalize hT : V 18 3 * z - V 18 4 * x = tilt
  refine ev_istore5 (q := 38) dX0_takeTrial_36 rfl (by decide) rfl ?_
  refine ev_iload5 (q := 40) dX0_takeTrial_38 rfl ?_
  refine ev_aload0 (q := 41) dX0_takeTrial_40 rfl ?_
  refine ev_getI (q := 44) dX0_takeTrial_41 g_X0_38 (hW _ _ rfl) rfl rfl ?_
  refine ev_icmp_lt (q := 47) (t := 48) dX0_takeTrial_44 rfl (by decide) (fun c44 => ?_) (fun c44 => ?_)
  · have hc : ¬ b.1.toInt ≤ (topOf h (rowF t)).toInt := by
      have q : (topOf h (rowF t)).toInt < (V 18 6).toInt := i_lt.mp c44
      rw [hB.1] at q
      omega
    have lp : ∀ i, i ≤ 5 → EV G l kX0_takeTrial d 0 0 57 [some (.ref 18), some (.int x), some (.int y), some (.int z), some (.int tilt), some (.int (topOf h (rowF t))), some (.int (nI i))] [] (N, SH, th_seg (th_w V 18 6 (topOf h (rowF t))) 21 0 i (V 20)) (PFt N SH V f g 5 (cstep h b t)) := by
      refine th_down 5 ?_ ?_
      · refine ev_iload6 (q := 59) dX0_takeTrial_57 rfl ?_
        refine ev_iconst (q := 60) (v := 5) dX0_takeTrial_59 rfl rfl ?_
        refine ev_icmp_ge (q := 63) (t := 83) dX0_takeTrial_60 rfl (by decide) (fun c60 => ?_) (fun c60 => ?_)
        · refine ev_return dX0_takeTrial_83 rfl ⟨rfl, _, rfl, (frF.rf.w (Or.inr (Or.inr ⟨rfl, rfl⟩))).sg (fun k => Or.inr (Or.inl rfl)), fun k _ _ => rfl, ?_⟩
          rw [cstep, if_neg hc]
          exact ⟨rfl, fun k hk => (th_seg_in (Nat.zero_le _) (by omega)).trans (ht k hk)⟩
        · exact absurd (by decide) c60
      · intro i hi ih
        rw [← th_seg_s0] at ih
        refine ev_iload6 (q := 59) dX0_takeTrial_57 rfl ?_
        refine ev_iconst (q := 60) (v := 5) dX0_takeTrial_59 rfl rfl ?_
        refine ev_icmp_ge (q := 63) (t := 83) dX0_takeTrial_60 rfl (by decide) (fun c60 => ?_) (fun c60 => ?_)
        · exact absurd c60 (nI_ge hi (by decide))
        · refine ev_aload0 (q := 64) dX0_takeTrial_63 rfl ?_
          refine ev_getR (q := 67) dX0_takeTrial_64 g_X0_18 (hW _ _ rfl) rfl rfl rfl ?_
          refine ev_iload6 (q := 69) dX0_takeTrial_67 rfl ?_
          refine ev_aload0 (q := 70) dX0_takeTrial_69 rfl ?_
          refine ev_getR (q := 73) dX0_takeTrial_70 g_X0_15 (hW _ _ rfl) rfl rfl rfl ?_
          refine ev_iload6 (q := 75) dX0_takeTrial_73 rfl ?_
          refine ev_iald (q := 76) dX0_takeTrial_75 (hW _ _ rfl) rfl hi (by decide) rfl ?_
          refine ev_iast (q := 77) dX0_takeTrial_76 (hW _ _ rfl) rfl hi (by decide) rfl ?_
          refine ev_iinc6 (q := 80) dX0_takeTrial_77 rfl (by decide) rfl (nI_succ i).symm ?_
          refine ev_goto (q := 57) dX0_takeTrial_80 (by decide) ?_
          exact ih
    refine ev_aload0 (q := 49) dX0_takeTrial_48 rfl ?_
    refine ev_iload5 (q := 51) dX0_takeTrial_49 rfl ?_
    refine ev_putI (q := 54) dX0_takeTrial_51 (p_X0_38 _) (hW _ _ rfl) rfl rfl rfl rfl ?_
    refine ev_iconst (q := 55) (v := 0) dX0_takeTrial_54 rfl rfl ?_
    refine ev_istore6 (q := 57) dX0_takeTrial_55 rfl (by decide) rfl ?_
    have hh := lp 0 (by decide)
    rw [th_seg_0] at hh
    exact hh
  · have hc : b.1.toInt ≤ (topOf h (rowF t)).toInt := by
      have q : (V 18 6).toInt ≤ (topOf h (rowF t)).toInt := i_nlt c44
      rw [hB.1] at q
      exact q
    exact ev_return dX0_takeTrial_47 rfl ⟨rfl, V, rfl, frF.rf, fun _ _ _ => rfl, by rw [cstep, if_pos hc]; exact hB⟩
theorem c_tryCells (hW : wC SH) {d : Nat} {f g : Nat → Int32} (hg : ∀ k, k < 5 → isSp (g k)) : ∀ (k j : Nat), j + k = 5 → ∀ (V : th_Vl) (p : List Int32) (b : th_c2), p.length = j → FitK V (hm f g 5) → chR V f g → (∀ q, q < j → V 20 q = th_nth p q 0) → (∀ q, q < 5 → exB (f q) (g q) 16 = false → V 20 q = -1) → CsR V b → (∀ t, t ∈ trk (Frw f g) j k → topC (ms (hm f g 5) (rowF (p ++ t)) 5) = topOf (hm f g 5) (rowF (p ++ t)) ∧ 0 ≤ (topOf (hm f g 5) (rowF (p ++ t))).toInt) → ∀ (x y z : Int32), x = (ms (hm f g 5) (rowF p) j).2.2.1 → y = (ms (hm f g 5) (rowF p) j).2.2.2.2.2 → z = (ms (hm f g 5) (rowF p) j).2.2.2.2.1 → MT G l yX0_tryCells kX0_tryCells (d + 2 + k) 0 0 [.ref 18, .int (nI j), .int x, .int y, .int z] (N, SH, V) (PFt N SH V f g j ((trk (Frw f g) j k).foldl (fun b t => cstep (hm f g 5) b (p ++ t)) b)) := by
  intro k
  induction k with
  | zero =>
    intro j hj V p b hlen hK hch hpr hnh hB hnn x y z hx hy hz
    have hj5 : j = 5 := by omega
    subst hj5
    refine MT.of (by decide) rfl rfl (n := 2) rfl (ls := [some (.ref 18), some (.int (nI 5)), some (.int x), some (.int y), some (.int z), none, none]) rfl ?_
    have h0 := hnn [] (by rw [trk]; exact List.mem_singleton.mpr rfl)
    rw [List.append_nil] at h0
    show EV G l _ _ 0 0 0 _ _ _ (PFt N SH V f g 5 (cstep (hm f g 5) b (p ++ [])))
    rw [List.append_nil]
    refine ev_iload1 (q := 1) dX0_tryCells_0 rfl ?_
    refine ev_if_lt (q := 4) (t := 9) dX0_tryCells_1 rfl (by decide) (fun c1 => ?_) (fun c1 => ?_)
    · exact absurd c1 (by decide)
    · refine ev_iload1 (q := 5) dX0_tryCells_4 rfl ?_
      refine ev_iconst (q := 6) (v := 5) dX0_tryCells_5 rfl rfl ?_
      refine ev_icmp_lt (q := 9) (t := 18) dX0_tryCells_6 rfl (by decide) (fun c6 => ?_) (fun c6 => ?_)
      · exact absurd c6 (by decide)
      · refine ev_aload0 (q := 10) dX0_tryCells_9 rfl ?_
        refine ev_iload2 (q := 11) dX0_tryCells_10 rfl ?_
        refine ev_iload3 (q := 12) dX0_tryCells_11 rfl ?_
        refine ev_iload4 (q := 14) dX0_tryCells_12 rfl ?_
        refine ev_cV (K := kX0_tryCells) (pc := 14) (q := 17) (c_takeTrial (d := d) hW f g hK (fun k hk => hpr k hk) h0.1 b hB hx hy hz) dX0_tryCells_14 l_X0_45 (hW _ _ rfl) rfl rfl (Nat.le_of_ble_eq_true rfl) (by omega) rfl rfl (fun r S1 hp => ?_)
        obtain ⟨rfl, V', rfl, hp⟩ := hp
        exact ev_return dX0_tryCells_17 rfl ⟨rfl, V', rfl, hp⟩
  | succ k ih =>
    intro j hj V p b hlen hK hch hpr hnh hB hnn x y z hx hy hz
    have hj5 : j < 5 := by omega
    refine MT.of (by decide) rfl rfl (n := 2) rfl (ls := [some (.ref 18), some (.int (nI j)), some (.int x), some (.int y), some (.int z), none, none]) rfl ?_
    have hbit : ((hm f g 5 >>> (nI j &&& 31)) &&& 1 = 0) ↔ exB (f j) (g j) 16 = false := hm_bit hj5
    have hex := sIn_ex (v := f j) (hg j hj5)
    have hcj := hch j hj5
    have hpre : ∀ c : Int32, ∀ q, q < j → rowF (p ++ [c]) q = rowF p q := fun c q hq => th_nth_app (by omega)
    have hat : ∀ c : Int32, rowF (p ++ [c]) j = c := fun c => by
      show th_nth (p ++ [c]) j 0 = c
      rw [← hlen]
      exact th_nth_mid
    refine ev_iload1 (q := 1) dX0_tryCells_0 rfl ?_
    refine ev_if_lt (q := 4) (t := 9) dX0_tryCells_1 rfl (by decide) (fun c1 => ?_) (fun c1 => ?_)
    · exact absurd c1 (nI_pos (by omega))
    · refine ev_iload1 (q := 5) dX0_tryCells_4 rfl ?_
      refine ev_iconst (q := 6) (v := 5) dX0_tryCells_5 rfl rfl ?_
      refine ev_icmp_lt (q := 9) (t := 18) dX0_tryCells_6 rfl (by decide) (fun c6 => ?_) (fun c6 => ?_)
      · refine ev_aload0 (q := 19) dX0_tryCells_18 rfl ?_
        refine ev_getR (q := 22) dX0_tryCells_19 g_X0_9 (hW _ _ rfl) rfl rfl rfl ?_
        refine ev_iload1 (q := 23) dX0_tryCells_22 rfl ?_
        refine ev_iald (q := 24) dX0_tryCells_23 (hW _ _ rfl) rfl hj5 (by decide) rfl ?_
        show EV G l kX0_tryCells _ 0 0 24 _ [.int (V 19 j)] _ _
        rw [hcj]
        refine ev_if_ne (q := 27) (t := 39) dX0_tryCells_24 rfl (by decide) (fun c24 => ?_) (fun c24 => ?_)
        · have hheld : exB (f j) (g j) 16 = true := hex.mp c24
          have hnb : ¬ ((hm f g 5 >>> (nI j &&& 31)) &&& 1 = 0) := fun q => by rw [hbit.mp q] at hheld; cases hheld
          have eF : Frw f g j = ccl (f j) (g j) 16 := if_neg (by rw [hheld]; simp)
          obtain ⟨fi, la, s1, s2, s3, s4, s5⟩ := sp_nat (hg j hj5)
          obtain ⟨lo, w1, w2, w3, w4⟩ := low_bit (v := f j) s1 s2 s3 s4 s5 c24
          have hin : ∀ c, c < 32 → (tbit (sIn (g j - g j / 100 * 100) (g j / 100) (f j)) c = true ↔ (¬ (f j >>> (nI c &&& 31)) &&& 1 = 0 ∧ inSp (g j) c)) := fun c hc => by
            rw [s2, s1, tbit_sIn s3 s4 s5 hc, th_bit0 hc, inSp_nat s1 s2 s3 s4 (by omega)]
            cases tbit (f j) c <;> simp
          have hns : ∀ c, la < c → c < 1000 → ¬ inSp (g j) c := fun c h1 h2 q => by
            have := (inSp_nat s1 s2 s3 s4 h2).mp q
            omega
          have eL : ccl (f j) (g j) lo = [] := ccl_none lo (fun c hc q => by
            have := (hin c (by omega)).mpr q
            rw [w4 c hc] at this
            cases this)
          have eT : ccl (f j) (g j) (lo + 4) = ccl (f j) (g j) 16 := by
            rcases Nat.le_total (lo + 4) 16 with q | q
            · exact (ccl_up 16 q (fun c h1 h2 => hns c (by omega) (by omega))).symm
            · exact ccl_up (lo + 4) q (fun c h1 h2 => hns c (by omega) (by omega))
          have lp : ∀ i, i ≤ 4 → ∀ W : th_Vl, frF V W → (∀ q, q < 5 → (q < j ∨ exB (f q) (g q) 16 = false) → W 20 q = V 20 q) → CsR W (((ccl (f j) (g j) (lo + i)).flatMap (fun x => (trk (Frw f g) (j + 1) k).map (fun t => x :: t))).foldl (fun b t => cstep (hm f g 5) b (p ++ t)) b) → EV G l kX0_tryCells (d + 2 + (k + 1)) 0 0 54 [some (.ref 18), some (.int (nI j)), some (.int x), some (.int y), some (.int z), some (.int (nI lo)), some (.int (nI (lo + i)))] [] (N, SH, W) (PFt N SH V f g j ((trk (Frw f g) j (k + 1)).foldl (fun b t => cstep (hm f g 5) b (p ++ t)) b)) := by
            refine th_down 4 ?_ ?_
            · intro W hW1 hW2 hW3
              rw [eT] at hW3
              refine ev_iload6 (q := 56) dX0_tryCells_54 rfl ?_
              refine ev_iload5 (q := 58) dX0_tryCells_56 rfl ?_
              refine ev_iconst (q := 59) (v := 3) dX0_tryCells_58 rfl rfl ?_
              refine ev_iadd (q := 60) dX0_tryCells_59 rfl ?_
              refine ev_icmp_gt (q := 63) (t := 124) dX0_tryCells_60 rfl (by decide) (fun c60 => ?_) (fun c60 => ?_)
              · exact ev_return dX0_tryCells_124 rfl ⟨rfl, W, rfl, hW1, hW2, by rw [trk, eF]; exact hW3⟩
              · exact absurd (show nI lo + nI 3 < nI (lo + 4) by rw [nI_add]; exact nI_lt (by omega) (by omega)) c60
            · intro i hi ic W hW1 hW2 hW3
              refine ev_iload6 (q := 56) dX0_tryCells_54 rfl ?_
              refine ev_iload5 (q := 58) dX0_tryCells_56 rfl ?_
              refine ev_iconst (q := 59) (v := 3) dX0_tryCells_58 rfl rfl ?_
              refine ev_iadd (q := 60) dX0_tryCells_59 rfl ?_
              refine ev_icmp_gt (q := 63) (t := 124) dX0_tryCells_60 rfl (by decide) (fun c60 => ?_) (fun c60 => ?_)
              · exact absurd (show nI lo + nI 3 < nI (lo + i) from c60) (by rw [nI_add]; exact nI_nlt (by omega) (by omega))
              · refine ev_aload0 (q := 64) dX0_tryCells_63 rfl ?_
                refine ev_cV (K := kX0_tryCells) (pc := 64) (q := 67) (c_isPerfect (d := d) hW) dX0_tryCells_64 l_X0_55 (hW _ _ rfl) rfl rfl (Nat.le_of_ble_eq_true rfl) (by omega) rfl rfl (fun r S1 hp => ?_)
                rcases hp with ⟨rfl, ⟨hp64, rfl⟩ | ⟨hp64, rfl⟩⟩
                · refine ev_if_ne (q := 70) (t := 124) dX0_tryCells_67 rfl (by decide) (fun c67 => ?_) (fun c67 => ?_)
                  · obtain ⟨rr, hrr⟩ := ccl_pre (v := f j) (sp := g j) (n := lo + i) (lo + 4) (by omega)
                    rw [eT] at hrr
                    have hfin : (trk (Frw f g) j (k + 1)).foldl (fun b t => cstep (hm f g 5) b (p ++ t)) b = ((ccl (f j) (g j) (lo + i)).flatMap (fun x => (trk (Frw f g) (j + 1) k).map (fun t => x :: t))).foldl (fun b t => cstep (hm f g 5) b (p ++ t)) b := by
                      have hmem : ∀ t, t ∈ rr.flatMap (fun x => (trk (Frw f g) (j + 1) k).map (fun t => x :: t)) → t ∈ trk (Frw f g) j (k + 1) := fun t ht => by
                        rw [trk, eF, hrr, List.flatMap_append]
                        exact List.mem_append_right _ ht
                      have hb0 := hW3.1.symm.trans hp64
                      rw [trk, eF, hrr, List.flatMap_append, List.foldl_append]
                      generalize List.foldl (fun b t => cstep (hm f g 5) b (p ++ t)) b (List.flatMap (fun x => List.map (fun t => x :: t) (trk (Frw f g) (j + 1) k)) (ccl (f j) (g j) (lo + i))) = b1 at hb0
                      have hcp := cstep_perfect (h := hm f g 5) hb0 ((rr.flatMap (fun x => (trk (Frw f g) (j + 1) k).map (fun t => x :: t))).map (fun t => p ++ t)) (fun t ht => by
                        obtain ⟨u, hu, rfl⟩ := List.mem_map.mp ht
                        exact (hnn u (hmem u hu)).2)
                      rw [List.foldl_map] at hcp
                      exact hcp
                    rw [hfin]
                    exact ev_return dX0_tryCells_124 rfl ⟨rfl, W, rfl, hW1, hW2, hW3⟩
                  · exact absurd c67 (by decide)
                · refine ev_if_ne (q := 70) (t := 124) dX0_tryCells_67 rfl (by decide) (fun c67 => ?_) (fun c67 => ?_)
                  · exact absurd rfl c67
                  · refine ev_aload0 (q := 71) dX0_tryCells_70 rfl ?_
                    refine ev_getR (q := 74) dX0_tryCells_71 g_X0_9 (hW _ _ rfl) rfl rfl rfl ?_
                    refine ev_iload1 (q := 75) dX0_tryCells_74 rfl ?_
                    refine ev_iald (q := 76) dX0_tryCells_75 (hW _ _ rfl) rfl hj5 (by decide) rfl ?_
                    show EV G l kX0_tryCells _ 0 0 76 _ [.int (W 19 j)] _ _
                    rw [hW1.ch hch j hj5]
                    refine ev_iload6 (q := 78) dX0_tryCells_76 rfl ?_
                    refine ev_ishr (q := 79) dX0_tryCells_78 rfl ?_
                    refine ev_iconst (q := 80) (v := 1) dX0_tryCells_79 rfl rfl ?_
                    refine ev_iand (q := 81) dX0_tryCells_80 rfl ?_
                    refine ev_iconst (q := 82) (v := 1) dX0_tryCells_81 rfl rfl ?_
                    have hc32 : lo + i < 32 := by omega
                    refine ev_icmp_ne (q := 85) (t := 118) dX0_tryCells_82 rfl (by decide) (fun c82 => ?_) (fun c82 => ?_)
                    · have hn : ¬ (¬ (f j >>> (nI (lo + i) &&& 31)) &&& 1 = 0 ∧ inSp (g j) (lo + i)) := fun q => c82 ((th_bit1 hc32).mpr ((hin _ hc32).mpr q))
                      refine ev_iinc6 (q := 121) dX0_tryCells_118 rfl (by decide) rfl (nI_succ (lo + i)).symm ?_
                      refine ev_goto (q := 54) dX0_tryCells_121 (by decide) ?_
                      exact ic W hW1 hW2 (by rw [← Nat.add_assoc, ccl, if_neg hn]; exact hW3)
                    · have hy1 := (hin _ hc32).mp ((th_bit1 hc32).mp c82)
                      have hmem : nI (lo + i) ∈ Frw f g j := by
                        obtain ⟨rr, hrr⟩ := ccl_pre (v := f j) (sp := g j) (n := lo + i + 1) (lo + 4) (by omega)
                        rw [eF, ← eT, hrr, ccl, if_pos hy1]
                        exact List.mem_append_left _ (List.mem_append_right _ (List.mem_singleton.mpr rfl))
                      have hX : frF V (th_w W 20 j (nI (lo + i))) := hW1.w (Or.inl rfl)
                      have hXr : ∀ q, q < 5 → (q < j ∨ exB (f q) (g q) 16 = false) → (th_w W 20 j (nI (lo + i))) 20 q = V 20 q := fun q h5 hq => (th_w_j (fun e => by
                        rcases hq with hq | hq
                        · omega
                        · rw [e, hheld] at hq; cases hq)).trans (hW2 q h5 hq)
                      have hXB : CsR (th_w W 20 j (nI (lo + i))) _ := hW3
                      have hXj : (th_w W 20 j (nI (lo + i))) 20 j = nI (lo + i) := by rw [th_w_if, if_pos ⟨rfl, rfl⟩]
                      refine ev_aload0 (q := 86) dX0_tryCells_85 rfl ?_
                      refine ev_getR (q := 89) dX0_tryCells_86 g_X0_15 (hW _ _ rfl) rfl rfl rfl ?_
                      refine ev_iload1 (q := 90) dX0_tryCells_89 rfl ?_
                      refine ev_iload6 (q := 92) dX0_tryCells_90 rfl ?_
                      refine ev_iast (q := 93) dX0_tryCells_92 (hW _ _ rfl) rfl hj5 (by decide) rfl ?_
                      refine ev_aload0 (q := 94) dX0_tryCells_93 rfl ?_
                      refine ev_iload1 (q := 95) dX0_tryCells_94 rfl ?_
                      refine ev_iconst (q := 96) (v := 1) dX0_tryCells_95 rfl rfl ?_
                      refine ev_iadd (q := 97) dX0_tryCells_96 rfl ?_
                      refine ev_iload2 (q := 98) dX0_tryCells_97 rfl ?_
                      refine ev_iload6 (q := 100) dX0_tryCells_98 rfl ?_
                      refine ev_iadd (q := 101) dX0_tryCells_100 rfl ?_
                      refine ev_iload3 (q := 102) dX0_tryCells_101 rfl ?_
                      refine ev_iload6 (q := 104) dX0_tryCells_102 rfl ?_
                      refine ev_iload6 (q := 106) dX0_tryCells_104 rfl ?_
                      refine ev_imul (q := 107) dX0_tryCells_106 rfl ?_
                      refine ev_iadd (q := 108) dX0_tryCells_107 rfl ?_
                      refine ev_iload4 (q := 110) dX0_tryCells_108 rfl ?_
                      refine ev_iload1 (q := 111) dX0_tryCells_110 rfl ?_
                      refine ev_iload6 (q := 113) dX0_tryCells_111 rfl ?_
                      refine ev_imul (q := 114) dX0_tryCells_113 rfl ?_
                      refine ev_iadd (q := 115) dX0_tryCells_114 rfl ?_
                      show EV G l kX0_tryCells _ 0 0 115 _ _ (N, SH, th_w W 20 j (nI (lo + i))) _
                      generalize th_w W 20 j (nI (lo + i)) = X at hX hXr hXB hXj ⊢
                      have ems : ms (hm f g 5) (rowF (p ++ [nI (lo + i)])) (j + 1) = ((ms (hm f g 5) (rowF p) j).1 + 1, (ms (hm f g 5) (rowF p) j).2.1 + nI j, (ms (hm f g 5) (rowF p) j).2.2.1 + nI (lo + i), (ms (hm f g 5) (rowF p) j).2.2.2.1 + nI j * nI j, (ms (hm f g 5) (rowF p) j).2.2.2.2.1 + nI j * nI (lo + i), (ms (hm f g 5) (rowF p) j).2.2.2.2.2 + nI (lo + i) * nI (lo + i)) := by
                        rw [ms, if_neg hnb, hat, ms_f j (hpre (nI (lo + i)))]
                      have hmt := ih (j + 1) (by omega) X (p ++ [nI (lo + i)]) _ (by simp [hlen]) (hX.K hK) (hX.ch hch) (fun q hq => by
                        rcases Nat.lt_or_ge q j with w | w
                        · rw [hXr q (by omega) (Or.inl w), hpr q w, th_nth_app (by omega)]
                        · rw [show q = j by omega, hXj, ← hlen, th_nth_mid]) (fun q h5 hq => (hXr q h5 (Or.inr hq)).trans (hnh q h5 hq)) hXB (fun t ht => by
                        have := hnn (nI (lo + i) :: t) (trk_cons hmem ht)
                        rw [List.append_assoc]
                        exact this) (x + nI (lo + i)) (y + nI (lo + i) * nI (lo + i)) (z + nI j * nI (lo + i)) (by rw [ems, hx]) (by rw [ems, hy]) (by rw [ems, hz])
                      rw [nI_succ] at hmt
                      refine ev_cV (K := kX0_tryCells) (pc := 115) (q := 118) (hmt) dX0_tryCells_115 l_X0_41 (hW _ _ rfl) rfl rfl (Nat.le_of_ble_eq_true rfl) (Nat.le_refl _) rfl rfl (fun r S1 hp => ?_)
                      obtain ⟨rfl, Y, rfl, hY1, hY2, hY3⟩ := hp
                      refine ev_iinc6 (q := 121) dX0_tryCells_118 rfl (by decide) rfl (nI_succ (lo + i)).symm ?_
                      refine ev_goto (q := 54) dX0_tryCells_121 (by decide) ?_
                      refine ic Y (hX.tr hY1) (fun q h5 hq => (hY2 q h5 (by rcases hq with hq | hq; exact Or.inl (by omega); exact Or.inr hq)).trans (hXr q h5 hq)) ?_
                      rw [← Nat.add_assoc, ccl, if_pos hy1, List.flatMap_append, List.foldl_append]
                      have e1 : ([nI (lo + i)].flatMap (fun x => (trk (Frw f g) (j + 1) k).map (fun t => x :: t))) = (trk (Frw f g) (j + 1) k).map (fun t => nI (lo + i) :: t) := by simp
                      rw [e1, List.foldl_map]
                      have e2 : (fun (b : th_c2) (t : List Int32) => cstep (hm f g 5) b (p ++ [nI (lo + i)] ++ t)) = (fun (b : th_c2) (t : List Int32) => cstep (hm f g 5) b (p ++ nI (lo + i) :: t)) := by
                        funext b t
                        rw [List.append_assoc]
                        rfl
                      rw [e2] at hY3
                      exact hY3
          refine ev_aload0 (q := 40) dX0_tryCells_39 rfl ?_
          refine ev_getR (q := 43) dX0_tryCells_40 g_X0_9 (hW _ _ rfl) rfl rfl rfl ?_
          refine ev_iload1 (q := 44) dX0_tryCells_43 rfl ?_
          refine ev_iald (q := 45) dX0_tryCells_44 (hW _ _ rfl) rfl hj5 (by decide) rfl ?_
          show EV G l kX0_tryCells _ 0 0 45 _ [.int (V 19 j)] _ _
          rw [hcj]
          refine ev_cS (K := kX0_tryCells) (pc := 45) (q := 48) (j_ntz (d := d) _ _) dX0_tryCells_45 l_X0_49 rfl (Nat.le_of_ble_eq_true rfl) (by omega) rfl rfl (fun r S1 hp => ?_)
          obtain ⟨rfl, rfl⟩ := hp
          rw [w1]
          refine ev_istore5 (q := 50) dX0_tryCells_48 rfl (by decide) rfl ?_
          refine ev_iload5 (q := 52) dX0_tryCells_50 rfl ?_
          refine ev_istore6 (q := 54) dX0_tryCells_52 rfl (by decide) rfl ?_
          exact lp 0 (by decide) V frF.rf (fun _ _ _ => rfl) (by rw [show ccl (f j) (g j) (lo + 0) = [] from eL]; exact hB)
        · have hnot : exB (f j) (g j) 16 = false := by
            cases hb : exB (f j) (g j) 16
            · rfl
            · exact absurd c24 (hex.mpr hb)
          have eF : Frw f g j = [-1] := if_pos hnot
          have ems : ms (hm f g 5) (rowF (p ++ [-1])) (j + 1) = ms (hm f g 5) (rowF p) j := by
            rw [ms, if_pos (hbit.mpr hnot), ms_f j (hpre (-1))]
          have hmt := ih (j + 1) (by omega) V (p ++ [-1]) b (by simp [hlen]) hK hch (fun q hq => by
            rcases Nat.lt_or_ge q j with w | w
            · rw [hpr q w, th_nth_app (by omega)]
            · rw [show q = j by omega, hnh j hj5 hnot, ← hlen, th_nth_mid]) hnh hB (fun t ht => by
            have := hnn (-1 :: t) (trk_cons (by rw [eF]; exact List.mem_singleton.mpr rfl) ht)
            rw [List.append_assoc]
            exact this) x y z (by rw [ems, hx]) (by rw [ems, hy]) (by rw [ems, hz])
          rw [nI_succ] at hmt
          refine ev_aload0 (q := 28) dX0_tryCells_27 rfl ?_
          refine ev_iload1 (q := 29) dX0_tryCells_28 rfl ?_
          refine ev_iconst (q := 30) (v := 1) dX0_tryCells_29 rfl rfl ?_
          refine ev_iadd (q := 31) dX0_tryCells_30 rfl ?_
          refine ev_iload2 (q := 32) dX0_tryCells_31 rfl ?_
          refine ev_iload3 (q := 33) dX0_tryCells_32 rfl ?_
          refine ev_iload4 (q := 35) dX0_tryCells_33 rfl ?_
          refine ev_cV (K := kX0_tryCells) (pc := 35) (q := 38) (hmt) dX0_tryCells_35 l_X0_41 (hW _ _ rfl) rfl rfl (Nat.le_of_ble_eq_true rfl) (Nat.le_refl _) rfl rfl (fun r S1 hp => ?_)
          obtain ⟨rfl, Y, rfl, hY1, hY2, hY3⟩ := hp
          have hfin : CsR Y ((trk (Frw f g) j (k + 1)).foldl (fun b t => cstep (hm f g 5) b (p ++ t)) b) := by
            rw [trk, eF]
            have e1 : ([-1].flatMap (fun x : Int32 => (trk (Frw f g) (j + 1) k).map (fun t => x :: t))) = (trk (Frw f g) (j + 1) k).map (fun t => (-1 : Int32) :: t) := by simp
            rw [e1, List.foldl_map]
            have e2 : (fun (b : th_c2) (t : List Int32) => cstep (hm f g 5) b (p ++ [-1] ++ t)) = (fun (b : th_c2) (t : List Int32) => cstep (hm f g 5) b (p ++ -1 :: t)) := by
              funext b t
              rw [List.append_assoc]
              rfl
            rw [e2] at hY3
            exact hY3
          exact ev_return dX0_tryCells_38 rfl ⟨rfl, Y, rfl, hY1, fun q h5 hq => hY2 q h5 (by rcases hq with hq | hq; exact Or.inl (by omega); exact Or.inr hq), hfin⟩
      · exact absurd (nI_lt hj5 (by decide)) c6
end C11
