/-! the class: its sheets -/
theorem wC_sh {SH : Nat → Option th_K0} (hW : wC SH) {r : Nat} (hr : r < 3) : ∃ f : Nat → Option Nat, SH (6 + 2 * r) = some (.inr (7, f)) ∧ f 0 = some (7 + 2 * r) ∧ SH (7 + 2 * r) = some (.inl (0, 20, th_no)) := by
  have : r = 0 ∨ r = 1 ∨ r = 2 := by omega
  rcases this with rfl | rfl | rfl
  · exact ⟨_, hW _ _ rfl, rfl, hW _ _ rfl⟩
  · exact ⟨_, hW _ _ rfl, rfl, hW _ _ rfl⟩
  · exact ⟨_, hW _ _ rfl, rfl, hW _ _ rfl⟩
theorem rf_shA {r : Nat} (hr : r < 3) : rf_sheetsA r = some (6 + 2 * r) := by
  have : r = 0 ∨ r = 1 ∨ r = 2 := by omega
  rcases this with rfl | rfl | rfl <;> rfl
theorem shR.c' {V V' s s' : th_Vl} {r : Nat} (h : shR V s r) (hz : (s 38 r).toInt ≤ 20) (e1 : V' (6 + 2 * r) = V (6 + 2 * r)) (e2 : V' (7 + 2 * r) = V (7 + 2 * r)) (e3 : s' 37 r = s 37 r) (e4 : s' 38 r = s 38 r) (e5 : ∀ k, k < 20 → s' 39 (20 * r + k) = s 39 (20 * r + k)) : shR V' s' r := by
  unfold shR at h ⊢
  rw [e1, e2, e3, e4]
  rcases h with h | ⟨h1, h2, h3, h4, h5⟩
  · exact Or.inl h
  · refine Or.inr ⟨h1, h2, h3, h4, fun k hk => ?_⟩
    have := th_ixI h1
    rw [h5 k hk, e5 k (by omega)]
abbrev hasS (x i : Int32) : Prop := 0 ≤ i.toInt ∧ i.toInt < x.toInt ∧ i.toInt < 20
def putS (V : th_Vl) (a b : Nat) (i v : Int32) : th_Vl := if hasS (V a 3) i then th_w V b (ix i) (cst (V a 2) v) else V
/-- a sheet alone changes -/
theorem RN.sh {V V' s s' : th_Vl} {N R L r : Nat} {SH : Nat → Option th_K0} {rd ld : Nat → Nat} {eR eL : Nat} (hS : RS N SH V R L rd ld eR eL) (h : RN V s R L rd ld) (hz : bSz s) (hr : r < 3) (hV : ∀ a, a ≠ 6 + 2 * r → a ≠ 7 + 2 * r → V' a = V a) (hs : ∀ a, a ≠ 37 → a ≠ 38 → a ≠ 39 → s' a = s a) (h1 : ∀ k, k ≠ r → s' 37 k = s 37 k) (h2 : ∀ k, k ≠ r → s' 38 k = s 38 k) (h3 : ∀ k, k < 20 * r ∨ 20 * r + 20 ≤ k → s' 39 k = s 39 k) (hN : shR V' s' r) : RN V' s' R L rd ld := by
  obtain ⟨g1, g2, g3, g4, g5, g6, g7⟩ := h
  obtain ⟨-, -, -, -, -, -, -, -, k1, -, k2, -⟩ := hS
  have k : ∀ a, 12 ≤ a ∨ a < 6 → V' a = V a := fun a ha => hV a (by omega) (by omega)
  have ks : ∀ a, 40 ≤ a ∨ a < 37 → s' a = s a := fun a ha => hs a (by omega) (by omega) (by omega)
  refine ⟨fun q hq => ?_, g2.c (k _ (by omega)) (k _ (by omega)) (k _ (by omega)) (ks _ (by omega)) (ks _ (by omega)) (ks _ (by omega)), ?_, g4.c (k _ (by omega)) (k _ (by omega)) (k _ (by omega)) (ks _ (by omega)) (ks _ (by omega)) (ks _ (by omega)), g5.c (k _ (by omega)) (k _ (by omega)) (by rw [ks 36 (by omega)]) (ks _ (by omega)), fun j hj => ?_, fun j hj => ?_⟩
  · by_cases e : q = r
    · rw [e]; exact hN
    · exact (g1 q hq).c' (hz q hq) (hV _ (by omega) (by omega)) (hV _ (by omega) (by omega)) (h1 q e) (h2 q e) (fun k hk => h3 _ (by omega))
  · unfold eqF at g3 ⊢
    rw [k 4 (by omega), k 31 (by omega), ks 36 (by omega)]
    exact g3
  · have := (k1 j hj).1
    exact (g6 j hj).c (k _ (by omega)) (k _ (by omega)) (k _ (by omega)) (ks _ (by omega)) (ks _ (by omega))
  · have := (k2 j hj).1
    exact (g7 j hj).c (k _ (by omega)) (k _ (by omega)) (k _ (by omega)) (ks _ (by omega)) (ks _ (by omega)) (ks _ (by omega)) (ks _ (by omega)) (ks _ (by omega)) (ks _ (by omega)) (ks _ (by omega)) (ks _ (by omega))
theorem CP.no {N : Nat} {SH : Nat → Option th_K0} {V s s' : th_Vl} {av v : Int32} {rd ld : Nat → Nat} {eR eL : Nat} (hS : RS N SH V (ix (s 36 6)) (ix (s 36 11)) rd ld eR eL) (hN : RN V s (ix (s 36 6)) (ix (s 36 11)) rd ld) (hn : s' = s) (h1 : av = v) : CP N SH V av s' (some (.int v)) (N, SH, V) := by
  rw [hn]
  exact CP.same hS hN V frS.rf h1
section C2
variable {G : th_G} {l : Launch} {d : Nat} {N : Nat} {SH : Nat → Option th_K0} {V s : th_Vl}
theorem c_sheetAt (hW : wC SH) (r : Int32) : MT G l yX9_sheetAt kX9_sheetAt d 0 0 [.ref 4, .int r] (N, SH, V) (fun q S' => S' = (N, SH, V) ∧ ((¬ inR r 0 2 ∧ q = some .null) ∨ (inR r 0 2 ∧ q = some (.ref (6 + 2 * ix r))))) := by
  refine MT.of (by decide) rfl rfl (n := 0) rfl (ls := [some (.ref 4), some (.int r)]) rfl ?_
  have e0 : (0 : Int32).toInt = 0 := by decide
  have e3 : (3 : Int32).toInt = 3 := by decide
  refine ev_iload1 (q := 1) dX9_sheetAt_0 rfl ?_
  refine ev_if_lt (q := 4) (t := 9) dX9_sheetAt_1 rfl (by decide) (fun c1 => ?_) (fun c1 => ?_)
  · refine ev_null (q := 10) dX9_sheetAt_9 rfl ?_
    refine ev_goto (q := 19) dX9_sheetAt_10 (by decide) ?_
    exact ev_areturnN dX9_sheetAt_19 rfl (Or.inl ⟨_, rfl⟩) ⟨rfl, Or.inl ⟨fun h => by have := i_lt.mp c1; have := h.1; omega, rfl⟩⟩
  · refine ev_iload1 (q := 5) dX9_sheetAt_4 rfl ?_
    refine ev_iconst (q := 6) (v := 3) dX9_sheetAt_5 rfl rfl ?_
    refine ev_icmp_lt (q := 9) (t := 13) dX9_sheetAt_6 rfl (by decide) (fun c6 => ?_) (fun c6 => ?_)
    · have hr : inR r 0 2 := by have := i_nlt c1; have := i_lt.mp c6; constructor <;> omega
      refine ev_aload0 (q := 14) dX9_sheetAt_13 rfl ?_
      refine ev_getR (q := 17) dX9_sheetAt_14 g_X9_10 (hW _ _ rfl) rfl rfl rfl ?_
      refine ev_iload1 (q := 18) dX9_sheetAt_17 rfl ?_
      refine ev_aald (q := 19) dX9_sheetAt_18 (hW _ _ rfl) (by decide) (by decide) (th_self hr.1) (th_lt hr.1 (by have := hr.2; omega)) (by decide) (rf_shA (th_lt hr.1 (by have := hr.2; omega))) rfl ?_
      exact ev_areturn dX9_sheetAt_19 rfl (Or.inl ⟨_, rfl⟩) ⟨rfl, Or.inr ⟨hr, rfl⟩⟩
    · refine ev_null (q := 10) dX9_sheetAt_9 rfl ?_
      refine ev_goto (q := 19) dX9_sheetAt_10 (by decide) ?_
      exact ev_areturnN dX9_sheetAt_19 rfl (Or.inl ⟨_, rfl⟩) ⟨rfl, Or.inl ⟨fun h => by have := i_nlt c6; have := h.2; omega, rfl⟩⟩
theorem c_has {a : Nat} {f : Nat → Option Nat} (ha : SH a = some (.inr (7, f))) (i : Int32) : MT G l yX7_has kX7_has d 0 0 [.ref a, .int i] (N, SH, V) (th_bo (hasS (V a 3) i) (N, SH, V)) := by
  refine MT.of (by decide) rfl rfl (n := 0) rfl (ls := [some (.ref a), some (.int i)]) rfl ?_
  have e20 : (20 : Int32).toInt = 20 := by decide
  have e0 : (0 : Int32).toInt = 0 := by decide
  refine ev_iload1 (q := 1) dX7_has_0 rfl ?_
  refine ev_if_lt (q := 4) (t := 22) dX7_has_1 rfl (by decide) (fun c1 => ?_) (fun c1 => ?_)
  · refine ev_iconst (q := 23) (v := 0) dX7_has_22 rfl rfl ?_
    exact ev_ireturn dX7_has_23 rfl rfl ⟨rfl, Or.inr ⟨fun h => by have := i_lt.mp c1; have := h.1; omega, rfl⟩⟩
  · refine ev_iload1 (q := 5) dX7_has_4 rfl ?_
    refine ev_aload0 (q := 6) dX7_has_5 rfl ?_
    refine ev_getI (q := 9) dX7_has_6 g_X7_23 ha rfl rfl ?_
    refine ev_icmp_ge (q := 12) (t := 22) dX7_has_9 rfl (by decide) (fun c9 => ?_) (fun c9 => ?_)
    · refine ev_iconst (q := 23) (v := 0) dX7_has_22 rfl rfl ?_
      exact ev_ireturn dX7_has_23 rfl rfl ⟨rfl, Or.inr ⟨fun h => by have : (V a 3).toInt ≤ i.toInt := i_le.mp c9; have := h.2.1; omega, rfl⟩⟩
    · refine ev_iload1 (q := 13) dX7_has_12 rfl ?_
      refine ev_bipush (q := 15) (v := 20) dX7_has_13 rfl rfl ?_
      refine ev_icmp_ge (q := 18) (t := 22) dX7_has_15 rfl (by decide) (fun c15 => ?_) (fun c15 => ?_)
      · refine ev_iconst (q := 23) (v := 0) dX7_has_22 rfl rfl ?_
        exact ev_ireturn dX7_has_23 rfl rfl ⟨rfl, Or.inr ⟨fun h => by have := i_le.mp c15; have := h.2.2; omega, rfl⟩⟩
      · refine ev_iconst (q := 19) (v := 1) dX7_has_18 rfl rfl ?_
        refine ev_goto (q := 23) dX7_has_19 (by decide) ?_
        exact ev_ireturn dX7_has_23 rfl rfl ⟨rfl, Or.inl ⟨by have := i_nlt c1; have : i.toInt < (V a 3).toInt := i_nle c9; have := i_nle c15; refine ⟨?_, ?_, ?_⟩ <;> omega, rfl⟩⟩
theorem c_numberAt {a b : Nat} {f : Nat → Option Nat} (ha : SH a = some (.inr (7, f))) (hf : f 0 = some b) (hb : SH b = some (.inl (0, 20, th_no))) (i : Int32) : MT G l yX7_numberAt kX7_numberAt (d + 1) 0 0 [.ref a, .int i] (N, SH, V) (th_is (if hasS (V a 3) i then V b (ix i) else 0) (N, SH, V)) := by
  refine MT.of (by decide) rfl rfl (n := 0) rfl (ls := [some (.ref a), some (.int i)]) rfl ?_
  refine ev_aload0 (q := 1) dX7_numberAt_0 rfl ?_
  refine ev_iload1 (q := 2) dX7_numberAt_1 rfl ?_
  refine ev_cV (K := kX7_numberAt) (pc := 2) (q := 5) (c_has ha _) dX7_numberAt_2 l_X7_26 ha rfl rfl (Nat.le_of_ble_eq_true rfl) (Nat.le_refl _) rfl rfl (fun r S1 hp => ?_)
  rcases hp with ⟨rfl, ⟨hp2, rfl⟩ | ⟨hp2, rfl⟩⟩
  · refine ev_if_eq (q := 8) (t := 17) dX7_numberAt_5 rfl (by decide) (fun c5 => ?_) (fun c5 => ?_)
    · exact absurd c5 (by decide)
    · refine ev_aload0 (q := 9) dX7_numberAt_8 rfl ?_
      refine ev_getR (q := 12) dX7_numberAt_9 g_X7_9 ha rfl hf rfl ?_
      refine ev_iload1 (q := 13) dX7_numberAt_12 rfl ?_
      refine ev_iald (q := 14) dX7_numberAt_13 hb (th_self hp2.1) (th_lt hp2.1 hp2.2.2) (by decide) rfl ?_
      refine ev_goto (q := 18) dX7_numberAt_14 (by decide) ?_
      exact ev_ireturn dX7_numberAt_18 rfl rfl ⟨congrArg (fun z => some (Value.int z)) (if_pos hp2).symm, rfl⟩
  · refine ev_if_eq (q := 8) (t := 17) dX7_numberAt_5 rfl (by decide) (fun c5 => ?_) (fun c5 => ?_)
    · refine ev_iconst (q := 18) (v := 0) dX7_numberAt_17 rfl rfl ?_
      exact ev_ireturn dX7_numberAt_18 rfl rfl ⟨congrArg (fun z => some (Value.int z)) (if_neg hp2).symm, rfl⟩
    · exact absurd c5 (by decide)
theorem c_put {a b : Nat} {f : Nat → Option Nat} (ha : SH a = some (.inr (7, f))) (hf : f 0 = some b) (hb : SH b = some (.inl (0, 20, th_no))) (i v : Int32) : MT G l yX7_put kX7_put (d + 1) 0 0 [.ref a, .int i, .int v] (N, SH, V) (fun r S' => r = none ∧ S' = (N, SH, putS V a b i v)) := by
  refine MT.of (by decide) rfl rfl (n := 0) rfl (ls := [some (.ref a), some (.int i), some (.int v)]) rfl ?_
  have key : hasS (V a 3) i → putS V a b i v = th_w V b (ix i) (cst (V a 2) v) := fun h => if_pos h
  refine ev_aload0 (q := 1) dX7_put_0 rfl ?_
  refine ev_iload1 (q := 2) dX7_put_1 rfl ?_
  refine ev_cV (K := kX7_put) (pc := 2) (q := 5) (c_has ha _) dX7_put_2 l_X7_26 ha rfl rfl (Nat.le_of_ble_eq_true rfl) (Nat.le_refl _) rfl rfl (fun r S1 hp => ?_)
  rcases hp with ⟨rfl, ⟨hp2, rfl⟩ | ⟨hp2, rfl⟩⟩
  · refine ev_if_ne (q := 8) (t := 9) dX7_put_5 rfl (by decide) (fun c5 => ?_) (fun c5 => ?_)
    · refine ev_aload0 (q := 10) dX7_put_9 rfl ?_
      refine ev_getI (q := 13) dX7_put_10 g_X7_19 ha rfl rfl ?_
      refine ev_if_ne (q := 16) (t := 27) dX7_put_13 rfl (by decide) (fun c13 => ?_) (fun c13 => ?_)
      · refine ev_aload0 (q := 28) dX7_put_27 rfl ?_
        refine ev_getI (q := 31) dX7_put_28 g_X7_19 ha rfl rfl ?_
        refine ev_iconst (q := 32) (v := 1) dX7_put_31 rfl rfl ?_
        refine ev_icmp_ne (q := 35) (t := 46) dX7_put_32 rfl (by decide) (fun c32 => ?_) (fun c32 => ?_)
        · refine ev_aload0 (q := 47) dX7_put_46 rfl ?_
          refine ev_getR (q := 50) dX7_put_47 g_X7_9 ha rfl hf rfl ?_
          refine ev_iload1 (q := 51) dX7_put_50 rfl ?_
          refine ev_iload2 (q := 52) dX7_put_51 rfl ?_
          refine ev_iast (q := 53) dX7_put_52 hb (th_self hp2.1) (th_lt hp2.1 hp2.2.2) (by decide) rfl ?_
          exact ev_return dX7_put_53 rfl ⟨rfl, by rw [key hp2, cst, if_neg c13, if_neg c32]; rfl⟩
        · refine ev_aload0 (q := 36) dX7_put_35 rfl ?_
          refine ev_getR (q := 39) dX7_put_36 g_X7_9 ha rfl hf rfl ?_
          refine ev_iload1 (q := 40) dX7_put_39 rfl ?_
          refine ev_iload2 (q := 41) dX7_put_40 rfl ?_
          refine ev_i2s (q := 42) dX7_put_41 rfl ?_
          refine ev_iast (q := 43) dX7_put_42 hb (th_self hp2.1) (th_lt hp2.1 hp2.2.2) (by decide) rfl ?_
          refine ev_goto (q := 53) dX7_put_43 (by decide) ?_
          exact ev_return dX7_put_53 rfl ⟨rfl, by rw [key hp2, cst, if_neg c13, if_pos c32]; rfl⟩
      · refine ev_aload0 (q := 17) dX7_put_16 rfl ?_
        refine ev_getR (q := 20) dX7_put_17 g_X7_9 ha rfl hf rfl ?_
        refine ev_iload1 (q := 21) dX7_put_20 rfl ?_
        refine ev_iload2 (q := 22) dX7_put_21 rfl ?_
        refine ev_i2b (q := 23) dX7_put_22 rfl ?_
        refine ev_iast (q := 24) dX7_put_23 hb (th_self hp2.1) (th_lt hp2.1 hp2.2.2) (by decide) rfl ?_
        refine ev_goto (q := 53) dX7_put_24 (by decide) ?_
        exact ev_return dX7_put_53 rfl ⟨rfl, by rw [key hp2, cst, if_pos c13]; rfl⟩
    · exact absurd c5 (by decide)
  · refine ev_if_ne (q := 8) (t := 9) dX7_put_5 rfl (by decide) (fun c5 => ?_) (fun c5 => ?_)
    · exact absurd c5 (by decide)
    · exact ev_return dX7_put_8 rfl ⟨rfl, by rw [putS, if_neg hp2]⟩
theorem c_lay {a b : Nat} {f : Nat → Option Nat} (ha : SH a = some (.inr (7, f))) (hf : f 0 = some b) (hb : SH b = some (.inl (0, 20, th_no))) (k m : Int32) : MT G l yX7_lay kX7_lay d 0 0 [.ref a, .int k, .int m] (N, SH, V) (fun r S' => r = none ∧ S' = (N, SH, th_seg (th_w (th_w (th_w V a 1 1) a 2 k) a 3 m) b 0 20 (fun _ => 0))) := by
  refine MT.of (by decide) rfl rfl (n := 1) rfl (ls := [some (.ref a), some (.int k), some (.int m), none]) rfl ?_
  have lp : ∀ W : th_Vl, ∀ i, i ≤ 20 → EV G l kX7_lay d 0 0 17 [some (.ref a), some (.int k), some (.int m), some (.int (nI i))] [] (N, SH, th_seg W b 0 i (fun _ => 0)) (fun r S' => r = none ∧ S' = (N, SH, th_seg W b 0 20 (fun _ => 0))) := by
    intro W
    refine th_down 20 ?_ ?_
    · refine ev_iload3 (q := 18) dX7_lay_17 rfl ?_
      refine ev_bipush (q := 20) (v := 20) dX7_lay_18 rfl rfl ?_
      refine ev_icmp_ge (q := 23) (t := 36) dX7_lay_20 rfl (by decide) (fun c => ?_) (fun c => ?_)
      · exact ev_return dX7_lay_36 rfl ⟨rfl, rfl⟩
      · exact absurd (by decide) c
    · intro i hi ih
      rw [← th_seg_s0] at ih
      refine ev_iload3 (q := 18) dX7_lay_17 rfl ?_
      refine ev_bipush (q := 20) (v := 20) dX7_lay_18 rfl rfl ?_
      refine ev_icmp_ge (q := 23) (t := 36) dX7_lay_20 rfl (by decide) (fun c => ?_) (fun c => ?_)
      · exact absurd c (nI_ge hi (by decide))
      · refine ev_aload0 (q := 24) dX7_lay_23 rfl ?_
        refine ev_getR (q := 27) dX7_lay_24 g_X7_9 ha rfl hf rfl ?_
        refine ev_iload3 (q := 28) dX7_lay_27 rfl ?_
        refine ev_iconst (q := 29) (v := 0) dX7_lay_28 rfl rfl ?_
        refine ev_iast (q := 30) dX7_lay_29 hb rfl hi (by decide) rfl ?_
        refine ev_iinc3 (q := 33) dX7_lay_30 rfl (by decide) rfl (nI_succ i).symm ?_
        refine ev_goto (q := 17) dX7_lay_33 (by decide) ?_
        exact ih
  refine ev_aload0 (q := 1) dX7_lay_0 rfl ?_
  refine ev_iconst (q := 2) (v := 1) dX7_lay_1 rfl rfl ?_
  refine ev_putI (q := 5) dX7_lay_2 (p_X7_15 _) ha rfl rfl rfl rfl ?_
  refine ev_aload0 (q := 6) dX7_lay_5 rfl ?_
  refine ev_iload1 (q := 7) dX7_lay_6 rfl ?_
  refine ev_putI (q := 10) dX7_lay_7 (p_X7_19 _) ha rfl rfl rfl rfl ?_
  refine ev_aload0 (q := 11) dX7_lay_10 rfl ?_
  refine ev_iload2 (q := 12) dX7_lay_11 rfl ?_
  refine ev_putI (q := 15) dX7_lay_12 (p_X7_23 _) ha rfl rfl rfl rfl ?_
  refine ev_iconst (q := 16) (v := 0) dX7_lay_15 rfl rfl ?_
  refine ev_istore3 (q := 17) dX7_lay_16 rfl (by decide) rfl ?_
  have h := lp (th_w (th_w (th_w V a 1 1) a 2 k) a 3 m) 0 (by decide)
  rw [th_seg_0] at h
  exact h
theorem c_lose (hC : CR N SH V s) (hz : bSz s) (r : Int32) : MT G l yX9_lose kX9_lose (d + 1) 0 0 [.ref 4, .int r] (N, SH, V) (CP N SH V (a_lose s r) (n_lose s r)) := by
  refine MT.of (by decide) rfl rfl (n := 1) rfl (ls := [some (.ref 4), some (.int r), none]) rfl ?_
  obtain ⟨rd, ld, eR, eL, hS, hN⟩ := hC
  have hW : wC SH := hS.1
  refine ev_aload0 (q := 1) dX9_lose_0 rfl ?_
  refine ev_iload1 (q := 2) dX9_lose_1 rfl ?_
  refine ev_cV (K := kX9_lose) (pc := 2) (q := 5) (c_sheetAt hW r) dX9_lose_2 l_X9_67 (hW _ _ rfl) rfl rfl (Nat.le_of_ble_eq_true rfl) (Nat.le_refl _) rfl rfl (fun r S1 hp => ?_)
  rcases hp with ⟨rfl, ⟨h0, rfl⟩ | ⟨h0, rfl⟩⟩
  · rw [show n_lose s r = s from if_pos h0]
    refine ev_astoreN2 (q := 6) dX9_lose_5 rfl (by decide) rfl ?_
    refine ev_aloadN2 (q := 7) dX9_lose_6 rfl ?_
    refine ev_ifnonnullN (q := 10) dX9_lose_7 rfl ?_
    refine ev_iconst (q := 11) (v := (-1)) dX9_lose_10 rfl rfl ?_
    exact ev_ireturn dX9_lose_11 rfl rfl (CP.same hS hN V frS.rf (if_pos h0))
  · have hr3 : ix r < 3 := th_lt h0.1 (by have := h0.2; omega)
    obtain ⟨f, ha, hf, hb⟩ := wC_sh hW hr3
    have hsh := hN.1 (ix r) hr3
    rcases hsh with ⟨q1, q2⟩ | ⟨q1, q2, q3⟩
    · rw [show n_lose s r = s from (if_neg (not_not_intro h0)).trans (if_pos q1)]
      refine ev_astore2 (q := 6) dX9_lose_5 rfl (by decide) rfl ?_
      refine ev_aload2 (q := 7) dX9_lose_6 rfl ?_
      refine ev_ifnonnull (q := 12) dX9_lose_7 (by decide) ?_
      refine ev_aload2 (q := 13) dX9_lose_12 rfl ?_
      refine ev_getI (q := 16) dX9_lose_13 g_X9_75 ha rfl rfl ?_
      refine ev_if_ne (q := 19) (t := 22) dX9_lose_16 rfl (by decide) (fun c16 => ?_) (fun c16 => ?_)
      · refine ev_aload2 (q := 23) dX9_lose_22 rfl ?_
        refine ev_iconst (q := 24) (v := 0) dX9_lose_23 rfl rfl ?_
        refine ev_putI (q := 27) dX9_lose_24 (p_X9_75 _) ha rfl rfl rfl rfl ?_
        refine ev_iconst (q := 28) (v := 1) dX9_lose_27 rfl rfl ?_
        exact ev_ireturn dX9_lose_28 rfl rfl (absurd q2 c16)
      · refine ev_bipush (q := 21) (v := (-3)) dX9_lose_19 rfl rfl ?_
        exact ev_ireturn dX9_lose_21 rfl rfl (CP.same hS hN V frS.rf ((if_neg (not_not_intro h0)).trans (if_pos q1)))
    · have en : n_lose s r = th_w s 38 (ix r) (-1) := (if_neg (not_not_intro h0)).trans (if_neg (Int.not_lt.mpr q1))
      have ea : a_lose s r = 1 := (if_neg (not_not_intro h0)).trans (if_neg (Int.not_lt.mpr q1))
      rw [en]
      refine ev_astore2 (q := 6) dX9_lose_5 rfl (by decide) rfl ?_
      refine ev_aload2 (q := 7) dX9_lose_6 rfl ?_
      refine ev_ifnonnull (q := 12) dX9_lose_7 (by decide) ?_
      refine ev_aload2 (q := 13) dX9_lose_12 rfl ?_
      refine ev_getI (q := 16) dX9_lose_13 g_X9_75 ha rfl rfl ?_
      refine ev_if_ne (q := 19) (t := 22) dX9_lose_16 rfl (by decide) (fun c16 => ?_) (fun c16 => ?_)
      · refine ev_aload2 (q := 23) dX9_lose_22 rfl ?_
        refine ev_iconst (q := 24) (v := 0) dX9_lose_23 rfl rfl ?_
        refine ev_putI (q := 27) dX9_lose_24 (p_X9_75 _) ha rfl rfl rfl rfl ?_
        have fin : RN (th_w V (6 + 2 * ix r) 1 0) (th_w s 38 (ix r) (-1)) (ix (s 36 6)) (ix (s 36 11)) rd ld := RN.sh hS hN hz hr3 (fun a h1 _ => th_w_ne h1) (fun a _ h1 _ => th_w_ne h1) (fun k hk => rfl) (fun k hk => th_w_j hk) (fun k hk => rfl) (Or.inl ⟨by rw [th_w_if, if_pos ⟨rfl, rfl⟩]; decide, by rw [th_w_if, if_pos ⟨rfl, rfl⟩]⟩)
        refine ev_iconst (q := 28) (v := 1) dX9_lose_27 rfl rfl ?_
        exact ev_ireturn dX9_lose_28 rfl rfl (CP.mk (th_w V (6 + 2 * ix r) 1 0) ea hS (th_w_ne (by omega)) (th_w_ne (by omega)) rfl rfl fin (FC.rf.w (by omega)))
      · refine ev_bipush (q := 21) (v := (-3)) dX9_lose_19 rfl rfl ?_
        exact ev_ireturn dX9_lose_21 rfl rfl (absurd (show V (6 + 2 * ix r) 1 = 0 from c16) (by rw [q2]; decide))
theorem c_sheet (hC : CR N SH V s) (hz : bSz s) (r k m : Int32) : MT G l yX9_sheet kX9_sheet (d + 1) 0 0 [.ref 4, .int r, .int k, .int m] (N, SH, V) (CP N SH V (a_sheet r k m) (n_sheet s r k m)) := by
  refine MT.of (by decide) rfl rfl (n := 1) rfl (ls := [some (.ref 4), some (.int r), some (.int k), some (.int m), none]) rfl ?_
  obtain ⟨rd, ld, eR, eL, hS, hN⟩ := hC
  have hW : wC SH := hS.1
  have e0 : (0 : Int32).toInt = 0 := by decide
  have e2 : (2 : Int32).toInt = 2 := by decide
  have e20 : (20 : Int32).toInt = 20 := by decide
  refine ev_aload0 (q := 1) dX9_sheet_0 rfl ?_
  refine ev_iload1 (q := 2) dX9_sheet_1 rfl ?_
  refine ev_cV (K := kX9_sheet) (pc := 2) (q := 5) (c_sheetAt hW r) dX9_sheet_2 l_X9_67 (hW _ _ rfl) rfl rfl (Nat.le_of_ble_eq_true rfl) (Nat.le_refl _) rfl rfl (fun r S1 hp => ?_)
  rcases hp with ⟨rfl, ⟨h0, rfl⟩ | ⟨h0, rfl⟩⟩
  · rw [show n_sheet s r k m = s from if_pos (fun h => h0 h.1)]
    refine ev_astoreN4 (q := 7) dX9_sheet_5 rfl (by decide) rfl ?_
    refine ev_aloadN4 (q := 9) dX9_sheet_7 rfl ?_
    refine ev_ifnullN (q := 21) dX9_sheet_9 (by decide) ?_
    refine ev_iconst (q := 22) (v := (-1)) dX9_sheet_21 rfl rfl ?_
    exact ev_ireturn dX9_sheet_22 rfl rfl (CP.same hS hN V frS.rf (if_pos (fun h => h0 h.1)))
  · have hr3 : ix r < 3 := th_lt h0.1 (by have := h0.2; omega)
    obtain ⟨f, ha, hf, hb⟩ := wC_sh hW hr3
    have x1 : k.toInt < 0 ∨ 2 < k.toInt → a_sheet r k m = -1 ∧ n_sheet s r k m = s := fun h => ⟨if_pos (fun z => by have := z.2.1; have := z.2.2; omega), if_pos (fun z => by have := z.2.1; have := z.2.2; omega)⟩
    have x2 : inR k 0 2 → m.toInt < 0 → a_sheet r k m = -4 ∧ n_sheet s r k m = s := fun h1 h => ⟨(if_neg (not_not_intro ⟨h0, h1⟩)).trans (if_pos h), (if_neg (not_not_intro ⟨h0, h1⟩)).trans (if_pos h)⟩
    have x3 : inR k 0 2 → 20 < m.toInt → a_sheet r k m = -1 ∧ n_sheet s r k m = s := fun h1 h => ⟨(if_neg (not_not_intro ⟨h0, h1⟩)).trans ((if_neg (by omega)).trans (if_pos h)), (if_neg (not_not_intro ⟨h0, h1⟩)).trans ((if_neg (by omega)).trans (if_pos h))⟩
    refine ev_astore4 (q := 7) dX9_sheet_5 rfl (by decide) rfl ?_
    refine ev_aload4 (q := 9) dX9_sheet_7 rfl ?_
    refine ev_ifnull (q := 12) dX9_sheet_9 rfl ?_
    refine ev_iload2 (q := 13) dX9_sheet_12 rfl ?_
    refine ev_if_lt (q := 16) (t := 21) dX9_sheet_13 rfl (by decide) (fun c13 => ?_) (fun c13 => ?_)
    · refine ev_iconst (q := 22) (v := (-1)) dX9_sheet_21 rfl rfl ?_
      exact ev_ireturn dX9_sheet_22 rfl rfl (CP.no hS hN (x1 (Or.inl (i_lt.mp c13))).2 (x1 (Or.inl (i_lt.mp c13))).1)
    · refine ev_iload2 (q := 17) dX9_sheet_16 rfl ?_
      refine ev_iconst (q := 18) (v := 2) dX9_sheet_17 rfl rfl ?_
      refine ev_icmp_le (q := 21) (t := 23) dX9_sheet_18 rfl (by decide) (fun c18 => ?_) (fun c18 => ?_)
      · have hk : inR k 0 2 := by have := i_nlt c13; have := i_le.mp c18; constructor <;> omega
        refine ev_iload3 (q := 24) dX9_sheet_23 rfl ?_
        refine ev_if_ge (q := 27) (t := 30) dX9_sheet_24 rfl (by decide) (fun c24 => ?_) (fun c24 => ?_)
        · refine ev_iload3 (q := 31) dX9_sheet_30 rfl ?_
          refine ev_bipush (q := 33) (v := 20) dX9_sheet_31 rfl rfl ?_
          refine ev_icmp_le (q := 36) (t := 38) dX9_sheet_33 rfl (by decide) (fun c33 => ?_) (fun c33 => ?_)
          · have hk : inR k 0 2 := by have := i_nlt c13; have := i_le.mp c18; constructor <;> omega
            have hm0 : 0 ≤ m.toInt := i_le.mp c24
            have hm2 : m.toInt ≤ 20 := i_le.mp c33
            have hmI := th_ixI hm0
            refine ev_aload4 (q := 40) dX9_sheet_38 rfl ?_
            refine ev_iload2 (q := 41) dX9_sheet_40 rfl ?_
            refine ev_iload3 (q := 42) dX9_sheet_41 rfl ?_
            refine ev_cV (K := kX9_sheet) (pc := 42) (q := 45) (c_lay (d := d) ha hf hb k m) dX9_sheet_42 l_X9_71 ha rfl rfl (Nat.le_of_ble_eq_true rfl) (by omega) rfl rfl (fun r S1 hp => ?_)
            obtain ⟨rfl, rfl⟩ := hp
            refine ev_iconst (q := 46) (v := 1) dX9_sheet_45 rfl rfl ?_
            have en : n_sheet s r k m = th_seg (th_w (th_w s 37 (ix r) k) 38 (ix r) m) 39 (20 * ix r) (ix m) (fun _ => 0) := (if_neg (not_not_intro ⟨h0, hk⟩)).trans ((if_neg (Int.not_lt.mpr hm0)).trans (if_neg (Int.not_lt.mpr hm2)))
            have ea : a_sheet r k m = 1 := (if_neg (not_not_intro ⟨h0, hk⟩)).trans ((if_neg (Int.not_lt.mpr hm0)).trans (if_neg (Int.not_lt.mpr hm2)))
            rw [en]
            refine ev_ireturn dX9_sheet_46 rfl rfl (CP.mk _ ea hS ?_ ?_ rfl rfl (RN.sh hS hN hz hr3 ?_ ?_ ?_ ?_ ?_ ?_) ?_)
            · rw [th_seg_ne (by omega), th_w_ne (by omega), th_w_ne (by omega), th_w_ne (by omega)]
            · rw [th_seg_ne (by omega), th_w_ne (by omega), th_w_ne (by omega), th_w_ne (by omega)]
            · intro a h1 h2
              rw [th_seg_ne h2, th_w_ne h1, th_w_ne h1, th_w_ne h1]
            · intro a h1 h2 h3
              rw [th_seg_ne h3, th_w_ne h2, th_w_ne h1]
            · intro q hq
              rw [th_seg_ne (by decide), th_w_ne (by decide), th_w_j hq]
            · intro q hq
              rw [th_seg_ne (by decide), th_w_j hq, th_w_ne (by decide)]
            · intro q hq
              rw [th_seg_out (by omega), th_w_ne (by decide), th_w_ne (by decide)]
            · have s1 : th_seg (th_w (th_w s 37 (ix r) k) 38 (ix r) m) 39 (20 * ix r) (ix m) (fun _ => 0) 38 (ix r) = m := by rw [th_seg_ne (by decide), th_w_if, if_pos ⟨rfl, rfl⟩]
              have s2 : th_seg (th_w (th_w s 37 (ix r) k) 38 (ix r) m) 39 (20 * ix r) (ix m) (fun _ => 0) 37 (ix r) = k := by rw [th_seg_ne (by decide), th_w_ne (by decide), th_w_if, if_pos ⟨rfl, rfl⟩]
              refine Or.inr ⟨by rw [s1]; exact hm0, ?_, ?_, ?_, fun q hq => ?_⟩
              · rw [th_seg_ne (by omega), th_w_j (by decide), th_w_j (by decide), th_w_if, if_pos ⟨rfl, rfl⟩]
              · rw [s2, th_seg_ne (by omega), th_w_j (by decide), th_w_if, if_pos ⟨rfl, rfl⟩]
              · rw [s1, th_seg_ne (by omega), th_w_if, if_pos ⟨rfl, rfl⟩]
              · rw [s1] at hq
                rw [th_seg_in (Nat.zero_le _) (by omega), th_seg_in (by omega) (by omega)]
            · exact (((FC.rf.w (by omega)).w (by omega)).w (by omega)).sg (by omega)
          · refine ev_iconst (q := 37) (v := (-1)) dX9_sheet_36 rfl rfl ?_
            exact ev_ireturn dX9_sheet_37 rfl rfl (CP.no hS hN (x3 hk (i_nle c33)).2 (x3 hk (i_nle c33)).1)
        · refine ev_bipush (q := 29) (v := (-4)) dX9_sheet_27 rfl rfl ?_
          exact ev_ireturn dX9_sheet_29 rfl rfl (CP.no hS hN (x2 hk (i_nle c24)).2 (x2 hk (i_nle c24)).1)
      · refine ev_iconst (q := 22) (v := (-1)) dX9_sheet_21 rfl rfl ?_
        exact ev_ireturn dX9_sheet_22 rfl rfl (CP.no hS hN (x1 (Or.inr (i_nle c18))).2 (x1 (Or.inr (i_nle c18))).1)
theorem c_cell (hC : CR N SH V s) (hz : bSz s) (r i v : Int32) : MT G l yX9_cell kX9_cell (d + 2) 0 0 [.ref 4, .int r, .int i, .int v] (N, SH, V) (CP N SH V (a_cell s r i) (n_cell s r i v)) := by
  refine MT.of (by decide) rfl rfl (n := 1) rfl (ls := [some (.ref 4), some (.int r), some (.int i), some (.int v), none]) rfl ?_
  obtain ⟨rd, ld, eR, eL, hS, hN⟩ := hC
  have hW : wC SH := hS.1
  refine ev_aload0 (q := 1) dX9_cell_0 rfl ?_
  refine ev_iload1 (q := 2) dX9_cell_1 rfl ?_
  refine ev_cV (K := kX9_cell) (pc := 2) (q := 5) (c_sheetAt (d := d) hW r) dX9_cell_2 l_X9_67 (hW _ _ rfl) rfl rfl (Nat.le_of_ble_eq_true rfl) (by omega) rfl rfl (fun r S1 hp => ?_)
  rcases hp with ⟨rfl, ⟨h0, rfl⟩ | ⟨h0, rfl⟩⟩
  · refine ev_astoreN4 (q := 7) dX9_cell_5 rfl (by decide) rfl ?_
    refine ev_aloadN4 (q := 9) dX9_cell_7 rfl ?_
    refine ev_ifnonnullN (q := 12) dX9_cell_9 rfl ?_
    refine ev_iconst (q := 13) (v := (-1)) dX9_cell_12 rfl rfl ?_
    exact ev_ireturn dX9_cell_13 rfl rfl (CP.no hS hN (if_pos h0) (if_pos h0))
  · have hr3 : ix r < 3 := th_lt h0.1 (by have := h0.2; omega)
    obtain ⟨f, ha, hf, hb⟩ := wC_sh hW hr3
    have hz3 := hz (ix r) hr3
    have hsh := hN.1 (ix r) hr3
    rcases hsh with ⟨q1, q2⟩ | ⟨q1, q2, q3, q4, q5⟩
    · refine ev_astore4 (q := 7) dX9_cell_5 rfl (by decide) rfl ?_
      refine ev_aload4 (q := 9) dX9_cell_7 rfl ?_
      refine ev_ifnonnull (q := 14) dX9_cell_9 (by decide) ?_
      refine ev_aload4 (q := 16) dX9_cell_14 rfl ?_
      refine ev_getI (q := 19) dX9_cell_16 g_X9_75 ha rfl rfl ?_
      refine ev_if_ne (q := 22) (t := 25) dX9_cell_19 rfl (by decide) (fun c19 => ?_) (fun c19 => ?_)
      · exact absurd q2 c19
      · refine ev_bipush (q := 24) (v := (-3)) dX9_cell_22 rfl rfl ?_
        exact ev_ireturn dX9_cell_24 rfl rfl (CP.no hS hN ((if_neg (not_not_intro h0)).trans (if_pos q1)) ((if_neg (not_not_intro h0)).trans (if_pos q1)))
    · have hm1 := th_m1 q1 (by omega)
      have n1 : hasS (V (6 + 2 * ix r) 3) i ↔ inR i 0 (s 38 (ix r) - 1).toInt := by
        rw [q4]
        unfold hasS inR
        rw [hm1]
        omega
      refine ev_astore4 (q := 7) dX9_cell_5 rfl (by decide) rfl ?_
      refine ev_aload4 (q := 9) dX9_cell_7 rfl ?_
      refine ev_ifnonnull (q := 14) dX9_cell_9 (by decide) ?_
      refine ev_aload4 (q := 16) dX9_cell_14 rfl ?_
      refine ev_getI (q := 19) dX9_cell_16 g_X9_75 ha rfl rfl ?_
      refine ev_if_ne (q := 22) (t := 25) dX9_cell_19 rfl (by decide) (fun c19 => ?_) (fun c19 => ?_)
      · refine ev_aload4 (q := 27) dX9_cell_25 rfl ?_
        refine ev_iload2 (q := 28) dX9_cell_27 rfl ?_
        refine ev_cV (K := kX9_cell) (pc := 28) (q := 31) (c_has (d := d) ha _) dX9_cell_28 l_X9_79 ha rfl rfl (Nat.le_of_ble_eq_true rfl) (by omega) rfl rfl (fun r S1 hp => ?_)
        rcases hp with ⟨rfl, ⟨hp28, rfl⟩ | ⟨hp28, rfl⟩⟩
        · refine ev_if_ne (q := 34) (t := 36) dX9_cell_31 rfl (by decide) (fun c31 => ?_) (fun c31 => ?_)
          · have hi : inR i 0 (s 38 (ix r) - 1).toInt := n1.mp hp28
            have hi2 := hp28
            have hI := th_ixI hp28.1
            refine ev_aload4 (q := 38) dX9_cell_36 rfl ?_
            refine ev_iload2 (q := 39) dX9_cell_38 rfl ?_
            refine ev_iload3 (q := 40) dX9_cell_39 rfl ?_
            refine ev_cV (K := kX9_cell) (pc := 40) (q := 43) (c_put (d := d) ha hf hb i v) dX9_cell_40 l_X9_83 ha rfl rfl (Nat.le_of_ble_eq_true rfl) (by omega) rfl rfl (fun r S1 hp => ?_)
            obtain ⟨rfl, rfl⟩ := hp
            refine ev_iconst (q := 44) (v := 1) dX9_cell_43 rfl rfl ?_
            have en : n_cell s r i v = th_w s 39 (20 * ix r + ix i) (cst (s 37 (ix r)) v) := (if_neg (not_not_intro h0)).trans ((if_neg (Int.not_lt.mpr q1)).trans (if_neg (not_not_intro hi)))
            have ea : a_cell s r i = 1 := (if_neg (not_not_intro h0)).trans ((if_neg (Int.not_lt.mpr q1)).trans (if_neg (not_not_intro hi)))
            have ep : putS V (6 + 2 * ix r) (7 + 2 * ix r) i v = th_w V (7 + 2 * ix r) (ix i) (cst (s 37 (ix r)) v) := by rw [putS, if_pos hi2, q3]
            rw [en, ep]
            refine ev_ireturn dX9_cell_44 rfl rfl (CP.mk _ ea hS (th_w_ne (by omega)) (th_w_ne (by omega)) rfl rfl (RN.sh hS hN hz hr3 (fun a h1 h2 => th_w_ne h2) (fun a h1 h2 h3 => th_w_ne h3) (fun _ _ => rfl) (fun _ _ => rfl) (fun k hk => th_w_j (by have := hi2.2.2; omega)) ?_) (FC.rf.w (by omega)))
            refine Or.inr ⟨q1, ?_, ?_, ?_, fun k hk => ?_⟩
            · rw [th_w_ne (by omega)]; exact q2
            · rw [th_w_ne (by omega)]; exact q3
            · rw [th_w_ne (by omega)]; exact q4
            · by_cases e : k = ix i
              · subst e
                rw [th_w_if, if_pos ⟨rfl, rfl⟩, th_w_if, if_pos ⟨rfl, rfl⟩]
              · rw [th_w_j e, th_w_j (by omega)]
                exact q5 k hk
          · exact absurd c31 (by decide)
        · refine ev_if_ne (q := 34) (t := 36) dX9_cell_31 rfl (by decide) (fun c31 => ?_) (fun c31 => ?_)
          · exact absurd c31 (by decide)
          · refine ev_iconst (q := 35) (v := (-1)) dX9_cell_34 rfl rfl ?_
            exact ev_ireturn dX9_cell_35 rfl rfl (CP.no hS hN ((if_neg (not_not_intro h0)).trans ((if_neg (Int.not_lt.mpr q1)).trans (if_pos (fun z => hp28 (n1.mpr z))))) ((if_neg (not_not_intro h0)).trans ((if_neg (Int.not_lt.mpr q1)).trans (if_pos (fun z => hp28 (n1.mpr z))))))
      · refine ev_bipush (q := 24) (v := (-3)) dX9_cell_22 rfl rfl ?_
        exact ev_ireturn dX9_cell_24 rfl rfl (absurd (show V (6 + 2 * ix r) 1 = 0 from c19) (by rw [q2]; decide))
end C2
