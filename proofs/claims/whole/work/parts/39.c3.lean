/-! the class: hits, masks -/
def acB (f : Nat → Int32) : Nat → Int32
  | 0 => 0
  | k + 1 => acB f k + bct (f k)
def bHi (s : th_Vl) : Prop := ∀ k, k < 5 → inR (s 40 k) 0 65535
def bRh (s : th_Vl) : Prop := ∀ k, k < 150 → inR (s 56 k) 0 65535
theorem acB_ah {f g : Nat → Int32} : ∀ n, (∀ j, j < n → f j = g j ∧ inR (g j) 0 65535) → acB f n = ah g n
  | 0, _ => rfl
  | k + 1, h => by rw [acB, ah, acB_ah k (fun j hj => h j (by omega)), (h k (by omega)).1, bct_mb (h k (by omega)).2]
theorem RN.L {V V' s s' : th_Vl} {N R L : Nat} {SH : Nat → Option th_K0} {rd ld : Nat → Nat} {eR eL : Nat} (hS : RS N SH V R L rd ld eR eL) (h : RN V s R L rd ld) (hV : ∀ a, a < 12 ∨ 14 < a → V' a = V a) (hs : ∀ a, a < 40 ∨ 42 < a → s' a = s a) (hN : eqL V' s') : RN V' s' R L rd ld := by
  obtain ⟨g1, g2, g3, g4, g5, g6, g7⟩ := h
  obtain ⟨-, -, -, -, -, -, -, -, k1, -, k2, -⟩ := hS
  refine ⟨fun q hq => (g1 q hq).c (hV _ (by omega)) (hV _ (by omega)) (hs _ (by omega)) (hs _ (by omega)) (hs _ (by omega)), hN, ?_, g4.c (hV _ (by omega)) (hV _ (by omega)) (hV _ (by omega)) (hs _ (by omega)) (hs _ (by omega)) (hs _ (by omega)), g5.c (hV _ (by omega)) (hV _ (by omega)) (by rw [hs 36 (by omega)]) (hs _ (by omega)), fun j hj => ?_, fun j hj => ?_⟩
  · unfold eqF at g3 ⊢
    rw [hV 4 (by omega), hV 31 (by omega), hs 36 (by omega)]
    exact g3
  · have := (k1 j hj).1
    exact (g6 j hj).c (hV _ (by omega)) (hV _ (by omega)) (hV _ (by omega)) (hs _ (by omega)) (hs _ (by omega))
  · have := (k2 j hj).1
    exact (g7 j hj).c (hV _ (by omega)) (hV _ (by omega)) (hV _ (by omega)) (hs _ (by omega)) (hs _ (by omega)) (hs _ (by omega)) (hs _ (by omega)) (hs _ (by omega)) (hs _ (by omega)) (hs _ (by omega)) (hs _ (by omega))
theorem RN.F {V V' s s' : th_Vl} {N R L : Nat} {SH : Nat → Option th_K0} {rd ld : Nat → Nat} {eR eL : Nat} (hS : RS N SH V R L rd ld eR eL) (h : RN V s R L rd ld) (hV : ∀ a, a ≠ 4 → a ≠ 31 → V' a = V a) (hs : ∀ a, a ≠ 36 → s' a = s a) (ht : s' 36 10 = s 36 10) (hN : eqF V' s') : RN V' s' R L rd ld := by
  obtain ⟨g1, g2, g3, g4, g5, g6, g7⟩ := h
  obtain ⟨-, -, -, -, -, -, -, -, k1, -, k2, -⟩ := hS
  refine ⟨fun q hq => (g1 q hq).c (hV _ (by omega) (by omega)) (hV _ (by omega) (by omega)) (hs _ (by omega)) (hs _ (by omega)) (hs _ (by omega)), g2.c (hV _ (by omega) (by omega)) (hV _ (by omega) (by omega)) (hV _ (by omega) (by omega)) (hs _ (by omega)) (hs _ (by omega)) (hs _ (by omega)), hN, g4.c (hV _ (by omega) (by omega)) (hV _ (by omega) (by omega)) (hV _ (by omega) (by omega)) (hs _ (by omega)) (hs _ (by omega)) (hs _ (by omega)), g5.c (hV _ (by omega) (by omega)) (hV _ (by omega) (by omega)) ht (hs _ (by omega)), fun j hj => ?_, fun j hj => ?_⟩
  · have := (k1 j hj).1
    exact (g6 j hj).c (hV _ (by omega) (by omega)) (hV _ (by omega) (by omega)) (hV _ (by omega) (by omega)) (hs _ (by omega)) (hs _ (by omega))
  · have := (k2 j hj).1
    exact (g7 j hj).c (hV _ (by omega) (by omega)) (hV _ (by omega) (by omega)) (hV _ (by omega) (by omega)) (hs _ (by omega)) (hs _ (by omega)) (hs _ (by omega)) (hs _ (by omega)) (hs _ (by omega)) (hs _ (by omega)) (hs _ (by omega)) (hs _ (by omega))
theorem RN.T {V V' s s' : th_Vl} {N R L : Nat} {SH : Nat → Option th_K0} {rd ld : Nat → Nat} {eR eL : Nat} (hS : RS N SH V R L rd ld eR eL) (h : RN V s R L rd ld) (hV : ∀ a, a ≠ 27 → a ≠ 28 → V' a = V a) (hs : ∀ a, a ≠ 36 → a ≠ 45 → s' a = s a) (ht : ∀ k, k ≠ 10 → s' 36 k = s 36 k) (hN : tpR V' s') : RN V' s' R L rd ld := by
  obtain ⟨g1, g2, g3, g4, g5, g6, g7⟩ := h
  obtain ⟨-, -, -, -, -, -, -, -, k1, -, k2, -⟩ := hS
  refine ⟨fun q hq => (g1 q hq).c (hV _ (by omega) (by omega)) (hV _ (by omega) (by omega)) (hs _ (by omega) (by omega)) (hs _ (by omega) (by omega)) (hs _ (by omega) (by omega)), g2.c (hV _ (by omega) (by omega)) (hV _ (by omega) (by omega)) (hV _ (by omega) (by omega)) (hs _ (by omega) (by omega)) (hs _ (by omega) (by omega)) (hs _ (by omega) (by omega)), ?_, g4.c (hV _ (by omega) (by omega)) (hV _ (by omega) (by omega)) (hV _ (by omega) (by omega)) (hs _ (by omega) (by omega)) (hs _ (by omega) (by omega)) (hs _ (by omega) (by omega)), hN, fun j hj => ?_, fun j hj => ?_⟩
  · unfold eqF at g3 ⊢
    rw [hV 4 (by omega) (by omega), hV 31 (by omega) (by omega), ht _ (by decide), ht _ (by decide), ht _ (by decide), ht _ (by decide), ht _ (by decide), ht _ (by decide)]
    exact g3
  · have := (k1 j hj).1
    exact (g6 j hj).c (hV _ (by omega) (by omega)) (hV _ (by omega) (by omega)) (hV _ (by omega) (by omega)) (hs _ (by omega) (by omega)) (hs _ (by omega) (by omega))
  · have := (k2 j hj).1
    exact (g7 j hj).c (hV _ (by omega) (by omega)) (hV _ (by omega) (by omega)) (hV _ (by omega) (by omega)) (hs _ (by omega) (by omega)) (hs _ (by omega) (by omega)) (hs _ (by omega) (by omega)) (hs _ (by omega) (by omega)) (hs _ (by omega) (by omega)) (hs _ (by omega) (by omega)) (hs _ (by omega) (by omega)) (hs _ (by omega) (by omega))
theorem has_add {x i : Int32} {k : Nat} (h0 : 0 ≤ i.toInt) (hk : k < 5) (hx : x.toInt ≤ 20) : (hasS x (i + nI k) ↔ i.toInt + k < x.toInt) ∧ (i.toInt + k < x.toInt → ix (i + nI k) = ix i + k) := by
  have e1 := Int32.toInt_add i (nI k)
  rw [nI_toInt (by omega)] at e1
  have h1 := Int32.toInt_lt i
  have h2 : (i.toInt + (k : Int)).bmod (2 ^ 32) = if i.toInt + k < 2 ^ 31 then i.toInt + k else i.toInt + k - 2 ^ 32 := by
    rw [Int.bmod_def]
    split <;> split <;> omega
  rw [h2] at e1
  constructor
  · unfold hasS
    split at e1 <;> omega
  · intro h
    rw [if_pos (by omega)] at e1
    have := th_ixI (x := i + nI k) (by omega)
    have := th_ixI h0
    omega
section C3
variable {G : th_G} {l : Launch} {d : Nat} {N : Nat} {SH : Nat → Option th_K0} {V s : th_Vl}
theorem c_cellsIn {a : Nat} (ha : SH a = some (.inl (0, 5, th_no))) : MT G l yX9_cellsIn kX9_cellsIn (d + 1) 0 0 [.ref a] (N, SH, V) (th_is (acB (V a) 5) (N, SH, V)) := by
  refine MT.of (by decide) rfl rfl (n := 5) rfl (ls := [some (.ref a), none, none, none, none, none]) rfl ?_
  have lp : ∀ i, i ≤ 5 → ∀ o, th_c1 [o] = true → EV G l kX9_cellsIn (d + 1) 0 0 10 [some (.ref a), some (.int (acB (V a) i)), some (.ref a), some (.int (nI 5)), some (.int (nI i)), o] [] (N, SH, V) (th_is (acB (V a) 5) (N, SH, V)) := by
    refine th_down 5 ?_ ?_
    · intro o ho
      refine ev_iload4 (q := 12) dX9_cellsIn_10 rfl ?_
      refine ev_iload3 (q := 13) dX9_cellsIn_12 rfl ?_
      refine ev_icmp_ge (q := 16) (t := 36) dX9_cellsIn_13 rfl (by decide) (fun c => ?_) (fun c => ?_)
      · refine ev_iload1 (q := 37) dX9_cellsIn_36 rfl ?_
        exact ev_ireturn dX9_cellsIn_37 rfl rfl ⟨rfl, rfl⟩
      · exact absurd (by decide) c
    · intro i hi ih o ho
      refine ev_iload4 (q := 12) dX9_cellsIn_10 rfl ?_
      refine ev_iload3 (q := 13) dX9_cellsIn_12 rfl ?_
      refine ev_icmp_ge (q := 16) (t := 36) dX9_cellsIn_13 rfl (by decide) (fun c => ?_) (fun c => ?_)
      · exact absurd c (nI_ge hi (by decide))
      · refine ev_aload2 (q := 17) dX9_cellsIn_16 rfl ?_
        refine ev_iload4 (q := 19) dX9_cellsIn_17 rfl ?_
        refine ev_iald (q := 20) dX9_cellsIn_19 ha rfl hi (by decide) rfl ?_
        refine ev_istore5 (q := 22) dX9_cellsIn_20 rfl (by decide) ho ?_
        refine ev_iload1 (q := 23) dX9_cellsIn_22 rfl ?_
        refine ev_iload5 (q := 25) dX9_cellsIn_23 rfl ?_
        refine ev_cS (K := kX9_cellsIn) (pc := 25) (q := 28) (j_bitCount _) dX9_cellsIn_25 l_X9_92 rfl (Nat.le_of_ble_eq_true rfl) (Nat.le_refl _) rfl rfl (fun r S1 hp => ?_)
        obtain ⟨rfl, rfl⟩ := hp
        refine ev_iadd (q := 29) dX9_cellsIn_28 rfl ?_
        refine ev_istore1 (q := 30) dX9_cellsIn_29 rfl (by decide) rfl ?_
        refine ev_iinc4 (q := 33) dX9_cellsIn_30 rfl (by decide) rfl (nI_succ i).symm ?_
        refine ev_goto (q := 10) dX9_cellsIn_33 (by decide) ?_
        exact ih _ rfl
  refine ev_iconst (q := 1) (v := 0) dX9_cellsIn_0 rfl rfl ?_
  refine ev_istore1 (q := 2) dX9_cellsIn_1 rfl (by decide) rfl ?_
  refine ev_aload0 (q := 3) dX9_cellsIn_2 rfl ?_
  refine ev_astore2 (q := 4) dX9_cellsIn_3 rfl (by decide) rfl ?_
  refine ev_aload2 (q := 5) dX9_cellsIn_4 rfl ?_
  refine ev_alen (q := 6) dX9_cellsIn_5 ha (by decide) rfl ?_
  refine ev_istore3 (q := 7) dX9_cellsIn_6 rfl (by decide) rfl ?_
  refine ev_iconst (q := 8) (v := 0) dX9_cellsIn_7 rfl rfl ?_
  refine ev_istore4 (q := 10) dX9_cellsIn_8 rfl (by decide) rfl ?_
  exact lp 0 (by decide) none rfl
theorem c_hits (hC : CR N SH V s) (x b : Int32) : MT G l yX9_hits kX9_hits (d + 1) 0 0 [.ref 4, .int x, .int b] (N, SH, V) (CP N SH V (a_hits s x b) (n_hits s x b)) := by
  refine MT.of (by decide) rfl rfl (n := 0) rfl (ls := [some (.ref 4), some (.int x), some (.int b)]) rfl ?_
  obtain ⟨rd, ld, eR, eL, hS, hN⟩ := hC
  have hW : wC SH := hS.1
  have fin : inR x 0 4 → RN (th_w V 12 (ix x) b) (th_w s 40 (ix x) b) (ix (s 36 6)) (ix (s 36 11)) rd ld := fun h => RN.L hS hN (fun a ha => th_w_ne (by omega)) (fun a ha => th_w_ne (by omega)) (fun k hk => by
    have := hN.2.1 k hk
    rw [th_w_if, th_w_if]
    by_cases e : k = ix x
    · subst e
      exact ⟨by rw [if_pos ⟨rfl, rfl⟩, if_pos ⟨rfl, rfl⟩], this.2⟩
    · exact ⟨by rw [if_neg (fun z => e z.2), if_neg (fun z => e z.2)]; exact this.1, this.2⟩)
  refine ev_iload1 (q := 1) dX9_hits_0 rfl ?_
  refine ev_cS (K := kX9_hits) (pc := 1) (q := 4) (c_isLayer _) dX9_hits_1 l_X9_86 rfl (Nat.le_of_ble_eq_true rfl) (Nat.le_refl _) rfl rfl (fun r S1 hp => ?_)
  rcases hp with ⟨rfl, ⟨hp1, rfl⟩ | ⟨hp1, rfl⟩⟩
  · refine ev_if_eq (q := 7) (t := 14) dX9_hits_4 rfl (by decide) (fun c4 => ?_) (fun c4 => ?_)
    · exact absurd c4 (by decide)
    · refine ev_iload2 (q := 8) dX9_hits_7 rfl ?_
      refine ev_cS (K := kX9_hits) (pc := 8) (q := 11) (c_areCells _) dX9_hits_8 l_X9_89 rfl (Nat.le_of_ble_eq_true rfl) (Nat.le_refl _) rfl rfl (fun r S1 hp => ?_)
      rcases hp with ⟨rfl, ⟨hp8, rfl⟩ | ⟨hp8, rfl⟩⟩
      · refine ev_if_ne (q := 14) (t := 16) dX9_hits_11 rfl (by decide) (fun c11 => ?_) (fun c11 => ?_)
        · refine ev_aload0 (q := 17) dX9_hits_16 rfl ?_
          refine ev_getR (q := 20) dX9_hits_17 g_X9_16 (hW _ _ rfl) rfl rfl rfl ?_
          refine ev_iload1 (q := 21) dX9_hits_20 rfl ?_
          refine ev_iload2 (q := 22) dX9_hits_21 rfl ?_
          refine ev_iast (q := 23) dX9_hits_22 (hW _ _ rfl) (th_self hp1.1) (th_lt hp1.1 (by have := hp1.2; omega)) (by decide) rfl ?_
          refine ev_iload2 (q := 24) dX9_hits_23 rfl ?_
          refine ev_cS (K := kX9_hits) (pc := 24) (q := 27) (j_bitCount _) dX9_hits_24 l_X9_92 rfl (Nat.le_of_ble_eq_true rfl) (Nat.le_refl _) rfl rfl (fun r S1 hp => ?_)
          obtain ⟨rfl, rfl⟩ := hp
          exact ev_ireturn dX9_hits_27 rfl rfl (by rw [show n_hits s x b = _ from if_pos ⟨hp1, hp8⟩]; exact CP.mk (th_w V 12 (ix x) b) ((if_pos ⟨hp1, hp8⟩).trans (bct_mb hp8).symm) hS rfl rfl rfl rfl (fin hp1) (FC.rf.w (by decide)))
        · exact absurd c11 (by decide)
      · refine ev_if_ne (q := 14) (t := 16) dX9_hits_11 rfl (by decide) (fun c11 => ?_) (fun c11 => ?_)
        · exact absurd c11 (by decide)
        · refine ev_iconst (q := 15) (v := (-1)) dX9_hits_14 rfl rfl ?_
          exact ev_ireturn dX9_hits_15 rfl rfl (CP.no hS hN (if_neg (fun h => hp8 h.2)) (if_neg (fun h => hp8 h.2)))
  · refine ev_if_eq (q := 7) (t := 14) dX9_hits_4 rfl (by decide) (fun c4 => ?_) (fun c4 => ?_)
    · refine ev_iconst (q := 15) (v := (-1)) dX9_hits_14 rfl rfl ?_
      exact ev_ireturn dX9_hits_15 rfl rfl (CP.no hS hN (if_neg (fun h => hp1 h.1)) (if_neg (fun h => hp1 h.1)))
    · exact absurd c4 (by decide)
theorem c_load (hC : CR N SH V s) (hz : bSz s) (r i : Int32) : MT G l yX9_load kX9_load (d + 2) 0 0 [.ref 4, .int r, .int i] (N, SH, V) (CP N SH V (a_load s r i) (n_load s r i)) := by
  refine MT.of (by decide) rfl rfl (n := 2) rfl (ls := [some (.ref 4), some (.int r), some (.int i), none, none]) rfl ?_
  obtain ⟨rd, ld, eR, eL, hS, hN⟩ := hC
  have hW : wC SH := hS.1
  have e0 : (0 : Int32).toInt = 0 := by decide
  refine ev_aload0 (q := 1) dX9_load_0 rfl ?_
  refine ev_iload1 (q := 2) dX9_load_1 rfl ?_
  refine ev_cV (K := kX9_load) (pc := 2) (q := 5) (c_sheetAt (d := d) hW r) dX9_load_2 l_X9_67 (hW _ _ rfl) rfl rfl (Nat.le_of_ble_eq_true rfl) (by omega) rfl rfl (fun r S1 hp => ?_)
  rcases hp with ⟨rfl, ⟨h0, rfl⟩ | ⟨h0, rfl⟩⟩
  · refine ev_astoreN3 (q := 6) dX9_load_5 rfl (by decide) rfl ?_
    refine ev_aloadN3 (q := 7) dX9_load_6 rfl ?_
    refine ev_ifnullN (q := 14) dX9_load_7 (by decide) ?_
    refine ev_iconst (q := 15) (v := (-1)) dX9_load_14 rfl rfl ?_
    exact ev_ireturn dX9_load_15 rfl rfl (CP.no hS hN (if_pos (fun h => h0 h.1)) (if_pos (fun h => h0 h.1)))
  · have hr3 : ix r < 3 := th_lt h0.1 (by have := h0.2; omega)
    obtain ⟨f, ha, hf, hb⟩ := wC_sh hW hr3
    have hz3 := hz (ix r) hr3
    have hsh := hN.1 (ix r) hr3
    have x1 : ¬ 0 ≤ i → a_load s r i = -1 ∧ n_load s r i = s := fun h => ⟨if_pos (fun z => h (i_le.mpr z.2)), if_pos (fun z => h (i_le.mpr z.2))⟩
    rcases hsh with ⟨q1, q2⟩ | ⟨q1, q2, q3, q4, q5⟩
    · refine ev_astore3 (q := 6) dX9_load_5 rfl (by decide) rfl ?_
      refine ev_aload3 (q := 7) dX9_load_6 rfl ?_
      refine ev_ifnull (q := 10) dX9_load_7 rfl ?_
      refine ev_iload2 (q := 11) dX9_load_10 rfl ?_
      refine ev_if_ge (q := 14) (t := 16) dX9_load_11 rfl (by decide) (fun c11 => ?_) (fun c11 => ?_)
      · refine ev_aload3 (q := 17) dX9_load_16 rfl ?_
        refine ev_getI (q := 20) dX9_load_17 g_X9_75 ha rfl rfl ?_
        refine ev_if_ne (q := 23) (t := 26) dX9_load_20 rfl (by decide) (fun c20 => ?_) (fun c20 => ?_)
        · exact absurd q2 c20
        · refine ev_bipush (q := 25) (v := (-3)) dX9_load_23 rfl rfl ?_
          exact ev_ireturn dX9_load_25 rfl rfl (CP.no hS hN ((if_neg (not_not_intro ⟨h0, i_le.mp c11⟩)).trans (if_pos q1)) ((if_neg (not_not_intro ⟨h0, i_le.mp c11⟩)).trans (if_pos q1)))
      · refine ev_iconst (q := 15) (v := (-1)) dX9_load_14 rfl rfl ?_
        exact ev_ireturn dX9_load_15 rfl rfl (CP.no hS hN (x1 c11).2 (x1 c11).1)
    · skip
      refine ev_astore3 (q := 6) dX9_load_5 rfl (by decide) rfl ?_
      refine ev_aload3 (q := 7) dX9_load_6 rfl ?_
      refine ev_ifnull (q := 10) dX9_load_7 rfl ?_
      refine ev_iload2 (q := 11) dX9_load_10 rfl ?_
      refine ev_if_ge (q := 14) (t := 16) dX9_load_11 rfl (by decide) (fun c11 => ?_) (fun c11 => ?_)
      · refine ev_aload3 (q := 17) dX9_load_16 rfl ?_
        refine ev_getI (q := 20) dX9_load_17 g_X9_75 ha rfl rfl ?_
        refine ev_if_ne (q := 23) (t := 26) dX9_load_20 rfl (by decide) (fun c20 => ?_) (fun c20 => ?_)
        · have h11 : 0 ≤ i.toInt := i_le.mp c11
          have en : n_load s r i = th_seg s 40 0 5 (lf s r i) := (if_neg (not_not_intro ⟨h0, h11⟩)).trans (if_neg (Int.not_lt.mpr q1))
          have ea : a_load s r i = ah (lf s r i) 5 := (if_neg (not_not_intro ⟨h0, h11⟩)).trans (if_neg (Int.not_lt.mpr q1))
          have lp : ∀ j, j ≤ 5 → EV G l kX9_load (d + 2) 0 0 29 [some (.ref 4), some (.int r), some (.int i), some (.ref (6 + 2 * ix r)), some (.int (nI j))] [] (N, SH, th_seg V 12 0 j (lf s r i)) (CP N SH V (a_load s r i) (n_load s r i)) := by
            refine th_down 5 ?_ ?_
            · refine ev_iload4 (q := 31) dX9_load_29 rfl ?_
              refine ev_iconst (q := 32) (v := 5) dX9_load_31 rfl rfl ?_
              refine ev_icmp_ge (q := 35) (t := 59) dX9_load_32 rfl (by decide) (fun c => ?_) (fun c => ?_)
              · refine ev_aload0 (q := 60) dX9_load_59 rfl ?_
                refine ev_getR (q := 63) dX9_load_60 g_X9_16 (hW _ _ rfl) rfl rfl rfl ?_
                refine ev_cS (K := kX9_load) (pc := 63) (q := 66) (c_cellsIn (d := d) (a := 12) (hW _ _ rfl)) dX9_load_63 l_X9_102 rfl (Nat.le_of_ble_eq_true rfl) (by omega) rfl rfl (fun r S1 hp => ?_)
                obtain ⟨rfl, rfl⟩ := hp
                rw [en]
                refine ev_ireturn dX9_load_66 rfl rfl (CP.mk _ ?_ hS (th_seg_ne (by decide)) (th_seg_ne (by decide)) rfl rfl (RN.L hS hN (fun a ha => th_seg_ne (by omega)) (fun a ha => th_seg_ne (by omega)) (fun k hk => ?_)) (FC.rf.sg (by decide)))
                · rw [ea]
                  refine (acB_ah 5 (fun j hj => ⟨th_seg_in (Nat.zero_le _) (by omega), ?_⟩)).symm
                  unfold lf
                  split
                  · obtain ⟨q, h1, h2⟩ := pk_andE (s 39 (20 * ix r + ix i + (j - 0))) (m := 65535) 16 (by decide)
                    rw [h2]
                    have := nI_toInt (n := q) (by omega)
                    constructor <;> omega
                  · decide
                · rw [th_seg_in (Nat.zero_le _) (by omega), th_seg_in (Nat.zero_le _) (by omega)]
                  exact ⟨rfl, (hN.2.1 k hk).2⟩
              · exact absurd (by decide) c
            · intro j hj ih
              rw [← th_seg_s0] at ih
              refine ev_iload4 (q := 31) dX9_load_29 rfl ?_
              refine ev_iconst (q := 32) (v := 5) dX9_load_31 rfl rfl ?_
              refine ev_icmp_ge (q := 35) (t := 59) dX9_load_32 rfl (by decide) (fun c => ?_) (fun c => ?_)
              · exact absurd c (nI_ge hj (by decide))
              · refine ev_aload0 (q := 36) dX9_load_35 rfl ?_
                refine ev_getR (q := 39) dX9_load_36 g_X9_16 (hW _ _ rfl) rfl rfl rfl ?_
                refine ev_iload4 (q := 41) dX9_load_39 rfl ?_
                refine ev_aload3 (q := 42) dX9_load_41 rfl ?_
                refine ev_iload2 (q := 43) dX9_load_42 rfl ?_
                refine ev_iload4 (q := 45) dX9_load_43 rfl ?_
                refine ev_iadd (q := 46) dX9_load_45 rfl ?_
                refine ev_cV (K := kX9_load) (pc := 46) (q := 49) (c_numberAt (d := d) ha hf hb _) dX9_load_46 l_X9_98 ha rfl rfl (Nat.le_of_ble_eq_true rfl) (by omega) rfl rfl (fun r S1 hp => ?_)
                obtain ⟨rfl, rfl⟩ := hp
                have hh := has_add (x := s 38 (ix r)) (k := j) h11 hj hz3
                have eV : th_seg V 12 0 j (lf s r i) (6 + 2 * ix r) = V (6 + 2 * ix r) := th_seg_ne (by omega)
                have eV2 : th_seg V 12 0 j (lf s r i) (7 + 2 * ix r) = V (7 + 2 * ix r) := th_seg_ne (by omega)
                have e : (if hasS (th_seg V 12 0 j (lf s r i) (6 + 2 * ix r) 3) (i + nI j) then th_seg V 12 0 j (lf s r i) (7 + 2 * ix r) (ix (i + nI j)) else 0) &&& 65535 = lf s r i j := by
                  rw [eV, eV2, q4]
                  unfold lf
                  by_cases hc : i.toInt + j < (s 38 (ix r)).toInt
                  · rw [if_pos (hh.1.mpr hc), if_pos hc, hh.2 hc, q5 _ (by have := th_ixI q1; have := th_ixI h11; omega), Nat.add_assoc]
                  · rw [if_neg (fun z => hc (hh.1.mp z)), if_neg hc]
                    decide
                refine ev_ldc (q := 51) dX9_load_49 q_X9_101 rfl ?_
                refine ev_iand (q := 52) dX9_load_51 rfl ?_
                rw [e]
                refine ev_iast (q := 53) dX9_load_52 (hW _ _ rfl) rfl hj (by decide) rfl ?_
                refine ev_iinc4 (q := 56) dX9_load_53 rfl (by decide) rfl (nI_succ j).symm ?_
                refine ev_goto (q := 29) dX9_load_56 (by decide) ?_
                exact ih
          refine ev_iconst (q := 27) (v := 0) dX9_load_26 rfl rfl ?_
          refine ev_istore4 (q := 29) dX9_load_27 rfl (by decide) rfl ?_
          have h := lp 0 (by decide)
          rw [th_seg_0] at h
          exact h
        · refine ev_bipush (q := 25) (v := (-3)) dX9_load_23 rfl rfl ?_
          exact ev_ireturn dX9_load_25 rfl rfl (absurd (show V (6 + 2 * ix r) 1 = 0 from c20) (by rw [q2]; decide))
      · refine ev_iconst (q := 15) (v := (-1)) dX9_load_14 rfl rfl ?_
        exact ev_ireturn dX9_load_15 rfl rfl (CP.no hS hN (x1 c11).2 (x1 c11).1)
theorem c_clear (hC : CR N SH V s) : MT G l yX9_clear kX9_clear d 0 0 [.ref 4] (N, SH, V) (CP N SH V (a_clear s) (n_clear s)) := by
  refine MT.of (by decide) rfl rfl (n := 1) rfl (ls := [some (.ref 4), none]) rfl ?_
  obtain ⟨rd, ld, eR, eL, hS, hN⟩ := hC
  have hW : wC SH := hS.1
  refine ev_aload0 (q := 1) dX9_clear_0 rfl ?_
  refine ev_getR (q := 4) dX9_clear_1 g_X9_43 (hW _ _ rfl) rfl rfl rfl ?_
  refine ev_getI (q := 7) dX9_clear_4 g_X9_200 (hW _ _ rfl) rfl rfl ?_
  refine ev_istore1 (q := 8) dX9_clear_7 rfl (by decide) rfl ?_
  refine ev_aload0 (q := 9) dX9_clear_8 rfl ?_
  refine ev_getR (q := 12) dX9_clear_9 g_X9_43 (hW _ _ rfl) rfl rfl rfl ?_
  refine ev_iconst (q := 13) (v := 0) dX9_clear_12 rfl rfl ?_
  refine ev_putI (q := 16) dX9_clear_13 (p_X9_200 _) (hW _ _ rfl) rfl rfl rfl rfl ?_
  refine ev_iload1 (q := 17) dX9_clear_16 rfl ?_
  exact ev_ireturn dX9_clear_17 rfl rfl (CP.mk (th_w V 27 1 0) hN.2.2.2.2.1.1.symm hS rfl rfl rfl rfl (RN.T hS hN (fun a h1 h2 => th_w_ne h1) (fun a h1 h2 => th_w_ne h1) (fun k hk => th_w_j hk) ⟨rfl, fun k hk => absurd hk (Nat.not_lt_zero _)⟩) (FC.rf.w (by decide)))
theorem c_rest (hC : CR N SH V s) (v : Int32) : MT G l yX9_rest kX9_rest d 0 0 [.ref 4, .int v] (N, SH, V) (CP N SH V (a_rest s v) (n_rest s v)) := by
  refine MT.of (by decide) rfl rfl (n := 1) rfl (ls := [some (.ref 4), some (.int v), none]) rfl ?_
  obtain ⟨rd, ld, eR, eL, hS, hN⟩ := hC
  have hW : wC SH := hS.1
  have e0 : (0 : Int32).toInt = 0 := by decide
  have e20 : (20 : Int32).toInt = 20 := by decide
  obtain ⟨f1, f2, f3, f4, f5, f6⟩ := hN.2.2.1
  have x1 : ¬ inR v 0 20 → a_rest s v = -1 ∧ n_rest s v = s := fun h => ⟨if_neg h, if_neg h⟩
  refine ev_iload1 (q := 1) dX9_rest_0 rfl ?_
  refine ev_if_lt (q := 4) (t := 10) dX9_rest_1 rfl (by decide) (fun c1 => ?_) (fun c1 => ?_)
  · refine ev_iconst (q := 11) (v := (-1)) dX9_rest_10 rfl rfl ?_
    exact ev_ireturn dX9_rest_11 rfl rfl (CP.no hS hN (x1 (fun h => by have := i_lt.mp c1; have := h.1; omega)).2 (x1 (fun h => by have := i_lt.mp c1; have := h.1; omega)).1)
  · refine ev_iload1 (q := 5) dX9_rest_4 rfl ?_
    refine ev_bipush (q := 7) (v := 20) dX9_rest_5 rfl rfl ?_
    refine ev_icmp_le (q := 10) (t := 12) dX9_rest_7 rfl (by decide) (fun c7 => ?_) (fun c7 => ?_)
    · have hv : inR v 0 20 := by have := i_nlt c1; have := i_le.mp c7; constructor <;> omega
      refine ev_aload0 (q := 13) dX9_rest_12 rfl ?_
      refine ev_getI (q := 16) dX9_rest_13 g_X9_262 (hW _ _ rfl) rfl rfl ?_
      refine ev_istore2 (q := 17) dX9_rest_16 rfl (by decide) rfl ?_
      refine ev_aload0 (q := 18) dX9_rest_17 rfl ?_
      refine ev_iload1 (q := 19) dX9_rest_18 rfl ?_
      refine ev_putI (q := 22) dX9_rest_19 (p_X9_262 _) (hW _ _ rfl) rfl rfl rfl rfl ?_
      refine ev_iload2 (q := 23) dX9_rest_22 rfl ?_
      exact ev_ireturn dX9_rest_23 rfl rfl (by rw [show n_rest s v = _ from if_pos hv]; exact CP.mk (th_w V 4 11 v) ((if_pos hv).trans f1.symm) hS rfl rfl rfl rfl (RN.F hS hN (fun a h1 h2 => th_w_ne h1) (fun a h1 => th_w_ne h1) rfl ⟨rfl, f2, f3, f4, f5, f6⟩) (FC.rf.w (by decide)))
    · refine ev_iconst (q := 11) (v := (-1)) dX9_rest_10 rfl rfl ?_
      exact ev_ireturn dX9_rest_11 rfl rfl (CP.no hS hN (x1 (fun h => by have := i_nle c7; have := h.2; omega)).2 (x1 (fun h => by have := i_nle c7; have := h.2; omega)).1)
end C3
