/-! the class: its roads -/
def sIn (la fi v : Int32) : Int32 := v &&& ((((1 : Int32) <<< ((la - fi + 1) &&& 31)) - 1) <<< (fi &&& 31))
section C4
variable {G : th_G} {l : Launch} {d : Nat} {N : Nat} {SH : Nat → Option th_K0} {V s : th_Vl}
theorem LST.size {a n e : Nat} {el : Nat → Nat} (h : LST N SH V a n el e) : MT G l yJx4a65c_size_8abf5 kJx4a65c_size_8abf5 d 0 0 [.ref a] (N, SH, V) (th_is (nI n) (N, SH, V)) := by
  obtain ⟨f, h1, h2, h3, h4⟩ := h
  have := j_size (G := G) (l := l) (d := d) (N := N) (V := V) h1
  rw [h3] at this
  exact this
theorem LST.get {a n e j : Nat} {el : Nat → Nat} (h : LST N SH V a n el e) (hj : j < n) {x : Int32} (hx : x = nI j) : MT G l yJx4a65c_get_915e3 kJx4a65c_get_915e3 (d + 2) 0 0 [.ref a, .int x] (N, SH, V) (fun r S' => r = some (.ref (el j)) ∧ S' = (N, SH, V)) := by
  obtain ⟨f, h1, h2, h3, h4⟩ := h
  rcases h4 with ⟨-, z⟩ | ⟨cap, g, q1, q2, q3, q4, q5, q6⟩
  · omega
  · exact j_get h1 h2 q1 h3 hj q4 (by omega) (q6 j hj) hx
theorem LST.sh {a n e : Nat} {el : Nat → Nat} (h : LST N SH V a n el e) : ∃ f, SH a = some (.inr (11, f)) := by
  obtain ⟨f, h1, -⟩ := h
  exact ⟨f, h1⟩
theorem isRd_ix {x r : Int32} (h0 : 0 ≤ x.toInt) (h1 : x.toInt ≤ 12) : inR r 0 (x - 1).toInt ↔ (¬ r < 0 ∧ r < nI (ix x)) := by
  have e0 : (0 : Int32).toInt = 0 := by decide
  have hm := th_m1 h0 (by omega)
  unfold inR
  rw [hm, i_lt, i_lt, ← th_self h0, e0]
  omega
theorem c_roadAt {R L eR eL : Nat} {rd ld : Nat → Nat} (hS : RS N SH V R L rd ld eR eL) (hR : R = ix (s 36 6)) (hb : bRo s) (r : Int32) : MT G l yX9_roadAt kX9_roadAt (d + 3) 0 0 [.ref 4, .int r] (N, SH, V) (fun q S' => S' = (N, SH, V) ∧ ((¬ isRd s r ∧ q = some .null) ∨ (isRd s r ∧ q = some (.ref (rd (ix r)))))) := by
  refine MT.of (by decide) rfl rfl (n := 0) rfl (ls := [some (.ref 4), some (.int r)]) rfl ?_
  have hW : wC SH := hS.1
  have hLs := hS.2.2.2.2.2.1
  obtain ⟨fR, hfR⟩ := hLs.sh
  have key := isRd_ix (r := r) hb.1 hb.2
  rw [← hR] at key
  refine ev_iload1 (q := 1) dX9_roadAt_0 rfl ?_
  refine ev_if_lt (q := 4) (t := 17) dX9_roadAt_1 rfl (by decide) (fun c1 => ?_) (fun c1 => ?_)
  · refine ev_null (q := 18) dX9_roadAt_17 rfl ?_
    refine ev_goto (q := 34) dX9_roadAt_18 (by decide) ?_
    exact ev_areturnN dX9_roadAt_34 rfl (Or.inl ⟨_, rfl⟩) ⟨rfl, Or.inl ⟨fun h => (key.mp h).1 c1, rfl⟩⟩
  · refine ev_iload1 (q := 5) dX9_roadAt_4 rfl ?_
    refine ev_aload0 (q := 6) dX9_roadAt_5 rfl ?_
    refine ev_getR (q := 9) dX9_roadAt_6 g_X9_29 (hW _ _ rfl) rfl rfl rfl ?_
    refine ev_cF (K := kX9_roadAt) (pc := 9) (q := 14) (hLs.size (d := d + 2)) dX9_roadAt_9 l_X9_109 hfR rfl (Nat.le_of_ble_eq_true rfl) (Nat.le_refl _) rfl rfl (fun r S1 hp => ?_)
    obtain ⟨rfl, rfl⟩ := hp
    refine ev_icmp_lt (q := 17) (t := 21) dX9_roadAt_14 rfl (by decide) (fun c14 => ?_) (fun c14 => ?_)
    · have hrd : isRd s r := key.mpr ⟨c1, c14⟩
      have hlt := isRd_lt hb hrd
      have hix : ix r < R := by
        have := th_ixI hlt.1
        have := th_ixI hb.1
        omega
      obtain ⟨-, -, ⟨f, ha, -, -⟩, -, -⟩ := hS.2.2.2.2.2.2.2.2.1 (ix r) hix
      refine ev_aload0 (q := 22) dX9_roadAt_21 rfl ?_
      refine ev_getR (q := 25) dX9_roadAt_22 g_X9_29 (hW _ _ rfl) rfl rfl rfl ?_
      refine ev_iload1 (q := 26) dX9_roadAt_25 rfl ?_
      refine ev_cF (K := kX9_roadAt) (pc := 26) (q := 31) (hLs.get hix (th_self hlt.1)) dX9_roadAt_26 l_X9_287 hfR rfl (Nat.le_of_ble_eq_true rfl) (Nat.le_refl _) rfl rfl (fun r S1 hp => ?_)
      obtain ⟨rfl, rfl⟩ := hp
      refine ev_chk (q := 34) dX9_roadAt_31 ha rfl n_X9_115 rfl ?_
      exact ev_areturn dX9_roadAt_34 rfl (Or.inl ⟨_, rfl⟩) ⟨rfl, Or.inr ⟨hrd, rfl⟩⟩
    · refine ev_null (q := 18) dX9_roadAt_17 rfl ?_
      refine ev_goto (q := 34) dX9_roadAt_18 (by decide) ?_
      exact ev_areturnN dX9_roadAt_34 rfl (Or.inl ⟨_, rfl⟩) ⟨rfl, Or.inl ⟨fun h => c14 (key.mp h).2, rfl⟩⟩
theorem c_lineAt {R L eR eL : Nat} {rd ld : Nat → Nat} (hS : RS N SH V R L rd ld eR eL) (hL : L = ix (s 36 11)) (hb : bLi s) (r : Int32) : MT G l yX9_lineAt kX9_lineAt (d + 3) 0 0 [.ref 4, .int r] (N, SH, V) (fun q S' => S' = (N, SH, V) ∧ ((¬ isLn s r ∧ q = some .null) ∨ (isLn s r ∧ q = some (.ref (ld (ix r)))))) := by
  refine MT.of (by decide) rfl rfl (n := 0) rfl (ls := [some (.ref 4), some (.int r)]) rfl ?_
  have hW : wC SH := hS.1
  have hLs := hS.2.2.2.2.2.2.1
  obtain ⟨fR, hfR⟩ := hLs.sh
  have key := isRd_ix (r := r) hb.1 (Int.le_trans hb.2 (by decide))
  rw [← hL] at key
  refine ev_iload1 (q := 1) dX9_lineAt_0 rfl ?_
  refine ev_if_lt (q := 4) (t := 17) dX9_lineAt_1 rfl (by decide) (fun c1 => ?_) (fun c1 => ?_)
  · refine ev_null (q := 18) dX9_lineAt_17 rfl ?_
    refine ev_goto (q := 34) dX9_lineAt_18 (by decide) ?_
    exact ev_areturnN dX9_lineAt_34 rfl (Or.inl ⟨_, rfl⟩) ⟨rfl, Or.inl ⟨fun h => (key.mp h).1 c1, rfl⟩⟩
  · refine ev_iload1 (q := 5) dX9_lineAt_4 rfl ?_
    refine ev_aload0 (q := 6) dX9_lineAt_5 rfl ?_
    refine ev_getR (q := 9) dX9_lineAt_6 g_X9_54 (hW _ _ rfl) rfl rfl rfl ?_
    refine ev_cF (K := kX9_lineAt) (pc := 9) (q := 14) (hLs.size (d := d + 2)) dX9_lineAt_9 l_X9_109 hfR rfl (Nat.le_of_ble_eq_true rfl) (Nat.le_refl _) rfl rfl (fun r S1 hp => ?_)
    obtain ⟨rfl, rfl⟩ := hp
    refine ev_icmp_lt (q := 17) (t := 21) dX9_lineAt_14 rfl (by decide) (fun c14 => ?_) (fun c14 => ?_)
    · have hrd : isLn s r := key.mpr ⟨c1, c14⟩
      have hlt := isLn_lt hb hrd
      have hix : ix r < L := by
        have := th_ixI hlt.1
        have := th_ixI hb.1
        omega
      obtain ⟨-, -, ⟨f, ha, -⟩, -, -⟩ := hS.2.2.2.2.2.2.2.2.2.2.1 (ix r) hix
      refine ev_aload0 (q := 22) dX9_lineAt_21 rfl ?_
      refine ev_getR (q := 25) dX9_lineAt_22 g_X9_54 (hW _ _ rfl) rfl rfl rfl ?_
      refine ev_iload1 (q := 26) dX9_lineAt_25 rfl ?_
      refine ev_cF (K := kX9_lineAt) (pc := 26) (q := 31) (hLs.get hix (th_self hlt.1)) dX9_lineAt_26 l_X9_287 hfR rfl (Nat.le_of_ble_eq_true rfl) (Nat.le_refl _) rfl rfl (fun r S1 hp => ?_)
      obtain ⟨rfl, rfl⟩ := hp
      refine ev_chk (q := 34) dX9_lineAt_31 ha rfl n_X9_220 rfl ?_
      exact ev_areturn dX9_lineAt_34 rfl (Or.inl ⟨_, rfl⟩) ⟨rfl, Or.inr ⟨hrd, rfl⟩⟩
    · refine ev_null (q := 18) dX9_lineAt_17 rfl ?_
      refine ev_goto (q := 34) dX9_lineAt_18 (by decide) ?_
      exact ev_areturnN dX9_lineAt_34 rfl (Or.inl ⟨_, rfl⟩) ⟨rfl, Or.inl ⟨fun h => c14 (key.mp h).2, rfl⟩⟩
/-! a road's own methods -/
theorem c_seenIn {a q j : Nat} (hA : rdS N SH a) (hq : SH q = some (.inl (0, 5, th_no))) (hj : j < 5) : MT G l yX6_seenIn kX6_seenIn (d + 1) 0 0 [.ref a, .int (nI j), .ref q] (N, SH, V) (th_is (sIn (V (a + 2) j) (V (a + 1) j) (V q j)) (N, SH, V)) := by
  refine MT.of (by decide) rfl rfl (n := 2) rfl (ls := [some (.ref a), some (.int (nI j)), some (.ref q), none, none]) rfl ?_
  obtain ⟨-, -, ⟨f, ha, hf0, hf1⟩, hb0, hb1⟩ := hA
  have hin : inR (nI j) 0 4 := by have := nI_toInt (n := j) (by omega); constructor <;> omega
  refine ev_iload1 (q := 1) dX6_seenIn_0 rfl ?_
  refine ev_cS (K := kX6_seenIn) (pc := 1) (q := 4) (c_isLayer _) dX6_seenIn_1 l_X6_22 rfl (Nat.le_of_ble_eq_true rfl) (Nat.le_refl _) rfl rfl (fun r S1 hp => ?_)
  rcases hp with ⟨rfl, ⟨hp1, rfl⟩ | ⟨hp1, rfl⟩⟩
  · refine ev_if_eq (q := 7) (t := 13) dX6_seenIn_4 rfl (by decide) (fun c4 => ?_) (fun c4 => ?_)
    · exact absurd c4 (by decide)
    · refine ev_iload1 (q := 8) dX6_seenIn_7 rfl ?_
      refine ev_aload2 (q := 9) dX6_seenIn_8 rfl ?_
      refine ev_alen (q := 10) dX6_seenIn_9 hq (by decide) rfl ?_
      refine ev_icmp_lt (q := 13) (t := 15) dX6_seenIn_10 rfl (by decide) (fun c10 => ?_) (fun c10 => ?_)
      · refine ev_aload0 (q := 16) dX6_seenIn_15 rfl ?_
        refine ev_getR (q := 19) dX6_seenIn_16 g_X6_15 ha rfl hf1 rfl ?_
        refine ev_iload1 (q := 20) dX6_seenIn_19 rfl ?_
        refine ev_iald (q := 21) dX6_seenIn_20 hb1 rfl hj (by decide) rfl ?_
        refine ev_aload0 (q := 22) dX6_seenIn_21 rfl ?_
        refine ev_getR (q := 25) dX6_seenIn_22 g_X6_9 ha rfl hf0 rfl ?_
        refine ev_iload1 (q := 26) dX6_seenIn_25 rfl ?_
        refine ev_iald (q := 27) dX6_seenIn_26 hb0 rfl hj (by decide) rfl ?_
        refine ev_isub (q := 28) dX6_seenIn_27 rfl ?_
        refine ev_iconst (q := 29) (v := 1) dX6_seenIn_28 rfl rfl ?_
        refine ev_iadd (q := 30) dX6_seenIn_29 rfl ?_
        refine ev_istore3 (q := 31) dX6_seenIn_30 rfl (by decide) rfl ?_
        refine ev_iconst (q := 32) (v := 1) dX6_seenIn_31 rfl rfl ?_
        refine ev_iload3 (q := 33) dX6_seenIn_32 rfl ?_
        refine ev_ishl (q := 34) dX6_seenIn_33 rfl ?_
        refine ev_iconst (q := 35) (v := 1) dX6_seenIn_34 rfl rfl ?_
        refine ev_isub (q := 36) dX6_seenIn_35 rfl ?_
        refine ev_aload0 (q := 37) dX6_seenIn_36 rfl ?_
        refine ev_getR (q := 40) dX6_seenIn_37 g_X6_9 ha rfl hf0 rfl ?_
        refine ev_iload1 (q := 41) dX6_seenIn_40 rfl ?_
        refine ev_iald (q := 42) dX6_seenIn_41 hb0 rfl hj (by decide) rfl ?_
        refine ev_ishl (q := 43) dX6_seenIn_42 rfl ?_
        refine ev_istore4 (q := 45) dX6_seenIn_43 rfl (by decide) rfl ?_
        refine ev_aload2 (q := 46) dX6_seenIn_45 rfl ?_
        refine ev_iload1 (q := 47) dX6_seenIn_46 rfl ?_
        refine ev_iald (q := 48) dX6_seenIn_47 hq rfl hj (by decide) rfl ?_
        refine ev_iload4 (q := 50) dX6_seenIn_48 rfl ?_
        refine ev_iand (q := 51) dX6_seenIn_50 rfl ?_
        exact ev_ireturn dX6_seenIn_51 rfl rfl ⟨rfl, rfl⟩
      · refine ev_iconst (q := 14) (v := 0) dX6_seenIn_13 rfl rfl ?_
        exact ev_ireturn dX6_seenIn_14 rfl rfl (absurd (nI_lt hj (by decide)) c10)
  · refine ev_if_eq (q := 7) (t := 13) dX6_seenIn_4 rfl (by decide) (fun c4 => ?_) (fun c4 => ?_)
    · refine ev_iconst (q := 14) (v := 0) dX6_seenIn_13 rfl rfl ?_
      exact ev_ireturn dX6_seenIn_14 rfl rfl (absurd hin hp1)
    · exact absurd c4 (by decide)
theorem c_setSpan {a : Nat} (hA : rdS N SH a) {j : Nat} (hj : j < 5) {x v : Int32} (hx : x = nI j) (hv : isSp v) : MT G l yX6_setSpan kX6_setSpan (d + 1) 0 0 [.ref a, .int x, .int v] (N, SH, V) (fun r S' => r = none ∧ S' = (N, SH, th_w (th_w V (a + 1) j (v / 100)) (a + 2) j (v - v / 100 * 100))) := by
  refine MT.of (by decide) rfl rfl (n := 0) rfl (ls := [some (.ref a), some (.int x), some (.int v)]) rfl ?_
  obtain ⟨-, -, ⟨f, ha, hf0, hf1⟩, hb0, hb1⟩ := hA
  have hin : inR x 0 4 := by have := nI_toInt (n := j) (by omega); rw [hx]; constructor <;> omega
  refine ev_iload1 (q := 1) dX6_setSpan_0 rfl ?_
  refine ev_cS (K := kX6_setSpan) (pc := 1) (q := 4) (c_isLayer _) dX6_setSpan_1 l_X6_22 rfl (Nat.le_of_ble_eq_true rfl) (Nat.le_refl _) rfl rfl (fun r S1 hp => ?_)
  rcases hp with ⟨rfl, ⟨hp1, rfl⟩ | ⟨hp1, rfl⟩⟩
  · refine ev_if_eq (q := 7) (t := 34) dX6_setSpan_4 rfl (by decide) (fun c4 => ?_) (fun c4 => ?_)
    · exact absurd c4 (by decide)
    · refine ev_iload2 (q := 8) dX6_setSpan_7 rfl ?_
      refine ev_cS (K := kX6_setSpan) (pc := 8) (q := 11) (c_isSpan _) dX6_setSpan_8 l_X6_26 rfl (Nat.le_of_ble_eq_true rfl) (Nat.le_refl _) rfl rfl (fun r S1 hp => ?_)
      rcases hp with ⟨rfl, ⟨hp8, rfl⟩ | ⟨hp8, rfl⟩⟩
      · refine ev_if_eq (q := 14) (t := 34) dX6_setSpan_11 rfl (by decide) (fun c11 => ?_) (fun c11 => ?_)
        · exact absurd c11 (by decide)
        · refine ev_aload0 (q := 15) dX6_setSpan_14 rfl ?_
          refine ev_getR (q := 18) dX6_setSpan_15 g_X6_9 ha rfl hf0 rfl ?_
          refine ev_iload1 (q := 19) dX6_setSpan_18 rfl ?_
          refine ev_iload2 (q := 20) dX6_setSpan_19 rfl ?_
          refine ev_bipush (q := 22) (v := 100) dX6_setSpan_20 rfl rfl ?_
          refine ev_idiv (q := 23) dX6_setSpan_22 (by decide) rfl ?_
          refine ev_iast (q := 24) dX6_setSpan_23 hb0 hx hj (by decide) rfl ?_
          refine ev_aload0 (q := 25) dX6_setSpan_24 rfl ?_
          refine ev_getR (q := 28) dX6_setSpan_25 g_X6_15 ha rfl hf1 rfl ?_
          refine ev_iload1 (q := 29) dX6_setSpan_28 rfl ?_
          refine ev_iload2 (q := 30) dX6_setSpan_29 rfl ?_
          refine ev_bipush (q := 32) (v := 100) dX6_setSpan_30 rfl rfl ?_
          refine ev_irem (q := 33) dX6_setSpan_32 (by decide) rfl ?_
          refine ev_iast (q := 34) dX6_setSpan_33 hb1 hx hj (by decide) rfl ?_
          exact ev_return dX6_setSpan_34 rfl ⟨rfl, rfl⟩
      · refine ev_if_eq (q := 14) (t := 34) dX6_setSpan_11 rfl (by decide) (fun c11 => ?_) (fun c11 => ?_)
        · exact ev_return dX6_setSpan_34 rfl (absurd hv hp8)
        · exact absurd c11 (by decide)
  · refine ev_if_eq (q := 7) (t := 34) dX6_setSpan_4 rfl (by decide) (fun c4 => ?_) (fun c4 => ?_)
    · exact ev_return dX6_setSpan_34 rfl (absurd hin hp1)
    · exact absurd c4 (by decide)
theorem c_spanTold {a : Nat} (hA : rdS N SH a) {j : Nat} (hj : j < 5) {x : Int32} (hx : x = nI j) : MT G l yX6_spanTold kX6_spanTold (d + 1) 0 0 [.ref a, .int x] (N, SH, V) (th_is (100 * V (a + 1) j + V (a + 2) j) (N, SH, V)) := by
  refine MT.of (by decide) rfl rfl (n := 0) rfl (ls := [some (.ref a), some (.int x)]) rfl ?_
  obtain ⟨-, -, ⟨f, ha, hf0, hf1⟩, hb0, hb1⟩ := hA
  have hin : inR x 0 4 := by have := nI_toInt (n := j) (by omega); rw [hx]; constructor <;> omega
  refine ev_iload1 (q := 1) dX6_spanTold_0 rfl ?_
  refine ev_cS (K := kX6_spanTold) (pc := 1) (q := 4) (c_isLayer _) dX6_spanTold_1 l_X6_22 rfl (Nat.le_of_ble_eq_true rfl) (Nat.le_refl _) rfl rfl (fun r S1 hp => ?_)
  rcases hp with ⟨rfl, ⟨hp1, rfl⟩ | ⟨hp1, rfl⟩⟩
  · refine ev_if_eq (q := 7) (t := 26) dX6_spanTold_4 rfl (by decide) (fun c4 => ?_) (fun c4 => ?_)
    · exact absurd c4 (by decide)
    · refine ev_bipush (q := 9) (v := 100) dX6_spanTold_7 rfl rfl ?_
      refine ev_aload0 (q := 10) dX6_spanTold_9 rfl ?_
      refine ev_getR (q := 13) dX6_spanTold_10 g_X6_9 ha rfl hf0 rfl ?_
      refine ev_iload1 (q := 14) dX6_spanTold_13 rfl ?_
      refine ev_iald (q := 15) dX6_spanTold_14 hb0 hx hj (by decide) rfl ?_
      refine ev_imul (q := 16) dX6_spanTold_15 rfl ?_
      refine ev_aload0 (q := 17) dX6_spanTold_16 rfl ?_
      refine ev_getR (q := 20) dX6_spanTold_17 g_X6_15 ha rfl hf1 rfl ?_
      refine ev_iload1 (q := 21) dX6_spanTold_20 rfl ?_
      refine ev_iald (q := 22) dX6_spanTold_21 hb1 hx hj (by decide) rfl ?_
      refine ev_iadd (q := 23) dX6_spanTold_22 rfl ?_
      refine ev_goto (q := 27) dX6_spanTold_23 (by decide) ?_
      exact ev_ireturn dX6_spanTold_27 rfl rfl ⟨rfl, rfl⟩
  · refine ev_if_eq (q := 7) (t := 26) dX6_spanTold_4 rfl (by decide) (fun c4 => ?_) (fun c4 => ?_)
    · refine ev_iconst (q := 27) (v := 0) dX6_spanTold_26 rfl rfl ?_
      exact ev_ireturn dX6_spanTold_27 rfl rfl (absurd hin hp1)
    · exact absurd c4 (by decide)
end C4
