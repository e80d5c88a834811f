/-! the reference's calls with loops -/
theorem th_w_seg {V : th_Vl} {a lo n b k : Nat} {f : Nat → Int32} {x : Int32} (h : a ≠ b) : th_w (th_seg V a lo n f) b k x = th_seg (th_w V b k x) a lo n f := by
  funext c j
  rw [th_w_if]
  unfold th_seg
  by_cases h1 : c = b ∧ j = k
  · obtain ⟨rfl, rfl⟩ := h1
    rw [if_pos ⟨rfl, rfl⟩, if_neg (fun z => h z.1.symm), th_w_if, if_pos ⟨rfl, rfl⟩]
  · rw [if_neg h1]
    by_cases h2 : c = a ∧ lo ≤ j ∧ j < lo + n
    · rw [if_pos h2, if_pos h2]
    · rw [if_neg h2, if_neg h2, th_w_if, if_neg h1]
theorem th_seg_s0 {V : th_Vl} {a i : Nat} {f : Nat → Int32} : th_w (th_seg V a 0 i f) a i (f i) = th_seg V a 0 (i + 1) f := by
  have h := th_seg_s (V := V) (a := a) (lo := 0) (i := i) (f := f)
  rw [Nat.zero_add] at h
  exact h
theorem nI_lit {k : Nat} : nI k + 1 = nI (k + 1) := (nI_succ k).symm
def bKp (s : th_Vl) : Prop := 0 ≤ (s 36 22).toInt
def bSz (s : th_Vl) : Prop := ∀ r, r < 3 → (s 38 r).toInt ≤ 20
def bTp (s : th_Vl) : Prop := inR (s 36 10) 0 60
/-- the place of a raw crossing -/
def rat (s : th_Vl) (k : Int32) : Nat := (ix (s 36 22) - 1 - ix k) % 30
def isRw (s : th_Vl) (k : Int32) : Prop := inR k 0 (rws s - 1).toInt
theorem th_km {K j : Nat} (hK : K < 2 ^ 31) (hj : j < K) : (nI K - 1 - nI j) - (nI K - 1 - nI j) / 30 * 30 = nI ((K - 1 - j) % 30) := by
  rw [show (1 : Int32) = nI 1 from rfl, pk_sub (by omega), pk_sub (by omega), show (30 : Int32) = nI 30 from rfl]
  exact pk_rem (by omega) (by decide) (by decide)
theorem isRw_lt {s : th_Vl} {k : Int32} (hb : bKp s) (h : inR k 0 (rws s - 1).toInt) : 0 ≤ k.toInt ∧ k.toInt < (s 36 22).toInt ∧ k.toInt < 30 := by
  have h0 := h.1
  have h2 := h.2
  have hb : 0 ≤ (s 36 22).toInt := hb
  unfold rws at h2
  by_cases hc : 30 ≤ s 36 22
  · rw [if_pos hc] at h2
    have h3 : (30 - 1 : Int32).toInt = 29 := by decide
    rw [h3] at h2
    have h4 : (30 : Int32).toInt ≤ _ := i_le.mp hc
    have h5 : (30 : Int32).toInt = 30 := by decide
    omega
  · rw [if_neg hc] at h2
    have h4 := i_nle hc
    have h5 : (30 : Int32).toInt = 30 := by decide
    have h6 := th_m1 hb (by omega)
    omega
theorem rat_lt {s : th_Vl} {k : Int32} : rat s k < 30 := Nat.mod_lt _ (by decide)
def n_noh (s : th_Vl) : th_Vl := th_seg s 40 0 5 (fun _ => 0)
def a_again (s : th_Vl) (k : Int32) : Int32 := if inR k 0 (rws s - 1).toInt then ah (fun l => s 56 (5 * rat s k + l)) 5 else -1
def n_again (s : th_Vl) (k : Int32) : th_Vl := if inR k 0 (rws s - 1).toInt then th_seg s 40 0 5 (fun l => s 56 (5 * rat s k + l)) else s
def n_anew (s : th_Vl) : th_Vl := th_seg (th_seg (th_seg (th_seg (th_w (th_w (th_w (th_w (th_w s 36 20 0) 36 21 0) 36 22 0) 36 23 0) 36 25 0) 50 0 8 (fun _ => 0)) 51 0 8 (fun _ => 0)) 52 0 8 (fun _ => 0)) 53 0 8 (fun _ => 0)
theorem ah_f {f g : Nat → Int32} : ∀ n, (∀ j, j < n → f j = g j) → ah f n = ah g n
  | 0, _ => rfl
  | k + 1, h => by rw [ah, ah, ah_f k (fun j hj => h j (by omega)), h k (by omega)]
section M4
variable {G : th_G} {l : Launch} {d : Nat} {n : Nat} {SH : Nat → Option th_K0} {V : th_Vl}
theorem m_rawAt (hW : wM SH) {K j : Nat} {k : Int32} (hK : K < 2 ^ 31) (hV : V 36 22 = nI K) (hk : k = nI j) (hj : j < K) : MT G l yX10_rawAt kX10_rawAt d 0 0 [.ref 36, .int k] (n, SH, V) (th_is (nI ((K - 1 - j) % 30)) (n, SH, V)) := by
  refine MT.of (by decide) rfl rfl (n := 0) rfl (ls := [some (.ref 36), some (.int k)]) rfl ?_
  refine ev_aload0 (q := 1) dX10_rawAt_0 rfl ?_
  refine ev_getI (q := 4) dX10_rawAt_1 g_X10_223 (hW _ _ rfl) rfl rfl ?_
  refine ev_iconst (q := 5) (v := 1) dX10_rawAt_4 rfl rfl ?_
  refine ev_isub (q := 6) dX10_rawAt_5 rfl ?_
  refine ev_iload1 (q := 7) dX10_rawAt_6 rfl ?_
  refine ev_isub (q := 8) dX10_rawAt_7 rfl ?_
  refine ev_bipush (q := 10) (v := 30) dX10_rawAt_8 rfl rfl ?_
  refine ev_irem (q := 11) dX10_rawAt_10 (by decide) rfl ?_
  exact ev_ireturn dX10_rawAt_11 rfl rfl ⟨congrArg (fun z => some (Value.int z)) (by rw [hk]; show V 36 22 - 1 - nI j - (V 36 22 - 1 - nI j) / 30 * 30 = _; rw [hV]; exact th_km hK hj), rfl⟩
theorem m_noHits (hW : wM SH) : MT G l yX10_noHits kX10_noHits d 0 0 [.ref 36] (n, SH, V) (fun r S' => r = none ∧ S' = (n, SH, n_noh V)) := by
  refine MT.of (by decide) rfl rfl (n := 1) rfl (ls := [some (.ref 36), none]) rfl ?_
  have lp : ∀ i, i ≤ 5 → EV G l kX10_noHits d 0 0 2 [some (.ref 36), some (.int (nI i))] [] (n, SH, th_seg V 40 0 i (fun _ => 0)) (fun r S' => r = none ∧ S' = (n, SH, n_noh V)) := by
    refine th_down 5 ?_ ?_
    · refine ev_iload1 (q := 3) dX10_noHits_2 rfl ?_
      refine ev_iconst (q := 4) (v := 5) dX10_noHits_3 rfl rfl ?_
      refine ev_icmp_ge (q := 7) (t := 20) dX10_noHits_4 rfl (by decide) (fun c => ?_) (fun c => ?_)
      · exact ev_return dX10_noHits_20 rfl ⟨rfl, rfl⟩
      · exact absurd (by decide) c
    · intro i hi ih
      refine ev_iload1 (q := 3) dX10_noHits_2 rfl ?_
      refine ev_iconst (q := 4) (v := 5) dX10_noHits_3 rfl rfl ?_
      refine ev_icmp_ge (q := 7) (t := 20) dX10_noHits_4 rfl (by decide) (fun c => ?_) (fun c => ?_)
      · exact absurd c (nI_ge hi (by decide))
      · refine ev_aload0 (q := 8) dX10_noHits_7 rfl ?_
        refine ev_getR (q := 11) dX10_noHits_8 g_X10_19 (hW _ _ rfl) rfl rfl rfl ?_
        refine ev_iload1 (q := 12) dX10_noHits_11 rfl ?_
        refine ev_iconst (q := 13) (v := 0) dX10_noHits_12 rfl rfl ?_
        refine ev_iast (q := 14) dX10_noHits_13 (hW _ _ rfl) rfl hi (by decide) rfl ?_
        refine ev_iinc1 (q := 17) dX10_noHits_14 rfl (by decide) rfl (nI_succ i).symm ?_
        refine ev_goto (q := 2) dX10_noHits_17 (by decide) ?_
        rw [← th_seg_s0] at ih
        exact ih
  refine ev_iconst (q := 1) (v := 0) dX10_noHits_0 rfl rfl ?_
  refine ev_istore1 (q := 2) dX10_noHits_1 rfl (by decide) rfl ?_
  have h := lp 0 (by decide)
  rw [th_seg_0] at h
  exact h
theorem m_again (hW : wM SH) (hb : bKp (res V)) (k : Int32) : MT G l yX10_again kX10_again (d + 2) 0 0 [.ref 36, .int k] (n, SH, V) (MP n SH V (a_again (res V) k) (n_again (res V) k)) := by
  refine MT.of (by decide) rfl rfl (n := 2) rfl (ls := [some (.ref 36), some (.int k), none, none]) rfl ?_
  refine ev_iload1 (q := 1) dX10_again_0 rfl ?_
  refine ev_i2l (q := 2) dX10_again_1 rfl ?_
  refine ev_lconst (q := 3) (v := 0) dX10_again_2 rfl rfl ?_
  refine ev_aload0 (q := 4) dX10_again_3 rfl ?_
  refine ev_cV (K := kX10_again) (pc := 4) (q := 7) (m_raws hW) dX10_again_4 l_X10_246 (hW _ _ rfl) rfl rfl (Nat.le_of_ble_eq_true rfl) (Nat.le_refl _) rfl rfl (fun r S1 hp => ?_)
  obtain ⟨rfl, rfl⟩ := hp
  refine ev_iconst (q := 8) (v := 1) dX10_again_7 rfl rfl ?_
  refine ev_isub (q := 9) dX10_again_8 rfl ?_
  refine ev_i2l (q := 10) dX10_again_9 rfl ?_
  refine ev_cS (K := kX10_again) (pc := 10) (q := 13) (m_inI _ _ _ l_0 th_64) dX10_again_10 l_X10_95 rfl (Nat.le_of_ble_eq_true rfl) (Nat.le_refl _) rfl rfl (fun r S1 hp => ?_)
  rcases hp with ⟨rfl, ⟨hp10, rfl⟩ | ⟨hp10, rfl⟩⟩
  · refine ev_if_ne (q := 16) (t := 18) dX10_again_13 rfl (by decide) (fun c13 => ?_) (fun c13 => ?_)
    · have hr := isRw_lt hb hp10
      have hKe : V 36 22 = nI (ix (V 36 22)) := th_self (Int.le_trans hr.1 (Int.le_of_lt hr.2.1))
      have hjK : ix k < ix (V 36 22) := by
        have h1 := th_ixI hr.1
        have h2 := th_ixI (x := V 36 22) (Int.le_trans hr.1 (Int.le_of_lt hr.2.1))
        have h3 : k.toInt < (V 36 22).toInt := hr.2.1
        omega
      have hK2 : ix (V 36 22) < 2 ^ 31 := by
        have := Int32.toInt_lt (V 36 22)
        have h2 := th_ixI (x := V 36 22) (Int.le_trans hr.1 (Int.le_of_lt hr.2.1))
        omega
      refine ev_aload0 (q := 19) dX10_again_18 rfl ?_
      refine ev_iload1 (q := 20) dX10_again_19 rfl ?_
      refine ev_cV (K := kX10_again) (pc := 20) (q := 23) (m_rawAt hW hK2 hKe (th_self hr.1) hjK) dX10_again_20 l_X10_251 (hW _ _ rfl) rfl rfl (Nat.le_of_ble_eq_true rfl) (Nat.le_refl _) rfl rfl (fun r S1 hp => ?_)
      obtain ⟨rfl, rfl⟩ := hp
      have hrl : rat V k < 30 := rat_lt
      have lp : ∀ i, i ≤ 5 → EV G l kX10_again (d + 2) 0 0 26 [some (.ref 36), some (.int k), some (.int (nI (rat V k))), some (.int (nI i))] [] (n, SH, th_seg V 40 0 i (fun l => V 56 (5 * rat V k + l))) (MP n SH V (a_again (res V) k) (n_again (res V) k)) := by
        refine th_down 5 ?_ ?_
        · refine ev_iload3 (q := 27) dX10_again_26 rfl ?_
          refine ev_iconst (q := 28) (v := 5) dX10_again_27 rfl rfl ?_
          refine ev_icmp_ge (q := 31) (t := 53) dX10_again_28 rfl (by decide) (fun c => ?_) (fun c => ?_)
          · refine ev_aload0 (q := 54) dX10_again_53 rfl ?_
            refine ev_cV (K := kX10_again) (pc := 54) (q := 57) (m_allHits hW) dX10_again_54 l_X10_112 (hW _ _ rfl) rfl rfl (Nat.le_of_ble_eq_true rfl) (Nat.le_refl _) rfl rfl (fun r S1 hp => ?_)
            obtain ⟨rfl, rfl⟩ := hp
            exact ev_ireturn dX10_again_57 rfl rfl (MP.mk _ ((if_pos hp10).trans (ah_f 5 (fun j hj => (th_seg_in (V := V) (f := fun l => V 56 (5 * rat V k + l)) (a := 40) (lo := 0) (n := 5) (Nat.zero_le j) (by omega)).symm))) ((if_pos hp10).trans (res_seg (fun _ => rfl)).symm) (FM.rf.sg (by decide)))
          · exact absurd (by decide) c
        · intro i hi ih
          refine ev_iload3 (q := 27) dX10_again_26 rfl ?_
          refine ev_iconst (q := 28) (v := 5) dX10_again_27 rfl rfl ?_
          refine ev_icmp_ge (q := 31) (t := 53) dX10_again_28 rfl (by decide) (fun c => ?_) (fun c => ?_)
          · exact absurd c (nI_ge hi (by decide))
          · refine ev_aload0 (q := 32) dX10_again_31 rfl ?_
            refine ev_getR (q := 35) dX10_again_32 g_X10_19 (hW _ _ rfl) rfl rfl rfl ?_
            refine ev_iload3 (q := 36) dX10_again_35 rfl ?_
            refine ev_aload0 (q := 37) dX10_again_36 rfl ?_
            refine ev_getR (q := 40) dX10_again_37 g_X10_69 (hW _ _ rfl) rfl rfl rfl ?_
            refine ev_iconst (q := 41) (v := 5) dX10_again_40 rfl rfl ?_
            refine ev_iload2 (q := 42) dX10_again_41 rfl ?_
            refine ev_imul (q := 43) dX10_again_42 rfl ?_
            refine ev_iload3 (q := 44) dX10_again_43 rfl ?_
            refine ev_iadd (q := 45) dX10_again_44 rfl ?_
            refine ev_iald (q := 46) dX10_again_45 (hW _ _ rfl) (th_5 rfl rfl) (show 5 * rat V k + i < 150 by omega) (by decide) rfl ?_
            refine ev_iast (q := 47) dX10_again_46 (hW _ _ rfl) rfl hi (by decide) rfl ?_
            refine ev_iinc3 (q := 50) dX10_again_47 rfl (by decide) rfl (nI_succ i).symm ?_
            refine ev_goto (q := 26) dX10_again_50 (by decide) ?_
            rw [← th_seg_s0] at ih
            exact ih
      refine ev_istore2 (q := 24) dX10_again_23 rfl (by decide) rfl ?_
      refine ev_iconst (q := 25) (v := 0) dX10_again_24 rfl rfl ?_
      refine ev_istore3 (q := 26) dX10_again_25 rfl (by decide) rfl ?_
      have h := lp 0 (by decide)
      rw [th_seg_0] at h
      exact h
    · exact absurd c13 (by decide)
  · refine ev_if_ne (q := 16) (t := 18) dX10_again_13 rfl (by decide) (fun c13 => ?_) (fun c13 => ?_)
    · exact absurd c13 (by decide)
    · refine ev_iconst (q := 17) (v := (-1)) dX10_again_16 rfl rfl ?_
      exact ev_ireturn dX10_again_17 rfl rfl (MP.mk _ (if_neg hp10) (if_neg hp10) FM.rf)
theorem m_anew (hW : wM SH) : MT G l yX10_anew kX10_anew d 0 0 [.ref 36] (n, SH, V) (MP n SH V (res V 36 20) (n_anew (res V))) := by
  refine MT.of (by decide) rfl rfl (n := 2) rfl (ls := [some (.ref 36), none, none]) rfl ?_
  have lp : ∀ i, i ≤ 8 → ∀ W : th_Vl, FM V W → EV G l kX10_anew d 0 0 32 [some (.ref 36), some (.int (V 36 20)), some (.int (nI i))] [] (n, SH, th_seg (th_seg (th_seg (th_seg W 50 0 i (fun _ => 0)) 51 0 i (fun _ => 0)) 52 0 i (fun _ => 0)) 53 0 i (fun _ => 0)) (MP n SH V (res V 36 20) (th_seg (th_seg (th_seg (th_seg (res W) 50 0 8 (fun _ => 0)) 51 0 8 (fun _ => 0)) 52 0 8 (fun _ => 0)) 53 0 8 (fun _ => 0))) := by
    refine th_down 8 ?_ ?_
    · intro W hF
      refine ev_iload2 (q := 33) dX10_anew_32 rfl ?_
      refine ev_bipush (q := 35) (v := 8) dX10_anew_33 rfl rfl ?_
      refine ev_icmp_ge (q := 38) (t := 72) dX10_anew_35 rfl (by decide) (fun c => ?_) (fun c => ?_)
      · refine ev_iload1 (q := 73) dX10_anew_72 rfl ?_
        exact ev_ireturn dX10_anew_73 rfl rfl (MP.mk _ rfl (by rw [res_seg (fun _ => rfl), res_seg (fun _ => rfl), res_seg (fun _ => rfl), res_seg (fun _ => rfl)]) ((((hF.sg (by decide)).sg (by decide)).sg (by decide)).sg (by decide)))
      · exact absurd (by decide) c
    · intro i hi ih W hF
      have ih := ih W hF
      refine ev_iload2 (q := 33) dX10_anew_32 rfl ?_
      refine ev_bipush (q := 35) (v := 8) dX10_anew_33 rfl rfl ?_
      refine ev_icmp_ge (q := 38) (t := 72) dX10_anew_35 rfl (by decide) (fun c => ?_) (fun c => ?_)
      · exact absurd c (nI_ge hi (by decide))
      · refine ev_aload0 (q := 39) dX10_anew_38 rfl ?_
        refine ev_getR (q := 42) dX10_anew_39 g_X10_51 (hW _ _ rfl) rfl rfl rfl ?_
        refine ev_iload2 (q := 43) dX10_anew_42 rfl ?_
        refine ev_iconst (q := 44) (v := 0) dX10_anew_43 rfl rfl ?_
        refine ev_iast (q := 45) dX10_anew_44 (hW _ _ rfl) rfl hi (by decide) rfl ?_
        refine ev_aload0 (q := 46) dX10_anew_45 rfl ?_
        refine ev_getR (q := 49) dX10_anew_46 g_X10_54 (hW _ _ rfl) rfl rfl rfl ?_
        refine ev_iload2 (q := 50) dX10_anew_49 rfl ?_
        refine ev_iconst (q := 51) (v := 0) dX10_anew_50 rfl rfl ?_
        refine ev_iast (q := 52) dX10_anew_51 (hW _ _ rfl) rfl hi (by decide) rfl ?_
        refine ev_aload0 (q := 53) dX10_anew_52 rfl ?_
        refine ev_getR (q := 56) dX10_anew_53 g_X10_57 (hW _ _ rfl) rfl rfl rfl ?_
        refine ev_iload2 (q := 57) dX10_anew_56 rfl ?_
        refine ev_iconst (q := 58) (v := 0) dX10_anew_57 rfl rfl ?_
        refine ev_iast (q := 59) dX10_anew_58 (hW _ _ rfl) rfl hi (by decide) rfl ?_
        refine ev_aload0 (q := 60) dX10_anew_59 rfl ?_
        refine ev_getR (q := 63) dX10_anew_60 g_X10_60 (hW _ _ rfl) rfl rfl rfl ?_
        refine ev_iload2 (q := 64) dX10_anew_63 rfl ?_
        refine ev_iconst (q := 65) (v := 0) dX10_anew_64 rfl rfl ?_
        refine ev_iast (q := 66) dX10_anew_65 (hW _ _ rfl) rfl hi (by decide) rfl ?_
        refine ev_iinc2 (q := 69) dX10_anew_66 rfl (by decide) rfl (nI_succ i).symm ?_
        refine ev_goto (q := 32) dX10_anew_69 (by decide) ?_
        rw [← th_seg_s0 (a := 50), ← th_seg_s0 (a := 51), ← th_seg_s0 (a := 52), ← th_seg_s0 (a := 53)] at ih
        rw [← th_w_seg (a := 51) (b := 50) (by decide), ← th_w_seg (a := 52) (b := 51) (by decide), ← th_w_seg (a := 52) (b := 50) (by decide), ← th_w_seg (a := 53) (b := 52) (by decide), ← th_w_seg (a := 53) (b := 51) (by decide), ← th_w_seg (a := 53) (b := 50) (by decide)] at ih
        exact ih
  refine ev_aload0 (q := 1) dX10_anew_0 rfl ?_
  refine ev_getI (q := 4) dX10_anew_1 g_X10_226 (hW _ _ rfl) rfl rfl ?_
  refine ev_istore1 (q := 5) dX10_anew_4 rfl (by decide) rfl ?_
  refine ev_aload0 (q := 6) dX10_anew_5 rfl ?_
  refine ev_iconst (q := 7) (v := 0) dX10_anew_6 rfl rfl ?_
  refine ev_putI (q := 10) dX10_anew_7 (p_X10_226 _) (hW _ _ rfl) rfl rfl rfl rfl ?_
  refine ev_aload0 (q := 11) dX10_anew_10 rfl ?_
  refine ev_iconst (q := 12) (v := 0) dX10_anew_11 rfl rfl ?_
  refine ev_putI (q := 15) dX10_anew_12 (p_X10_235 _) (hW _ _ rfl) rfl rfl rfl rfl ?_
  refine ev_aload0 (q := 16) dX10_anew_15 rfl ?_
  refine ev_iconst (q := 17) (v := 0) dX10_anew_16 rfl rfl ?_
  refine ev_putI (q := 20) dX10_anew_17 (p_X10_223 _) (hW _ _ rfl) rfl rfl rfl rfl ?_
  refine ev_aload0 (q := 21) dX10_anew_20 rfl ?_
  refine ev_iconst (q := 22) (v := 0) dX10_anew_21 rfl rfl ?_
  refine ev_putI (q := 25) dX10_anew_22 (p_X10_220 _) (hW _ _ rfl) rfl rfl rfl rfl ?_
  refine ev_aload0 (q := 26) dX10_anew_25 rfl ?_
  refine ev_iconst (q := 27) (v := 0) dX10_anew_26 rfl rfl ?_
  refine ev_putI (q := 30) dX10_anew_27 (p_X10_232 _) (hW _ _ rfl) rfl rfl rfl rfl ?_
  refine ev_iconst (q := 31) (v := 0) dX10_anew_30 rfl rfl ?_
  refine ev_istore2 (q := 32) dX10_anew_31 rfl (by decide) rfl ?_
  have h := lp 0 (by decide) _ (((((FM.rf (V := V)).w (a := 36) (k := 20) (x := 0) (by decide)).w (a := 36) (k := 21) (x := 0) (by decide)).w (a := 36) (k := 22) (x := 0) (by decide)).w (a := 36) (k := 23) (x := 0) (by decide) |>.w (a := 36) (k := 25) (x := 0) (by decide))
  rw [th_seg_0, th_seg_0, th_seg_0, th_seg_0] at h
  rw [res_w (by rfl), res_w (by rfl), res_w (by rfl), res_w (by rfl), res_w (by rfl)] at h
  exact h
end M4
