/-! the reference: what is asked of tracks -/
def a_track (s : th_Vl) (r x : Int32) : Int32 := if ¬ (isRd s r ∧ inR x 0 4) then -1 else if litB s (ix r) = false ∨ (th_nth (tb s (ix r)).2.2 (ix x) 0).toInt < 0 then -5 else th_nth (tb s (ix r)).2.2 (ix x) 0
def wtb (h : Int32) (b : th_b) : Int32 := if 0 ≤ (100 * mb h 16 - 10 * b.1 / b.2.1).toInt then 100 * mb h 16 - 10 * b.1 / b.2.1 else 0
def wS (s : th_Vl) (i : Nat) : Int32 := wtb (hmR s i) (tb s i)
def a_weight (s : th_Vl) (r : Int32) : Int32 := if ¬ isRd s r then -1 else if litB s (ix r) = true then wS s (ix r) else -5
def a_miss (s : th_Vl) (r w : Int32) : Int32 := if ¬ (isRd s r ∧ inR w 0 1) then -1 else if litB s (ix r) = false then -5 else if w = 0 then (tb s (ix r)).1 / nI (Nat.gcd (ix (tb s (ix r)).1) (ix (tb s (ix r)).2.1)) else (tb s (ix r)).2.1 / nI (Nat.gcd (ix (tb s (ix r)).1) (ix (tb s (ix r)).2.1))
/-- two tracks have no cell of a layer both, layers below k -/
def apB (t u : List Int32) : Nat → Bool
  | 0 => true
  | k + 1 => apB t u k && (decide ((th_nth t k 0).toInt < 0) || decide (¬ th_nth t k 0 = th_nth u k 0))
theorem th_nz {x : Int32} (h : 0 < x.toInt) : ¬ x = 0 := fun e => by rw [e] at h; exact absurd h (by decide)
theorem gcd_step (a b : Nat) : Nat.gcd a b = Nat.gcd b (a % b) := by
  rw [Nat.gcd_comm a b, Nat.gcd_rec b a, Nat.gcd_comm]
section M11
variable {G : th_G} {l : Launch} {d : Nat} {n : Nat} {SH : Nat → Option th_K0} {V : th_Vl}
theorem m_common (S : th_S) (a b : Nat) (ha : a < 2 ^ 31) (hb : b < 2 ^ 31) : MT G l yX10_common kX10_common d 0 0 [.int (nI a), .int (nI b)] S (th_is (nI (Nat.gcd a b)) S) := by
  refine MT.of (by decide) rfl rfl (n := 3) rfl (ls := [some (.int (nI a)), some (.int (nI b)), none, none, none]) rfl ?_
  have lp : ∀ (m y x : Nat) (o4 : Option Value), y < m → x < 2 ^ 31 → y < 2 ^ 31 → Nat.gcd x y = Nat.gcd a b → th_c1 [o4] = true → EV G l kX10_common d 0 0 4 [some (.int (nI a)), some (.int (nI b)), some (.int (nI x)), some (.int (nI y)), o4] [] S (th_is (nI (Nat.gcd a b)) S) := by
    intro m
    induction m with
    | zero => intro y x o4 h; exact absurd h (Nat.not_lt_zero y)
    | succ m ih =>
      intro y x o4 hy hx hy2 hg ho
      refine ev_iload3 (q := 5) dX10_common_4 rfl ?_
      refine ev_if_le (q := 8) (t := 21) dX10_common_5 rfl (by decide) (fun c5 => ?_) (fun c5 => ?_)
      · have hy0 : y = 0 := by
          rcases Nat.eq_zero_or_pos y with z | z
          · exact z
          · exact absurd c5 (nI_nle z hy2)
        refine ev_iload2 (q := 22) dX10_common_21 rfl ?_
        exact ev_ireturn dX10_common_22 rfl rfl ⟨by rw [← hg, hy0, Nat.gcd_zero_right], rfl⟩
      · have hy0 : 0 < y := by
          rcases Nat.eq_zero_or_pos y with z | z
          · exact absurd (by rw [z]; exact Int32.le_refl _) c5
          · exact z
        refine ev_iload2 (q := 9) dX10_common_8 rfl ?_
        refine ev_iload3 (q := 10) dX10_common_9 rfl ?_
        refine ev_irem (q := 11) dX10_common_10 (nI_ne0 hy0 hy2) rfl ?_
        refine ev_istore4 (q := 13) dX10_common_11 rfl (by decide) ho ?_
        refine ev_iload3 (q := 14) dX10_common_13 rfl ?_
        refine ev_istore2 (q := 15) dX10_common_14 rfl (by decide) rfl ?_
        refine ev_iload4 (q := 17) dX10_common_15 rfl ?_
        refine ev_istore3 (q := 18) dX10_common_17 rfl (by decide) rfl ?_
        refine ev_goto (q := 4) dX10_common_18 (by decide) ?_
        rw [pk_rem hx hy0 hy2]
        have := Nat.mod_lt x hy0
        exact ih (x % y) y _ (by omega) hy2 (by omega) (by rw [← hg, gcd_step x y]) rfl
  refine ev_iload0 (q := 1) dX10_common_0 rfl ?_
  refine ev_istore2 (q := 2) dX10_common_1 rfl (by decide) rfl ?_
  refine ev_iload1 (q := 3) dX10_common_2 rfl ?_
  refine ev_istore3 (q := 4) dX10_common_3 rfl (by decide) rfl ?_
  exact lp (b + 1) b a none (Nat.lt_succ_self b) ha hb rfl rfl
theorem m_track (hW : wM SH) (hb : bRo (res V)) (r x : Int32) : MT G l yX10_track kX10_track (d + 9) 0 0 [.ref 36, .int r, .int x] (n, SH, V) (MP n SH V (a_track (res V) r x) (res V)) := by
  refine MT.of (by decide) rfl rfl (n := 0) rfl (ls := [some (.ref 36), some (.int r), some (.int x)]) rfl ?_
  refine ev_aload0 (q := 1) dX10_track_0 rfl ?_
  refine ev_iload1 (q := 2) dX10_track_1 rfl ?_
  refine ev_cV (K := kX10_track) (pc := 2) (q := 5) (m_isRoad hW _) dX10_track_2 l_X10_128 (hW _ _ rfl) rfl rfl (Nat.le_of_ble_eq_true rfl) (Nat.le_refl _) rfl rfl (fun r S1 hp => ?_)
  rcases hp with ⟨rfl, ⟨hp2, rfl⟩ | ⟨hp2, rfl⟩⟩
  · refine ev_if_eq (q := 8) (t := 15) dX10_track_5 rfl (by decide) (fun c5 => ?_) (fun c5 => ?_)
    · exact absurd c5 (by decide)
    · refine ev_iload2 (q := 9) dX10_track_8 rfl ?_
      refine ev_cS (K := kX10_track) (pc := 9) (q := 12) (m_isLayer _) dX10_track_9 l_X10_105 rfl (Nat.le_of_ble_eq_true rfl) (Nat.le_refl _) rfl rfl (fun r S1 hp => ?_)
      rcases hp with ⟨rfl, ⟨hp9, rfl⟩ | ⟨hp9, rfl⟩⟩
      · refine ev_if_ne (q := 15) (t := 17) dX10_track_12 rfl (by decide) (fun c12 => ?_) (fun c12 => ?_)
        · have hr := isRd_lt hb hp2
          have hx := th_lt (n := 5) hp9.1 (by omega)
          have hok : ¬ ¬ (isRd (res V) r ∧ inR x 0 4) := not_not_intro ⟨hp2, hp9⟩
          refine ev_aload0 (q := 18) dX10_track_17 rfl ?_
          refine ev_iload1 (q := 19) dX10_track_18 rfl ?_
          refine ev_cV (K := kX10_track) (pc := 19) (q := 22) (m_findTrack hW hr.2.2 (th_self hr.1)) dX10_track_19 l_X10_152 (hW _ _ rfl) rfl rfl (Nat.le_of_ble_eq_true rfl) (Nat.le_refl _) rfl rfl (fun r S1 hp => ?_)
          rcases hp with ⟨hl, rfl, rfl⟩ | ⟨hl, rfl, Y, rfl, hY1, hY2⟩
          · refine ev_if_eq (q := 25) (t := 38) dX10_track_22 rfl (by decide) (fun c22 => ?_) (fun c22 => ?_)
            · refine ev_bipush (q := 40) (v := (-5)) dX10_track_38 rfl rfl ?_
              exact ev_ireturn dX10_track_40 rfl rfl (MP.mk _ ((if_neg hok).trans (if_pos (Or.inl hl))) rfl FM.rf)
            · exact absurd rfl c22
          · have hcell : Y 59 (5 * ix r + ix x) = th_nth (tb V (ix r)).2.2 (ix x) 0 := hY2.2.2 (ix x) hx
            refine ev_if_eq (q := 25) (t := 38) dX10_track_22 rfl (by decide) (fun c22 => ?_) (fun c22 => ?_)
            · exact absurd c22 (by decide)
            · refine ev_aload0 (q := 26) dX10_track_25 rfl ?_
              refine ev_getR (q := 29) dX10_track_26 g_X10_78 (hW _ _ rfl) rfl rfl rfl ?_
              refine ev_iconst (q := 30) (v := 5) dX10_track_29 rfl rfl ?_
              refine ev_iload1 (q := 31) dX10_track_30 rfl ?_
              refine ev_imul (q := 32) dX10_track_31 rfl ?_
              refine ev_iload2 (q := 33) dX10_track_32 rfl ?_
              refine ev_iadd (q := 34) dX10_track_33 rfl ?_
              refine ev_iald (q := 35) dX10_track_34 (hW _ _ rfl) (th_5 (th_self hr.1) (th_self hp9.1)) (by omega) (by decide) rfl ?_
              show EV G l kX10_track _ 0 0 35 _ [.int (Y 59 (5 * ix r + ix x))] _ _
              rw [hcell]
              refine ev_if_ge (q := 38) (t := 41) dX10_track_35 rfl (by decide) (fun c35 => ?_) (fun c35 => ?_)
              · have c35 := i_le.mp c35
                refine ev_aload0 (q := 42) dX10_track_41 rfl ?_
                refine ev_getR (q := 45) dX10_track_42 g_X10_78 (hW _ _ rfl) rfl rfl rfl ?_
                refine ev_iconst (q := 46) (v := 5) dX10_track_45 rfl rfl ?_
                refine ev_iload1 (q := 47) dX10_track_46 rfl ?_
                refine ev_imul (q := 48) dX10_track_47 rfl ?_
                refine ev_iload2 (q := 49) dX10_track_48 rfl ?_
                refine ev_iadd (q := 50) dX10_track_49 rfl ?_
                refine ev_iald (q := 51) dX10_track_50 (hW _ _ rfl) (th_5 (th_self hr.1) (th_self hp9.1)) (by omega) (by decide) rfl ?_
                exact ev_ireturn dX10_track_51 rfl rfl (MP.mk Y (((if_neg hok).trans (if_neg (fun z => z.elim (fun z => absurd (hl.symm.trans z) (by decide)) (fun z => absurd z (Int.not_lt.mpr c35))))).trans hcell.symm) hY1.resE.symm hY1.FM)
              · refine ev_bipush (q := 40) (v := (-5)) dX10_track_38 rfl rfl ?_
                exact ev_ireturn dX10_track_40 rfl rfl (MP.mk Y ((if_neg hok).trans (if_pos (Or.inr (i_nle c35)))) hY1.resE.symm hY1.FM)
        · exact absurd c12 (by decide)
      · refine ev_if_ne (q := 15) (t := 17) dX10_track_12 rfl (by decide) (fun c12 => ?_) (fun c12 => ?_)
        · exact absurd c12 (by decide)
        · refine ev_iconst (q := 16) (v := (-1)) dX10_track_15 rfl rfl ?_
          exact ev_ireturn dX10_track_16 rfl rfl (MP.mk _ (if_pos (fun z => hp9 z.2)) rfl FM.rf)
  · refine ev_if_eq (q := 8) (t := 15) dX10_track_5 rfl (by decide) (fun c5 => ?_) (fun c5 => ?_)
    · refine ev_iconst (q := 16) (v := (-1)) dX10_track_15 rfl rfl ?_
      exact ev_ireturn dX10_track_16 rfl rfl (MP.mk _ (if_pos (fun z => hp2 z.1)) rfl FM.rf)
    · exact absurd c5 (by decide)
theorem m_weightOf (hW : wM SH) {i : Nat} (hi : i < 12) {r : Int32} (hr : r = nI i) (b : th_b) (hB : BsR V i b) (h0 : ¬ b.2.1 = 0) : MT G l yX10_weightOf kX10_weightOf (d + 3) 0 0 [.ref 36, .int r] (n, SH, V) (th_is (wtb (hmR V i) b) (n, SH, V)) := by
  refine MT.of (by decide) rfl rfl (n := 1) rfl (ls := [some (.ref 36), some (.int r), none]) rfl ?_
  have e1 : V 60 i = b.1 := hB.1
  have e2 : V 61 i = b.2.1 := hB.2.1
  have h0' : ¬ V 61 i = 0 := by rw [e2]; exact h0
  refine ev_bipush (q := 2) (v := 100) dX10_weightOf_0 rfl rfl ?_
  refine ev_aload0 (q := 3) dX10_weightOf_2 rfl ?_
  refine ev_iload1 (q := 4) dX10_weightOf_3 rfl ?_
  refine ev_iconst (q := 5) (v := 0) dX10_weightOf_4 rfl rfl ?_
  refine ev_cV (K := kX10_weightOf) (pc := 5) (q := 8) (m_heldBy hW hi hr false) dX10_weightOf_5 l_X10_135 (hW _ _ rfl) rfl rfl (Nat.le_of_ble_eq_true rfl) (Nat.le_refl _) rfl rfl (fun r S1 hp => ?_)
  obtain ⟨rfl, rfl⟩ := hp
  refine ev_cS (K := kX10_weightOf) (pc := 8) (q := 11) (m_bitsOf _) dX10_weightOf_8 l_X10_101 rfl (Nat.le_of_ble_eq_true rfl) (Nat.le_refl _) rfl rfl (fun r S1 hp => ?_)
  obtain ⟨rfl, rfl⟩ := hp
  refine ev_imul (q := 12) dX10_weightOf_11 rfl ?_
  refine ev_bipush (q := 14) (v := 10) dX10_weightOf_12 rfl rfl ?_
  refine ev_aload0 (q := 15) dX10_weightOf_14 rfl ?_
  refine ev_getR (q := 18) dX10_weightOf_15 g_X10_81 (hW _ _ rfl) rfl rfl rfl ?_
  refine ev_iload1 (q := 19) dX10_weightOf_18 rfl ?_
  refine ev_iald (q := 20) dX10_weightOf_19 (hW _ _ rfl) hr hi (by decide) rfl ?_
  refine ev_imul (q := 21) dX10_weightOf_20 rfl ?_
  refine ev_aload0 (q := 22) dX10_weightOf_21 rfl ?_
  refine ev_getR (q := 25) dX10_weightOf_22 g_X10_84 (hW _ _ rfl) rfl rfl rfl ?_
  refine ev_iload1 (q := 26) dX10_weightOf_25 rfl ?_
  refine ev_iald (q := 27) dX10_weightOf_26 (hW _ _ rfl) hr hi (by decide) rfl ?_
  refine ev_idiv (q := 28) dX10_weightOf_27 h0' rfl ?_
  refine ev_isub (q := 29) dX10_weightOf_28 rfl ?_
  refine ev_istore2 (q := 30) dX10_weightOf_29 rfl (by decide) rfl ?_
  refine ev_iload2 (q := 31) dX10_weightOf_30 rfl ?_
  refine ev_if_ge (q := 34) (t := 38) dX10_weightOf_31 rfl (by decide) (fun c31 => ?_) (fun c31 => ?_)
  · refine ev_iload2 (q := 39) dX10_weightOf_38 rfl ?_
    exact ev_ireturn dX10_weightOf_39 rfl rfl ⟨congrArg (fun z => some (Value.int z)) (by rw [wtb, ← e1, ← e2]; exact (if_pos (i_le.mp c31)).symm), rfl⟩
  · refine ev_iconst (q := 35) (v := 0) dX10_weightOf_34 rfl rfl ?_
    refine ev_goto (q := 39) dX10_weightOf_35 (by decide) ?_
    exact ev_ireturn dX10_weightOf_39 rfl rfl ⟨congrArg (fun z => some (Value.int z)) (by rw [wtb, ← e1, ← e2]; exact (if_neg (Int.not_le.mpr (i_nle c31))).symm), rfl⟩
theorem hmR_fr {i j : Nat} {V V' : th_Vl} (h : frT i V V') : hmR V' j = hmR V j := by
  unfold hmR
  rw [show sn V' = sn V from funext h.snE, h.row (a := 43) (by decide)]
theorem m_weight (hW : wM SH) (hb : bRo (res V)) (r : Int32) : MT G l yX10_weight kX10_weight (d + 9) 0 0 [.ref 36, .int r] (n, SH, V) (MP n SH V (a_weight (res V) r) (res V)) := by
  refine MT.of (by decide) rfl rfl (n := 0) rfl (ls := [some (.ref 36), some (.int r)]) rfl ?_
  refine ev_aload0 (q := 1) dX10_weight_0 rfl ?_
  refine ev_iload1 (q := 2) dX10_weight_1 rfl ?_
  refine ev_cV (K := kX10_weight) (pc := 2) (q := 5) (m_isRoad hW _) dX10_weight_2 l_X10_128 (hW _ _ rfl) rfl rfl (Nat.le_of_ble_eq_true rfl) (Nat.le_refl _) rfl rfl (fun r S1 hp => ?_)
  rcases hp with ⟨rfl, ⟨hp2, rfl⟩ | ⟨hp2, rfl⟩⟩
  · refine ev_if_ne (q := 8) (t := 10) dX10_weight_5 rfl (by decide) (fun c5 => ?_) (fun c5 => ?_)
    · have hr := isRd_lt hb hp2
      refine ev_aload0 (q := 11) dX10_weight_10 rfl ?_
      refine ev_iload1 (q := 12) dX10_weight_11 rfl ?_
      refine ev_cV (K := kX10_weight) (pc := 12) (q := 15) (m_findTrack hW hr.2.2 (th_self hr.1)) dX10_weight_12 l_X10_152 (hW _ _ rfl) rfl rfl (Nat.le_of_ble_eq_true rfl) (Nat.le_refl _) rfl rfl (fun r S1 hp => ?_)
      rcases hp with ⟨hl, rfl, rfl⟩ | ⟨hl, rfl, Y, rfl, hY1, hY2⟩
      · refine ev_if_eq (q := 18) (t := 26) dX10_weight_15 rfl (by decide) (fun c15 => ?_) (fun c15 => ?_)
        · refine ev_bipush (q := 28) (v := (-5)) dX10_weight_26 rfl rfl ?_
          exact ev_ireturn dX10_weight_28 rfl rfl (MP.mk _ ((if_neg (not_not_intro hp2)).trans (if_neg (fun z => absurd (hl.symm.trans z) (by decide)))) rfl FM.rf)
        · exact absurd rfl c15
      · refine ev_if_eq (q := 18) (t := 26) dX10_weight_15 rfl (by decide) (fun c15 => ?_) (fun c15 => ?_)
        · exact absurd c15 (by decide)
        · refine ev_aload0 (q := 19) dX10_weight_18 rfl ?_
          refine ev_iload1 (q := 20) dX10_weight_19 rfl ?_
          refine ev_cV (K := kX10_weight) (pc := 20) (q := 23) (m_weightOf hW hr.2.2 (th_self hr.1) _ hY2 (th_nz (tb_pos V (ix r)).1)) dX10_weight_20 l_X10_159 (hW _ _ rfl) rfl rfl (Nat.le_of_ble_eq_true rfl) (Nat.le_refl _) rfl rfl (fun r S1 hp => ?_)
          obtain ⟨rfl, rfl⟩ := hp
          rw [hmR_fr hY1]
          refine ev_goto (q := 28) dX10_weight_23 (by decide) ?_
          exact ev_ireturn dX10_weight_28 rfl rfl (MP.mk Y ((if_neg (not_not_intro hp2)).trans (if_pos hl)) hY1.resE.symm hY1.FM)
    · exact absurd c5 (by decide)
  · refine ev_if_ne (q := 8) (t := 10) dX10_weight_5 rfl (by decide) (fun c5 => ?_) (fun c5 => ?_)
    · exact absurd c5 (by decide)
    · refine ev_iconst (q := 9) (v := (-1)) dX10_weight_8 rfl rfl ?_
      exact ev_ireturn dX10_weight_9 rfl rfl (MP.mk _ (if_pos hp2) rfl FM.rf)
theorem m_miss (hW : wM SH) (hb : bRo (res V)) (hT : ∀ i, i < 12 → 0 ≤ (tb V i).1.toInt) (r w : Int32) : MT G l yX10_miss_ kX10_miss_ (d + 9) 0 0 [.ref 36, .int r, .int w] (n, SH, V) (MP n SH V (a_miss (res V) r w) (res V)) := by
  refine MT.of (by decide) rfl rfl (n := 1) rfl (ls := [some (.ref 36), some (.int r), some (.int w), none]) rfl ?_
  refine ev_aload0 (q := 1) dX10_miss__0 rfl ?_
  refine ev_iload1 (q := 2) dX10_miss__1 rfl ?_
  refine ev_cV (K := kX10_miss_) (pc := 2) (q := 5) (m_isRoad hW _) dX10_miss__2 l_X10_128 (hW _ _ rfl) rfl rfl (Nat.le_of_ble_eq_true rfl) (Nat.le_refl _) rfl rfl (fun r S1 hp => ?_)
  rcases hp with ⟨rfl, ⟨hp2, rfl⟩ | ⟨hp2, rfl⟩⟩
  · refine ev_if_eq (q := 8) (t := 18) dX10_miss__5 rfl (by decide) (fun c5 => ?_) (fun c5 => ?_)
    · exact absurd c5 (by decide)
    · refine ev_iload2 (q := 9) dX10_miss__8 rfl ?_
      refine ev_i2l (q := 10) dX10_miss__9 rfl ?_
      refine ev_lconst (q := 11) (v := 0) dX10_miss__10 rfl rfl ?_
      refine ev_lconst (q := 12) (v := 1) dX10_miss__11 rfl rfl ?_
      refine ev_cS (K := kX10_miss_) (pc := 12) (q := 15) (m_inI _ _ _ l_0 l_1) dX10_miss__12 l_X10_95 rfl (Nat.le_of_ble_eq_true rfl) (Nat.le_refl _) rfl rfl (fun r S1 hp => ?_)
      rcases hp with ⟨rfl, ⟨hp12, rfl⟩ | ⟨hp12, rfl⟩⟩
      · refine ev_if_ne (q := 18) (t := 20) dX10_miss__15 rfl (by decide) (fun c15 => ?_) (fun c15 => ?_)
        · have hr := isRd_lt hb hp2
          have hok : ¬ ¬ (isRd (res V) r ∧ inR w 0 1) := not_not_intro ⟨hp2, hp12⟩
          refine ev_aload0 (q := 21) dX10_miss__20 rfl ?_
          refine ev_iload1 (q := 22) dX10_miss__21 rfl ?_
          refine ev_cV (K := kX10_miss_) (pc := 22) (q := 25) (m_findTrack hW hr.2.2 (th_self hr.1)) dX10_miss__22 l_X10_152 (hW _ _ rfl) rfl rfl (Nat.le_of_ble_eq_true rfl) (Nat.le_refl _) rfl rfl (fun r S1 hp => ?_)
          rcases hp with ⟨hl, rfl, rfl⟩ | ⟨hl, rfl, Y, rfl, hY1, hY2⟩
          · refine ev_if_ne (q := 28) (t := 31) dX10_miss__25 rfl (by decide) (fun c25 => ?_) (fun c25 => ?_)
            · exact absurd rfl c25
            · refine ev_bipush (q := 30) (v := (-5)) dX10_miss__28 rfl rfl ?_
              exact ev_ireturn dX10_miss__30 rfl rfl (MP.mk _ ((if_neg hok).trans (if_pos hl)) rfl FM.rf)
          · refine ev_if_ne (q := 28) (t := 31) dX10_miss__25 rfl (by decide) (fun c25 => ?_) (fun c25 => ?_)
            · have hlf : ¬ litB (res V) (ix r) = false := fun z => absurd (hl.symm.trans z) (by decide)
              have eT : Y 60 (ix r) = (tb V (ix r)).1 := hY2.1
              have eL : Y 61 (ix r) = (tb V (ix r)).2.1 := hY2.2.1
              have hp0 := tb_pos V (ix r)
              have hT0 := hT (ix r) hr.2.2
              have nT := th_self hT0
              have nL := th_self (Int.le_of_lt hp0.1)
              have bT : ix (tb V (ix r)).1 < 2 ^ 31 := by
                have := Int32.toInt_lt (tb V (ix r)).1
                have := th_ixI hT0
                omega
              have bL : ix (tb V (ix r)).2.1 < 2 ^ 31 := by
                have := th_ixI (Int.le_of_lt hp0.1)
                omega
              have bL0 : 0 < ix (tb V (ix r)).2.1 := by
                have := th_ixI (Int.le_of_lt hp0.1)
                omega
              have hg0 : 0 < Nat.gcd (ix (tb V (ix r)).1) (ix (tb V (ix r)).2.1) := Nat.gcd_pos_of_pos_right _ bL0
              have hg1 : Nat.gcd (ix (tb V (ix r)).1) (ix (tb V (ix r)).2.1) < 2 ^ 31 := Nat.lt_of_le_of_lt (Nat.gcd_le_right _ bL0) bL
              have hgn := nI_ne0 hg0 hg1
              have hcm := m_common (G := G) (l := l) (d := d + 8) (n, SH, Y) _ _ bT bL
              rw [← nT, ← nL, ← eT, ← eL] at hcm
              rw [← eT, ← eL] at hgn
              refine ev_aload0 (q := 32) dX10_miss__31 rfl ?_
              refine ev_getR (q := 35) dX10_miss__32 g_X10_81 (hW _ _ rfl) rfl rfl rfl ?_
              refine ev_iload1 (q := 36) dX10_miss__35 rfl ?_
              refine ev_iald (q := 37) dX10_miss__36 (hW _ _ rfl) (th_self hr.1) hr.2.2 (by decide) rfl ?_
              refine ev_aload0 (q := 38) dX10_miss__37 rfl ?_
              refine ev_getR (q := 41) dX10_miss__38 g_X10_84 (hW _ _ rfl) rfl rfl rfl ?_
              refine ev_iload1 (q := 42) dX10_miss__41 rfl ?_
              refine ev_iald (q := 43) dX10_miss__42 (hW _ _ rfl) (th_self hr.1) hr.2.2 (by decide) rfl ?_
              refine ev_cS (K := kX10_miss_) (pc := 43) (q := 46) (hcm) dX10_miss__43 l_X10_155 rfl (Nat.le_of_ble_eq_true rfl) (Nat.le_refl _) rfl rfl (fun r S1 hp => ?_)
              obtain ⟨rfl, rfl⟩ := hp
              refine ev_istore3 (q := 47) dX10_miss__46 rfl (by decide) rfl ?_
              refine ev_iload2 (q := 48) dX10_miss__47 rfl ?_
              refine ev_if_ne (q := 51) (t := 62) dX10_miss__48 rfl (by decide) (fun c48 => ?_) (fun c48 => ?_)
              · refine ev_aload0 (q := 63) dX10_miss__62 rfl ?_
                refine ev_getR (q := 66) dX10_miss__63 g_X10_84 (hW _ _ rfl) rfl rfl rfl ?_
                refine ev_iload1 (q := 67) dX10_miss__66 rfl ?_
                refine ev_iald (q := 68) dX10_miss__67 (hW _ _ rfl) (th_self hr.1) hr.2.2 (by decide) rfl ?_
                refine ev_iload3 (q := 69) dX10_miss__68 rfl ?_
                refine ev_idiv (q := 70) dX10_miss__69 hgn rfl ?_
                exact ev_ireturn dX10_miss__70 rfl rfl (MP.mk Y (((if_neg hok).trans ((if_neg hlf).trans (if_neg c48))).trans (by show (tb V (ix r)).2.1 / nI (Nat.gcd (ix (tb V (ix r)).1) (ix (tb V (ix r)).2.1)) = Y 61 (ix r) / _; rw [eT, eL])) hY1.resE.symm hY1.FM)
              · refine ev_aload0 (q := 52) dX10_miss__51 rfl ?_
                refine ev_getR (q := 55) dX10_miss__52 g_X10_81 (hW _ _ rfl) rfl rfl rfl ?_
                refine ev_iload1 (q := 56) dX10_miss__55 rfl ?_
                refine ev_iald (q := 57) dX10_miss__56 (hW _ _ rfl) (th_self hr.1) hr.2.2 (by decide) rfl ?_
                refine ev_iload3 (q := 58) dX10_miss__57 rfl ?_
                refine ev_idiv (q := 59) dX10_miss__58 hgn rfl ?_
                refine ev_goto (q := 70) dX10_miss__59 (by decide) ?_
                exact ev_ireturn dX10_miss__70 rfl rfl (MP.mk Y (((if_neg hok).trans ((if_neg hlf).trans (if_pos c48))).trans (by show (tb V (ix r)).1 / nI (Nat.gcd (ix (tb V (ix r)).1) (ix (tb V (ix r)).2.1)) = Y 60 (ix r) / _; rw [eT, eL])) hY1.resE.symm hY1.FM)
            · exact absurd c25 (by decide)
        · exact absurd c15 (by decide)
      · refine ev_if_ne (q := 18) (t := 20) dX10_miss__15 rfl (by decide) (fun c15 => ?_) (fun c15 => ?_)
        · exact absurd c15 (by decide)
        · refine ev_iconst (q := 19) (v := (-1)) dX10_miss__18 rfl rfl ?_
          exact ev_ireturn dX10_miss__19 rfl rfl (MP.mk _ (if_pos (fun z => hp12 z.2)) rfl FM.rf)
  · refine ev_if_eq (q := 8) (t := 18) dX10_miss__5 rfl (by decide) (fun c5 => ?_) (fun c5 => ?_)
    · refine ev_iconst (q := 19) (v := (-1)) dX10_miss__18 rfl rfl ?_
      exact ev_ireturn dX10_miss__19 rfl rfl (MP.mk _ (if_pos (fun z => hp2 z.1)) rfl FM.rf)
    · exact absurd c5 (by decide)
theorem m_areApart (hW : wM SH) {i j : Nat} (hi : i < 12) (hj : j < 12) {r q : Int32} (hr : r = nI i) (hq : q = nI j) (b c : th_b) (hB : BsR V i b) (hC : BsR V j c) : MT G l yX10_areApart kX10_areApart d 0 0 [.ref 36, .int r, .int q] (n, SH, V) (th_bo (apB b.2.2 c.2.2 5 = true) (n, SH, V)) := by
  refine MT.of (by decide) rfl rfl (n := 2) rfl (ls := [some (.ref 36), some (.int r), some (.int q), none, none]) rfl ?_
  have lp : ∀ k, k ≤ 5 → EV G l kX10_areApart d 0 0 5 [some (.ref 36), some (.int r), some (.int q), some (.int (cond (apB b.2.2 c.2.2 k) 1 0)), some (.int (nI k))] [] (n, SH, V) (th_bo (apB b.2.2 c.2.2 5 = true) (n, SH, V)) := by
    refine th_down 5 ?_ ?_
    · refine ev_iload4 (q := 7) dX10_areApart_5 rfl ?_
      refine ev_iconst (q := 8) (v := 5) dX10_areApart_7 rfl rfl ?_
      refine ev_icmp_ge (q := 11) (t := 66) dX10_areApart_8 rfl (by decide) (fun c8 => ?_) (fun c8 => ?_)
      · refine ev_iload3 (q := 67) dX10_areApart_66 rfl ?_
        cases hA : apB b.2.2 c.2.2 5
        · exact ev_ireturn dX10_areApart_67 rfl rfl ⟨rfl, Or.inr ⟨by decide, rfl⟩⟩
        · exact ev_ireturn dX10_areApart_67 rfl rfl ⟨rfl, Or.inl ⟨rfl, rfl⟩⟩
      · exact absurd (by decide) c8
    · intro k hk ih
      have e1 : V 59 (5 * i + k) = th_nth b.2.2 k 0 := hB.2.2 k hk
      have e2 : V 59 (5 * j + k) = th_nth c.2.2 k 0 := hC.2.2 k hk
      refine ev_iload4 (q := 7) dX10_areApart_5 rfl ?_
      refine ev_iconst (q := 8) (v := 5) dX10_areApart_7 rfl rfl ?_
      refine ev_icmp_ge (q := 11) (t := 66) dX10_areApart_8 rfl (by decide) (fun c8 => ?_) (fun c8 => ?_)
      · exact absurd c8 (nI_ge hk (by decide))
      · cases hA : apB b.2.2 c.2.2 k
        · refine ev_iload3 (q := 12) dX10_areApart_11 rfl ?_
          refine ev_if_eq (q := 15) (t := 58) dX10_areApart_12 rfl (by decide) (fun c12 => ?_) (fun c12 => ?_)
          · refine ev_iconst (q := 59) (v := 0) dX10_areApart_58 rfl rfl ?_
            refine ev_istore3 (q := 60) dX10_areApart_59 rfl (by decide) rfl ?_
            refine ev_iinc4 (q := 63) dX10_areApart_60 rfl (by decide) rfl (nI_succ k).symm ?_
            refine ev_goto (q := 5) dX10_areApart_63 (by decide) ?_
            rw [apB, hA, Bool.false_and] at ih
            exact ih
          · exact absurd rfl c12
        · refine ev_iload3 (q := 12) dX10_areApart_11 rfl ?_
          refine ev_if_eq (q := 15) (t := 58) dX10_areApart_12 rfl (by decide) (fun c12 => ?_) (fun c12 => ?_)
          · exact absurd c12 (by decide)
          · refine ev_aload0 (q := 16) dX10_areApart_15 rfl ?_
            refine ev_getR (q := 19) dX10_areApart_16 g_X10_78 (hW _ _ rfl) rfl rfl rfl ?_
            refine ev_iconst (q := 20) (v := 5) dX10_areApart_19 rfl rfl ?_
            refine ev_iload1 (q := 21) dX10_areApart_20 rfl ?_
            refine ev_imul (q := 22) dX10_areApart_21 rfl ?_
            refine ev_iload4 (q := 24) dX10_areApart_22 rfl ?_
            refine ev_iadd (q := 25) dX10_areApart_24 rfl ?_
            refine ev_iald (q := 26) dX10_areApart_25 (hW _ _ rfl) (th_5 hr rfl) (by omega) (by decide) rfl ?_
            refine ev_if_lt (q := 29) (t := 54) dX10_areApart_26 rfl (by decide) (fun c26 => ?_) (fun c26 => ?_)
            · have c26 : (V 59 (5 * i + k)).toInt < 0 := i_lt.mp c26
              rw [e1] at c26
              refine ev_iconst (q := 55) (v := 1) dX10_areApart_54 rfl rfl ?_
              refine ev_goto (q := 59) dX10_areApart_55 (by decide) ?_
              refine ev_istore3 (q := 60) dX10_areApart_59 rfl (by decide) rfl ?_
              refine ev_iinc4 (q := 63) dX10_areApart_60 rfl (by decide) rfl (nI_succ k).symm ?_
              refine ev_goto (q := 5) dX10_areApart_63 (by decide) ?_
              rw [apB, hA, decide_eq_true c26, Bool.true_or, Bool.true_and] at ih
              exact ih
            · have c26 : 0 ≤ (V 59 (5 * i + k)).toInt := i_nlt c26
              rw [e1] at c26
              refine ev_aload0 (q := 30) dX10_areApart_29 rfl ?_
              refine ev_getR (q := 33) dX10_areApart_30 g_X10_78 (hW _ _ rfl) rfl rfl rfl ?_
              refine ev_iconst (q := 34) (v := 5) dX10_areApart_33 rfl rfl ?_
              refine ev_iload1 (q := 35) dX10_areApart_34 rfl ?_
              refine ev_imul (q := 36) dX10_areApart_35 rfl ?_
              refine ev_iload4 (q := 38) dX10_areApart_36 rfl ?_
              refine ev_iadd (q := 39) dX10_areApart_38 rfl ?_
              refine ev_iald (q := 40) dX10_areApart_39 (hW _ _ rfl) (th_5 hr rfl) (by omega) (by decide) rfl ?_
              refine ev_aload0 (q := 41) dX10_areApart_40 rfl ?_
              refine ev_getR (q := 44) dX10_areApart_41 g_X10_78 (hW _ _ rfl) rfl rfl rfl ?_
              refine ev_iconst (q := 45) (v := 5) dX10_areApart_44 rfl rfl ?_
              refine ev_iload2 (q := 46) dX10_areApart_45 rfl ?_
              refine ev_imul (q := 47) dX10_areApart_46 rfl ?_
              refine ev_iload4 (q := 49) dX10_areApart_47 rfl ?_
              refine ev_iadd (q := 50) dX10_areApart_49 rfl ?_
              refine ev_iald (q := 51) dX10_areApart_50 (hW _ _ rfl) (th_5 hq rfl) (by omega) (by decide) rfl ?_
              refine ev_icmp_eq (q := 54) (t := 58) dX10_areApart_51 rfl (by decide) (fun c51 => ?_) (fun c51 => ?_)
              · have c51 : V 59 (5 * i + k) = V 59 (5 * j + k) := c51
                rw [e1, e2] at c51
                refine ev_iconst (q := 59) (v := 0) dX10_areApart_58 rfl rfl ?_
                refine ev_istore3 (q := 60) dX10_areApart_59 rfl (by decide) rfl ?_
                refine ev_iinc4 (q := 63) dX10_areApart_60 rfl (by decide) rfl (nI_succ k).symm ?_
                refine ev_goto (q := 5) dX10_areApart_63 (by decide) ?_
                rw [apB, hA, decide_eq_false (Int.not_lt.mpr c26), decide_eq_false (not_not_intro c51), Bool.false_or, Bool.and_false] at ih
                exact ih
              · have c51 : ¬ V 59 (5 * i + k) = V 59 (5 * j + k) := c51
                rw [e1, e2] at c51
                refine ev_iconst (q := 55) (v := 1) dX10_areApart_54 rfl rfl ?_
                refine ev_goto (q := 59) dX10_areApart_55 (by decide) ?_
                refine ev_istore3 (q := 60) dX10_areApart_59 rfl (by decide) rfl ?_
                refine ev_iinc4 (q := 63) dX10_areApart_60 rfl (by decide) rfl (nI_succ k).symm ?_
                refine ev_goto (q := 5) dX10_areApart_63 (by decide) ?_
                rw [apB, hA, decide_eq_true c51, Bool.or_true, Bool.and_true] at ih
                exact ih
  refine ev_iconst (q := 1) (v := 1) dX10_areApart_0 rfl rfl ?_
  refine ev_istore3 (q := 2) dX10_areApart_1 rfl (by decide) rfl ?_
  refine ev_iconst (q := 3) (v := 0) dX10_areApart_2 rfl rfl ?_
  refine ev_istore4 (q := 5) dX10_areApart_3 rfl (by decide) rfl ?_
  exact lp 0 (by decide)
end M11
