/-! the class: its heap -/
def clB (x y : Nat → Int32) : Nat → Bool
  | 0 => false
  | k + 1 => clB x y k || (decide (¬ x k = -1) && decide (x k = y k))
theorem clB_f {x x' y y' : Nat → Int32} : ∀ n, (∀ k, k < n → x k = x' k ∧ y k = y' k) → clB x y n = clB x' y' n
  | 0, _ => rfl
  | k + 1, h => by rw [clB, clB, clB_f k (fun j hj => h j (by omega)), (h k (by omega)).1, (h k (by omega)).2]
theorem clB_ap {s : th_Vl} {a b : Nat} : ∀ n, n ≤ 5 → clB (fun k => th_nth (tb s a).2.2 k 0) (fun k => th_nth (tb s b).2.2 k 0) n = !apB (tb s a).2.2 (tb s b).2.2 n
  | 0, _ => rfl
  | n + 1, h => by
    rw [clB, apB, clB_ap n (by omega)]
    have hm1 : (-1 : Int32).toInt = -1 := by decide
    have hc := tb_cell s a (k := n) (by omega)
    have e : decide (¬ th_nth (tb s a).2.2 n 0 = -1) = !decide ((th_nth (tb s a).2.2 n 0).toInt < 0) := by
      rcases hc with w | ⟨c, w1, w2⟩
      · rw [w, hm1]; simp
      · have hn : ¬ nI c = -1 := fun z => by
          have := nI_toInt (n := c) (by omega)
          rw [z, hm1] at this
          omega
        rw [w2, nI_toInt (by omega)]
        simp [hn]
    rw [e]
    cases apB (tb s a).2.2 (tb s b).2.2 n <;> cases decide ((th_nth (tb s a).2.2 n 0).toInt < 0) <;> by_cases hq : th_nth (tb s a).2.2 n 0 = th_nth (tb s b).2.2 n 0 <;> simp [hq]
def HpC (V s : th_Vl) (n : Nat) : Prop := (∀ j q, j < q → q < n → litB s q = true → litB s j = true → tbit (V 24 j) q = !apS s q j) ∧ ∀ j q, j < n → n ≤ q → tbit (V 24 j) q = false
def HpK (V s : th_Vl) (n : Nat) : Prop := (∀ j, j < n → V 25 j = nI (wv s j) ∧ V 26 j = nI (upN (wv s) (j + 1))) ∧ HpC V s n
def HpR (V s : th_Vl) (n : Nat) : Prop := V 22 4 = nI n ∧ HpK V s n ∧ ∀ j, j < n → litB s j = true → ∀ k, k < 5 → V 23 (5 * j + k) = th_nth (tb s j).2.2 k 0
def frP (V V' : th_Vl) : Prop := ∀ b, b ≠ 22 → b ≠ 23 → b ≠ 24 → b ≠ 25 → b ≠ 26 → V' b = V b
def PPu (N : Nat) (SH : Nat → Option th_K0) (V s : th_Vl) (n : Nat) : Option Value → th_S → Prop := fun r S' => r = none ∧ ∃ V', S' = (N, SH, V') ∧ HpR V' s n ∧ frP V V' ∧ V' 22 5 = V 22 5 ∧ V' 22 6 = V 22 6
section C13
variable {G : th_G} {l : Launch} {d : Nat} {N : Nat} {SH : Nat → Option th_K0} {V s : th_Vl}
theorem c_clash (hW : wC SH) {a b : Nat} (ha : a < 12) (hb : b < 12) {x y : Int32} (hx : x = nI a) (hy : y = nI b) : MT G l yX1_clash kX1_clash d 0 0 [.ref 22, .int x, .int y] (N, SH, V) (th_bo (clB (fun k => V 23 (5 * a + k)) (fun k => V 23 (5 * b + k)) 5 = true) (N, SH, V)) := by
  refine MT.of (by decide) rfl rfl (n := 2) rfl (ls := [some (.ref 22), some (.int x), some (.int y), none, none]) rfl ?_
  have up : ∀ i k, i ≤ k → clB (fun k => V 23 (5 * a + k)) (fun k => V 23 (5 * b + k)) i = true → clB (fun k => V 23 (5 * a + k)) (fun k => V 23 (5 * b + k)) k = true := by
    intro i k h
    induction k with
    | zero => rw [show i = 0 by omega]; exact id
    | succ k ih =>
      intro hc
      by_cases e : i = k + 1
      · rw [← e]; exact hc
      · rw [clB, ih (by omega) hc, Bool.true_or]
  have lp : ∀ i, i ≤ 5 → ∀ o, th_c1 [o] = true → clB (fun k => V 23 (5 * a + k)) (fun k => V 23 (5 * b + k)) i = false → EV G l kX1_clash d 0 0 2 [some (.ref 22), some (.int x), some (.int y), some (.int (nI i)), o] [] (N, SH, V) (th_bo (clB (fun k => V 23 (5 * a + k)) (fun k => V 23 (5 * b + k)) 5 = true) (N, SH, V)) := by
    refine th_down 5 ?_ ?_
    · intro o ho hc
      refine ev_iload3 (q := 3) dX1_clash_2 rfl ?_
      refine ev_iconst (q := 4) (v := 5) dX1_clash_3 rfl rfl ?_
      refine ev_icmp_ge (q := 7) (t := 48) dX1_clash_4 rfl (by decide) (fun c4 => ?_) (fun c4 => ?_)
      · refine ev_iconst (q := 49) (v := 0) dX1_clash_48 rfl rfl ?_
        exact ev_ireturn dX1_clash_49 rfl rfl ⟨rfl, Or.inr ⟨by rw [hc]; simp, rfl⟩⟩
      · exact absurd (by decide) c4
    · intro i hi ih o ho hc
      refine ev_iload3 (q := 3) dX1_clash_2 rfl ?_
      refine ev_iconst (q := 4) (v := 5) dX1_clash_3 rfl rfl ?_
      refine ev_icmp_ge (q := 7) (t := 48) dX1_clash_4 rfl (by decide) (fun c4 => ?_) (fun c4 => ?_)
      · exact absurd c4 (nI_ge hi (by decide))
      · refine ev_aload0 (q := 8) dX1_clash_7 rfl ?_
        refine ev_getR (q := 11) dX1_clash_8 g_X1_9 (hW _ _ rfl) rfl rfl rfl ?_
        refine ev_iload1 (q := 12) dX1_clash_11 rfl ?_
        refine ev_iconst (q := 13) (v := 5) dX1_clash_12 rfl rfl ?_
        refine ev_imul (q := 14) dX1_clash_13 rfl ?_
        refine ev_iload3 (q := 15) dX1_clash_14 rfl ?_
        refine ev_iadd (q := 16) dX1_clash_15 rfl ?_
        refine ev_iald (q := 17) dX1_clash_16 (hW _ _ rfl) (th_5' hx rfl) (show 5 * a + i < 60 by omega) (by decide) rfl ?_
        show EV G l kX1_clash _ 0 0 17 _ [.int (V 23 (5 * a + i))] _ _
        refine ev_istore4 (q := 19) dX1_clash_17 rfl (by decide) ho ?_
        refine ev_iload4 (q := 21) dX1_clash_19 rfl ?_
        refine ev_iconst (q := 22) (v := (-1)) dX1_clash_21 rfl rfl ?_
        refine ev_icmp_eq (q := 25) (t := 42) dX1_clash_22 rfl (by decide) (fun c22 => ?_) (fun c22 => ?_)
        · refine ev_iinc3 (q := 45) dX1_clash_42 rfl (by decide) rfl (nI_succ i).symm ?_
          refine ev_goto (q := 2) dX1_clash_45 (by decide) ?_
          exact ih _ rfl (by rw [clB, hc, c22]; simp)
        · refine ev_iload4 (q := 27) dX1_clash_25 rfl ?_
          refine ev_aload0 (q := 28) dX1_clash_27 rfl ?_
          refine ev_getR (q := 31) dX1_clash_28 g_X1_9 (hW _ _ rfl) rfl rfl rfl ?_
          refine ev_iload2 (q := 32) dX1_clash_31 rfl ?_
          refine ev_iconst (q := 33) (v := 5) dX1_clash_32 rfl rfl ?_
          refine ev_imul (q := 34) dX1_clash_33 rfl ?_
          refine ev_iload3 (q := 35) dX1_clash_34 rfl ?_
          refine ev_iadd (q := 36) dX1_clash_35 rfl ?_
          refine ev_iald (q := 37) dX1_clash_36 (hW _ _ rfl) (th_5' hy rfl) (show 5 * b + i < 60 by omega) (by decide) rfl ?_
          show EV G l kX1_clash _ 0 0 37 _ [.int (V 23 (5 * b + i)), .int (V 23 (5 * a + i))] _ _
          refine ev_icmp_ne (q := 40) (t := 42) dX1_clash_37 rfl (by decide) (fun c37 => ?_) (fun c37 => ?_)
          · refine ev_iinc3 (q := 45) dX1_clash_42 rfl (by decide) rfl (nI_succ i).symm ?_
            refine ev_goto (q := 2) dX1_clash_45 (by decide) ?_
            exact ih _ rfl (by rw [clB, hc, decide_eq_false c37]; simp)
          · refine ev_iconst (q := 41) (v := 1) dX1_clash_40 rfl rfl ?_
            exact ev_ireturn dX1_clash_41 rfl rfl ⟨rfl, Or.inl ⟨up (i + 1) 5 (by omega) (by rw [clB, decide_eq_true c37, decide_eq_true c22]; simp), rfl⟩⟩
  refine ev_iconst (q := 1) (v := 0) dX1_clash_0 rfl rfl ?_
  refine ev_istore3 (q := 2) dX1_clash_1 rfl (by decide) rfl ?_
  exact lp 0 (by decide) none rfl rfl
theorem c_put1 (hW : wC SH) {n : Nat} (hn : n < 12) (hH : HpR V s n) {x : Int32} (hx : x = nI (wv s n)) (hc : litB s n = true → ∀ k, k < 5 → V 21 k = th_nth (tb s n).2.2 k 0) : MT G l yX1_put kX1_put (d + 1) 0 0 [.ref 22, .int x, .ref 21] (N, SH, V) (PPu N SH V s (n + 1)) := by
  refine MT.of (by decide) rfl rfl (n := 1) rfl (ls := [some (.ref 22), some (.int x), some (.ref 21), none]) rfl ?_
  obtain ⟨hz, ⟨hwu, hcl⟩, htk⟩ := hH
  have body : ∀ U : th_Vl, (∀ b, b ≠ 23 → b ≠ 24 → b ≠ 25 → b ≠ 26 → U b = V b) → (∀ j k, j < n → k < 5 → U 23 (5 * j + k) = V 23 (5 * j + k)) → (∀ k, k < 5 → U 23 (5 * n + k) = V 21 k) → (∀ j, j < n → U 25 j = V 25 j ∧ U 26 j = V 26 j ∧ U 24 j = V 24 j) → U 25 n = nI (wv s n) → U 26 n = nI (upN (wv s) (n + 1)) → U 24 n = 0 → EV G l kX1_put (d + 1) 0 0 98 [some (.ref 22), some (.int x), some (.ref 21), some (.int (nI 5))] [] (N, SH, U) (PPu N SH V s (n + 1)) := by
    intro U u1 u2 u3 u4 u5 u6 u7
    have uz : U 22 4 = nI n := (congrFun (u1 22 (by decide) (by decide) (by decide) (by decide)) 4).trans hz
    obtain ⟨F, hF⟩ : ∃ F : Nat → Int32, F = fun j => cond (clB (fun k => U 23 (5 * n + k)) (fun k => U 23 (5 * j + k)) 5) (U 24 j ||| ((1 : Int32) <<< (nI n &&& 31))) (U 24 j) := ⟨_, rfl⟩
    have lq : ∀ o, o ≤ n → EV G l kX1_put (d + 1) 0 0 100 [some (.ref 22), some (.int x), some (.ref 21), some (.int (nI o))] [] (N, SH, th_seg U 24 0 o F) (PPu N SH V s (n + 1)) := by
      refine th_down n ?_ ?_
      · refine ev_iload3 (q := 101) dX1_put_100 rfl ?_
        refine ev_aload0 (q := 102) dX1_put_101 rfl ?_
        refine ev_getI (q := 105) dX1_put_102 g_X1_24 (hW _ _ rfl) rfl rfl ?_
        show EV G l kX1_put _ 0 0 105 _ [.int (U 22 4), .int (nI n)] _ _
        rw [uz]
        refine ev_icmp_ge (q := 108) (t := 141) dX1_put_105 rfl (by decide) (fun c105 => ?_) (fun c105 => ?_)
        · refine ev_aload0 (q := 142) dX1_put_141 rfl ?_
          refine ev_dup (q := 143) dX1_put_142 rfl rfl ?_
          refine ev_getI (q := 146) dX1_put_143 g_X1_24 (hW _ _ rfl) rfl rfl ?_
          refine ev_iconst (q := 147) (v := 1) dX1_put_146 rfl rfl ?_
          refine ev_iadd (q := 148) dX1_put_147 rfl ?_
          show EV G l kX1_put _ 0 0 148 _ [.int (U 22 4 + 1), .ref 22] _ _
          rw [uz, ← nI_succ]
          refine ev_putI (q := 151) dX1_put_148 (p_X1_24 _) (hW _ _ rfl) rfl rfl rfl rfl ?_
          refine ev_return dX1_put_151 rfl ⟨rfl, th_w (th_seg U 24 0 n F) 22 4 (nI (n + 1)), rfl, ⟨rfl, ⟨fun j hj => ?_, fun j q hjq hq lq lj => ?_, fun j q hj hq => ?_⟩, fun j hj lj k hk => ?_⟩, fun b b1 b2 b3 b4 b5 => ?_, ?_, ?_⟩
          · show U 25 j = _ ∧ U 26 j = _
            by_cases e : j = n
            · rw [e]; exact ⟨u5, u6⟩
            · obtain ⟨z1, z2, -⟩ := u4 j (by omega)
              rw [z1, z2]
              exact hwu j (by omega)
          · rw [th_w_ne (by decide), th_seg_in (Nat.zero_le _) (by omega), Nat.sub_zero, hF]
            show tbit (cond (clB (fun k => U 23 (5 * n + k)) (fun k => U 23 (5 * j + k)) 5) (U 24 j ||| ((1 : Int32) <<< (nI n &&& 31))) (U 24 j)) q = _
            by_cases e : q = n
            · subst e
              have ecl : clB (fun k => U 23 (5 * q + k)) (fun k => U 23 (5 * j + k)) 5 = !apS s q j := by
                rw [clB_f 5 (x' := fun k => th_nth (tb s q).2.2 k 0) (y' := fun k => th_nth (tb s j).2.2 k 0) (fun k hk => ⟨(u3 k hk).trans (hc lq k hk), (u2 j k hjq hk).trans (htk j hjq lj k hk)⟩)]
                exact clB_ap 5 (Nat.le_refl _)
              have h0 : tbit (U 24 j) q = false := by
                rw [(u4 j hjq).2.2]
                exact hcl.2 j q hjq (Nat.le_refl _)
              rw [ecl]
              cases apS s q j
              · show tbit (U 24 j ||| ((1 : Int32) <<< (nI q &&& 31))) q = true
                rw [tbit_or, tbit_shl (by omega), h0]
                simp
              · exact h0
            · have hb : tbit ((1 : Int32) <<< (nI n &&& 31)) q = false := by
                rw [tbit_shl (by omega)]
                exact decide_eq_false e
              have hold : tbit (U 24 j) q = !apS s q j := by
                rw [(u4 j (by omega)).2.2]
                exact hcl.1 j q hjq (by omega) lq lj
              cases clB (fun k => U 23 (5 * n + k)) (fun k => U 23 (5 * j + k)) 5
              · exact hold
              · show tbit (U 24 j ||| ((1 : Int32) <<< (nI n &&& 31))) q = _
                rw [tbit_or, hb, Bool.or_false]; exact hold
          · rw [th_w_ne (by decide)]
            by_cases e : j = n
            · subst e
              rw [th_seg_out (Or.inr (by omega)), u7, tbit_0]
            · rw [th_seg_in (Nat.zero_le _) (by omega), Nat.sub_zero, hF]
              show tbit (cond (clB (fun k => U 23 (5 * n + k)) (fun k => U 23 (5 * j + k)) 5) (U 24 j ||| ((1 : Int32) <<< (nI n &&& 31))) (U 24 j)) q = _
              have hold : tbit (U 24 j) q = false := by
                rw [(u4 j (by omega)).2.2]
                exact hcl.2 j q (by omega) (by omega)
              have hb : tbit ((1 : Int32) <<< (nI n &&& 31)) q = false := by
                rw [tbit_shl (by omega)]
                exact decide_eq_false (by omega)
              cases clB (fun k => U 23 (5 * n + k)) (fun k => U 23 (5 * j + k)) 5
              · exact hold
              · show tbit (U 24 j ||| ((1 : Int32) <<< (nI n &&& 31))) q = _
                rw [tbit_or, hb, Bool.or_false]; exact hold
          · show U 23 (5 * j + k) = _
            by_cases e : j = n
            · subst e
              rw [u3 k hk]
              exact hc lj k hk
            · rw [u2 j k (by omega) hk]
              exact htk j (by omega) lj k hk
          · rw [th_w_ne b1, th_seg_ne b3]
            exact u1 b b2 b3 b4 b5
          · exact congrFun (u1 22 (by decide) (by decide) (by decide) (by decide)) 5
          · exact congrFun (u1 22 (by decide) (by decide) (by decide) (by decide)) 6
        · exact absurd (Int32.le_refl _) c105
      · intro o ho ih
        have hFo : F o = cond (clB (fun k => U 23 (5 * n + k)) (fun k => U 23 (5 * o + k)) 5) (U 24 o ||| ((1 : Int32) <<< (nI n &&& 31))) (U 24 o) := by rw [hF]
        have hout : th_seg U 24 0 o F 24 o = U 24 o := th_seg_out (Or.inr (by omega))
        refine ev_iload3 (q := 101) dX1_put_100 rfl ?_
        refine ev_aload0 (q := 102) dX1_put_101 rfl ?_
        refine ev_getI (q := 105) dX1_put_102 g_X1_24 (hW _ _ rfl) rfl rfl ?_
        show EV G l kX1_put _ 0 0 105 _ [.int (U 22 4), .int (nI o)] _ _
        rw [uz]
        refine ev_icmp_ge (q := 108) (t := 141) dX1_put_105 rfl (by decide) (fun c105 => ?_) (fun c105 => ?_)
        · exact absurd c105 (nI_ge ho (by omega))
        · refine ev_aload0 (q := 109) dX1_put_108 rfl ?_
          refine ev_aload0 (q := 110) dX1_put_109 rfl ?_
          refine ev_getI (q := 113) dX1_put_110 g_X1_24 (hW _ _ rfl) rfl rfl ?_
          refine ev_iload3 (q := 114) dX1_put_113 rfl ?_
          show EV G l kX1_put _ 0 0 114 _ [.int (nI o), .int (U 22 4), .ref 22] _ _
          rw [uz]
          refine ev_cV (K := kX1_put) (pc := 114) (q := 117) (c_clash (d := d) hW hn (show o < 12 by omega) rfl rfl) dX1_put_114 l_X1_34 (hW _ _ rfl) rfl rfl (Nat.le_of_ble_eq_true rfl) (by omega) rfl rfl (fun r S1 hp => ?_)
          rcases hp with ⟨rfl, ⟨hp114, rfl⟩ | ⟨hp114, rfl⟩⟩
          · refine ev_if_eq (q := 120) (t := 135) dX1_put_117 rfl (by decide) (fun c117 => ?_) (fun c117 => ?_)
            · exact absurd c117 (by decide)
            · refine ev_aload0 (q := 121) dX1_put_120 rfl ?_
              refine ev_getR (q := 124) dX1_put_121 g_X1_15 (hW _ _ rfl) rfl rfl rfl ?_
              refine ev_iload3 (q := 125) dX1_put_124 rfl ?_
              refine ev_dup2 (q := 126) dX1_put_125 rfl rfl rfl ?_
              refine ev_iald (q := 127) dX1_put_126 (hW _ _ rfl) rfl (show o < 12 by omega) (by decide) rfl ?_
              show EV G l kX1_put _ 0 0 127 _ (.int (th_seg U 24 0 o F 24 o) :: _) _ _
              rw [hout]
              refine ev_iconst (q := 128) (v := 1) dX1_put_127 rfl rfl ?_
              refine ev_aload0 (q := 129) dX1_put_128 rfl ?_
              refine ev_getI (q := 132) dX1_put_129 g_X1_24 (hW _ _ rfl) rfl rfl ?_
              show EV G l kX1_put _ 0 0 132 _ (.int (U 22 4) :: _) _ _
              rw [uz]
              refine ev_ishl (q := 133) dX1_put_132 rfl ?_
              refine ev_ior (q := 134) dX1_put_133 rfl ?_
              refine ev_iast (q := 135) dX1_put_134 (hW _ _ rfl) rfl (show o < 12 by omega) (by decide) rfl ?_
              refine ev_iinc3 (q := 138) dX1_put_135 rfl (by decide) rfl (nI_succ o).symm ?_
              refine ev_goto (q := 100) dX1_put_138 (by decide) ?_
              rw [← th_seg_s0, hFo, show clB (fun k => U 23 (5 * n + k)) (fun k => U 23 (5 * o + k)) 5 = true from hp114] at ih
              exact ih
          · refine ev_if_eq (q := 120) (t := 135) dX1_put_117 rfl (by decide) (fun c117 => ?_) (fun c117 => ?_)
            · refine ev_iinc3 (q := 138) dX1_put_135 rfl (by decide) rfl (nI_succ o).symm ?_
              refine ev_goto (q := 100) dX1_put_138 (by decide) ?_
              rw [th_seg_id (by rw [hFo, show clB (fun k => U 23 (5 * n + k)) (fun k => U 23 (5 * o + k)) 5 = false from Bool.eq_false_iff.mpr hp114, Nat.zero_add]; rfl)] at ih
              exact ih
            · exact absurd rfl c117
    refine ev_iconst (q := 99) (v := 0) dX1_put_98 rfl rfl ?_
    refine ev_istore3 (q := 100) dX1_put_99 rfl (by decide) rfl ?_
    have hh := lq 0 (Nat.zero_le _)
    rw [th_seg_0] at hh
    exact hh
  have lp : ∀ i, i ≤ 5 → EV G l kX1_put (d + 1) 0 0 18 [some (.ref 22), some (.int x), some (.ref 21), some (.int (nI i))] [] (N, SH, th_seg V 23 (5 * n) i (V 21)) (PPu N SH V s (n + 1)) := by
    refine th_down 5 ?_ ?_
    · refine ev_iload3 (q := 19) dX1_put_18 rfl ?_
      refine ev_iconst (q := 20) (v := 5) dX1_put_19 rfl rfl ?_
      refine ev_icmp_ge (q := 23) (t := 45) dX1_put_20 rfl (by decide) (fun c20 => ?_) (fun c20 => ?_)
      · have t0 : th_seg V 23 (5 * n) 5 (V 21) 22 4 = nI n := (congrFun (th_seg_ne (by decide)) 4).trans hz
        have t1 : ∀ b, b ≠ 23 → th_seg V 23 (5 * n) 5 (V 21) b = V b := fun b hb => th_seg_ne hb
        have t2 : ∀ j k, j < n → k < 5 → th_seg V 23 (5 * n) 5 (V 21) 23 (5 * j + k) = V 23 (5 * j + k) := fun j k hj hk => th_seg_out (Or.inl (by omega))
        have t3 : ∀ k, k < 5 → th_seg V 23 (5 * n) 5 (V 21) 23 (5 * n + k) = V 21 k := fun k hk => (th_seg_in (by omega) (by omega)).trans (by rw [show 5 * n + k - 5 * n = k by omega])
        generalize th_seg V 23 (5 * n) 5 (V 21) = T at t0 t1 t2 t3 ⊢
        refine ev_aload0 (q := 46) dX1_put_45 rfl ?_
        refine ev_getR (q := 49) dX1_put_46 g_X1_18 (hW _ _ rfl) rfl rfl rfl ?_
        refine ev_aload0 (q := 50) dX1_put_49 rfl ?_
        refine ev_getI (q := 53) dX1_put_50 g_X1_24 (hW _ _ rfl) rfl rfl ?_
        refine ev_iload1 (q := 54) dX1_put_53 rfl ?_
        refine ev_iast (q := 55) dX1_put_54 (hW _ _ rfl) t0 (show n < 12 from hn) (by decide) rfl ?_
        show EV G l kX1_put _ 0 0 55 _ _ (N, SH, th_w T 25 n x) _
        have fin : ∀ y : Int32, y = nI (upN (wv s) (n + 1)) → EV G l kX1_put (d + 1) 0 0 87 [some (.ref 22), some (.int x), some (.ref 21), some (.int (nI 5))] [.int y, .int (T 22 4), .ref 26] (N, SH, th_w T 25 n x) (PPu N SH V s (n + 1)) := by
          intro y hy
          refine ev_iast (q := 88) dX1_put_87 (hW _ _ rfl) t0 (show n < 12 from hn) (by decide) rfl ?_
          refine ev_aload0 (q := 89) dX1_put_88 rfl ?_
          refine ev_getR (q := 92) dX1_put_89 g_X1_15 (hW _ _ rfl) rfl rfl rfl ?_
          refine ev_aload0 (q := 93) dX1_put_92 rfl ?_
          refine ev_getI (q := 96) dX1_put_93 g_X1_24 (hW _ _ rfl) rfl rfl ?_
          refine ev_iconst (q := 97) (v := 0) dX1_put_96 rfl rfl ?_
          refine ev_iast (q := 98) dX1_put_97 (hW _ _ rfl) t0 (show n < 12 from hn) (by decide) rfl ?_
          refine body (th_w (th_w (th_w T 25 n x) 26 n y) 24 n 0) (fun b b1 b2 b3 b4 => ?_) (fun j k hj hk => ?_) (fun k hk => ?_) (fun j hj => ⟨?_, ?_, ?_⟩) ?_ ?_ ?_
          · rw [th_w_ne b2, th_w_ne b4, th_w_ne b3, t1 b b1]
          · exact t2 j k hj hk
          · exact t3 k hk
          · rw [th_w_ne (by decide), th_w_ne (by decide), th_w_j (by omega), t1 _ (by decide)]
          · rw [th_w_ne (by decide), th_w_j (by omega), th_w_ne (by decide), t1 _ (by decide)]
          · rw [th_w_j (by omega), th_w_ne (by decide), th_w_ne (by decide), t1 _ (by decide)]
          · rw [th_w_ne (by decide), th_w_ne (by decide), th_w_if, if_pos ⟨rfl, rfl⟩, hx]
          · rw [th_w_ne (by decide), th_w_if, if_pos ⟨rfl, rfl⟩, hy]
          · rw [th_w_if, if_pos ⟨rfl, rfl⟩]
        refine ev_aload0 (q := 56) dX1_put_55 rfl ?_
        refine ev_getR (q := 59) dX1_put_56 g_X1_21 (hW _ _ rfl) rfl rfl rfl ?_
        refine ev_aload0 (q := 60) dX1_put_59 rfl ?_
        refine ev_getI (q := 63) dX1_put_60 g_X1_24 (hW _ _ rfl) rfl rfl ?_
        refine ev_iload1 (q := 64) dX1_put_63 rfl ?_
        refine ev_aload0 (q := 65) dX1_put_64 rfl ?_
        refine ev_getI (q := 68) dX1_put_65 g_X1_24 (hW _ _ rfl) rfl rfl ?_
        show EV G l kX1_put _ 0 0 68 _ [.int (T 22 4), .int x, .int (T 22 4), .ref 26] _ _
        refine ev_if_ne (q := 71) (t := 75) dX1_put_68 rfl (by decide) (fun c68 => ?_) (fun c68 => ?_)
        · have hn0 : 0 < n := Nat.pos_of_ne_zero (fun e => c68 (by rw [t0, e]; rfl))
          refine ev_aload0 (q := 76) dX1_put_75 rfl ?_
          refine ev_getR (q := 79) dX1_put_76 g_X1_21 (hW _ _ rfl) rfl rfl rfl ?_
          refine ev_aload0 (q := 80) dX1_put_79 rfl ?_
          refine ev_getI (q := 83) dX1_put_80 g_X1_24 (hW _ _ rfl) rfl rfl ?_
          refine ev_iconst (q := 84) (v := 1) dX1_put_83 rfl rfl ?_
          refine ev_isub (q := 85) dX1_put_84 rfl ?_
          refine ev_iald (q := 86) (j := n - 1) dX1_put_85 (hW _ _ rfl) (show T 22 4 - 1 = nI (n - 1) by rw [t0, show n = (n - 1) + 1 by omega, nI_pred]; simp) (show n - 1 < 12 by omega) (by decide) rfl ?_
          show EV G l kX1_put _ 0 0 86 _ (.int (th_w T 25 n x 26 (n - 1)) :: _) _ _
          have e1 : th_w T 25 n x 26 (n - 1) = nI (upN (wv s) n) := by
            rw [th_w_ne (by decide), t1 _ (by decide), (hwu (n - 1) (by omega)).2, show n - 1 + 1 = n by omega]
          rw [e1]
          refine ev_iadd (q := 87) dX1_put_86 rfl ?_
          exact fin _ (by rw [hx, nI_add, upN, Nat.add_comm])
        · have hn0 : n = 0 := (nI_eq (by omega) (by decide)).mp (t0.symm.trans c68)
          refine ev_iconst (q := 72) (v := 0) dX1_put_71 rfl rfl ?_
          refine ev_goto (q := 86) dX1_put_72 (by decide) ?_
          refine ev_iadd (q := 87) dX1_put_86 rfl ?_
          exact fin _ (by rw [hx, hn0]; show nI (wv s 0) + nI 0 = _; rw [nI_add, upN, upN, Nat.add_comm])
      · exact absurd (by decide) c20
    · intro i hi ih
      rw [← th_seg_s] at ih
      have hsz : th_seg V 23 (5 * n) i (V 21) 22 4 = nI n := (congrFun (th_seg_ne (by decide)) 4).trans hz
      refine ev_iload3 (q := 19) dX1_put_18 rfl ?_
      refine ev_iconst (q := 20) (v := 5) dX1_put_19 rfl rfl ?_
      refine ev_icmp_ge (q := 23) (t := 45) dX1_put_20 rfl (by decide) (fun c20 => ?_) (fun c20 => ?_)
      · exact absurd c20 (nI_ge hi (by decide))
      · refine ev_aload0 (q := 24) dX1_put_23 rfl ?_
        refine ev_getR (q := 27) dX1_put_24 g_X1_9 (hW _ _ rfl) rfl rfl rfl ?_
        refine ev_aload0 (q := 28) dX1_put_27 rfl ?_
        refine ev_getI (q := 31) dX1_put_28 g_X1_24 (hW _ _ rfl) rfl rfl ?_
        refine ev_iconst (q := 32) (v := 5) dX1_put_31 rfl rfl ?_
        refine ev_imul (q := 33) dX1_put_32 rfl ?_
        refine ev_iload3 (q := 34) dX1_put_33 rfl ?_
        refine ev_iadd (q := 35) dX1_put_34 rfl ?_
        refine ev_aload2 (q := 36) dX1_put_35 rfl ?_
        refine ev_iload3 (q := 37) dX1_put_36 rfl ?_
        refine ev_iald (q := 38) dX1_put_37 (hW _ _ rfl) rfl hi (by decide) rfl ?_
        refine ev_iast (q := 39) dX1_put_38 (hW _ _ rfl) (th_5' hsz rfl) (show 5 * n + i < 60 by omega) (by decide) rfl ?_
        refine ev_iinc3 (q := 42) dX1_put_39 rfl (by decide) rfl (nI_succ i).symm ?_
        refine ev_goto (q := 18) dX1_put_42 (by decide) ?_
        exact ih
  refine ev_aload0 (q := 1) dX1_put_0 rfl ?_
  refine ev_getI (q := 4) dX1_put_1 g_X1_24 (hW _ _ rfl) rfl rfl ?_
  refine ev_bipush (q := 6) (v := 12) dX1_put_4 rfl rfl ?_
  show EV G l kX1_put _ 0 0 6 _ [.int 12, .int (V 22 4)] _ _
  rw [hz]
  refine ev_icmp_ge (q := 9) (t := 15) dX1_put_6 rfl (by decide) (fun c6 => ?_) (fun c6 => ?_)
  · exact absurd (show nI 12 ≤ nI n from c6) (nI_ge hn (by decide))
  · refine ev_aload2 (q := 10) dX1_put_9 rfl ?_
    refine ev_alen (q := 11) dX1_put_10 (hW _ _ rfl) (by decide) rfl ?_
    refine ev_iconst (q := 12) (v := 5) dX1_put_11 rfl rfl ?_
    refine ev_icmp_ge (q := 15) (t := 16) dX1_put_12 rfl (by decide) (fun c12 => ?_) (fun c12 => ?_)
    · refine ev_iconst (q := 17) (v := 0) dX1_put_16 rfl rfl ?_
      refine ev_istore3 (q := 18) dX1_put_17 rfl (by decide) rfl ?_
      have hh := lp 0 (by decide)
      rw [th_seg_0] at hh
      exact hh
    · exact absurd (by decide) c12
/-! the search -/
theorem cfold_id {s : th_Vl} {R : Nat} {b : Nat × Nat} : ∀ ks : List Nat, (∀ k, k ∈ ks → ¬ (goC s R k ∧ b.2 < sumN (wv s) k R)) → ks.foldl (cstp s R) b = b
  | [], _ => rfl
  | k :: ks, h => by
    rw [List.foldl_cons, cstp_n (h k List.mem_cons_self)]
    exact cfold_id ks (fun j hj => h j (List.mem_cons_of_mem _ hj))
theorem upN_mono {w : Nat → Nat} {a : Nat} : ∀ b, a ≤ b → upN w a ≤ upN w b
  | 0, h => by rw [show a = 0 by omega]; exact Nat.le_refl _
  | b + 1, h => by
    by_cases e : a = b + 1
    · rw [e]; exact Nat.le_refl _
    · have := upN_mono (w := w) (a := a) b (by omega)
      rw [upN]
      omega
theorem sum_bd {w : Nat → Nat} {c e t : Nat} (h : ∀ q, t ≤ q → e.testBit q = c.testBit q) : ∀ R, sumN w e R ≤ sumN w c R + upN w t
  | 0 => Nat.zero_le _
  | R + 1 => by
    rcases Nat.lt_or_ge R t with z | z
    · have h1 := sumN_up w e (R + 1)
      have h2 := upN_mono (w := w) t (show R + 1 ≤ t by omega)
      omega
    · have ih := sum_bd (w := w) h R
      rw [sumN, sumN, h R z]
      split <;> omega
theorem sum_one {w : Nat → Nat} {c e r : Nat} (h : ∀ q, q ≠ r → e.testBit q = c.testBit q) (h1 : e.testBit r = true) (h2 : c.testBit r = false) : ∀ R, sumN w e R = sumN w c R + (if r < R then w r else 0)
  | 0 => rfl
  | R + 1 => by
    rw [sumN, sumN, sum_one h h1 h2 R]
    by_cases e0 : R = r
    · subst e0
      rw [h1, h2, if_neg (Nat.lt_irrefl _), if_pos (Nat.lt_succ_self _)]
      simp
    · rw [h R e0]
      by_cases hr : r < R
      · rw [if_pos hr, if_pos (show r < R + 1 by omega)]
        split <;> omega
      · rw [if_neg hr, if_neg (show ¬ r < R + 1 by omega)]
        simp
def PCh (N : Nat) (SH : Nat → Option th_K0) (V : th_Vl) (b : Nat × Nat) : Option Value → th_S → Prop := fun r S' => r = none ∧ ∃ V', S' = (N, SH, V') ∧ (∀ a k, ¬ (a = 22 ∧ (k = 5 ∨ k = 6)) → V' a k = V a k) ∧ V' 22 5 = nI b.1 ∧ V' 22 6 = nI b.2 ∧ b.2 ≤ 6000
theorem HpK.fr {V V' s : th_Vl} {R : Nat} (h : HpK V s R) (hf : ∀ a k, ¬ (a = 22 ∧ (k = 5 ∨ k = 6)) → V' a k = V a k) : HpK V' s R := by
  obtain ⟨h1, h2, h3⟩ := h
  refine ⟨fun j hj => ?_, fun j q a1 a2 a3 a4 => ?_, fun j q a1 a2 => ?_⟩
  · rw [hf _ _ (by omega), hf _ _ (by omega)]; exact h1 j hj
  · rw [hf _ _ (by omega)]; exact h2 j q a1 a2 a3 a4
  · rw [hf _ _ (by omega)]; exact h3 j q a1 a2
theorem c_chooseFrom (hW : wC SH) {R : Nat} (hR : R ≤ 12) : ∀ r, r ≤ R → ∀ (V : th_Vl) (m : Nat) (b : Nat × Nat), HpK V s R → V 22 5 = nI b.1 → V 22 6 = nI b.2 → b.2 ≤ 6000 → 2 ^ r * m + 2 ^ r ≤ 2 ^ R → goC s R (2 ^ r * m) → ∀ c g x : Int32, c = nI (2 ^ r * m) → g = nI (sumN (wv s) (2 ^ r * m) R) → x = nI r - 1 → MT G l yX1_chooseFrom kX1_chooseFrom (d + 1 + r) 0 0 [.ref 22, .int x, .int c, .int g] (N, SH, V) (PCh N SH V (((List.range (2 ^ r)).map (fun k => 2 ^ r * m + k)).foldl (cstp s R) b)) := by
  have hsum : ∀ k, sumN (wv s) k R ≤ 6000 := fun k => by
    have := sumN_up (wv s) k R
    have := upN_le (wv_le s) R
    omega
  intro r
  induction r with
  | zero =>
    intro _ V m b hK h5 h6 hb hm hg c g x hc hgs hx
    refine MT.of (by decide) rfl rfl (n := 0) rfl (ls := [some (.ref 22), some (.int x), some (.int c), some (.int g)]) rfl ?_
    have hs := hsum (2 ^ 0 * m)
    show EV G l _ _ 0 0 0 _ _ _ (PCh N SH V (cstp s R b (2 ^ 0 * m)))
    refine ev_iload1 (q := 1) dX1_chooseFrom_0 rfl ?_
    refine ev_if_lt (q := 4) (t := 10) dX1_chooseFrom_1 rfl (by decide) (fun c1 => ?_) (fun c1 => ?_)
    · refine ev_iload3 (q := 11) dX1_chooseFrom_10 rfl ?_
      refine ev_aload0 (q := 12) dX1_chooseFrom_11 rfl ?_
      refine ev_getI (q := 15) dX1_chooseFrom_12 g_X1_31 (hW _ _ rfl) rfl rfl ?_
      show EV G l kX1_chooseFrom _ 0 0 15 _ [.int (V 22 6), .int g] _ _
      rw [h6, hgs]
      refine ev_icmp_le (q := 18) (t := 28) dX1_chooseFrom_15 rfl (by decide) (fun c15 => ?_) (fun c15 => ?_)
      · have := (nI_leI (by omega) (by omega)).mp c15
        rw [cstp_n (fun z => by have := z.2; omega)]
        exact ev_return dX1_chooseFrom_28 rfl ⟨rfl, V, rfl, fun _ _ _ => rfl, h5, h6, hb⟩
      · have : b.2 < sumN (wv s) (2 ^ 0 * m) R := by
          rcases Nat.lt_or_ge b.2 (sumN (wv s) (2 ^ 0 * m) R) with z | z
          · exact z
          · exact absurd (nI_le z (by omega)) c15
        rw [cstp_y ⟨hg, this⟩]
        refine ev_aload0 (q := 19) dX1_chooseFrom_18 rfl ?_
        refine ev_iload3 (q := 20) dX1_chooseFrom_19 rfl ?_
        refine ev_putI (q := 23) dX1_chooseFrom_20 (p_X1_31 _) (hW _ _ rfl) rfl rfl rfl rfl ?_
        refine ev_aload0 (q := 24) dX1_chooseFrom_23 rfl ?_
        refine ev_iload2 (q := 25) dX1_chooseFrom_24 rfl ?_
        refine ev_putI (q := 28) dX1_chooseFrom_25 (p_X1_28 _) (hW _ _ rfl) rfl rfl rfl rfl ?_
        refine ev_return dX1_chooseFrom_28 rfl ⟨rfl, th_w (th_w V 22 6 (nI (sumN (wv s) (2 ^ 0 * m) R))) 22 5 c, rfl, fun a k hn => ?_, hc, rfl, hs⟩
        rw [th_w_if, if_neg (fun z => hn ⟨z.1, Or.inl z.2⟩), th_w_if, if_neg (fun z => hn ⟨z.1, Or.inr z.2⟩)]
    · exact absurd (by rw [hx]; decide) c1
  | succ r ih =>
    intro hr V m b hK h5 h6 hb hm hg c g x hc hgs hx
    have hr12 : r < 12 := by omega
    have hp2 : 2 ^ (r + 1) = 2 ^ r + 2 ^ r := by rw [Nat.pow_succ]; omega
    have hpp : 0 < 2 ^ r := Nat.pow_pos (by decide)
    have ec : 2 ^ (r + 1) * m = 2 ^ r * (2 * m) := by rw [Nat.pow_succ, Nat.mul_assoc]
    have ec1 : 2 ^ r * (2 * m + 1) = 2 ^ (r + 1) * m + 2 ^ r := by rw [Nat.mul_add, ← ec, Nat.mul_one]
    have hxr : x = nI r := by rw [hx, nI_pred]
    have hR31 : 2 ^ R ≤ 2 ^ 12 := Nat.pow_le_pow_right (by decide) hR
    have bc : ∀ q, q ≤ r → (2 ^ (r + 1) * m).testBit q = false := fun q hq => by
      have := tb_lo (r := r + 1) (m := m) (l := 0) (q := q) (Nat.pow_pos (by decide)) (by omega)
      rw [Nat.add_zero] at this
      rw [this, Nat.zero_testBit]
    have b1 : ∀ k, k < 2 ^ r → (2 ^ r * (2 * m + 1) + k).testBit r = true := fun k hk => by
      rw [tb_hi hk (Nat.le_refl _), Nat.sub_self]
      exact tb_odd0.1
    have b2 : ∀ k, k < 2 ^ r → ∀ q, r < q → (2 ^ r * (2 * m + 1) + k).testBit q = (2 ^ (r + 1) * m).testBit q := fun k hk q hq => by
      have := tb_hi (r := r) (m := 2 * m) (l := 0) (q := q) hpp (by omega)
      rw [Nat.add_zero] at this
      rw [tb_hi hk (by omega), tb_odd (by omega), ec, this]
    have b3 : ∀ q, q ≠ r → (2 ^ r * (2 * m + 1)).testBit q = (2 ^ (r + 1) * m).testBit q := fun q hq => by
      rcases Nat.lt_or_ge q r with z | z
      · have := tb_lo (r := r) (m := 2 * m + 1) (l := 0) (q := q) hpp z
        rw [Nat.add_zero, Nat.zero_testBit] at this
        rw [this, bc q (by omega)]
      · exact b2 0 hpp q (by omega)
    have b4 : (2 ^ r * (2 * m + 1)).testBit r = true := b1 0 hpp
    have eS : (List.range (2 ^ (r + 1))).map (fun k => 2 ^ (r + 1) * m + k) = (List.range (2 ^ r)).map (fun k => 2 ^ r * (2 * m) + k) ++ (List.range (2 ^ r)).map (fun k => 2 ^ r * (2 * m + 1) + k) := by
      rw [hp2, List.range_add, List.map_append, List.map_map, ec1, hp2, ← ec, hp2]
      congr 1
      refine List.map_congr_left (fun k _ => ?_)
      show (2 ^ r + 2 ^ r) * m + (2 ^ r + k) = (2 ^ r + 2 ^ r) * m + 2 ^ r + k
      omega
    obtain ⟨hw, hu⟩ := hK.1 r (by omega)
    have hup := upN_le (wv_le s) (r + 1)
    have hs0 := hsum (2 ^ (r + 1) * m)
    refine MT.of (by decide) rfl rfl (n := 0) rfl (ls := [some (.ref 22), some (.int x), some (.int c), some (.int g)]) rfl ?_
    subst hxr
    refine ev_iload1 (q := 1) dX1_chooseFrom_0 rfl ?_
    refine ev_if_lt (q := 4) (t := 10) dX1_chooseFrom_1 rfl (by decide) (fun c1 => ?_) (fun c1 => ?_)
    · exact absurd c1 (nI_pos (by omega))
    · refine ev_iload1 (q := 5) dX1_chooseFrom_4 rfl ?_
      refine ev_bipush (q := 7) (v := 12) dX1_chooseFrom_5 rfl rfl ?_
      refine ev_icmp_lt (q := 10) (t := 29) dX1_chooseFrom_7 rfl (by decide) (fun c7 => ?_) (fun c7 => ?_)
      · refine ev_iload3 (q := 30) dX1_chooseFrom_29 rfl ?_
        refine ev_aload0 (q := 31) dX1_chooseFrom_30 rfl ?_
        refine ev_getR (q := 34) dX1_chooseFrom_31 g_X1_21 (hW _ _ rfl) rfl rfl rfl ?_
        refine ev_iload1 (q := 35) dX1_chooseFrom_34 rfl ?_
        refine ev_iald (q := 36) dX1_chooseFrom_35 (hW _ _ rfl) rfl hr12 (by decide) rfl ?_
        refine ev_iadd (q := 37) dX1_chooseFrom_36 rfl ?_
        refine ev_aload0 (q := 38) dX1_chooseFrom_37 rfl ?_
        refine ev_getI (q := 41) dX1_chooseFrom_38 g_X1_31 (hW _ _ rfl) rfl rfl ?_
        show EV G l kX1_chooseFrom _ 0 0 41 _ [.int (V 22 6), .int (g + V 26 r)] _ _
        rw [h6, hgs, hu, nI_add]
        refine ev_icmp_gt (q := 44) (t := 45) dX1_chooseFrom_41 rfl (by decide) (fun c41 => ?_) (fun c41 => ?_)
        · have hm1 := ih (by omega) V (2 * m) b hK h5 h6 hb (by rw [← ec]; omega) (by rw [← ec]; exact hg) c g (nI r - 1) (by rw [← ec]; exact hc) (by rw [← ec]; exact hgs) rfl
          refine ev_aload0 (q := 46) dX1_chooseFrom_45 rfl ?_
          refine ev_iload1 (q := 47) dX1_chooseFrom_46 rfl ?_
          refine ev_iconst (q := 48) (v := 1) dX1_chooseFrom_47 rfl rfl ?_
          refine ev_isub (q := 49) dX1_chooseFrom_48 rfl ?_
          refine ev_iload2 (q := 50) dX1_chooseFrom_49 rfl ?_
          refine ev_iload3 (q := 51) dX1_chooseFrom_50 rfl ?_
          rw [← hgs]
          refine ev_cV (K := kX1_chooseFrom) (pc := 51) (q := 54) (hm1) dX1_chooseFrom_51 l_X1_38 (hW _ _ rfl) rfl rfl (Nat.le_of_ble_eq_true rfl) (Nat.le_refl _) rfl rfl (fun r S1 hp => ?_)
          obtain ⟨rfl, V1, rfl, v1, v2, v3, v4⟩ := hp
          rw [eS, List.foldl_append]
          generalize ((List.range (2 ^ r)).map (fun k => 2 ^ r * (2 * m) + k)).foldl (cstp s R) b = b1' at v2 v3 v4 ⊢
          have hK1 := hK.fr v1
          have hw1 := (hK1.1 r (by omega)).1
          have skip : (∀ k, k < 2 ^ r → ¬ goC s R (2 ^ r * (2 * m + 1) + k)) → ((List.range (2 ^ r)).map (fun k => 2 ^ r * (2 * m + 1) + k)).foldl (cstp s R) b1' = b1' := fun hno => cfold_id _ (fun k hk z => by
            obtain ⟨j, hj, rfl⟩ := List.mem_map.mp hk
            exact hno j (List.mem_range.mp hj) z.1)
          refine ev_aload0 (q := 55) dX1_chooseFrom_54 rfl ?_
          refine ev_getR (q := 58) dX1_chooseFrom_55 g_X1_18 (hW _ _ rfl) rfl rfl rfl ?_
          refine ev_iload1 (q := 59) dX1_chooseFrom_58 rfl ?_
          refine ev_iald (q := 60) dX1_chooseFrom_59 (hW _ _ rfl) rfl hr12 (by decide) rfl ?_
          show EV G l kX1_chooseFrom _ 0 0 60 _ [.int (V1 25 r)] _ _
          rw [hw1]
          have hwl := wv_le s r
          refine ev_if_le (q := 63) (t := 94) dX1_chooseFrom_60 rfl (by decide) (fun c60 => ?_) (fun c60 => ?_)
          · have hz : wv s r = 0 := by
              have := (nI_leI (a := wv s r) (b := 0) (by omega) (by decide)).mp c60
              omega
            rw [skip (fun k hk z => by have := z.1 r (by omega) (b1 k hk); omega)]
            exact ev_return dX1_chooseFrom_94 rfl ⟨rfl, V1, rfl, v1, v2, v3, v4⟩
          · have hz : 0 < wv s r := Nat.pos_of_ne_zero (fun e => c60 (by rw [e]; decide))
            have hlr := (wv_lit hz).1
            have hclash : (V1 24 r &&& nI (2 ^ (r + 1) * m) = 0) ↔ ∀ q, r < q → q < R → (2 ^ (r + 1) * m).testBit q = true → apS s q r = true := by
              constructor
              · intro h q h1 h2 h3
                have hb2 := congrArg (fun z => tbit z q) h
                have hb2 : tbit (V1 24 r &&& nI (2 ^ (r + 1) * m)) q = tbit 0 q := hb2
                rw [tbit_and, tbit_nI (by omega), h3, tbit_0, Bool.and_true, hK1.2.1 r q h1 h2 (wv_lit (hg.1 q h2 h3)).1 hlr] at hb2
                cases hq : apS s q r
                · rw [hq] at hb2; cases hb2
                · rfl
              · intro h
                refine tbit_ext (fun q hq => ?_)
                rw [tbit_and, tbit_nI (by omega), tbit_0]
                cases hbq : (2 ^ (r + 1) * m).testBit q
                · rw [Bool.and_false]
                · have h1 : r < q := by
                    rcases Nat.lt_or_ge r q with z | z
                    · exact z
                    · rw [bc q z] at hbq; cases hbq
                  have h2 : q < R := by
                    rcases Nat.lt_or_ge q R with z | z
                    · exact z
                    · rw [Nat.testBit_lt_two_pow (Nat.lt_of_lt_of_le (show 2 ^ (r + 1) * m < 2 ^ R by omega) (Nat.pow_le_pow_right (by decide) z))] at hbq; cases hbq
                  rw [hK1.2.1 r q h1 h2 (wv_lit (hg.1 q h2 hbq)).1 hlr, h q h1 h2 hbq]
                  rfl
            refine ev_aload0 (q := 64) dX1_chooseFrom_63 rfl ?_
            refine ev_getR (q := 67) dX1_chooseFrom_64 g_X1_15 (hW _ _ rfl) rfl rfl rfl ?_
            refine ev_iload1 (q := 68) dX1_chooseFrom_67 rfl ?_
            refine ev_iald (q := 69) dX1_chooseFrom_68 (hW _ _ rfl) rfl hr12 (by decide) rfl ?_
            refine ev_iload2 (q := 70) dX1_chooseFrom_69 rfl ?_
            refine ev_iand (q := 71) dX1_chooseFrom_70 rfl ?_
            show EV G l kX1_chooseFrom _ 0 0 71 _ [.int (V1 24 r &&& c)] _ _
            rw [hc]
            refine ev_if_ne (q := 74) (t := 94) dX1_chooseFrom_71 rfl (by decide) (fun c71 => ?_) (fun c71 => ?_)
            · rw [skip (fun k hk z => c71 (hclash.mpr (fun q h1 h2 h3 => z.2 q h2 (by rw [b2 k hk q h1]; exact h3) r h1 (b1 k hk))))]
              exact ev_return dX1_chooseFrom_94 rfl ⟨rfl, V1, rfl, v1, v2, v3, v4⟩
            · have hno := hclash.mp c71
              have hg2 : goC s R (2 ^ r * (2 * m + 1)) := by
                refine ⟨fun q hq hb => ?_, fun p hp hbp q hq hbq => ?_⟩
                · by_cases e : q = r
                  · rw [e]; exact hz
                  · rw [b3 q e] at hb
                    exact hg.1 q hq hb
                · by_cases e : p = r
                  · subst e
                    rw [b3 q (by omega), bc q (by omega)] at hbq
                    cases hbq
                  · rw [b3 p e] at hbp
                    by_cases e2 : q = r
                    · subst e2
                      have : q < p := hq
                      exact hno p this hp hbp
                    · rw [b3 q e2] at hbq
                      exact hg.2 p hp hbp q hq hbq
              have eor : nI (2 ^ (r + 1) * m) ||| ((1 : Int32) <<< (nI r &&& 31)) = nI (2 ^ r * (2 * m + 1)) := by
                refine tbit_ext (fun q hq => ?_)
                rw [tbit_or, tbit_nI (by omega), tbit_nI (by omega), tbit_shl (by omega)]
                by_cases e : q = r
                · rw [e, b4]; simp
                · rw [b3 q e]; simp [e]
              have es : sumN (wv s) (2 ^ r * (2 * m + 1)) R = sumN (wv s) (2 ^ (r + 1) * m) R + wv s r := by
                rw [sum_one b3 b4 (bc r (Nat.le_refl _)) R, if_pos (by omega)]
              have hm2 := ih (by omega) V1 (2 * m + 1) b1' hK1 v2 v3 v4 (by rw [ec1]; omega) hg2 (nI (2 ^ (r + 1) * m) ||| ((1 : Int32) <<< (nI r &&& 31))) (g + nI (wv s r)) (nI r - 1) eor (by rw [es, hgs, nI_add]) rfl
              refine ev_aload0 (q := 75) dX1_chooseFrom_74 rfl ?_
              refine ev_iload1 (q := 76) dX1_chooseFrom_75 rfl ?_
              refine ev_iconst (q := 77) (v := 1) dX1_chooseFrom_76 rfl rfl ?_
              refine ev_isub (q := 78) dX1_chooseFrom_77 rfl ?_
              refine ev_iload2 (q := 79) dX1_chooseFrom_78 rfl ?_
              refine ev_iconst (q := 80) (v := 1) dX1_chooseFrom_79 rfl rfl ?_
              refine ev_iload1 (q := 81) dX1_chooseFrom_80 rfl ?_
              refine ev_ishl (q := 82) dX1_chooseFrom_81 rfl ?_
              refine ev_ior (q := 83) dX1_chooseFrom_82 rfl ?_
              refine ev_iload3 (q := 84) dX1_chooseFrom_83 rfl ?_
              refine ev_aload0 (q := 85) dX1_chooseFrom_84 rfl ?_
              refine ev_getR (q := 88) dX1_chooseFrom_85 g_X1_18 (hW _ _ rfl) rfl rfl rfl ?_
              refine ev_iload1 (q := 89) dX1_chooseFrom_88 rfl ?_
              refine ev_iald (q := 90) dX1_chooseFrom_89 (hW _ _ rfl) rfl hr12 (by decide) rfl ?_
              show EV G l kX1_chooseFrom _ 0 0 90 _ (.int (V1 25 r) :: _) _ _
              rw [hw1]
              refine ev_iadd (q := 91) dX1_chooseFrom_90 rfl ?_
              refine ev_cV (K := kX1_chooseFrom) (pc := 91) (q := 94) (hm2) dX1_chooseFrom_91 l_X1_38 (hW _ _ rfl) rfl rfl (Nat.le_of_ble_eq_true rfl) (Nat.le_refl _) rfl rfl (fun r S1 hp => ?_)
              obtain ⟨rfl, V2, rfl, w1, w2, w3, w4⟩ := hp
              exact ev_return dX1_chooseFrom_94 rfl ⟨rfl, V2, rfl, fun a k hn => (w1 a k hn).trans (v1 a k hn), w2, w3, w4⟩
        · have hle : sumN (wv s) (2 ^ (r + 1) * m) R + upN (wv s) (r + 1) ≤ b.2 := by
            rcases Nat.lt_or_ge b.2 (sumN (wv s) (2 ^ (r + 1) * m) R + upN (wv s) (r + 1)) with z | z
            · exact absurd (nI_lt z (by omega)) c41
            · exact z
          have hid : ((List.range (2 ^ (r + 1))).map (fun k => 2 ^ (r + 1) * m + k)).foldl (cstp s R) b = b := cfold_id _ (fun k hk z => by
            obtain ⟨j, hj, rfl⟩ := List.mem_map.mp hk
            have hj := List.mem_range.mp hj
            have := sum_bd (w := wv s) (c := 2 ^ (r + 1) * m) (e := 2 ^ (r + 1) * m + j) (t := r + 1) (fun q hq => by
              have := tb_hi (r := r + 1) (m := m) (l := 0) (q := q) (Nat.pow_pos (by decide)) hq
              rw [Nat.add_zero] at this
              rw [tb_hi hj hq, this]) R
            have := z.2
            omega)
          rw [hid]
          exact ev_return dX1_chooseFrom_44 rfl ⟨rfl, V, rfl, fun _ _ _ => rfl, h5, h6, hb⟩
      · exact absurd (nI_lt hr12 (by decide)) c7
theorem c_choose (hW : wC SH) {R : Nat} (hR : R ≤ 12) (hH : HpR V s R) (h5 : V 22 5 = 0) (h6 : V 22 6 = 0) (hRs : R = ix (s 36 6)) : MT G l yX1_choose kX1_choose (d + 2 + R) 0 0 [.ref 22] (N, SH, V) (fun r S' => r = none ∧ ∃ V', S' = (N, SH, V') ∧ (∀ a k, ¬ (a = 22 ∧ (k = 5 ∨ k = 6)) → V' a k = V a k) ∧ V' 22 5 = (hpS s).1 ∧ V' 22 6 = (hpS s).2) := by
  refine MT.of (by decide) rfl rfl (n := 0) rfl (ls := [some (.ref 22)]) rfl ?_
  have hz : ∀ w r, sumN w 0 r = 0 := by
    intro w r
    induction r with
    | zero => rfl
    | succ r ih => rw [sumN, ih]; simp
  have hm := c_chooseFrom (G := G) (l := l) (d := d) (N := N) (s := s) hW hR R (Nat.le_refl _) V 0 (0, 0) hH.2.1 h5 h6 (Nat.zero_le _) (by rw [Nat.mul_zero]; omega) (by rw [Nat.mul_zero]; exact ⟨fun r _ hb => (by rw [Nat.zero_testBit] at hb; cases hb), fun r _ hb => (by rw [Nat.zero_testBit] at hb; cases hb)⟩) 0 0 (nI R - 1) (by rw [Nat.mul_zero]; rfl) (by rw [Nat.mul_zero, hz]; rfl) rfl
  have eL : (List.range (2 ^ R)).map (fun k => 2 ^ R * 0 + k) = List.range (2 ^ R) := by
    rw [Nat.mul_zero]
    simp
  rw [eL] at hm
  have hf := (hp_fold (s := s) hR (2 ^ R) (Nat.le_refl _)).1
  have e : hpS s = hpF s R (2 ^ R) := by rw [hpS, hRs]
  refine ev_aload0 (q := 1) dX1_choose_0 rfl ?_
  refine ev_aload0 (q := 2) dX1_choose_1 rfl ?_
  refine ev_getI (q := 5) dX1_choose_2 g_X1_24 (hW _ _ rfl) rfl rfl ?_
  refine ev_iconst (q := 6) (v := 1) dX1_choose_5 rfl rfl ?_
  refine ev_isub (q := 7) dX1_choose_6 rfl ?_
  refine ev_iconst (q := 8) (v := 0) dX1_choose_7 rfl rfl ?_
  refine ev_iconst (q := 9) (v := 0) dX1_choose_8 rfl rfl ?_
  show EV G l kX1_choose _ 0 0 9 _ [.int 0, .int 0, .int (V 22 4 - 1), .ref 22] _ _
  rw [hH.1]
  refine ev_cV (K := kX1_choose) (pc := 9) (q := 12) (hm) dX1_choose_9 l_X1_38 (hW _ _ rfl) rfl rfl (Nat.le_of_ble_eq_true rfl) (by omega) rfl rfl (fun r S1 hp => ?_)
  obtain ⟨rfl, V1, rfl, v1, v2, v3, v4⟩ := hp
  exact ev_return dX1_choose_12 rfl ⟨rfl, V1, rfl, v1, by rw [e, hf, v2], by rw [e, hf, v3]⟩
end C13
