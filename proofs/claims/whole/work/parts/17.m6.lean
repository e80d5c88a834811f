/-! the reference: roads, what is held and lit -/
abbrev inSp (sp : Int32) (c : Nat) : Prop := inR (nI c) (sp / 100).toInt (sp - sp / 100 * 100).toInt
/-- is one of the first c cells seen and in the span -/
def exB (v sp : Int32) : Nat → Bool
  | 0 => false
  | c + 1 => exB v sp c || decide ((v >>> (nI c &&& 31)) &&& 1 = 1 ∧ inSp sp c)
def hm (f g : Nat → Int32) : Nat → Int32
  | 0 => 0
  | k + 1 => cond (exB (f k) (g k) 16) (hm f g k ||| (1 <<< (nI k &&& 31))) (hm f g k)
def hmR (s : th_Vl) (r : Nat) : Int32 := hm (sn s) (fun k => s 43 (5 * r + k)) 5
def snD (s : th_Vl) (k : Nat) : Int32 := s 40 k &&& (s 42 k ^^^ (-1))
def hmD (s : th_Vl) (r : Nat) : Int32 := hm (snD s) (fun k => s 43 (5 * r + k)) 5
def litB (s : th_Vl) (r : Nat) : Bool := decide ((s 44 r).toInt ≤ (mb (hmR s r) 16).toInt)
def lm (p : Nat → Bool) : Nat → Int32
  | 0 => 0
  | r + 1 => cond (p r) (lm p r ||| (1 <<< (nI r &&& 31))) (lm p r)
def a_lit (s : th_Vl) : Int32 := lm (litB s) (ix (s 36 6))
def a_held (s : th_Vl) (r : Int32) : Int32 := if isRd s r then hmR s (ix r) else -1
def blB (s : th_Vl) (r : Nat) : Bool := !litB s r && decide ((s 44 r).toInt ≤ (mb (hmD s r) 16).toInt)
def a_blind (s : th_Vl) : Int32 := lm (blB s) (ix (s 36 6))
section M6
variable {G : th_G} {l : Launch} {d : Nat} {n : Nat} {SH : Nat → Option th_K0} {V : th_Vl}
theorem m_isIn (hW : wM SH) {i j k : Nat} (hi : i < 12) (hj : j < 5) {r x c : Int32} (hr : r = nI i) (hx : x = nI j) (hc : c = nI k) : MT G l yX10_isIn kX10_isIn (d + 1) 0 0 [.ref 36, .int r, .int x, .int c] (n, SH, V) (th_bo (inSp (V 43 (5 * i + j)) k) (n, SH, V)) := by
  subst hc
  refine MT.of (by decide) rfl rfl (n := 1) rfl (ls := [some (.ref 36), some (.int r), some (.int x), some (.int (nI k)), none]) rfl ?_
  refine ev_aload0 (q := 1) dX10_isIn_0 rfl ?_
  refine ev_getR (q := 4) dX10_isIn_1 g_X10_28 (hW _ _ rfl) rfl rfl rfl ?_
  refine ev_iconst (q := 5) (v := 5) dX10_isIn_4 rfl rfl ?_
  refine ev_iload1 (q := 6) dX10_isIn_5 rfl ?_
  refine ev_imul (q := 7) dX10_isIn_6 rfl ?_
  refine ev_iload2 (q := 8) dX10_isIn_7 rfl ?_
  refine ev_iadd (q := 9) dX10_isIn_8 rfl ?_
  refine ev_iald (q := 10) dX10_isIn_9 (hW _ _ rfl) (th_5 hr hx) (by omega) (by decide) rfl ?_
  refine ev_istore4 (q := 12) dX10_isIn_10 rfl (by decide) rfl ?_
  refine ev_iload3 (q := 13) dX10_isIn_12 rfl ?_
  refine ev_i2l (q := 14) dX10_isIn_13 rfl ?_
  refine ev_iload4 (q := 16) dX10_isIn_14 rfl ?_
  refine ev_bipush (q := 18) (v := 100) dX10_isIn_16 rfl rfl ?_
  refine ev_idiv (q := 19) dX10_isIn_18 (by decide) rfl ?_
  refine ev_i2l (q := 20) dX10_isIn_19 rfl ?_
  refine ev_iload4 (q := 22) dX10_isIn_20 rfl ?_
  refine ev_bipush (q := 24) (v := 100) dX10_isIn_22 rfl rfl ?_
  refine ev_irem (q := 25) dX10_isIn_24 (by decide) rfl ?_
  refine ev_i2l (q := 26) dX10_isIn_25 rfl ?_
  refine ev_cS (K := kX10_isIn) (pc := 26) (q := 29) (m_inI _ _ _ th_64 th_64) dX10_isIn_26 l_X10_95 rfl (Nat.le_of_ble_eq_true rfl) (Nat.le_refl _) rfl rfl (fun r S1 hp => ?_)
  rcases hp with ⟨rfl, ⟨hp26, rfl⟩ | ⟨hp26, rfl⟩⟩
  · exact ev_ireturn dX10_isIn_29 rfl rfl ⟨rfl, Or.inl ⟨hp26, rfl⟩⟩
  · exact ev_ireturn dX10_isIn_29 rfl rfl ⟨rfl, Or.inr ⟨hp26, rfl⟩⟩
theorem th_or2 {a b : Int32} : (a ||| b) ||| b = a ||| b := by rw [Int32.or_assoc, Int32.or_self]
theorem m_heldBy (hW : wM SH) {i : Nat} (hi : i < 12) {r : Int32} (hr : r = nI i) (dd : Bool) : MT G l yX10_heldBy kX10_heldBy (d + 2) 0 0 [.ref 36, .int r, .int (cond dd 1 0)] (n, SH, V) (th_is (cond dd (hmD V i) (hmR V i)) (n, SH, V)) := by
  refine MT.of (by decide) rfl rfl (n := 4) rfl (ls := [some (.ref 36), some (.int r), some (.int (cond dd 1 0)), none, none, none, none]) rfl ?_
  have lp : ∀ j, j ≤ 5 → ∀ o5 o6, th_c1 [o5, o6] = true → EV G l kX10_heldBy (d + 2) 0 0 5 [some (.ref 36), some (.int r), some (.int (cond dd 1 0)), some (.int (hm (cond dd (snD V) (sn V)) (fun k => V 43 (5 * i + k)) j)), some (.int (nI j)), o5, o6] [] (n, SH, V) (th_is (cond dd (hmD V i) (hmR V i)) (n, SH, V)) := by
    refine th_down 5 ?_ ?_
    · intro o5 o6 h56
      refine ev_iload4 (q := 7) dX10_heldBy_5 rfl ?_
      refine ev_iconst (q := 8) (v := 5) dX10_heldBy_7 rfl rfl ?_
      refine ev_icmp_ge (q := 11) (t := 95) dX10_heldBy_8 rfl (by decide) (fun c8 => ?_) (fun c8 => ?_)
      · refine ev_iload3 (q := 96) dX10_heldBy_95 rfl ?_
        exact ev_ireturn dX10_heldBy_96 rfl rfl ⟨by cases dd <;> rfl, rfl⟩
      · exact absurd (by decide) c8
    · intro j hj ih o5 o6 h56
      have lq : ∀ k, k ≤ 16 → EV G l kX10_heldBy (d + 2) 0 0 46 [some (.ref 36), some (.int r), some (.int (cond dd 1 0)), some (.int (cond (exB (cond dd (snD V) (sn V) j) (V 43 (5 * i + j)) k) (hm (cond dd (snD V) (sn V)) (fun k => V 43 (5 * i + k)) j ||| (1 <<< (nI j &&& 31))) (hm (cond dd (snD V) (sn V)) (fun k => V 43 (5 * i + k)) j))), some (.int (nI j)), some (.int (cond dd (snD V) (sn V) j)), some (.int (nI k))] [] (n, SH, V) (th_is (cond dd (hmD V i) (hmR V i)) (n, SH, V)) := by
        refine th_down 16 ?_ ?_
        · refine ev_iload6 (q := 48) dX10_heldBy_46 rfl ?_
          refine ev_bipush (q := 50) (v := 16) dX10_heldBy_48 rfl rfl ?_
          refine ev_icmp_ge (q := 53) (t := 89) dX10_heldBy_50 rfl (by decide) (fun c50 => ?_) (fun c50 => ?_)
          · refine ev_iinc4 (q := 92) dX10_heldBy_89 rfl (by decide) rfl (nI_succ j).symm ?_
            refine ev_goto (q := 5) dX10_heldBy_92 (by decide) ?_
            exact ih _ _ rfl
          · exact absurd (by decide) c50
        · intro k hk ik
          refine ev_iload6 (q := 48) dX10_heldBy_46 rfl ?_
          refine ev_bipush (q := 50) (v := 16) dX10_heldBy_48 rfl rfl ?_
          refine ev_icmp_ge (q := 53) (t := 89) dX10_heldBy_50 rfl (by decide) (fun c50 => ?_) (fun c50 => ?_)
          · exact absurd c50 (nI_ge hk (by decide))
          · refine ev_iload5 (q := 55) dX10_heldBy_53 rfl ?_
            refine ev_iload6 (q := 57) dX10_heldBy_55 rfl ?_
            refine ev_ishr (q := 58) dX10_heldBy_57 rfl ?_
            refine ev_iconst (q := 59) (v := 1) dX10_heldBy_58 rfl rfl ?_
            refine ev_iand (q := 60) dX10_heldBy_59 rfl ?_
            refine ev_iconst (q := 61) (v := 1) dX10_heldBy_60 rfl rfl ?_
            refine ev_icmp_ne (q := 64) (t := 83) dX10_heldBy_61 rfl (by decide) (fun c61 => ?_) (fun c61 => ?_)
            · refine ev_iinc6 (q := 86) dX10_heldBy_83 rfl (by decide) rfl (nI_succ k).symm ?_
              refine ev_goto (q := 46) dX10_heldBy_86 (by decide) ?_
              have e : exB (cond dd (snD V) (sn V) j) (V 43 (5 * i + j)) (k + 1) = exB (cond dd (snD V) (sn V) j) (V 43 (5 * i + j)) k := by
                rw [exB, decide_eq_false (fun h => c61 h.1), Bool.or_false]
              rw [e] at ik
              exact ik
            · refine ev_aload0 (q := 65) dX10_heldBy_64 rfl ?_
              refine ev_iload1 (q := 66) dX10_heldBy_65 rfl ?_
              refine ev_iload4 (q := 68) dX10_heldBy_66 rfl ?_
              refine ev_iload6 (q := 70) dX10_heldBy_68 rfl ?_
              refine ev_cV (K := kX10_heldBy) (pc := 70) (q := 73) (m_isIn hW hi hj hr rfl rfl) dX10_heldBy_70 l_X10_131 (hW _ _ rfl) rfl rfl (Nat.le_of_ble_eq_true rfl) (Nat.le_refl _) rfl rfl (fun r S1 hp => ?_)
              rcases hp with ⟨rfl, ⟨hp70, rfl⟩ | ⟨hp70, rfl⟩⟩
              · refine ev_if_eq (q := 76) (t := 83) dX10_heldBy_73 rfl (by decide) (fun c73 => ?_) (fun c73 => ?_)
                · exact absurd c73 (by decide)
                · refine ev_iload3 (q := 77) dX10_heldBy_76 rfl ?_
                  refine ev_iconst (q := 78) (v := 1) dX10_heldBy_77 rfl rfl ?_
                  refine ev_iload4 (q := 80) dX10_heldBy_78 rfl ?_
                  refine ev_ishl (q := 81) dX10_heldBy_80 rfl ?_
                  refine ev_ior (q := 82) dX10_heldBy_81 rfl ?_
                  refine ev_istore3 (q := 83) dX10_heldBy_82 rfl (by decide) rfl ?_
                  refine ev_iinc6 (q := 86) dX10_heldBy_83 rfl (by decide) rfl (nI_succ k).symm ?_
                  refine ev_goto (q := 46) dX10_heldBy_86 (by decide) ?_
                  have e : exB (cond dd (snD V) (sn V) j) (V 43 (5 * i + j)) (k + 1) = true := by
                    rw [exB, decide_eq_true (show _ ∧ _ from ⟨c61, hp70⟩), Bool.or_true]
                  rw [e] at ik
                  have e2 : (cond (exB (cond dd (snD V) (sn V) j) (V 43 (5 * i + j)) k) (hm (cond dd (snD V) (sn V)) (fun k => V 43 (5 * i + k)) j ||| (1 <<< (nI j &&& 31))) (hm (cond dd (snD V) (sn V)) (fun k => V 43 (5 * i + k)) j)) ||| (1 <<< (nI j &&& 31)) = (hm (cond dd (snD V) (sn V)) (fun k => V 43 (5 * i + k)) j ||| (1 <<< (nI j &&& 31))) := by
                    cases exB (cond dd (snD V) (sn V) j) (V 43 (5 * i + j)) k
                    · rfl
                    · exact th_or2
                  rw [e2]
                  exact ik
              · refine ev_if_eq (q := 76) (t := 83) dX10_heldBy_73 rfl (by decide) (fun c73 => ?_) (fun c73 => ?_)
                · refine ev_iinc6 (q := 86) dX10_heldBy_83 rfl (by decide) rfl (nI_succ k).symm ?_
                  refine ev_goto (q := 46) dX10_heldBy_86 (by decide) ?_
                  have e : exB (cond dd (snD V) (sn V) j) (V 43 (5 * i + j)) (k + 1) = exB (cond dd (snD V) (sn V) j) (V 43 (5 * i + j)) k := by
                    rw [exB, decide_eq_false (fun h => hp70 h.2), Bool.or_false]
                  rw [e] at ik
                  exact ik
                · exact absurd rfl c73
      refine ev_iload4 (q := 7) dX10_heldBy_5 rfl ?_
      refine ev_iconst (q := 8) (v := 5) dX10_heldBy_7 rfl rfl ?_
      refine ev_icmp_ge (q := 11) (t := 95) dX10_heldBy_8 rfl (by decide) (fun c8 => ?_) (fun c8 => ?_)
      · exact absurd c8 (nI_ge hj (by decide))
      · refine ev_iload2 (q := 12) dX10_heldBy_11 rfl ?_
        refine ev_if_eq (q := 15) (t := 35) dX10_heldBy_12 rfl (by decide) (fun c12 => ?_) (fun c12 => ?_)
        · cases dd
          · refine ev_aload0 (q := 36) dX10_heldBy_35 rfl ?_
            refine ev_iload4 (q := 38) dX10_heldBy_36 rfl ?_
            refine ev_cV (K := kX10_heldBy) (pc := 38) (q := 41) (m_seen hW hj rfl) dX10_heldBy_38 l_X10_116 (hW _ _ rfl) rfl rfl (Nat.le_of_ble_eq_true rfl) (Nat.le_refl _) rfl rfl (fun r S1 hp => ?_)
            obtain ⟨rfl, rfl⟩ := hp
            refine ev_istore5 (q := 43) dX10_heldBy_41 rfl (by decide) h56 ?_
            refine ev_iconst (q := 44) (v := 0) dX10_heldBy_43 rfl rfl ?_
            refine ev_istore6 (q := 46) dX10_heldBy_44 rfl (by decide) (show th_c1 [o6] = true by simpa [th_c1] using (Bool.and_eq_true_iff.mp h56).2) ?_
            exact lq 0 (by decide)
          · exact absurd c12 (by decide)
        · cases dd
          · exact absurd rfl c12
          · refine ev_aload0 (q := 16) dX10_heldBy_15 rfl ?_
            refine ev_getR (q := 19) dX10_heldBy_16 g_X10_19 (hW _ _ rfl) rfl rfl rfl ?_
            refine ev_iload4 (q := 21) dX10_heldBy_19 rfl ?_
            refine ev_iald (q := 22) dX10_heldBy_21 (hW _ _ rfl) rfl hj (by decide) rfl ?_
            refine ev_aload0 (q := 23) dX10_heldBy_22 rfl ?_
            refine ev_getR (q := 26) dX10_heldBy_23 g_X10_25 (hW _ _ rfl) rfl rfl rfl ?_
            refine ev_iload4 (q := 28) dX10_heldBy_26 rfl ?_
            refine ev_iald (q := 29) dX10_heldBy_28 (hW _ _ rfl) rfl hj (by decide) rfl ?_
            refine ev_iconst (q := 30) (v := (-1)) dX10_heldBy_29 rfl rfl ?_
            refine ev_ixor (q := 31) dX10_heldBy_30 rfl ?_
            refine ev_iand (q := 32) dX10_heldBy_31 rfl ?_
            refine ev_goto (q := 41) dX10_heldBy_32 (by decide) ?_
            refine ev_istore5 (q := 43) dX10_heldBy_41 rfl (by decide) h56 ?_
            refine ev_iconst (q := 44) (v := 0) dX10_heldBy_43 rfl rfl ?_
            refine ev_istore6 (q := 46) dX10_heldBy_44 rfl (by decide) (show th_c1 [o6] = true by simpa [th_c1] using (Bool.and_eq_true_iff.mp h56).2) ?_
            exact lq 0 (by decide)
  refine ev_iconst (q := 1) (v := 0) dX10_heldBy_0 rfl rfl ?_
  refine ev_istore3 (q := 2) dX10_heldBy_1 rfl (by decide) rfl ?_
  refine ev_iconst (q := 3) (v := 0) dX10_heldBy_2 rfl rfl ?_
  refine ev_istore4 (q := 5) dX10_heldBy_3 rfl (by decide) rfl ?_
  exact lp 0 (by decide) _ _ rfl
theorem m_isLit (hW : wM SH) {i : Nat} (hi : i < 12) {r : Int32} (hr : r = nI i) : MT G l yX10_isLit kX10_isLit (d + 3) 0 0 [.ref 36, .int r] (n, SH, V) (th_bo (litB V i = true) (n, SH, V)) := by
  refine MT.of (by decide) rfl rfl (n := 0) rfl (ls := [some (.ref 36), some (.int r)]) rfl ?_
  refine ev_aload0 (q := 1) dX10_isLit_0 rfl ?_
  refine ev_iload1 (q := 2) dX10_isLit_1 rfl ?_
  refine ev_iconst (q := 3) (v := 0) dX10_isLit_2 rfl rfl ?_
  refine ev_cV (K := kX10_isLit) (pc := 3) (q := 6) (m_heldBy hW hi hr false) dX10_isLit_3 l_X10_135 (hW _ _ rfl) rfl rfl (Nat.le_of_ble_eq_true rfl) (Nat.le_refl _) rfl rfl (fun r S1 hp => ?_)
  obtain ⟨rfl, rfl⟩ := hp
  refine ev_cS (K := kX10_isLit) (pc := 6) (q := 9) (m_bitsOf _) dX10_isLit_6 l_X10_101 rfl (Nat.le_of_ble_eq_true rfl) (Nat.le_refl _) rfl rfl (fun r S1 hp => ?_)
  obtain ⟨rfl, rfl⟩ := hp
  refine ev_aload0 (q := 10) dX10_isLit_9 rfl ?_
  refine ev_getR (q := 13) dX10_isLit_10 g_X10_31 (hW _ _ rfl) rfl rfl rfl ?_
  refine ev_iload1 (q := 14) dX10_isLit_13 rfl ?_
  refine ev_iald (q := 15) dX10_isLit_14 (hW _ _ rfl) hr hi (by decide) rfl ?_
  refine ev_icmp_lt (q := 18) (t := 22) dX10_isLit_15 rfl (by decide) (fun c15 => ?_) (fun c15 => ?_)
  · refine ev_iconst (q := 23) (v := 0) dX10_isLit_22 rfl rfl ?_
    exact ev_ireturn dX10_isLit_23 rfl rfl ⟨rfl, Or.inr ⟨fun h => absurd (i_lt.mp c15) (Int.not_lt.mpr (of_decide_eq_true h)), rfl⟩⟩
  · refine ev_iconst (q := 19) (v := 1) dX10_isLit_18 rfl rfl ?_
    refine ev_goto (q := 23) dX10_isLit_19 (by decide) ?_
    exact ev_ireturn dX10_isLit_23 rfl rfl ⟨rfl, Or.inl ⟨decide_eq_true (i_nlt c15), rfl⟩⟩
theorem m_lit (hW : wM SH) (hb : bRo (res V)) : MT G l yX10_lit kX10_lit (d + 4) 0 0 [.ref 36] (n, SH, V) (MP n SH V (a_lit (res V)) (res V)) := by
  refine MT.of (by decide) rfl rfl (n := 2) rfl (ls := [some (.ref 36), none, none]) rfl ?_
  have h0 : 0 ≤ (V 36 6).toInt := hb.1
  have h12 : (V 36 6).toInt ≤ 12 := hb.2
  have hR := th_self h0
  have hI := th_ixI h0
  have lp : ∀ j, j ≤ ix (V 36 6) → EV G l kX10_lit (d + 4) 0 0 4 [some (.ref 36), some (.int (lm (litB V) j)), some (.int (nI j))] [] (n, SH, V) (MP n SH V (a_lit (res V)) (res V)) := by
    refine th_down _ ?_ ?_
    · refine ev_iload2 (q := 5) dX10_lit_4 rfl ?_
      refine ev_aload0 (q := 6) dX10_lit_5 rfl ?_
      refine ev_getI (q := 9) dX10_lit_6 g_X10_124 (hW _ _ rfl) rfl rfl ?_
      refine ev_icmp_ge (q := 12) (t := 32) dX10_lit_9 rfl (by decide) (fun c9 => ?_) (fun c9 => ?_)
      · refine ev_iload1 (q := 33) dX10_lit_32 rfl ?_
        exact ev_ireturn dX10_lit_33 rfl rfl (MP.mk _ rfl rfl FM.rf)
      · exact absurd (by show V 36 6 ≤ _; rw [← hR]; exact Int32.le_refl _) c9
    · intro j hj ih
      refine ev_iload2 (q := 5) dX10_lit_4 rfl ?_
      refine ev_aload0 (q := 6) dX10_lit_5 rfl ?_
      refine ev_getI (q := 9) dX10_lit_6 g_X10_124 (hW _ _ rfl) rfl rfl ?_
      refine ev_icmp_ge (q := 12) (t := 32) dX10_lit_9 rfl (by decide) (fun c9 => ?_) (fun c9 => ?_)
      · exact absurd (by have c9 : V 36 6 ≤ _ := c9; rw [hR] at c9; exact c9) (nI_ge hj (by omega))
      · refine ev_aload0 (q := 13) dX10_lit_12 rfl ?_
        refine ev_iload2 (q := 14) dX10_lit_13 rfl ?_
        refine ev_cV (K := kX10_lit) (pc := 14) (q := 17) (m_isLit hW (i := j) (by omega) rfl) dX10_lit_14 l_X10_139 (hW _ _ rfl) rfl rfl (Nat.le_of_ble_eq_true rfl) (Nat.le_refl _) rfl rfl (fun r S1 hp => ?_)
        rcases hp with ⟨rfl, ⟨hp14, rfl⟩ | ⟨hp14, rfl⟩⟩
        · refine ev_if_eq (q := 20) (t := 26) dX10_lit_17 rfl (by decide) (fun c17 => ?_) (fun c17 => ?_)
          · exact absurd c17 (by decide)
          · refine ev_iload1 (q := 21) dX10_lit_20 rfl ?_
            refine ev_iconst (q := 22) (v := 1) dX10_lit_21 rfl rfl ?_
            refine ev_iload2 (q := 23) dX10_lit_22 rfl ?_
            refine ev_ishl (q := 24) dX10_lit_23 rfl ?_
            refine ev_ior (q := 25) dX10_lit_24 rfl ?_
            refine ev_istore1 (q := 26) dX10_lit_25 rfl (by decide) rfl ?_
            refine ev_iinc2 (q := 29) dX10_lit_26 rfl (by decide) rfl (nI_succ j).symm ?_
            refine ev_goto (q := 4) dX10_lit_29 (by decide) ?_
            rw [lm, hp14] at ih
            exact ih
        · refine ev_if_eq (q := 20) (t := 26) dX10_lit_17 rfl (by decide) (fun c17 => ?_) (fun c17 => ?_)
          · refine ev_iinc2 (q := 29) dX10_lit_26 rfl (by decide) rfl (nI_succ j).symm ?_
            refine ev_goto (q := 4) dX10_lit_29 (by decide) ?_
            rw [lm, Bool.eq_false_iff.mpr hp14] at ih
            exact ih
          · exact absurd rfl c17
  refine ev_iconst (q := 1) (v := 0) dX10_lit_0 rfl rfl ?_
  refine ev_istore1 (q := 2) dX10_lit_1 rfl (by decide) rfl ?_
  refine ev_iconst (q := 3) (v := 0) dX10_lit_2 rfl rfl ?_
  refine ev_istore2 (q := 4) dX10_lit_3 rfl (by decide) rfl ?_
  exact lp 0 (Nat.zero_le _)
theorem m_held (hW : wM SH) (hb : bRo (res V)) (r : Int32) : MT G l yX10_held kX10_held (d + 3) 0 0 [.ref 36, .int r] (n, SH, V) (MP n SH V (a_held (res V) r) (res V)) := by
  refine MT.of (by decide) rfl rfl (n := 0) rfl (ls := [some (.ref 36), some (.int r)]) rfl ?_
  refine ev_aload0 (q := 1) dX10_held_0 rfl ?_
  refine ev_iload1 (q := 2) dX10_held_1 rfl ?_
  refine ev_cV (K := kX10_held) (pc := 2) (q := 5) (m_isRoad hW _) dX10_held_2 l_X10_128 (hW _ _ rfl) rfl rfl (Nat.le_of_ble_eq_true rfl) (Nat.le_refl _) rfl rfl (fun r S1 hp => ?_)
  rcases hp with ⟨rfl, ⟨hp2, rfl⟩ | ⟨hp2, rfl⟩⟩
  · refine ev_if_eq (q := 8) (t := 17) dX10_held_5 rfl (by decide) (fun c5 => ?_) (fun c5 => ?_)
    · exact absurd c5 (by decide)
    · refine ev_aload0 (q := 9) dX10_held_8 rfl ?_
      refine ev_iload1 (q := 10) dX10_held_9 rfl ?_
      refine ev_iconst (q := 11) (v := 0) dX10_held_10 rfl rfl ?_
      refine ev_cV (K := kX10_held) (pc := 11) (q := 14) (m_heldBy hW (isRd_lt hb hp2).2.2 (th_self (isRd_lt hb hp2).1) false) dX10_held_11 l_X10_135 (hW _ _ rfl) rfl rfl (Nat.le_of_ble_eq_true rfl) (Nat.le_refl _) rfl rfl (fun r S1 hp => ?_)
      obtain ⟨rfl, rfl⟩ := hp
      refine ev_goto (q := 18) dX10_held_14 (by decide) ?_
      exact ev_ireturn dX10_held_18 rfl rfl (MP.mk _ (if_pos hp2) rfl FM.rf)
  · refine ev_if_eq (q := 8) (t := 17) dX10_held_5 rfl (by decide) (fun c5 => ?_) (fun c5 => ?_)
    · refine ev_iconst (q := 18) (v := (-1)) dX10_held_17 rfl rfl ?_
      exact ev_ireturn dX10_held_18 rfl rfl (MP.mk _ (if_neg hp2) rfl FM.rf)
    · exact absurd c5 (by decide)
theorem m_blind (hW : wM SH) (hb : bRo (res V)) : MT G l yX10_blind kX10_blind (d + 4) 0 0 [.ref 36] (n, SH, V) (MP n SH V (a_blind (res V)) (res V)) := by
  refine MT.of (by decide) rfl rfl (n := 2) rfl (ls := [some (.ref 36), none, none]) rfl ?_
  have h0 : 0 ≤ (V 36 6).toInt := hb.1
  have h12 : (V 36 6).toInt ≤ 12 := hb.2
  have hR := th_self h0
  have hI := th_ixI h0
  have lp : ∀ j, j ≤ ix (V 36 6) → EV G l kX10_blind (d + 4) 0 0 4 [some (.ref 36), some (.int (lm (blB V) j)), some (.int (nI j))] [] (n, SH, V) (MP n SH V (a_blind (res V)) (res V)) := by
    refine th_down _ ?_ ?_
    · refine ev_iload2 (q := 5) dX10_blind_4 rfl ?_
      refine ev_aload0 (q := 6) dX10_blind_5 rfl ?_
      refine ev_getI (q := 9) dX10_blind_6 g_X10_124 (hW _ _ rfl) rfl rfl ?_
      refine ev_icmp_ge (q := 12) (t := 50) dX10_blind_9 rfl (by decide) (fun c9 => ?_) (fun c9 => ?_)
      · refine ev_iload1 (q := 51) dX10_blind_50 rfl ?_
        exact ev_ireturn dX10_blind_51 rfl rfl (MP.mk _ rfl rfl FM.rf)
      · exact absurd (by show V 36 6 ≤ _; rw [← hR]; exact Int32.le_refl _) c9
    · intro j hj ih
      refine ev_iload2 (q := 5) dX10_blind_4 rfl ?_
      refine ev_aload0 (q := 6) dX10_blind_5 rfl ?_
      refine ev_getI (q := 9) dX10_blind_6 g_X10_124 (hW _ _ rfl) rfl rfl ?_
      refine ev_icmp_ge (q := 12) (t := 50) dX10_blind_9 rfl (by decide) (fun c9 => ?_) (fun c9 => ?_)
      · exact absurd (by have c9 : V 36 6 ≤ _ := c9; rw [hR] at c9; exact c9) (nI_ge hj (by omega))
      · refine ev_aload0 (q := 13) dX10_blind_12 rfl ?_
        refine ev_iload2 (q := 14) dX10_blind_13 rfl ?_
        refine ev_cV (K := kX10_blind) (pc := 14) (q := 17) (m_isLit hW (i := j) (by omega) rfl) dX10_blind_14 l_X10_139 (hW _ _ rfl) rfl rfl (Nat.le_of_ble_eq_true rfl) (Nat.le_refl _) rfl rfl (fun r S1 hp => ?_)
        rcases hp with ⟨rfl, ⟨hp14, rfl⟩ | ⟨hp14, rfl⟩⟩
        · refine ev_if_ne (q := 20) (t := 44) dX10_blind_17 rfl (by decide) (fun c17 => ?_) (fun c17 => ?_)
          · refine ev_iinc2 (q := 47) dX10_blind_44 rfl (by decide) rfl (nI_succ j).symm ?_
            refine ev_goto (q := 4) dX10_blind_47 (by decide) ?_
            rw [lm, show blB V j = false by simp [blB, hp14]] at ih
            exact ih
          · exact absurd c17 (by decide)
        · refine ev_if_ne (q := 20) (t := 44) dX10_blind_17 rfl (by decide) (fun c17 => ?_) (fun c17 => ?_)
          · exact absurd rfl c17
          · refine ev_aload0 (q := 21) dX10_blind_20 rfl ?_
            refine ev_iload2 (q := 22) dX10_blind_21 rfl ?_
            refine ev_iconst (q := 23) (v := 1) dX10_blind_22 rfl rfl ?_
            refine ev_cV (K := kX10_blind) (pc := 23) (q := 26) (m_heldBy hW (i := j) (by omega) rfl true) dX10_blind_23 l_X10_135 (hW _ _ rfl) rfl rfl (Nat.le_of_ble_eq_true rfl) (Nat.le_refl _) rfl rfl (fun r S1 hp => ?_)
            obtain ⟨rfl, rfl⟩ := hp
            refine ev_cS (K := kX10_blind) (pc := 26) (q := 29) (m_bitsOf _) dX10_blind_26 l_X10_101 rfl (Nat.le_of_ble_eq_true rfl) (Nat.le_refl _) rfl rfl (fun r S1 hp => ?_)
            obtain ⟨rfl, rfl⟩ := hp
            refine ev_aload0 (q := 30) dX10_blind_29 rfl ?_
            refine ev_getR (q := 33) dX10_blind_30 g_X10_31 (hW _ _ rfl) rfl rfl rfl ?_
            refine ev_iload2 (q := 34) dX10_blind_33 rfl ?_
            refine ev_iald (q := 35) dX10_blind_34 (hW _ _ rfl) rfl (show j < 12 by omega) (by decide) rfl ?_
            refine ev_icmp_lt (q := 38) (t := 44) dX10_blind_35 rfl (by decide) (fun c35 => ?_) (fun c35 => ?_)
            · refine ev_iinc2 (q := 47) dX10_blind_44 rfl (by decide) rfl (nI_succ j).symm ?_
              refine ev_goto (q := 4) dX10_blind_47 (by decide) ?_
              have e : blB V j = false := by
                have : decide ((V 44 j).toInt ≤ (mb (hmD V j) 16).toInt) = false := decide_eq_false (Int.not_le.mpr (i_lt.mp c35))
                simp only [blB, this, Bool.and_false]
              rw [lm, e] at ih
              exact ih
            · refine ev_iload1 (q := 39) dX10_blind_38 rfl ?_
              refine ev_iconst (q := 40) (v := 1) dX10_blind_39 rfl rfl ?_
              refine ev_iload2 (q := 41) dX10_blind_40 rfl ?_
              refine ev_ishl (q := 42) dX10_blind_41 rfl ?_
              refine ev_ior (q := 43) dX10_blind_42 rfl ?_
              refine ev_istore1 (q := 44) dX10_blind_43 rfl (by decide) rfl ?_
              refine ev_iinc2 (q := 47) dX10_blind_44 rfl (by decide) rfl (nI_succ j).symm ?_
              refine ev_goto (q := 4) dX10_blind_47 (by decide) ?_
              have e : blB V j = true := by
                have : decide ((V 44 j).toInt ≤ (mb (hmD V j) 16).toInt) = true := decide_eq_true (i_nlt c35)
                simp only [blB, this, Bool.eq_false_iff.mpr hp14]
                rfl
              rw [lm, e] at ih
              exact ih
  refine ev_iconst (q := 1) (v := 0) dX10_blind_0 rfl rfl ?_
  refine ev_istore1 (q := 2) dX10_blind_1 rfl (by decide) rfl ?_
  refine ev_iconst (q := 3) (v := 0) dX10_blind_2 rfl rfl ?_
  refine ev_istore2 (q := 4) dX10_blind_3 rfl (by decide) rfl ?_
  exact lp 0 (Nat.zero_le _)
end M6
