/-! the reference's cells: what of them stays from call to call -/
abbrev th_Vl : Type := Nat → Nat → Int32
def res (V : th_Vl) : th_Vl := fun a k => cond (pers a k) (V a k) 0
theorem th_w_if {V : th_Vl} {a k b j : Nat} {x : Int32} : th_w V a k x b j = if b = a ∧ j = k then x else V b j := by
  by_cases h : b = a
  · subst h
    by_cases h2 : j = k
    · subst h2; simp [th_w]
    · rw [th_w_j h2]; simp [h2]
  · rw [th_w_ne h]; simp [h]
theorem res_eq {V V' : th_Vl} (h : ∀ a k, pers a k = true → V' a k = V a k) : res V' = res V := by
  funext a k
  cases hp : pers a k
  · simp [res, hp]
  · simp [res, hp, h a k hp]
theorem res_at {V : th_Vl} {a k : Nat} (h : pers a k = true) : res V a k = V a k := by simp [res, h]
theorem res_w {V : th_Vl} {a k : Nat} {x : Int32} (h : pers a k = true) : res (th_w V a k x) = th_w (res V) a k x := by
  funext b j
  rw [th_w_if]
  by_cases hb : b = a ∧ j = k
  · obtain ⟨rfl, rfl⟩ := hb
    rw [res_at h, th_w_if, if_pos ⟨rfl, rfl⟩, if_pos ⟨rfl, rfl⟩]
  · rw [if_neg hb]
    cases hp : pers b j
    · simp [res, hp]
    · rw [res_at hp, res_at hp, th_w_if, if_neg hb]
theorem res_s {V : th_Vl} {a k : Nat} {x : Int32} (h : pers a k = false) : res (th_w V a k x) = res V := by
  refine res_eq (fun b j hp => ?_)
  rw [th_w_if, if_neg]
  rintro ⟨rfl, rfl⟩
  rw [h] at hp
  exact absurd hp (by decide)
/-- a stretch of a row is written anew -/
def th_seg (V : th_Vl) (a lo n : Nat) (f : Nat → Int32) : th_Vl := fun b j => if b = a ∧ lo ≤ j ∧ j < lo + n then f (j - lo) else V b j
theorem th_seg_0 {V : th_Vl} {a lo : Nat} {f : Nat → Int32} : th_seg V a lo 0 f = V := by
  funext b j
  rw [th_seg, if_neg (by omega)]
theorem th_seg_s {V : th_Vl} {a lo i : Nat} {f : Nat → Int32} : th_w (th_seg V a lo i f) a (lo + i) (f i) = th_seg V a lo (i + 1) f := by
  funext b j
  rw [th_w_if]
  unfold th_seg
  by_cases h1 : b = a ∧ j = lo + i
  · obtain ⟨rfl, rfl⟩ := h1
    rw [if_pos ⟨rfl, rfl⟩, if_pos ⟨rfl, by omega, by omega⟩]
    congr 1
    omega
  · rw [if_neg h1]
    by_cases h2 : b = a ∧ lo ≤ j ∧ j < lo + i
    · rw [if_pos h2, if_pos ⟨h2.1, h2.2.1, by omega⟩]
    · rw [if_neg h2, if_neg]
      rintro ⟨rfl, h3, h4⟩
      exact h2 ⟨rfl, h3, by have : ¬ j = lo + i := fun e => h1 ⟨rfl, e⟩
                            omega⟩
theorem th_seg_ne {V : th_Vl} {a lo n b : Nat} {f : Nat → Int32} (h : b ≠ a) : th_seg V a lo n f b = V b := by
  funext j
  rw [th_seg, if_neg (fun z => h z.1)]
theorem th_seg_in {V : th_Vl} {a lo n j : Nat} {f : Nat → Int32} (h1 : lo ≤ j) (h2 : j < lo + n) : th_seg V a lo n f a j = f (j - lo) := by
  rw [th_seg, if_pos ⟨rfl, h1, h2⟩]
theorem th_seg_out {V : th_Vl} {a lo n j : Nat} {f : Nat → Int32} (h : j < lo ∨ lo + n ≤ j) : th_seg V a lo n f a j = V a j := by
  rw [th_seg, if_neg]
  rintro ⟨-, h1, h2⟩
  omega
theorem th_seg_f {V : th_Vl} {a lo n : Nat} {f g : Nat → Int32} (h : ∀ j, j < n → f j = g j) : th_seg V a lo n f = th_seg V a lo n g := by
  funext b j
  unfold th_seg
  by_cases h1 : b = a ∧ lo ≤ j ∧ j < lo + n
  · rw [if_pos h1, if_pos h1, h (j - lo) (by omega)]
  · rw [if_neg h1, if_neg h1]
theorem res_seg {V : th_Vl} {a lo n : Nat} {f : Nat → Int32} (h : ∀ k, pers a k = true) : res (th_seg V a lo n f) = th_seg (res V) a lo n f := by
  funext b j
  unfold th_seg
  by_cases h1 : b = a ∧ lo ≤ j ∧ j < lo + n
  · rw [if_pos h1]
    obtain ⟨rfl, h2⟩ := h1
    rw [res_at (h j), if_pos ⟨rfl, h2⟩]
  · rw [if_neg h1]
    cases hp : pers b j
    · simp [res, hp]
    · rw [res_at hp, res_at hp, if_neg h1]
theorem res_sg {V : th_Vl} {a lo n : Nat} {f : Nat → Int32} (h : ∀ k, pers a k = false) : res (th_seg V a lo n f) = res V := by
  refine res_eq (fun b j hp => ?_)
  rw [th_seg_ne]
  rintro rfl
  rw [h] at hp
  exact absurd hp (by decide)
/-- only the reference's cells change -/
def FM (V V' : th_Vl) : Prop := ∀ a, a < 36 ∨ 64 ≤ a → V' a = V a
theorem FM.rf {V : th_Vl} : FM V V := fun _ _ => rfl
theorem FM.tr {V V1 V2 : th_Vl} (h1 : FM V V1) (h2 : FM V1 V2) : FM V V2 := fun a ha => (h2 a ha).trans (h1 a ha)
theorem FM.w {V V1 : th_Vl} {a k : Nat} {x : Int32} (h : FM V V1) (ha : 36 ≤ a ∧ a < 64) : FM V (th_w V1 a k x) := fun b hb => (th_w_ne (by omega)).trans (h b hb)
theorem FM.sg {V V1 : th_Vl} {a lo n : Nat} {f : Nat → Int32} (h : FM V V1) (ha : 36 ≤ a ∧ a < 64) : FM V (th_seg V1 a lo n f) := fun b hb => (th_seg_ne (by omega)).trans (h b hb)
/-- a public call of the reference: its answer, and what stays, by what stood -/
def MP (n : Nat) (SH : Nat → Option th_K0) (V : th_Vl) (av : Int32) (s' : th_Vl) : Option Value → th_S → Prop := fun r S' => ∃ V', S' = (n, SH, V') ∧ r = some (.int av) ∧ res V' = s' ∧ FM V V'
theorem MP.mk {n : Nat} {SH : Nat → Option th_K0} {V : th_Vl} {av v : Int32} {s' : th_Vl} (V' : th_Vl) (h1 : av = v) (h2 : s' = res V') (h3 : FM V V') : MP n SH V av s' (some (.int v)) (n, SH, V') := ⟨V', rfl, by rw [h1], h2.symm, h3⟩
def ah (f : Nat → Int32) : Nat → Int32
  | 0 => 0
  | k + 1 => ah f k + mb (f k) 16
abbrev sS (h dd z : Int32) : Int32 := (h &&& (dd ^^^ (-1))) &&& (z ^^^ (-1))
def sn (V : th_Vl) (l : Nat) : Int32 := sS (V 40 l) (V 41 l) (V 42 l)
abbrev inR (x : Int32) (a b : Int) : Prop := a ≤ x.toInt ∧ x.toInt ≤ b
-- what the calls answer, and what they leave
def a_lose (s : th_Vl) (r : Int32) : Int32 := if ¬ inR r 0 2 then -1 else if (s 38 (ix r)).toInt < 0 then -3 else 1
def n_lose (s : th_Vl) (r : Int32) : th_Vl := if ¬ inR r 0 2 then s else if (s 38 (ix r)).toInt < 0 then s else th_w s 38 (ix r) (-1)
def a_hits (s : th_Vl) (x b : Int32) : Int32 := if inR x 0 4 ∧ inR b 0 65535 then mb b 16 else -1
def n_hits (s : th_Vl) (x b : Int32) : th_Vl := if inR x 0 4 ∧ inR b 0 65535 then th_w s 40 (ix x) b else s
def a_mask (s : th_Vl) (x w b : Int32) : Int32 := if inR x 0 4 ∧ inR w 0 1 ∧ inR b 0 65535 then (if w = 0 then s 41 (ix x) else s 42 (ix x)) else -1
def n_mask (s : th_Vl) (x w b : Int32) : th_Vl := if inR x 0 4 ∧ inR w 0 1 ∧ inR b 0 65535 then (if w = 0 then th_w s 41 (ix x) b else th_w s 42 (ix x) b) else s
def a_layer (s : th_Vl) (x w : Int32) : Int32 := if ¬ inR x 0 4 then -1 else if w = 0 then s 40 (ix x) else if w = 1 then sn s (ix x) else if w = 2 then s 41 (ix x) else if w = 3 then s 42 (ix x) else -1
def a_clear (s : th_Vl) : Int32 := s 36 10
def n_clear (s : th_Vl) : th_Vl := th_w s 36 10 0
abbrev isLn (s : th_Vl) (k : Int32) : Prop := inR k 0 (s 36 11 - 1).toInt
abbrev isRd (s : th_Vl) (k : Int32) : Prop := inR k 0 (s 36 6 - 1).toInt
/-- the reference's cells have their shapes -/
abbrev wM (SH : Nat → Option th_K0) : Prop := ∀ a c, shM a = some c → SH a = some c
section M2
variable {G : th_G} {l : Launch} {d : Nat} {n : Nat} {SH : Nat → Option th_K0} {V : th_Vl}
theorem m_seen (hW : wM SH) {j : Nat} (hj : j < 5) {x : Int32} (hx : x = nI j) : MT G l yX10_seen kX10_seen d 0 0 [.ref 36, .int x] (n, SH, V) (th_is (sn V j) (n, SH, V)) := by
  refine MT.of (by decide) rfl rfl (n := 0) rfl (ls := [some (.ref 36), some (.int x)]) rfl ?_
  refine ev_aload0 (q := 1) dX10_seen_0 rfl ?_
  refine ev_getR (q := 4) dX10_seen_1 g_X10_19 (hW _ _ rfl) rfl rfl rfl ?_
  refine ev_iload1 (q := 5) dX10_seen_4 rfl ?_
  refine ev_iald (q := 6) dX10_seen_5 (hW _ _ rfl) hx hj (by decide) rfl ?_
  refine ev_aload0 (q := 7) dX10_seen_6 rfl ?_
  refine ev_getR (q := 10) dX10_seen_7 g_X10_22 (hW _ _ rfl) rfl rfl rfl ?_
  refine ev_iload1 (q := 11) dX10_seen_10 rfl ?_
  refine ev_iald (q := 12) dX10_seen_11 (hW _ _ rfl) hx hj (by decide) rfl ?_
  refine ev_iconst (q := 13) (v := (-1)) dX10_seen_12 rfl rfl ?_
  refine ev_ixor (q := 14) dX10_seen_13 rfl ?_
  refine ev_iand (q := 15) dX10_seen_14 rfl ?_
  refine ev_aload0 (q := 16) dX10_seen_15 rfl ?_
  refine ev_getR (q := 19) dX10_seen_16 g_X10_25 (hW _ _ rfl) rfl rfl rfl ?_
  refine ev_iload1 (q := 20) dX10_seen_19 rfl ?_
  refine ev_iald (q := 21) dX10_seen_20 (hW _ _ rfl) hx hj (by decide) rfl ?_
  refine ev_iconst (q := 22) (v := (-1)) dX10_seen_21 rfl rfl ?_
  refine ev_ixor (q := 23) dX10_seen_22 rfl ?_
  refine ev_iand (q := 24) dX10_seen_23 rfl ?_
  exact ev_ireturn dX10_seen_24 rfl rfl ⟨rfl, rfl⟩
theorem m_allHits (hW : wM SH) : MT G l yX10_allHits kX10_allHits (d + 1) 0 0 [.ref 36] (n, SH, V) (th_is (ah (V 40) 5) (n, SH, V)) := by
  refine MT.of (by decide) rfl rfl (n := 2) rfl (ls := [some (.ref 36), none, none]) rfl ?_
  have lp : ∀ i, i ≤ 5 → EV G l kX10_allHits (d + 1) 0 0 4 [some (.ref 36), some (.int (ah (V 40) i)), some (.int (nI i))] [] (n, SH, V) (th_is (ah (V 40) 5) (n, SH, V)) := by
    refine th_down 5 ?_ ?_
    · refine ev_iload2 (q := 5) dX10_allHits_4 rfl ?_
      refine ev_iconst (q := 6) (v := 5) dX10_allHits_5 rfl rfl ?_
      refine ev_icmp_ge (q := 9) (t := 27) dX10_allHits_6 rfl (by decide) (fun c6 => ?_) (fun c6 => ?_)
      · refine ev_iload1 (q := 28) dX10_allHits_27 rfl ?_
        exact ev_ireturn dX10_allHits_28 rfl rfl ⟨rfl, rfl⟩
      · exact absurd (by decide) c6
    · intro i hi ih
      refine ev_iload2 (q := 5) dX10_allHits_4 rfl ?_
      refine ev_iconst (q := 6) (v := 5) dX10_allHits_5 rfl rfl ?_
      refine ev_icmp_ge (q := 9) (t := 27) dX10_allHits_6 rfl (by decide) (fun c6 => ?_) (fun c6 => ?_)
      · exact absurd c6 (nI_ge hi (by decide))
      · refine ev_iload1 (q := 10) dX10_allHits_9 rfl ?_
        refine ev_aload0 (q := 11) dX10_allHits_10 rfl ?_
        refine ev_getR (q := 14) dX10_allHits_11 g_X10_19 (hW _ _ rfl) rfl rfl rfl ?_
        refine ev_iload2 (q := 15) dX10_allHits_14 rfl ?_
        refine ev_iald (q := 16) dX10_allHits_15 (hW _ _ rfl) rfl hi (by decide) rfl ?_
        refine ev_cS (K := kX10_allHits) (pc := 16) (q := 19) (m_bitsOf _) dX10_allHits_16 l_X10_101 rfl (Nat.le_of_ble_eq_true rfl) (Nat.le_refl _) rfl rfl (fun r S1 hp => ?_)
        obtain ⟨rfl, rfl⟩ := hp
        refine ev_iadd (q := 20) dX10_allHits_19 rfl ?_
        refine ev_istore1 (q := 21) dX10_allHits_20 rfl (by decide) rfl ?_
        refine ev_iinc2 (q := 24) dX10_allHits_21 rfl (by decide) rfl (nI_succ i).symm ?_
        refine ev_goto (q := 4) dX10_allHits_24 (by decide) ?_
        exact ih
  refine ev_iconst (q := 1) (v := 0) dX10_allHits_0 rfl rfl ?_
  refine ev_istore1 (q := 2) dX10_allHits_1 rfl (by decide) rfl ?_
  refine ev_iconst (q := 3) (v := 0) dX10_allHits_2 rfl rfl ?_
  refine ev_istore2 (q := 4) dX10_allHits_3 rfl (by decide) rfl ?_
  exact lp 0 (by decide)
theorem m_lose (hW : wM SH) (r : Int32) : MT G l yX10_lose kX10_lose (d + 1) 0 0 [.ref 36, .int r] (n, SH, V) (MP n SH V (a_lose (res V) r) (n_lose (res V) r)) := by
  refine MT.of (by decide) rfl rfl (n := 0) rfl (ls := [some (.ref 36), some (.int r)]) rfl ?_
  refine ev_iload1 (q := 1) dX10_lose_0 rfl ?_
  refine ev_i2l (q := 2) dX10_lose_1 rfl ?_
  refine ev_lconst (q := 3) (v := 0) dX10_lose_2 rfl rfl ?_
  refine ev_ldc2 (q := 6) dX10_lose_3 q_X10_99 rfl ?_
  refine ev_cS (K := kX10_lose) (pc := 6) (q := 9) (m_inI _ _ _ l_0 l_2) dX10_lose_6 l_X10_95 rfl (Nat.le_of_ble_eq_true rfl) (Nat.le_refl _) rfl rfl (fun r S1 hp => ?_)
  rcases hp with ⟨rfl, ⟨hp6, rfl⟩ | ⟨hp6, rfl⟩⟩
  · refine ev_if_ne (q := 12) (t := 14) dX10_lose_9 rfl (by decide) (fun c9 => ?_) (fun c9 => ?_)
    · refine ev_aload0 (q := 15) dX10_lose_14 rfl ?_
      refine ev_getR (q := 18) dX10_lose_15 g_X10_13 (hW _ _ rfl) rfl rfl rfl ?_
      refine ev_iload1 (q := 19) dX10_lose_18 rfl ?_
      refine ev_iald (q := 20) dX10_lose_19 (hW _ _ rfl) (th_self hp6.1) (th_lt hp6.1 (by omega)) (by decide) rfl ?_
      refine ev_if_ge (q := 23) (t := 26) dX10_lose_20 rfl (by decide) (fun c20 => ?_) (fun c20 => ?_)
      · refine ev_aload0 (q := 27) dX10_lose_26 rfl ?_
        refine ev_getR (q := 30) dX10_lose_27 g_X10_13 (hW _ _ rfl) rfl rfl rfl ?_
        refine ev_iload1 (q := 31) dX10_lose_30 rfl ?_
        refine ev_iconst (q := 32) (v := (-1)) dX10_lose_31 rfl rfl ?_
        refine ev_iast (q := 33) dX10_lose_32 (hW _ _ rfl) (th_self hp6.1) (th_lt hp6.1 (by omega)) (by decide) rfl ?_
        refine ev_iconst (q := 34) (v := 1) dX10_lose_33 rfl rfl ?_
        exact ev_ireturn dX10_lose_34 rfl rfl (MP.mk _ ((if_neg (not_not_intro hp6)).trans (if_neg (Int.not_lt.mpr (i_le.mp c20)))) ((if_neg (not_not_intro hp6)).trans ((if_neg (Int.not_lt.mpr (i_le.mp c20))).trans (res_w rfl).symm)) (FM.rf.w (by decide)))
      · refine ev_bipush (q := 25) (v := (-3)) dX10_lose_23 rfl rfl ?_
        exact ev_ireturn dX10_lose_25 rfl rfl (MP.mk _ ((if_neg (not_not_intro hp6)).trans (if_pos (i_nle c20))) ((if_neg (not_not_intro hp6)).trans (if_pos (i_nle c20))) FM.rf)
    · exact absurd c9 (by decide)
  · refine ev_if_ne (q := 12) (t := 14) dX10_lose_9 rfl (by decide) (fun c9 => ?_) (fun c9 => ?_)
    · exact absurd c9 (by decide)
    · refine ev_iconst (q := 13) (v := (-1)) dX10_lose_12 rfl rfl ?_
      exact ev_ireturn dX10_lose_13 rfl rfl (MP.mk _ (if_pos hp6) (if_pos hp6) FM.rf)
theorem m_hits (hW : wM SH) (x b : Int32) : MT G l yX10_hits kX10_hits (d + 2) 0 0 [.ref 36, .int x, .int b] (n, SH, V) (MP n SH V (a_hits (res V) x b) (n_hits (res V) x b)) := by
  refine MT.of (by decide) rfl rfl (n := 0) rfl (ls := [some (.ref 36), some (.int x), some (.int b)]) rfl ?_
  refine ev_iload1 (q := 1) dX10_hits_0 rfl ?_
  refine ev_cS (K := kX10_hits) (pc := 1) (q := 4) (m_isLayer _) dX10_hits_1 l_X10_105 rfl (Nat.le_of_ble_eq_true rfl) (Nat.le_refl _) rfl rfl (fun r S1 hp => ?_)
  rcases hp with ⟨rfl, ⟨hp1, rfl⟩ | ⟨hp1, rfl⟩⟩
  · refine ev_if_eq (q := 7) (t := 19) dX10_hits_4 rfl (by decide) (fun c4 => ?_) (fun c4 => ?_)
    · exact absurd c4 (by decide)
    · refine ev_iload2 (q := 8) dX10_hits_7 rfl ?_
      refine ev_i2l (q := 9) dX10_hits_8 rfl ?_
      refine ev_lconst (q := 10) (v := 0) dX10_hits_9 rfl rfl ?_
      refine ev_ldc2 (q := 13) dX10_hits_10 q_X10_109 rfl ?_
      refine ev_cS (K := kX10_hits) (pc := 13) (q := 16) (m_inI _ _ _ l_0 l_65535) dX10_hits_13 l_X10_95 rfl (Nat.le_of_ble_eq_true rfl) (Nat.le_refl _) rfl rfl (fun r S1 hp => ?_)
      rcases hp with ⟨rfl, ⟨hp13, rfl⟩ | ⟨hp13, rfl⟩⟩
      · refine ev_if_ne (q := 19) (t := 21) dX10_hits_16 rfl (by decide) (fun c16 => ?_) (fun c16 => ?_)
        · refine ev_aload0 (q := 22) dX10_hits_21 rfl ?_
          refine ev_getR (q := 25) dX10_hits_22 g_X10_19 (hW _ _ rfl) rfl rfl rfl ?_
          refine ev_iload1 (q := 26) dX10_hits_25 rfl ?_
          refine ev_iload2 (q := 27) dX10_hits_26 rfl ?_
          refine ev_iast (q := 28) dX10_hits_27 (hW _ _ rfl) (th_self hp1.1) (th_lt hp1.1 (by omega)) (by decide) rfl ?_
          refine ev_iload2 (q := 29) dX10_hits_28 rfl ?_
          refine ev_cS (K := kX10_hits) (pc := 29) (q := 32) (m_bitsOf _) dX10_hits_29 l_X10_101 rfl (Nat.le_of_ble_eq_true rfl) (Nat.le_refl _) rfl rfl (fun r S1 hp => ?_)
          obtain ⟨rfl, rfl⟩ := hp
          exact ev_ireturn dX10_hits_32 rfl rfl (MP.mk _ (if_pos ⟨hp1, hp13⟩) ((if_pos ⟨hp1, hp13⟩).trans (res_w rfl).symm) (FM.rf.w (by decide)))
        · exact absurd c16 (by decide)
      · refine ev_if_ne (q := 19) (t := 21) dX10_hits_16 rfl (by decide) (fun c16 => ?_) (fun c16 => ?_)
        · exact absurd c16 (by decide)
        · refine ev_iconst (q := 20) (v := (-1)) dX10_hits_19 rfl rfl ?_
          exact ev_ireturn dX10_hits_20 rfl rfl (MP.mk _ (if_neg (fun h => hp13 h.2)) (if_neg (fun h => hp13 h.2)) FM.rf)
  · refine ev_if_eq (q := 7) (t := 19) dX10_hits_4 rfl (by decide) (fun c4 => ?_) (fun c4 => ?_)
    · refine ev_iconst (q := 20) (v := (-1)) dX10_hits_19 rfl rfl ?_
      exact ev_ireturn dX10_hits_20 rfl rfl (MP.mk _ (if_neg (fun h => hp1 h.1)) (if_neg (fun h => hp1 h.1)) FM.rf)
    · exact absurd c4 (by decide)
theorem m_clear (hW : wM SH) : MT G l yX10_clear kX10_clear d 0 0 [.ref 36] (n, SH, V) (MP n SH V (a_clear (res V)) (n_clear (res V))) := by
  refine MT.of (by decide) rfl rfl (n := 1) rfl (ls := [some (.ref 36), none]) rfl ?_
  refine ev_aload0 (q := 1) dX10_clear_0 rfl ?_
  refine ev_getI (q := 4) dX10_clear_1 g_X10_175 (hW _ _ rfl) rfl rfl ?_
  refine ev_istore1 (q := 5) dX10_clear_4 rfl (by decide) rfl ?_
  refine ev_aload0 (q := 6) dX10_clear_5 rfl ?_
  refine ev_iconst (q := 7) (v := 0) dX10_clear_6 rfl rfl ?_
  refine ev_putI (q := 10) dX10_clear_7 (p_X10_175 _) (hW _ _ rfl) rfl rfl rfl rfl ?_
  refine ev_iload1 (q := 11) dX10_clear_10 rfl ?_
  exact ev_ireturn dX10_clear_11 rfl rfl (MP.mk _ rfl (res_w rfl).symm (FM.rf.w (by decide)))
theorem m_isRoad (hW : wM SH) (x : Int32) : MT G l yX10_isRoad kX10_isRoad (d + 1) 0 0 [.ref 36, .int x] (n, SH, V) (th_bo (isRd V x) (n, SH, V)) := by
  refine MT.of (by decide) rfl rfl (n := 0) rfl (ls := [some (.ref 36), some (.int x)]) rfl ?_
  refine ev_iload1 (q := 1) dX10_isRoad_0 rfl ?_
  refine ev_i2l (q := 2) dX10_isRoad_1 rfl ?_
  refine ev_lconst (q := 3) (v := 0) dX10_isRoad_2 rfl rfl ?_
  refine ev_aload0 (q := 4) dX10_isRoad_3 rfl ?_
  refine ev_getI (q := 7) dX10_isRoad_4 g_X10_124 (hW _ _ rfl) rfl rfl ?_
  refine ev_iconst (q := 8) (v := 1) dX10_isRoad_7 rfl rfl ?_
  refine ev_isub (q := 9) dX10_isRoad_8 rfl ?_
  refine ev_i2l (q := 10) dX10_isRoad_9 rfl ?_
  refine ev_cS (K := kX10_isRoad) (pc := 10) (q := 13) (m_inI _ _ _ l_0 th_64) dX10_isRoad_10 l_X10_95 rfl (Nat.le_of_ble_eq_true rfl) (Nat.le_refl _) rfl rfl (fun r S1 hp => ?_)
  rcases hp with ⟨rfl, ⟨hp10, rfl⟩ | ⟨hp10, rfl⟩⟩
  · exact ev_ireturn dX10_isRoad_13 rfl rfl ⟨rfl, Or.inl ⟨hp10, rfl⟩⟩
  · exact ev_ireturn dX10_isRoad_13 rfl rfl ⟨rfl, Or.inr ⟨hp10, rfl⟩⟩
theorem m_isLine (hW : wM SH) (x : Int32) : MT G l yX10_isLine kX10_isLine (d + 1) 0 0 [.ref 36, .int x] (n, SH, V) (th_bo (isLn V x) (n, SH, V)) := by
  refine MT.of (by decide) rfl rfl (n := 0) rfl (ls := [some (.ref 36), some (.int x)]) rfl ?_
  refine ev_iload1 (q := 1) dX10_isLine_0 rfl ?_
  refine ev_i2l (q := 2) dX10_isLine_1 rfl ?_
  refine ev_lconst (q := 3) (v := 0) dX10_isLine_2 rfl rfl ?_
  refine ev_aload0 (q := 4) dX10_isLine_3 rfl ?_
  refine ev_getI (q := 7) dX10_isLine_4 g_X10_186 (hW _ _ rfl) rfl rfl ?_
  refine ev_iconst (q := 8) (v := 1) dX10_isLine_7 rfl rfl ?_
  refine ev_isub (q := 9) dX10_isLine_8 rfl ?_
  refine ev_i2l (q := 10) dX10_isLine_9 rfl ?_
  refine ev_cS (K := kX10_isLine) (pc := 10) (q := 13) (m_inI _ _ _ l_0 th_64) dX10_isLine_10 l_X10_95 rfl (Nat.le_of_ble_eq_true rfl) (Nat.le_refl _) rfl rfl (fun r S1 hp => ?_)
  rcases hp with ⟨rfl, ⟨hp10, rfl⟩ | ⟨hp10, rfl⟩⟩
  · exact ev_ireturn dX10_isLine_13 rfl rfl ⟨rfl, Or.inl ⟨hp10, rfl⟩⟩
  · exact ev_ireturn dX10_isLine_13 rfl rfl ⟨rfl, Or.inr ⟨hp10, rfl⟩⟩
end M2
