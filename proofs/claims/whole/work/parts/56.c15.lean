/-! the class: its reader's small steps -/
/-- the reader's place and fault -/
def rst (V : th_Vl) (q : Nat) (z : Int32) : th_Vl := th_w (th_w V 29 2 (nI q)) 29 3 z
theorem rst_ne {V : th_Vl} {q b : Nat} {z : Int32} (h : b ≠ 29) : rst V q z b = V b := by
  unfold rst
  rw [th_w_ne h, th_w_ne h]
theorem rst_pl {V : th_Vl} {p q : Nat} {z x : Int32} (hx : x = nI q) : th_w (rst V p z) 29 2 x = rst V q z := by
  unfold rst
  funext c j
  simp only [th_w_if, hx]
  by_cases h1 : c = 29 ∧ j = 2
  · by_cases h2 : c = 29 ∧ j = 3
    · omega
    · simp [h1]
  · by_cases h2 : c = 29 ∧ j = 3
    · simp [h2]
    · simp [h1, h2]
theorem rst_ft {V : th_Vl} {p : Nat} {z x : Int32} : th_w (rst V p z) 29 3 x = rst V p x := by
  unfold rst
  rw [th_w_w]
theorem rst_p {V : th_Vl} {p : Nat} {z : Int32} : rst V p z 29 2 = nI p := rfl
theorem rst_f {V : th_Vl} {p : Nat} {z : Int32} : rst V p z 29 3 = z := rfl
theorem m1_ne {q : Nat} (h : q < 2 ^ 31) : ¬ nI q = -1 := fun z => by
  have h1 := nI_toInt h
  have h2 : (-1 : Int32).toInt = -1 := by decide
  rw [z, h2] at h1
  omega
/-- the reader holds a text of len letters L -/
def RdC (SH : Nat → Option th_K0) (V : th_Vl) (ta tb len : Nat) (L : Nat → Int32) : Prop := wC SH ∧ (∃ fR : Nat → Option Nat, SH 29 = some (.inr (5, fR)) ∧ fR 0 = some ta ∧ fR 1 = some 16) ∧ (∃ fT : Nat → Option Nat, SH ta = some (.inr (8, fT)) ∧ fT 0 = some tb) ∧ SH tb = some (.inl (2, 60, th_no)) ∧ (ta ≠ 29 ∧ tb ≠ 29) ∧ V ta 1 = nI len ∧ len ≤ 60 ∧ (∀ p, len ≤ p → L p = 0) ∧ ∀ p, p < len → ∀ c, 0 < c → c < 128 → (V tb p = nI c ↔ L p = nI c)
/-- a letter, as the class has it -/
def ltC (V : th_Vl) (tb len p : Nat) : Int32 := if p < len then V tb p else -1
theorem RdC.eq {SH : Nat → Option th_K0} {V : th_Vl} {ta tb len : Nat} {L : Nat → Int32} (h : RdC SH V ta tb len L) (p : Nat) {c : Nat} (h0 : 0 < c) (h1 : c < 128) : ltC V tb len p = nI c ↔ L p = nI c := by
  unfold ltC
  by_cases hp : p < len
  · rw [if_pos hp]
    exact h.2.2.2.2.2.2.2.2 p hp c h0 h1
  · rw [if_neg hp, h.2.2.2.2.2.2.2.1 p (by omega)]
    constructor
    · intro z
      exact absurd z.symm (m1_ne (by omega))
    · intro z
      have := (nI_eq (a := 0) (b := c) (by decide) (by omega)).mp z
      omega
theorem fg_nI {x : Int32} : isFg x ↔ ∃ c : Nat, 48 ≤ c ∧ c ≤ 57 ∧ x = nI c := by
  constructor
  · intro h
    have h0 : 0 ≤ x.toInt := by have := h.1; omega
    have := th_ixI h0
    exact ⟨ix x, by have := h.1; omega, by have := h.2; omega, th_self h0⟩
  · rintro ⟨c, h1, h2, rfl⟩
    have := nI_toInt (n := c) (by omega)
    constructor <;> omega
theorem RdC.fg {SH : Nat → Option th_K0} {V : th_Vl} {ta tb len : Nat} {L : Nat → Int32} (h : RdC SH V ta tb len L) (p : Nat) : (isFg (ltC V tb len p) ↔ isFg (L p)) ∧ (isFg (L p) → ltC V tb len p = L p) := by
  constructor
  · rw [fg_nI, fg_nI]
    constructor
    · rintro ⟨c, h1, h2, h3⟩
      exact ⟨c, h1, h2, (h.eq p (by omega) (by omega)).mp h3⟩
    · rintro ⟨c, h1, h2, h3⟩
      exact ⟨c, h1, h2, (h.eq p (by omega) (by omega)).mpr h3⟩
  · intro hf
    obtain ⟨c, h1, h2, h3⟩ := fg_nI.mp hf
    rw [h3]
    exact (h.eq p (by omega) (by omega)).mpr h3
theorem RdC.nm {SH : Nat → Option th_K0} {V : th_Vl} {ta tb len : Nat} {L : Nat → Int32} (h : RdC SH V ta tb len L) (p : Nat) : (isNm (ltC V tb len p) ↔ isNm (L p)) ∧ (isNm (L p) → ltC V tb len p = L p) := by
  have k : ∀ c : Nat, 0 < c → c < 128 → (ltC V tb len p = nI c ↔ L p = nI c) := fun c h0 h1 => h.eq p h0 h1
  have k1 := k 116 (by decide) (by decide)
  have k2 := k 104 (by decide) (by decide)
  have k3 := k 119 (by decide) (by decide)
  have k4 := k 108 (by decide) (by decide)
  have k5 := k 114 (by decide) (by decide)
  constructor
  · show (ltC V tb len p = nI 116 ∨ ltC V tb len p = nI 104 ∨ ltC V tb len p = nI 119 ∨ ltC V tb len p = nI 108 ∨ ltC V tb len p = nI 114) ↔ (L p = nI 116 ∨ L p = nI 104 ∨ L p = nI 119 ∨ L p = nI 108 ∨ L p = nI 114)
    rw [k1, k2, k3, k4, k5]
  · rintro (z | z | z | z | z)
    · rw [z]; exact k1.mpr z
    · rw [z]; exact k2.mpr z
    · rw [z]; exact k3.mpr z
    · rw [z]; exact k4.mpr z
    · rw [z]; exact k5.mpr z
def PRd (N : Nat) (SH : Nat → Option th_K0) (V : th_Vl) (L : Nat → Int32) (t : Bool) (q : Nat) (ok : Bool) : Option Value → th_S → Prop := fun r S' => ∃ (x : Bool) (z : Int32), r = some (.int (cond x 1 0)) ∧ S' = (N, SH, rst V q z) ∧ ((ok = true ∧ x = t ∧ z = -1) ∨ (ok = false ∧ (z = nI q ∨ (z = -1 ∧ isFg (L q)))))
section C15
variable {G : th_G} {l : Launch} {N : Nat} {SH : Nat → Option th_K0} {V : th_Vl} {ta tb len : Nat} {L : Nat → Int32}
theorem c_canAsk {d : Nat} {S : th_S} (c : Int32) : MT G l yX5_canAsk kX5_canAsk d 0 0 [.int c] S (th_bo (isNm c) S) := by
  refine MT.of (by decide) rfl rfl (n := 0) rfl (ls := [some (.int c)]) rfl ?_
  refine ev_iload0 (q := 1) dX5_canAsk_0 rfl ?_
  refine ev_bipush (q := 3) (v := 116) dX5_canAsk_1 rfl rfl ?_
  refine ev_icmp_eq (q := 6) (t := 30) dX5_canAsk_3 rfl (by decide) (fun c3 => ?_) (fun c3 => ?_)
  · refine ev_iconst (q := 31) (v := 1) dX5_canAsk_30 rfl rfl ?_
    refine ev_goto (q := 35) dX5_canAsk_31 (by decide) ?_
    exact ev_ireturn dX5_canAsk_35 rfl rfl ⟨rfl, Or.inl ⟨Or.inl c3, rfl⟩⟩
  · refine ev_iload0 (q := 7) dX5_canAsk_6 rfl ?_
    refine ev_bipush (q := 9) (v := 104) dX5_canAsk_7 rfl rfl ?_
    refine ev_icmp_eq (q := 12) (t := 30) dX5_canAsk_9 rfl (by decide) (fun c9 => ?_) (fun c9 => ?_)
    · refine ev_iconst (q := 31) (v := 1) dX5_canAsk_30 rfl rfl ?_
      refine ev_goto (q := 35) dX5_canAsk_31 (by decide) ?_
      exact ev_ireturn dX5_canAsk_35 rfl rfl ⟨rfl, Or.inl ⟨Or.inr (Or.inl c9), rfl⟩⟩
    · refine ev_iload0 (q := 13) dX5_canAsk_12 rfl ?_
      refine ev_bipush (q := 15) (v := 119) dX5_canAsk_13 rfl rfl ?_
      refine ev_icmp_eq (q := 18) (t := 30) dX5_canAsk_15 rfl (by decide) (fun c15 => ?_) (fun c15 => ?_)
      · refine ev_iconst (q := 31) (v := 1) dX5_canAsk_30 rfl rfl ?_
        refine ev_goto (q := 35) dX5_canAsk_31 (by decide) ?_
        exact ev_ireturn dX5_canAsk_35 rfl rfl ⟨rfl, Or.inl ⟨Or.inr (Or.inr (Or.inl c15)), rfl⟩⟩
      · refine ev_iload0 (q := 19) dX5_canAsk_18 rfl ?_
        refine ev_bipush (q := 21) (v := 108) dX5_canAsk_19 rfl rfl ?_
        refine ev_icmp_eq (q := 24) (t := 30) dX5_canAsk_21 rfl (by decide) (fun c21 => ?_) (fun c21 => ?_)
        · refine ev_iconst (q := 31) (v := 1) dX5_canAsk_30 rfl rfl ?_
          refine ev_goto (q := 35) dX5_canAsk_31 (by decide) ?_
          exact ev_ireturn dX5_canAsk_35 rfl rfl ⟨rfl, Or.inl ⟨Or.inr (Or.inr (Or.inr (Or.inl c21))), rfl⟩⟩
        · refine ev_iload0 (q := 25) dX5_canAsk_24 rfl ?_
          refine ev_bipush (q := 27) (v := 114) dX5_canAsk_25 rfl rfl ?_
          refine ev_icmp_ne (q := 30) (t := 34) dX5_canAsk_27 rfl (by decide) (fun c27 => ?_) (fun c27 => ?_)
          · refine ev_iconst (q := 35) (v := 0) dX5_canAsk_34 rfl rfl ?_
            exact ev_ireturn dX5_canAsk_35 rfl rfl ⟨rfl, Or.inr ⟨fun h => by rcases h with h | h | h | h | h; exact c3 h; exact c9 h; exact c15 h; exact c21 h; exact c27 h, rfl⟩⟩
          · refine ev_iconst (q := 31) (v := 1) dX5_canAsk_30 rfl rfl ?_
            refine ev_goto (q := 35) dX5_canAsk_31 (by decide) ?_
            exact ev_ireturn dX5_canAsk_35 rfl rfl ⟨rfl, Or.inl ⟨Or.inr (Or.inr (Or.inr (Or.inr c27))), rfl⟩⟩
theorem c_isFigure {d : Nat} {S : th_S} (c : Int32) : MT G l yX5_isFigure kX5_isFigure d 0 0 [.int c] S (th_bo (isFg c) S) := by
  refine MT.of (by decide) rfl rfl (n := 0) rfl (ls := [some (.int c)]) rfl ?_
  have e48 : (48 : Int32).toInt = 48 := by decide
  have e57 : (57 : Int32).toInt = 57 := by decide
  refine ev_iload0 (q := 1) dX5_isFigure_0 rfl ?_
  refine ev_bipush (q := 3) (v := 48) dX5_isFigure_1 rfl rfl ?_
  refine ev_icmp_lt (q := 6) (t := 16) dX5_isFigure_3 rfl (by decide) (fun c3 => ?_) (fun c3 => ?_)
  · refine ev_iconst (q := 17) (v := 0) dX5_isFigure_16 rfl rfl ?_
    exact ev_ireturn dX5_isFigure_17 rfl rfl ⟨rfl, Or.inr ⟨fun h => by have := i_lt.mp c3; have := h.1; omega, rfl⟩⟩
  · refine ev_iload0 (q := 7) dX5_isFigure_6 rfl ?_
    refine ev_bipush (q := 9) (v := 57) dX5_isFigure_7 rfl rfl ?_
    refine ev_icmp_gt (q := 12) (t := 16) dX5_isFigure_9 rfl (by decide) (fun c9 => ?_) (fun c9 => ?_)
    · refine ev_iconst (q := 17) (v := 0) dX5_isFigure_16 rfl rfl ?_
      exact ev_ireturn dX5_isFigure_17 rfl rfl ⟨rfl, Or.inr ⟨fun h => by have := i_lt.mp c9; have := h.2; omega, rfl⟩⟩
    · refine ev_iconst (q := 13) (v := 1) dX5_isFigure_12 rfl rfl ?_
      refine ev_goto (q := 17) dX5_isFigure_13 (by decide) ?_
      exact ev_ireturn dX5_isFigure_17 rfl rfl ⟨rfl, Or.inl ⟨by have := i_nlt c3; have := i_nlt c9; constructor <;> omega, rfl⟩⟩
theorem c_letterAt {d p : Nat} {z : Int32} (h : RdC SH V ta tb len L) (hp : p < 2 ^ 30) : MT G l yX8_letterAt kX8_letterAt d 0 0 [.ref ta, .int (nI p)] (N, SH, rst V p z) (th_is (ltC V tb len p) (N, SH, rst V p z)) := by
  refine MT.of (by decide) rfl rfl (n := 0) rfl (ls := [some (.ref ta), some (.int (nI p))]) rfl ?_
  obtain ⟨-, -, ⟨fT, h1, h2⟩, h3, ⟨h4, h5⟩, h6, h7, -⟩ := h
  have e1 : rst V p z ta 1 = nI len := (congrFun (rst_ne h4) 1).trans h6
  have e2 : rst V p z tb = V tb := rst_ne h5
  refine ev_iload1 (q := 1) dX8_letterAt_0 rfl ?_
  refine ev_if_lt (q := 4) (t := 12) dX8_letterAt_1 rfl (by decide) (fun c1 => ?_) (fun c1 => ?_)
  · exact absurd c1 (nI_pos (by omega))
  · refine ev_iload1 (q := 5) dX8_letterAt_4 rfl ?_
    refine ev_aload0 (q := 6) dX8_letterAt_5 rfl ?_
    refine ev_getI (q := 9) dX8_letterAt_6 g_X8_15 h1 rfl rfl ?_
    show EV G l kX8_letterAt _ 0 0 9 _ [.int (rst V p z ta 1), .int (nI p)] _ _
    rw [e1]
    refine ev_icmp_lt (q := 12) (t := 16) dX8_letterAt_9 rfl (by decide) (fun c9 => ?_) (fun c9 => ?_)
    · have hlt := (nI_ltI (by omega) (by omega)).mp c9
      refine ev_aload0 (q := 17) dX8_letterAt_16 rfl ?_
      refine ev_getR (q := 20) dX8_letterAt_17 g_X8_9 h1 rfl h2 rfl ?_
      refine ev_iload1 (q := 21) dX8_letterAt_20 rfl ?_
      refine ev_cald (q := 22) dX8_letterAt_21 h3 rfl (show p < 60 by omega) (by decide) rfl ?_
      show EV G l kX8_letterAt _ 0 0 22 _ [.int (rst V p z tb p)] _ _
      rw [e2]
      exact ev_ireturn dX8_letterAt_22 rfl rfl ⟨congrArg (fun y => some (Value.int y)) (if_pos hlt).symm, rfl⟩
    · refine ev_iconst (q := 13) (v := (-1)) dX8_letterAt_12 rfl rfl ?_
      refine ev_goto (q := 22) dX8_letterAt_13 (by decide) ?_
      exact ev_ireturn dX8_letterAt_22 rfl rfl ⟨congrArg (fun y => some (Value.int y)) (if_neg (fun y => c9 (nI_lt y (by omega)))).symm, rfl⟩
theorem c_fail {d p : Nat} {z : Int32} (h : RdC SH V ta tb len L) : MT G l yX5_fail kX5_fail d 0 0 [.ref 29] (N, SH, rst V p z) (fun r S' => r = some (.int 0) ∧ S' = (N, SH, rst V p (if z = -1 then nI p else z))) := by
  refine MT.of (by decide) rfl rfl (n := 0) rfl (ls := [some (.ref 29)]) rfl ?_
  obtain ⟨-, ⟨fR, h1, h2, h3⟩, -⟩ := h
  refine ev_aload0 (q := 1) dX5_fail_0 rfl ?_
  refine ev_getI (q := 4) dX5_fail_1 g_X5_23 h1 rfl rfl ?_
  refine ev_iconst (q := 5) (v := (-1)) dX5_fail_4 rfl rfl ?_
  show EV G l kX5_fail _ 0 0 5 _ [.int (-1), .int (rst V p z 29 3)] _ _
  rw [rst_f]
  refine ev_icmp_ne (q := 8) (t := 16) dX5_fail_5 rfl (by decide) (fun c5 => ?_) (fun c5 => ?_)
  · rw [if_neg c5]
    refine ev_iconst (q := 17) (v := 0) dX5_fail_16 rfl rfl ?_
    exact ev_ireturn dX5_fail_17 rfl rfl ⟨rfl, rfl⟩
  · rw [if_pos c5]
    refine ev_aload0 (q := 9) dX5_fail_8 rfl ?_
    refine ev_aload0 (q := 10) dX5_fail_9 rfl ?_
    refine ev_getI (q := 13) dX5_fail_10 g_X5_19 h1 rfl rfl ?_
    refine ev_putI (q := 16) dX5_fail_13 (p_X5_23 _) h1 rfl rfl rfl rfl ?_
    show EV G l kX5_fail _ 0 0 16 _ _ (N, SH, th_w (rst V p z) 29 3 (rst V p z 29 2)) _
    rw [rst_p, rst_ft]
    refine ev_iconst (q := 17) (v := 0) dX5_fail_16 rfl rfl ?_
    exact ev_ireturn dX5_fail_17 rfl rfl ⟨rfl, rfl⟩
theorem c_passNo {d p q : Nat} {c : Int32} (h : RdC SH V ta tb len L) (hq : q < 2 ^ 31) : MT G l yX5_passOver kX5_passOver d 0 0 [.ref 29, .int c] (N, SH, rst V p (nI q)) (th_is 0 (N, SH, rst V p (nI q))) := by
  refine MT.of (by decide) rfl rfl (n := 0) rfl (ls := [some (.ref 29), some (.int c)]) rfl ?_
  obtain ⟨-, ⟨fR, h1, h2, h3⟩, -⟩ := h
  refine ev_aload0 (q := 1) dX5_passOver_0 rfl ?_
  refine ev_getI (q := 4) dX5_passOver_1 g_X5_23 h1 rfl rfl ?_
  refine ev_iconst (q := 5) (v := (-1)) dX5_passOver_4 rfl rfl ?_
  show EV G l kX5_passOver _ 0 0 5 _ [.int (-1), .int (rst V p (nI q) 29 3)] _ _
  rw [rst_f]
  refine ev_icmp_ne (q := 8) (t := 23) dX5_passOver_5 rfl (by decide) (fun c5 => ?_) (fun c5 => ?_)
  · refine ev_iconst (q := 24) (v := 0) dX5_passOver_23 rfl rfl ?_
    exact ev_ireturn dX5_passOver_24 rfl rfl ⟨rfl, rfl⟩
  · exact absurd c5 (m1_ne hq)
theorem c_passOver {d p c : Nat} (h : RdC SH V ta tb len L) (hp : p < 2 ^ 30) (hc0 : 0 < c) (hc1 : c < 128) : MT G l yX5_passOver kX5_passOver (d + 1) 0 0 [.ref 29, .int (nI c)] (N, SH, rst V p (-1)) (fun r S' => (L p = nI c ∧ r = some (.int 1) ∧ S' = (N, SH, rst V (p + 1) (-1))) ∨ (¬ L p = nI c ∧ r = some (.int 0) ∧ S' = (N, SH, rst V p (-1)))) := by
  refine MT.of (by decide) rfl rfl (n := 0) rfl (ls := [some (.ref 29), some (.int (nI c))]) rfl ?_
  have h' := h
  obtain ⟨-, ⟨fR, h1, h2, h3⟩, ⟨fT, h4, -⟩, -⟩ := h'
  have key := h.eq p hc0 hc1
  refine ev_aload0 (q := 1) dX5_passOver_0 rfl ?_
  refine ev_getI (q := 4) dX5_passOver_1 g_X5_23 h1 rfl rfl ?_
  refine ev_iconst (q := 5) (v := (-1)) dX5_passOver_4 rfl rfl ?_
  show EV G l kX5_passOver _ 0 0 5 _ [.int (-1), .int (rst V p (-1) 29 3)] _ _
  rw [rst_f]
  refine ev_icmp_ne (q := 8) (t := 23) dX5_passOver_5 rfl (by decide) (fun c5 => ?_) (fun c5 => ?_)
  · exact absurd rfl c5
  · refine ev_aload0 (q := 9) dX5_passOver_8 rfl ?_
    refine ev_getR (q := 12) dX5_passOver_9 g_X5_9 h1 rfl h2 rfl ?_
    refine ev_aload0 (q := 13) dX5_passOver_12 rfl ?_
    refine ev_getI (q := 16) dX5_passOver_13 g_X5_19 h1 rfl rfl ?_
    show EV G l kX5_passOver _ 0 0 16 _ [.int (rst V p (-1) 29 2), .ref ta] _ _
    rw [rst_p]
    refine ev_cV (K := kX5_passOver) (pc := 16) (q := 19) (c_letterAt (d := d) h hp) dX5_passOver_16 l_X5_49 h4 rfl rfl (Nat.le_of_ble_eq_true rfl) (Nat.le_refl _) rfl rfl (fun r S1 hp => ?_)
    obtain ⟨rfl, rfl⟩ := hp
    refine ev_iload1 (q := 20) dX5_passOver_19 rfl ?_
    refine ev_icmp_eq (q := 23) (t := 25) dX5_passOver_20 rfl (by decide) (fun c20 => ?_) (fun c20 => ?_)
    · refine ev_aload0 (q := 26) dX5_passOver_25 rfl ?_
      refine ev_dup (q := 27) dX5_passOver_26 rfl rfl ?_
      refine ev_getI (q := 30) dX5_passOver_27 g_X5_19 h1 rfl rfl ?_
      refine ev_iconst (q := 31) (v := 1) dX5_passOver_30 rfl rfl ?_
      refine ev_iadd (q := 32) dX5_passOver_31 rfl ?_
      refine ev_putI (q := 35) dX5_passOver_32 (p_X5_19 _) h1 rfl rfl rfl rfl ?_
      show EV G l kX5_passOver _ 0 0 35 _ _ (N, SH, th_w (rst V p (-1)) 29 2 (rst V p (-1) 29 2 + 1)) _
      rw [rst_p, rst_pl (nI_succ p).symm]
      refine ev_iconst (q := 36) (v := 1) dX5_passOver_35 rfl rfl ?_
      exact ev_ireturn dX5_passOver_36 rfl rfl (Or.inl ⟨key.mp c20, rfl, rfl⟩)
    · refine ev_iconst (q := 24) (v := 0) dX5_passOver_23 rfl rfl ?_
      exact ev_ireturn dX5_passOver_24 rfl rfl (Or.inr ⟨fun y => c20 (key.mpr y), rfl, rfl⟩)
theorem c_readNumber {d p : Nat} (h : RdC SH V ta tb len L) (hp : p < 2 ^ 29) : MT G l yX5_readNumber kX5_readNumber (d + 2) 0 0 [.ref 29] (N, SH, rst V p (-1)) (fun r S' => r = some (.int (dg L 3 p 0).2) ∧ S' = (N, SH, if isFg (L p) then rst V (dg L 3 p 0).1 (-1) else rst V p (nI p))) := by
  refine MT.of (by decide) rfl rfl (n := 2) rfl (ls := [some (.ref 29), none, none]) rfl ?_
  have h' := h
  obtain ⟨-, ⟨fR, h1, h2, h3⟩, ⟨fT, h4, -⟩, -⟩ := h'
  have fin : ∀ (i pp : Nat) (x : Int32), i ≤ 3 → (dg L 3 p 0) = (pp, x) → (i = 0 → pp = p ∧ ¬ isFg (L p)) → (0 < i → isFg (L p)) → EV G l kX5_readNumber (d + 2) 0 0 62 [some (.ref 29), some (.int x), some (.int (nI i))] [] (N, SH, rst V pp (-1)) (fun r S' => r = some (.int (dg L 3 p 0).2) ∧ S' = (N, SH, if isFg (L p) then rst V (dg L 3 p 0).1 (-1) else rst V p (nI p))) := by
    intro i pp x hi he h0 h1'
    refine ev_iload2 (q := 63) dX5_readNumber_62 rfl ?_
    refine ev_if_ne (q := 66) (t := 71) dX5_readNumber_63 rfl (by decide) (fun c63 => ?_) (fun c63 => ?_)
    · have hi0 : 0 < i := Nat.pos_of_ne_zero (fun e => c63 (by rw [e]; rfl))
      refine ev_iload1 (q := 72) dX5_readNumber_71 rfl ?_
      exact ev_ireturn dX5_readNumber_72 rfl rfl ⟨by rw [he], by rw [if_pos (h1' hi0), he]⟩
    · have hi0 : i = 0 := (nI_eq (by omega) (by decide)).mp (show nI i = nI 0 from c63)
      obtain ⟨e1, e2⟩ := h0 hi0
      refine ev_aload0 (q := 67) dX5_readNumber_66 rfl ?_
      refine ev_cV (K := kX5_readNumber) (pc := 67) (q := 70) (c_fail (d := d) (p := pp) (z := -1) h) dX5_readNumber_67 l_X5_35 h1 rfl rfl (Nat.le_of_ble_eq_true rfl) (by omega) rfl rfl (fun r S1 hp => ?_)
      obtain ⟨rfl, rfl⟩ := hp
      refine ev_pop (q := 71) dX5_readNumber_70 rfl rfl ?_
      refine ev_iload1 (q := 72) dX5_readNumber_71 rfl ?_
      exact ev_ireturn dX5_readNumber_72 rfl rfl ⟨by rw [he], by rw [if_neg e2, if_pos rfl, e1]⟩
  have lp : ∀ n i, i + n = 3 → ∀ x : Int32, dg L 3 p 0 = dg L n (p + i) x → (0 < i → isFg (L p)) → EV G l kX5_readNumber (d + 2) 0 0 4 [some (.ref 29), some (.int x), some (.int (nI i))] [] (N, SH, rst V (p + i) (-1)) (fun r S' => r = some (.int (dg L 3 p 0).2) ∧ S' = (N, SH, if isFg (L p) then rst V (dg L 3 p 0).1 (-1) else rst V p (nI p))) := by
    intro n
    induction n with
    | zero =>
      intro i hi x he hf
      have hi3 : i = 3 := by omega
      subst hi3
      refine ev_iload2 (q := 5) dX5_readNumber_4 rfl ?_
      refine ev_iconst (q := 6) (v := 3) dX5_readNumber_5 rfl rfl ?_
      refine ev_icmp_ge (q := 9) (t := 62) dX5_readNumber_6 rfl (by decide) (fun c6 => ?_) (fun c6 => ?_)
      · exact fin 3 _ x (by decide) he (fun y => by cases y) hf
      · exact absurd (by decide) c6
    | succ n ih =>
      intro i hi x he hf
      have hfg := h.fg (p + i)
      have hdg : dg L (n + 1) (p + i) x = if isFg (L (p + i)) then dg L n (p + i + 1) (10 * x + L (p + i) - 48) else (p + i, x) := rfl
      refine ev_iload2 (q := 5) dX5_readNumber_4 rfl ?_
      refine ev_iconst (q := 6) (v := 3) dX5_readNumber_5 rfl rfl ?_
      refine ev_icmp_ge (q := 9) (t := 62) dX5_readNumber_6 rfl (by decide) (fun c6 => ?_) (fun c6 => ?_)
      · exact absurd c6 (show ¬ nI 3 ≤ nI i from nI_ge (by omega) (by decide))
      · refine ev_aload0 (q := 10) dX5_readNumber_9 rfl ?_
        refine ev_getR (q := 13) dX5_readNumber_10 g_X5_9 h1 rfl h2 rfl ?_
        refine ev_aload0 (q := 14) dX5_readNumber_13 rfl ?_
        refine ev_getI (q := 17) dX5_readNumber_14 g_X5_19 h1 rfl rfl ?_
        show EV G l kX5_readNumber _ 0 0 17 _ [.int (rst V (p + i) (-1) 29 2), .ref ta] _ _
        rw [rst_p]
        refine ev_cV (K := kX5_readNumber) (pc := 17) (q := 20) (c_letterAt (d := d) h (by omega)) dX5_readNumber_17 l_X5_49 h4 rfl rfl (Nat.le_of_ble_eq_true rfl) (by omega) rfl rfl (fun r S1 hp => ?_)
        obtain ⟨rfl, rfl⟩ := hp
        refine ev_cS (K := kX5_readNumber) (pc := 20) (q := 23) (c_isFigure (d := d) _) dX5_readNumber_20 l_X5_69 rfl (Nat.le_of_ble_eq_true rfl) (by omega) rfl rfl (fun r S1 hp => ?_)
        rcases hp with ⟨rfl, ⟨hp20, rfl⟩ | ⟨hp20, rfl⟩⟩
        · have hF := hfg.1.mp hp20
          refine ev_if_eq (q := 26) (t := 62) dX5_readNumber_23 rfl (by decide) (fun c23 => ?_) (fun c23 => ?_)
          · exact absurd c23 (by decide)
          · refine ev_bipush (q := 28) (v := 10) dX5_readNumber_26 rfl rfl ?_
            refine ev_iload1 (q := 29) dX5_readNumber_28 rfl ?_
            refine ev_imul (q := 30) dX5_readNumber_29 rfl ?_
            refine ev_aload0 (q := 31) dX5_readNumber_30 rfl ?_
            refine ev_getR (q := 34) dX5_readNumber_31 g_X5_9 h1 rfl h2 rfl ?_
            refine ev_aload0 (q := 35) dX5_readNumber_34 rfl ?_
            refine ev_getI (q := 38) dX5_readNumber_35 g_X5_19 h1 rfl rfl ?_
            show EV G l kX5_readNumber _ 0 0 38 _ (.int (rst V (p + i) (-1) 29 2) :: .ref ta :: _) _ _
            rw [rst_p]
            refine ev_cV (K := kX5_readNumber) (pc := 38) (q := 41) (c_letterAt (d := d) h (by omega)) dX5_readNumber_38 l_X5_49 h4 rfl rfl (Nat.le_of_ble_eq_true rfl) (by omega) rfl rfl (fun r S1 hp => ?_)
            obtain ⟨rfl, rfl⟩ := hp
            rw [hfg.2 hF]
            refine ev_iadd (q := 42) dX5_readNumber_41 rfl ?_
            refine ev_bipush (q := 44) (v := 48) dX5_readNumber_42 rfl rfl ?_
            refine ev_isub (q := 45) dX5_readNumber_44 rfl ?_
            refine ev_istore1 (q := 46) dX5_readNumber_45 rfl (by decide) rfl ?_
            refine ev_iinc2 (q := 49) dX5_readNumber_46 rfl (by decide) rfl (nI_succ i).symm ?_
            refine ev_aload0 (q := 50) dX5_readNumber_49 rfl ?_
            refine ev_dup (q := 51) dX5_readNumber_50 rfl rfl ?_
            refine ev_getI (q := 54) dX5_readNumber_51 g_X5_19 h1 rfl rfl ?_
            refine ev_iconst (q := 55) (v := 1) dX5_readNumber_54 rfl rfl ?_
            refine ev_iadd (q := 56) dX5_readNumber_55 rfl ?_
            refine ev_putI (q := 59) dX5_readNumber_56 (p_X5_19 _) h1 rfl rfl rfl rfl ?_
            show EV G l kX5_readNumber _ 0 0 59 _ _ (N, SH, th_w (rst V (p + i) (-1)) 29 2 (rst V (p + i) (-1) 29 2 + 1)) _
            rw [rst_p, rst_pl (nI_succ (p + i)).symm]
            refine ev_goto (q := 4) dX5_readNumber_59 (by decide) ?_
            rw [hdg, if_pos hF] at he
            exact ih (i + 1) (by omega) _ he (fun _ => by
              by_cases e : i = 0
              · rw [e] at hF; exact hF
              · exact hf (by omega))
        · have hF : ¬ isFg (L (p + i)) := fun y => hp20 (hfg.1.mpr y)
          refine ev_if_eq (q := 26) (t := 62) dX5_readNumber_23 rfl (by decide) (fun c23 => ?_) (fun c23 => ?_)
          · rw [hdg, if_neg hF] at he
            exact fin i (p + i) x (by omega) he (fun e => by rw [e] at hF; exact ⟨by omega, hF⟩) hf
          · exact absurd rfl c23
  refine ev_iconst (q := 1) (v := 0) dX5_readNumber_0 rfl rfl ?_
  refine ev_istore1 (q := 2) dX5_readNumber_1 rfl (by decide) rfl ?_
  refine ev_iconst (q := 3) (v := 0) dX5_readNumber_2 rfl rfl ?_
  refine ev_istore2 (q := 4) dX5_readNumber_3 rfl (by decide) rfl ?_
  exact lp 3 0 rfl 0 rfl (fun y => absurd y (Nat.lt_irrefl _))
/-- what a look answers -/
def ansB (V : th_Vl) (c n : Int32) : Bool := if c = 116 then decide (n.toInt ≤ (bct (V 22 5)).toInt) else if c = 104 then decide (n.toInt ≤ (V 16 3).toInt) else if c = 119 then decide (n.toInt ≤ (V 22 6).toInt) else if c = 108 then decide (n.toInt ≤ (V 16 4).toInt) else ltB V n
theorem ansB_rst {p : Nat} {z : Int32} : ansB (rst V p z) = ansB V := rfl
theorem c_answers {d : Nat} (hW : wC SH) {c n : Int32} (hc : isNm c) : MT G l yX3_answers kX3_answers (d + 2) 0 0 [.ref 16, .int c, .int n] (N, SH, V) (th_bo (ansB V c n = true) (N, SH, V)) := by
  refine MT.of (by decide) rfl rfl (n := 0) rfl (ls := [some (.ref 16), some (.int c), some (.int n)]) rfl ?_
  have yes : ∀ y : Int32, ¬ y < n → decide (n.toInt ≤ y.toInt) = true := fun y h => decide_eq_true (i_nlt h)
  have no : ∀ y : Int32, y < n → ¬ decide (n.toInt ≤ y.toInt) = true := fun y h z => by have := of_decide_eq_true z; have := i_lt.mp h; omega
  rcases hc with rfl | rfl | rfl | rfl | rfl
  · refine ev_iload1 (q := 1) dX3_answers_0 rfl ?_
    refine ev_lookup (q := 44) dX3_answers_1 (by decide) (off := 43) (by decide) (by decide) ?_
    refine ev_aload0 (q := 45) dX3_answers_44 rfl ?_
    refine ev_getR (q := 48) dX3_answers_45 g_X3_25 (hW _ _ rfl) rfl rfl rfl ?_
    refine ev_getI (q := 51) dX3_answers_48 g_X3_82 (hW _ _ rfl) rfl rfl ?_
    refine ev_cS (K := kX3_answers) (pc := 51) (q := 54) (j_bitCount (d := d + 1) _) dX3_answers_51 l_X3_85 rfl (Nat.le_of_ble_eq_true rfl) (Nat.le_refl _) rfl rfl (fun r S1 hp => ?_)
    obtain ⟨rfl, rfl⟩ := hp
    refine ev_iload2 (q := 55) dX3_answers_54 rfl ?_
    refine ev_icmp_lt (q := 58) (t := 62) dX3_answers_55 rfl (by decide) (fun c55 => ?_) (fun c55 => ?_)
    · refine ev_iconst (q := 63) (v := 0) dX3_answers_62 rfl rfl ?_
      exact ev_ireturn dX3_answers_63 rfl rfl ⟨rfl, Or.inr ⟨no _ c55, rfl⟩⟩
    · refine ev_iconst (q := 59) (v := 1) dX3_answers_58 rfl rfl ?_
      refine ev_goto (q := 63) dX3_answers_59 (by decide) ?_
      exact ev_ireturn dX3_answers_63 rfl rfl ⟨rfl, Or.inl ⟨yes _ c55, rfl⟩⟩
  · refine ev_iload1 (q := 1) dX3_answers_0 rfl ?_
    refine ev_lookup (q := 64) dX3_answers_1 (by decide) (off := 63) (by decide) (by decide) ?_
    refine ev_aload0 (q := 65) dX3_answers_64 rfl ?_
    refine ev_getI (q := 68) dX3_answers_65 g_X3_37 (hW _ _ rfl) rfl rfl ?_
    refine ev_iload2 (q := 69) dX3_answers_68 rfl ?_
    refine ev_icmp_lt (q := 72) (t := 76) dX3_answers_69 rfl (by decide) (fun c69 => ?_) (fun c69 => ?_)
    · refine ev_iconst (q := 77) (v := 0) dX3_answers_76 rfl rfl ?_
      exact ev_ireturn dX3_answers_77 rfl rfl ⟨rfl, Or.inr ⟨no _ c69, rfl⟩⟩
    · refine ev_iconst (q := 73) (v := 1) dX3_answers_72 rfl rfl ?_
      refine ev_goto (q := 77) dX3_answers_73 (by decide) ?_
      exact ev_ireturn dX3_answers_77 rfl rfl ⟨rfl, Or.inl ⟨yes _ c69, rfl⟩⟩
  · refine ev_iload1 (q := 1) dX3_answers_0 rfl ?_
    refine ev_lookup (q := 78) dX3_answers_1 (by decide) (off := 77) (by decide) (by decide) ?_
    refine ev_aload0 (q := 79) dX3_answers_78 rfl ?_
    refine ev_getR (q := 82) dX3_answers_79 g_X3_25 (hW _ _ rfl) rfl rfl rfl ?_
    refine ev_getI (q := 85) dX3_answers_82 g_X3_91 (hW _ _ rfl) rfl rfl ?_
    refine ev_iload2 (q := 86) dX3_answers_85 rfl ?_
    refine ev_icmp_lt (q := 89) (t := 93) dX3_answers_86 rfl (by decide) (fun c86 => ?_) (fun c86 => ?_)
    · refine ev_iconst (q := 94) (v := 0) dX3_answers_93 rfl rfl ?_
      exact ev_ireturn dX3_answers_94 rfl rfl ⟨rfl, Or.inr ⟨no _ c86, rfl⟩⟩
    · refine ev_iconst (q := 90) (v := 1) dX3_answers_89 rfl rfl ?_
      refine ev_goto (q := 94) dX3_answers_90 (by decide) ?_
      exact ev_ireturn dX3_answers_94 rfl rfl ⟨rfl, Or.inl ⟨yes _ c86, rfl⟩⟩
  · refine ev_iload1 (q := 1) dX3_answers_0 rfl ?_
    refine ev_lookup (q := 95) dX3_answers_1 (by decide) (off := 94) (by decide) (by decide) ?_
    refine ev_aload0 (q := 96) dX3_answers_95 rfl ?_
    refine ev_getI (q := 99) dX3_answers_96 g_X3_29 (hW _ _ rfl) rfl rfl ?_
    refine ev_iload2 (q := 100) dX3_answers_99 rfl ?_
    refine ev_icmp_lt (q := 103) (t := 107) dX3_answers_100 rfl (by decide) (fun c100 => ?_) (fun c100 => ?_)
    · refine ev_iconst (q := 108) (v := 0) dX3_answers_107 rfl rfl ?_
      exact ev_ireturn dX3_answers_108 rfl rfl ⟨rfl, Or.inr ⟨no _ c100, rfl⟩⟩
    · refine ev_iconst (q := 104) (v := 1) dX3_answers_103 rfl rfl ?_
      refine ev_goto (q := 108) dX3_answers_104 (by decide) ?_
      exact ev_ireturn dX3_answers_108 rfl rfl ⟨rfl, Or.inl ⟨yes _ c100, rfl⟩⟩
  · refine ev_iload1 (q := 1) dX3_answers_0 rfl ?_
    refine ev_lookup (q := 109) dX3_answers_1 (by decide) (off := 108) (by decide) (by decide) ?_
    have ea : ansB V 114 n = ltB V n := rfl
    refine ev_aload0 (q := 110) dX3_answers_109 rfl ?_
    refine ev_iload2 (q := 111) dX3_answers_110 rfl ?_
    refine ev_cV (K := kX3_answers) (pc := 111) (q := 114) (c_lkLit (d := d + 1) hW n) dX3_answers_111 l_X3_66 (hW _ _ rfl) rfl rfl (Nat.le_of_ble_eq_true rfl) (Nat.le_refl _) rfl rfl (fun r S1 hp => ?_)
    rcases hp with ⟨rfl, ⟨q, rfl⟩ | ⟨q, rfl⟩⟩
    · exact ev_ireturn dX3_answers_114 rfl rfl ⟨rfl, Or.inl ⟨ea.trans q, rfl⟩⟩
    · exact ev_ireturn dX3_answers_114 rfl rfl ⟨rfl, Or.inr ⟨fun z => q (ea.symm.trans z), rfl⟩⟩
end C15
