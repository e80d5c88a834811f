/-! the class: its reader -/
theorem some3 {a t : Bool} {b q : Nat} {c ok : Bool} (h : some (a, b, c) = some (t, q, ok)) : a = t ∧ b = q ∧ c = ok := by
  cases h
  exact ⟨rfl, rfl, rfl⟩
theorem nar_b (x : Bool) : narrow .boolean (.int (cond x 1 0)) = .int (cond x 1 0) := by cases x <;> rfl
section C16
variable {G : th_G} {l : Launch} {N : Nat} {SH : Nat → Option th_K0} {V : th_Vl} {ta tb len : Nat} {L : Nat → Int32}
theorem c_readAsked {d p f o q : Nat} {t ok : Bool} (h : RdC SH V ta tb len L) (hpl : p ≤ len) (hnb : ¬ (L p = 33 ∨ L p = 40)) (hr : prs L (ansB V) (f + 1) 0 o false p = some (t, q, ok)) : MT G l yX5_readAsked kX5_readAsked (d + 4) 0 0 [.ref 29] (N, SH, rst V p (-1)) (PRd N SH V L t q ok) := by
  refine MT.of (by decide) rfl rfl (n := 2) rfl (ls := [some (.ref 29), none, none]) rfl ?_
  have h' := h
  obtain ⟨hW, ⟨fR, h1, h2, h3⟩, ⟨fT, h4, -⟩, -, -, -, h60, hL0, -⟩ := h'
  have hnm := h.nm p
  rw [prs, if_neg hnb] at hr
  refine ev_aload0 (q := 1) dX5_readAsked_0 rfl ?_
  refine ev_getR (q := 4) dX5_readAsked_1 g_X5_9 h1 rfl h2 rfl ?_
  refine ev_aload0 (q := 5) dX5_readAsked_4 rfl ?_
  refine ev_getI (q := 8) dX5_readAsked_5 g_X5_19 h1 rfl rfl ?_
  show EV G l kX5_readAsked _ 0 0 8 _ [.int (rst V p (-1) 29 2), .ref ta] _ _
  rw [rst_p]
  refine ev_cV (K := kX5_readAsked) (pc := 8) (q := 11) (c_letterAt (d := d) h (by omega)) dX5_readAsked_8 l_X5_49 h4 rfl rfl (Nat.le_of_ble_eq_true rfl) (by omega) rfl rfl (fun r S1 hp => ?_)
  obtain ⟨rfl, rfl⟩ := hp
  refine ev_istore1 (q := 12) dX5_readAsked_11 rfl (by decide) rfl ?_
  refine ev_iload1 (q := 13) dX5_readAsked_12 rfl ?_
  refine ev_cS (K := kX5_readAsked) (pc := 13) (q := 16) (c_canAsk (d := d) _) dX5_readAsked_13 l_X5_56 rfl (Nat.le_of_ble_eq_true rfl) (by omega) rfl rfl (fun r S1 hp => ?_)
  rcases hp with ⟨rfl, ⟨hp13, rfl⟩ | ⟨hp13, rfl⟩⟩
  · have hN := hnm.1.mp hp13
    have hlt := nm_lt hL0 hN
    rw [if_pos hN] at hr
    refine ev_if_ne (q := 19) (t := 24) dX5_readAsked_16 rfl (by decide) (fun c16 => ?_) (fun c16 => ?_)
    · rw [hnm.2 hN]
      refine ev_aload0 (q := 25) dX5_readAsked_24 rfl ?_
      refine ev_dup (q := 26) dX5_readAsked_25 rfl rfl ?_
      refine ev_getI (q := 29) dX5_readAsked_26 g_X5_19 h1 rfl rfl ?_
      refine ev_iconst (q := 30) (v := 1) dX5_readAsked_29 rfl rfl ?_
      refine ev_iadd (q := 31) dX5_readAsked_30 rfl ?_
      refine ev_putI (q := 34) dX5_readAsked_31 (p_X5_19 _) h1 rfl rfl rfl rfl ?_
      show EV G l kX5_readAsked _ 0 0 34 _ _ (N, SH, th_w (rst V p (-1)) 29 2 (rst V p (-1) 29 2 + 1)) _
      rw [rst_p, rst_pl (nI_succ p).symm]
      refine ev_aload0 (q := 35) dX5_readAsked_34 rfl ?_
      refine ev_cV (K := kX5_readAsked) (pc := 35) (q := 38) (c_readNumber (d := d) h (show p + 1 < 2 ^ 29 by omega)) dX5_readAsked_35 l_X5_59 h1 rfl rfl (Nat.le_of_ble_eq_true rfl) (by omega) rfl rfl (fun r S1 hp => ?_)
      obtain ⟨rfl, rfl⟩ := hp
      by_cases hf : isFg (L (p + 1))
      · rw [if_neg (not_not_intro hf)] at hr
        rw [if_pos hf]
        refine ev_istore2 (q := 39) dX5_readAsked_38 rfl (by decide) rfl ?_
        refine ev_aload0 (q := 40) dX5_readAsked_39 rfl ?_
        refine ev_getR (q := 43) dX5_readAsked_40 g_X5_15 h1 rfl h3 rfl ?_
        refine ev_iload1 (q := 44) dX5_readAsked_43 rfl ?_
        refine ev_iload2 (q := 45) dX5_readAsked_44 rfl ?_
        refine ev_cV (K := kX5_readAsked) (pc := 45) (q := 48) (c_answers (d := d) (V := rst V (dg L 3 (p + 1) 0).1 (-1)) hW hN) dX5_readAsked_45 l_X5_63 (hW _ _ rfl) rfl rfl (Nat.le_of_ble_eq_true rfl) (by omega) rfl rfl (fun r S1 hp => ?_)
        have ans : ∀ x : Bool, (x = true ↔ ansB V (L p) (dg L 3 (p + 1) 0).2 = true) → PRd N SH V L t q ok (some (.int (cond x 1 0))) (N, SH, rst V (dg L 3 (p + 1) 0).1 (-1)) := fun x hx => by
          by_cases hf4 : isFg (L (dg L 3 (p + 1) 0).1)
          · rw [if_pos hf4] at hr
            obtain ⟨e1, e2, e3⟩ := some3 hr
            subst e1 e2 e3
            exact ⟨x, -1, rfl, rfl, Or.inr ⟨rfl, Or.inr ⟨rfl, hf4⟩⟩⟩
          · rw [if_neg hf4] at hr
            obtain ⟨e1, e2, e3⟩ := some3 hr
            subst e1 e2 e3
            exact ⟨x, -1, rfl, rfl, Or.inl ⟨rfl, Bool.eq_iff_iff.mpr hx, rfl⟩⟩
        rcases hp with ⟨rfl, ⟨hp45, rfl⟩ | ⟨hp45, rfl⟩⟩
        · exact ev_ireturn dX5_readAsked_48 rfl rfl (ans true ⟨fun _ => hp45, fun _ => rfl⟩)
        · exact ev_ireturn dX5_readAsked_48 rfl rfl (ans false ⟨fun y => (by cases y), fun y => absurd y hp45⟩)
      · rw [if_pos hf] at hr
        rw [if_neg hf]
        obtain ⟨e1, e2, e3⟩ := some3 hr
        subst e1 e2 e3
        refine ev_istore2 (q := 39) dX5_readAsked_38 rfl (by decide) rfl ?_
        refine ev_aload0 (q := 40) dX5_readAsked_39 rfl ?_
        refine ev_getR (q := 43) dX5_readAsked_40 g_X5_15 h1 rfl h3 rfl ?_
        refine ev_iload1 (q := 44) dX5_readAsked_43 rfl ?_
        refine ev_iload2 (q := 45) dX5_readAsked_44 rfl ?_
        refine ev_cV (K := kX5_readAsked) (pc := 45) (q := 48) (c_answers (d := d) (V := rst V (p + 1) (nI (p + 1))) hW hN) dX5_readAsked_45 l_X5_63 (hW _ _ rfl) rfl rfl (Nat.le_of_ble_eq_true rfl) (by omega) rfl rfl (fun r S1 hp => ?_)
        rcases hp with ⟨rfl, ⟨hp45, rfl⟩ | ⟨hp45, rfl⟩⟩
        · exact ev_ireturn dX5_readAsked_48 rfl rfl ⟨true, nI (p + 1), rfl, rfl, Or.inr ⟨rfl, Or.inl rfl⟩⟩
        · exact ev_ireturn dX5_readAsked_48 rfl rfl ⟨false, nI (p + 1), rfl, rfl, Or.inr ⟨rfl, Or.inl rfl⟩⟩
    · exact absurd c16 (by decide)
  · have hN : ¬ isNm (L p) := fun y => hp13 (hnm.1.mpr y)
    rw [if_neg hN] at hr
    obtain ⟨e1, e2, e3⟩ := some3 hr
    subst e1 e2 e3
    refine ev_if_ne (q := 19) (t := 24) dX5_readAsked_16 rfl (by decide) (fun c16 => ?_) (fun c16 => ?_)
    · exact absurd rfl c16
    · refine ev_aload0 (q := 20) dX5_readAsked_19 rfl ?_
      refine ev_cV (K := kX5_readAsked) (pc := 20) (q := 23) (c_fail (d := d) (p := p) (z := -1) h) dX5_readAsked_20 l_X5_35 h1 rfl rfl (Nat.le_of_ble_eq_true rfl) (by omega) rfl rfl (fun r S1 hp => ?_)
      obtain ⟨rfl, rfl⟩ := hp
      exact ev_ireturn dX5_readAsked_23 rfl rfl ⟨false, nI p, rfl, by rw [if_pos rfl], Or.inr ⟨rfl, Or.inl rfl⟩⟩
theorem c_reads (h : RdC SH V ta tb len L) : ∀ f : Nat,
    (∀ (o p q : Nat) (t ok : Bool), o ≤ 20 → p ≤ len → prs L (ansB V) f 0 o false p = some (t, q, ok) → MT G l yX5_readOne kX5_readOne (f + 8) 0 0 [.ref 29, .int (nI o)] (N, SH, rst V p (-1)) (PRd N SH V L t q ok)) ∧
    (∀ (o p q : Nat) (t ok : Bool), o ≤ 20 → p ≤ len → prs L (ansB V) f 1 o false p = some (t, q, ok) → MT G l yX5_readBoth kX5_readBoth (f + 8) 0 0 [.ref 29, .int (nI o)] (N, SH, rst V p (-1)) (PRd N SH V L t q ok)) ∧
    (∀ (o p q : Nat) (t ok : Bool), o ≤ 20 → p ≤ len → prs L (ansB V) f 2 o false p = some (t, q, ok) → MT G l yX5_readAny kX5_readAny (f + 8) 0 0 [.ref 29, .int (nI o)] (N, SH, rst V p (-1)) (PRd N SH V L t q ok)) ∧
    (∀ (o p q n : Nat) (b t ok : Bool) (o4 : Option Value), o ≤ 20 → p ≤ len → n < p → th_c1 [o4] = true → prs L (ansB V) f 3 o b p = some (t, q, ok) → EV G l kX5_readBoth (f + 8) 0 0 8 [some (.ref 29), some (.int (nI o)), some (.int (cond b 1 0)), some (.int (nI n)), o4] [] (N, SH, rst V p (-1)) (PRd N SH V L t q ok)) ∧
    (∀ (o p q n : Nat) (b t ok : Bool) (o4 : Option Value), o ≤ 20 → p ≤ len → n < p → th_c1 [o4] = true → prs L (ansB V) f 4 o b p = some (t, q, ok) → EV G l kX5_readAny (f + 8) 0 0 8 [some (.ref 29), some (.int (nI o)), some (.int (cond b 1 0)), some (.int (nI n)), o4] [] (N, SH, rst V p (-1)) (PRd N SH V L t q ok)) := by
  have h' := h
  obtain ⟨hW, ⟨fR, h1, h2, h3⟩, ⟨fT, h4, -⟩, -, -, -, h60, hL0, -⟩ := h'
  have l41 : (41 : Int32) = nI 41 := rfl
  have nofg : ∀ c : Int32, ¬ isFg c → ∀ q, isFg (L q) → ¬ L q = c := fun c hc q hf e => hc (e ▸ hf)
  -- a fault stands: the loops end
  have endB : ∀ (d o q n : Nat) (x : Bool) (z : Int32) (o4 : Option Value), q ≤ len → n < 60 → (z = nI q ∨ (z = -1 ∧ isFg (L q))) → EV G l kX5_readBoth (d + 3) 0 0 8 [some (.ref 29), some (.int (nI o)), some (.int (cond x 1 0)), some (.int (nI n)), o4] [] (N, SH, rst V q z) (PRd N SH V L false q false) := by
    intro d o q n x z o4 hq hn hz
    refine ev_iload3 (q := 9) dX5_readBoth_8 rfl ?_
    refine ev_bipush (q := 11) (v := 60) dX5_readBoth_9 rfl rfl ?_
    refine ev_icmp_ge (q := 14) (t := 51) dX5_readBoth_11 rfl (by decide) (fun c11 => ?_) (fun c11 => ?_)
    · exact absurd c11 (show ¬ nI 60 ≤ nI n from nI_ge hn (by decide))
    · refine ev_aload0 (q := 15) dX5_readBoth_14 rfl ?_
      refine ev_bipush (q := 17) (v := 38) dX5_readBoth_15 rfl rfl ?_
      rcases hz with rfl | ⟨rfl, hf⟩
      · refine ev_cV (K := kX5_readBoth) (pc := 17) (q := 20) (c_passNo (d := d) h (show q < 2 ^ 31 by omega)) dX5_readBoth_17 l_X5_42 h1 rfl rfl (Nat.le_of_ble_eq_true rfl) (by omega) rfl rfl (fun r S1 hp => ?_)
        obtain ⟨rfl, rfl⟩ := hp
        refine ev_if_eq (q := 23) (t := 51) dX5_readBoth_20 rfl (by decide) (fun c20 => ?_) (fun c20 => ?_)
        · refine ev_iload2 (q := 52) dX5_readBoth_51 rfl ?_
          exact ev_ireturn dX5_readBoth_52 rfl (nar_b x) ⟨x, nI q, rfl, rfl, Or.inr ⟨rfl, Or.inl rfl⟩⟩
        · exact absurd rfl c20
      · refine ev_cV (K := kX5_readBoth) (pc := 17) (q := 20) (c_passOver (d := d) (c := 38) h (show q < 2 ^ 30 by omega) (by decide) (by decide)) dX5_readBoth_17 l_X5_42 h1 rfl rfl (Nat.le_of_ble_eq_true rfl) (by omega) rfl rfl (fun r S1 hp => ?_)
        rcases hp with ⟨k1, rfl, rfl⟩ | ⟨k1, rfl, rfl⟩
        · exact absurd k1 (nofg _ (by decide) q hf)
        · refine ev_if_eq (q := 23) (t := 51) dX5_readBoth_20 rfl (by decide) (fun c20 => ?_) (fun c20 => ?_)
          · refine ev_iload2 (q := 52) dX5_readBoth_51 rfl ?_
            exact ev_ireturn dX5_readBoth_52 rfl (nar_b x) ⟨x, -1, rfl, rfl, Or.inr ⟨rfl, Or.inr ⟨rfl, hf⟩⟩⟩
          · exact absurd rfl c20
  have endA : ∀ (d o q n : Nat) (x : Bool) (z : Int32) (o4 : Option Value), q ≤ len → n < 60 → (z = nI q ∨ (z = -1 ∧ isFg (L q))) → EV G l kX5_readAny (d + 3) 0 0 8 [some (.ref 29), some (.int (nI o)), some (.int (cond x 1 0)), some (.int (nI n)), o4] [] (N, SH, rst V q z) (PRd N SH V L false q false) := by
    intro d o q n x z o4 hq hn hz
    refine ev_iload3 (q := 9) dX5_readAny_8 rfl ?_
    refine ev_bipush (q := 11) (v := 60) dX5_readAny_9 rfl rfl ?_
    refine ev_icmp_ge (q := 14) (t := 51) dX5_readAny_11 rfl (by decide) (fun c11 => ?_) (fun c11 => ?_)
    · exact absurd c11 (show ¬ nI 60 ≤ nI n from nI_ge hn (by decide))
    · refine ev_aload0 (q := 15) dX5_readAny_14 rfl ?_
      refine ev_bipush (q := 17) (v := 124) dX5_readAny_15 rfl rfl ?_
      rcases hz with rfl | ⟨rfl, hf⟩
      · refine ev_cV (K := kX5_readAny) (pc := 17) (q := 20) (c_passNo (d := d) h (show q < 2 ^ 31 by omega)) dX5_readAny_17 l_X5_42 h1 rfl rfl (Nat.le_of_ble_eq_true rfl) (by omega) rfl rfl (fun r S1 hp => ?_)
        obtain ⟨rfl, rfl⟩ := hp
        refine ev_if_eq (q := 23) (t := 51) dX5_readAny_20 rfl (by decide) (fun c20 => ?_) (fun c20 => ?_)
        · refine ev_iload2 (q := 52) dX5_readAny_51 rfl ?_
          exact ev_ireturn dX5_readAny_52 rfl (nar_b x) ⟨x, nI q, rfl, rfl, Or.inr ⟨rfl, Or.inl rfl⟩⟩
        · exact absurd rfl c20
      · refine ev_cV (K := kX5_readAny) (pc := 17) (q := 20) (c_passOver (d := d) (c := 124) h (show q < 2 ^ 30 by omega) (by decide) (by decide)) dX5_readAny_17 l_X5_42 h1 rfl rfl (Nat.le_of_ble_eq_true rfl) (by omega) rfl rfl (fun r S1 hp => ?_)
        rcases hp with ⟨k1, rfl, rfl⟩ | ⟨k1, rfl, rfl⟩
        · exact absurd k1 (nofg _ (by decide) q hf)
        · refine ev_if_eq (q := 23) (t := 51) dX5_readAny_20 rfl (by decide) (fun c20 => ?_) (fun c20 => ?_)
          · refine ev_iload2 (q := 52) dX5_readAny_51 rfl ?_
            exact ev_ireturn dX5_readAny_52 rfl (nar_b x) ⟨x, -1, rfl, rfl, Or.inr ⟨rfl, Or.inr ⟨rfl, hf⟩⟩⟩
          · exact absurd rfl c20
  -- both, any: the two truths
  have andB : ∀ (d o n : Nat) (b y : Bool) (S : th_S) (P : Option Value → th_S → Prop), EV G l kX5_readBoth d 0 0 8 [some (.ref 29), some (.int (nI o)), some (.int (cond (b && y) 1 0)), some (.int (nI (n + 1))), some (.int (cond y 1 0))] [] S P → EV G l kX5_readBoth d 0 0 30 [some (.ref 29), some (.int (nI o)), some (.int (cond b 1 0)), some (.int (nI n)), some (.int (cond y 1 0))] [] S P := by
    intro d o n b y S P hk
    cases b
    · refine ev_iload2 (q := 31) dX5_readBoth_30 rfl ?_
      refine ev_if_eq (q := 34) (t := 43) dX5_readBoth_31 rfl (by decide) (fun c31 => ?_) (fun c31 => ?_)
      · refine ev_iconst (q := 44) (v := 0) dX5_readBoth_43 rfl rfl ?_
        refine ev_istore2 (q := 45) dX5_readBoth_44 rfl (by decide) rfl ?_
        refine ev_iinc3 (q := 48) dX5_readBoth_45 rfl (by decide) rfl (nI_succ n).symm ?_
        refine ev_goto (q := 8) dX5_readBoth_48 (by decide) ?_
        exact hk
      · exact absurd rfl c31
    · refine ev_iload2 (q := 31) dX5_readBoth_30 rfl ?_
      refine ev_if_eq (q := 34) (t := 43) dX5_readBoth_31 rfl (by decide) (fun c31 => ?_) (fun c31 => ?_)
      · exact absurd c31 (by decide)
      · cases y
        · refine ev_iload4 (q := 36) dX5_readBoth_34 rfl ?_
          refine ev_if_eq (q := 39) (t := 43) dX5_readBoth_36 rfl (by decide) (fun c36 => ?_) (fun c36 => ?_)
          · refine ev_iconst (q := 44) (v := 0) dX5_readBoth_43 rfl rfl ?_
            refine ev_istore2 (q := 45) dX5_readBoth_44 rfl (by decide) rfl ?_
            refine ev_iinc3 (q := 48) dX5_readBoth_45 rfl (by decide) rfl (nI_succ n).symm ?_
            refine ev_goto (q := 8) dX5_readBoth_48 (by decide) ?_
            exact hk
          · exact absurd rfl c36
        · refine ev_iload4 (q := 36) dX5_readBoth_34 rfl ?_
          refine ev_if_eq (q := 39) (t := 43) dX5_readBoth_36 rfl (by decide) (fun c36 => ?_) (fun c36 => ?_)
          · exact absurd c36 (by decide)
          · refine ev_iconst (q := 40) (v := 1) dX5_readBoth_39 rfl rfl ?_
            refine ev_goto (q := 44) dX5_readBoth_40 (by decide) ?_
            refine ev_istore2 (q := 45) dX5_readBoth_44 rfl (by decide) rfl ?_
            refine ev_iinc3 (q := 48) dX5_readBoth_45 rfl (by decide) rfl (nI_succ n).symm ?_
            refine ev_goto (q := 8) dX5_readBoth_48 (by decide) ?_
            exact hk
  have orA : ∀ (d o n : Nat) (b y : Bool) (S : th_S) (P : Option Value → th_S → Prop), EV G l kX5_readAny d 0 0 8 [some (.ref 29), some (.int (nI o)), some (.int (cond (b || y) 1 0)), some (.int (nI (n + 1))), some (.int (cond y 1 0))] [] S P → EV G l kX5_readAny d 0 0 30 [some (.ref 29), some (.int (nI o)), some (.int (cond b 1 0)), some (.int (nI n)), some (.int (cond y 1 0))] [] S P := by
    intro d o n b y S P hk
    cases b
    · refine ev_iload2 (q := 31) dX5_readAny_30 rfl ?_
      refine ev_if_ne (q := 34) (t := 39) dX5_readAny_31 rfl (by decide) (fun c31 => ?_) (fun c31 => ?_)
      · exact absurd rfl c31
      · cases y
        · refine ev_iload4 (q := 36) dX5_readAny_34 rfl ?_
          refine ev_if_eq (q := 39) (t := 43) dX5_readAny_36 rfl (by decide) (fun c36 => ?_) (fun c36 => ?_)
          · refine ev_iconst (q := 44) (v := 0) dX5_readAny_43 rfl rfl ?_
            refine ev_istore2 (q := 45) dX5_readAny_44 rfl (by decide) rfl ?_
            refine ev_iinc3 (q := 48) dX5_readAny_45 rfl (by decide) rfl (nI_succ n).symm ?_
            refine ev_goto (q := 8) dX5_readAny_48 (by decide) ?_
            exact hk
          · exact absurd rfl c36
        · refine ev_iload4 (q := 36) dX5_readAny_34 rfl ?_
          refine ev_if_eq (q := 39) (t := 43) dX5_readAny_36 rfl (by decide) (fun c36 => ?_) (fun c36 => ?_)
          · exact absurd c36 (by decide)
          · refine ev_iconst (q := 40) (v := 1) dX5_readAny_39 rfl rfl ?_
            refine ev_goto (q := 44) dX5_readAny_40 (by decide) ?_
            refine ev_istore2 (q := 45) dX5_readAny_44 rfl (by decide) rfl ?_
            refine ev_iinc3 (q := 48) dX5_readAny_45 rfl (by decide) rfl (nI_succ n).symm ?_
            refine ev_goto (q := 8) dX5_readAny_48 (by decide) ?_
            exact hk
    · refine ev_iload2 (q := 31) dX5_readAny_30 rfl ?_
      refine ev_if_ne (q := 34) (t := 39) dX5_readAny_31 rfl (by decide) (fun c31 => ?_) (fun c31 => ?_)
      · refine ev_iconst (q := 40) (v := 1) dX5_readAny_39 rfl rfl ?_
        refine ev_goto (q := 44) dX5_readAny_40 (by decide) ?_
        refine ev_istore2 (q := 45) dX5_readAny_44 rfl (by decide) rfl ?_
        refine ev_iinc3 (q := 48) dX5_readAny_45 rfl (by decide) rfl (nI_succ n).symm ?_
        refine ev_goto (q := 8) dX5_readAny_48 (by decide) ?_
        exact hk
      · exact absurd c31 (by decide)
  have wk : ∀ {t q r S}, PRd N SH V L false q false r S → PRd N SH V L t q false r S := fun {t q r S} hx => by
    obtain ⟨x, z, e1, e2, e3⟩ := hx
    refine ⟨x, z, e1, e2, ?_⟩
    rcases e3 with e3 | e3
    · cases e3.1
    · exact Or.inr e3
  intro f
  induction f with
  | zero => refine ⟨?_, ?_, ?_, ?_, ?_⟩ <;> (intros; rename_i hh; simp [prs] at hh)
  | succ f ih =>
    obtain ⟨i0, i1, i2, i3, i4⟩ := ih
    refine ⟨?_, ?_, ?_, ?_, ?_⟩
    · intro o p q t ok ho hp hr
      refine MT.of (by decide) rfl rfl (n := 2) rfl (ls := [some (.ref 29), some (.int (nI o)), none, none]) rfl ?_
      have k33 := h.eq p (c := 33) (by decide) (by decide)
      have k40 := h.eq p (c := 40) (by decide) (by decide)
      refine ev_aload0 (q := 1) dX5_readOne_0 rfl ?_
      refine ev_getR (q := 4) dX5_readOne_1 g_X5_9 h1 rfl h2 rfl ?_
      refine ev_aload0 (q := 5) dX5_readOne_4 rfl ?_
      refine ev_getI (q := 8) dX5_readOne_5 g_X5_19 h1 rfl rfl ?_
      show EV G l kX5_readOne _ 0 0 8 _ [.int (rst V p (-1) 29 2), .ref ta] _ _
      rw [rst_p]
      refine ev_cV (K := kX5_readOne) (pc := 8) (q := 11) (c_letterAt (d := f) h (by omega)) dX5_readOne_8 l_X5_49 h4 rfl rfl (Nat.le_of_ble_eq_true rfl) (by omega) rfl rfl (fun r S1 hp => ?_)
      obtain ⟨rfl, rfl⟩ := hp
      have open29 : (L p = 33 ∨ L p = 40) → EV G l kX5_readOne (f + 1 + 8) 0 0 29 [some (.ref 29), some (.int (nI o)), some (.int (ltC V tb len p)), none] [] (N, SH, rst V p (-1)) (PRd N SH V L t q ok) := by
        intro hc
        have hlt : p < len := by rcases hc with hc | hc <;> exact L_lt hL0 hc (by decide)
        rw [prs, if_pos hc] at hr
        refine ev_iload1 (q := 30) dX5_readOne_29 rfl ?_
        refine ev_bipush (q := 32) (v := 20) dX5_readOne_30 rfl rfl ?_
        refine ev_icmp_lt (q := 35) (t := 40) dX5_readOne_32 rfl (by decide) (fun c32 => ?_) (fun c32 => ?_)
        · have ho20 : o < 20 := (nI_ltI (by omega) (by decide)).mp (show nI o < nI 20 from c32)
          rw [if_neg (by omega)] at hr
          refine ev_aload0 (q := 41) dX5_readOne_40 rfl ?_
          refine ev_bipush (q := 43) (v := 33) dX5_readOne_41 rfl rfl ?_
          refine ev_cV (K := kX5_readOne) (pc := 43) (q := 46) (c_passOver (d := f) (c := 33) h (show p < 2 ^ 30 by omega) (by decide) (by decide)) dX5_readOne_43 l_X5_42 h1 rfl rfl (Nat.le_of_ble_eq_true rfl) (by omega) rfl rfl (fun r S1 hp => ?_)
          rcases hp with ⟨k1, rfl, rfl⟩ | ⟨k1, rfl, rfl⟩
          · rw [if_pos (show L p = 33 from k1)] at hr
            cases hq : prs L (ansB V) f 0 (o + 1) false (p + 1) with
            | none => rw [hq] at hr; cases hr
            | some r =>
              rw [hq] at hr
              obtain ⟨r1, r2, r3⟩ := r
              have hr : some (!r1, r2, r3) = some (t, q, ok) := hr
              obtain ⟨e1, e2, e3⟩ := some3 hr
              subst e1 e2 e3
              refine ev_if_eq (q := 49) (t := 65) dX5_readOne_46 rfl (by decide) (fun c46 => ?_) (fun c46 => ?_)
              · exact absurd c46 (by decide)
              · refine ev_aload0 (q := 50) dX5_readOne_49 rfl ?_
                refine ev_iload1 (q := 51) dX5_readOne_50 rfl ?_
                refine ev_iconst (q := 52) (v := 1) dX5_readOne_51 rfl rfl ?_
                refine ev_iadd (q := 53) dX5_readOne_52 rfl ?_
                have hm := i0 (o + 1) (p + 1) r2 r1 r3 (by omega) hlt hq
                rw [nI_succ] at hm
                refine ev_cV (K := kX5_readOne) (pc := 53) (q := 56) (hm) dX5_readOne_53 l_X5_46 h1 rfl rfl (Nat.le_of_ble_eq_true rfl) (Nat.le_refl _) rfl rfl (fun r S1 hp => ?_)
                obtain ⟨x, z, rfl, rfl, hz⟩ := hp
                have fin : PRd N SH V L (!r1) r2 r3 (some (.int (cond (!x) 1 0))) (N, SH, rst V r2 z) := by
                  refine ⟨!x, z, rfl, rfl, ?_⟩
                  rcases hz with ⟨a1, a2, a3⟩ | hz
                  · exact Or.inl ⟨a1, by rw [a2], a3⟩
                  · exact Or.inr hz
                cases x
                · refine ev_if_ne (q := 59) (t := 63) dX5_readOne_56 rfl (by decide) (fun c56 => ?_) (fun c56 => ?_)
                  · exact absurd rfl c56
                  · refine ev_iconst (q := 60) (v := 1) dX5_readOne_59 rfl rfl ?_
                    refine ev_goto (q := 64) dX5_readOne_60 (by decide) ?_
                    exact ev_ireturn dX5_readOne_64 rfl rfl fin
                · refine ev_if_ne (q := 59) (t := 63) dX5_readOne_56 rfl (by decide) (fun c56 => ?_) (fun c56 => ?_)
                  · refine ev_iconst (q := 64) (v := 0) dX5_readOne_63 rfl rfl ?_
                    exact ev_ireturn dX5_readOne_64 rfl rfl fin
                  · exact absurd c56 (by decide)
          · have h33 : ¬ L p = 33 := k1
            have h40 : L p = 40 := hc.resolve_left h33
            rw [if_neg h33] at hr
            cases hq : prs L (ansB V) f 2 (o + 1) false (p + 1) with
            | none => rw [hq] at hr; cases hr
            | some r =>
              rw [hq] at hr
              obtain ⟨r1, r2, r3⟩ := r
              have hle := prs_le hL0 _ _ _ _ _ _ _ _ hlt hq
              have hr : (if r3 = true then (if L r2 = 41 then some (r1, r2 + 1, true) else some (false, r2, false)) else some (r1, r2, r3)) = some (t, q, ok) := hr
              refine ev_if_eq (q := 49) (t := 65) dX5_readOne_46 rfl (by decide) (fun c46 => ?_) (fun c46 => ?_)
              · refine ev_aload0 (q := 66) dX5_readOne_65 rfl ?_
                refine ev_bipush (q := 68) (v := 40) dX5_readOne_66 rfl rfl ?_
                refine ev_cV (K := kX5_readOne) (pc := 68) (q := 71) (c_passOver (d := f) (c := 40) h (show p < 2 ^ 30 by omega) (by decide) (by decide)) dX5_readOne_68 l_X5_42 h1 rfl rfl (Nat.le_of_ble_eq_true rfl) (by omega) rfl rfl (fun r S1 hp => ?_)
                rcases hp with ⟨k1, rfl, rfl⟩ | ⟨k1, rfl, rfl⟩
                · refine ev_pop (q := 72) dX5_readOne_71 rfl rfl ?_
                  refine ev_aload0 (q := 73) dX5_readOne_72 rfl ?_
                  refine ev_iload1 (q := 74) dX5_readOne_73 rfl ?_
                  refine ev_iconst (q := 75) (v := 1) dX5_readOne_74 rfl rfl ?_
                  refine ev_iadd (q := 76) dX5_readOne_75 rfl ?_
                  have hm := i2 (o + 1) (p + 1) r2 r1 r3 (by omega) hlt hq
                  rw [nI_succ] at hm
                  refine ev_cV (K := kX5_readOne) (pc := 76) (q := 79) (hm) dX5_readOne_76 l_X5_26 h1 rfl rfl (Nat.le_of_ble_eq_true rfl) (Nat.le_refl _) rfl rfl (fun r S1 hp => ?_)
                  obtain ⟨x, z, rfl, rfl, hz⟩ := hp
                  refine ev_istore3 (q := 80) dX5_readOne_79 rfl (by decide) rfl ?_
                  refine ev_aload0 (q := 81) dX5_readOne_80 rfl ?_
                  refine ev_bipush (q := 83) (v := 41) dX5_readOne_81 rfl rfl ?_
                  rcases hz with ⟨a1, a2, a3⟩ | ⟨a1, a2⟩
                  · subst a3
                    rw [if_pos a1] at hr
                    refine ev_cV (K := kX5_readOne) (pc := 83) (q := 86) (c_passOver (d := f) (c := 41) h (show r2 < 2 ^ 30 by omega) (by decide) (by decide)) dX5_readOne_83 l_X5_42 h1 rfl rfl (Nat.le_of_ble_eq_true rfl) (by omega) rfl rfl (fun r S1 hp => ?_)
                    rcases hp with ⟨k2, rfl, rfl⟩ | ⟨k2, rfl, rfl⟩
                    · rw [if_pos (show L r2 = 41 from k2)] at hr
                      obtain ⟨e1, e2, e3⟩ := some3 hr
                      subst e1 e2 e3
                      refine ev_if_eq (q := 89) (t := 93) dX5_readOne_86 rfl (by decide) (fun c86 => ?_) (fun c86 => ?_)
                      · exact absurd c86 (by decide)
                      · refine ev_iload3 (q := 90) dX5_readOne_89 rfl ?_
                        refine ev_goto (q := 97) dX5_readOne_90 (by decide) ?_
                        exact ev_ireturn dX5_readOne_97 rfl (nar_b x) ⟨x, -1, rfl, rfl, Or.inl ⟨rfl, a2, rfl⟩⟩
                    · rw [if_neg (show ¬ L r2 = 41 from k2)] at hr
                      obtain ⟨e1, e2, e3⟩ := some3 hr
                      subst e1 e2 e3
                      refine ev_if_eq (q := 89) (t := 93) dX5_readOne_86 rfl (by decide) (fun c86 => ?_) (fun c86 => ?_)
                      · refine ev_aload0 (q := 94) dX5_readOne_93 rfl ?_
                        refine ev_cV (K := kX5_readOne) (pc := 94) (q := 97) (c_fail (d := f) (p := r2) (z := -1) h) dX5_readOne_94 l_X5_35 h1 rfl rfl (Nat.le_of_ble_eq_true rfl) (by omega) rfl rfl (fun r S1 hp => ?_)
                        obtain ⟨rfl, rfl⟩ := hp
                        exact ev_ireturn dX5_readOne_97 rfl rfl ⟨false, nI r2, rfl, by rw [if_pos rfl], Or.inr ⟨rfl, Or.inl rfl⟩⟩
                      · exact absurd rfl c86
                  · rw [if_neg (by rw [a1]; simp)] at hr
                    obtain ⟨e1, e2, e3⟩ := some3 hr
                    subst e1 e2 e3
                    subst a1
                    have tail93 : ∀ z : Int32, (z = nI r2 ∨ (z = -1 ∧ isFg (L r2))) → EV G l kX5_readOne (f + 1 + 8) 0 0 93 [some (.ref 29), some (.int (nI o)), some (.int (ltC V tb len p)), some (.int (cond x 1 0))] [] (N, SH, rst V r2 z) (PRd N SH V L r1 r2 false) := by
                      intro z hz
                      refine ev_aload0 (q := 94) dX5_readOne_93 rfl ?_
                      refine ev_cV (K := kX5_readOne) (pc := 94) (q := 97) (c_fail (d := f) (p := r2) (z := z) h) dX5_readOne_94 l_X5_35 h1 rfl rfl (Nat.le_of_ble_eq_true rfl) (by omega) rfl rfl (fun r S1 hp => ?_)
                      obtain ⟨rfl, rfl⟩ := hp
                      exact ev_ireturn dX5_readOne_97 rfl rfl ⟨false, _, rfl, rfl, Or.inr ⟨rfl, by rcases hz with hz | hz; (rw [hz, if_neg (m1_ne (by omega))]; exact Or.inl rfl); (rw [hz.1, if_pos rfl]; exact Or.inl rfl)⟩⟩
                    rcases a2 with rfl | ⟨rfl, hf⟩
                    · refine ev_cV (K := kX5_readOne) (pc := 83) (q := 86) (c_passNo (d := f) h (show r2 < 2 ^ 31 by omega)) dX5_readOne_83 l_X5_42 h1 rfl rfl (Nat.le_of_ble_eq_true rfl) (by omega) rfl rfl (fun r S1 hp => ?_)
                      obtain ⟨rfl, rfl⟩ := hp
                      refine ev_if_eq (q := 89) (t := 93) dX5_readOne_86 rfl (by decide) (fun c86 => ?_) (fun c86 => ?_)
                      · exact tail93 _ (Or.inl rfl)
                      · exact absurd rfl c86
                    · refine ev_cV (K := kX5_readOne) (pc := 83) (q := 86) (c_passOver (d := f) (c := 41) h (show r2 < 2 ^ 30 by omega) (by decide) (by decide)) dX5_readOne_83 l_X5_42 h1 rfl rfl (Nat.le_of_ble_eq_true rfl) (by omega) rfl rfl (fun r S1 hp => ?_)
                      rcases hp with ⟨k2, rfl, rfl⟩ | ⟨k2, rfl, rfl⟩
                      · exact absurd k2 (nofg _ (by decide) r2 hf)
                      · refine ev_if_eq (q := 89) (t := 93) dX5_readOne_86 rfl (by decide) (fun c86 => ?_) (fun c86 => ?_)
                        · exact tail93 _ (Or.inr ⟨rfl, hf⟩)
                        · exact absurd rfl c86
                · exact absurd h40 k1
              · exact absurd rfl c46
        · rw [if_pos (show 20 ≤ o by
            rcases Nat.lt_or_ge o 20 with w | w
            · exact absurd (show nI o < 20 from nI_lt w (by decide)) c32
            · exact w)] at hr
          obtain ⟨e1, e2, e3⟩ := some3 hr
          subst e1 e2 e3
          refine ev_aload0 (q := 36) dX5_readOne_35 rfl ?_
          refine ev_cV (K := kX5_readOne) (pc := 36) (q := 39) (c_fail (d := f) (p := p) (z := -1) h) dX5_readOne_36 l_X5_35 h1 rfl rfl (Nat.le_of_ble_eq_true rfl) (by omega) rfl rfl (fun r S1 hp => ?_)
          obtain ⟨rfl, rfl⟩ := hp
          exact ev_ireturn dX5_readOne_39 rfl rfl ⟨false, nI p, rfl, by rw [if_pos rfl], Or.inr ⟨rfl, Or.inl rfl⟩⟩
      refine ev_istore2 (q := 12) dX5_readOne_11 rfl (by decide) rfl ?_
      refine ev_iload2 (q := 13) dX5_readOne_12 rfl ?_
      refine ev_bipush (q := 15) (v := 33) dX5_readOne_13 rfl rfl ?_
      refine ev_icmp_eq (q := 18) (t := 29) dX5_readOne_15 rfl (by decide) (fun c15 => ?_) (fun c15 => ?_)
      · exact open29 (Or.inl (k33.mp c15))
      · refine ev_iload2 (q := 19) dX5_readOne_18 rfl ?_
        refine ev_bipush (q := 21) (v := 40) dX5_readOne_19 rfl rfl ?_
        refine ev_icmp_eq (q := 24) (t := 29) dX5_readOne_21 rfl (by decide) (fun c21 => ?_) (fun c21 => ?_)
        · exact open29 (Or.inr (k40.mp c21))
        · refine ev_aload0 (q := 25) dX5_readOne_24 rfl ?_
          refine ev_cV (K := kX5_readOne) (pc := 25) (q := 28) (c_readAsked (d := f) h hp (fun y => y.elim (fun y => c15 (k33.mpr y)) (fun y => c21 (k40.mpr y))) hr) dX5_readOne_25 l_X5_53 h1 rfl rfl (Nat.le_of_ble_eq_true rfl) (by omega) rfl rfl (fun r S1 hp => ?_)
          obtain ⟨x, z, rfl, rfl, hz⟩ := hp
          exact ev_ireturn dX5_readOne_28 rfl (nar_b x) ⟨x, z, rfl, rfl, hz⟩
    · intro o p q t ok ho hp hr
      refine MT.of (by decide) rfl rfl (n := 3) rfl (ls := [some (.ref 29), some (.int (nI o)), none, none, none]) rfl ?_
      rw [prs] at hr
      cases hq : prs L (ansB V) f 0 o false p with
      | none => rw [hq] at hr; cases hr
      | some r =>
        rw [hq] at hr
        obtain ⟨r1, r2, r3⟩ := r
        have hle := prs_le hL0 _ _ _ _ _ _ _ _ hp hq
        have hr : (if r3 = true then prs L (ansB V) f 3 o r1 r2 else some (r1, r2, r3)) = some (t, q, ok) := hr
        refine ev_aload0 (q := 1) dX5_readBoth_0 rfl ?_
        refine ev_iload1 (q := 2) dX5_readBoth_1 rfl ?_
        refine ev_cV (K := kX5_readBoth) (pc := 2) (q := 5) (i0 o p r2 r1 r3 ho hp hq) dX5_readBoth_2 l_X5_46 h1 rfl rfl (Nat.le_of_ble_eq_true rfl) (Nat.le_refl _) rfl rfl (fun r S1 hp => ?_)
        obtain ⟨x, z, rfl, rfl, hz⟩ := hp
        refine ev_istore2 (q := 6) dX5_readBoth_5 rfl (by decide) rfl ?_
        refine ev_iconst (q := 7) (v := 0) dX5_readBoth_6 rfl rfl ?_
        refine ev_istore3 (q := 8) dX5_readBoth_7 rfl (by decide) rfl ?_
        rcases hz with ⟨a1, a2, a3⟩ | ⟨a1, a2⟩
        · rw [if_pos a1] at hr
          subst a3 a2
          exact (i3 o r2 q 0 x t ok none ho hle.2.1 (by have := hle.2.2 a1 (by decide); omega) rfl hr).deep (by omega)
        · rw [if_neg (by rw [a1]; simp)] at hr
          obtain ⟨e1, e2, e3⟩ := some3 hr
          subst e1 e2 e3
          subst a1
          exact (endB (f + 6) o r2 0 x z none hle.2.1 (by decide) a2).post (fun r S hx => wk hx)
    · intro o p q t ok ho hp hr
      refine MT.of (by decide) rfl rfl (n := 3) rfl (ls := [some (.ref 29), some (.int (nI o)), none, none, none]) rfl ?_
      rw [prs] at hr
      cases hq : prs L (ansB V) f 1 o false p with
      | none => rw [hq] at hr; cases hr
      | some r =>
        rw [hq] at hr
        obtain ⟨r1, r2, r3⟩ := r
        have hle := prs_le hL0 _ _ _ _ _ _ _ _ hp hq
        have hr : (if r3 = true then prs L (ansB V) f 4 o r1 r2 else some (r1, r2, r3)) = some (t, q, ok) := hr
        refine ev_aload0 (q := 1) dX5_readAny_0 rfl ?_
        refine ev_iload1 (q := 2) dX5_readAny_1 rfl ?_
        refine ev_cV (K := kX5_readAny) (pc := 2) (q := 5) (i1 o p r2 r1 r3 ho hp hq) dX5_readAny_2 l_X5_39 h1 rfl rfl (Nat.le_of_ble_eq_true rfl) (Nat.le_refl _) rfl rfl (fun r S1 hp => ?_)
        obtain ⟨x, z, rfl, rfl, hz⟩ := hp
        refine ev_istore2 (q := 6) dX5_readAny_5 rfl (by decide) rfl ?_
        refine ev_iconst (q := 7) (v := 0) dX5_readAny_6 rfl rfl ?_
        refine ev_istore3 (q := 8) dX5_readAny_7 rfl (by decide) rfl ?_
        rcases hz with ⟨a1, a2, a3⟩ | ⟨a1, a2⟩
        · rw [if_pos a1] at hr
          subst a3 a2
          exact (i4 o r2 q 0 x t ok none ho hle.2.1 (by have := hle.2.2 a1 (by decide); omega) rfl hr).deep (by omega)
        · rw [if_neg (by rw [a1]; simp)] at hr
          obtain ⟨e1, e2, e3⟩ := some3 hr
          subst e1 e2 e3
          subst a1
          exact (endA (f + 6) o r2 0 x z none hle.2.1 (by decide) a2).post (fun r S hx => wk hx)
    · intro o p q n b t ok o4 ho hp hn ho4 hr
      rw [prs] at hr
      refine ev_iload3 (q := 9) dX5_readBoth_8 rfl ?_
      refine ev_bipush (q := 11) (v := 60) dX5_readBoth_9 rfl rfl ?_
      refine ev_icmp_ge (q := 14) (t := 51) dX5_readBoth_11 rfl (by decide) (fun c11 => ?_) (fun c11 => ?_)
      · exact absurd c11 (show ¬ nI 60 ≤ nI n from nI_ge (by omega) (by decide))
      · refine ev_aload0 (q := 15) dX5_readBoth_14 rfl ?_
        refine ev_bipush (q := 17) (v := 38) dX5_readBoth_15 rfl rfl ?_
        refine ev_cV (K := kX5_readBoth) (pc := 17) (q := 20) (c_passOver (d := f) (c := 38) h (show p < 2 ^ 30 by omega) (by decide) (by decide)) dX5_readBoth_17 l_X5_42 h1 rfl rfl (Nat.le_of_ble_eq_true rfl) (by omega) rfl rfl (fun r S1 hp => ?_)
        rcases hp with ⟨k1, rfl, rfl⟩ | ⟨k1, rfl, rfl⟩
        · have hlt := L_lt hL0 (show L p = 38 from k1) (by decide)
          rw [if_pos (show L p = 38 from k1)] at hr
          cases hq : prs L (ansB V) f 0 o false (p + 1) with
          | none => rw [hq] at hr; cases hr
          | some r =>
            rw [hq] at hr
            obtain ⟨r1, r2, r3⟩ := r
            have hle := prs_le hL0 _ _ _ _ _ _ _ _ hlt hq
            have hr : (if r3 = true then prs L (ansB V) f 3 o (b && r1) r2 else some (r1, r2, r3)) = some (t, q, ok) := hr
            refine ev_if_eq (q := 23) (t := 51) dX5_readBoth_20 rfl (by decide) (fun c20 => ?_) (fun c20 => ?_)
            · exact absurd c20 (by decide)
            · refine ev_aload0 (q := 24) dX5_readBoth_23 rfl ?_
              refine ev_iload1 (q := 25) dX5_readBoth_24 rfl ?_
              refine ev_cV (K := kX5_readBoth) (pc := 25) (q := 28) (i0 o (p + 1) r2 r1 r3 ho hlt hq) dX5_readBoth_25 l_X5_46 h1 rfl rfl (Nat.le_of_ble_eq_true rfl) (Nat.le_refl _) rfl rfl (fun r S1 hp => ?_)
              obtain ⟨x, z, rfl, rfl, hz⟩ := hp
              refine ev_istore4 (q := 30) dX5_readBoth_28 rfl (by decide) ho4 ?_
              refine andB _ o n b x _ _ ?_
              rcases hz with ⟨a1, a2, a3⟩ | ⟨a1, a2⟩
              · rw [if_pos a1] at hr
                subst a3 a2
                exact (i3 o r2 q (n + 1) (b && x) t ok _ ho hle.2.1 (by have := hle.2.2 a1 (by decide); omega) (by cases x <;> rfl) hr).deep (by omega)
              · rw [if_neg (by rw [a1]; simp)] at hr
                obtain ⟨e1, e2, e3⟩ := some3 hr
                subst e1 e2 e3
                subst a1
                exact (endB (f + 6) o r2 (n + 1) (b && x) z _ hle.2.1 (by omega) a2).post (fun r S hx => wk hx)
        · rw [if_neg (show ¬ L p = 38 from k1)] at hr
          obtain ⟨e1, e2, e3⟩ := some3 hr
          subst e1 e2 e3
          refine ev_if_eq (q := 23) (t := 51) dX5_readBoth_20 rfl (by decide) (fun c20 => ?_) (fun c20 => ?_)
          · refine ev_iload2 (q := 52) dX5_readBoth_51 rfl ?_
            exact ev_ireturn dX5_readBoth_52 rfl (nar_b b) ⟨b, -1, rfl, rfl, Or.inl ⟨rfl, rfl, rfl⟩⟩
          · exact absurd rfl c20
    · intro o p q n b t ok o4 ho hp hn ho4 hr
      rw [prs] at hr
      refine ev_iload3 (q := 9) dX5_readAny_8 rfl ?_
      refine ev_bipush (q := 11) (v := 60) dX5_readAny_9 rfl rfl ?_
      refine ev_icmp_ge (q := 14) (t := 51) dX5_readAny_11 rfl (by decide) (fun c11 => ?_) (fun c11 => ?_)
      · exact absurd c11 (show ¬ nI 60 ≤ nI n from nI_ge (by omega) (by decide))
      · refine ev_aload0 (q := 15) dX5_readAny_14 rfl ?_
        refine ev_bipush (q := 17) (v := 124) dX5_readAny_15 rfl rfl ?_
        refine ev_cV (K := kX5_readAny) (pc := 17) (q := 20) (c_passOver (d := f) (c := 124) h (show p < 2 ^ 30 by omega) (by decide) (by decide)) dX5_readAny_17 l_X5_42 h1 rfl rfl (Nat.le_of_ble_eq_true rfl) (by omega) rfl rfl (fun r S1 hp => ?_)
        rcases hp with ⟨k1, rfl, rfl⟩ | ⟨k1, rfl, rfl⟩
        · have hlt := L_lt hL0 (show L p = 124 from k1) (by decide)
          rw [if_pos (show L p = 124 from k1)] at hr
          cases hq : prs L (ansB V) f 1 o false (p + 1) with
          | none => rw [hq] at hr; cases hr
          | some r =>
            rw [hq] at hr
            obtain ⟨r1, r2, r3⟩ := r
            have hle := prs_le hL0 _ _ _ _ _ _ _ _ hlt hq
            have hr : (if r3 = true then prs L (ansB V) f 4 o (b || r1) r2 else some (r1, r2, r3)) = some (t, q, ok) := hr
            refine ev_if_eq (q := 23) (t := 51) dX5_readAny_20 rfl (by decide) (fun c20 => ?_) (fun c20 => ?_)
            · exact absurd c20 (by decide)
            · refine ev_aload0 (q := 24) dX5_readAny_23 rfl ?_
              refine ev_iload1 (q := 25) dX5_readAny_24 rfl ?_
              refine ev_cV (K := kX5_readAny) (pc := 25) (q := 28) (i1 o (p + 1) r2 r1 r3 ho hlt hq) dX5_readAny_25 l_X5_39 h1 rfl rfl (Nat.le_of_ble_eq_true rfl) (Nat.le_refl _) rfl rfl (fun r S1 hp => ?_)
              obtain ⟨x, z, rfl, rfl, hz⟩ := hp
              refine ev_istore4 (q := 30) dX5_readAny_28 rfl (by decide) ho4 ?_
              refine orA _ o n b x _ _ ?_
              rcases hz with ⟨a1, a2, a3⟩ | ⟨a1, a2⟩
              · rw [if_pos a1] at hr
                subst a3 a2
                exact (i4 o r2 q (n + 1) (b || x) t ok _ ho hle.2.1 (by have := hle.2.2 a1 (by decide); omega) (by cases x <;> rfl) hr).deep (by omega)
              · rw [if_neg (by rw [a1]; simp)] at hr
                obtain ⟨e1, e2, e3⟩ := some3 hr
                subst e1 e2 e3
                subst a1
                exact (endA (f + 6) o r2 (n + 1) (b || x) z _ hle.2.1 (by omega) a2).post (fun r S hx => wk hx)
        · rw [if_neg (show ¬ L p = 124 from k1)] at hr
          obtain ⟨e1, e2, e3⟩ := some3 hr
          subst e1 e2 e3
          refine ev_if_eq (q := 23) (t := 51) dX5_readAny_20 rfl (by decide) (fun c20 => ?_) (fun c20 => ?_)
          · refine ev_iload2 (q := 52) dX5_readAny_51 rfl ?_
            exact ev_ireturn dX5_readAny_52 rfl (nar_b b) ⟨b, -1, rfl, rfl, Or.inl ⟨rfl, rfl, rfl⟩⟩
          · exact absurd rfl c20
end C16
