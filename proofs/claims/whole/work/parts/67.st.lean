/-! the law's body from its entry -/
theorem res_0 {V : th_Vl} (h : ∀ a, 36 ≤ a → a < 64 → ∀ k, V a k = th_seg (fun _ _ => 0) 38 0 3 (fun _ => -1) a k) : res V = th_seg (fun _ _ => 0) 38 0 3 (fun _ => -1) := by
  funext a k
  cases hp : pers a k
  · have h38 : a ≠ 38 := fun e => by subst e; cases hp
    unfold res
    rw [hp, cond_false, th_seg_ne h38]
  · rw [res_at hp]
    exact h a (pers_in hp).1 (pers_in hp).2 k
theorem J_0 {SH : Nat → Option th_K0} {V : th_Vl} (hm : wM SH) (hW : wC SH) (h1 : ∃ h : Nat → Option Nat, SH 15 = some (.inr (11, h)) ∧ h 1 = some 2) (h2 : ∃ h : Nat → Option Nat, SH 29 = some (.inr (5, h))) (h3 : ∃ h : Nat → Option Nat, SH 30 = some (.inr (11, h)) ∧ h 1 = some 2) (hz : ∀ a, 4 ≤ a → a < 36 → V a = fun _ => 0) (hv : ∀ a, 36 ≤ a → a < 64 → ∀ k, V a k = th_seg (fun _ _ => 0) 38 0 3 (fun _ => -1) a k) : J 0 (64, SH, V) := by
  have er := res_0 hv
  refine ⟨hm, ?_, ?_⟩
  · show CR 64 SH V (res V)
    rw [er]
    obtain ⟨f1, q1, q2⟩ := h1
    obtain ⟨f3, q5, q6⟩ := h3
    refine ⟨fun _ => 0, fun _ => 0, 2, 2, ⟨hW, h2, Nat.le_refl _, Nat.zero_le _, Nat.zero_le _, ⟨f1, q1, q2, by rw [hz _ (by decide) (by decide)]; rfl, Or.inl ⟨rfl, rfl⟩⟩, ⟨f3, q5, q6, by rw [hz _ (by decide) (by decide)]; rfl, Or.inl ⟨rfl, rfl⟩⟩, fun _ => rfl, fun j hj => absurd hj (Nat.not_lt_zero _), fun i j _ hj => absurd hj (Nat.not_lt_zero _), fun j hj => absurd hj (Nat.not_lt_zero _), fun i j _ hj => absurd hj (Nat.not_lt_zero _)⟩, ⟨fun r hr => ?_, fun k hk => ?_, ?_, ⟨fun j hj => ?_, fun j hj => ?_⟩, ⟨?_, fun k hk => absurd hk (Nat.not_lt_zero _)⟩, fun j hj => absurd hj (Nat.not_lt_zero _), fun j hj => absurd hj (Nat.not_lt_zero _)⟩⟩
    · refine Or.inl ⟨?_, ?_⟩
      · rw [th_seg_in (Nat.zero_le _) (by omega)]
        decide
      · rw [hz _ (by omega) (by omega)]
    · rw [hz _ (by decide) (by decide), hz _ (by decide) (by decide), hz _ (by decide) (by decide)]
      exact ⟨rfl, rfl, rfl⟩
    · unfold eqF
      rw [hz _ (by decide) (by decide), hz _ (by decide) (by decide)]
      exact ⟨rfl, rfl, rfl, rfl, rfl, rfl⟩
    · rw [hz _ (by decide) (by decide), hz _ (by decide) (by decide)]
      exact ⟨rfl, rfl⟩
    · rw [hz _ (by decide) (by decide)]
      rfl
    · rw [hz _ (by decide) (by decide)]
      rfl
  · show INV 0 (res V)
    rw [er]
    have e0 : inR (0 : Int32) 0 65535 := by decide
    refine ⟨⟨by decide, by decide, fun r hr => ?_, by show inR (0 : Int32) 0 60; decide⟩, by show 0 ≤ (0 : Int32).toInt ∧ (0 : Int32).toInt ≤ (0 : Nat); decide, ⟨fun k hk => e0, fun k hk => e0⟩, fun j hj => absurd hj (Nat.not_lt_zero _), fun k hk => by show inR (0 : Int32) 0 60; decide, ⟨fun k => by show isBy 0; rfl, fun k => by show isBy 0; rfl⟩, fun j hj => absurd hj (Nat.not_lt_zero _), fun j hj => absurd hj (Nat.not_lt_zero _)⟩
    rw [th_seg_in (Nat.zero_le _) (by omega)]
    decide
theorem law_body {G : th_G} {l : Launch} {LL : Nat} (hLL : LL ≤ 3584) (hG : LL = G.2.2.2.2.1) : EV G l kL_law 300 (4 * 512 + 27 + 1 + 31 + 1) (84 * 512 + 1078 + 41 + 517 + 16) 0 [some (.ref 0), none, none, none] [] (4, fun _ => none, fun _ _ => 0) (fun r S' => r = some (.int 1)) := by
  have lp := law_loop (G := G) (l := l) hLL hG 512 0 (by omega) (by decide)
  obtain ⟨b0, hb0⟩ : ∃ b0, b0 = 4 * 512 := ⟨_, rfl⟩
  obtain ⟨c0, hc0⟩ : ∃ c0, c0 = 84 * 512 := ⟨_, rfl⟩
  rw [← hb0, ← hc0] at lp ⊢
  refine ev_newX (q := 3) (ci := 9) (bc := b0 + 27 + 1 + 31) (bs := c0 + 1078 + 41 + 517) (N := 4) (N1 := 5) rfl (K := kL_law) (pc := 0) dL_law_0 rfl n_L_7 i1_X9 i2_X9 rfl ?_
  refine ev_dup (q := 4) dL_law_3 rfl rfl ?_
  refine ev_cI (bc := b0 + 27 + 1) (bs := c0 + 1078 + 41) (K := kL_law) (pc := 4) (q := 7) (c_init (d := 0) th_u_eq th_z_eq) dL_law_4 l_L_9 rfl (Nat.le_of_ble_eq_true rfl) (by omega) rfl rfl (fun r S1 hp => ?_)
  obtain ⟨rfl, SH1, V1, rfl, hW1, hr1, hr2, hr3, hz⟩ := hp
  refine ev_astore1 (q := 8) dL_law_7 rfl (by decide) rfl ?_
  refine ev_newX (q := 11) (ci := 10) (bc := b0 + 27) (bs := c0 + 1078) (N := 36) (N1 := 37) rfl (K := kL_law) (pc := 8) dL_law_8 rfl n_L_10 i1_X10 i2_X10 rfl ?_
  refine ev_dup (q := 12) dL_law_11 rfl rfl ?_
  refine ev_cI (bc := b0) (bs := c0) (K := kL_law) (pc := 12) (q := 15) (m_init (d := 0) th_u_eq th_z_eq) dL_law_12 l_L_12 rfl (Nat.le_of_ble_eq_true rfl) (by omega) rfl rfl (fun r S1 hp => ?_)
  obtain ⟨rfl, SH3, V3, rfl, hm, e1, e2, e3⟩ := hp
  have hS : ∀ a, a < 36 → SH3 a = SH1 a := fun a ha => (e1 a ha).trans (th_u_ne (by omega))
  have hV : ∀ a, a < 36 → V3 a = V1 a := fun a ha => (e2 a ha).trans (th_z_ne (by omega))
  refine ev_astore2 (q := 16) dL_law_15 rfl (by decide) rfl ?_
  refine ev_iconst (q := 17) (v := 0) dL_law_16 rfl rfl ?_
  refine ev_istore3 (q := 18) dL_law_17 rfl (by decide) rfl ?_
  refine lp 64 SH3 V3 (J_0 hm (fun a x hx => ?_) ?_ ?_ ?_ (fun a a1 a2 => (hV a a2).trans (hz a a1 a2)) e3)
  · have h36 : a < 36 := by
      rcases Nat.lt_or_ge a 36 with z | z
      · exact z
      · exfalso
        have hb : Nat.blt a 4 = false := by
          cases hb : Nat.blt a 4
          · rfl
          · have := Nat.blt_eq.mp hb; omega
        simp only [shC, hb, cond_false] at hx
        rw [show a - 4 = (a - 36) + 32 by omega] at hx
        cases (th_nth_big (d0 := (none : Option th_K0)) _ (a - 36)).symm.trans hx
    exact (hS a h36).trans (hW1 a x hx)
  · rw [hS _ (by decide)]; exact hr1
  · rw [hS _ (by decide)]; exact hr2
  · rw [hS _ (by decide)]; exact hr3
/-! the start: what the tables give -/
theorem th_mT {w : Cond} (i : Nat) (h : tables_1[i]? = some w) : w ∈ lw_tbl := List.mem_append_right _ (List.mem_of_getElem? h)
theorem st_K {args : Array Value} {s : State} (hts : ∀ w ∈ th_W, w.before args s = true) : ∀ ci : Nat, ∃ p : ClassId × (Nat → Nat), ∀ q : vw_C, th_cl[ci]? = some q → u_Kn s q.1 q.2.1 q.2.2 p.1 p.2 := by
  intro ci
  match ci with
  | 0 => obtain ⟨c, i, h⟩ := u_known hts inW0 (hts _ i1_X0); exact ⟨(c, i), fun q hq => by cases hq; exact h⟩
  | 1 => obtain ⟨c, i, h⟩ := u_known hts inW1 (hts _ i1_X1); exact ⟨(c, i), fun q hq => by cases hq; exact h⟩
  | 2 => obtain ⟨c, i, h⟩ := u_known hts inW2 (hts _ i1_X2); exact ⟨(c, i), fun q hq => by cases hq; exact h⟩
  | 3 => obtain ⟨c, i, h⟩ := u_known hts inW3 (hts _ i1_X3); exact ⟨(c, i), fun q hq => by cases hq; exact h⟩
  | 4 => obtain ⟨c, i, h⟩ := u_known hts inW4 (hts _ i1_X4); exact ⟨(c, i), fun q hq => by cases hq; exact h⟩
  | 5 => obtain ⟨c, i, h⟩ := u_known hts inW5 (hts _ i1_X5); exact ⟨(c, i), fun q hq => by cases hq; exact h⟩
  | 6 => obtain ⟨c, i, h⟩ := u_known hts inW6 (hts _ i1_X6); exact ⟨(c, i), fun q hq => by cases hq; exact h⟩
  | 7 => obtain ⟨c, i, h⟩ := u_known hts inW7 (hts _ i1_X7); exact ⟨(c, i), fun q hq => by cases hq; exact h⟩
  | 8 => obtain ⟨c, i, h⟩ := u_known hts inW8 (hts _ i1_X8); exact ⟨(c, i), fun q hq => by cases hq; exact h⟩
  | 9 => obtain ⟨c, i, h⟩ := u_known hts inW9 (hts _ i1_X9); exact ⟨(c, i), fun q hq => by cases hq; exact h⟩
  | 10 => obtain ⟨c, i, h⟩ := u_known hts inW10 (hts _ i1_X10); exact ⟨(c, i), fun q hq => by cases hq; exact h⟩
  | 11 => obtain ⟨c, i, h⟩ := u_known hts inW11 (hts _ i1_Jx4a65c); exact ⟨(c, i), fun q hq => by cases hq; exact h⟩
  | n + 12 => exact ⟨(0, fun _ => 0), fun q hq => by cases hq⟩
theorem st_P {args : Array Value} {s : State} {ty : FieldType} (h : (Cond.arrayClass ty).before args s = true) (hty : ∀ C, ty ≠ .object C) : ∃ c : ClassId, ArrOfT s c ty ∧ va_RA s c ty := by
  obtain ⟨c, k, comp, f1, f2, f3⟩ := Cond.arrayClass_spec h
  refine ⟨c, fun N z => ⟨(fun k h => by cases h), k, f2, comp, f3⟩, ?_⟩
  cases ty with
  | object C => exact absurd rfl (hty C)
  | _ => exact f1
theorem st_O {args : Array Value} {s : State} {C : String} (h : (Cond.arrayOver (.object C)).before args s = true) : ∃ c : ClassId, ArrOfT s c (.object C) ∧ va_RA s c (.object C) := by
  obtain ⟨comp, c, k, f1, -, f2, f3, f4⟩ := Cond.arrayOver_spec h
  exact ⟨c, fun N z => ⟨(fun k h => by cases h), k, f2, comp, f3⟩, k, comp, f2, f3, f1, f4⟩
