/-! the class: its constructors -/
def PIn (lo hi : Nat) (SH : Nat → Option th_K0) (V : th_Vl) : Option Value → th_S → Prop := fun r S' => r = none ∧ ∃ SH' V', S' = (hi, SH', V') ∧ (∀ a, a < lo → SH' a = SH a ∧ V' a = V a) ∧ ∀ a, lo ≤ a → a < hi → SH' a = shC a ∧ V' a = fun _ => 0
def QI (n : Nat) (f g : Nat → Option Nat) (SH : Nat → Option th_K0) (V : th_Vl) : Prop := SH 4 = some (.inr (9, f)) ∧ SH 5 = some (.inl (4, 3, g)) ∧ (∀ a, 6 ≤ a → a < n → a ≠ 15 → a ≠ 29 → a ≠ 30 → SH a = shC a) ∧ ((15 < n → ∃ h : Nat → Option Nat, SH 15 = some (.inr (11, h)) ∧ h 1 = some 2) ∧ (29 < n → ∃ h : Nat → Option Nat, SH 29 = some (.inr (5, h))) ∧ (30 < n → ∃ h : Nat → Option Nat, SH 30 = some (.inr (11, h)) ∧ h 1 = some 2)) ∧ ∀ a, 4 ≤ a → a < n → V a = fun _ => 0
theorem QI.grow {n m : Nat} {f g : Nat → Option Nat} {SH SH' : Nat → Option th_K0} {V V' : th_Vl} (h : QI n f g SH V) (hn : 6 ≤ n) (hm : n ≤ m) (h1 : ∀ a, a < n → SH' a = SH a ∧ V' a = V a) (h2 : ∀ a, n ≤ a → a < m → a ≠ 15 → a ≠ 29 → a ≠ 30 → SH' a = shC a) (h3 : ∀ a, n ≤ a → a < m → V' a = fun _ => 0) (h4 : n ≤ 15 → 15 < m → ∃ h : Nat → Option Nat, SH' 15 = some (.inr (11, h)) ∧ h 1 = some 2) (h5 : n ≤ 29 → 29 < m → ∃ h : Nat → Option Nat, SH' 29 = some (.inr (5, h))) (h6 : n ≤ 30 → 30 < m → ∃ h : Nat → Option Nat, SH' 30 = some (.inr (11, h)) ∧ h 1 = some 2) : QI m f g SH' V' := by
  obtain ⟨q1, q2, q3, ⟨q4, q5, q6⟩, q7⟩ := h
  refine ⟨(h1 _ (by omega)).1.trans q1, (h1 _ (by omega)).1.trans q2, fun a a1 a2 a3 a4 a5 => ?_, ⟨fun z => ?_, fun z => ?_, fun z => ?_⟩, fun a a1 a2 => ?_⟩
  · rcases Nat.lt_or_ge a n with w | w
    · exact (h1 a w).1.trans (q3 a a1 w a3 a4 a5)
    · exact h2 a w a2 a3 a4 a5
  · rcases Nat.lt_or_ge 15 n with w | w
    · obtain ⟨x, x1, x2⟩ := q4 w
      exact ⟨x, (h1 _ w).1.trans x1, x2⟩
    · exact h4 w z
  · rcases Nat.lt_or_ge 29 n with w | w
    · obtain ⟨x, x1⟩ := q5 w
      exact ⟨x, (h1 _ w).1.trans x1⟩
    · exact h5 w z
  · rcases Nat.lt_or_ge 30 n with w | w
    · obtain ⟨x, x1, x2⟩ := q6 w
      exact ⟨x, (h1 _ w).1.trans x1, x2⟩
    · exact h6 w z
  · rcases Nat.lt_or_ge a n with w | w
    · exact (h1 a w).2.trans (q7 a a1 w)
    · exact h3 a w a2
theorem QI.put {n k b : Nat} {f g : Nat → Option Nat} {SH : Nat → Option th_K0} {V : th_Vl} (h : QI n f g SH V) : QI n (th_u f k b) g (th_u SH 4 (.inr (9, th_u f k b))) V := by
  obtain ⟨q1, q2, q3, ⟨q4, q5, q6⟩, q7⟩ := h
  refine ⟨th_u_eq, (th_u_ne (by decide)).trans q2, fun a a1 a2 a3 a4 a5 => (th_u_ne (by omega)).trans (q3 a a1 a2 a3 a4 a5), ⟨fun z => ?_, fun z => ?_, fun z => ?_⟩, q7⟩
  · rw [th_u_ne (by decide)]; exact q4 z
  · rw [th_u_ne (by decide)]; exact q5 z
  · rw [th_u_ne (by decide)]; exact q6 z
theorem QI.sht {n j b : Nat} {f g : Nat → Option Nat} {SH : Nat → Option th_K0} {V : th_Vl} (h : QI n f g SH V) : QI n f (th_u g j b) (th_u SH 5 (.inl (4, 3, th_u g j b))) V := by
  obtain ⟨q1, q2, q3, ⟨q4, q5, q6⟩, q7⟩ := h
  refine ⟨(th_u_ne (by decide)).trans q1, th_u_eq, fun a a1 a2 a3 a4 a5 => (th_u_ne (by omega)).trans (q3 a a1 a2 a3 a4 a5), ⟨fun z => ?_, fun z => ?_, fun z => ?_⟩, q7⟩
  · rw [th_u_ne (by decide)]; exact q4 z
  · rw [th_u_ne (by decide)]; exact q5 z
  · rw [th_u_ne (by decide)]; exact q6 z
theorem QI.arr {n : Nat} {f g : Nat → Option Nat} {SH : Nat → Option th_K0} {V : th_Vl} (h : QI n f g SH V) {t m : Nat} (hn : 6 ≤ n) (hs : shC n = some (.inl (t, m, th_no))) (h1 : n ≠ 15) (h2 : n ≠ 29) (h3 : n ≠ 30) : QI (n + 1) f g (th_u SH n (.inl (t, m, fun _ => none))) (th_z V n) := by
  refine h.grow hn (Nat.le_succ _) (fun a ha => ⟨th_u_ne (by omega), th_z_ne (by omega)⟩) (fun a a1 a2 _ _ _ => ?_) (fun a a1 a2 => ?_) (fun a1 a2 => by omega) (fun a1 a2 => by omega) (fun a1 a2 => by omega)
  · rw [show a = n by omega, th_u_eq, hs]
    rfl
  · rw [show a = n by omega, th_z_eq]
theorem QI.sub {lo hi : Nat} {f g : Nat → Option Nat} {SH SH' : Nat → Option th_K0} {V V' : th_Vl} {x : th_K0} (h : QI lo f g SH V) (hn : 6 ≤ lo) (hm : lo < hi) (hno : ∀ a, a = 15 ∨ a = 29 ∨ a = 30 → a < lo ∨ hi ≤ a) (h1 : ∀ a, a < lo → SH' a = (th_u SH lo x) a ∧ V' a = (th_z V lo) a) (h2 : ∀ a, lo ≤ a → a < hi → SH' a = shC a ∧ V' a = fun _ => 0) : QI hi f g SH' V' := by
  refine h.grow hn (Nat.le_of_lt hm) (fun a ha => ⟨(h1 a ha).1.trans (th_u_ne (by omega)), (h1 a ha).2.trans (th_z_ne (by omega))⟩) (fun a a1 a2 _ _ _ => (h2 a a1 a2).1) (fun a a1 a2 => (h2 a a1 a2).2) (fun a1 a2 => ?_) (fun a1 a2 => ?_) (fun a1 a2 => ?_)
  · have := hno 15 (by omega); omega
  · have := hno 29 (by omega); omega
  · have := hno 30 (by omega); omega
theorem z_w0 {V : th_Vl} {n : Nat} : th_w (th_z V n) n 0 0 n = fun _ => 0 := by
  funext k
  rw [th_w_if, th_z_eq]
  split <;> rfl
section C22
variable {G : th_G} {l : Launch} {d : Nat} {N : Nat} {SH : Nat → Option th_K0} {V : th_Vl}
theorem c_sheetInit {a : Nat} (h0 : SH a = some (.inr (7, fun _ => none))) (hv : V a = fun _ => 0) (hs1 : shC a = some (.inr (7, th_u (fun _ => none) 0 (a + 1)))) (hs2 : shC (a + 1) = some (.inl (0, 20, th_no))) : MT G l yX7_init kX7_init (d + 1) 1 20 [.ref a] (a + 1, SH, V) (PIn a (a + 2) SH V) := by
  refine MT.of (by decide) rfl rfl (n := 0) rfl (ls := [some (.ref a)]) rfl ?_
  refine ev_aload0 (q := 1) dX7_init_0 rfl ?_
  refine ev_oI (q := 4) dX7_init_1 l_X7_3 l_oi1 l_oi2 (Nat.le_of_ble_eq_true rfl) (by omega) rfl ?_
  refine ev_aload0 (q := 5) dX7_init_4 rfl ?_
  refine ev_bipush (q := 7) (v := 20) dX7_init_5 rfl rfl ?_
  refine ev_newaX (q := 9) (n := 20) (bc := 0) (bs := 0) (N := a + 1) (N1 := a + 2) rfl (K := kX7_init) (pc := 7) (t := 0) dX7_init_7 rfl (by decide) ac_int rfl (by decide) rfl ?_
  refine ev_putRX (q := 12) dX7_init_9 p_X7_9 ((th_u_ne (by omega)).trans h0) rfl rfl ?_
  refine ev_return dX7_init_12 rfl ⟨rfl, _, _, rfl, fun b hb => ⟨?_, ?_⟩, fun b b1 b2 => ?_⟩
  · rw [th_u_ne (by omega), th_u_ne (by omega)]
  · rw [th_z_ne (by omega)]
  · by_cases e : b = a
    · subst e
      exact ⟨th_u_eq.trans hs1.symm, (th_z_ne (by omega)).trans hv⟩
    · rw [show b = a + 1 by omega]
      exact ⟨by rw [th_u_ne (by omega), th_u_eq, hs2]; rfl, th_z_eq⟩
theorem c_fitInit (h0 : SH 18 = some (.inr (0, fun _ => none))) (hv : V 18 = fun _ => 0) : MT G l yX0_init kX0_init (d + 1) 3 15 [.ref 18] (19, SH, V) (PIn 18 22 SH V) := by
  refine MT.of (by decide) rfl rfl (n := 0) rfl (ls := [some (.ref 18)]) rfl ?_
  refine ev_aload0 (q := 1) dX0_init_0 rfl ?_
  refine ev_oI (q := 4) dX0_init_1 l_X0_3 l_oi1 l_oi2 (Nat.le_of_ble_eq_true rfl) (by omega) rfl ?_
  refine ev_aload0 (q := 5) dX0_init_4 rfl ?_
  refine ev_iconst (q := 6) (v := 5) dX0_init_5 rfl rfl ?_
  refine ev_newaX (n := 5) (bc := 2) (bs := 10) (N := 19) (N1 := 20) rfl (q := 8) (K := kX0_init) (pc := 6) (t := 0) dX0_init_6 rfl (by decide) ac_int rfl (by decide) rfl ?_
  refine ev_putRX (q := 11) dX0_init_8 p_X0_9 h0 rfl rfl ?_
  refine ev_aload0 (q := 12) dX0_init_11 rfl ?_
  refine ev_iconst (q := 13) (v := 5) dX0_init_12 rfl rfl ?_
  refine ev_newaX (n := 5) (bc := 1) (bs := 5) (N := 20) (N1 := 21) rfl (q := 15) (K := kX0_init) (pc := 13) (t := 0) dX0_init_13 rfl (by decide) ac_int rfl (by decide) rfl ?_
  refine ev_putRX (q := 18) dX0_init_15 p_X0_15 rfl rfl rfl ?_
  refine ev_aload0 (q := 19) dX0_init_18 rfl ?_
  refine ev_iconst (q := 20) (v := 5) dX0_init_19 rfl rfl ?_
  refine ev_newaX (n := 5) (bc := 0) (bs := 0) (N := 21) (N1 := 22) rfl (q := 22) (K := kX0_init) (pc := 20) (t := 0) dX0_init_20 rfl (by decide) ac_int rfl (by decide) rfl ?_
  refine ev_putRX (q := 25) dX0_init_22 p_X0_18 rfl rfl rfl ?_
  refine ev_return dX0_init_25 rfl ⟨rfl, _, _, rfl, fun b hb => ⟨?_, ?_⟩, fun b b1 b2 => ?_⟩
  · repeat rw [th_u_ne (by omega)]
  · repeat rw [th_z_ne (by omega)]
  · have : b = 18 ∨ b = 19 ∨ b = 20 ∨ b = 21 := by omega
    rcases this with rfl | rfl | rfl | rfl
    · exact ⟨congrArg (fun z => some (Sum.inr (0, z))) (th_fx 3 (by decide) (fun k => rfl) (fun k => rfl)), hv⟩
    · exact ⟨rfl, rfl⟩
    · exact ⟨rfl, rfl⟩
    · exact ⟨rfl, rfl⟩
theorem c_heapInit (h0 : SH 22 = some (.inr (1, fun _ => none))) (hv : V 22 = fun _ => 0) : MT G l yX1_init kX1_init (d + 1) 4 96 [.ref 22] (23, SH, V) (PIn 22 27 SH V) := by
  refine MT.of (by decide) rfl rfl (n := 0) rfl (ls := [some (.ref 22)]) rfl ?_
  refine ev_aload0 (q := 1) dX1_init_0 rfl ?_
  refine ev_oI (q := 4) dX1_init_1 l_X1_3 l_oi1 l_oi2 (Nat.le_of_ble_eq_true rfl) (by omega) rfl ?_
  refine ev_aload0 (q := 5) dX1_init_4 rfl ?_
  refine ev_bipush (q := 7) (v := 60) dX1_init_5 rfl rfl ?_
  refine ev_newaX (n := 60) (bc := 3) (bs := 36) (N := 23) (N1 := 24) rfl (q := 9) (K := kX1_init) (pc := 7) (t := 0) dX1_init_7 rfl (by decide) ac_int rfl (by decide) rfl ?_
  refine ev_putRX (q := 12) dX1_init_9 p_X1_9 h0 rfl rfl ?_
  refine ev_aload0 (q := 13) dX1_init_12 rfl ?_
  refine ev_bipush (q := 15) (v := 12) dX1_init_13 rfl rfl ?_
  refine ev_newaX (n := 12) (bc := 2) (bs := 24) (N := 24) (N1 := 25) rfl (q := 17) (K := kX1_init) (pc := 15) (t := 0) dX1_init_15 rfl (by decide) ac_int rfl (by decide) rfl ?_
  refine ev_putRX (q := 20) dX1_init_17 p_X1_15 rfl rfl rfl ?_
  refine ev_aload0 (q := 21) dX1_init_20 rfl ?_
  refine ev_bipush (q := 23) (v := 12) dX1_init_21 rfl rfl ?_
  refine ev_newaX (n := 12) (bc := 1) (bs := 12) (N := 25) (N1 := 26) rfl (q := 25) (K := kX1_init) (pc := 23) (t := 0) dX1_init_23 rfl (by decide) ac_int rfl (by decide) rfl ?_
  refine ev_putRX (q := 28) dX1_init_25 p_X1_18 rfl rfl rfl ?_
  refine ev_aload0 (q := 29) dX1_init_28 rfl ?_
  refine ev_bipush (q := 31) (v := 12) dX1_init_29 rfl rfl ?_
  refine ev_newaX (n := 12) (bc := 0) (bs := 0) (N := 26) (N1 := 27) rfl (q := 33) (K := kX1_init) (pc := 31) (t := 0) dX1_init_31 rfl (by decide) ac_int rfl (by decide) rfl ?_
  refine ev_putRX (q := 36) dX1_init_33 p_X1_21 rfl rfl rfl ?_
  refine ev_return dX1_init_36 rfl ⟨rfl, _, _, rfl, fun b hb => ⟨?_, ?_⟩, fun b b1 b2 => ?_⟩
  · repeat rw [th_u_ne (by omega)]
  · repeat rw [th_z_ne (by omega)]
  · have : b = 22 ∨ b = 23 ∨ b = 24 ∨ b = 25 ∨ b = 26 := by omega
    rcases this with rfl | rfl | rfl | rfl | rfl
    · exact ⟨congrArg (fun z => some (Sum.inr (1, z))) (th_fx 4 (by decide) (fun k => rfl) (fun k => rfl)), hv⟩
    · exact ⟨rfl, rfl⟩
    · exact ⟨rfl, rfl⟩
    · exact ⟨rfl, rfl⟩
    · exact ⟨rfl, rfl⟩
theorem c_rawsInit (h0 : SH 31 = some (.inr (4, fun _ => none))) (hv : V 31 = fun _ => 0) : MT G l yX4_init kX4_init (d + 1) 3 210 [.ref 31] (32, SH, V) (PIn 31 35 SH V) := by
  refine MT.of (by decide) rfl rfl (n := 0) rfl (ls := [some (.ref 31)]) rfl ?_
  refine ev_aload0 (q := 1) dX4_init_0 rfl ?_
  refine ev_oI (q := 4) dX4_init_1 l_X4_3 l_oi1 l_oi2 (Nat.le_of_ble_eq_true rfl) (by omega) rfl ?_
  refine ev_aload0 (q := 5) dX4_init_4 rfl ?_
  refine ev_bipush (q := 7) (v := 30) dX4_init_5 rfl rfl ?_
  refine ev_newaX (n := 30) (bc := 2) (bs := 180) (N := 32) (N1 := 33) rfl (q := 9) (K := kX4_init) (pc := 7) (t := 0) dX4_init_7 rfl (by decide) ac_int rfl (by decide) rfl ?_
  refine ev_putRX (q := 12) dX4_init_9 p_X4_9 h0 rfl rfl ?_
  refine ev_aload0 (q := 13) dX4_init_12 rfl ?_
  refine ev_bipush (q := 15) (v := 30) dX4_init_13 rfl rfl ?_
  refine ev_newaX (n := 30) (bc := 1) (bs := 150) (N := 33) (N1 := 34) rfl (q := 17) (K := kX4_init) (pc := 15) (t := 0) dX4_init_15 rfl (by decide) ac_int rfl (by decide) rfl ?_
  refine ev_putRX (q := 20) dX4_init_17 p_X4_15 rfl rfl rfl ?_
  refine ev_aload0 (q := 21) dX4_init_20 rfl ?_
  refine ev_sipush (q := 24) (v := 150) dX4_init_21 rfl rfl ?_
  refine ev_newaX (n := 150) (bc := 0) (bs := 0) (N := 34) (N1 := 35) rfl (q := 26) (K := kX4_init) (pc := 24) (t := 0) dX4_init_24 rfl (by decide) ac_int rfl (by decide) rfl ?_
  refine ev_putRX (q := 29) dX4_init_26 p_X4_18 rfl rfl rfl ?_
  refine ev_return dX4_init_29 rfl ⟨rfl, _, _, rfl, fun b hb => ⟨?_, ?_⟩, fun b b1 b2 => ?_⟩
  · repeat rw [th_u_ne (by omega)]
  · repeat rw [th_z_ne (by omega)]
  · have : b = 31 ∨ b = 32 ∨ b = 33 ∨ b = 34 := by omega
    rcases this with rfl | rfl | rfl | rfl
    · exact ⟨congrArg (fun z => some (Sum.inr (4, z))) (th_fx 3 (by decide) (fun k => rfl) (fun k => rfl)), hv⟩
    · exact ⟨rfl, rfl⟩
    · exact ⟨rfl, rfl⟩
    · exact ⟨rfl, rfl⟩
theorem c_lookInit (h0 : SH 16 = some (.inr (3, fun _ => none))) (hv : V 16 = fun _ => 0) : MT G l yX3_init kX3_init (d + 2) 10 130 [.ref 16] (17, SH, V) (PIn 16 27 SH V) := by
  refine MT.of (by decide) rfl rfl (n := 0) rfl (ls := [some (.ref 16)]) rfl ?_
  refine ev_aload0 (q := 1) dX3_init_0 rfl ?_
  refine ev_oI (q := 4) dX3_init_1 l_X3_3 l_oi1 l_oi2 (Nat.le_of_ble_eq_true rfl) (by omega) rfl ?_
  refine ev_aload0 (q := 5) dX3_init_4 rfl ?_
  refine ev_iconst (q := 6) (v := 5) dX3_init_5 rfl rfl ?_
  refine ev_newaX (n := 5) (bc := 9) (bs := 125) (N := 17) (N1 := 18) rfl (q := 8) (K := kX3_init) (pc := 6) (t := 0) dX3_init_6 rfl (by decide) ac_int rfl (by decide) rfl ?_
  refine ev_putRX (q := 11) dX3_init_8 p_X3_9 h0 rfl rfl ?_
  refine ev_aload0 (q := 12) dX3_init_11 rfl ?_
  refine ev_newX (ci := 0) (bc := 8) (bs := 118) (N := 18) (N1 := 19) rfl (q := 15) (K := kX3_init) (pc := 12) dX3_init_12 rfl n_X3_15 i1_X0 i2_X0 rfl ?_
  refine ev_dup (q := 16) dX3_init_15 rfl rfl ?_
  refine ev_cI (bc := 5) (bs := 103) (K := kX3_init) (pc := 16) (q := 19) (c_fitInit (d := d) rfl rfl) dX3_init_16 l_X3_17 rfl (Nat.le_of_ble_eq_true rfl) (by omega) rfl rfl (fun r S1 hp => ?_)
  obtain ⟨rfl, SH1, V1, rfl, f1, f2⟩ := hp
  have e16 : SH1 16 = some (.inr (3, th_u (fun _ => none) 0 17)) := (f1 16 (by decide)).1.trans rfl
  refine ev_putRX (q := 22) dX3_init_19 p_X3_18 e16 rfl rfl ?_
  refine ev_aload0 (q := 23) dX3_init_22 rfl ?_
  refine ev_newX (ci := 1) (bc := 4) (bs := 96) (N := 22) (N1 := 23) rfl (q := 26) (K := kX3_init) (pc := 23) dX3_init_23 rfl n_X3_22 i1_X1 i2_X1 rfl ?_
  refine ev_dup (q := 27) dX3_init_26 rfl rfl ?_
  refine ev_cI (bc := 0) (bs := 0) (K := kX3_init) (pc := 27) (q := 30) (c_heapInit (d := d) rfl rfl) dX3_init_27 l_X3_24 rfl (Nat.le_of_ble_eq_true rfl) (by omega) rfl rfl (fun r S1 hp => ?_)
  obtain ⟨rfl, SH2, V2, rfl, g1, g2⟩ := hp
  have k16 : SH2 16 = some (.inr (3, th_u (th_u (fun _ => none) 0 17) 1 18)) := (g1 16 (by decide)).1.trans rfl
  refine ev_putRX (q := 33) dX3_init_30 p_X3_25 k16 rfl rfl ?_
  have lowS : ∀ b, b < 22 → b ≠ 16 → SH2 b = SH1 b := fun b hb hb2 => (g1 b hb).1.trans ((th_u_ne (by omega)).trans (th_u_ne hb2))
  have lowV : ∀ b, b < 22 → V2 b = V1 b := fun b hb => (g1 b hb).2.trans (th_z_ne (by omega))
  refine ev_return dX3_init_33 rfl ⟨rfl, _, _, rfl, fun b hb => ⟨?_, ?_⟩, fun b b1 b2 => ?_⟩
  · rw [th_u_ne (by omega), lowS b (by omega) (by omega), (f1 b (by omega)).1]
    repeat rw [th_u_ne (by omega)]
  · rw [lowV b (by omega), (f1 b (by omega)).2]
    repeat rw [th_z_ne (by omega)]
  · by_cases e16' : b = 16
    · subst e16'
      refine ⟨th_u_eq.trans (congrArg (fun z => some (Sum.inr (3, z))) (th_fx 3 (by decide) (fun k => rfl) (fun k => rfl))), ?_⟩
      rw [lowV _ (by decide), (f1 _ (by decide)).2]
      exact hv
    · rw [th_u_ne e16']
      by_cases e17 : b = 17
      · subst e17
        rw [lowS _ (by decide) (by decide), (f1 _ (by decide)).1, lowV _ (by decide), (f1 _ (by decide)).2]
        exact ⟨rfl, rfl⟩
      · rcases Nat.lt_or_ge b 22 with w | w
        · rw [lowS b w e16', lowV b w]
          exact f2 b (by omega) w
        · exact g2 b w b2
theorem c_readerInit (S : th_S) (a : Nat) : MT G l yX5_init kX5_init (d + 1) 0 0 [.ref a] S (fun r S' => r = none ∧ S' = S) := by
  refine MT.of (by decide) rfl rfl (n := 0) rfl (ls := [some (.ref a)]) rfl ?_
  refine ev_aload0 (q := 1) dX5_init_0 rfl ?_
  refine ev_oI (q := 4) dX5_init_1 l_X5_3 l_oi1 l_oi2 (Nat.le_of_ble_eq_true rfl) (by omega) rfl ?_
  exact ev_return dX5_init_4 rfl ⟨rfl, rfl⟩
/-- what the class's constructor leaves -/
def PXi : Option Value → th_S → Prop := fun r S' => r = none ∧ ∃ SH' V', S' = (36, SH', V') ∧ wC SH' ∧ (∃ h : Nat → Option Nat, SH' 15 = some (.inr (11, h)) ∧ h 1 = some 2) ∧ (∃ h : Nat → Option Nat, SH' 29 = some (.inr (5, h))) ∧ (∃ h : Nat → Option Nat, SH' 30 = some (.inr (11, h)) ∧ h 1 = some 2) ∧ ∀ a, 4 ≤ a → a < 36 → V' a = fun _ => 0
theorem c_init (h0 : SH 4 = some (.inr (9, fun _ => none))) (hv : V 4 = fun _ => 0) : MT G l yX9_init kX9_init (d + 4) 31 517 [.ref 4] (5, SH, V) PXi := by
  refine MT.of (by decide) rfl rfl (n := 0) rfl (ls := [some (.ref 4)]) rfl ?_
  refine ev_aload0 (q := 1) dX9_init_0 rfl ?_
  refine ev_oI (q := 4) dX9_init_1 l_X9_1 l_oi1 l_oi2 (Nat.le_of_ble_eq_true rfl) (by omega) rfl ?_
  refine ev_aload0 (q := 5) dX9_init_4 rfl ?_
  refine ev_iconst (q := 6) (v := 3) dX9_init_5 rfl rfl ?_
  refine ev_newqX (q := 9) (n := 3) (bc := 30) (bs := 514) (N := 5) (N1 := 6) rfl (K := kX9_init) (pc := 6) dX9_init_6 (Or.inl ⟨rfl, rfl⟩) n_X9_7 rfl (by decide) rfl ?_
  have Q : QI 6 (fun _ => none) (fun _ => none) (th_u SH 5 (.inl (4, 3, fun _ => none))) (th_z V 5) := by
    refine ⟨(th_u_ne (by decide)).trans h0, th_u_eq, fun a a1 a2 => by omega, ⟨fun z => absurd z (by decide), fun z => absurd z (by decide), fun z => absurd z (by decide)⟩, fun a a1 a2 => ?_⟩
    by_cases e : a = 4
    · subst e; exact (th_z_ne (by decide)).trans hv
    · rw [show a = 5 by omega, th_z_eq]
  generalize th_u SH 5 (.inl (4, 3, fun _ => none)) = S0 at Q ⊢
  generalize th_z V 5 = V0 at Q ⊢
  refine ev_dup (q := 10) dX9_init_9 rfl rfl ?_
  refine ev_iconst (q := 11) (v := 0) dX9_init_10 rfl rfl ?_
  refine ev_newX (q := 14) (ci := 7) (bc := 29) (bs := 510) (N := 6) (N1 := 7) rfl (K := kX9_init) (pc := 11) dX9_init_11 rfl n_X9_7 i1_X7 i2_X7 rfl ?_
  refine ev_dup (q := 15) dX9_init_14 rfl rfl ?_
  refine ev_cI (bc := 28) (bs := 490) (K := kX9_init) (pc := 15) (q := 18) (c_sheetInit (d := d) (a := 6) th_u_eq th_z_eq (congrArg (fun z => some (Sum.inr (7, z))) (th_fx 1 (by decide) (fun k => rfl) (fun k => rfl))) rfl) dX9_init_15 l_X9_9 rfl (Nat.le_of_ble_eq_true rfl) (by omega) rfl rfl (fun r S1 hp => ?_)
  obtain ⟨rfl, S1, V1, rfl, k1, k2⟩ := hp
  have Q := Q.sub (hi := 8) (by decide) (by decide) (by omega) k1 k2
  refine ev_aast (q := 19) dX9_init_18 Q.2.1 ((k2 6 (by decide) (by decide)).1.trans rfl) (Or.inl ⟨rfl, rfl⟩) rfl (show 0 < 3 by decide) (by decide) rfl ?_
  show EV G l kX9_init _ 28 490 19 _ _ (8, th_u S1 5 (.inl (4, 3, th_u (fun _ => none) 0 6)), V1) _
  have Q := Q.sht (j := 0) (b := 6)
  generalize th_u S1 5 (.inl (4, 3, th_u (fun _ => none) 0 6)) = S2 at Q ⊢
  refine ev_dup (q := 20) dX9_init_19 rfl rfl ?_
  refine ev_iconst (q := 21) (v := 1) dX9_init_20 rfl rfl ?_
  refine ev_newX (q := 24) (ci := 7) (bc := 27) (bs := 486) (N := 8) (N1 := 9) rfl (K := kX9_init) (pc := 21) dX9_init_21 rfl n_X9_7 i1_X7 i2_X7 rfl ?_
  refine ev_dup (q := 25) dX9_init_24 rfl rfl ?_
  refine ev_cI (bc := 26) (bs := 466) (K := kX9_init) (pc := 25) (q := 28) (c_sheetInit (d := d) (a := 8) th_u_eq th_z_eq (congrArg (fun z => some (Sum.inr (7, z))) (th_fx 1 (by decide) (fun k => rfl) (fun k => rfl))) rfl) dX9_init_25 l_X9_9 rfl (Nat.le_of_ble_eq_true rfl) (by omega) rfl rfl (fun r S1 hp => ?_)
  obtain ⟨rfl, S3, V3, rfl, k1, k2⟩ := hp
  have Q := Q.sub (hi := 10) (by decide) (by decide) (by omega) k1 k2
  refine ev_aast (q := 29) dX9_init_28 Q.2.1 ((k2 8 (by decide) (by decide)).1.trans rfl) (Or.inl ⟨rfl, rfl⟩) rfl (show 1 < 3 by decide) (by decide) rfl ?_
  show EV G l kX9_init _ 26 466 29 _ _ (10, th_u S3 5 (.inl (4, 3, th_u (th_u (fun _ => none) 0 6) 1 8)), V3) _
  have Q := Q.sht (j := 1) (b := 8)
  generalize th_u S3 5 (.inl (4, 3, th_u (th_u (fun _ => none) 0 6) 1 8)) = S4 at Q ⊢
  refine ev_dup (q := 30) dX9_init_29 rfl rfl ?_
  refine ev_iconst (q := 31) (v := 2) dX9_init_30 rfl rfl ?_
  refine ev_newX (q := 34) (ci := 7) (bc := 25) (bs := 462) (N := 10) (N1 := 11) rfl (K := kX9_init) (pc := 31) dX9_init_31 rfl n_X9_7 i1_X7 i2_X7 rfl ?_
  refine ev_dup (q := 35) dX9_init_34 rfl rfl ?_
  refine ev_cI (bc := 24) (bs := 442) (K := kX9_init) (pc := 35) (q := 38) (c_sheetInit (d := d) (a := 10) th_u_eq th_z_eq (congrArg (fun z => some (Sum.inr (7, z))) (th_fx 1 (by decide) (fun k => rfl) (fun k => rfl))) rfl) dX9_init_35 l_X9_9 rfl (Nat.le_of_ble_eq_true rfl) (by omega) rfl rfl (fun r S1 hp => ?_)
  obtain ⟨rfl, S5, V5, rfl, k1, k2⟩ := hp
  have Q := Q.sub (hi := 12) (by decide) (by decide) (by omega) k1 k2
  refine ev_aast (q := 39) dX9_init_38 Q.2.1 ((k2 10 (by decide) (by decide)).1.trans rfl) (Or.inl ⟨rfl, rfl⟩) rfl (show 2 < 3 by decide) (by decide) rfl ?_
  show EV G l kX9_init _ 24 442 39 _ _ (12, th_u S5 5 (.inl (4, 3, th_u (th_u (th_u (fun _ => none) 0 6) 1 8) 2 10)), V5) _
  have Q := Q.sht (j := 2) (b := 10)
  generalize th_u S5 5 (.inl (4, 3, th_u (th_u (th_u (fun _ => none) 0 6) 1 8) 2 10)) = S6 at Q ⊢
  refine ev_putRX (q := 42) dX9_init_39 p_X9_10 Q.1 rfl rfl ?_
  have Q := Q.put (k := 0) (b := 5)
  refine ev_aload0 (q := 43) dX9_init_42 rfl ?_
  refine ev_iconst (q := 44) (v := 5) dX9_init_43 rfl rfl ?_
  refine ev_newaX (q := 46) (n := 5) (bc := 23) (bs := 437) (N := 12) (N1 := 13) rfl (K := kX9_init) (pc := 44) (t := 0) dX9_init_44 rfl (by decide) ac_int rfl (by decide) rfl ?_
  have Q := Q.arr (t := 0) (m := 5) (by decide) rfl (by decide) (by decide) (by decide)
  refine ev_putRX (q := 49) dX9_init_46 p_X9_16 Q.1 rfl rfl ?_
  have Q := Q.put (k := 1) (b := 12)
  refine ev_aload0 (q := 50) dX9_init_49 rfl ?_
  refine ev_iconst (q := 51) (v := 5) dX9_init_50 rfl rfl ?_
  refine ev_newaX (q := 53) (n := 5) (bc := 22) (bs := 432) (N := 13) (N1 := 14) rfl (K := kX9_init) (pc := 51) (t := 0) dX9_init_51 rfl (by decide) ac_int rfl (by decide) rfl ?_
  have Q := Q.arr (t := 0) (m := 5) (by decide) rfl (by decide) (by decide) (by decide)
  refine ev_putRX (q := 56) dX9_init_53 p_X9_20 Q.1 rfl rfl ?_
  have Q := Q.put (k := 2) (b := 13)
  refine ev_aload0 (q := 57) dX9_init_56 rfl ?_
  refine ev_iconst (q := 58) (v := 5) dX9_init_57 rfl rfl ?_
  refine ev_newaX (q := 60) (n := 5) (bc := 21) (bs := 427) (N := 14) (N1 := 15) rfl (K := kX9_init) (pc := 58) (t := 0) dX9_init_58 rfl (by decide) ac_int rfl (by decide) rfl ?_
  have Q := Q.arr (t := 0) (m := 5) (by decide) rfl (by decide) (by decide) (by decide)
  refine ev_putRX (q := 63) dX9_init_60 p_X9_23 Q.1 rfl rfl ?_
  have Q := Q.put (k := 3) (b := 14)
  generalize hS7 : (th_u _ 4 _ : Nat → Option th_K0) = S7 at Q ⊢
  generalize th_z (th_z (th_z V5 12) 13) 14 = V7 at Q ⊢
  clear hS7
  refine ev_aload0 (q := 64) dX9_init_63 rfl ?_
  refine ev_newX (q := 67) (ci := 11) (bc := 20) (bs := 424) (N := 15) (N1 := 16) rfl (K := kX9_init) (pc := 64) dX9_init_64 rfl n_X9_26 i1_Jx4a65c i2_Jx4a65c rfl ?_
  refine ev_dup (q := 68) dX9_init_67 rfl rfl ?_
  refine ev_cI (bc := 20) (bs := 424) (K := kX9_init) (pc := 68) (q := 71) (j_init (d := d) (a := 15) th_u_eq) dX9_init_68 l_X9_28 rfl (Nat.le_of_ble_eq_true rfl) (by omega) rfl rfl (fun r S1 hp => ?_)
  obtain ⟨rfl, rfl⟩ := hp
  have Q : QI 16 _ _ (th_u (th_u S7 15 (.inr (11, fun _ => none))) 15 (.inr (11, th_u (fun _ => none) 1 2))) (th_w (th_z V7 15) 15 0 0) := Q.grow (by decide) (by decide) (fun a ha => ⟨(th_u_ne (by omega)).trans (th_u_ne (by omega)), (th_w_ne (by omega)).trans (th_z_ne (by omega))⟩) (fun a a1 a2 a3 => by omega) (fun a a1 a2 => by rw [show a = 15 by omega]; exact z_w0) (fun _ _ => ⟨_, th_u_eq, th_u_eq⟩) (fun a1 a2 => by omega) (fun a1 a2 => by omega)
  refine ev_putRX (q := 74) dX9_init_71 p_X9_29 Q.1 rfl rfl ?_
  have Q := Q.put (k := 4) (b := 15)
  generalize hS8 : (th_u _ 4 _ : Nat → Option th_K0) = S8 at Q ⊢
  generalize th_w (th_z V7 15) 15 0 0 = V8 at Q ⊢
  clear hS8
  refine ev_aload0 (q := 75) dX9_init_74 rfl ?_
  refine ev_newX (q := 78) (ci := 3) (bc := 19) (bs := 418) (N := 16) (N1 := 17) rfl (K := kX9_init) (pc := 75) dX9_init_75 rfl n_X9_33 i1_X3 i2_X3 rfl ?_
  refine ev_dup (q := 79) dX9_init_78 rfl rfl ?_
  refine ev_cI (bc := 9) (bs := 288) (K := kX9_init) (pc := 79) (q := 82) (c_lookInit (d := d) th_u_eq th_z_eq) dX9_init_79 l_X9_35 rfl (Nat.le_of_ble_eq_true rfl) (by omega) rfl rfl (fun r S1 hp => ?_)
  obtain ⟨rfl, S9, V9, rfl, k1, k2⟩ := hp
  have Q := Q.sub (hi := 27) (by decide) (by decide) (by omega) k1 k2
  refine ev_putRX (q := 85) dX9_init_82 p_X9_36 Q.1 rfl rfl ?_
  have Q := Q.put (k := 5) (b := 16)
  generalize hS10 : (th_u _ 4 _ : Nat → Option th_K0) = S10 at Q ⊢
  clear hS10
  refine ev_aload0 (q := 86) dX9_init_85 rfl ?_
  refine ev_newX (q := 89) (ci := 8) (bc := 8) (bs := 286) (N := 27) (N1 := 28) rfl (K := kX9_init) (pc := 86) dX9_init_86 rfl n_X9_40 i1_X8 i2_X8 rfl ?_
  refine ev_dup (q := 90) dX9_init_89 rfl rfl ?_
  refine ev_cI (bc := 7) (bs := 226) (K := kX9_init) (pc := 90) (q := 93) (c_textInit (d := d) (a := 27) (N := 28) th_u_eq (by decide)) dX9_init_90 l_X9_42 rfl (Nat.le_of_ble_eq_true rfl) (by omega) rfl rfl (fun r S1 hp => ?_)
  obtain ⟨rfl, rfl⟩ := hp
  have Q : QI 29 _ _ (th_u (th_u (th_u S10 27 (.inr (8, fun _ => none))) 28 (.inl (2, 60, fun _ => none))) 27 (.inr (8, th_u (fun _ => none) 0 28))) (th_z (th_z V9 27) 28) := Q.grow (by decide) (by decide) (fun a ha => ⟨(th_u_ne (by omega)).trans ((th_u_ne (by omega)).trans (th_u_ne (by omega))), (th_z_ne (by omega)).trans (th_z_ne (by omega))⟩) (fun a a1 a2 _ _ _ => by
    by_cases e : a = 27
    · subst e
      exact th_u_eq.trans (congrArg (fun z => some (Sum.inr (8, z))) (th_fx 1 (by decide) (fun k => rfl) (fun k => rfl)))
    · rw [show a = 28 by omega]
      exact rfl) (fun a a1 a2 => by
    by_cases e : a = 27
    · subst e
      exact rfl
    · rw [show a = 28 by omega]
      exact rfl) (fun a1 a2 => by omega) (fun a1 a2 => by omega) (fun a1 a2 => by omega)
  refine ev_putRX (q := 96) dX9_init_93 p_X9_43 Q.1 rfl rfl ?_
  have Q := Q.put (k := 6) (b := 27)
  generalize hS11 : (th_u _ 4 _ : Nat → Option th_K0) = S11 at Q ⊢
  generalize th_z (th_z V9 27) 28 = V11 at Q ⊢
  clear hS11
  refine ev_aload0 (q := 97) dX9_init_96 rfl ?_
  refine ev_newX (q := 100) (ci := 5) (bc := 6) (bs := 222) (N := 29) (N1 := 30) rfl (K := kX9_init) (pc := 97) dX9_init_97 rfl n_X9_47 i1_X5 i2_X5 rfl ?_
  refine ev_dup (q := 101) dX9_init_100 rfl rfl ?_
  refine ev_cI (bc := 6) (bs := 222) (K := kX9_init) (pc := 101) (q := 104) (c_readerInit (d := d) _ 29) dX9_init_101 l_X9_49 rfl (Nat.le_of_ble_eq_true rfl) (by omega) rfl rfl (fun r S1 hp => ?_)
  obtain ⟨rfl, rfl⟩ := hp
  have Q : QI 30 _ _ (th_u S11 29 (.inr (5, fun _ => none))) (th_z V11 29) := Q.grow (by decide) (by decide) (fun a ha => ⟨th_u_ne (by omega), th_z_ne (by omega)⟩) (fun a a1 a2 _ a3 _ => by omega) (fun a a1 a2 => by rw [show a = 29 by omega]; exact th_z_eq) (fun a1 a2 => by omega) (fun _ _ => ⟨_, th_u_eq⟩) (fun a1 a2 => by omega)
  refine ev_putRX (q := 107) dX9_init_104 p_X9_50 Q.1 rfl rfl ?_
  have Q := Q.put (k := 7) (b := 29)
  generalize hS12 : (th_u _ 4 _ : Nat → Option th_K0) = S12 at Q ⊢
  generalize th_z V11 29 = V12 at Q ⊢
  clear hS12
  refine ev_aload0 (q := 108) dX9_init_107 rfl ?_
  refine ev_newX (q := 111) (ci := 11) (bc := 5) (bs := 219) (N := 30) (N1 := 31) rfl (K := kX9_init) (pc := 108) dX9_init_108 rfl n_X9_26 i1_Jx4a65c i2_Jx4a65c rfl ?_
  refine ev_dup (q := 112) dX9_init_111 rfl rfl ?_
  refine ev_cI (bc := 5) (bs := 219) (K := kX9_init) (pc := 112) (q := 115) (j_init (d := d) (a := 30) th_u_eq) dX9_init_112 l_X9_28 rfl (Nat.le_of_ble_eq_true rfl) (by omega) rfl rfl (fun r S1 hp => ?_)
  obtain ⟨rfl, rfl⟩ := hp
  have Q : QI 31 _ _ (th_u (th_u S12 30 (.inr (11, fun _ => none))) 30 (.inr (11, th_u (fun _ => none) 1 2))) (th_w (th_z V12 30) 30 0 0) := Q.grow (by decide) (by decide) (fun a ha => ⟨(th_u_ne (by omega)).trans (th_u_ne (by omega)), (th_w_ne (by omega)).trans (th_z_ne (by omega))⟩) (fun a a1 a2 _ _ a3 => by omega) (fun a a1 a2 => by rw [show a = 30 by omega]; exact z_w0) (fun a1 a2 => by omega) (fun a1 a2 => by omega) (fun _ _ => ⟨_, th_u_eq, th_u_eq⟩)
  refine ev_putRX (q := 118) dX9_init_115 p_X9_54 Q.1 rfl rfl ?_
  have Q := Q.put (k := 8) (b := 30)
  generalize hS13 : (th_u _ 4 _ : Nat → Option th_K0) = S13 at Q ⊢
  generalize th_w (th_z V12 30) 30 0 0 = V13 at Q ⊢
  clear hS13
  refine ev_aload0 (q := 119) dX9_init_118 rfl ?_
  refine ev_newX (q := 122) (ci := 4) (bc := 4) (bs := 215) (N := 31) (N1 := 32) rfl (K := kX9_init) (pc := 119) dX9_init_119 rfl n_X9_57 i1_X4 i2_X4 rfl ?_
  refine ev_dup (q := 123) dX9_init_122 rfl rfl ?_
  refine ev_cI (bc := 1) (bs := 5) (K := kX9_init) (pc := 123) (q := 126) (c_rawsInit (d := d) th_u_eq th_z_eq) dX9_init_123 l_X9_59 rfl (Nat.le_of_ble_eq_true rfl) (by omega) rfl rfl (fun r S1 hp => ?_)
  obtain ⟨rfl, S14, V14, rfl, k1, k2⟩ := hp
  have Q := Q.sub (hi := 35) (by decide) (by decide) (by omega) k1 k2
  refine ev_putRX (q := 129) dX9_init_126 p_X9_60 Q.1 rfl rfl ?_
  have Q := Q.put (k := 9) (b := 31)
  generalize hS15 : (th_u _ 4 _ : Nat → Option th_K0) = S15 at Q ⊢
  clear hS15
  refine ev_aload0 (q := 130) dX9_init_129 rfl ?_
  refine ev_iconst (q := 131) (v := 5) dX9_init_130 rfl rfl ?_
  refine ev_newaX (q := 133) (n := 5) (bc := 0) (bs := 0) (N := 35) (N1 := 36) rfl (K := kX9_init) (pc := 131) (t := 0) dX9_init_131 rfl (by decide) ac_int rfl (by decide) rfl ?_
  have Q := Q.arr (t := 0) (m := 5) (by decide) rfl (by decide) (by decide) (by decide)
  refine ev_putRX (q := 136) dX9_init_133 p_X9_64 Q.1 rfl rfl ?_
  have Q := Q.put (k := 10) (b := 35)
  generalize hS16 : (th_u _ 4 _ : Nat → Option th_K0) = S16 at Q ⊢
  clear hS16
  obtain ⟨q1, q2, q3, ⟨q4, q5, q6⟩, q7⟩ := Q
  refine ev_return dX9_init_136 rfl ⟨rfl, S16, _, rfl, fun a x hx => ?_, q4 (by decide), q5 (by decide), q6 (by decide), q7⟩
  have h64 := shC_lt hx
  have h36 : 4 ≤ a ∧ a < 36 ∧ a ≠ 15 ∧ a ≠ 29 ∧ a ≠ 30 := by
    refine ⟨?_, ?_, ?_, ?_, ?_⟩
    · rcases Nat.lt_or_ge a 4 with z | z
      · have hb : Nat.blt a 4 = true := Nat.blt_eq.mpr z
        simp [shC, hb] at hx
      · exact z
    · rcases Nat.lt_or_ge a 36 with z | z
      · exact z
      · exfalso
        have hb : Nat.blt a 4 = false := by
          cases hb : Nat.blt a 4
          · rfl
          · have := Nat.blt_eq.mp hb; omega
        simp only [shC, hb, cond_false] at hx
        rw [show a - 4 = (a - 36) + 32 by omega] at hx
        cases (th_nth_big (d0 := (none : Option th_K0)) _ (a - 36)).symm.trans hx
    · intro z; subst z; cases hx
    · intro z; subst z; cases hx
    · intro z; subst z; cases hx
  by_cases e4 : a = 4
  · subst e4
    rw [q1, ← hx]
    exact congrArg (fun z => some (Sum.inr (9, z))) (th_fx 11 (by decide) (fun k => rfl) (fun k => rfl))
  · by_cases e5 : a = 5
    · subst e5
      rw [q2, ← hx]
      exact congrArg (fun z => some (Sum.inl (4, 3, z))) (th_fx 3 (by decide) (fun k => rfl) (fun k => rfl))
    · rw [q3 a (by omega) (by omega) (by omega) (by omega) (by omega)]
      exact hx
end C22
