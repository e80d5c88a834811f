/-! the class: a road comes -/
theorem RS.two {N : Nat} {SH : Nat → Option th_K0} {V : th_Vl} {a n e : Nat} {el : Nat → Nat} (h : LST N SH V a n el e) : e = 2 ∨ (64 ≤ e ∧ e < N ∧ ∃ cap g, SH e = some (.inl (5, cap, g))) := by
  obtain ⟨f, -, -, -, h | ⟨cap, g, h1, h2, h3, -⟩⟩ := h
  · exact Or.inl h.1
  · exact Or.inr ⟨h2, h3, cap, g, h1⟩
/-- what stands before N stays as it is, but for one list -/
theorem RS.old {N N' : Nat} {SH SH' : Nat → Option th_K0} {V : th_Vl} {R L : Nat} {rd ld : Nat → Nat} {eR eL : Nat} (hS : RS N SH V R L rd ld eR eL) (hNN : N ≤ N') {c e : Nat} (hc : c = 15 ∨ c = 30) (he : e = 2 ∨ (64 ≤ e ∧ e < N ∧ ∃ cap g, SH e = some (.inl (5, cap, g)))) (hSH : ∀ b, b < N → b ≠ c → b ≠ e → SH' b = SH b) : wC SH' ∧ (∃ f, SH' 29 = some (.inr (5, f))) ∧ (∀ j, j < R → rdS N' SH' (rd j)) ∧ (∀ j, j < L → lnS N' SH' (ld j)) := by
  obtain ⟨h1, h2, h3, h4, h5, h6, h7, h8, g1, g2, g3, g4⟩ := hS
  have ne : ∀ b (x : th_K0), SH b = some x → 64 ≤ b → (∀ cap g, x ≠ .inl (5, cap, g)) → b < N → SH' b = some x := fun b x hb h64 hx hN => by
    rw [hSH b hN (by omega) (fun z => by
      rcases he with he | ⟨-, -, cap, g, he⟩
      · omega
      · rw [← z, hb] at he
        exact hx cap g (Option.some.inj he))]
    exact hb
  refine ⟨fun a x ha => ?_, ?_, fun j hj => ?_, fun j hj => ?_⟩
  · have hk : (a < 36 ∧ 4 ≤ a) ∧ a ≠ 15 ∧ a ≠ 30 := by
      refine ⟨⟨?_, ?_⟩, ?_, ?_⟩
      · rcases Nat.lt_or_ge a 36 with z | z
        · exact z
        · exfalso
          have hb : Nat.blt a 4 = false := by
            cases hb : Nat.blt a 4
            · rfl
            · have := Nat.blt_eq.mp hb; omega
          simp only [shC, hb, cond_false] at ha
          rw [show a - 4 = (a - 36) + 32 by omega] at ha
          cases (th_nth_big (d0 := (none : Option th_K0)) _ (a - 36)).symm.trans ha
      · rcases Nat.lt_or_ge a 4 with z | z
        · have hb : Nat.blt a 4 = true := Nat.blt_eq.mpr z
          simp [shC, hb] at ha
        · exact z
      · intro z
        subst z
        cases ha
      · intro z
        subst z
        cases ha
    rw [hSH a (by omega) (by omega) (by omega)]
    exact h1 a x ha
  · obtain ⟨f, hf⟩ := h2
    exact ⟨f, by rw [hSH 29 (by omega) (by omega) (by omega)]; exact hf⟩
  · obtain ⟨q1, q2, ⟨f, q3, q4⟩, q5, q6⟩ := g1 j hj
    exact ⟨q1, by omega, ⟨f, ne _ _ q3 (by omega) (by simp) (by omega), q4⟩, ne _ _ q5 (by omega) (by simp) (by omega), ne _ _ q6 (by omega) (by simp) (by omega)⟩
  · obtain ⟨q1, q2, ⟨f, q3, q4⟩, ⟨f2, q5, q6⟩, q7⟩ := g3 j hj
    exact ⟨q1, by omega, ⟨f, ne _ _ q3 (by omega) (by simp) (by omega), q4⟩, ⟨f2, ne _ _ q5 (by omega) (by simp) (by omega), q6⟩, ne _ _ q7 (by omega) (by simp) (by omega)⟩
theorem LST.old {N N' : Nat} {SH SH' : Nat → Option th_K0} {V V' : th_Vl} {a n e : Nat} {el : Nat → Nat} (h : LST N SH V a n el e) (hNN : N ≤ N') (h1 : SH' a = SH a) (h2 : 64 ≤ e → e < N → SH' e = SH e) (h3 : V' a = V a) : LST N' SH' V' a n el e := by
  obtain ⟨f, q1, q2, q3, q4⟩ := h
  refine ⟨f, h1.trans q1, q2, by rw [h3]; exact q3, ?_⟩
  rcases q4 with q4 | ⟨cap, g, p1, p2, p3, p4, p5, p6⟩
  · exact Or.inl q4
  · exact Or.inr ⟨cap, g, (h2 p2 p3).trans p1, p2, by omega, p4, p5, p6⟩
/-- a road more -/
theorem CR.road {N N' : Nat} {SH SH' : Nat → Option th_K0} {V V' s s' : th_Vl} {R L : Nat} {rd ld : Nat → Nat} {eR eL eR' o : Nat} (hS : RS N SH V R L rd ld eR eL) (hN : RN V s R L rd ld) (hR : R < 12) (hNN : N ≤ N') (hLst : LST N' SH' V' 15 (R + 1) (fun k => if k = R then o else rd k) eR') (he1 : 64 ≤ eR') (he2 : eR' = eR ∨ N ≤ eR') (hSH : ∀ b, b < N → b ≠ 15 → b ≠ eR → SH' b = SH b) (hV : ∀ b, b < N → b ≠ 15 → V' b = V b) (ho : rdS N' SH' o) (hoN : N ≤ o) (hs : ∀ a, a ≠ 36 → a ≠ 43 → a ≠ 44 → s' a = s a) (hsM : ∀ k, k ≠ 6 → s' 36 k = s 36 k) (hsR : s' 36 6 = nI (R + 1)) (hL : L = ix (s 36 11)) (hsp : ∀ k, k < 5 * R → s' 43 k = s 43 k) (hnd : ∀ k, k < R → s' 44 k = s 44 k) (hrd : rdR V' s' o R) : CR N' SH' V' s' := by
  have hi : ix (s' 36 6) = R + 1 := by rw [hsR]; exact nI_clamp (by omega)
  have hl : ix (s' 36 11) = L := by rw [hsM _ (by decide), hL]
  have hold := RS.old hS hNN (Or.inl rfl) (RS.two hS.2.2.2.2.2.1) hSH
  obtain ⟨h1, h2, h3, h4, h5, h6, h7, h8, g1, g2, g3, g4⟩ := hS
  have e2 := RS.two h7
  have hne : ∀ e, 64 ≤ e → e = eL → eR' = e → False := fun e h64 q1 q2 => by
    rcases he2 with z | z
    · have := h8 (by omega); omega
    · rcases e2 with z2 | z2 <;> omega
  have hLl : LST N' SH' V' 30 L ld eL := LST.old h7 hNN (hSH _ (by omega) (by decide) (fun z => by
      rcases RS.two h6 with q | q <;> omega)) (fun z1 z2 => hSH _ z2 (by omega) (fun z => by have := h8 z.symm; omega)) (hV _ (by omega) (by decide))
  have hV' : ∀ b, b < 64 → b ≠ 15 → V' b = V b := fun b z1 z2 => hV b (by omega) z2
  refine ⟨fun k => if k = R then o else rd k, ld, eR', eL, ?_, ?_⟩
  · rw [hi, hl]
    refine ⟨hold.1, hold.2.1, by omega, by omega, h5, hLst, hLl, fun z => (hne eR' he1 z rfl).elim, fun j hj => ?_, fun i j hij hj => ?_, hold.2.2.2, g4⟩
    · show rdS N' SH' (if j = R then o else rd j)
      by_cases e : j = R
      · rw [if_pos e]; exact ho
      · rw [if_neg e]; exact hold.2.2.1 j (by omega)
    · show (if i = R then o else rd i) + 3 ≤ if j = R then o else rd j
      rw [if_neg (show ¬ i = R by omega)]
      by_cases e : j = R
      · rw [if_pos e]
        have := (g1 i (by omega)).2.1
        omega
      · rw [if_neg e]; exact g2 i j hij (by omega)
  · rw [hi, hl]
    obtain ⟨k1, k2, k3, k4, k5, k6, k7⟩ := hN
    refine ⟨fun q hq => (k1 q hq).c (hV' _ (by omega) (by omega)) (hV' _ (by omega) (by omega)) (hs _ (by omega) (by omega) (by omega)) (hs _ (by omega) (by omega) (by omega)) (hs _ (by omega) (by omega) (by omega)), k2.c (hV' _ (by omega) (by omega)) (hV' _ (by omega) (by omega)) (hV' _ (by omega) (by omega)) (hs _ (by omega) (by omega) (by omega)) (hs _ (by omega) (by omega) (by omega)) (hs _ (by omega) (by omega) (by omega)), ?_, k4.c (hV' _ (by omega) (by omega)) (hV' _ (by omega) (by omega)) (hV' _ (by omega) (by omega)) (hs _ (by omega) (by omega) (by omega)) (hs _ (by omega) (by omega) (by omega)) (hs _ (by omega) (by omega) (by omega)), k5.c (hV' _ (by omega) (by omega)) (hV' _ (by omega) (by omega)) (hsM _ (by decide)) (hs _ (by omega) (by omega) (by omega)), fun i hi => ?_, fun i hi => ?_⟩
    · unfold eqF at k3 ⊢
      rw [hV' 4 (by omega) (by omega), hV' 31 (by omega) (by omega), hsM _ (by decide), hsM _ (by decide), hsM _ (by decide), hsM _ (by decide), hsM _ (by decide), hsM _ (by decide)]
      exact k3
    · show rdR V' s' (if i = R then o else rd i) i
      by_cases e : i = R
      · rw [if_pos e, e]; exact hrd
      · rw [if_neg e]
        have q := k6 i (by omega)
        have z := g1 i (by omega)
        have z1 := z.1
        have z2 := z.2.1
        unfold rdR at q ⊢
        rw [hV (rd i) (by omega) (by omega), hV (rd i + 1) (by omega) (by omega), hV (rd i + 2) (by omega) (by omega), hnd i (by omega)]
        refine ⟨q.1, fun k hk => ?_⟩
        rw [hsp (5 * i + k) (by omega)]
        exact q.2 k hk
    · have z := g3 i hi
      have z1 := z.1
      have z2 := z.2.1
      exact (k7 i hi).c (hV _ (by omega) (by omega)) (hV _ (by omega) (by omega)) (hV _ (by omega) (by omega)) (hs _ (by omega) (by omega) (by omega)) (hs _ (by omega) (by omega) (by omega)) (hs _ (by omega) (by omega) (by omega)) (hs _ (by omega) (by omega) (by omega)) (hs _ (by omega) (by omega) (by omega)) (hs _ (by omega) (by omega) (by omega)) (hs _ (by omega) (by omega) (by omega)) (hs _ (by omega) (by omega) (by omega))
/-- what the constructor of a road leaves -/
def PRi (N : Nat) (SH : Nat → Option th_K0) (V : th_Vl) (a : Nat) (need : Int32) : Option Value → th_S → Prop := fun r S' => r = none ∧ ∃ SH' V', S' = (N + 2, SH', V') ∧ (∃ f : Nat → Option Nat, SH' a = some (.inr (6, f)) ∧ f 0 = some N ∧ f 1 = some (N + 1)) ∧ SH' N = some (.inl (0, 5, th_no)) ∧ SH' (N + 1) = some (.inl (0, 5, th_no)) ∧ (∀ b, b < N → b ≠ a → SH' b = SH b ∧ V' b = V b) ∧ V' a 2 = need
/-- the spans of a road, one by one -/
def sps (V : th_Vl) (a : Nat) (g : Nat → Int32) : Nat → th_Vl
  | 0 => V
  | k + 1 => th_w (th_w (sps V a g k) (a + 1) k (g k / 100)) (a + 2) k (g k - g k / 100 * 100)
theorem sps_ne {V : th_Vl} {a b : Nat} {g : Nat → Int32} (h1 : b ≠ a + 1) (h2 : b ≠ a + 2) : ∀ k, sps V a g k b = V b
  | 0 => rfl
  | k + 1 => by rw [sps, th_w_ne h2, th_w_ne h1, sps_ne h1 h2 k]
theorem sps_at {V : th_Vl} {a j : Nat} {g : Nat → Int32} : ∀ k, j < k → sps V a g k (a + 1) j = g j / 100 ∧ sps V a g k (a + 2) j = g j - g j / 100 * 100
  | 0, h => absurd h (Nat.not_lt_zero _)
  | k + 1, h => by
    rw [sps]
    rw [th_w_ne (b := a + 1) (a := a + 2) (by omega)]
    by_cases e : j = k
    · subst e
      rw [th_w_if, if_pos ⟨rfl, rfl⟩, th_w_if, if_pos ⟨rfl, rfl⟩]
      exact ⟨rfl, rfl⟩
    · rw [th_w_j e, th_w_j e, th_w_ne (b := a + 2) (a := a + 1) (by omega)]
      exact sps_at k (by omega)
section C10
variable {G : th_G} {l : Launch} {d : Nat} {N : Nat} {SH : Nat → Option th_K0} {V s : th_Vl}
theorem c_roadInit {a : Nat} {f : Nat → Option Nat} (ha : SH a = some (.inr (6, f))) (haN : a < N) (need : Int32) : MT G l yX6_init kX6_init (d + 1) 2 10 [.ref a, .int need] (N, SH, V) (PRi N SH V a need) := by
  refine MT.of (by decide) rfl rfl (n := 0) rfl (ls := [some (.ref a), some (.int need)]) rfl ?_
  refine ev_aload0 (q := 1) dX6_init_0 rfl ?_
  refine ev_oI (q := 4) dX6_init_1 l_X6_3 l_oi1 l_oi2 (Nat.le_of_ble_eq_true rfl) (by omega) rfl ?_
  refine ev_aload0 (q := 5) dX6_init_4 rfl ?_
  refine ev_iconst (q := 6) (v := 5) dX6_init_5 rfl rfl ?_
  refine ev_newaX (q := 8) (n := 5) (bc := 1) (bs := 5) (N := N) (N1 := N + 1) rfl (K := kX6_init) (pc := 6) (t := 0) dX6_init_6 rfl (by decide) ac_int rfl (by decide) rfl ?_
  have h1 : (th_u SH N (.inl (0, 5, fun _ => none))) a = some (.inr (6, f)) := (th_u_ne (by omega)).trans ha
  refine ev_putRX (q := 11) dX6_init_8 p_X6_9 h1 rfl rfl ?_
  refine ev_aload0 (q := 12) dX6_init_11 rfl ?_
  refine ev_iconst (q := 13) (v := 5) dX6_init_12 rfl rfl ?_
  refine ev_newaX (q := 15) (n := 5) (bc := 0) (bs := 0) (N := N + 1) (N1 := N + 2) rfl (K := kX6_init) (pc := 13) (t := 0) dX6_init_13 rfl (by decide) ac_int rfl (by decide) rfl ?_
  have h2 : (th_u (th_u (th_u SH N (.inl (0, 5, fun _ => none))) a (.inr (6, th_u f 0 N))) (N + 1) (.inl (0, 5, fun _ => none))) a = some (.inr (6, th_u f 0 N)) := (th_u_ne (by omega)).trans th_u_eq
  refine ev_putRX (q := 18) dX6_init_15 p_X6_15 h2 rfl rfl ?_
  refine ev_aload0 (q := 19) dX6_init_18 rfl ?_
  refine ev_iload1 (q := 20) dX6_init_19 rfl ?_
  refine ev_putIX (q := 23) dX6_init_20 p_X6_18 (th_u_eq) rfl rfl rfl rfl ?_
  refine ev_return dX6_init_23 rfl ⟨rfl, _, _, rfl, ⟨_, th_u_eq, (th_u_ne (by decide)).trans th_u_eq, th_u_eq⟩, ?_, ?_, fun b h1 h2 => ⟨?_, ?_⟩, ?_⟩
  · rw [th_u_ne (by omega), th_u_ne (by omega), th_u_ne (by omega), th_u_eq]; rfl
  · rw [th_u_ne (by omega), th_u_eq]; rfl
  · rw [th_u_ne h2, th_u_ne (by omega), th_u_ne h2, th_u_ne (by omega)]
  · rw [th_w_ne h2, th_z_ne (by omega), th_z_ne (by omega)]
  · rw [th_w_if, if_pos ⟨rfl, rfl⟩]
theorem c_road (hC : CR N SH V s) (hb : bRo s) (z o t h f need : Int32) : MT G l yX9_road kX9_road (d + 7) 4 28 [.ref 4, .int z, .int o, .int t, .int h, .int f, .int need] (N, SH, V) (CP N SH V (a_road s z o t h f need) (n_road s z o t h f need)) := by
  refine MT.of (by decide) rfl rfl (n := 2) rfl (ls := [some (.ref 4), some (.int z), some (.int o), some (.int t), some (.int h), some (.int f), some (.int need), none, none]) rfl ?_
  obtain ⟨rd, ld, eR, eL, hS, hN⟩ := hC
  have hW : wC SH := hS.1
  have e1 : (1 : Int32).toInt = 1 := by decide
  have e5 : (5 : Int32).toInt = 5 := by decide
  have bad : ¬ ((∀ k, k < 5 → isSp (tl z o t h f k)) ∧ inR need 1 5) → a_road s z o t h f need = -1 ∧ n_road s z o t h f need = s := fun q => ⟨if_pos q, if_pos q⟩
  have b0 : ¬ isSp z → _ := fun q => bad (fun w => q (w.1 0 (by decide)))
  have b1 : ¬ isSp o → _ := fun q => bad (fun w => q (w.1 1 (by decide)))
  have b2 : ¬ isSp t → _ := fun q => bad (fun w => q (w.1 2 (by decide)))
  have b3 : ¬ isSp h → _ := fun q => bad (fun w => q (w.1 3 (by decide)))
  have b4 : ¬ isSp f → _ := fun q => bad (fun w => q (w.1 4 (by decide)))
  have b5 : ¬ inR need 1 5 → _ := fun q => bad (fun w => q w.2)
  refine ev_iload1 (q := 1) dX9_road_0 rfl ?_
  refine ev_cS (K := kX9_road) (pc := 1) (q := 4) (c_isSpan _) dX9_road_1 l_X9_106 rfl (Nat.le_of_ble_eq_true rfl) (Nat.le_refl _) rfl rfl (fun r S1 hp => ?_)
  rcases hp with ⟨rfl, ⟨hp1, rfl⟩ | ⟨hp1, rfl⟩⟩
  · refine ev_if_eq (q := 7) (t := 41) dX9_road_4 rfl (by decide) (fun c4 => ?_) (fun c4 => ?_)
    · exact absurd c4 (by decide)
    · refine ev_iload2 (q := 8) dX9_road_7 rfl ?_
      refine ev_cS (K := kX9_road) (pc := 8) (q := 11) (c_isSpan _) dX9_road_8 l_X9_106 rfl (Nat.le_of_ble_eq_true rfl) (Nat.le_refl _) rfl rfl (fun r S1 hp => ?_)
      rcases hp with ⟨rfl, ⟨hp8, rfl⟩ | ⟨hp8, rfl⟩⟩
      · refine ev_if_eq (q := 14) (t := 41) dX9_road_11 rfl (by decide) (fun c11 => ?_) (fun c11 => ?_)
        · exact absurd c11 (by decide)
        · refine ev_iload3 (q := 15) dX9_road_14 rfl ?_
          refine ev_cS (K := kX9_road) (pc := 15) (q := 18) (c_isSpan _) dX9_road_15 l_X9_106 rfl (Nat.le_of_ble_eq_true rfl) (Nat.le_refl _) rfl rfl (fun r S1 hp => ?_)
          rcases hp with ⟨rfl, ⟨hp15, rfl⟩ | ⟨hp15, rfl⟩⟩
          · refine ev_if_eq (q := 21) (t := 41) dX9_road_18 rfl (by decide) (fun c18 => ?_) (fun c18 => ?_)
            · exact absurd c18 (by decide)
            · refine ev_iload4 (q := 23) dX9_road_21 rfl ?_
              refine ev_cS (K := kX9_road) (pc := 23) (q := 26) (c_isSpan _) dX9_road_23 l_X9_106 rfl (Nat.le_of_ble_eq_true rfl) (Nat.le_refl _) rfl rfl (fun r S1 hp => ?_)
              rcases hp with ⟨rfl, ⟨hp23, rfl⟩ | ⟨hp23, rfl⟩⟩
              · refine ev_if_eq (q := 29) (t := 41) dX9_road_26 rfl (by decide) (fun c26 => ?_) (fun c26 => ?_)
                · exact absurd c26 (by decide)
                · refine ev_iload5 (q := 31) dX9_road_29 rfl ?_
                  refine ev_cS (K := kX9_road) (pc := 31) (q := 34) (c_isSpan _) dX9_road_31 l_X9_106 rfl (Nat.le_of_ble_eq_true rfl) (Nat.le_refl _) rfl rfl (fun r S1 hp => ?_)
                  rcases hp with ⟨rfl, ⟨hp31, rfl⟩ | ⟨hp31, rfl⟩⟩
                  · refine ev_if_eq (q := 37) (t := 41) dX9_road_34 rfl (by decide) (fun c34 => ?_) (fun c34 => ?_)
                    · exact absurd c34 (by decide)
                    · refine ev_iconst (q := 38) (v := 1) dX9_road_37 rfl rfl ?_
                      refine ev_goto (q := 42) dX9_road_38 (by decide) ?_
                      refine ev_istore7 (q := 44) dX9_road_42 rfl (by decide) rfl ?_
                      refine ev_iload7 (q := 46) dX9_road_44 rfl ?_
                      refine ev_if_eq (q := 49) (t := 61) dX9_road_46 rfl (by decide) (fun c46 => ?_) (fun c46 => ?_)
                      · exact absurd c46 (by decide)
                      · refine ev_iload6 (q := 51) dX9_road_49 rfl ?_
                        refine ev_iconst (q := 52) (v := 1) dX9_road_51 rfl rfl ?_
                        refine ev_icmp_lt (q := 55) (t := 61) dX9_road_52 rfl (by decide) (fun c52 => ?_) (fun c52 => ?_)
                        · refine ev_iconst (q := 62) (v := (-1)) dX9_road_61 rfl rfl ?_
                          exact ev_ireturn dX9_road_62 rfl rfl (CP.no hS hN (b5 (fun w => by have := i_lt.mp c52; have := w.1; omega)).2 (b5 (fun w => by have := i_lt.mp c52; have := w.1; omega)).1)
                        · refine ev_iload6 (q := 57) dX9_road_55 rfl ?_
                          refine ev_iconst (q := 58) (v := 5) dX9_road_57 rfl rfl ?_
                          refine ev_icmp_le (q := 61) (t := 63) dX9_road_58 rfl (by decide) (fun c58 => ?_) (fun c58 => ?_)
                          · have hsp : ∀ k, k < 5 → isSp (tl z o t h f k) := by
                              intro k hk
                              have : k = 0 ∨ k = 1 ∨ k = 2 ∨ k = 3 ∨ k = 4 := by omega
                              rcases this with rfl | rfl | rfl | rfl | rfl
                              · exact hp1
                              · exact hp8
                              · exact hp15
                              · exact hp23
                              · exact hp31
                            have hnd : inR need 1 5 := by have := i_nlt c52; have := i_le.mp c58; constructor <;> omega
                            have good : ¬ ¬ ((∀ k, k < 5 → isSp (tl z o t h f k)) ∧ inR need 1 5) := not_not_intro ⟨hsp, hnd⟩
                            have hLs := hS.2.2.2.2.2.1
                            obtain ⟨fR, hfR⟩ := hLs.sh
                            have hR12 : ix (s 36 6) ≤ 12 := hS.2.2.2.1
                            have hRs := th_self hb.1
                            have h64 : 64 ≤ N := hS.2.2.1
                            refine ev_aload0 (q := 64) dX9_road_63 rfl ?_
                            refine ev_getR (q := 67) dX9_road_64 g_X9_29 (hW _ _ rfl) rfl rfl rfl ?_
                            refine ev_cF (K := kX9_road) (pc := 67) (q := 72) (hLs.size (d := d + 6)) dX9_road_67 l_X9_109 hfR rfl (Nat.le_of_ble_eq_true rfl) (Nat.le_refl _) rfl rfl (fun r S1 hp => ?_)
                            obtain ⟨rfl, rfl⟩ := hp
                            refine ev_bipush (q := 74) (v := 12) dX9_road_72 rfl rfl ?_
                            refine ev_icmp_lt (q := 77) (t := 80) dX9_road_74 rfl (by decide) (fun c74 => ?_) (fun c74 => ?_)
                            · have hR : ix (s 36 6) < 12 := (nI_ltI (by omega) (by decide)).mp (show nI (ix (s 36 6)) < nI 12 from c74)
                              have hne12 : ¬ s 36 6 = 12 := fun q => by rw [q] at hR; exact absurd hR (by decide)
                              have ea : a_road s z o t h f need = s 36 6 := (if_neg good).trans (if_neg hne12)
                              have en : n_road s z o t h f need = th_w (th_w (th_seg s 43 (5 * ix (s 36 6)) 5 (tl z o t h f)) 44 (ix (s 36 6)) need) 36 6 (s 36 6 + 1) := (if_neg good).trans (if_neg hne12)
                              refine ev_newX (q := 83) (ci := 6) (bc := 3) (bs := 25) (N := N) (N1 := N + 1) rfl (K := kX9_road) (pc := 80) dX9_road_80 rfl n_X9_115 i1_X6 i2_X6 rfl ?_
                              refine ev_dup (q := 84) dX9_road_83 rfl rfl ?_
                              refine ev_iload6 (q := 86) dX9_road_84 rfl ?_
                              refine ev_cI (bc := 1) (bs := 15) (K := kX9_road) (pc := 86) (q := 89) (c_roadInit (d := d + 5) (a := N) th_u_eq (Nat.lt_succ_self _) need) dX9_road_86 l_X9_117 rfl (Nat.le_of_ble_eq_true rfl) (by omega) rfl rfl (fun r S1 hp => ?_)
                              obtain ⟨rfl, SH1, V1, rfl, ⟨f1, q1, q2, q3⟩, q4, q5, q6, q7⟩ := hp
                              have qo : ∀ b, b < N → SH1 b = SH b ∧ V1 b = V b := fun b hb => by
                                have := q6 b (by omega) (by omega)
                                rw [th_u_ne (by omega), th_z_ne (by omega)] at this
                                exact this
                              have hA : rdS (N + 1 + 2) SH1 N := ⟨h64, by omega, ⟨f1, q1, q2, q3⟩, q4, q5⟩
                              refine ev_astore8 (q := 91) dX9_road_89 rfl (by decide) rfl ?_
                              refine ev_aload8 (q := 93) dX9_road_91 rfl ?_
                              refine ev_iconst (q := 94) (v := 0) dX9_road_93 rfl rfl ?_
                              refine ev_iload1 (q := 95) dX9_road_94 rfl ?_
                              refine ev_cV (K := kX9_road) (pc := 95) (q := 98) (c_setSpan (d := d) (j := 0) hA (by decide) rfl hp1) dX9_road_95 l_X9_120 q1 rfl rfl (Nat.le_of_ble_eq_true rfl) (by omega) rfl rfl (fun r S1 hp => ?_)
                              obtain ⟨rfl, rfl⟩ := hp
                              refine ev_aload8 (q := 100) dX9_road_98 rfl ?_
                              refine ev_iconst (q := 101) (v := 1) dX9_road_100 rfl rfl ?_
                              refine ev_iload2 (q := 102) dX9_road_101 rfl ?_
                              refine ev_cV (K := kX9_road) (pc := 102) (q := 105) (c_setSpan (d := d) (j := 1) hA (by decide) rfl hp8) dX9_road_102 l_X9_120 q1 rfl rfl (Nat.le_of_ble_eq_true rfl) (by omega) rfl rfl (fun r S1 hp => ?_)
                              obtain ⟨rfl, rfl⟩ := hp
                              refine ev_aload8 (q := 107) dX9_road_105 rfl ?_
                              refine ev_iconst (q := 108) (v := 2) dX9_road_107 rfl rfl ?_
                              refine ev_iload3 (q := 109) dX9_road_108 rfl ?_
                              refine ev_cV (K := kX9_road) (pc := 109) (q := 112) (c_setSpan (d := d) (j := 2) hA (by decide) rfl hp15) dX9_road_109 l_X9_120 q1 rfl rfl (Nat.le_of_ble_eq_true rfl) (by omega) rfl rfl (fun r S1 hp => ?_)
                              obtain ⟨rfl, rfl⟩ := hp
                              refine ev_aload8 (q := 114) dX9_road_112 rfl ?_
                              refine ev_iconst (q := 115) (v := 3) dX9_road_114 rfl rfl ?_
                              refine ev_iload4 (q := 117) dX9_road_115 rfl ?_
                              refine ev_cV (K := kX9_road) (pc := 117) (q := 120) (c_setSpan (d := d) (j := 3) hA (by decide) rfl hp23) dX9_road_117 l_X9_120 q1 rfl rfl (Nat.le_of_ble_eq_true rfl) (by omega) rfl rfl (fun r S1 hp => ?_)
                              obtain ⟨rfl, rfl⟩ := hp
                              refine ev_aload8 (q := 122) dX9_road_120 rfl ?_
                              refine ev_iconst (q := 123) (v := 4) dX9_road_122 rfl rfl ?_
                              refine ev_iload5 (q := 125) dX9_road_123 rfl ?_
                              refine ev_cV (K := kX9_road) (pc := 125) (q := 128) (c_setSpan (d := d) (j := 4) hA (by decide) rfl hp31) dX9_road_125 l_X9_120 q1 rfl rfl (Nat.le_of_ble_eq_true rfl) (by omega) rfl rfl (fun r S1 hp => ?_)
                              obtain ⟨rfl, rfl⟩ := hp
                              show EV G l kX9_road _ 1 15 128 [some (.ref 4), some (.int z), some (.int o), some (.int t), some (.int h), some (.int f), some (.int need), some (.int 1), some (.ref N)] [] (N + 1 + 2, SH1, sps V1 N (tl z o t h f) 5) _
                              have u1 : ∀ b, b < N → sps V1 N (tl z o t h f) 5 b = V b := fun b hb => (sps_ne (by omega) (by omega) 5).trans (qo b hb).2
                              have u2 : sps V1 N (tl z o t h f) 5 N 2 = need := (congrFun (sps_ne (by omega) (by omega) 5) 2).trans q7
                              have u3 := fun j (hj : j < 5) => sps_at (V := V1) (a := N) (g := tl z o t h f) 5 hj
                              generalize sps V1 N (tl z o t h f) 5 = V2 at u1 u2 u3 ⊢
                              have hLs2 : LST (N + 1 + 2) SH1 V2 15 (ix (s 36 6)) rd eR := LST.old hLs (by omega) (qo _ (by omega)).1 (fun z1 z2 => (qo _ z2).1) (u1 _ (by omega))
                              obtain ⟨fX, hfX⟩ : ∃ fX, SH1 15 = some (.inr (11, fX)) := ⟨fR, (qo _ (by omega)).1.trans hfR⟩
                              have hX1 : SH1 4 = some (.inr (9, rf_X)) := (qo _ (by omega)).1.trans (hW _ _ rfl)
                              refine ev_aload0 (q := 129) dX9_road_128 rfl ?_
                              refine ev_getR (q := 132) dX9_road_129 g_X9_29 hX1 rfl rfl rfl ?_
                              refine ev_aload8 (q := 134) dX9_road_132 rfl ?_
                              refine ev_cF (bc := 0) (bs := 0) (K := kX9_road) (pc := 134) (q := 139) (j_add (d := d) (ci := 6) hLs2 (by omega) (by omega) (by omega) rfl c_Road (fun k hk => ?_) q1 (by omega) (by decide) (by decide)) dX9_road_134 l_X9_123 hfX rfl (Nat.le_of_ble_eq_true rfl) (by omega) rfl rfl (fun r S1 hp => ?_)
                              · obtain ⟨z1, z2, ⟨fk, z3, -⟩, -, -⟩ := hS.2.2.2.2.2.2.2.2.1 k hk
                                exact ⟨fk, (qo _ (by omega)).1.trans z3, by omega⟩
                              obtain ⟨rfl, N', SH', V', eR', rfl, p1, p2, p3, p4, p5, p6, p7⟩ := hp
                              have hX2 : SH' 4 = some (.inr (9, rf_X)) := (p6 _ (by omega) (by decide) (fun w => by rcases RS.two hLs with r | r <;> omega)).trans hX1
                              obtain ⟨fY, hfY⟩ := p1.sh
                              refine ev_pop (q := 140) dX9_road_139 rfl rfl ?_
                              refine ev_aload0 (q := 141) dX9_road_140 rfl ?_
                              refine ev_getR (q := 144) dX9_road_141 g_X9_29 hX2 rfl rfl rfl ?_
                              refine ev_cF (K := kX9_road) (pc := 144) (q := 149) (p1.size (d := d + 6)) dX9_road_144 l_X9_109 hfY rfl (Nat.le_of_ble_eq_true rfl) (Nat.le_refl _) rfl rfl (fun r S1 hp => ?_)
                              obtain ⟨rfl, rfl⟩ := hp
                              refine ev_iconst (q := 150) (v := 1) dX9_road_149 rfl rfl ?_
                              refine ev_isub (q := 151) dX9_road_150 rfl ?_
                              have eN : ∀ b, b < N + 3 → N ≤ b → b ≠ 15 ∧ b ≠ eR := fun b z1 z2 => ⟨by omega, fun w => by rcases RS.two hLs with r | r <;> omega⟩
                              have er : nI (ix (s 36 6) + 1) - 1 = nI (ix (s 36 6)) := nI_pred _
                              have fin : CR N' SH' V' (n_road s z o t h f need) := by
                                rw [en]
                                refine CR.road hS hN hR (by omega) p1 p4 (by omega) (fun b z1 z2 z3 => (p6 b (by omega) z2 z3).trans (qo b z1).1) (fun b z1 z2 => (p7 b (by omega) z2).trans (u1 b z1)) ?_ (Nat.le_refl N) (fun a z1 z2 z3 => by rw [th_w_ne z1, th_w_ne z3, th_seg_ne z2]) (fun k hk => by rw [th_w_j hk, th_w_ne (by decide), th_seg_ne (by decide)]) ?_ rfl (fun k hk => by rw [th_w_ne (by decide), th_w_ne (by decide), th_seg_out (Or.inl hk)]) (fun k hk => by rw [th_w_ne (by decide), th_w_j (by omega), th_seg_ne (by decide)]) ⟨?_, fun k hk => ?_⟩
                                · have z0 := eN N (by omega) (by omega)
                                  have z1 := eN (N + 1) (by omega) (by omega)
                                  have z2 := eN (N + 2) (by omega) (by omega)
                                  exact ⟨h64, by omega, ⟨f1, (p6 _ (by omega) z0.1 z0.2).trans q1, q2, q3⟩, (p6 _ (by omega) z1.1 z1.2).trans q4, (p6 _ (by omega) z2.1 z2.2).trans q5⟩
                                · rw [th_w_if, if_pos ⟨rfl, rfl⟩, nI_succ, ← hRs]
                                · rw [p7 N (by omega) (by omega), u2, th_w_ne (by decide), th_w_if, if_pos ⟨rfl, rfl⟩]
                                · rw [p7 (N + 1) (by omega) (by omega), p7 (N + 2) (by omega) (by omega), (u3 k hk).1, (u3 k hk).2, th_w_ne (by decide), th_w_ne (by decide), th_seg_in (by omega) (by omega), show 5 * ix (s 36 6) + k - 5 * ix (s 36 6) = k by omega]
                                  exact ⟨rfl, rfl⟩
                              exact ev_ireturn dX9_road_151 rfl rfl ⟨N', SH', V', rfl, by rw [er, ← hRs, ea], fin, fun a z1 z2 => (p7 a (by omega) (by omega)).trans (u1 a (by omega)), fun a z1 z2 => (p6 a (by omega) (by omega) (fun w => by rcases RS.two hLs with r | r <;> omega)).trans (qo a (by omega)).1, by omega⟩
                            · have hR : ix (s 36 6) = 12 := by
                                rcases Nat.lt_or_ge (ix (s 36 6)) 12 with w | w
                                · exact absurd (show nI (ix (s 36 6)) < 12 from nI_lt w (by decide)) c74
                                · omega
                              have h12 : s 36 6 = 12 := by rw [hRs, hR]; rfl
                              refine ev_bipush (q := 79) (v := (-2)) dX9_road_77 rfl rfl ?_
                              exact ev_ireturn dX9_road_79 rfl rfl (CP.no hS hN ((if_neg good).trans (if_pos h12)) ((if_neg good).trans (if_pos h12)))
                          · refine ev_iconst (q := 62) (v := (-1)) dX9_road_61 rfl rfl ?_
                            exact ev_ireturn dX9_road_62 rfl rfl (CP.no hS hN (b5 (fun w => by have := i_nle c58; have := w.2; omega)).2 (b5 (fun w => by have := i_nle c58; have := w.2; omega)).1)
                  · refine ev_if_eq (q := 37) (t := 41) dX9_road_34 rfl (by decide) (fun c34 => ?_) (fun c34 => ?_)
                    · refine ev_iconst (q := 42) (v := 0) dX9_road_41 rfl rfl ?_
                      refine ev_istore7 (q := 44) dX9_road_42 rfl (by decide) rfl ?_
                      refine ev_iload7 (q := 46) dX9_road_44 rfl ?_
                      refine ev_if_eq (q := 49) (t := 61) dX9_road_46 rfl (by decide) (fun c46 => ?_) (fun c46 => ?_)
                      · refine ev_iconst (q := 62) (v := (-1)) dX9_road_61 rfl rfl ?_
                        exact ev_ireturn dX9_road_62 rfl rfl (CP.no hS hN (b4 hp31).2 (b4 hp31).1)
                      · exact absurd c46 (by decide)
                    · exact absurd c34 (by decide)
              · refine ev_if_eq (q := 29) (t := 41) dX9_road_26 rfl (by decide) (fun c26 => ?_) (fun c26 => ?_)
                · refine ev_iconst (q := 42) (v := 0) dX9_road_41 rfl rfl ?_
                  refine ev_istore7 (q := 44) dX9_road_42 rfl (by decide) rfl ?_
                  refine ev_iload7 (q := 46) dX9_road_44 rfl ?_
                  refine ev_if_eq (q := 49) (t := 61) dX9_road_46 rfl (by decide) (fun c46 => ?_) (fun c46 => ?_)
                  · refine ev_iconst (q := 62) (v := (-1)) dX9_road_61 rfl rfl ?_
                    exact ev_ireturn dX9_road_62 rfl rfl (CP.no hS hN (b3 hp23).2 (b3 hp23).1)
                  · exact absurd c46 (by decide)
                · exact absurd c26 (by decide)
          · refine ev_if_eq (q := 21) (t := 41) dX9_road_18 rfl (by decide) (fun c18 => ?_) (fun c18 => ?_)
            · refine ev_iconst (q := 42) (v := 0) dX9_road_41 rfl rfl ?_
              refine ev_istore7 (q := 44) dX9_road_42 rfl (by decide) rfl ?_
              refine ev_iload7 (q := 46) dX9_road_44 rfl ?_
              refine ev_if_eq (q := 49) (t := 61) dX9_road_46 rfl (by decide) (fun c46 => ?_) (fun c46 => ?_)
              · refine ev_iconst (q := 62) (v := (-1)) dX9_road_61 rfl rfl ?_
                exact ev_ireturn dX9_road_62 rfl rfl (CP.no hS hN (b2 hp15).2 (b2 hp15).1)
              · exact absurd c46 (by decide)
            · exact absurd c18 (by decide)
      · refine ev_if_eq (q := 14) (t := 41) dX9_road_11 rfl (by decide) (fun c11 => ?_) (fun c11 => ?_)
        · refine ev_iconst (q := 42) (v := 0) dX9_road_41 rfl rfl ?_
          refine ev_istore7 (q := 44) dX9_road_42 rfl (by decide) rfl ?_
          refine ev_iload7 (q := 46) dX9_road_44 rfl ?_
          refine ev_if_eq (q := 49) (t := 61) dX9_road_46 rfl (by decide) (fun c46 => ?_) (fun c46 => ?_)
          · refine ev_iconst (q := 62) (v := (-1)) dX9_road_61 rfl rfl ?_
            exact ev_ireturn dX9_road_62 rfl rfl (CP.no hS hN (b1 hp8).2 (b1 hp8).1)
          · exact absurd c46 (by decide)
        · exact absurd c11 (by decide)
  · refine ev_if_eq (q := 7) (t := 41) dX9_road_4 rfl (by decide) (fun c4 => ?_) (fun c4 => ?_)
    · refine ev_iconst (q := 42) (v := 0) dX9_road_41 rfl rfl ?_
      refine ev_istore7 (q := 44) dX9_road_42 rfl (by decide) rfl ?_
      refine ev_iload7 (q := 46) dX9_road_44 rfl ?_
      refine ev_if_eq (q := 49) (t := 61) dX9_road_46 rfl (by decide) (fun c46 => ?_) (fun c46 => ?_)
      · refine ev_iconst (q := 62) (v := (-1)) dX9_road_61 rfl rfl ?_
        exact ev_ireturn dX9_road_62 rfl rfl (CP.no hS hN (b0 hp1).2 (b0 hp1).1)
      · exact absurd c46 (by decide)
    · exact absurd c4 (by decide)
end C10
