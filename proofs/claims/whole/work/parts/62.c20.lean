/-! the class: a crossing is judged -/
def cntB (f : Nat → Bool) : Nat → Nat
  | 0 => 0
  | k + 1 => cntB f k + (f k).toNat
theorem cntB_f {f g : Nat → Bool} : ∀ n, (∀ k, k < n → f k = g k) → cntB f n = cntB g n
  | 0, _ => rfl
  | n + 1, h => by rw [cntB, cntB, cntB_f n (fun k hk => h k (by omega)), h n (by omega)]
theorem cntB_le (f : Nat → Bool) : ∀ n, cntB f n ≤ n
  | 0 => Nat.le_refl _
  | n + 1 => by
    have := cntB_le f n
    rw [cntB]
    cases f n <;> simp <;> omega
theorem cntB_0 {f : Nat → Bool} : ∀ n, cntB f n = 0 ↔ ∀ k, k < n → f k = false
  | 0 => by simp [cntB]
  | n + 1 => by
    have ih := cntB_0 (f := f) n
    rw [cntB]
    constructor
    · intro h k hk
      by_cases e : k = n
      · subst e
        cases hf : f k
        · rfl
        · rw [hf] at h; simp at h
      · exact ih.mp (by omega) k (by omega)
    · intro h
      rw [ih.mpr (fun k hk => h k (by omega)), h n (by omega)]
      rfl
theorem mb_cnt (x : Int32) : ∀ k, k ≤ 16 → mb x k = nI (cntB (tbit x) k)
  | 0, _ => rfl
  | k + 1, h => by rw [mb, mb_cnt x k (by omega), cntB, th_bitE (by omega), nI_add]
theorem cntB_cut {p : Nat → Bool} {L : Nat} : ∀ n, L ≤ n → cntB (fun k => decide (k < L) && p k) n = cntB p L
  | 0, h => by rw [show L = 0 by omega]; rfl
  | n + 1, h => by
    by_cases e : L = n + 1
    · subst e
      exact cntB_f (n + 1) (fun k hk => by rw [decide_eq_true hk, Bool.true_and])
    · rw [cntB, cntB_cut n (by omega), decide_eq_false (show ¬ n < L by omega)]
      rfl
theorem lm_in {p : Nat → Bool} {L : Nat} (hL : L ≤ 16) : inR (lm p L) 0 65535 := by
  have e : lm p L &&& 65535 = lm p L := by
    refine tbit_ext (fun c hc => ?_)
    rw [tbit_and, tbit_lm L (by omega)]
    by_cases h : c < L
    · have h16 : ∀ c, c < 16 → tbit 65535 c = true := by decide +kernel
      rw [h16 c (by omega), Bool.and_true]
    · rw [decide_eq_false h]
      rfl
  obtain ⟨q, h1, h2⟩ := pk_andE (lm p L) (m := 65535) 16 (by decide)
  rw [← e, h2]
  have := nI_toInt (n := q) (by omega)
  constructor <;> omega
theorem bct_lm {p : Nat → Bool} {L : Nat} (hL : L ≤ 16) : bct (lm p L) = nI (cntB p L) := by
  rw [bct_mb (lm_in hL), mb_cnt _ 16 (Nat.le_refl _), cntB_f 16 (g := fun k => decide (k < L) && p k) (fun k _ => tbit_lm L (by omega)), cntB_cut 16 hL]
theorem lm_0 {p : Nat → Bool} {L : Nat} (hL : L ≤ 31) : lm p L = 0 ↔ ∀ j, j < L → p j = false := by
  constructor
  · intro h j hj
    have := tbit_lm (p := p) (r := j) L hL
    rw [h, tbit_0, decide_eq_true hj, Bool.true_and] at this
    exact this.symm
  · intro h
    refine tbit_ext (fun c hc => ?_)
    rw [tbit_lm L hL, tbit_0]
    by_cases hj : c < L
    · rw [h c hj, Bool.and_false]
    · rw [decide_eq_false hj, Bool.false_and]
def kp (s : th_Vl) (j : Nat) : Bool := pas s j && decide (s 49 j = 0)
theorem kpc_cnt (s : th_Vl) : ∀ k, kpc s k = cntB (kp s) k
  | 0 => rfl
  | k + 1 => by
    rw [kpc, cntB, kpc_cnt s k, kp]
    by_cases h : pas s k = true ∧ s 49 k = 0
    · rw [if_pos h, h.1, decide_eq_true h.2]
      rfl
    · rw [if_neg h]
      cases hp : pas s k
      · rfl
      · rw [decide_eq_false (fun z => h ⟨hp, z⟩)]
        rfl
theorem brc_ex (s : th_Vl) : ∀ k, brc s k = false ↔ ∀ j, j < k → (pas s j && !decide (s 49 j = 0)) = false
  | 0 => by simp [brc]
  | k + 1 => by
    have ih := brc_ex s k
    have e : decide (¬ s 49 k = 0) = !decide (s 49 k = 0) := decide_not
    rw [brc, Bool.or_eq_false_iff, ih, e]
    constructor
    · rintro ⟨h1, h2⟩ j hj
      by_cases e : j = k
      · rw [e]; exact h2
      · exact h1 j (by omega)
    · intro h
      exact ⟨fun j hj => h j (by omega), h k (by omega)⟩
/-- passed without the bars -/
theorem keeps_lm {s : th_Vl} {L : Nat} (hL : L ≤ 31) : lm (pas s) L &&& ((lm (pas s) L &&& lm (fun j => !decide (s 49 j = 0)) L) ^^^ (-1)) = lm (kp s) L ∧ lm (pas s) L &&& lm (fun j => !decide (s 49 j = 0)) L = lm (fun j => pas s j && !decide (s 49 j = 0)) L := by
  constructor
  · refine tbit_ext (fun c hc => ?_)
    rw [tbit_and, tbit_not _ hc, tbit_and, tbit_lm L hL, tbit_lm L hL, tbit_lm L hL, kp]
    cases decide (c < L) <;> cases pas s c <;> cases decide (s 49 c = 0) <;> rfl
  · refine tbit_ext (fun c hc => ?_)
    rw [tbit_and, tbit_lm L hL, tbit_lm L hL, tbit_lm L hL]
    cases decide (c < L) <;> cases pas s c <;> cases decide (s 49 c = 0) <;> rfl
theorem th_w_id {V : th_Vl} {a k : Nat} {x : Int32} (h : x = V a k) : th_w V a k x = V := by
  funext b j
  rw [th_w_if]
  split
  · rename_i z
    rw [z.1, z.2, h]
  · rfl
/-- two counts of each line are written anew -/
def twV (V : th_Vl) (ld : Nat → Nat) (a b : Nat) (f g : Nat → Int32) : Nat → th_Vl
  | 0 => V
  | i + 1 => th_w (th_w (twV V ld a b f g i) (ld i) a (f i)) (ld i) b (g i)
theorem twV_ne {V : th_Vl} {ld : Nat → Nat} {a b c : Nat} {f g : Nat → Int32} : ∀ i, (∀ j, j < i → c ≠ ld j) → twV V ld a b f g i c = V c
  | 0, _ => rfl
  | i + 1, h => by rw [twV, th_w_ne (h i (by omega)), th_w_ne (h i (by omega)), twV_ne i (fun j hj => h j (by omega))]
theorem twV_at {V : th_Vl} {ld : Nat → Nat} {a b j k : Nat} {f g : Nat → Int32} : ∀ i, j < i → (∀ m, m < i → m ≠ j → ld m ≠ ld j) → twV V ld a b f g i (ld j) k = if k = b then g j else if k = a then f j else V (ld j) k
  | 0, h, _ => absurd h (Nat.not_lt_zero _)
  | i + 1, h, hn => by
    rw [twV]
    by_cases e : j = i
    · subst e
      rw [th_w_if, th_w_if, twV_ne j (fun m hm => Ne.symm (hn m (by omega) (by omega)))]
      by_cases h1 : k = b
      · rw [if_pos ⟨rfl, h1⟩, if_pos h1]
      · rw [if_neg (fun z => h1 z.2), if_neg h1]
        by_cases h2 : k = a
        · rw [if_pos ⟨rfl, h2⟩, if_pos h2]
        · rw [if_neg (fun z => h2 z.2), if_neg h2]
    · have hne : ld j ≠ ld i := Ne.symm (hn i (by omega) (fun z => e z.symm))
      rw [th_w_ne hne, th_w_ne hne]
      exact twV_at i (by omega) (fun m hm hj => hn m (by omega) hj)
theorem RN.FW {V V' s s' : th_Vl} {N R L : Nat} {SH : Nat → Option th_K0} {rd ld : Nat → Nat} {eR eL : Nat} (hS : RS N SH V R L rd ld eR eL) (h : RN V s R L rd ld) (hV : ∀ a, a ≠ 4 → (a < 31 ∨ 34 < a) → V' a = V a) (hs : ∀ a, a ≠ 36 → (a < 54 ∨ 56 < a) → s' a = s a) (ht : s' 36 10 = s 36 10) (hN : eqF V' s') (hM : eqW V' s') : RN V' s' R L rd ld := by
  obtain ⟨g1, g2, g3, g4, g5, g6, g7⟩ := h
  obtain ⟨-, -, -, -, -, -, -, -, k1, -, k2, -⟩ := hS
  refine ⟨fun q hq => (g1 q hq).c (hV _ (by omega) (by omega)) (hV _ (by omega) (by omega)) (hs _ (by omega) (by omega)) (hs _ (by omega) (by omega)) (hs _ (by omega) (by omega)), g2.c (hV _ (by omega) (by omega)) (hV _ (by omega) (by omega)) (hV _ (by omega) (by omega)) (hs _ (by omega) (by omega)) (hs _ (by omega) (by omega)) (hs _ (by omega) (by omega)), hN, hM, g5.c (hV _ (by omega) (by omega)) (hV _ (by omega) (by omega)) ht (hs _ (by omega) (by omega)), fun j hj => ?_, fun j hj => ?_⟩
  · have := (k1 j hj).1
    exact (g6 j hj).c (hV _ (by omega) (by omega)) (hV _ (by omega) (by omega)) (hV _ (by omega) (by omega)) (hs _ (by omega) (by omega)) (hs _ (by omega) (by omega))
  · have := (k2 j hj).1
    exact (g7 j hj).c (hV _ (by omega) (by omega)) (hV _ (by omega) (by omega)) (hV _ (by omega) (by omega)) (hs _ (by omega) (by omega)) (hs _ (by omega) (by omega)) (hs _ (by omega) (by omega)) (hs _ (by omega) (by omega)) (hs _ (by omega) (by omega)) (hs _ (by omega) (by omega)) (hs _ (by omega) (by omega)) (hs _ (by omega) (by omega))
section C20
variable {G : th_G} {l : Launch} {d : Nat} {N : Nat} {SH : Nat → Option th_K0} {V s : th_Vl}
theorem c_countPasses {a : Nat} {f : Nat → Option Nat} (ha : SH a = some (.inr (2, f))) (hsh : 1 ≤ (V a 2).toInt) : MT G l yX2_countPasses kX2_countPasses d 0 0 [.ref a] (N, SH, V) (fun r S' => (irm (V a 3 + 1) (V a 2) = 0 ∧ r = some (.int 1) ∧ S' = (N, SH, th_w (th_w V a 3 (V a 3 + 1)) a 4 (V a 4 + 1))) ∨ (¬ irm (V a 3 + 1) (V a 2) = 0 ∧ r = some (.int 0) ∧ S' = (N, SH, th_w V a 3 (V a 3 + 1)))) := by
  refine MT.of (by decide) rfl rfl (n := 0) rfl (ls := [some (.ref a)]) rfl ?_
  have e1 : (1 : Int32).toInt = 1 := by decide
  have hne : ¬ V a 2 = 0 := fun z => by rw [z] at hsh; exact absurd hsh (by decide)
  have w2 : th_w V a 3 (V a 3 + 1) a 2 = V a 2 := th_w_j (by decide)
  have w3 : th_w V a 3 (V a 3 + 1) a 3 = V a 3 + 1 := by rw [th_w_if, if_pos ⟨rfl, rfl⟩]
  have w4 : th_w V a 3 (V a 3 + 1) a 4 = V a 4 := th_w_j (by decide)
  refine ev_aload0 (q := 1) dX2_countPasses_0 rfl ?_
  refine ev_dup (q := 2) dX2_countPasses_1 rfl rfl ?_
  refine ev_getI (q := 5) dX2_countPasses_2 g_X2_28 ha rfl rfl ?_
  refine ev_iconst (q := 6) (v := 1) dX2_countPasses_5 rfl rfl ?_
  refine ev_iadd (q := 7) dX2_countPasses_6 rfl ?_
  refine ev_putI (q := 10) dX2_countPasses_7 (p_X2_28 _) ha rfl rfl rfl rfl ?_
  show EV G l kX2_countPasses _ 0 0 10 _ _ (N, SH, th_w V a 3 (V a 3 + 1)) _
  refine ev_aload0 (q := 11) dX2_countPasses_10 rfl ?_
  refine ev_getI (q := 14) dX2_countPasses_11 g_X2_20 ha rfl rfl ?_
  refine ev_iconst (q := 15) (v := 1) dX2_countPasses_14 rfl rfl ?_
  show EV G l kX2_countPasses _ 0 0 15 _ [.int 1, .int (th_w V a 3 (V a 3 + 1) a 2)] _ _
  rw [w2]
  refine ev_icmp_lt (q := 18) (t := 30) dX2_countPasses_15 rfl (by decide) (fun c15 => ?_) (fun c15 => ?_)
  · have := i_lt.mp c15
    omega
  · refine ev_aload0 (q := 19) dX2_countPasses_18 rfl ?_
    refine ev_getI (q := 22) dX2_countPasses_19 g_X2_28 ha rfl rfl ?_
    refine ev_aload0 (q := 23) dX2_countPasses_22 rfl ?_
    refine ev_getI (q := 26) dX2_countPasses_23 g_X2_20 ha rfl rfl ?_
    show EV G l kX2_countPasses _ 0 0 26 _ [.int (th_w V a 3 (V a 3 + 1) a 2), .int (th_w V a 3 (V a 3 + 1) a 3)] _ _
    rw [w2, w3]
    refine ev_irem (q := 27) dX2_countPasses_26 hne rfl ?_
    refine ev_if_eq (q := 30) (t := 32) dX2_countPasses_27 rfl (by decide) (fun c27 => ?_) (fun c27 => ?_)
    · refine ev_aload0 (q := 33) dX2_countPasses_32 rfl ?_
      refine ev_dup (q := 34) dX2_countPasses_33 rfl rfl ?_
      refine ev_getI (q := 37) dX2_countPasses_34 g_X2_31 ha rfl rfl ?_
      refine ev_iconst (q := 38) (v := 1) dX2_countPasses_37 rfl rfl ?_
      refine ev_iadd (q := 39) dX2_countPasses_38 rfl ?_
      show EV G l kX2_countPasses _ 0 0 39 _ [.int (th_w V a 3 (V a 3 + 1) a 4 + 1), .ref a] _ _
      rw [w4]
      refine ev_putI (q := 42) dX2_countPasses_39 (p_X2_31 _) ha rfl rfl rfl rfl ?_
      refine ev_iconst (q := 43) (v := 1) dX2_countPasses_42 rfl rfl ?_
      exact ev_ireturn dX2_countPasses_43 rfl rfl (Or.inl ⟨c27, rfl, rfl⟩)
    · refine ev_iconst (q := 31) (v := 0) dX2_countPasses_30 rfl rfl ?_
      exact ev_ireturn dX2_countPasses_31 rfl rfl (Or.inr ⟨c27, rfl, rfl⟩)
theorem c_credit {a : Nat} {f : Nat → Option Nat} (ha : SH a = some (.inr (2, f))) (al : Bool) : MT G l yX2_credit kX2_credit d 0 0 [.ref a, .int (cond al 1 0)] (N, SH, V) (fun r S' => r = none ∧ S' = (N, SH, th_w (th_w V a 5 (V a 5 + 1)) a 6 (cond al (V a 6 + 1) (V a 6)))) := by
  refine MT.of (by decide) rfl rfl (n := 0) rfl (ls := [some (.ref a), some (.int (cond al 1 0))]) rfl ?_
  have w6 : th_w V a 5 (V a 5 + 1) a 6 = V a 6 := th_w_j (by decide)
  refine ev_aload0 (q := 1) dX2_credit_0 rfl ?_
  refine ev_dup (q := 2) dX2_credit_1 rfl rfl ?_
  refine ev_getI (q := 5) dX2_credit_2 g_X2_34 ha rfl rfl ?_
  refine ev_iconst (q := 6) (v := 1) dX2_credit_5 rfl rfl ?_
  refine ev_iadd (q := 7) dX2_credit_6 rfl ?_
  refine ev_putI (q := 10) dX2_credit_7 (p_X2_34 _) ha rfl rfl rfl rfl ?_
  refine ev_iload1 (q := 11) dX2_credit_10 rfl ?_
  show EV G l kX2_credit _ 0 0 11 _ _ (N, SH, th_w V a 5 (V a 5 + 1)) _
  cases al
  · refine ev_if_eq (q := 14) (t := 24) dX2_credit_11 rfl (by decide) (fun c11 => ?_) (fun c11 => ?_)
    · exact ev_return dX2_credit_24 rfl ⟨rfl, by rw [cond_false, th_w_id (V := th_w V a 5 (V a 5 + 1)) w6.symm]⟩
    · exact absurd rfl c11
  · refine ev_if_eq (q := 14) (t := 24) dX2_credit_11 rfl (by decide) (fun c11 => ?_) (fun c11 => ?_)
    · exact absurd c11 (by decide)
    · refine ev_aload0 (q := 15) dX2_credit_14 rfl ?_
      refine ev_dup (q := 16) dX2_credit_15 rfl rfl ?_
      refine ev_getI (q := 19) dX2_credit_16 g_X2_37 ha rfl rfl ?_
      refine ev_iconst (q := 20) (v := 1) dX2_credit_19 rfl rfl ?_
      refine ev_iadd (q := 21) dX2_credit_20 rfl ?_
      show EV G l kX2_credit _ 0 0 21 _ [.int (th_w V a 5 (V a 5 + 1) a 6 + 1), .ref a] _ _
      rw [w6]
      refine ev_putI (q := 24) dX2_credit_21 (p_X2_37 _) ha rfl rfl rfl rfl ?_
      exact ev_return dX2_credit_24 rfl ⟨rfl, rfl⟩
theorem c_passLines {R L eR eL : Nat} {rd ld : Nat → Nat} (hS : RS N SH V R L rd ld eR eL) (hLn : ∀ j, j < L → lnR V s (ld j) j) (hsh : ∀ j, j < L → 1 ≤ (s 48 j).toInt) {x : Int32} (hx : x = lm (tvB s) L) : MT G l yX9_passLines kX9_passLines (d + 3) 0 0 [.ref 4, .int x] (N, SH, V) (fun r S' => r = some (.int (lm (pas s) L)) ∧ S' = (N, SH, twV V ld 3 4 (f50 s) (f51 s) L)) := by
  refine MT.of (by decide) rfl rfl (n := 2) rfl (ls := [some (.ref 4), some (.int x), none, none]) rfl ?_
  have hW : wC SH := hS.1
  have hL8 : L ≤ 8 := hS.2.2.2.2.1
  have hlds := hS.2.2.2.2.2.2.2.2.2.2.1
  have lo : ∀ i, i ≤ L → ∀ a, a < 64 → twV V ld 3 4 (f50 s) (f51 s) i a = V a := fun i hi a ha => twV_ne i (fun j hj => by have := (hlds j (by omega)).1; omega)
  have lp : ∀ i, i ≤ L → EV G l kX9_passLines (d + 3) 0 0 4 [some (.ref 4), some (.int x), some (.int (lm (pas s) i)), some (.int (nI i))] [] (N, SH, twV V ld 3 4 (f50 s) (f51 s) i) (fun r S' => r = some (.int (lm (pas s) L)) ∧ S' = (N, SH, twV V ld 3 4 (f50 s) (f51 s) L)) := by
    refine th_down L ?_ ?_
    · have hLs1 := (hS.c (V' := twV V ld 3 4 (f50 s) (f51 s) L) (lo _ (Nat.le_refl _) _ (by decide)) (lo _ (Nat.le_refl _) _ (by decide))).2.2.2.2.2.2.1
      obtain ⟨fL, hfL⟩ := hLs1.sh
      refine ev_iload3 (q := 5) dX9_passLines_4 rfl ?_
      refine ev_aload0 (q := 6) dX9_passLines_5 rfl ?_
      refine ev_getR (q := 9) dX9_passLines_6 g_X9_54 (hW _ _ rfl) rfl rfl rfl ?_
      refine ev_cF (K := kX9_passLines) (pc := 9) (q := 14) (hLs1.size (d := d)) dX9_passLines_9 l_X9_109 hfL rfl (Nat.le_of_ble_eq_true rfl) (by omega) rfl rfl (fun r S1 hp => ?_)
      obtain ⟨rfl, rfl⟩ := hp
      refine ev_icmp_ge (q := 17) (t := 57) dX9_passLines_14 rfl (by decide) (fun c14 => ?_) (fun c14 => ?_)
      · refine ev_iload2 (q := 58) dX9_passLines_57 rfl ?_
        exact ev_ireturn dX9_passLines_58 rfl rfl ⟨rfl, rfl⟩
      · exact absurd (Int32.le_refl _) c14
    · intro i hi ih
      have hLs1 := (hS.c (V' := twV V ld 3 4 (f50 s) (f51 s) i) (lo _ (Nat.le_of_lt hi) _ (by decide)) (lo _ (Nat.le_of_lt hi) _ (by decide))).2.2.2.2.2.2.1
      obtain ⟨fL, hfL⟩ := hLs1.sh
      obtain ⟨h64, -, ⟨f, ha, -⟩, -, -⟩ := hlds i hi
      have hWi : twV V ld 3 4 (f50 s) (f51 s) i (ld i) = V (ld i) := twV_ne i (fun j hj => by have := hS.ldne (show j < L by omega) hi (by omega); omega)
      obtain ⟨⟨-, g2, g3, g4, -, -⟩, -, -⟩ := hLn i hi
      have hbit : (x >>> (nI i &&& 31)) &&& 1 = 1 ↔ tvB s i = true := by
        rw [hx, th_bit1 (by omega), tbit_lm L (by omega), decide_eq_true hi, Bool.true_and]
      rw [twV, lm] at ih
      have skip : pas s i = false → f50 s i = V (ld i) 3 → EV G l kX9_passLines (d + 3) 0 0 51 [some (.ref 4), some (.int x), some (.int (lm (pas s) i)), some (.int (nI i))] [] (N, SH, twV V ld 3 4 (f50 s) (f51 s) i) (fun r S' => r = some (.int (lm (pas s) L)) ∧ S' = (N, SH, twV V ld 3 4 (f50 s) (f51 s) L)) := by
        intro hp1 hp2
        rw [hp1, cond_false, th_w_id (V := twV V ld 3 4 (f50 s) (f51 s) i) (by rw [hWi]; exact hp2), th_w_id (V := twV V ld 3 4 (f50 s) (f51 s) i) (by rw [hWi, g4, f51, hp1]; rfl)] at ih
        refine ev_iinc3 (q := 54) dX9_passLines_51 rfl (by decide) rfl (nI_succ i).symm ?_
        refine ev_goto (q := 4) dX9_passLines_54 (by decide) ?_
        exact ih
      refine ev_iload3 (q := 5) dX9_passLines_4 rfl ?_
      refine ev_aload0 (q := 6) dX9_passLines_5 rfl ?_
      refine ev_getR (q := 9) dX9_passLines_6 g_X9_54 (hW _ _ rfl) rfl rfl rfl ?_
      refine ev_cF (K := kX9_passLines) (pc := 9) (q := 14) (hLs1.size (d := d)) dX9_passLines_9 l_X9_109 hfL rfl (Nat.le_of_ble_eq_true rfl) (by omega) rfl rfl (fun r S1 hp => ?_)
      obtain ⟨rfl, rfl⟩ := hp
      refine ev_icmp_ge (q := 17) (t := 57) dX9_passLines_14 rfl (by decide) (fun c14 => ?_) (fun c14 => ?_)
      · exact absurd c14 (nI_ge hi (by omega))
      · refine ev_iload1 (q := 18) dX9_passLines_17 rfl ?_
        refine ev_iload3 (q := 19) dX9_passLines_18 rfl ?_
        refine ev_ishr (q := 20) dX9_passLines_19 rfl ?_
        refine ev_iconst (q := 21) (v := 1) dX9_passLines_20 rfl rfl ?_
        refine ev_iand (q := 22) dX9_passLines_21 rfl ?_
        refine ev_iconst (q := 23) (v := 1) dX9_passLines_22 rfl rfl ?_
        refine ev_icmp_ne (q := 26) (t := 51) dX9_passLines_23 rfl (by decide) (fun c23 => ?_) (fun c23 => ?_)
        · have htv : tvB s i = false := Bool.eq_false_iff.mpr (fun z => c23 (hbit.mpr z))
          exact skip (pas_hold htv) (by rw [f50, htv, g3]; rfl)
        · have htv : tvB s i = true := hbit.mp c23
          refine ev_aload0 (q := 27) dX9_passLines_26 rfl ?_
          refine ev_getR (q := 30) dX9_passLines_27 g_X9_54 (hW _ _ rfl) rfl rfl rfl ?_
          refine ev_iload3 (q := 31) dX9_passLines_30 rfl ?_
          refine ev_cF (K := kX9_passLines) (pc := 31) (q := 36) (hLs1.get (d := d) hi rfl) dX9_passLines_31 l_X9_287 hfL rfl (Nat.le_of_ble_eq_true rfl) (by omega) rfl rfl (fun r S1 hp => ?_)
          obtain ⟨rfl, rfl⟩ := hp
          refine ev_chk (q := 39) dX9_passLines_36 ha rfl n_X9_220 rfl ?_
          refine ev_cV (K := kX9_passLines) (pc := 39) (q := 42) (c_countPasses (d := d) ha (by rw [hWi, g2]; exact hsh i hi)) dX9_passLines_39 l_X9_318 ha rfl rfl (Nat.le_of_ble_eq_true rfl) (by omega) rfl rfl (fun r S1 hp => ?_)
          rw [hWi, g2, g3, g4] at hp
          have e50 : f50 s i = s 50 i + 1 := by rw [f50, htv]; rfl
          rcases hp with ⟨k1, rfl, rfl⟩ | ⟨k1, rfl, rfl⟩
          · have hpas : pas s i = true := by rw [pas, htv, decide_eq_true k1]; rfl
            have e51 : f51 s i = s 51 i + 1 := by rw [f51, hpas]; rfl
            rw [hpas, cond_true, e50, e51] at ih
            refine ev_if_eq (q := 45) (t := 51) dX9_passLines_42 rfl (by decide) (fun c42 => ?_) (fun c42 => ?_)
            · exact absurd c42 (by decide)
            · refine ev_iload2 (q := 46) dX9_passLines_45 rfl ?_
              refine ev_iconst (q := 47) (v := 1) dX9_passLines_46 rfl rfl ?_
              refine ev_iload3 (q := 48) dX9_passLines_47 rfl ?_
              refine ev_ishl (q := 49) dX9_passLines_48 rfl ?_
              refine ev_ior (q := 50) dX9_passLines_49 rfl ?_
              refine ev_istore2 (q := 51) dX9_passLines_50 rfl (by decide) rfl ?_
              refine ev_iinc3 (q := 54) dX9_passLines_51 rfl (by decide) rfl (nI_succ i).symm ?_
              refine ev_goto (q := 4) dX9_passLines_54 (by decide) ?_
              exact ih
          · have hpas : pas s i = false := by rw [pas, htv, decide_eq_false k1]; rfl
            have e51 : f51 s i = s 51 i := by rw [f51, hpas]; rfl
            rw [hpas, cond_false, e50, e51, th_w_id (a := ld i) (k := 4) (x := s 51 i) (by rw [th_w_j (by decide), hWi, g4])] at ih
            refine ev_if_eq (q := 45) (t := 51) dX9_passLines_42 rfl (by decide) (fun c42 => ?_) (fun c42 => ?_)
            · refine ev_iinc3 (q := 54) dX9_passLines_51 rfl (by decide) rfl (nI_succ i).symm ?_
              refine ev_goto (q := 4) dX9_passLines_54 (by decide) ?_
              exact ih
            · exact absurd rfl c42
  refine ev_iconst (q := 1) (v := 0) dX9_passLines_0 rfl rfl ?_
  refine ev_istore2 (q := 2) dX9_passLines_1 rfl (by decide) rfl ?_
  refine ev_iconst (q := 3) (v := 0) dX9_passLines_2 rfl rfl ?_
  refine ev_istore3 (q := 4) dX9_passLines_3 rfl (by decide) rfl ?_
  exact lp 0 (Nat.zero_le _)
theorem c_barLines {R L eR eL : Nat} {rd ld : Nat → Nat} (hS : RS N SH V R L rd ld eR eL) (hb : ∀ j, j < L → V (ld j) 1 = s 49 j) : MT G l yX9_barLines kX9_barLines (d + 3) 0 0 [.ref 4] (N, SH, V) (th_is (lm (fun j => !decide (s 49 j = 0)) L) (N, SH, V)) := by
  refine MT.of (by decide) rfl rfl (n := 2) rfl (ls := [some (.ref 4), none, none]) rfl ?_
  have hW : wC SH := hS.1
  have hL8 : L ≤ 8 := hS.2.2.2.2.1
  have hLs1 := hS.2.2.2.2.2.2.1
  obtain ⟨fL, hfL⟩ := hLs1.sh
  have lp : ∀ i, i ≤ L → EV G l kX9_barLines (d + 3) 0 0 4 [some (.ref 4), some (.int (lm (fun j => !decide (s 49 j = 0)) i)), some (.int (nI i))] [] (N, SH, V) (th_is (lm (fun j => !decide (s 49 j = 0)) L) (N, SH, V)) := by
    refine th_down L ?_ ?_
    · refine ev_iload2 (q := 5) dX9_barLines_4 rfl ?_
      refine ev_aload0 (q := 6) dX9_barLines_5 rfl ?_
      refine ev_getR (q := 9) dX9_barLines_6 g_X9_54 (hW _ _ rfl) rfl rfl rfl ?_
      refine ev_cF (K := kX9_barLines) (pc := 9) (q := 14) (hLs1.size (d := d)) dX9_barLines_9 l_X9_109 hfL rfl (Nat.le_of_ble_eq_true rfl) (by omega) rfl rfl (fun r S1 hp => ?_)
      obtain ⟨rfl, rfl⟩ := hp
      refine ev_icmp_ge (q := 17) (t := 48) dX9_barLines_14 rfl (by decide) (fun c14 => ?_) (fun c14 => ?_)
      · refine ev_iload1 (q := 49) dX9_barLines_48 rfl ?_
        exact ev_ireturn dX9_barLines_49 rfl rfl ⟨rfl, rfl⟩
      · exact absurd (Int32.le_refl _) c14
    · intro i hi ih
      obtain ⟨h64, -, ⟨f, ha, -⟩, -, -⟩ := hS.2.2.2.2.2.2.2.2.2.2.1 i hi
      rw [lm] at ih
      refine ev_iload2 (q := 5) dX9_barLines_4 rfl ?_
      refine ev_aload0 (q := 6) dX9_barLines_5 rfl ?_
      refine ev_getR (q := 9) dX9_barLines_6 g_X9_54 (hW _ _ rfl) rfl rfl rfl ?_
      refine ev_cF (K := kX9_barLines) (pc := 9) (q := 14) (hLs1.size (d := d)) dX9_barLines_9 l_X9_109 hfL rfl (Nat.le_of_ble_eq_true rfl) (by omega) rfl rfl (fun r S1 hp => ?_)
      obtain ⟨rfl, rfl⟩ := hp
      refine ev_icmp_ge (q := 17) (t := 48) dX9_barLines_14 rfl (by decide) (fun c14 => ?_) (fun c14 => ?_)
      · exact absurd c14 (nI_ge hi (by omega))
      · refine ev_aload0 (q := 18) dX9_barLines_17 rfl ?_
        refine ev_getR (q := 21) dX9_barLines_18 g_X9_54 (hW _ _ rfl) rfl rfl rfl ?_
        refine ev_iload2 (q := 22) dX9_barLines_21 rfl ?_
        refine ev_cF (K := kX9_barLines) (pc := 22) (q := 27) (hLs1.get (d := d) hi rfl) dX9_barLines_22 l_X9_287 hfL rfl (Nat.le_of_ble_eq_true rfl) (by omega) rfl rfl (fun r S1 hp => ?_)
        obtain ⟨rfl, rfl⟩ := hp
        refine ev_chk (q := 30) dX9_barLines_27 ha rfl n_X9_220 rfl ?_
        refine ev_getI (q := 33) dX9_barLines_30 g_X9_235 ha rfl rfl ?_
        show EV G l kX9_barLines _ 0 0 33 _ [.int (V (ld i) 1)] _ _
        rw [hb i hi]
        refine ev_if_eq (q := 36) (t := 42) dX9_barLines_33 rfl (by decide) (fun c33 => ?_) (fun c33 => ?_)
        · have e : (!decide (s 49 i = 0)) = false := by rw [decide_eq_true c33]; rfl
          rw [e, cond_false] at ih
          refine ev_iinc2 (q := 45) dX9_barLines_42 rfl (by decide) rfl (nI_succ i).symm ?_
          refine ev_goto (q := 4) dX9_barLines_45 (by decide) ?_
          exact ih
        · have e : (!decide (s 49 i = 0)) = true := by rw [decide_eq_false c33]; rfl
          rw [e, cond_true] at ih
          refine ev_iload1 (q := 37) dX9_barLines_36 rfl ?_
          refine ev_iconst (q := 38) (v := 1) dX9_barLines_37 rfl rfl ?_
          refine ev_iload2 (q := 39) dX9_barLines_38 rfl ?_
          refine ev_ishl (q := 40) dX9_barLines_39 rfl ?_
          refine ev_ior (q := 41) dX9_barLines_40 rfl ?_
          refine ev_istore1 (q := 42) dX9_barLines_41 rfl (by decide) rfl ?_
          refine ev_iinc2 (q := 45) dX9_barLines_42 rfl (by decide) rfl (nI_succ i).symm ?_
          refine ev_goto (q := 4) dX9_barLines_45 (by decide) ?_
          exact ih
  refine ev_iconst (q := 1) (v := 0) dX9_barLines_0 rfl rfl ?_
  refine ev_istore1 (q := 2) dX9_barLines_1 rfl (by decide) rfl ?_
  refine ev_iconst (q := 3) (v := 0) dX9_barLines_2 rfl rfl ?_
  refine ev_istore2 (q := 4) dX9_barLines_3 rfl (by decide) rfl ?_
  exact lp 0 (Nat.zero_le _)
theorem c_creditLines {R L eR eL : Nat} {rd ld : Nat → Nat} (hS : RS N SH V R L rd ld eR eL) (p : Nat → Bool) {x : Int32} (hx : x = lm p L) : MT G l yX9_creditLines kX9_creditLines (d + 3) 0 0 [.ref 4, .int x] (N, SH, V) (fun r S' => r = none ∧ S' = (N, SH, twV V ld 5 6 (fun j => cond (p j) (V (ld j) 5 + 1) (V (ld j) 5)) (fun j => cond (p j && decide (cntB p L = 1)) (V (ld j) 6 + 1) (V (ld j) 6)) L)) := by
  refine MT.of (by decide) rfl rfl (n := 2) rfl (ls := [some (.ref 4), some (.int x), none, none]) rfl ?_
  have hW : wC SH := hS.1
  have hL8 : L ≤ 8 := hS.2.2.2.2.1
  have hlds := hS.2.2.2.2.2.2.2.2.2.2.1
  obtain ⟨F, hF⟩ : ∃ F : Nat → Int32, F = fun j => cond (p j) (V (ld j) 5 + 1) (V (ld j) 5) := ⟨_, rfl⟩
  obtain ⟨Gf, hG⟩ : ∃ Gf : Nat → Int32, Gf = fun j => cond (p j && decide (cntB p L = 1)) (V (ld j) 6 + 1) (V (ld j) 6) := ⟨_, rfl⟩
  rw [← hF, ← hG]
  have lo : ∀ i, i ≤ L → ∀ a, a < 64 → twV V ld 5 6 F Gf i a = V a := fun i hi a ha => twV_ne i (fun j hj => by have := (hlds j (by omega)).1; omega)
  have hcl := cntB_le p L
  have lp : ∀ i, i ≤ L → EV G l kX9_creditLines (d + 3) 0 0 16 [some (.ref 4), some (.int x), some (.int (cond (decide (cntB p L = 1)) 1 0)), some (.int (nI i))] [] (N, SH, twV V ld 5 6 F Gf i) (fun r S' => r = none ∧ S' = (N, SH, twV V ld 5 6 F Gf L)) := by
    refine th_down L ?_ ?_
    · have hLs1 := (hS.c (V' := twV V ld 5 6 F Gf L) (lo _ (Nat.le_refl _) _ (by decide)) (lo _ (Nat.le_refl _) _ (by decide))).2.2.2.2.2.2.1
      obtain ⟨fL, hfL⟩ := hLs1.sh
      refine ev_iload3 (q := 17) dX9_creditLines_16 rfl ?_
      refine ev_aload0 (q := 18) dX9_creditLines_17 rfl ?_
      refine ev_getR (q := 21) dX9_creditLines_18 g_X9_54 (hW _ _ rfl) rfl rfl rfl ?_
      refine ev_cF (K := kX9_creditLines) (pc := 21) (q := 26) (hLs1.size (d := d)) dX9_creditLines_21 l_X9_109 hfL rfl (Nat.le_of_ble_eq_true rfl) (by omega) rfl rfl (fun r S1 hp => ?_)
      obtain ⟨rfl, rfl⟩ := hp
      refine ev_icmp_ge (q := 29) (t := 61) dX9_creditLines_26 rfl (by decide) (fun c26 => ?_) (fun c26 => ?_)
      · exact ev_return dX9_creditLines_61 rfl ⟨rfl, rfl⟩
      · exact absurd (Int32.le_refl _) c26
    · intro i hi ih
      have hLs1 := (hS.c (V' := twV V ld 5 6 F Gf i) (lo _ (Nat.le_of_lt hi) _ (by decide)) (lo _ (Nat.le_of_lt hi) _ (by decide))).2.2.2.2.2.2.1
      obtain ⟨fL, hfL⟩ := hLs1.sh
      obtain ⟨h64, -, ⟨f, ha, -⟩, -, -⟩ := hlds i hi
      have hWi : twV V ld 5 6 F Gf i (ld i) = V (ld i) := twV_ne i (fun j hj => by have := hS.ldne (show j < L by omega) hi (by omega); omega)
      have hbit : (x >>> (nI i &&& 31)) &&& 1 = 1 ↔ p i = true := by
        rw [hx, th_bit1 (by omega), tbit_lm L (by omega), decide_eq_true hi, Bool.true_and]
      have eF : F i = cond (p i) (V (ld i) 5 + 1) (V (ld i) 5) := by rw [hF]
      have eG : Gf i = cond (p i && decide (cntB p L = 1)) (V (ld i) 6 + 1) (V (ld i) 6) := by rw [hG]
      rw [twV] at ih
      refine ev_iload3 (q := 17) dX9_creditLines_16 rfl ?_
      refine ev_aload0 (q := 18) dX9_creditLines_17 rfl ?_
      refine ev_getR (q := 21) dX9_creditLines_18 g_X9_54 (hW _ _ rfl) rfl rfl rfl ?_
      refine ev_cF (K := kX9_creditLines) (pc := 21) (q := 26) (hLs1.size (d := d)) dX9_creditLines_21 l_X9_109 hfL rfl (Nat.le_of_ble_eq_true rfl) (by omega) rfl rfl (fun r S1 hp => ?_)
      obtain ⟨rfl, rfl⟩ := hp
      refine ev_icmp_ge (q := 29) (t := 61) dX9_creditLines_26 rfl (by decide) (fun c26 => ?_) (fun c26 => ?_)
      · exact absurd c26 (nI_ge hi (by omega))
      · refine ev_iload1 (q := 30) dX9_creditLines_29 rfl ?_
        refine ev_iload3 (q := 31) dX9_creditLines_30 rfl ?_
        refine ev_ishr (q := 32) dX9_creditLines_31 rfl ?_
        refine ev_iconst (q := 33) (v := 1) dX9_creditLines_32 rfl rfl ?_
        refine ev_iand (q := 34) dX9_creditLines_33 rfl ?_
        refine ev_iconst (q := 35) (v := 1) dX9_creditLines_34 rfl rfl ?_
        refine ev_icmp_ne (q := 38) (t := 55) dX9_creditLines_35 rfl (by decide) (fun c35 => ?_) (fun c35 => ?_)
        · have hpf : p i = false := Bool.eq_false_iff.mpr (fun z => c35 (hbit.mpr z))
          rw [hpf] at eF eG
          rw [th_w_id (V := twV V ld 5 6 F Gf i) (x := F i) (by rw [hWi]; exact eF), th_w_id (V := twV V ld 5 6 F Gf i) (x := Gf i) (by rw [hWi]; exact eG)] at ih
          refine ev_iinc3 (q := 58) dX9_creditLines_55 rfl (by decide) rfl (nI_succ i).symm ?_
          refine ev_goto (q := 16) dX9_creditLines_58 (by decide) ?_
          exact ih
        · have hpt : p i = true := hbit.mp c35
          rw [hpt] at eF eG
          refine ev_aload0 (q := 39) dX9_creditLines_38 rfl ?_
          refine ev_getR (q := 42) dX9_creditLines_39 g_X9_54 (hW _ _ rfl) rfl rfl rfl ?_
          refine ev_iload3 (q := 43) dX9_creditLines_42 rfl ?_
          refine ev_cF (K := kX9_creditLines) (pc := 43) (q := 48) (hLs1.get (d := d) hi rfl) dX9_creditLines_43 l_X9_287 hfL rfl (Nat.le_of_ble_eq_true rfl) (by omega) rfl rfl (fun r S1 hp => ?_)
          obtain ⟨rfl, rfl⟩ := hp
          refine ev_chk (q := 51) dX9_creditLines_48 ha rfl n_X9_220 rfl ?_
          refine ev_iload2 (q := 52) dX9_creditLines_51 rfl ?_
          refine ev_cV (K := kX9_creditLines) (pc := 52) (q := 55) (c_credit (d := d) ha (decide (cntB p L = 1))) dX9_creditLines_52 l_X9_322 ha rfl rfl (Nat.le_of_ble_eq_true rfl) (by omega) rfl rfl (fun r S1 hp => ?_)
          rw [hWi] at hp
          obtain ⟨rfl, rfl⟩ := hp
          rw [eF, eG] at ih
          refine ev_iinc3 (q := 58) dX9_creditLines_55 rfl (by decide) rfl (nI_succ i).symm ?_
          refine ev_goto (q := 16) dX9_creditLines_58 (by decide) ?_
          exact ih
  refine ev_iload1 (q := 1) dX9_creditLines_0 rfl ?_
  refine ev_cS (K := kX9_creditLines) (pc := 1) (q := 4) (j_bitCount (d := d) _) dX9_creditLines_1 l_X9_92 rfl (Nat.le_of_ble_eq_true rfl) (by omega) rfl rfl (fun r S1 hp => ?_)
  obtain ⟨rfl, rfl⟩ := hp
  rw [hx, bct_lm (by omega), ← hx]
  refine ev_iconst (q := 5) (v := 1) dX9_creditLines_4 rfl rfl ?_
  refine ev_icmp_ne (q := 8) (t := 12) dX9_creditLines_5 rfl (by decide) (fun c5 => ?_) (fun c5 => ?_)
  · have hc : decide (cntB p L = 1) = false := decide_eq_false (fun z => c5 (by rw [z]; rfl))
    rw [hc] at lp
    refine ev_iconst (q := 13) (v := 0) dX9_creditLines_12 rfl rfl ?_
    refine ev_istore2 (q := 14) dX9_creditLines_13 rfl (by decide) rfl ?_
    refine ev_iconst (q := 15) (v := 0) dX9_creditLines_14 rfl rfl ?_
    refine ev_istore3 (q := 16) dX9_creditLines_15 rfl (by decide) rfl ?_
    exact lp 0 (Nat.zero_le _)
  · have hc : decide (cntB p L = 1) = true := decide_eq_true ((nI_eq (by omega) (by decide)).mp (show nI (cntB p L) = nI 1 from c5))
    rw [hc] at lp
    refine ev_iconst (q := 9) (v := 1) dX9_creditLines_8 rfl rfl ?_
    refine ev_goto (q := 13) dX9_creditLines_9 (by decide) ?_
    refine ev_istore2 (q := 14) dX9_creditLines_13 rfl (by decide) rfl ?_
    refine ev_iconst (q := 15) (v := 0) dX9_creditLines_14 rfl rfl ?_
    refine ev_istore3 (q := 16) dX9_creditLines_15 rfl (by decide) rfl ?_
    exact lp 0 (Nat.zero_le _)
theorem c_keep (hW : wC SH) {K : Nat} (hK : K + 1 < 2 ^ 31) (hV : V 31 3 = nI K) (n p : Int32) : MT G l yX4_keep kX4_keep (d + 2) 0 0 [.ref 31, .int n, .int p, .ref 12] (N, SH, V) (fun r S' => r = none ∧ S' = (N, SH, th_seg (th_w (th_w (th_w V 31 3 (nI (K + 1))) 32 (K % 30) n) 33 (K % 30) p) 34 (5 * (K % 30)) 5 (V 12))) := by
  refine MT.of (by decide) rfl rfl (n := 2) rfl (ls := [some (.ref 31), some (.int n), some (.int p), some (.ref 12), none, none]) rfl ?_
  have hm : K % 30 < 30 := Nat.mod_lt _ (by decide)
  refine ev_aload0 (q := 1) dX4_keep_0 rfl ?_
  refine ev_dup (q := 2) dX4_keep_1 rfl rfl ?_
  refine ev_getI (q := 5) dX4_keep_2 g_X4_21 (hW _ _ rfl) rfl rfl ?_
  refine ev_iconst (q := 6) (v := 1) dX4_keep_5 rfl rfl ?_
  refine ev_iadd (q := 7) dX4_keep_6 rfl ?_
  show EV G l kX4_keep _ 0 0 7 _ [.int (V 31 3 + 1), .ref 31] _ _
  rw [hV, ← nI_succ]
  refine ev_putI (q := 10) dX4_keep_7 (p_X4_21 _) (hW _ _ rfl) rfl rfl rfl rfl ?_
  refine ev_aload0 (q := 11) dX4_keep_10 rfl ?_
  refine ev_iconst (q := 12) (v := 0) dX4_keep_11 rfl rfl ?_
  refine ev_cV (K := kX4_keep) (pc := 12) (q := 15) (c_slotOf (d := d) (V := th_w V 31 3 (nI (K + 1))) hW (K := K + 1) (j := 0) hK rfl rfl (by omega)) dX4_keep_12 l_X4_38 (hW _ _ rfl) rfl rfl (Nat.le_of_ble_eq_true rfl) (Nat.le_refl _) rfl rfl (fun r S1 hp => ?_)
  obtain ⟨rfl, rfl⟩ := hp
  rw [show K + 1 - 1 - 0 = K by omega]
  refine ev_istore4 (q := 17) dX4_keep_15 rfl (by decide) rfl ?_
  refine ev_aload0 (q := 18) dX4_keep_17 rfl ?_
  refine ev_getR (q := 21) dX4_keep_18 g_X4_9 (hW _ _ rfl) rfl rfl rfl ?_
  refine ev_iload4 (q := 23) dX4_keep_21 rfl ?_
  refine ev_iload1 (q := 24) dX4_keep_23 rfl ?_
  refine ev_iast (q := 25) dX4_keep_24 (hW _ _ rfl) rfl hm (by decide) rfl ?_
  refine ev_aload0 (q := 26) dX4_keep_25 rfl ?_
  refine ev_getR (q := 29) dX4_keep_26 g_X4_15 (hW _ _ rfl) rfl rfl rfl ?_
  refine ev_iload4 (q := 31) dX4_keep_29 rfl ?_
  refine ev_iload2 (q := 32) dX4_keep_31 rfl ?_
  refine ev_iast (q := 33) dX4_keep_32 (hW _ _ rfl) rfl hm (by decide) rfl ?_
  refine ev_iconst (q := 34) (v := 0) dX4_keep_33 rfl rfl ?_
  refine ev_istore5 (q := 36) dX4_keep_34 rfl (by decide) rfl ?_
  show EV G l kX4_keep _ 0 0 36 _ _ (N, SH, th_w (th_w (th_w V 31 3 (nI (K + 1))) 32 (K % 30) n) 33 (K % 30) p) _
  have hh : (th_w (th_w (th_w V 31 3 (nI (K + 1))) 32 (K % 30) n) 33 (K % 30) p) 12 = V 12 := rfl
  generalize th_w (th_w (th_w V 31 3 (nI (K + 1))) 32 (K % 30) n) 33 (K % 30) p = U at hh ⊢
  have lp : ∀ i, i ≤ 5 → EV G l kX4_keep (d + 2) 0 0 36 [some (.ref 31), some (.int n), some (.int p), some (.ref 12), some (.int (nI (K % 30))), some (.int (nI i))] [] (N, SH, th_seg U 34 (5 * (K % 30)) i (V 12)) (fun r S' => r = none ∧ S' = (N, SH, th_seg U 34 (5 * (K % 30)) 5 (V 12))) := by
    refine th_down 5 ?_ ?_
    · refine ev_iload5 (q := 38) dX4_keep_36 rfl ?_
      refine ev_iconst (q := 39) (v := 5) dX4_keep_38 rfl rfl ?_
      refine ev_icmp_ge (q := 42) (t := 64) dX4_keep_39 rfl (by decide) (fun c39 => ?_) (fun c39 => ?_)
      · exact ev_return dX4_keep_64 rfl ⟨rfl, rfl⟩
      · exact absurd (by decide) c39
    · intro i hi ih
      rw [← th_seg_s, ← hh] at ih
      refine ev_iload5 (q := 38) dX4_keep_36 rfl ?_
      refine ev_iconst (q := 39) (v := 5) dX4_keep_38 rfl rfl ?_
      refine ev_icmp_ge (q := 42) (t := 64) dX4_keep_39 rfl (by decide) (fun c39 => ?_) (fun c39 => ?_)
      · exact absurd c39 (nI_ge hi (by decide))
      · rw [← hh]
        refine ev_aload0 (q := 43) dX4_keep_42 rfl ?_
        refine ev_getR (q := 46) dX4_keep_43 g_X4_18 (hW _ _ rfl) rfl rfl rfl ?_
        refine ev_iload4 (q := 48) dX4_keep_46 rfl ?_
        refine ev_iconst (q := 49) (v := 5) dX4_keep_48 rfl rfl ?_
        refine ev_imul (q := 50) dX4_keep_49 rfl ?_
        refine ev_iload5 (q := 52) dX4_keep_50 rfl ?_
        refine ev_iadd (q := 53) dX4_keep_52 rfl ?_
        refine ev_aload3 (q := 54) dX4_keep_53 rfl ?_
        refine ev_iload5 (q := 56) dX4_keep_54 rfl ?_
        refine ev_iald (q := 57) dX4_keep_56 (hW _ _ rfl) rfl hi (by decide) rfl ?_
        refine ev_iast (q := 58) dX4_keep_57 (hW _ _ rfl) (th_5' rfl rfl) (show 5 * (K % 30) + i < 150 by omega) (by decide) rfl ?_
        refine ev_iinc5 (q := 61) dX4_keep_58 rfl (by decide) rfl (nI_succ i).symm ?_
        refine ev_goto (q := 36) dX4_keep_61 (by decide) ?_
        exact ih
  have h0 := lp 0 (by decide)
  rw [th_seg_0] at h0
  exact h0
end C20
