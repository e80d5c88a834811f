/-! the class: what of its cells stands for what of the reference's -/
abbrev wC (SH : Nat → Option th_K0) : Prop := ∀ a c, shC a = some c → SH a = some c
/-- a letter, as the class keeps it -/
def chv (x : Int32) : Int32 := x &&& 255
def shR (V s : th_Vl) (r : Nat) : Prop := ((s 38 r).toInt < 0 ∧ V (6 + 2 * r) 1 = 0) ∨ (0 ≤ (s 38 r).toInt ∧ V (6 + 2 * r) 1 = 1 ∧ V (6 + 2 * r) 2 = s 37 r ∧ V (6 + 2 * r) 3 = s 38 r ∧ ∀ k, k < ix (s 38 r) → V (7 + 2 * r) k = s 39 (20 * r + k))
def eqL (V s : th_Vl) : Prop := ∀ l, l < 5 → V 12 l = s 40 l ∧ V 13 l = s 41 l ∧ V 14 l = s 42 l
def eqF (V s : th_Vl) : Prop := V 4 11 = s 36 24 ∧ V 4 12 = s 36 25 ∧ V 4 13 = s 36 20 ∧ V 4 14 = s 36 21 ∧ V 4 15 = s 36 23 ∧ V 31 3 = s 36 22
def eqW (V s : th_Vl) : Prop := (∀ j, j < 30 → V 32 j = s 54 j ∧ V 33 j = s 55 j) ∧ ∀ j, j < 150 → V 34 j = s 56 j
def tpR (V s : th_Vl) : Prop := V 27 1 = s 36 10 ∧ ∀ k, k < ix (s 36 10) → V 28 k = chv (s 45 k)
def rdR (V s : th_Vl) (a j : Nat) : Prop := V a 2 = s 44 j ∧ ∀ k, k < 5 → V (a + 1) k = s 43 (5 * j + k) / 100 ∧ V (a + 2) k = s 43 (5 * j + k) - s 43 (5 * j + k) / 100 * 100
def lnR (V s : th_Vl) (a j : Nat) : Prop := (V a 1 = s 49 j ∧ V a 2 = s 48 j ∧ V a 3 = s 50 j ∧ V a 4 = s 51 j ∧ V a 5 = s 52 j ∧ V a 6 = s 53 j) ∧ V (a + 1) 1 = s 47 j ∧ ∀ k, k < ix (s 47 j) → V (a + 2) k = chv (s 46 (60 * j + k))
/-- the shapes: roads and lines -/
def rdS (N : Nat) (SH : Nat → Option th_K0) (a : Nat) : Prop := 64 ≤ a ∧ a + 3 ≤ N ∧ (∃ f : Nat → Option Nat, SH a = some (.inr (6, f)) ∧ f 0 = some (a + 1) ∧ f 1 = some (a + 2)) ∧ SH (a + 1) = some (.inl (0, 5, th_no)) ∧ SH (a + 2) = some (.inl (0, 5, th_no))
def lnS (N : Nat) (SH : Nat → Option th_K0) (a : Nat) : Prop := 64 ≤ a ∧ a + 3 ≤ N ∧ (∃ f : Nat → Option Nat, SH a = some (.inr (2, f)) ∧ f 0 = some (a + 1)) ∧ (∃ f : Nat → Option Nat, SH (a + 1) = some (.inr (8, f)) ∧ f 0 = some (a + 2)) ∧ SH (a + 2) = some (.inl (2, 60, th_no))
def RS (N : Nat) (SH : Nat → Option th_K0) (V : th_Vl) (R L : Nat) (rd ld : Nat → Nat) (eR eL : Nat) : Prop :=
  wC SH ∧ (∃ f, SH 29 = some (.inr (5, f))) ∧ 64 ≤ N ∧ R ≤ 12 ∧ L ≤ 8 ∧ LST N SH V 15 R rd eR ∧ LST N SH V 30 L ld eL ∧ (eR = eL → eR = 2) ∧
  (∀ j, j < R → rdS N SH (rd j)) ∧ (∀ i j, i < j → j < R → rd i + 3 ≤ rd j) ∧ (∀ j, j < L → lnS N SH (ld j)) ∧ (∀ i j, i < j → j < L → ld i + 3 ≤ ld j)
def RN (V s : th_Vl) (R L : Nat) (rd ld : Nat → Nat) : Prop := (∀ r, r < 3 → shR V s r) ∧ eqL V s ∧ eqF V s ∧ eqW V s ∧ tpR V s ∧ (∀ j, j < R → rdR V s (rd j) j) ∧ (∀ j, j < L → lnR V s (ld j) j)
def CR (N : Nat) (SH : Nat → Option th_K0) (V s : th_Vl) : Prop := ∃ (rd ld : Nat → Nat) (eR eL : Nat), RS N SH V (ix (s 36 6)) (ix (s 36 11)) rd ld eR eL ∧ RN V s (ix (s 36 6)) (ix (s 36 11)) rd ld
/-- the reference's cells stay -/
def FC (V V' : th_Vl) : Prop := ∀ a, 36 ≤ a → a < 64 → V' a = V a
theorem FC.rf {V : th_Vl} : FC V V := fun _ _ _ => rfl
theorem FC.tr {V V1 V2 : th_Vl} (h1 : FC V V1) (h2 : FC V1 V2) : FC V V2 := fun a h3 h4 => (h2 a h3 h4).trans (h1 a h3 h4)
theorem FC.w {V V1 : th_Vl} {a k : Nat} {x : Int32} (h : FC V V1) (ha : a < 36 ∨ 64 ≤ a) : FC V (th_w V1 a k x) := fun b h1 h2 => (th_w_ne (by omega)).trans (h b h1 h2)
theorem FC.sg {V V1 : th_Vl} {a lo n : Nat} {f : Nat → Int32} (h : FC V V1) (ha : a < 36 ∨ 64 ≤ a) : FC V (th_seg V1 a lo n f) := fun b h1 h2 => (th_seg_ne (by omega)).trans (h b h1 h2)
/-- a public call of the class -/
def CP (N : Nat) (SH : Nat → Option th_K0) (V : th_Vl) (av : Int32) (s' : th_Vl) : Option Value → th_S → Prop := fun r S' => ∃ N' SH' V', S' = (N', SH', V') ∧ r = some (.int av) ∧ CR N' SH' V' s' ∧ FC V V' ∧ (∀ a, 36 ≤ a → a < 64 → SH' a = SH a) ∧ N ≤ N'
theorem RS.c {N : Nat} {SH : Nat → Option th_K0} {V V' : th_Vl} {R L : Nat} {rd ld : Nat → Nat} {eR eL : Nat} (h : RS N SH V R L rd ld eR eL) (e1 : V' 15 = V 15) (e2 : V' 30 = V 30) : RS N SH V' R L rd ld eR eL := by
  obtain ⟨h1, h2, h3, h4, h5, h6, h7, h8⟩ := h
  refine ⟨h1, h2, h3, h4, h5, ?_, ?_, h8⟩
  · unfold LST at h6 ⊢; rw [e1]; exact h6
  · unfold LST at h7 ⊢; rw [e2]; exact h7
theorem CP.mk {N : Nat} {SH : Nat → Option th_K0} {V : th_Vl} {av v : Int32} {s s' : th_Vl} {rd ld : Nat → Nat} {eR eL : Nat} (V' : th_Vl) (h1 : av = v) (hS : RS N SH V (ix (s 36 6)) (ix (s 36 11)) rd ld eR eL) (e1 : V' 15 = V 15) (e2 : V' 30 = V 30) (hR : s' 36 6 = s 36 6) (hL : s' 36 11 = s 36 11) (hN : RN V' s' (ix (s 36 6)) (ix (s 36 11)) rd ld) (hF : FC V V') : CP N SH V av s' (some (.int v)) (N, SH, V') :=
  ⟨N, SH, V', rfl, by rw [h1], ⟨rd, ld, eR, eL, by rw [hR, hL]; exact hS.c e1 e2, by rw [hR, hL]; exact hN⟩, hF, fun _ _ _ => rfl, Nat.le_refl _⟩
/-- the class's scratch: look, reader, a raw crossing's hits -/
def scr (a : Nat) : Prop := (16 ≤ a ∧ a ≤ 26) ∨ a = 29 ∨ a = 35
def frS (V V' : th_Vl) : Prop := ∀ a, ¬ scr a → V' a = V a
theorem frS.rf {V : th_Vl} : frS V V := fun _ _ => rfl
theorem frS.tr {V V1 V2 : th_Vl} (h1 : frS V V1) (h2 : frS V1 V2) : frS V V2 := fun a h => (h2 a h).trans (h1 a h)
theorem frS.w {V V1 : th_Vl} {a k : Nat} {x : Int32} (h : frS V V1) (ha : scr a) : frS V (th_w V1 a k x) := fun b hb => (th_w_ne (fun e : b = a => hb (by rw [e]; exact ha))).trans (h b hb)
theorem frS.sg {V V1 : th_Vl} {a lo n : Nat} {f : Nat → Int32} (h : frS V V1) (ha : scr a) : frS V (th_seg V1 a lo n f) := fun b hb => (th_seg_ne (fun e : b = a => hb (by rw [e]; exact ha))).trans (h b hb)
theorem frS.FC {V V' : th_Vl} (h : frS V V') : FC V V' := fun a h1 h2 => h a (by unfold scr; omega)
theorem shR.c {V V' s s' : th_Vl} {r : Nat} (h : shR V s r) (e1 : V' (6 + 2 * r) = V (6 + 2 * r)) (e2 : V' (7 + 2 * r) = V (7 + 2 * r)) (e3 : s' 37 = s 37) (e4 : s' 38 = s 38) (e5 : s' 39 = s 39) : shR V' s' r := by
  unfold shR at h ⊢
  rw [e1, e2, e3, e4, e5]
  exact h
theorem eqL.c {V V' s s' : th_Vl} (h : eqL V s) (e1 : V' 12 = V 12) (e2 : V' 13 = V 13) (e3 : V' 14 = V 14) (e4 : s' 40 = s 40) (e5 : s' 41 = s 41) (e6 : s' 42 = s 42) : eqL V' s' := by
  unfold eqL at h ⊢
  rw [e1, e2, e3, e4, e5, e6]
  exact h
theorem eqW.c {V V' s s' : th_Vl} (h : eqW V s) (e1 : V' 32 = V 32) (e2 : V' 33 = V 33) (e3 : V' 34 = V 34) (e4 : s' 54 = s 54) (e5 : s' 55 = s 55) (e6 : s' 56 = s 56) : eqW V' s' := by
  unfold eqW at h ⊢
  rw [e1, e2, e3, e4, e5, e6]
  exact h
theorem tpR.c {V V' s s' : th_Vl} (h : tpR V s) (e1 : V' 27 = V 27) (e2 : V' 28 = V 28) (e3 : s' 36 10 = s 36 10) (e4 : s' 45 = s 45) : tpR V' s' := by
  unfold tpR at h ⊢
  rw [e1, e2, e3, e4]
  exact h
theorem rdR.c {V V' s s' : th_Vl} {a j : Nat} (h : rdR V s a j) (e1 : V' a = V a) (e2 : V' (a + 1) = V (a + 1)) (e3 : V' (a + 2) = V (a + 2)) (e4 : s' 44 = s 44) (e5 : s' 43 = s 43) : rdR V' s' a j := by
  unfold rdR at h ⊢
  rw [e1, e2, e3, e4, e5]
  exact h
theorem lnR.c {V V' s s' : th_Vl} {a j : Nat} (h : lnR V s a j) (e1 : V' a = V a) (e2 : V' (a + 1) = V (a + 1)) (e3 : V' (a + 2) = V (a + 2)) (q1 : s' 49 = s 49) (q2 : s' 48 = s 48) (q3 : s' 50 = s 50) (q4 : s' 51 = s 51) (q5 : s' 52 = s 52) (q6 : s' 53 = s 53) (q7 : s' 47 = s 47) (q8 : s' 46 = s 46) : lnR V' s' a j := by
  unfold lnR at h ⊢
  rw [e1, e2, e3, q1, q2, q3, q4, q5, q6, q7, q8]
  exact h
/-- what class and reference have in common stays if only scratch changes -/
theorem RN.fr {V V' s : th_Vl} {N R L : Nat} {SH : Nat → Option th_K0} {rd ld : Nat → Nat} {eR eL : Nat} (hS : RS N SH V R L rd ld eR eL) (h : RN V s R L rd ld) (hf : frS V V') : RN V' s R L rd ld := by
  obtain ⟨h1, h2, h3, h4, h5, h6, h7⟩ := h
  obtain ⟨-, -, -, -, -, -, -, -, g1, -, g2, -⟩ := hS
  have k : ∀ a, a < 16 ∨ 64 ≤ a ∨ a = 27 ∨ a = 28 ∨ (30 ≤ a ∧ a < 35) → V' a = V a := fun a ha => hf a (by unfold scr; omega)
  refine ⟨fun r hr => (h1 r hr).c (k _ (by omega)) (k _ (by omega)) rfl rfl rfl, h2.c (k _ (by omega)) (k _ (by omega)) (k _ (by omega)) rfl rfl rfl, ?_, h4.c (k _ (by omega)) (k _ (by omega)) (k _ (by omega)) rfl rfl rfl, h5.c (k _ (by omega)) (k _ (by omega)) rfl rfl, fun j hj => ?_, fun j hj => ?_⟩
  · unfold eqF at h3 ⊢
    rw [k 4 (by omega), k 31 (by omega)]
    exact h3
  · have := (g1 j hj).1
    exact (h6 j hj).c (k _ (by omega)) (k _ (by omega)) (k _ (by omega)) rfl rfl
  · have := (g2 j hj).1
    exact (h7 j hj).c (k _ (by omega)) (k _ (by omega)) (k _ (by omega)) rfl rfl rfl rfl rfl rfl rfl rfl
theorem CP.same {N : Nat} {SH : Nat → Option th_K0} {V s : th_Vl} {av v : Int32} {rd ld : Nat → Nat} {eR eL : Nat} (hS : RS N SH V (ix (s 36 6)) (ix (s 36 11)) rd ld eR eL) (hN : RN V s (ix (s 36 6)) (ix (s 36 11)) rd ld) (V' : th_Vl) (hf : frS V V') (h1 : av = v) : CP N SH V av s (some (.int v)) (N, SH, V') :=
  CP.mk V' h1 hS (hf _ (by unfold scr; omega)) (hf _ (by unfold scr; omega)) rfl rfl (RN.fr hS hN hf) hf.FC
/-! the class's small questions -/
section C1
variable {G : th_G} {l : Launch} {d : Nat} {S : th_S}
theorem c_isLayer (x : Int32) : MT G l yX9_isLayer kX9_isLayer d 0 0 [.int x] S (th_bo (inR x 0 4) S) := by
  refine MT.of (by decide) rfl rfl (n := 0) rfl (ls := [some (.int x)]) rfl ?_
  have e5 : (5 : Int32).toInt = 5 := by decide
  have e0 : (0 : Int32).toInt = 0 := by decide
  refine ev_iload0 (q := 1) dX9_isLayer_0 rfl ?_
  refine ev_if_lt (q := 4) (t := 13) dX9_isLayer_1 rfl (by decide) (fun c1 => ?_) (fun c1 => ?_)
  · refine ev_iconst (q := 14) (v := 0) dX9_isLayer_13 rfl rfl ?_
    exact ev_ireturn dX9_isLayer_14 rfl rfl ⟨rfl, Or.inr ⟨fun h => by have := i_lt.mp c1; have := h.1; omega, rfl⟩⟩
  · refine ev_iload0 (q := 5) dX9_isLayer_4 rfl ?_
    refine ev_iconst (q := 6) (v := 5) dX9_isLayer_5 rfl rfl ?_
    refine ev_icmp_ge (q := 9) (t := 13) dX9_isLayer_6 rfl (by decide) (fun c6 => ?_) (fun c6 => ?_)
    · refine ev_iconst (q := 14) (v := 0) dX9_isLayer_13 rfl rfl ?_
      exact ev_ireturn dX9_isLayer_14 rfl rfl ⟨rfl, Or.inr ⟨fun h => by have := i_le.mp c6; have := h.2; omega, rfl⟩⟩
    · refine ev_iconst (q := 10) (v := 1) dX9_isLayer_9 rfl rfl ?_
      refine ev_goto (q := 14) dX9_isLayer_10 (by decide) ?_
      exact ev_ireturn dX9_isLayer_14 rfl rfl ⟨rfl, Or.inl ⟨by have := i_nlt c1; have := i_nle c6; constructor <;> omega, rfl⟩⟩
theorem c_areCells (x : Int32) : MT G l yX9_areCells kX9_areCells d 0 0 [.int x] S (th_bo (inR x 0 65535) S) := by
  refine MT.of (by decide) rfl rfl (n := 0) rfl (ls := [some (.int x)]) rfl ?_
  have e5 : (65535 : Int32).toInt = 65535 := by decide
  have e0 : (0 : Int32).toInt = 0 := by decide
  refine ev_iload0 (q := 1) dX9_areCells_0 rfl ?_
  refine ev_if_lt (q := 4) (t := 14) dX9_areCells_1 rfl (by decide) (fun c1 => ?_) (fun c1 => ?_)
  · refine ev_iconst (q := 15) (v := 0) dX9_areCells_14 rfl rfl ?_
    exact ev_ireturn dX9_areCells_15 rfl rfl ⟨rfl, Or.inr ⟨fun h => by have := i_lt.mp c1; have := h.1; omega, rfl⟩⟩
  · refine ev_iload0 (q := 5) dX9_areCells_4 rfl ?_
    refine ev_ldc (q := 7) dX9_areCells_5 q_X9_101 rfl ?_
    refine ev_icmp_gt (q := 10) (t := 14) dX9_areCells_7 rfl (by decide) (fun c7 => ?_) (fun c7 => ?_)
    · refine ev_iconst (q := 15) (v := 0) dX9_areCells_14 rfl rfl ?_
      exact ev_ireturn dX9_areCells_15 rfl rfl ⟨rfl, Or.inr ⟨fun h => by have := i_lt.mp c7; have := h.2; omega, rfl⟩⟩
    · refine ev_iconst (q := 11) (v := 1) dX9_areCells_10 rfl rfl ?_
      refine ev_goto (q := 15) dX9_areCells_11 (by decide) ?_
      exact ev_ireturn dX9_areCells_15 rfl rfl ⟨rfl, Or.inl ⟨by have := i_nlt c1; have := i_nlt c7; constructor <;> omega, rfl⟩⟩
theorem c_isShare (x : Int32) : MT G l yX9_isShare kX9_isShare d 0 0 [.int x] S (th_bo (inR x 1 100) S) := by
  refine MT.of (by decide) rfl rfl (n := 0) rfl (ls := [some (.int x)]) rfl ?_
  have e5 : (100 : Int32).toInt = 100 := by decide
  have e0 : (1 : Int32).toInt = 1 := by decide
  refine ev_iload0 (q := 1) dX9_isShare_0 rfl ?_
  refine ev_iconst (q := 2) (v := 1) dX9_isShare_1 rfl rfl ?_
  refine ev_icmp_lt (q := 5) (t := 15) dX9_isShare_2 rfl (by decide) (fun c2 => ?_) (fun c2 => ?_)
  · refine ev_iconst (q := 16) (v := 0) dX9_isShare_15 rfl rfl ?_
    exact ev_ireturn dX9_isShare_16 rfl rfl ⟨rfl, Or.inr ⟨fun h => by have := i_lt.mp c2; have := h.1; omega, rfl⟩⟩
  · refine ev_iload0 (q := 6) dX9_isShare_5 rfl ?_
    refine ev_bipush (q := 8) (v := 100) dX9_isShare_6 rfl rfl ?_
    refine ev_icmp_gt (q := 11) (t := 15) dX9_isShare_8 rfl (by decide) (fun c8 => ?_) (fun c8 => ?_)
    · refine ev_iconst (q := 16) (v := 0) dX9_isShare_15 rfl rfl ?_
      exact ev_ireturn dX9_isShare_16 rfl rfl ⟨rfl, Or.inr ⟨fun h => by have := i_lt.mp c8; have := h.2; omega, rfl⟩⟩
    · refine ev_iconst (q := 12) (v := 1) dX9_isShare_11 rfl rfl ?_
      refine ev_goto (q := 16) dX9_isShare_12 (by decide) ?_
      exact ev_ireturn dX9_isShare_16 rfl rfl ⟨rfl, Or.inl ⟨by have := i_nlt c2; have := i_nlt c8; constructor <;> omega, rfl⟩⟩
theorem c_isSpan (v : Int32) : MT G l yX9_isSpan kX9_isSpan d 0 0 [.int v] S (th_bo (isSp v) S) := by
  refine MT.of (by decide) rfl rfl (n := 2) rfl (ls := [some (.int v), none, none]) rfl ?_
  refine ev_iload0 (q := 1) dX9_isSpan_0 rfl ?_
  refine ev_if_ge (q := 4) (t := 6) dX9_isSpan_1 rfl (by decide) (fun c1 => ?_) (fun c1 => ?_)
  · refine ev_iload0 (q := 7) dX9_isSpan_6 rfl ?_
    refine ev_bipush (q := 9) (v := 100) dX9_isSpan_7 rfl rfl ?_
    refine ev_idiv (q := 10) dX9_isSpan_9 (by decide) rfl ?_
    refine ev_istore1 (q := 11) dX9_isSpan_10 rfl (by decide) rfl ?_
    refine ev_iload0 (q := 12) dX9_isSpan_11 rfl ?_
    refine ev_bipush (q := 14) (v := 100) dX9_isSpan_12 rfl rfl ?_
    refine ev_irem (q := 15) dX9_isSpan_14 (by decide) rfl ?_
    refine ev_istore2 (q := 16) dX9_isSpan_15 rfl (by decide) rfl ?_
    refine ev_iload1 (q := 17) dX9_isSpan_16 rfl ?_
    refine ev_iload2 (q := 18) dX9_isSpan_17 rfl ?_
    refine ev_icmp_gt (q := 21) (t := 38) dX9_isSpan_18 rfl (by decide) (fun c18 => ?_) (fun c18 => ?_)
    · refine ev_iconst (q := 39) (v := 0) dX9_isSpan_38 rfl rfl ?_
      exact ev_ireturn dX9_isSpan_39 rfl rfl ⟨rfl, Or.inr ⟨fun h => absurd (i_lt.mp c18) (Int.not_lt.mpr h.2.1), rfl⟩⟩
    · refine ev_iload2 (q := 22) dX9_isSpan_21 rfl ?_
      refine ev_bipush (q := 24) (v := 16) dX9_isSpan_22 rfl rfl ?_
      refine ev_icmp_ge (q := 27) (t := 38) dX9_isSpan_24 rfl (by decide) (fun c24 => ?_) (fun c24 => ?_)
      · refine ev_iconst (q := 39) (v := 0) dX9_isSpan_38 rfl rfl ?_
        exact ev_ireturn dX9_isSpan_39 rfl rfl ⟨rfl, Or.inr ⟨fun h => absurd (i_le.mp c24) (Int.not_le.mpr h.2.2.1), rfl⟩⟩
      · refine ev_iload2 (q := 28) dX9_isSpan_27 rfl ?_
        refine ev_iload1 (q := 29) dX9_isSpan_28 rfl ?_
        refine ev_isub (q := 30) dX9_isSpan_29 rfl ?_
        refine ev_iconst (q := 31) (v := 3) dX9_isSpan_30 rfl rfl ?_
        refine ev_icmp_gt (q := 34) (t := 38) dX9_isSpan_31 rfl (by decide) (fun c31 => ?_) (fun c31 => ?_)
        · refine ev_iconst (q := 39) (v := 0) dX9_isSpan_38 rfl rfl ?_
          exact ev_ireturn dX9_isSpan_39 rfl rfl ⟨rfl, Or.inr ⟨fun h => absurd (i_lt.mp c31) (Int.not_lt.mpr h.2.2.2), rfl⟩⟩
        · refine ev_iconst (q := 35) (v := 1) dX9_isSpan_34 rfl rfl ?_
          refine ev_goto (q := 39) dX9_isSpan_35 (by decide) ?_
          exact ev_ireturn dX9_isSpan_39 rfl rfl ⟨rfl, Or.inl ⟨⟨i_le.mp c1, i_nlt c18, i_nle c24, i_nlt c31⟩, rfl⟩⟩
  · refine ev_iconst (q := 5) (v := 0) dX9_isSpan_4 rfl rfl ?_
    exact ev_ireturn dX9_isSpan_5 rfl rfl ⟨rfl, Or.inr ⟨fun h => absurd (i_nle c1) (Int.not_lt.mpr h.1), rfl⟩⟩
end C1
