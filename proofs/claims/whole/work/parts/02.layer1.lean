/-! ===== the layer: a method's states by names (addresses, shapes, numbers), each row out of a row of the kit ===== -/
/-- a cell's shape: an array (kind, length, references) or an object (class, references) -/
abbrev th_K0 : Type := (Nat × Nat × (Nat → Option Nat)) ⊕ (Nat × (Nat → Option Nat))
/-- the heap by names: the next address, the shapes, the numbers -/
abbrev th_S : Type := Nat × (Nat → Option th_K0) × (Nat → Nat → Int32)
/-- what is fixed: the first new cell's place, the old objects' places, the classes, the array classes, the script -/
abbrev th_G : Type := Nat × (Nat → Nat) × va_G × (Nat → ClassId) × Nat × (Nat → Int32)
def th_ad (G : th_G) (a : Nat) : Nat := if a < 4 then G.2.1 a else G.1 + (a - 4)
def th_v (G : th_G) : Value → Value
  | .ref a => .ref (th_ad G a)
  | v => v
def th_A (G : th_G) : Nat → Prop := fun q => G.1 ≤ q
abbrev th_cl : List vw_C := [(RX0, TX0, 7), (RX1, TX1, 7), (RX2, TX2, 7), (RX3, TX3, 6), (RX4, TX4, 4), (RX5, TX5, 4), (RX6, TX6, 3), (RX7, TX7, 4), (RX8, TX8, 2), (RX9, TX9, 16), (RX10, TX10, 41), (RJx4a65c, TJx4a65c, 3)]
def th_ft (ci : Nat) : Nat → FieldType := match ci with
  | 0 => tyX0 | 1 => tyX1 | 2 => tyX2 | 3 => tyX3 | 4 => tyX4 | 5 => tyX5 | 6 => tyX6 | 7 => tyX7 | 8 => tyX8 | 9 => tyX9 | 10 => tyX10 | _ => tyJx4a65c
def th_nf (ci : Nat) : Nat := match ci with
  | 0 => 7 | 1 => 7 | 2 => 7 | 3 => 6 | 4 => 4 | 5 => 4 | 6 => 3 | 7 => 4 | 8 => 2 | 9 => 16 | 10 => 41 | _ => 3
/-- is a field one of references -/
def th_ir (ci k : Nat) : Bool := match th_ft ci k with
  | .object _ => true
  | .array _ => true
  | _ => false
def th_ty (t : Nat) : FieldType := match t with
  | 0 => .int | 1 => .byte | 2 => .char | 3 => .boolean | 4 => .object "TriggerHall$Sheet" | _ => .object "java/lang/Object"
abbrev th_tys (G : th_G) : List (ClassId × FieldType) := [(G.2.2.2.1 0, th_ty 0), (G.2.2.2.1 1, th_ty 1), (G.2.2.2.1 2, th_ty 2), (G.2.2.2.1 3, th_ty 3), (G.2.2.2.1 4, th_ty 4), (G.2.2.2.1 5, th_ty 5)]
def th_fv (G : th_G) (ci : Nat) (f : Nat → Option Nat) (v : Nat → Int32) (k : Nat) : Value := cond (th_ir ci k) (va_rf ((f k).map (th_ad G))) (.int (v k))
def th_e (G : th_G) (c : th_K0) (v : Nat → Int32) : va_E := match c with
  | .inl (t, n, f) => cond (Nat.blt t 4) (.inl (G.2.2.2.1 t, n, .inl v)) (.inl (G.2.2.2.1 t, n, .inr (.inr (.inr (.inr (fun j => (f j).map (th_ad G)))))))
  | .inr (ci, f) => .inr (ci, (List.range (th_nf ci)).map (th_fv G ci f v))
def th_R (G : th_G) (S : th_S) (H : Heap) : Prop := 4 ≤ S.1 ∧ H.size + 4 = G.1 + S.1 ∧ ∀ (a : Nat) (c : th_K0), S.2.1 a = some c → (4 ≤ a ∧ a < S.1) ∧ va_at G.2.2.1 th_cl (th_ad G a, th_e G c (S.2.2 a)) H
def th_u {α : Type} (f : Nat → Option α) (a : Nat) (c : α) : Nat → Option α := fun b => cond (Nat.beq b a) (some c) (f b)
def th_w (V : Nat → Nat → Int32) (a k : Nat) (x : Int32) : Nat → Nat → Int32 := fun b j => cond (Nat.beq b a) (cond (Nat.beq j k) x (V b j)) (V b j)
def th_z (V : Nat → Nat → Int32) (a : Nat) : Nat → Nat → Int32 := fun b => cond (Nat.beq b a) (fun _ => 0) (V b)
def th_pI (S : th_S) (a k : Nat) (x : Int32) : th_S := (S.1, S.2.1, th_w S.2.2 a k x)
def th_pC (S : th_S) (a : Nat) (c : th_K0) : th_S := (S.1, th_u S.2.1 a c, S.2.2)
def th_nw (S : th_S) (c : th_K0) : th_S := (S.1 + 1, th_u S.2.1 S.1 c, th_z S.2.2 S.1)
theorem th_w_ne {V : Nat → Nat → Int32} {a k b : Nat} {x : Int32} (h : b ≠ a) : th_w V a k x b = V b := by
  funext j
  have : Nat.beq b a = false := Bool.eq_false_iff.mpr (fun e => h (Nat.eq_of_beq_eq_true e))
  simp [th_w, this]
theorem th_w_eq {V : Nat → Nat → Int32} {a k j : Nat} {x : Int32} : th_w V a k x a j = cond (Nat.beq j k) x (V a j) := by
  simp [th_w]
theorem th_u_ne {α : Type} {f : Nat → Option α} {a b : Nat} {c : α} (h : b ≠ a) : th_u f a c b = f b := by
  have : Nat.beq b a = false := Bool.eq_false_iff.mpr (fun e => h (Nat.eq_of_beq_eq_true e))
  simp [th_u, this]
theorem th_u_eq {α : Type} {f : Nat → Option α} {a : Nat} {c : α} : th_u f a c a = some c := by simp [th_u]
theorem th_z_ne {V : Nat → Nat → Int32} {a b : Nat} (h : b ≠ a) : th_z V a b = V b := by
  have : Nat.beq b a = false := Bool.eq_false_iff.mpr (fun e => h (Nat.eq_of_beq_eq_true e))
  simp [th_z, this]
theorem th_z_eq {V : Nat → Nat → Int32} {a : Nat} : th_z V a a = fun _ => 0 := by simp [th_z]
theorem th_ad_in {G : th_G} {a : Nat} (h : 4 ≤ a) : th_ad G a = G.1 + (a - 4) := by simp [th_ad, Nat.not_lt.mpr h]
theorem th_ad_inj {G : th_G} {a b : Nat} (ha : 4 ≤ a) (hb : 4 ≤ b) (h : th_ad G a = th_ad G b) : a = b := by
  rw [th_ad_in ha, th_ad_in hb] at h
  omega
theorem th_R.get {G : th_G} {S : th_S} {H : Heap} {a : Nat} {c : th_K0} (h : th_R G S H) (ha : S.2.1 a = some c) : va_at G.2.2.1 th_cl (th_ad G a, th_e G c (S.2.2 a)) H := (h.2.2 a c ha).2
theorem th_R.inA {G : th_G} {S : th_S} {H : Heap} {a : Nat} {c : th_K0} (h : th_R G S H) (ha : S.2.1 a = some c) : th_A G (th_ad G a) := by
  have := (h.2.2 a c ha).1
  rw [th_ad_in this.1]
  exact Nat.le_add_right _ _
/-- a cell is written -/
theorem th_R.set {G : th_G} {S S' : th_S} {H H1 : Heap} {a : Nat} {c c' : th_K0} (h : th_R G S H) (ha : S.2.1 a = some c) (z : H1.size = H.size) (oq : ∀ q : Nat, q ≠ th_ad G a → H1[q]? = H[q]?) (hn : S'.1 = S.1) (hs : ∀ b, b ≠ a → S'.2.1 b = S.2.1 b) (hv : ∀ b, b ≠ a → S'.2.2 b = S.2.2 b) (hc : S'.2.1 a = some c') (he : va_at G.2.2.1 th_cl (th_ad G a, th_e G c' (S'.2.2 a)) H1) : th_R G S' H1 := by
  refine ⟨by rw [hn]; exact h.1, by rw [z, hn]; exact h.2.1, fun b d hb => ?_⟩
  have hra := (h.2.2 a c ha).1
  by_cases hba : b = a
  · subst hba
    cases hc.symm.trans hb
    exact ⟨by rw [hn]; exact hra, he⟩
  · rw [hs b hba] at hb
    obtain ⟨h1, h2⟩ := h.2.2 b d hb
    refine ⟨by rw [hn]; exact h1, ?_⟩
    rw [hv b hba]
    exact h2.kept (oq _ (fun e => hba (th_ad_inj h1.1 hra.1 e)))
/-- a cell is made -/
theorem th_R.push {G : th_G} {S : th_S} {H H1 : Heap} {c : th_K0} (h : th_R G S H) (z : H1.size = H.size + 1) (oq : ∀ q : Nat, q < H.size → H1[q]? = H[q]?) (he : va_at G.2.2.1 th_cl (H.size, th_e G c (fun _ => 0)) H1) : th_R G (th_nw S c) H1 ∧ th_ad G S.1 = H.size := by
  have hz : th_ad G S.1 = H.size := by rw [th_ad_in h.1]; have := h.2.1; have := h.1; omega
  refine ⟨⟨Nat.le_succ_of_le h.1, ?_, fun b d hb => ?_⟩, hz⟩
  · show H1.size + 4 = G.1 + (S.1 + 1)
    have := h.2.1
    omega
  · show (4 ≤ b ∧ b < S.1 + 1) ∧ va_at G.2.2.1 th_cl (th_ad G b, th_e G d (th_z S.2.2 S.1 b)) H1
    have hb : th_u S.2.1 S.1 c b = some d := hb
    by_cases hba : b = S.1
    · subst hba
      rw [th_u_eq] at hb
      cases hb
      rw [th_z_eq, hz]
      exact ⟨⟨h.1, Nat.lt_succ_self _⟩, he⟩
    · rw [th_u_ne hba] at hb
      obtain ⟨h1, h2⟩ := h.2.2 b d hb
      refine ⟨⟨h1.1, Nat.lt_succ_of_lt h1.2⟩, ?_⟩
      rw [th_z_ne hba]
      refine h2.kept (oq _ ?_)
      show th_ad G b < H.size
      exact h2.lt
theorem th_S_push {G : th_G} {H0 H H1 : Heap} {locs : List Loc} (h : va_S (th_A G) H0 H locs) (z : H1.size = H.size + 1) (oq : ∀ q : Nat, q < H.size → H1[q]? = H[q]?) : va_S (th_A G) H0 H1 locs :=
  ⟨Nat.le_trans h.1 (by omega), fun x h1 h2 => (oq x (Nat.lt_of_lt_of_le h1 h.1)).trans (h.2.1 x h1 h2), h.2.2⟩
/-! locals -/
def th_l (G : th_G) : Nat → List (Option Value) → List (Nat × Value)
  | _, [] => []
  | i, none :: r => th_l G (i + 1) r
  | i, some v :: r => (i, th_v G v) :: th_l G (i + 1) r
theorem th_l_mem {G : th_G} : ∀ (ls : List (Option Value)) (i k : Nat) (w : Value), (k, w) ∈ th_l G i ls ↔ ∃ (j : Nat) (v : Value), ls[j]? = some (some v) ∧ k = i + j ∧ w = th_v G v
  | [], i, k, w => by simp [th_l]
  | none :: r, i, k, w => by
    rw [th_l, th_l_mem r (i + 1) k w]
    constructor
    · rintro ⟨j, v, h1, h2, h3⟩
      exact ⟨j + 1, v, by simpa using h1, by omega, h3⟩
    · rintro ⟨j, v, h1, h2, h3⟩
      cases j with
      | zero => simp at h1
      | succ j => exact ⟨j, v, by simpa using h1, by omega, h3⟩
  | some x :: r, i, k, w => by
    rw [th_l, List.mem_cons, th_l_mem r (i + 1) k w]
    constructor
    · rintro (h | ⟨j, v, h1, h2, h3⟩)
      · cases h
        exact ⟨0, x, by simp, rfl, rfl⟩
      · exact ⟨j + 1, v, by simpa using h1, by omega, h3⟩
    · rintro ⟨j, v, h1, h2, h3⟩
      cases j with
      | zero =>
        simp at h1
        subst h1
        exact Or.inl (by rw [h2, h3]; rfl)
      | succ j => exact Or.inr ⟨j, v, by simpa using h1, by omega, h3⟩
def th_L (G : th_G) (LS : Array Slot) (nL : Nat) (ls : List (Option Value)) : Prop := lv_has LS nL (th_l G 0 ls)
theorem th_L.at {G : th_G} {LS : Array Slot} {nL i : Nat} {ls : List (Option Value)} {v : Value} (h : th_L G LS nL ls) (hi : ls[i]? = some (some v)) : LS[i]? = some (.val (th_v G v)) :=
  h.2.2 (i, th_v G v) ((th_l_mem ls 0 i _).mpr ⟨i, v, hi, by omega, rfl⟩)
def th_c1 (ls : List (Option Value)) : Bool := ls.all (fun o => match o with | some v => v.category == 1 | none => true)
theorem th_v_cat (G : th_G) (v : Value) : (th_v G v).category = v.category := by cases v <;> rfl
theorem th_L.set {G : th_G} {LS' : Array Slot} {nL i : Nat} {ls : List (Option Value)} {v : Value} (hc : th_c1 ls = true) (h' : lv_has LS' nL ((i, th_v G v) :: (th_l G 0 ls).filter (fun q => !(q.1 == i) && !(q.1 + 1 == i && q.2.category == 2)))) : th_L G LS' nL (ls.set i (some v)) := by
  refine ⟨h'.1, h'.2.1, fun q hq => ?_⟩
  obtain ⟨k, w⟩ := q
  obtain ⟨j, x, h1, h2, h3⟩ := (th_l_mem _ 0 k w).mp hq
  have hk : k = j := by omega
  subst hk
  subst h3
  refine h'.2.2 (k, th_v G x) ?_
  by_cases hki : k = i
  · subst hki
    have hl : k < ls.length := by
      have := (List.getElem?_eq_some_iff.mp h1).1
      simpa using this
    rw [List.getElem?_set_self hl] at h1
    cases h1
    exact List.mem_cons_self
  · rw [List.getElem?_set_ne (Ne.symm hki)] at h1
    refine List.mem_cons_of_mem _ (List.mem_filter.mpr ⟨(th_l_mem _ 0 k _).mpr ⟨k, x, h1, by omega, rfl⟩, ?_⟩)
    have hx : x.category = 1 := by
      have := List.all_eq_true.mp hc _ (List.mem_of_getElem? h1)
      simpa using this
    simp [hki, th_v_cat, hx]
def th_en : List Value → List (Option Value)
  | [] => []
  | v :: r => if v.category = 2 then some v :: none :: th_en r else some v :: th_en r
theorem th_en_mem {G : th_G} : ∀ (vs : List Value) (i n : Nat) (q : Nat × Value), q ∈ th_l G i (th_en vs ++ List.replicate n none) → q ∈ lv_args i (vs.map (th_v G))
  | [], i, n, q, h => by
    obtain ⟨k, w⟩ := q
    obtain ⟨j, v, h1, -⟩ := (th_l_mem _ i k w).mp h
    simp [th_en, List.getElem?_replicate] at h1
  | v :: r, i, n, q, h => by
    by_cases hv : v.category = 2
    · rw [th_en, if_pos hv] at h
      rw [List.map_cons, lv_args, th_v_cat, if_pos hv]
      rcases List.mem_cons.mp h with h | h
      · exact List.mem_cons.mpr (Or.inl h)
      · exact List.mem_cons_of_mem _ (th_en_mem r (i + 2) n q h)
    · rw [th_en, if_neg hv] at h
      rw [List.map_cons, lv_args, th_v_cat, if_neg hv]
      rcases List.mem_cons.mp h with h | h
      · exact List.mem_cons.mpr (Or.inl h)
      · exact List.mem_cons_of_mem _ (th_en_mem r (i + 1) n q h)
