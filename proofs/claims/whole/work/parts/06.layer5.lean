/-! arrays -/
theorem th_nI_in {i : Int32} {j n : Nat} (hi : i = nI j) (hj : j < n) (hn : n < 2 ^ 31) : ¬ (i < 0 ∨ n ≤ i.toNatClampNeg) := by rw [hi]; exact nI_in hj hn
theorem th_nI_cl {i : Int32} {j n : Nat} (hi : i = nI j) (hj : j < n) (hn : n < 2 ^ 31) : i.toNatClampNeg = j := by rw [hi]; exact nI_clamp (Nat.lt_trans hj hn)
theorem th_R.arr {G : th_G} {S : th_S} {H : Heap} {a t n : Nat} {f : Nat → Option Nat} (h : th_R G S H) (ha : S.2.1 a = some (.inl (t, n, f))) (ht : t < 4) : H[th_ad G a]? = some (arrV (G.2.2.2.1 t) n (fun j => .int (S.2.2 a j))) := by
  have h1 := h.get ha
  have : Nat.blt t 4 = true := Nat.ble_eq_true_of_le ht
  simp only [th_e, this, cond_true] at h1
  exact h1
theorem th_R.arq {G : th_G} {S : th_S} {H : Heap} {a t n : Nat} {f : Nat → Option Nat} (h : th_R G S H) (ha : S.2.1 a = some (.inl (t, n, f))) (ht : 4 ≤ t) : H[th_ad G a]? = some (arrV (G.2.2.2.1 t) n (fun j => va_rf ((f j).map (th_ad G)))) := by
  have h1 := h.get ha
  have : Nat.blt t 4 = false := by simp only [Nat.blt]; exact Bool.eq_false_iff.mpr (fun e => absurd (Nat.le_of_ble_eq_true e) (by omega))
  simp only [th_e, this, cond_false] at h1
  exact h1
theorem th_R.stI {G : th_G} {S : th_S} {H H1 : Heap} {a t n j : Nat} {f : Nat → Option Nat} {x : Int32} (h : th_R G S H) (ha : S.2.1 a = some (.inl (t, n, f))) (ht : t < 4) (z : H1.size = H.size) (oq : ∀ q : Nat, q ≠ th_ad G a → H1[q]? = H[q]?) (he : H1[th_ad G a]? = some ((arrV (G.2.2.2.1 t) n (fun j => .int (S.2.2 a j))).setSlot j (.int x))) : th_R G (th_pI S a j x) H1 := by
  refine h.set (S' := th_pI S a j x) ha z oq rfl (fun _ _ => rfl) (fun b hb => th_w_ne hb) ha ?_
  have hb : Nat.blt t 4 = true := Nat.ble_eq_true_of_le ht
  show va_at G.2.2.1 th_cl (th_ad G a, th_e G (.inl (t, n, f)) (th_w S.2.2 a j x a)) H1
  simp only [th_e, hb, cond_true]
  show H1[th_ad G a]? = some (vp_cell _ _)
  rw [he, vp_cell_i, arrV_store]
  congr 2
  funext q
  by_cases hq : q = j
  · subst hq
    simp [updV, th_w]
  · simp [updV, hq, th_w_j hq]
theorem th_R.stQ {G : th_G} {S : th_S} {H H1 : Heap} {a t n j b : Nat} {f : Nat → Option Nat} (h : th_R G S H) (ha : S.2.1 a = some (.inl (t, n, f))) (ht : 4 ≤ t) (z : H1.size = H.size) (oq : ∀ q : Nat, q ≠ th_ad G a → H1[q]? = H[q]?) (he : H1[th_ad G a]? = some ((arrV (G.2.2.2.1 t) n (fun j => va_rf ((f j).map (th_ad G)))).setSlot j (.ref (th_ad G b)))) : th_R G (th_pC S a (.inl (t, n, th_u f j b))) H1 := by
  refine h.set (S' := th_pC S a (.inl (t, n, th_u f j b))) ha z oq rfl (fun b hb => th_u_ne hb) (fun _ _ => rfl) th_u_eq ?_
  have hb : Nat.blt t 4 = false := by simp only [Nat.blt]; exact Bool.eq_false_iff.mpr (fun e => absurd (Nat.le_of_ble_eq_true e) (by omega))
  show va_at G.2.2.1 th_cl (th_ad G a, th_e G (.inl (t, n, th_u f j b)) (S.2.2 a)) H1
  simp only [th_e, hb, cond_false]
  show H1[th_ad G a]? = some (vp_cell _ _)
  rw [he, vp_cell_q, arrV_store]
  congr 2
  funext q
  by_cases hq : q = j
  · subst hq
    simp [updV, th_u, va_rf]
  · simp [updV, hq, th_u_ne hq]
theorem th_tyK {G : th_G} {s : State} (h : th_Amb G s) {t : Nat} (ht : t < 6) : ArrOfT s (G.2.2.2.1 t) (th_ty t) ∧ va_RA s (G.2.2.2.1 t) (th_ty t) := by
  match t, ht with
  | 0, _ => exact h.1.2 0 _ rfl
  | 1, _ => exact h.1.2 1 _ rfl
  | 2, _ => exact h.1.2 2 _ rfl
  | 3, _ => exact h.1.2 3 _ rfl
  | 4, _ => exact h.1.2 4 _ rfl
  | 5, _ => exact h.1.2 5 _ rfl
section EVA
variable {G : th_G} {l : Launch} {K : th_M} {d bc bs pc q : Nat} {ls : List (Option Value)} {st : List Value} {S : th_S} {post : Option Value → th_S → Prop}
theorem ev_iald {a n j : Nat} {f : Nat → Option Nat} {i : Int32} (hd : decode K.1 pc = .ok (.iaload, 1)) (ha : S.2.1 a = some (.inl (0, n, f))) (hi : i = nI j) (hj : j < n) (hn : n < 2 ^ 31) (hq : pc + 1 = q) (kk : EV G l K d bc bs q ls (.int (S.2.2 a j) :: st) S post) : EV G l K d bc bs pc ls (.int i :: .ref a :: st) S post := by
  subst hq
  intro p e R s m args below meth c Q F Rt hf hlc H locs cells slots LS hc hs hR hS hL
  exact W.iald (v := .int (S.2.2 a j)) F.1 F.2.1 (hR.arr ha (by decide)) ((th_tyK F.2.2.2.2.2.2 (t := 0) (by decide)).1 n (fun j => .int (S.2.2 a j))) (fun q => by cases q) (by rw [arrV_size]; exact th_nI_in hi hj hn) (by rw [th_nI_cl hi hj hn, arrV_read _ _ hj]) rfl rfl hd (kk p e R s m args below meth c Q F Rt hf hlc H locs cells slots LS hc hs hR hS hL)
theorem ev_bald {a n j : Nat} {f : Nat → Option Nat} {i : Int32} (hd : decode K.1 pc = .ok (.baload, 1)) (ha : S.2.1 a = some (.inl (1, n, f))) (hi : i = nI j) (hj : j < n) (hn : n < 2 ^ 31) (hq : pc + 1 = q) (kk : EV G l K d bc bs q ls (.int (S.2.2 a j) :: st) S post) : EV G l K d bc bs pc ls (.int i :: .ref a :: st) S post := by
  subst hq
  intro p e R s m args below meth c Q F Rt hf hlc H locs cells slots LS hc hs hR hS hL
  exact W.bald (v := .int (S.2.2 a j)) F.1 F.2.1 (hR.arr ha (by decide)) ((th_tyK F.2.2.2.2.2.2 (t := 1) (by decide)).1 n (fun j => .int (S.2.2 a j))) (fun q => by cases q) (by rw [arrV_size]; exact th_nI_in hi hj hn) (by rw [th_nI_cl hi hj hn, arrV_read _ _ hj]) rfl rfl hd (kk p e R s m args below meth c Q F Rt hf hlc H locs cells slots LS hc hs hR hS hL)
theorem ev_cald {a n j : Nat} {f : Nat → Option Nat} {i : Int32} (hd : decode K.1 pc = .ok (.caload, 1)) (ha : S.2.1 a = some (.inl (2, n, f))) (hi : i = nI j) (hj : j < n) (hn : n < 2 ^ 31) (hq : pc + 1 = q) (kk : EV G l K d bc bs q ls (.int (S.2.2 a j) :: st) S post) : EV G l K d bc bs pc ls (.int i :: .ref a :: st) S post := by
  subst hq
  intro p e R s m args below meth c Q F Rt hf hlc H locs cells slots LS hc hs hR hS hL
  exact W.cald (v := .int (S.2.2 a j)) F.1 F.2.1 (hR.arr ha (by decide)) ((th_tyK F.2.2.2.2.2.2 (t := 2) (by decide)).1 n (fun j => .int (S.2.2 a j))) (fun q => by cases q) (by rw [arrV_size]; exact th_nI_in hi hj hn) (by rw [th_nI_cl hi hj hn, arrV_read _ _ hj]) rfl rfl hd (kk p e R s m args below meth c Q F Rt hf hlc H locs cells slots LS hc hs hR hS hL)
theorem ev_zald {a n j : Nat} {f : Nat → Option Nat} {i : Int32} (hd : decode K.1 pc = .ok (.baload, 1)) (ha : S.2.1 a = some (.inl (3, n, f))) (hi : i = nI j) (hj : j < n) (hn : n < 2 ^ 31) (hq : pc + 1 = q) (kk : EV G l K d bc bs q ls (.int (S.2.2 a j) :: st) S post) : EV G l K d bc bs pc ls (.int i :: .ref a :: st) S post := by
  subst hq
  intro p e R s m args below meth c Q F Rt hf hlc H locs cells slots LS hc hs hR hS hL
  exact W.zald (v := .int (S.2.2 a j)) F.1 F.2.1 (hR.arr ha (by decide)) ((th_tyK F.2.2.2.2.2.2 (t := 3) (by decide)).1 n (fun j => .int (S.2.2 a j))) (fun q => by cases q) (by rw [arrV_size]; exact th_nI_in hi hj hn) (by rw [th_nI_cl hi hj hn, arrV_read _ _ hj]) rfl rfl hd (kk p e R s m args below meth c Q F Rt hf hlc H locs cells slots LS hc hs hR hS hL)
theorem ev_iast {a n j : Nat} {f : Nat → Option Nat} {i x : Int32} (hd : decode K.1 pc = .ok (.iastore, 1)) (ha : S.2.1 a = some (.inl (0, n, f))) (hi : i = nI j) (hj : j < n) (hn : n < 2 ^ 31) (hq : pc + 1 = q) (kk : EV G l K d bc bs q ls st (th_pI S a j x) post) : EV G l K d bc bs pc ls (.int x :: .int i :: .ref a :: st) S post := by
  subst hq
  intro p e R s m args below meth c Q F Rt hf hlc H locs cells slots LS hc hs hR hS hL
  refine W.iast F.1 F.2.1 (hR.arr ha (by decide)) ((th_tyK F.2.2.2.2.2.2 (t := 0) (by decide)).1 n (fun j => .int (S.2.2 a j))) (fun q => by cases q) (by rw [arrV_size]; exact th_nI_in hi hj hn) rfl rfl hd (fun H1 e1 e2 e3 => ?_)
  rw [th_nI_cl hi hj hn] at e1
  exact kk p e R s m args below meth c Q F Rt hf hlc H1 _ cells slots LS hc hs (hR.stI ha (by decide) e2 e3 e1) (hS.put e2 e3 (hR.inA ha)) hL
theorem ev_bast {a n j : Nat} {f : Nat → Option Nat} {i x : Int32} (hd : decode K.1 pc = .ok (.bastore, 1)) (ha : S.2.1 a = some (.inl (1, n, f))) (hi : i = nI j) (hj : j < n) (hn : n < 2 ^ 31) (hq : pc + 1 = q) (kk : EV G l K d bc bs q ls st (th_pI S a j (vp_nar .byte x)) post) : EV G l K d bc bs pc ls (.int x :: .int i :: .ref a :: st) S post := by
  subst hq
  intro p e R s m args below meth c Q F Rt hf hlc H locs cells slots LS hc hs hR hS hL
  refine W.bast F.1 F.2.1 (hR.arr ha (by decide)) ((th_tyK F.2.2.2.2.2.2 (t := 1) (by decide)).1 n (fun j => .int (S.2.2 a j))) (fun q => by cases q) (by rw [arrV_size]; exact th_nI_in hi hj hn) rfl rfl hd (fun H1 e1 e2 e3 => ?_)
  rw [th_nI_cl hi hj hn] at e1
  exact kk p e R s m args below meth c Q F Rt hf hlc H1 _ cells slots LS hc hs (hR.stI ha (by decide) e2 e3 e1) (hS.put e2 e3 (hR.inA ha)) hL
theorem ev_cast {a n j : Nat} {f : Nat → Option Nat} {i x : Int32} (hd : decode K.1 pc = .ok (.castore, 1)) (ha : S.2.1 a = some (.inl (2, n, f))) (hi : i = nI j) (hj : j < n) (hn : n < 2 ^ 31) (hq : pc + 1 = q) (kk : EV G l K d bc bs q ls st (th_pI S a j (vp_nar .char x)) post) : EV G l K d bc bs pc ls (.int x :: .int i :: .ref a :: st) S post := by
  subst hq
  intro p e R s m args below meth c Q F Rt hf hlc H locs cells slots LS hc hs hR hS hL
  refine W.cast F.1 F.2.1 (hR.arr ha (by decide)) ((th_tyK F.2.2.2.2.2.2 (t := 2) (by decide)).1 n (fun j => .int (S.2.2 a j))) (fun q => by cases q) (by rw [arrV_size]; exact th_nI_in hi hj hn) rfl rfl hd (fun H1 e1 e2 e3 => ?_)
  rw [th_nI_cl hi hj hn] at e1
  exact kk p e R s m args below meth c Q F Rt hf hlc H1 _ cells slots LS hc hs (hR.stI ha (by decide) e2 e3 e1) (hS.put e2 e3 (hR.inA ha)) hL
theorem ev_zast {a n j : Nat} {f : Nat → Option Nat} {i x : Int32} (hd : decode K.1 pc = .ok (.bastore, 1)) (ha : S.2.1 a = some (.inl (3, n, f))) (hi : i = nI j) (hj : j < n) (hn : n < 2 ^ 31) (hq : pc + 1 = q) (kk : EV G l K d bc bs q ls st (th_pI S a j (vp_nar .boolean x)) post) : EV G l K d bc bs pc ls (.int x :: .int i :: .ref a :: st) S post := by
  subst hq
  intro p e R s m args below meth c Q F Rt hf hlc H locs cells slots LS hc hs hR hS hL
  refine W.zast F.1 F.2.1 (hR.arr ha (by decide)) ((th_tyK F.2.2.2.2.2.2 (t := 3) (by decide)).1 n (fun j => .int (S.2.2 a j))) (fun q => by cases q) (by rw [arrV_size]; exact th_nI_in hi hj hn) rfl rfl hd (fun H1 e1 e2 e3 => ?_)
  rw [th_nI_cl hi hj hn] at e1
  exact kk p e R s m args below meth c Q F Rt hf hlc H1 _ cells slots LS hc hs (hR.stI ha (by decide) e2 e3 e1) (hS.put e2 e3 (hR.inA ha)) hL
theorem ev_aald {a n j b t : Nat} {f : Nat → Option Nat} {i : Int32} (hd : decode K.1 pc = .ok (.aaload, 1)) (ha : S.2.1 a = some (.inl (t, n, f))) (h4 : 4 ≤ t) (h6 : t < 6) (hi : i = nI j) (hj : j < n) (hn : n < 2 ^ 31) (hb : f j = some b) (hq : pc + 1 = q) (kk : EV G l K d bc bs q ls (.ref b :: st) S post) : EV G l K d bc bs pc ls (.int i :: .ref a :: st) S post := by
  subst hq
  intro p e R s m args below meth c Q F Rt hf hlc H locs cells slots LS hc hs hR hS hL
  have hty : (th_ty t).isReference = true := by
    rcases (show t = 4 ∨ t = 5 by omega) with rfl | rfl <;> rfl
  exact W.aald (v := .ref (th_ad G b)) (ty := th_ty t) F.1 F.2.1 (hR.arq ha h4) ((th_tyK F.2.2.2.2.2.2 h6).1 n (fun j => va_rf ((f j).map (th_ad G)))) hty (fun q => by cases q) (by rw [arrV_size]; exact th_nI_in hi hj hn) (by rw [th_nI_cl hi hj hn, arrV_read _ _ hj, hb]; rfl) rfl rfl hd (kk p e R s m args below meth c Q F Rt hf hlc H locs cells slots LS hc hs hR hS hL)
/-- a reference is stored: the object's class goes into the array's -/
def th_as (ci t : Nat) : Prop := (ci = 7 ∧ t = 4) ∨ (t = 5 ∧ ∃ (C : String) (T : u_T) (N : Nat), th_cl[ci]? = some (C, T, N) ∧ Cond.castable C "java/lang/Object" ∈ th_N)
theorem ev_aast {a n j b t ci : Nat} {f g : Nat → Option Nat} {i : Int32} (hd : decode K.1 pc = .ok (.aastore, 1)) (ha : S.2.1 a = some (.inl (t, n, f))) (hb : S.2.1 b = some (.inr (ci, g))) (has : th_as ci t) (hi : i = nI j) (hj : j < n) (hn : n < 2 ^ 31) (hq : pc + 1 = q) (kk : EV G l K d bc bs q ls st (th_pC S a (.inl (t, n, th_u f j b))) post) : EV G l K d bc bs pc ls (.ref b :: .int i :: .ref a :: st) S post := by
  subst hq
  intro p e R s m args below meth c Q F Rt hf hlc H locs cells slots LS hc hs hR hS hL
  have h4 : 4 ≤ t := by
    rcases has with ⟨-, rfl⟩ | ⟨rfl, -⟩ <;> decide
  have h6 : t < 6 := by
    rcases has with ⟨-, rfl⟩ | ⟨rfl, -⟩ <;> decide
  have hK := F.2.2.2.2.2.2.1
  have hob := hR.get hb
  obtain ⟨r, hr, cellV, g1, g2, g3, -⟩ := hob
  have hcls := (hK.1 ci r hr).2
  obtain ⟨C, hC, kA, comp, k1, k2, k3, hasg⟩ : ∃ (C : String), th_ty t = .object C ∧ ∃ (kA : Class) (comp : ClassId), s.vm.classes[G.2.2.2.1 t]? = some kA ∧ kA.kind = .array comp (.object C) ∧ s.vm.findClass C = some comp ∧ s.vm.assignable (G.2.2.1.1 ci) comp = true := by
    rcases has with ⟨rfl, rfl⟩ | ⟨rfl, C1, T1, N1, hcl1, hca⟩
    · obtain ⟨kA, comp, k1, k2, k3, -⟩ := (th_tyK F.2.2.2.2.2.2 h6).2
      have hr7 : r = (RX7, TX7, 4) := Option.some.inj (hr.symm.trans rfl)
      subst hr7
      have hcomp : comp = G.2.2.1.1 7 := Option.some.inj (k3.symm.trans hcls.1)
      subst hcomp
      exact ⟨_, rfl, kA, _, k1, k2, k3, va_assign hcls⟩
    · obtain ⟨kA, comp, k1, k2, k3, -⟩ := (th_tyK F.2.2.2.2.2.2 h6).2
      have hr1 : r = (C1, T1, N1) := Option.some.inj (hr.symm.trans hcl1)
      subst hr1
      obtain ⟨c0, t1, f1, f2, f3⟩ := Cond.castable_spec (va_Nw.use (A := args) rfl (F.2.2.2.2.2.2.2.1 _ hca))
      cases hcls.1.symm.trans f1
      cases k3.symm.trans f2
      exact ⟨_, rfl, kA, comp, k1, k2, k3, f3⟩
  obtain ⟨kE, hkE, -⟩ := Vm.findClass_spec k3
  obtain ⟨kC, hkC, -⟩ := hcls.2
  refine W.aast F.1 F.2.1 (hR.arq ha h4) (fun q h => by cases h) (fun h => by cases h) k1 k2 rfl hkE ⟨by rw [hi]; exact nI_pos (Nat.lt_trans hj hn), by rw [th_nI_cl hi hj hn, arrV_size]; exact hj⟩ g1 (fun q h => by rw [g3] at h; cases h) (by rw [g2]; exact hkC) (by rw [g2]; exact hasg) rfl rfl hd (fun H1 e1 e2 e3 => ?_)
  rw [th_nI_cl hi hj hn] at e1
  exact kk p e R s m args below meth c Q F Rt hf hlc H1 _ cells slots LS hc hs (hR.stQ ha h4 e2 e3 e1) (hS.put e2 e3 (hR.inA ha)) hL
theorem ev_alen {a n t : Nat} {f : Nat → Option Nat} (hd : decode K.1 pc = .ok (.arraylength, 1)) (ha : S.2.1 a = some (.inl (t, n, f))) (h6 : t < 6) (hq : pc + 1 = q) (kk : EV G l K d bc bs q ls (.int (nI n) :: st) S post) : EV G l K d bc bs pc ls (.ref a :: st) S post := by
  subst hq
  intro p e R s m args below meth c Q F Rt hf hlc H locs cells slots LS hc hs hR hS hL
  by_cases h4 : t < 4
  · exact W.alen (n := nI n) F.1 F.2.1 (hR.arr ha h4) ((th_tyK F.2.2.2.2.2.2 h6).1 n (fun j => .int (S.2.2 a j))) (by rw [arrV_size]; rfl) rfl rfl hd (kk p e R s m args below meth c Q F Rt hf hlc H locs cells slots LS hc hs hR hS hL)
  · exact W.alen (n := nI n) F.1 F.2.1 (hR.arq ha (Nat.le_of_not_lt h4)) ((th_tyK F.2.2.2.2.2.2 h6).1 n (fun j => va_rf ((f j).map (th_ad G)))) (by rw [arrV_size]; rfl) rfl rfl hd (kk p e R s m args below meth c Q F Rt hf hlc H locs cells slots LS hc hs hR hS hL)
/-! the old arrays: the script (0), NO_CELLS (1), the lists' empty array (2) -/
theorem ev_xalen {a n : Nat} (hd : decode K.1 pc = .ok (.arraylength, 1)) (ha : (a = 0 ∧ n = G.2.2.2.2.1) ∨ (a = 2 ∧ n = 0)) (hq : pc + 1 = q) (kk : EV G l K d bc bs q ls (.int (nI n) :: st) S post) : EV G l K d bc bs pc ls (.ref a :: st) S post := by
  subst hq
  intro p e R s m args below meth c Q F Rt hf hlc H locs cells slots LS hc hs hR hS hL
  obtain ⟨-, -, -, -, ⟨t0, t1, t2⟩, -⟩ := F.2.2.2.2.2.2
  have kept : ∀ (ty : FieldType) (t N : Nat) (f : Nat → Value), va_T ty t N f (th_A G) s s.heap → va_T ty t N f (th_A G) s H := fun ty t N f h => h.kept hS.2.1
  rcases ha with ⟨rfl, rfl⟩ | ⟨rfl, rfl⟩
  · obtain ⟨cell, h1, h2, h3, h4, h5, -⟩ := kept _ _ _ _ t0
    exact W.alen F.1 F.2.1 h1 h2 h5 rfl rfl hd (kk p e R s m args below meth c Q F Rt hf hlc H locs cells slots LS hc hs hR hS hL)
  · obtain ⟨cell, h1, h2, h3, h4, h5, -⟩ := kept _ _ _ _ t2
    exact W.alen F.1 F.2.1 h1 h2 h5 rfl rfl hd (kk p e R s m args below meth c Q F Rt hf hlc H locs cells slots LS hc hs hR hS hL)
theorem ev_xald {a n j : Nat} {g : Nat → Int32} {i : Int32} (hd : decode K.1 pc = .ok (.iaload, 1)) (ha : (a = 0 ∧ n = G.2.2.2.2.1 ∧ g = G.2.2.2.2.2) ∨ (a = 1 ∧ n = 5 ∧ g = fun _ => 0)) (hi : i = nI j) (hj : j < n) (hn : n < 2 ^ 31) (hq : pc + 1 = q) (kk : EV G l K d bc bs q ls (.int (g j) :: st) S post) : EV G l K d bc bs pc ls (.int i :: .ref a :: st) S post := by
  subst hq
  intro p e R s m args below meth c Q F Rt hf hlc H locs cells slots LS hc hs hR hS hL
  obtain ⟨-, -, -, -, ⟨t0, t1, t2⟩, -⟩ := F.2.2.2.2.2.2
  have kept : ∀ (ty : FieldType) (t N : Nat) (f : Nat → Value), va_T ty t N f (th_A G) s s.heap → va_T ty t N f (th_A G) s H := fun ty t N f h => h.kept hS.2.1
  rcases ha with ⟨rfl, rfl, rfl⟩ | ⟨rfl, rfl, rfl⟩
  · obtain ⟨cell, h1, h2, h3, h4, h5, h6, -⟩ := kept _ _ _ _ t0
    exact W.iald F.1 F.2.1 h1 h2 h3 (by rw [hi]; exact fun z => z.elim (nI_pos (Nat.lt_trans hj hn)) (fun y => by rw [nI_clamp (Nat.lt_trans hj hn)] at y; omega)) (by rw [th_nI_cl hi hj hn]; exact h6 j hj) rfl rfl hd (kk p e R s m args below meth c Q F Rt hf hlc H locs cells slots LS hc hs hR hS hL)
  · obtain ⟨cell, h1, h2, h3, h4, h5, h6, -⟩ := kept _ _ _ _ t1
    exact W.iald F.1 F.2.1 h1 h2 h3 (by rw [hi]; exact fun z => z.elim (nI_pos (Nat.lt_trans hj hn)) (fun y => by rw [nI_clamp (Nat.lt_trans hj hn)] at y; omega)) (by rw [th_nI_cl hi hj hn]; exact h6 j hj) rfl rfl hd (kk p e R s m args below meth c Q F Rt hf hlc H locs cells slots LS hc hs hR hS hL)
theorem ev_getNC {i : Nat} (hd : decode K.1 pc = .ok (.getstatic i, 3)) (hw : Cond.fieldLink K.2.1 i "TriggerHall" "NO_CELLS" "[I" ∈ th_W) (hq : pc + 3 = q) (kk : EV G l K d bc bs q ls (.ref 1 :: st) S post) : EV G l K d bc bs pc ls st S post := by
  subst hq
  intro p e R s m args below meth c Q F Rt hf hlc H locs cells slots LS hc hs hR hS hL
  obtain ⟨-, -, -, -, -, ⟨z1, z2⟩, -⟩ := F.2.2.2.2.2.2
  exact va_gets F.1 F.2.1 z1 hS F.2.2.2.1 (F.2.2.2.2.2.1 _ hw) (fun _ h => h) hd (kk p e R s m args below meth c Q F Rt hf hlc H locs cells slots LS hc hs hR hS hL)
theorem ev_getDC {i : Nat} (hd : decode K.1 pc = .ok (.getstatic i, 3)) (hw : Cond.fieldLink K.2.1 i th_AL "DEFAULTCAPACITY_EMPTY_ELEMENTDATA" "[Ljava/lang/Object;" ∈ th_W) (hq : pc + 3 = q) (kk : EV G l K d bc bs q ls (.ref 2 :: st) S post) : EV G l K d bc bs pc ls st S post := by
  subst hq
  intro p e R s m args below meth c Q F Rt hf hlc H locs cells slots LS hc hs hR hS hL
  obtain ⟨-, -, -, -, -, ⟨z1, z2⟩, -⟩ := F.2.2.2.2.2.2
  exact va_gets F.1 F.2.1 z2 hS F.2.2.2.1 (F.2.2.2.2.2.1 _ hw) (fun _ h => h) hd (kk p e R s m args below meth c Q F Rt hf hlc H locs cells slots LS hc hs hR hS hL)
/-! cells that are made -/
theorem ev_newa {t n : Nat} {i : Int32} {at0 : ArrayType} (hd : decode K.1 pc = .ok (.newarray at0, 2)) (hty : newarray.typeOf at0 = th_ty t) (ht : t < 4) (hw : Cond.arrayClass (th_ty t) ∈ th_W) (hi : i = nI n) (hn : n ≤ 1000) (hq : pc + 2 = q) (kk : EV G l K d bc bs q ls (.ref S.1 :: st) (th_nw S (.inl (t, n, fun _ => none))) post) : EV G l K d (bc + 1) (bs + n) pc ls (.int i :: st) S post := by
  subst hq
  intro p e R s m args below meth c Q F Rt hf hlc H locs cells slots LS hc hs hR hS hL
  have hnc : i.toNatClampNeg = n := by rw [hi]; exact nI_clamp (by omega)
  have hbig : n * componentBytes (newarray.typeOf at0) ≤ 536870912 := by
    have : componentBytes (newarray.typeOf at0) ≤ 8 := by
      rw [hty]
      rcases (show t = 0 ∨ t = 1 ∨ t = 2 ∨ t = 3 by omega) with rfl | rfl | rfl | rfl <;> decide
    exact Nat.le_trans (Nat.mul_le_mul hn this) (by decide)
  refine va_newaK F.1 F.2.1 (by rw [hty]; exact F.2.2.2.2.2.1 _ hw) rfl hd rfl (by rw [hi]; exact nI_pos (by omega)) hnc hbig (by omega) (by omega) rfl (fun H1 cA e1 z1 o1 hAr hNm => ?_)
  have hcA : cA = G.2.2.2.1 t := by
    have h2 := (th_tyK F.2.2.2.2.2.2 (t := t) (by omega)).2
    rw [hty] at hNm
    rcases (show t = 0 ∨ t = 1 ∨ t = 2 ∨ t = 3 by omega) with rfl | rfl | rfl | rfl <;> exact Option.some.inj (hNm.symm.trans h2)
  subst hcA
  obtain ⟨hR1, had⟩ := hR.push (c := .inl (t, n, fun _ => none)) z1 o1 (by
    have hb : Nat.blt t 4 = true := Nat.ble_eq_true_of_le ht
    simp only [th_e, hb, cond_true]
    show H1[H.size]? = some (vp_cell _ _)
    rw [e1, vp_cell_i, hty]
    rcases (show t = 0 ∨ t = 1 ∨ t = 2 ∨ t = 3 by omega) with rfl | rfl | rfl | rfl <;> rfl)
  have k1 := kk p e R s m args below meth c Q F Rt hf hlc H1 locs (cells + 1) (slots + n) LS (by omega) (by omega) hR1 (th_S_push hS z1 o1) hL
  simp only [List.map_cons, th_v, had] at k1
  exact k1
theorem ev_newq {t n i0 : Nat} {i : Int32} {C : String} (hd : decode K.1 pc = .ok (.anewarray i0, 3)) (ht : (t = 4 ∧ C = "TriggerHall$Sheet") ∨ (t = 5 ∧ C = "java/lang/Object")) (hw : Cond.classLink K.2.1 i0 C ∈ th_W) (hi : i = nI n) (hn : n ≤ 1000) (hq : pc + 3 = q) (kk : EV G l K d bc bs q ls (.ref S.1 :: st) (th_nw S (.inl (t, n, fun _ => none))) post) : EV G l K d (bc + 1) (bs + n) pc ls (.int i :: st) S post := by
  subst hq
  intro p e R s m args below meth c Q F Rt hf hlc H locs cells slots LS hc hs hR hS hL
  have hnc : i.toNatClampNeg = n := by rw [hi]; exact nI_clamp (by omega)
  have hAO : va_AO C s := by
    rcases ht with ⟨-, rfl⟩ | ⟨-, rfl⟩
    · exact F.2.2.2.2.2.2.2.2.2.1.2
    · exact F.2.2.2.2.2.2.2.2.2.1.1
  have htC : th_ty t = .object C := by rcases ht with ⟨rfl, rfl⟩ | ⟨rfl, rfl⟩ <;> rfl
  have h6 : t < 6 := by rcases ht with ⟨rfl, -⟩ | ⟨rfl, -⟩ <;> decide
  have h4 : 4 ≤ t := by rcases ht with ⟨rfl, -⟩ | ⟨rfl, -⟩ <;> decide
  refine W.anew F.1 F.2.1 F.2.2.2.1 (F.2.2.2.2.2.1 _ hw) (va_AO.use hAO) rfl hd rfl (by rw [hi]; exact nI_pos (by omega)) (by rw [hnc]; omega) (by omega) (by rw [hnc]; omega) (fun cA kA comp f1 f2 f3 f4 => ?_)
  have hcA : cA = G.2.2.2.1 t := by
    have h2 := (th_tyK F.2.2.2.2.2.2 (t := t) h6).2
    rw [htC] at h2
    obtain ⟨-, -, -, -, -, h3⟩ := h2
    exact Option.some.inj (f1.symm.trans h3)
  subst hcA
  rw [hnc]
  generalize hH1 : H.push ({ cls := G.2.2.2.1 t, slots := Array.replicate n .null, vm := .none } : Cell) = H1
  have z1 : H1.size = H.size + 1 := by rw [← hH1, Array.size_push]
  have e1 : H1[H.size]? = some (arrV (G.2.2.2.1 t) n (fun _ => .null)) := by rw [← hH1, Array.getElem?_push_size, ← arrV_new]
  have o1 : ∀ q : Nat, q < H.size → H1[q]? = H[q]? := fun q hq => by rw [← hH1, Array.getElem?_push, if_neg (Nat.ne_of_lt hq)]
  obtain ⟨hR1, had⟩ := hR.push (c := .inl (t, n, fun _ => none)) z1 o1 (by
    have hb : Nat.blt t 4 = false := by simp only [Nat.blt]; exact Bool.eq_false_iff.mpr (fun e => absurd (Nat.le_of_ble_eq_true e) (by omega))
    simp only [th_e, hb, cond_false]
    show H1[H.size]? = some (vp_cell _ _)
    rw [e1, vp_cell_q]
    rfl)
  have k1 := kk p e R s m args below meth c Q F Rt hf hlc H1 locs (cells + 1) (slots + n) LS (by omega) (by omega) hR1 (th_S_push hS z1 o1) hL
  simp only [List.map_cons, th_v, had] at k1
  exact k1
theorem th_dv : ∀ ci, ci < 12 → ∀ j, j < th_nf ci → defaultValue (th_ft ci j) = cond (th_ir ci j) .null (.int 0) := by decide
theorem ev_new {ci i N : Nat} {C : String} {T : u_T} (hd : decode K.1 pc = .ok (.new i, 3)) (hcl : th_cl[ci]? = some (C, T, N)) (w1 : Cond.classLink K.2.1 i C ∈ th_W) (w2 : Cond.instantiable C N ∈ th_W) (w3 : Cond.initialized C ∈ th_W) (hq : pc + 3 = q) (kk : EV G l K d bc bs q ls (.ref S.1 :: st) (th_nw S (.inr (ci, fun _ => none))) post) : EV G l K d (bc + 1) (bs + N) pc ls st S post := by
  subst hq
  intro p e R s m args below meth c Q F Rt hf hlc H locs cells slots LS hc hs hR hS hL
  have hts := F.2.2.2.2.2.1
  have hK := F.2.2.2.2.2.2.1
  obtain ⟨hin, hty, hnm, h4⟩ := th_cls hcl
  have hKn := hK.1 ci _ hcl
  refine W.newcK F.1 F.2.1 F.2.2.2.1 (hts _ w1) (hts _ w2) (hts _ w3) rfl hd (by omega) (by omega) hKn.2.1 rfl (fun H1 kC hkC e1 z1 o1 => ?_)
  have hci : ci < 12 := (List.getElem?_eq_some_iff.mp hcl).1
  obtain ⟨hR1, had⟩ := hR.push (c := .inr (ci, fun _ => none)) z1 o1 ⟨_, hcl, (u_born (th_ft ci) hts hin hKn hkC e1 hty).to (fun j hj => by
    have hj : j < N := hj
    show defaultValue (th_ft ci j) = ((List.range (th_nf ci)).map (th_fv G ci (fun _ => none) (fun _ => 0))).getD j .null
    rw [List.getD_eq_getElem?_getD, th_fs_get (by rw [← h4]; exact hj), th_dv ci hci j (by rw [← h4]; exact hj)]
    rfl)⟩
  have k1 := kk p e R s m args below meth c Q F Rt hf hlc H1 locs (cells + 1) (slots + N) LS (by omega) (by omega) hR1 (th_S_push hS z1 o1) hL
  simp only [List.map_cons, th_v, had] at k1
  exact k1
theorem ev_acmp_eq {a b : Nat} {off : Int} {t : Nat} (hd : decode K.1 pc = .ok (.if_acmp .eq off, 3)) (hq : pc + 3 = q) (ht : (pc : Int) + off = (t : Int)) (kt : th_ad G a = th_ad G b → EV G l K d bc bs t ls st S post) (kf : ¬ th_ad G a = th_ad G b → EV G l K d bc bs q ls st S post) : EV G l K d bc bs pc ls (.ref b :: .ref a :: st) S post := by
  subst hq
  intro p e R s m args below meth c Q F Rt hf hlc H locs cells slots LS hc hs hR hS hL
  exact lv_acmp_eq (rx := some (th_ad G a)) (ry := some (th_ad G b)) F.1 F.2.1 hd ht (fun h => kt (Option.some.inj h) p e R s m args below meth c Q F Rt hf hlc H locs cells slots LS hc hs hR hS hL) (fun h => kf (fun z => h (congrArg some z)) p e R s m args below meth c Q F Rt hf hlc H locs cells slots LS hc hs hR hS hL)
theorem ev_acmp_ne {a b : Nat} {off : Int} {t : Nat} (hd : decode K.1 pc = .ok (.if_acmp .ne off, 3)) (hq : pc + 3 = q) (ht : (pc : Int) + off = (t : Int)) (kt : ¬ th_ad G a = th_ad G b → EV G l K d bc bs t ls st S post) (kf : th_ad G a = th_ad G b → EV G l K d bc bs q ls st S post) : EV G l K d bc bs pc ls (.ref b :: .ref a :: st) S post := by
  subst hq
  intro p e R s m args below meth c Q F Rt hf hlc H locs cells slots LS hc hs hR hS hL
  exact lv_acmp_ne (rx := some (th_ad G a)) (ry := some (th_ad G b)) F.1 F.2.1 hd ht (fun h => kt (fun z => h (congrArg some z)) p e R s m args below meth c Q F Rt hf hlc H locs cells slots LS hc hs hR hS hL) (fun h => kf (Option.some.inj h) p e R s m args below meth c Q F Rt hf hlc H locs cells slots LS hc hs hR hS hL)
theorem ev_chk {a ci i : Nat} {f : Nat → Option Nat} {C : String} {T : u_T} {N : Nat} (hd : decode K.1 pc = .ok (.checkcast i, 3)) (ha : S.2.1 a = some (.inr (ci, f))) (hcl : th_cl[ci]? = some (C, T, N)) (hw : Cond.classLink K.2.1 i C ∈ th_W) (hq : pc + 3 = q) (kk : EV G l K d bc bs q ls (.ref a :: st) S post) : EV G l K d bc bs pc ls (.ref a :: st) S post := by
  subst hq
  intro p e R s m args below meth c Q F Rt hf hlc H locs cells slots LS hc hs hR hS hL
  have hK := F.2.2.2.2.2.2.1
  exact va_castS F.1 F.2.1 F.2.2.2.1 (F.2.2.2.2.2.1 _ hw) (hK.1 ci _ hcl).2 (va_recv hK (th_P1 (hR.get ha)) (q0 := 0) hcl rfl) hd (kk p e R s m args below meth c Q F Rt hf hlc H locs cells slots LS hc hs hR hS hL)
end EVA
