/-! rows for the lists' growing -/
abbrev th_gC : MethodName := ⟨"java/lang/Object", "getClass", "()Ljava/lang/Class;"⟩
theorem w_gC : Cond.methodLink RJ7 86 th_gC ∈ th_W := th_mW 412 (by decide +kernel) rfl
theorem w_gCi : Cond.instanceMethod th_gC ∈ th_W := th_mW 413 (by decide +kernel) rfl
theorem w_gCn : Cond.native th_gC ∈ th_W := th_mW 427 (by decide +kernel) rfl
theorem w_gCs : Cond.selects "[Ljava/lang/Object;" th_gC th_gC ∈ th_W := th_mW 1217 (by decide +kernel) rfl
theorem w_ac1 : Cond.methodLink RJ7 150 arraycopyName ∈ th_W := th_mW 437 (by decide +kernel) rfl
theorem w_ac2 : Cond.static arraycopyName ∈ th_W := th_mW 438 (by decide +kernel) rfl
theorem w_ac3 : Cond.native arraycopyName ∈ th_W := th_mW 439 (by decide +kernel) rfl
theorem w_ac4 : Cond.initialized "java/lang/System" ∈ th_W := th_mW 18 (by decide +kernel) rfl
theorem c_Road : Cond.castable "TriggerHall$Road" "java/lang/Object" ∈ th_N := th_mN 1214 (by decide +kernel) rfl
theorem c_Line : Cond.castable "TriggerHall$Line" "java/lang/Object" ∈ th_N := th_mN 1215 (by decide +kernel) rfl
section EVJ
variable {G : th_G} {l : Launch} {K : th_M} {d bc bs pc q : Nat} {ls : List (Option Value)} {st : List Value} {S : th_S} {post : Option Value → th_S → Prop}
theorem ev_ldcM {i : Nat} (hd : decode K.1 pc = .ok (.ldc i, 2)) (hw : Cond.classLink K.2.1 i "[Ljava/lang/Object;" ∈ th_W) (hq : pc + 2 = q) (kk : EV G l K d bc bs q ls (.ref 3 :: st) S post) : EV G l K d bc bs pc ls st S post := by
  subst hq
  intro p e R s m args below meth c Q F Rt hf hlc H locs cells slots LS hc hs hR hS hL
  exact va_ldcM F.1 F.2.1 F.2.2.2.1 (F.2.2.2.2.2.1 _ hw) F.2.2.2.2.2.2.2.2.2.2.2.2.1.1 hd (kk p e R s m args below meth c Q F Rt hf hlc H locs cells slots LS hc hs hR hS hL)
theorem ev_getCq {a n i : Nat} {f : Nat → Option Nat} (hd : decode K.1 pc = .ok (.invokevirtual i, 3)) (hw : Cond.methodLink K.2.1 i th_gC ∈ th_W) (ha : S.2.1 a = some (.inl (5, n, f))) (hst : (st.map fun v => v.category).sum ≤ 8) (hd1 : 1 ≤ d) (hq : pc + 3 = q) (kk : EV G l K d bc bs q ls (.ref 3 :: st) S post) : EV G l K d bc bs pc ls (.ref a :: st) S post := by
  subst hq
  intro p e R s m args below meth c Q F Rt hf hlc H locs cells slots LS hc hs hR hS hL
  have hts := F.2.2.2.2.2.1
  obtain ⟨kA, comp, k1, k2, k3, k4⟩ := (th_tyK F.2.2.2.2.2.2 (t := 5) (by decide)).2
  exact va_getC F.1 F.2.1 (by rw [F.2.2.1]; exact hL.1.symm) F.2.2.2.1 (hts _ hw) (va_Dc.use F.2.2.2.2.2.2.2.2.2.2.2.2.1.2) (hts _ w_gCs) (hts _ w_gCi) (hts _ w_gCn) F.2.2.2.2.2.2.2.2.2.2.2.2.1.1 ⟨_, hR.arq ha (by decide), rfl, k4⟩ (by omega) (by have := th_catS (G := G) hst; omega) hd (kk p e R s m args below meth c Q F Rt hf hlc H locs cells slots LS hc hs hR hS hL)
theorem th_cpy_map {f g : Nat → Option Nat} {sp dp n : Nat} (ad : Nat → Nat) : va_cpy (fun j => (f j).map ad) (fun j => (g j).map ad) sp dp n = fun j => (va_cpy f g sp dp n j).map ad := by
  funext j
  unfold va_cpy
  split <;> rfl
theorem ev_copyq {a0 a1 n0 n1 m i ci : Nat} {f g : Nat → Option Nat} {C : String} {T : u_T} {N : Nat} (hd : decode K.1 pc = .ok (.invokestatic i, 3)) (hw : Cond.methodLink K.2.1 i arraycopyName ∈ th_W) (ha0 : S.2.1 a0 = some (.inl (5, n0, f))) (ha1 : S.2.1 a1 = some (.inl (5, n1, g))) (hm0 : m ≤ n0) (hm1 : m ≤ n1) (hmb : m < 2 ^ 30) (hcl : th_cl[ci]? = some (C, T, N)) (hca : Cond.castable C "java/lang/Object" ∈ th_N) (hel : ∀ k, k < m → ∃ (y : Nat) (h : Nat → Option Nat), f k = some y ∧ S.2.1 y = some (.inr (ci, h))) (hst : (st.map fun v => v.category).sum ≤ 8) (hd1 : 1 ≤ d) (hq : pc + 3 = q) (kk : EV G l K d bc bs q ls st (th_pC S a1 (.inl (5, n1, va_cpy f g 0 0 m))) post) : EV G l K d bc bs pc ls (.int (nI m) :: .int 0 :: .ref a1 :: .int 0 :: .ref a0 :: st) S post := by
  subst hq
  intro p e R s mm args below meth c Q F Rt hf hlc H locs cells slots LS hc hs hR hS hL
  have hts := F.2.2.2.2.2.1
  have hK := F.2.2.2.2.2.2.1
  have hAs := th_tyK F.2.2.2.2.2.2 (t := 5) (by decide)
  have hc0 := hR.arq ha0 (by decide)
  have hc1 := hR.arq ha1 (by decide)
  obtain ⟨-, k0, hk0, cm0, hkk0⟩ := hAs.1 n0 (fun j => va_rf ((f j).map (th_ad G)))
  obtain ⟨kA, comp, r1, r2, r3, -⟩ := hAs.2
  cases hk0.symm.trans r1
  cases hkk0.symm.trans r2
  have hmc : (nI m).toNatClampNeg = m := nI_clamp (by omega)
  have hmi : (nI m).toInt = (m : Int) := nI_toInt (by omega)
  have hcls := (hK.1 ci _ hcl).2
  intro X0 hT X
  obtain ⟨vm', X', step⟩ := X.arraycopy F.1 F.2.2.2.1 (hts _ hw) (hts _ w_ac3) (hts _ w_ac2) (hts _ w_ac4) (src := th_ad G a0) (dst := th_ad G a1) (cs := arrV (G.2.2.2.1 5) n0 (fun j => va_rf ((f j).map (th_ad G)))) (cd := arrV (G.2.2.2.1 5) n1 (fun j => va_rf ((g j).map (th_ad G)))) (srcPos := 0) (destPos := 0) (n := nI m) (by rw [hT]; exact hc0) (by rw [hT]; exact hc1)
    (fun _ h => by cases h) (fun _ h => by cases h) (fun h => by cases h) (fun h => by cases h) hk0 hk0 hkk0 hkk0 rfl (by decide) (by decide) (nI_pos (by omega))
    (by rw [hmi, arrV_size]; simp; omega)
    (by rw [hmi, arrV_size]; simp; omega)
    (fun vm₁ hal i hi => by
      rw [hmc] at hi
      obtain ⟨y, h, hy, hs2⟩ := hel i hi
      have e : (arrV (G.2.2.2.1 5) n0 (fun j => va_rf ((f j).map (th_ad G)))).slots.getD ((0 : Int32).toNatClampNeg + i) .null = .ref (th_ad G y) := by
        rw [show (0 : Int32).toNatClampNeg + i = i from Nat.zero_add i, Array.getD_eq_getD_getElem?, arrV_read _ _ (by omega), hy]
        rfl
      rw [e]
      obtain ⟨r, hr, cellV, g1, g2, g3, -⟩ := hR.get hs2
      cases hr.symm.trans hcl
      obtain ⟨c0, t1, f1, f2, f3⟩ := Cond.castable_spec (va_Nw.use (A := args) rfl (F.2.2.2.2.2.2.2.1 _ hca))
      cases hcls.1.symm.trans f1
      cases r3.symm.trans f2
      obtain ⟨kC, hkC, -⟩ := Vm.findClass_spec f1
      obtain ⟨kE, hkE, -⟩ := Vm.findClass_spec f2
      obtain ⟨kC', hkC', -⟩ := hal.2.2 _ _ hkC
      obtain ⟨kE', hkE', -⟩ := hal.2.2 _ _ hkE
      refine ⟨rfl, cellV, (show X0.heap[th_ad G y]? = some cellV by rw [hT]; exact g1), (fun q h => by rw [g3] at h; cases h), ⟨kC', by rw [g2]; exact hkC'⟩, ?_, ?_⟩
      · exact ⟨kE', hkE'⟩
      · show vm₁.assignable _ _ = true
        rw [hal.assignable, g2]
        exact f3)
    (g := F0 mm pc LS ((.int (nI m) :: .int 0 :: .ref a1 :: .int 0 :: .ref a0 :: st).map (th_v G))) rfl (by rw [F.2.2.1]; exact hL.1) (rest := st.map (th_v G)) rfl (by rw [F.2.1]; exact hd) (by omega) (by
      have := th_catS (G := G) hst
      have hw2 : nativeFrameWords "java/lang/System" "arraycopy" 5 ≤ 20 := by decide
      show 2 * 0 + _ + _ ≤ _
      omega)
  have e1 : copied (arrV (G.2.2.2.1 5) n0 (fun j => va_rf ((f j).map (th_ad G)))) (arrV (G.2.2.2.1 5) n1 (fun j => va_rf ((g j).map (th_ad G)))) 0 0 (nI m) = arrV (G.2.2.2.1 5) n1 (fun j => va_rf ((va_cpy f g 0 0 m j).map (th_ad G))) := by
    have := va_copied (fun z => va_rf z) (G.2.2.2.1 5) (G.2.2.2.1 5) (fun j => (f j).map (th_ad G)) (fun j => (g j).map (th_ad G)) (sp := 0) (dp := 0) (n := m) (n0 := n0) (n1 := n1) (by omega)
    rw [th_cpy_map] at this
    refine Eq.trans ?_ this
    show (arrV (G.2.2.2.1 5) n1 (fun j => va_rf ((g j).map (th_ad G)))).storeRun 0 ((arrV (G.2.2.2.1 5) n0 (fun j => va_rf ((f j).map (th_ad G)))).stretch 0 (nI m).toNatClampNeg) = _
    rw [hmc]
  rw [e1] at X' step
  have hl : th_ad G a1 < H.size := (Array.getElem?_eq_some_iff.mp hc1).1
  generalize hcell : arrV (G.2.2.2.1 5) n1 (fun j => va_rf ((va_cpy f g 0 0 m j).map (th_ad G))) = cell at X' step
  have hheap : ((X0.setVm vm').setCell (th_ad G a1) cell).heap = H.setIfInBounds (th_ad G a1) cell := by rw [← hT]; rfl
  have oq : ∀ q : Nat, q ≠ th_ad G a1 → (H.setIfInBounds (th_ad G a1) cell)[q]? = H[q]? := fun q hq => by simp [Array.getElem?_setIfInBounds, Ne.symm hq]
  have oa : (H.setIfInBounds (th_ad G a1) cell)[th_ad G a1]? = some cell := by simp [Array.getElem?_setIfInBounds, hl]
  have hR1 : th_R G (th_pC S a1 (.inl (5, n1, va_cpy f g 0 0 m))) (H.setIfInBounds (th_ad G a1) cell) := by
    refine hR.set ha1 (by simp) oq rfl (fun b hb => th_u_ne hb) (fun _ _ => rfl) th_u_eq ?_
    show (H.setIfInBounds (th_ad G a1) cell)[th_ad G a1]? = some (vp_cell _ _)
    rw [oa, vp_cell_q, ← hcell]
  obtain ⟨t, a2, b2⟩ := kk p e R s mm args below meth c Q F Rt hf hlc _ _ cells slots LS hc hs hR1 ⟨by simp; exact hS.1, fun q g1 g2 => by
      rw [oq q (fun e => g2 (by rw [e]; exact hR.inA ha1))]
      exact hS.2.1 q g1 g2, fun q hq => by
      rcases List.mem_append.mp hq with h | h
      · exact hS.2.2 q h
      · obtain ⟨z, -, hz⟩ := List.mem_map.mp h
        rw [← hz]
        exact hR.inA ha1⟩ hL _ hheap X'
  exact ⟨t, step t a2, b2⟩
end EVJ
