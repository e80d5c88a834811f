/-! words of the tables by their places -/
theorem th_mW {w : Cond} (i : Nat) (h : tables_1[i]? = some w) (hg : goodWord w = true) : w ∈ th_W := List.mem_filter.mpr ⟨List.mem_append_right _ (List.mem_of_getElem? h), hg⟩
theorem th_mN {w : Cond} (i : Nat) (h : tables_1[i]? = some w) (hg : th_isN w = true) : w ∈ th_N := List.mem_filter.mpr ⟨List.mem_of_getElem? h, hg⟩
theorem th_mS {w : Cond} (i : Nat) (h : (k2_sels lw_privs)[i]? = some w) (hg : goodWord w = true) : w ∈ th_W := List.mem_filter.mpr ⟨List.mem_append_left _ (List.mem_of_getElem? h), hg⟩
theorem th_inW {ws : List Cond} (ps : List Nat) (hp : ws = ps.filterMap (fun i => tables_1[i]?)) (hg : ws.all goodWord = true) : ∀ w ∈ ws, w ∈ th_W := by
  intro w hw
  have hg := List.all_eq_true.mp hg w hw
  rw [hp] at hw
  obtain ⟨i, -, hi⟩ := List.mem_filterMap.mp hw
  exact th_mW i hi hg
theorem inW0 : ∀ w ∈ u_ws RX0 TX0 7, w ∈ th_W := th_inW [99, 101, 103, 105, 107, 109, 111] (by decide +kernel) (by decide +kernel)
theorem inW1 : ∀ w ∈ u_ws RX1 TX1 7, w ∈ th_W := th_inW [131, 133, 135, 137, 139, 141, 143] (by decide +kernel) (by decide +kernel)
theorem inW2 : ∀ w ∈ u_ws RX2 TX2 7, w ∈ th_W := th_inW [711, 713, 715, 717, 719, 721, 723] (by decide +kernel) (by decide +kernel)
theorem inW3 : ∀ w ∈ u_ws RX3 TX3 6, w ∈ th_W := th_inW [156, 158, 160, 162, 164, 166] (by decide +kernel) (by decide +kernel)
theorem inW4 : ∀ w ∈ u_ws RX4 TX4 4, w ∈ th_W := th_inW [216, 218, 220, 222] (by decide +kernel) (by decide +kernel)
theorem inW5 : ∀ w ∈ u_ws RX5 TX5 4, w ∈ th_W := th_inW [196, 198, 200, 202] (by decide +kernel) (by decide +kernel)
theorem inW6 : ∀ w ∈ u_ws RX6 TX6 3, w ∈ th_W := th_inW [365, 367, 369] (by decide +kernel) (by decide +kernel)
theorem inW7 : ∀ w ∈ u_ws RX7 TX7 4, w ∈ th_W := th_inW [42, 44, 46, 48] (by decide +kernel) (by decide +kernel)
theorem inW8 : ∀ w ∈ u_ws RX8 TX8 2, w ∈ th_W := th_inW [179, 181] (by decide +kernel) (by decide +kernel)
theorem inW9 : ∀ w ∈ u_ws RX9 TX9 16, w ∈ th_W := th_inW [241, 243, 245, 247, 249, 251, 253, 255, 257, 259, 261, 263, 265, 267, 269, 271] (by decide +kernel) (by decide +kernel)
theorem inW10 : ∀ w ∈ u_ws RX10 TX10 41, w ∈ th_W := th_inW [882, 884, 886, 888, 890, 892, 894, 896, 898, 900, 902, 904, 906, 908, 910, 912, 914, 916, 918, 920, 922, 924, 926, 928, 930, 932, 934, 936, 938, 940, 942, 944, 946, 948, 950, 952, 954, 956, 958, 960, 962] (by decide +kernel) (by decide +kernel)
theorem inW11 : ∀ w ∈ u_ws RJx4a65c TJx4a65c 3, w ∈ th_W := th_inW [75, 71, 73] (by decide +kernel) (by decide +kernel)
theorem th_cls {ci : Nat} {C : String} {T : u_T} {N : Nat} (h : th_cl[ci]? = some (C, T, N)) : (∀ w ∈ u_ws C T N, w ∈ th_W) ∧ (∀ k, k < N → parseFieldDescriptor (T k).2.2.1 = some (th_ft ci k)) ∧ (∀ a, a < N → ∀ b, b < N → a ≠ b → (T a).2.1 ≠ (T b).2.1) ∧ N = th_nf ci := by
  match ci, h with
  | 0, h => cases h; exact ⟨inW0, tyX0_ok, nmX0, rfl⟩
  | 1, h => cases h; exact ⟨inW1, tyX1_ok, nmX1, rfl⟩
  | 2, h => cases h; exact ⟨inW2, tyX2_ok, nmX2, rfl⟩
  | 3, h => cases h; exact ⟨inW3, tyX3_ok, nmX3, rfl⟩
  | 4, h => cases h; exact ⟨inW4, tyX4_ok, nmX4, rfl⟩
  | 5, h => cases h; exact ⟨inW5, tyX5_ok, nmX5, rfl⟩
  | 6, h => cases h; exact ⟨inW6, tyX6_ok, nmX6, rfl⟩
  | 7, h => cases h; exact ⟨inW7, tyX7_ok, nmX7, rfl⟩
  | 8, h => cases h; exact ⟨inW8, tyX8_ok, nmX8, rfl⟩
  | 9, h => cases h; exact ⟨inW9, tyX9_ok, nmX9, rfl⟩
  | 10, h => cases h; exact ⟨inW10, tyX10_ok, nmX10, rfl⟩
  | 11, h => cases h; exact ⟨inW11, tyJx4a65c_ok, nmJx4a65c, rfl⟩
  | n + 12, h => simp [th_cl] at h
/-! fields -/
def th_gl (own : String) (i : Nat) (o n d : String) : Prop := (Cond.fieldLink own i o n d ∈ th_W) ∨ (∃ ref, Cond.fieldLink own i ref n d ∈ th_W ∧ Cond.sameField ref o n d ∈ th_W) ∨ ∃ host, Cond.fieldLinkNest own i o n d host ∈ th_N
def th_gf (own : String) (i ci k : Nat) : Prop := ∃ (C : String) (T : u_T) (N : Nat), th_cl[ci]? = some (C, T, N) ∧ k < N ∧ th_gl own i (T k).1 (T k).2.1 (T k).2.2.1
def th_pf (own nm : String) (i ci k : Nat) : Prop := ∃ (C : String) (T : u_T) (N : Nat), th_cl[ci]? = some (C, T, N) ∧ k < N ∧ (((T k).2.2.2 = false ∧ th_gl own i (T k).1 (T k).2.1 (T k).2.2.1) ∨ ((T k).2.2.2 = true ∧ nm = "<init>" ∧ (T k).1 = own ∧ Cond.fieldLink own i (T k).1 (T k).2.1 (T k).2.2.1 ∈ th_W))
theorem th_w_j {V : Nat → Nat → Int32} {a k j : Nat} {x : Int32} (h : j ≠ k) : th_w V a k x a j = V a j := by
  have : Nat.beq j k = false := Bool.eq_false_iff.mpr (fun e => h (Nat.eq_of_beq_eq_true e))
  simp [th_w, this]
theorem th_fs_get {G : th_G} {ci k : Nat} {f : Nat → Option Nat} {v : Nat → Int32} (hk : k < th_nf ci) : ((List.range (th_nf ci)).map (th_fv G ci f v))[k]? = some (th_fv G ci f v k) := by
  rw [List.getElem?_map, List.getElem?_range hk]
  rfl
theorem th_P1 {G : th_G} {q : Nat × va_E} {H : Heap} (h : va_at G.2.2.1 th_cl q H) : va_P G.2.2.1 th_cl [q] H := by
  intro j x hj
  cases j with
  | zero => cases hj; exact h
  | succ j => simp at hj
section EVH
variable {G : th_G} {l : Launch} {K : th_M} {d bc bs pc q : Nat} {ls : List (Option Value)} {st : List Value} {S : th_S} {post : Option Value → th_S → Prop}
theorem ev_getF {a ci k i : Nat} {f : Nat → Option Nat} {v : Value} (hd : decode K.1 pc = .ok (.getfield i, 3)) (hg : th_gf K.2.1 i ci k) (ha : S.2.1 a = some (.inr (ci, f))) (hv : th_fv G ci f (S.2.2 a) k = th_v G v) (hq : pc + 3 = q) (kk : EV G l K d bc bs q ls (v :: st) S post) : EV G l K d bc bs pc ls (.ref a :: st) S post := by
  subst hq
  intro p e R s m args below meth c Q F Rt hf hlc H locs cells slots LS hc hs hR hS hL
  obtain ⟨C, T, N, hcl, hkN, hw⟩ := hg
  obtain ⟨h1, h2, h3, h4⟩ := th_cls hcl
  have hts := F.2.2.2.2.2.1
  have hP := th_P1 (hR.get ha)
  have hv1 : ((List.range (th_nf ci)).map (th_fv G ci f (S.2.2 a)))[k]? = some (th_v G v) := by
    rw [th_fs_get (by rw [← h4]; exact hkN), hv]
  have hK := F.2.2.2.2.2.2.1
  have kk := kk p e R s m args below meth c Q F Rt hf hlc H locs cells slots LS hc hs hR hS hL
  rcases hw with hw | ⟨ref, hw, hw2⟩ | ⟨host, hw⟩
  · exact va_get F.1 F.2.1 hts h1 F.2.2.2.1 hK hP 0 rfl hcl k hkN (hts _ hw) (fun _ h => h) hv1 hd kk
  · exact va_get F.1 F.2.1 hts h1 F.2.2.2.1 hK hP 0 rfl hcl k hkN (hts _ hw) (u_same (hts _ hw2)) hv1 hd kk
  · exact va_getN F.1 F.2.1 hts h1 F.2.2.2.1 hK hP 0 rfl hcl k hkN (va_Nw.use rfl (F.2.2.2.2.2.2.2.1 _ hw)) (fun _ h => h) hv1 hd kk
theorem ev_getI {a ci k i : Nat} {f : Nat → Option Nat} (hd : decode K.1 pc = .ok (.getfield i, 3)) (hg : th_gf K.2.1 i ci k) (ha : S.2.1 a = some (.inr (ci, f))) (hk : th_ir ci k = false) (hq : pc + 3 = q) (kk : EV G l K d bc bs q ls (.int (S.2.2 a k) :: st) S post) : EV G l K d bc bs pc ls (.ref a :: st) S post :=
  ev_getF hd hg ha (v := .int (S.2.2 a k)) (by simp [th_fv, hk, th_v]) hq kk
theorem ev_getR {a ci k i b : Nat} {f : Nat → Option Nat} (hd : decode K.1 pc = .ok (.getfield i, 3)) (hg : th_gf K.2.1 i ci k) (ha : S.2.1 a = some (.inr (ci, f))) (hk : th_ir ci k = true) (hb : f k = some b) (hq : pc + 3 = q) (kk : EV G l K d bc bs q ls (.ref b :: st) S post) : EV G l K d bc bs pc ls (.ref a :: st) S post :=
  ev_getF hd hg ha (v := .ref b) (by simp [th_fv, hk, hb, th_v, va_rf]) hq kk
/-- a field is written: what the machine does -/
theorem th_put {p : Program} {e : Env} {R : Room} {s : State} {m : MethodId} {args : Array Value} {below : List Frame} {meth : Method} {c : Code} {Q : State → Prop} {H : Heap} {locs : List Loc} {cells slots : Nat} {LS : Array Slot} {rest : List Value} (F : th_Fix G K p s m args meth c) {a ci k i : Nat} {fs : List Value} {v : Value} (hg : th_pf K.2.1 K.2.2.2.2 i ci k) (hat : va_at G.2.2.1 th_cl (a, .inr (ci, fs)) H) (haA : th_A G a) (hS : va_S (th_A G) s.heap H locs) (hn : narrow (th_ft ci k) v = v) (hfit : fits (th_ft ci k) v = true) (hl : k < fs.length) (hd : decode K.1 pc = .ok (.putfield i, 3))
    (kk : ∀ (H1 : Heap) (locs1 : List Loc), H1.size = H.size → (∀ q : Nat, q ≠ a → H1[q]? = H[q]?) → va_at G.2.2.1 th_cl (a, .inr (ci, fs.set k v)) H1 → va_S (th_A G) s.heap H1 locs1 → W p l e R s m args below meth c H1 locs1 cells slots Q (F0 m (pc + 3) LS rest)) : W p l e R s m args below meth c H locs cells slots Q (F0 m pc LS (v :: .ref a :: rest)) := by
  obtain ⟨C, T, N, hcl, hkN, hw⟩ := hg
  obtain ⟨hin, hty, hnm, h4⟩ := th_cls hcl
  have hts := F.2.2.2.2.2.1
  have hK := F.2.2.2.2.2.2.1
  have hown := F.2.2.2.1
  have hap := va_apart (own := K.2.1) hts hin (th_ft ci) hty hnm hK hcl
  obtain ⟨r, h1, cell, q1, q2, q3, q4⟩ := hat
  have hr : r = (C, T, N) := Option.some.inj (h1.symm.trans hcl)
  subst hr
  obtain ⟨hSl, hfc, kC, hkC, hkind⟩ := hK.1 ci _ hcl
  obtain ⟨cf, kf, fi, f, hi, hsl⟩ := hSl k hkN
  have hlay := hts _ (hin _ (u_in_lay hkN))
  unfold u_lay at hlay
  have hst := (u_facts hfc hkC (u_lays hts hin hkN) hi).1
  have fin : ∀ (H' : Heap) (locs' : List Loc), H'[a]? = some (cell.setSlot f.slot v) → H'.size = H.size → (∀ q : Nat, q ≠ a → H'[q]? = H[q]?) → va_S (th_A G) s.heap H' locs' → W p l e R s m args below meth c H' locs' cells slots Q (F0 m (pc + 3) LS rest) := by
    intro H' locs' e1 e2 e3 hS1
    rw [hsl] at e1
    exact kk H' locs' e2 e3 ⟨_, hcl, t_OB.to (V := updV (vp_V fs) k v) ⟨_, e1, q2, q3, t_set q4 hap hkN v⟩ (fun j _ => vp_updV_set hl v j)⟩ hS1
  rcases hw with ⟨hfin, hw⟩ | ⟨hfin, hnme, hdecl, hw⟩
  · rw [if_neg (by rw [hfin]; decide)] at hlay
    have h6 := u_store hfc hkC hkind hlay hi (hty k hkN) hn hfit
    rcases hw with hw | ⟨ref, hw, hw2⟩ | ⟨host, hw⟩
    · exact W.putK F.1 F.2.1 (f := f) ⟨hown, hts _ hw, ⟨_, _, _, hi⟩, hst⟩ (by rw [q2]; exact h6) q1 q3 (by rw [hsl]; exact k2_hasslot (q4 k hkN)) rfl rfl hd fun H' e1 e2 e3 => fin H' _ e1 e2 e3 (hS.put e2 e3 haA)
    · exact W.putK F.1 F.2.1 (f := f) ⟨hown, hts _ hw, ⟨_, _, _, u_same (hts _ hw2) _ hi⟩, hst⟩ (by rw [q2]; exact h6) q1 q3 (by rw [hsl]; exact k2_hasslot (q4 k hkN)) rfl rfl hd fun H' e1 e2 e3 => fin H' _ e1 e2 e3 (hS.put e2 e3 haA)
    · exact va_WputK F.1 F.2.1 (f := f) hown (va_Nw.use rfl (F.2.2.2.2.2.2.2.1 _ hw)) hi hst (by rw [q2]; exact h6) q1 q3 (by rw [hsl]; exact k2_hasslot (q4 k hkN)) rfl rfl hd fun H' e1 e2 e3 => fin H' _ e1 e2 e3 (hS.put e2 e3 haA)
  · rw [if_pos hfin] at hlay
    have hcf : m.cls = cf := by
      obtain ⟨_, _, c', _, _, _, -, -, hf', -, -, -, hown2, -⟩ := Cond.laysFinal_spec hlay
      have e1 : c' = cf := by have := hi.symm.trans hf'; simp at this; exact this.1.symm
      rw [hdecl] at hown2
      rw [← e1]; exact Option.some.inj (hown.symm.trans hown2)
    have h6 := u_fits hfc hkC hkind (Or.inr hlay) hi (hty k hkN) hn hfit
    exact W.putFinK F.1 F.2.1 hown (hts _ hw) hi hst hcf (by rw [F.2.2.2.2.1]; exact hnme) (by rw [q2]; exact h6) q1 q3 (by rw [hsl]; exact k2_hasslot (q4 k hkN)) rfl rfl hd fun H' e1 e2 e3 => fin H' _ e1 e2 e3 (hS.put e2 e3 haA)
theorem th_pf_lt {own nm : String} {i ci k : Nat} (h : th_pf own nm i ci k) : k < th_nf ci := by
  obtain ⟨C, T, N, hcl, hkN, -⟩ := h
  rw [← (th_cls hcl).2.2.2]
  exact hkN
theorem th_fs_set {G : th_G} {ci k : Nat} {f f' : Nat → Option Nat} {v v' : Nat → Int32} {w : Value} (hk : k < th_nf ci) (hw : th_fv G ci f' v' k = w) (hj : ∀ j, j ≠ k → th_fv G ci f' v' j = th_fv G ci f v j) : ((List.range (th_nf ci)).map (th_fv G ci f v)).set k w = (List.range (th_nf ci)).map (th_fv G ci f' v') := by
  apply List.ext_getElem?
  intro j
  by_cases hjk : j = k
  · subst hjk
    rw [List.getElem?_set_self (by simpa using hk), th_fs_get hk, hw]
  · rw [List.getElem?_set_ne (Ne.symm hjk)]
    by_cases hl : j < th_nf ci
    · rw [th_fs_get hl, th_fs_get hl, hj j hjk]
    · rw [List.getElem?_eq_none (by simpa using Nat.le_of_not_lt hl), List.getElem?_eq_none (by simpa using Nat.le_of_not_lt hl)]
theorem ev_putI {a ci k i : Nat} {f : Nat → Option Nat} {x : Int32} (hd : decode K.1 pc = .ok (.putfield i, 3)) (hg : th_pf K.2.1 K.2.2.2.2 i ci k) (ha : S.2.1 a = some (.inr (ci, f))) (hk : th_ir ci k = false) (hn : narrow (th_ft ci k) (.int x) = .int x) (hfit : fits (th_ft ci k) (.int x) = true) (hq : pc + 3 = q) (kk : EV G l K d bc bs q ls st (th_pI S a k x) post) : EV G l K d bc bs pc ls (.int x :: .ref a :: st) S post := by
  subst hq
  intro p e R s m args below meth c Q F Rt hf hlc H locs cells slots LS hc hs hR hS hL
  refine th_put F hg (hR.get ha) (hR.inA ha) hS hn hfit (by simpa using th_pf_lt hg) hd (fun H1 locs1 e1 e2 e3 hS1 => ?_)
  refine kk p e R s m args below meth c Q F Rt hf hlc H1 locs1 cells slots LS hc hs ?_ hS1 hL
  refine hR.set (S' := th_pI S a k x) ha e1 e2 rfl (fun _ _ => rfl) (fun b hb => th_w_ne hb) ha ?_
  have hw : th_e G (.inr (ci, f)) (th_w S.2.2 a k x a) = .inr (ci, ((List.range (th_nf ci)).map (th_fv G ci f (S.2.2 a))).set k (.int x)) := by
    show (Sum.inr (ci, (List.range (th_nf ci)).map (th_fv G ci f (th_w S.2.2 a k x a))) : va_E) = _
    rw [th_fs_set (th_pf_lt hg) (f' := f) (v' := th_w S.2.2 a k x a) (by simp [th_fv, hk, th_w_eq]) (fun j hj => by simp [th_fv, th_w_j hj])]
  show va_at G.2.2.1 th_cl (th_ad G a, th_e G (.inr (ci, f)) (th_w S.2.2 a k x a)) H1
  rw [hw]
  exact e3
theorem ev_putR {a ci k i b : Nat} {f : Nat → Option Nat} (hd : decode K.1 pc = .ok (.putfield i, 3)) (hg : th_pf K.2.1 K.2.2.2.2 i ci k) (ha : S.2.1 a = some (.inr (ci, f))) (hk : th_ir ci k = true) (hq : pc + 3 = q) (kk : EV G l K d bc bs q ls st (th_pC S a (.inr (ci, th_u f k b))) post) : EV G l K d bc bs pc ls (.ref b :: .ref a :: st) S post := by
  subst hq
  intro p e R s m args below meth c Q F Rt hf hlc H locs cells slots LS hc hs hR hS hL
  have hn : narrow (th_ft ci k) (.ref (th_ad G b)) = .ref (th_ad G b) := by
    unfold th_ir at hk
    cases h : th_ft ci k <;> simp [h] at hk <;> rfl
  have hfit : fits (th_ft ci k) (.ref (th_ad G b)) = true := by
    unfold th_ir at hk
    cases h : th_ft ci k <;> simp [h] at hk <;> rfl
  refine th_put F hg (hR.get ha) (hR.inA ha) hS hn hfit (by simpa using th_pf_lt hg) hd (fun H1 locs1 e1 e2 e3 hS1 => ?_)
  refine kk p e R s m args below meth c Q F Rt hf hlc H1 locs1 cells slots LS hc hs ?_ hS1 hL
  refine hR.set (S' := th_pC S a (.inr (ci, th_u f k b))) ha e1 e2 rfl (fun b hb => th_u_ne hb) (fun _ _ => rfl) th_u_eq ?_
  have hw : th_e G (.inr (ci, th_u f k b)) (S.2.2 a) = .inr (ci, ((List.range (th_nf ci)).map (th_fv G ci f (S.2.2 a))).set k (.ref (th_ad G b))) := by
    show (Sum.inr (ci, (List.range (th_nf ci)).map (th_fv G ci (th_u f k b) (S.2.2 a))) : va_E) = _
    rw [th_fs_set (th_pf_lt hg) (f' := th_u f k b) (v' := S.2.2 a) (by simp [th_fv, hk, th_u_eq, va_rf]) (fun j hj => by simp [th_fv, th_u_ne hj])]
  show va_at G.2.2.1 th_cl (th_ad G a, th_e G (.inr (ci, th_u f k b)) (S.2.2 a)) H1
  rw [hw]
  exact e3
end EVH
