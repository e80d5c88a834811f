/-! calls -/
def th_post (G : th_G) (P : Option Value → th_S → Prop) : State → Outcome → State → Prop := fun st oc t => (∃ (r : Option Value) (S' : th_S), oc = .returned (r.map (th_v G)) ∧ P r S' ∧ th_R G S' t.heap) ∧ va_F (th_A G) st t
theorem th_blind {G : th_G} {S : th_S} {As : List Value} : FrameBlind (va_Pc (As.map (th_v G)) (fun U => th_R G S U.heap ∧ th_Amb G U)) := by
  intro a U g mk h
  obtain ⟨h1, h2, h3⟩ := h
  exact ⟨h1, h2, h3.moved (U := U.calling g mk a) (State.WarmedH.refl U) (fun _ _ _ => rfl) h3.2.2.2.2.2.2.2⟩
theorem th_good {y : MethodName} {Ky : th_M} (h : Cond.code y Ky.1 Ky.2.2.1 Ky.2.2.2.1 ∈ th_W) : GoodIn th_W (Cond.code y Ky.1 Ky.2.2.1 Ky.2.2.2.1 :: th_W) := by
  intro w hw
  rcases List.mem_cons.mp hw with rfl | hw
  · exact ⟨h, good_of_word (List.mem_filter.mp h).2⟩
  · exact ⟨hw, good_of_word (List.mem_filter.mp hw).2⟩
/-- what a call needs of its callee: its code, its class, how many parameters -/
def th_cB (y : MethodName) (Ky : th_M) (n : Nat) : Prop := Cond.code y Ky.1 Ky.2.2.1 Ky.2.2.2.1 ∈ th_W ∧ Cond.initialized y.cls ∈ th_W ∧ (y.cls ≠ "java/lang/invoke/MethodHandle" ∧ y.cls ≠ "java/lang/invoke/VarHandle" ∧ (parseMethodDescriptor y.desc).map (fun d => d.parameters.length) = some n) ∧ Ky.2.2.1 ≤ 21
def th_lk (own : String) (i : Nat) (y : MethodName) : Prop := Cond.methodLink own i y ∈ th_W ∨ ∃ host, Cond.methodLinkNest own i y host ∈ th_N
def th_cV (own : String) (i : Nat) (y : MethodName) (Ky : th_M) (n : Nat) : Prop := th_cB y Ky n ∧ th_lk own i y ∧ Cond.instanceMethod y ∈ th_W ∧ Cond.selects y.cls y y ∈ th_W
def th_cS (own : String) (i : Nat) (y : MethodName) (Ky : th_M) (n : Nat) : Prop := th_cB y Ky n ∧ th_lk own i y ∧ Cond.static y ∈ th_W
def th_cI (own : String) (i : Nat) (y : MethodName) (Ky : th_M) (n : Nat) : Prop := th_cB y Ky n ∧ th_lk own i y ∧ Cond.instanceMethod y ∈ th_W ∧ y.name = "<init>" ∧ Ky.2.2.2.1 = none
theorem th_mapS {G : th_G} (r : Option Value) (st : List Value) : (r.toList ++ st).map (th_v G) = (r.map (th_v G)).toList ++ st.map (th_v G) := by cases r <;> simp
theorem th_catS {G : th_G} {st : List Value} (h : (st.map fun v => v.category).sum ≤ 8) : ((st.map (th_v G)).map fun v => v.category).sum ≤ 8 := by
  rw [List.map_map]
  have : ((fun v : Value => v.category) ∘ th_v G) = fun v => v.category := by funext v; exact th_v_cat G v
  rw [this]
  exact h
section EVC
variable {G : th_G} {l : Launch} {K : th_M} {d bc bs pc q : Nat} {ls : List (Option Value)} {st : List Value} {S : th_S} {post : Option Value → th_S → Prop}
theorem th_pre {p : Program} {s : State} {m : MethodId} {args : Array Value} {meth : Method} {c : Code} {H : Heap} {locs : List Loc} (F : th_Fix G K p s m args meth c) (hR : th_R G S H) (hS : va_S (th_A G) s.heap H locs) (As : List Value) : ∀ U : State, U.heap = H → s.WarmedH U.vm → va_Pc (As.map (th_v G)) (fun U => th_R G S U.heap ∧ th_Amb G U) (As.map (th_v G)).toArray U := by
  intro U hU hW
  have hAmb := F.2.2.2.2.2.2
  exact ⟨rfl, by rw [hU]; exact hR, hAmb.moved hW (by rw [hU]; exact hS.2.1) (by rw [hU]; exact Nat.le_trans hAmb.2.2.2.2.2.2.2 hS.1)⟩
theorem th_goes {p : Program} {e : Env} {R : Room} {s : State} {m : MethodId} {args : Array Value} {below : List Frame} {meth : Method} {c : Code} {Q : State → Prop} {H : Heap} {locs : List Loc} {cells slots mc ms : Nat} {LS : Array Slot} {rest st0 : List Value} {P : Option Value → th_S → Prop} (hr : va_Run p l e R s m args below meth c H locs cells slots mc ms (F0 m pc LS st0) rest (th_post G P) (th_A G)) (hS : va_S (th_A G) s.heap H locs)
    (kk : ∀ (r : Option Value) (S' : th_S) (H1 : Heap) (locs1 : List Loc), P r S' → th_R G S' H1 → va_S (th_A G) s.heap H1 locs1 → W p l e R s m args below meth c H1 locs1 (cells + mc) (slots + ms) Q (F0 m (pc + 3) LS ((r.map (th_v G)).toList ++ rest))) : W p l e R s m args below meth c H locs cells slots Q (F0 m pc LS st0) := by
  intro T hT X
  obtain ⟨v, st₀, t, T', L, h0, X', hL, e1, e2, ⟨⟨r, S', hv, hp, hR1⟩, hz, hk⟩, st⟩ := hr T hT X
  cases hv
  rw [h0] at hz hk
  obtain ⟨t2, a1, b1⟩ := kk r S' T'.heap (locs ++ L) hp (by rw [e1]; exact hR1)
    ⟨Nat.le_trans hS.1 (by rw [e1]; exact hz), fun q h1 h2 => by rw [e1, hk q (Nat.lt_of_lt_of_le h1 hS.1) h2]; exact hS.2.1 q h1 h2, fun q hq => by
      rcases List.mem_append.mp hq with h | h
      · exact hS.2.2 q h
      · exact hL q h⟩ T' rfl X'
  exact ⟨t2, st t2 a1, b1⟩
theorem th_goes5 {p : Program} {e : Env} {R : Room} {s : State} {m : MethodId} {args : Array Value} {below : List Frame} {meth : Method} {c : Code} {Q : State → Prop} {H : Heap} {locs : List Loc} {cells slots mc ms : Nat} {LS : Array Slot} {rest st0 : List Value} {P : Option Value → th_S → Prop} (hr : va_Run5 p l e R s m args below meth c H locs cells slots mc ms (F0 m pc LS st0) rest (th_post G P) (th_A G)) (hS : va_S (th_A G) s.heap H locs)
    (kk : ∀ (r : Option Value) (S' : th_S) (H1 : Heap) (locs1 : List Loc), P r S' → th_R G S' H1 → va_S (th_A G) s.heap H1 locs1 → W p l e R s m args below meth c H1 locs1 (cells + mc) (slots + ms) Q (F0 m (pc + 5) LS ((r.map (th_v G)).toList ++ rest))) : W p l e R s m args below meth c H locs cells slots Q (F0 m pc LS st0) := by
  intro T hT X
  obtain ⟨v, st₀, t, T', L, h0, X', hL, e1, e2, ⟨⟨r, S', hv, hp, hR1⟩, hz, hk⟩, st⟩ := hr T hT X
  cases hv
  rw [h0] at hz hk
  obtain ⟨t2, a1, b1⟩ := kk r S' T'.heap (locs ++ L) hp (by rw [e1]; exact hR1)
    ⟨Nat.le_trans hS.1 (by rw [e1]; exact hz), fun q h1 h2 => by rw [e1, hk q (Nat.lt_of_lt_of_le h1 hS.1) h2]; exact hS.2.1 q h1 h2, fun q hq => by
      rcases List.mem_append.mp hq with h | h
      · exact hS.2.2 q h
      · exact hL q h⟩ T' rfl X'
  exact ⟨t2, st t2 a1, b1⟩
theorem ev_cV {a i n ci d1 c1 s1 : Nat} {y : MethodName} {Ky : th_M} {As : List Value} {f : Nat → Option Nat} {T : u_T} {N : Nat} {P : Option Value → th_S → Prop} (hM : MT G l y Ky d1 c1 s1 (.ref a :: As) S P) (hd : decode K.1 pc = .ok (.invokevirtual i, 3)) (hw : th_cV K.2.1 i y Ky n) (ha : S.2.1 a = some (.inr (ci, f))) (hcl : th_cl[ci]? = some (y.cls, T, N)) (hn : As.length = n) (hst : (st.map fun v => v.category).sum ≤ 8) (hd1 : d1 + 1 ≤ d) (hq : pc + 3 = q) {st0 : List Value} (hst0 : As.reverse ++ .ref a :: st = st0) (kk : ∀ (r : Option Value) (S1 : th_S), P r S1 → EV G l K d bc bs q ls (r.toList ++ st) S1 post) : EV G l K d (bc + c1) (bs + s1) pc ls st0 S post := by
  subst hq
  intro p e R s m args below meth c Q F Rt hf hlc H locs cells slots LS hc hs hR hS hL
  have hts := F.2.2.2.2.2.1
  obtain ⟨⟨w1, w2, w3, w4⟩, hw⟩ := hw
  have hroom : d1 + 1 ≤ R.frames ∧ 8 + (Ky.2.2.1 + 11) + 40 * d1 ≤ R.locals := ⟨by omega, by omega⟩
  have hG := th_good (Ky := Ky) w1
  subst hst0
  obtain ⟨hl, hin, hse⟩ := hw
  have hK := F.2.2.2.2.2.2.1
  have hrecv := va_recv hK (th_P1 (hR.get ha)) (q0 := 0) hcl rfl
  have hstk : (As.reverse ++ .ref a :: st).map (th_v G) = (As.map (th_v G)).reverse ++ .ref (th_ad G a) :: st.map (th_v G) := by simp [th_v]
  rw [hstk]
  refine th_goes (P := P) (rest := st.map (th_v G)) (mc := c1) (ms := s1) ?_ hS (fun r S1 H1 locs1 hp hR1 hS1 => ?_)
  · rcases hl with hl | ⟨host, hl⟩
    · exact va_runV (As := As.map (th_v G)) (rest := st.map (th_v G)) (n := n) ⟨F.1, F.2.1, F.2.2.1, F.2.2.2.1, hts⟩ hM ⟨callB_of n hts hG rfl rfl rfl (hts _ w2) (hts _ hl) w3 hroom, hts _ hin, hts _ hse⟩ ⟨th_blind, hrecv, th_pre F hR hS (.ref a :: As)⟩ rfl (by simpa using hn) hL.1 rfl (lv_room (th_catS hst)) hd ⟨by omega, by omega⟩
    · exact va_runVN (As := As.map (th_v G)) (rest := st.map (th_v G)) (n := n) ⟨F.1, F.2.1, F.2.2.1, F.2.2.2.1, hts⟩ hM ⟨va_cnB n hts hG rfl rfl rfl (F.2.2.2.2.2.2.2.1 _ hl) (hts _ w2) w3 hroom, hts _ hin, hts _ hse⟩ ⟨th_blind, hrecv, th_pre F hR hS (.ref a :: As)⟩ rfl (by simpa using hn) hL.1 rfl (lv_room (th_catS hst)) hd ⟨by omega, by omega⟩
  · rw [← th_mapS]
    exact kk r S1 hp p e R s m args below meth c Q F Rt hf hlc H1 locs1 (cells + c1) (slots + s1) LS (by omega) (by omega) hR1 hS1 hL
theorem ev_cS {i n d1 c1 s1 : Nat} {y : MethodName} {Ky : th_M} {As : List Value} {P : Option Value → th_S → Prop} (hM : MT G l y Ky d1 c1 s1 As S P) (hd : decode K.1 pc = .ok (.invokestatic i, 3)) (hw : th_cS K.2.1 i y Ky n) (hn : As.length = n) (hst : (st.map fun v => v.category).sum ≤ 8) (hd1 : d1 + 1 ≤ d) (hq : pc + 3 = q) {st0 : List Value} (hst0 : As.reverse ++ st = st0) (kk : ∀ (r : Option Value) (S1 : th_S), P r S1 → EV G l K d bc bs q ls (r.toList ++ st) S1 post) : EV G l K d (bc + c1) (bs + s1) pc ls st0 S post := by
  subst hq
  intro p e R s m args below meth c Q F Rt hf hlc H locs cells slots LS hc hs hR hS hL
  have hts := F.2.2.2.2.2.1
  obtain ⟨⟨w1, w2, w3, w4⟩, hw⟩ := hw
  have hroom : d1 + 1 ≤ R.frames ∧ 8 + (Ky.2.2.1 + 11) + 40 * d1 ≤ R.locals := ⟨by omega, by omega⟩
  have hG := th_good (Ky := Ky) w1
  subst hst0
  obtain ⟨hl, hse⟩ := hw
  have hstk : (As.reverse ++ st).map (th_v G) = (As.map (th_v G)).reverse ++ st.map (th_v G) := by simp
  rw [hstk]
  refine th_goes (P := P) (rest := st.map (th_v G)) (mc := c1) (ms := s1) ?_ hS (fun r S1 H1 locs1 hp hR1 hS1 => ?_)
  · rcases hl with hl | ⟨host, hl⟩
    · exact va_runS (As := As.map (th_v G)) (rest := st.map (th_v G)) (n := n) ⟨F.1, F.2.1, F.2.2.1, F.2.2.2.1, hts⟩ hM ⟨callB_of n hts hG rfl rfl rfl (hts _ w2) (hts _ hl) w3 hroom, hts _ hse⟩ ⟨th_blind, th_pre F hR hS As⟩ rfl (by simpa using hn) hL.1 rfl (lv_room (th_catS hst)) hd ⟨by omega, by omega⟩
    · exact va_runSN (As := As.map (th_v G)) (rest := st.map (th_v G)) (n := n) ⟨F.1, F.2.1, F.2.2.1, F.2.2.2.1, hts⟩ hM ⟨va_cnB n hts hG rfl rfl rfl (F.2.2.2.2.2.2.2.1 _ hl) (hts _ w2) w3 hroom, hts _ hse, trivial⟩ ⟨th_blind, th_pre F hR hS As⟩ rfl (by simpa using hn) hL.1 rfl (lv_room (th_catS hst)) hd ⟨by omega, by omega⟩
  · rw [← th_mapS]
    exact kk r S1 hp p e R s m args below meth c Q F Rt hf hlc H1 locs1 (cells + c1) (slots + s1) LS (by omega) (by omega) hR1 hS1 hL
theorem ev_cI {a i n d1 c1 s1 : Nat} {y : MethodName} {Ky : th_M} {As : List Value} {P : Option Value → th_S → Prop} (hM : MT G l y Ky d1 c1 s1 (.ref a :: As) S P) (hd : decode K.1 pc = .ok (.invokespecial i, 3)) (hw : th_cI K.2.1 i y Ky n) (hn : As.length = n) (hst : (st.map fun v => v.category).sum ≤ 8) (hd1 : d1 + 1 ≤ d) (hq : pc + 3 = q) {st0 : List Value} (hst0 : As.reverse ++ .ref a :: st = st0) (kk : ∀ (r : Option Value) (S1 : th_S), P r S1 → EV G l K d bc bs q ls (r.toList ++ st) S1 post) : EV G l K d (bc + c1) (bs + s1) pc ls st0 S post := by
  subst hq
  intro p e R s m args below meth c Q F Rt hf hlc H locs cells slots LS hc hs hR hS hL
  have hts := F.2.2.2.2.2.1
  obtain ⟨⟨w1, w2, w3, w4⟩, hw⟩ := hw
  have hroom : d1 + 1 ≤ R.frames ∧ 8 + (Ky.2.2.1 + 11) + 40 * d1 ≤ R.locals := ⟨by omega, by omega⟩
  have hG := th_good (Ky := Ky) w1
  subst hst0
  obtain ⟨hl, hin, hnm, hret⟩ := hw
  obtain ⟨Kb, Ko, Kn, Kr, Km⟩ := Ky
  dsimp only at hret hroom w1 w4 hM hG
  subst hret
  have hstk : (As.reverse ++ .ref a :: st).map (th_v G) = (As.map (th_v G)).reverse ++ .ref (th_ad G a) :: st.map (th_v G) := by simp [th_v]
  rw [hstk]
  refine th_goes (P := P) (rest := st.map (th_v G)) (mc := c1) (ms := s1) ?_ hS (fun r S1 H1 locs1 hp hR1 hS1 => ?_)
  · rcases hl with hl | ⟨host, hl⟩
    · exact va_runI (As := As.map (th_v G)) (rest := st.map (th_v G)) (n := n) ⟨F.1, F.2.1, F.2.2.1, F.2.2.2.1, hts⟩ hM ⟨callB_of n hts hG rfl rfl rfl (hts _ w2) (hts _ hl) w3 hroom, hnm, hts _ hin⟩ ⟨th_blind, th_pre F hR hS (.ref a :: As)⟩ rfl (by simpa using hn) hL.1 rfl (lv_room (th_catS hst)) hd ⟨by omega, by omega⟩
    · exact va_runIN (As := As.map (th_v G)) (rest := st.map (th_v G)) (n := n) ⟨F.1, F.2.1, F.2.2.1, F.2.2.2.1, hts⟩ hM ⟨va_cnB n hts hG rfl rfl rfl (F.2.2.2.2.2.2.2.1 _ hl) (hts _ w2) w3 hroom, hnm, hts _ hin⟩ ⟨th_blind, th_pre F hR hS (.ref a :: As)⟩ rfl (by simpa using hn) hL.1 rfl (lv_room (th_catS hst)) hd ⟨by omega, by omega⟩
  · rw [← th_mapS]
    exact kk r S1 hp p e R s m args below meth c Q F Rt hf hlc H1 locs1 (cells + c1) (slots + s1) LS (by omega) (by omega) hR1 hS1 hL
def th_cF (own : String) (i : Nat) (x y : MethodName) (Ky : th_M) (n : Nat) : Prop := th_cB y Ky n ∧ Cond.methodLink own i x ∈ th_W ∧ Cond.selects th_AL x y ∈ th_W ∧ Cond.instanceMethod y ∈ th_W ∧ ((x = yLi_size ∧ y = yJx4a65c_size_8abf5) ∨ (x = yLi_get ∧ y = yJx4a65c_get_915e3) ∨ (x = yLi_add ∧ y = yJx4a65c_add_9ea2d))
theorem ev_cF {a i n cnt d1 c1 s1 : Nat} {x y : MethodName} {Ky : th_M} {As : List Value} {f : Nat → Option Nat} {P : Option Value → th_S → Prop} (hM : MT G l y Ky d1 c1 s1 (.ref a :: As) S P) (hd : decode K.1 pc = .ok (.invokeinterface i cnt, 5)) (hw : th_cF K.2.1 i x y Ky n) (ha : S.2.1 a = some (.inr (11, f))) (hn : As.length = n) (hst : (st.map fun v => v.category).sum ≤ 8) (hd1 : d1 + 1 ≤ d) (hq : pc + 5 = q) {st0 : List Value} (hst0 : As.reverse ++ .ref a :: st = st0) (kk : ∀ (r : Option Value) (S1 : th_S), P r S1 → EV G l K d bc bs q ls (r.toList ++ st) S1 post) : EV G l K d (bc + c1) (bs + s1) pc ls st0 S post := by
  subst hq
  intro p e R s m args below meth c Q F Rt hf hlc H locs cells slots LS hc hs hR hS hL
  have hts := F.2.2.2.2.2.1
  obtain ⟨⟨w1, w2, w3, w4⟩, hw⟩ := hw
  have hroom : d1 + 1 ≤ R.frames ∧ 8 + (Ky.2.2.1 + 11) + 40 * d1 ≤ R.locals := ⟨by omega, by omega⟩
  have hG := th_good (Ky := Ky) w1
  subst hst0
  obtain ⟨hl, hse, hin, hxy⟩ := hw
  have hAmb := F.2.2.2.2.2.2
  have hK := hAmb.1
  have hrecv := va_recv hK (th_P1 (hR.get ha)) (q0 := 0) (ci := 11) (q := (RJx4a65c, TJx4a65c, 3)) rfl rfl
  have hF : va_Fw th_AL x y s := by
    rcases hxy with ⟨rfl, rfl⟩ | ⟨rfl, rfl⟩ | ⟨rfl, rfl⟩
    · exact hAmb.2.2.1.1
    · exact hAmb.2.2.1.2.1
    · exact hAmb.2.2.1.2.2
  have hx3 : x.cls ≠ "java/lang/invoke/MethodHandle" ∧ x.cls ≠ "java/lang/invoke/VarHandle" ∧ (parseMethodDescriptor x.desc).map (fun d => d.parameters.length) = some n := by
    have hd2 := w3.2.2
    rcases hxy with ⟨rfl, rfl⟩ | ⟨rfl, rfl⟩ | ⟨rfl, rfl⟩
    · exact ⟨by decide, by decide, hd2⟩
    · exact ⟨by decide, by decide, hd2⟩
    · exact ⟨by decide, by decide, hd2⟩
  have hT : GoodIn th_W (va_wsF K.2.1 i th_AL x y (Cond.code y Ky.1 Ky.2.2.1 Ky.2.2.2.1 :: th_W)) := by
    intro w hw
    unfold va_wsF at hw
    rcases List.mem_append.mp hw with hw | hw
    · have hm : w ∈ th_W := by
        simp only [List.mem_cons, List.not_mem_nil, or_false] at hw
        rcases hw with rfl | rfl | rfl | rfl
        · exact hl
        · exact hse
        · exact hin
        · exact w2
      exact ⟨hm, good_of_word (List.mem_filter.mp hm).2⟩
    · exact hG w hw
  have hstk : (As.reverse ++ .ref a :: st).map (th_v G) = (As.map (th_v G)).reverse ++ .ref (th_ad G a) :: st.map (th_v G) := by simp [th_v]
  rw [hstk]
  refine th_goes5 (P := P) (rest := st.map (th_v G)) (mc := c1) (ms := s1) ?_ hS (fun r S1 H1 locs1 hp hR1 hS1 => ?_)
  · exact va_runF (As := As.map (th_v G)) (rest := st.map (th_v G)) (n := n) (hK.1 11 _ rfl).2 ⟨F.1, F.2.1, F.2.2.1, F.2.2.2.1, hts⟩ hM (va_cwF n hts hT rfl rfl rfl hF hx3 hroom) ⟨th_blind, hrecv, th_pre F hR hS (.ref a :: As)⟩ rfl (by simpa using hn) hL.1 rfl (lv_room (th_catS hst)) hd ⟨by omega, by omega⟩
  · rw [← th_mapS]
    exact kk r S1 hp p e R s m args below meth c Q F Rt hf hlc H1 locs1 (cells + c1) (slots + s1) LS (by omega) (by omega) hR1 hS1 hL
theorem ev_oI {a i : Nat} (hd : decode K.1 pc = .ok (.invokespecial i, 3)) (h1 : Cond.methodLink K.2.1 i objectInit ∈ th_W) (h2 : Cond.instanceMethod objectInit ∈ th_W) (h3 : Cond.code objectInit ⟨#[0xb1]⟩ 1 none ∈ th_W) (hst : (st.map fun v => v.category).sum ≤ 8) (hd1 : 1 ≤ d) (hq : pc + 3 = q) (kk : EV G l K d bc bs q ls st S post) : EV G l K d bc bs pc ls (.ref a :: st) S post := by
  subst hq
  intro p e R s m args below meth c Q F Rt hf hlc H locs cells slots LS hc hs hR hS hL
  have hts := F.2.2.2.2.2.1
  have h8 := lv_room (m := m) (pc := pc) (ls := LS) (rest := []) (th_catS (G := G) hst)
  exact W.objInit F.1 F.2.1 F.2.2.2.1 (hts _ h1) (hts _ h2) (hts _ h3) rfl (by rw [F.2.2.1]; exact hL.1) rfl hd (by omega) (by
    have : 2 * (F0 m pc LS (List.map (th_v G) (Value.ref a :: st))).monitorRoom + ((st.map (th_v G)).map fun v => v.category).sum ≤ 8 := lv_room (th_catS hst)
    omega) (kk p e R s m args below meth c Q F Rt hf hlc H locs cells slots LS hc hs hR hS hL)
end EVC
