/-! what holds at every method's start -/
def th_W : List Cond := lw_tbl.filter goodWord
def th_isN : Cond → Bool
  | .fieldLinkNest .. => true
  | .methodLinkNest .. => true
  | .castable .. => true
  | _ => false
def th_N : List Cond := tables_1.filter th_isN
abbrev th_AL : String := "java/util/ArrayList"
def yLi_size : MethodName := ⟨"java/util/List", "size", "()I"⟩
def yLi_get : MethodName := ⟨"java/util/List", "get", "(I)Ljava/lang/Object;"⟩
def yLi_add : MethodName := ⟨"java/util/List", "add", "(Ljava/lang/Object;)Z"⟩
def th_Amb (G : th_G) (U : State) : Prop :=
  va_K G.2.2.1 th_cl (th_tys G) U ∧ (∀ w ∈ th_N, va_Nw w U) ∧
  (va_Fw th_AL yLi_size yJx4a65c_size_8abf5 U ∧ va_Fw th_AL yLi_get yJx4a65c_get_915e3 U ∧ va_Fw th_AL yLi_add yJx4a65c_add_9ea2d U) ∧
  (va_AO "java/lang/Object" U ∧ va_AO "TriggerHall$Sheet" U) ∧
  (va_T .int (G.2.1 0) G.2.2.2.2.1 (fun j => .int (G.2.2.2.2.2 j)) (th_A G) U U.heap ∧
   va_T .int (G.2.1 1) 5 (fun _ => .int 0) (th_A G) U U.heap ∧
   va_T (.object "java/lang/Object") (G.2.1 2) 0 (fun _ => .null) (th_A G) U U.heap) ∧
  (va_Z "TriggerHall" "NO_CELLS" "[I" (.ref (G.2.1 1)) (th_A G) U U.heap ∧
   va_Z th_AL "DEFAULTCAPACITY_EMPTY_ELEMENTDATA" "[Ljava/lang/Object;" (.ref (G.2.1 2)) (th_A G) U U.heap) ∧
  (va_Mi "[Ljava/lang/Object;" (G.2.1 3) U ∧ va_Dc U) ∧ G.1 ≤ U.heap.size
theorem th_Nw_moved {w : Cond} (hw : th_isN w = true) {s U : State} (hW : s.WarmedH U.vm) (h : va_Nw w s) : va_Nw w U := by
  cases w <;> simp [th_isN] at hw
  case fieldLinkNest => exact va_Nw.warmF hW h
  case methodLinkNest => exact va_Nw.warmM hW h
  case castable => exact va_Nw.warmC hW h
theorem th_Amb.moved {G : th_G} {s U : State} (h : th_Amb G s) (hW : s.WarmedH U.vm) (hq : ∀ q, q < s.heap.size → ¬ th_A G q → U.heap[q]? = s.heap[q]?) (hz : G.1 ≤ U.heap.size) : th_Amb G U := by
  obtain ⟨h1, h2, ⟨h3, h4, h5⟩, ⟨h6, h7⟩, ⟨h8, h9, h10⟩, ⟨h11, h12⟩, ⟨h13, h14⟩, -⟩ := h
  have al := hW.alike
  have hnm : ∀ y : MethodName, y = yLi_size ∨ y = yLi_get ∨ y = yLi_add → y.cls ≠ "java/lang/invoke/MethodHandle" ∧ y.cls ≠ "java/lang/invoke/VarHandle" := by
    rintro y (rfl | rfl | rfl) <;> decide
  exact ⟨va_K.moved al h1, fun w hw => th_Nw_moved (List.mem_filter.mp hw).2 hW (h2 w hw),
    ⟨va_Fw.moved (hnm _ (by simp)) al h3, va_Fw.moved (hnm _ (by simp)) al h4, va_Fw.moved (hnm _ (by simp)) al h5⟩, ⟨va_AO.moved al h6, va_AO.moved al h7⟩,
    ⟨va_T.moved al (h8.kept hq), va_T.moved al (h9.kept hq), va_T.moved al (h10.kept hq)⟩, ⟨va_Z.moved al (h11.kept hq), va_Z.moved al (h12.kept hq)⟩, ⟨va_Mi.moved al h13, va_Dc.moved al h14⟩, hz⟩
/-! the judgement -/
/-- a method: its bytes, its class, its locals, its type, its name -/
abbrev th_M : Type := ByteArray × String × Nat × Option FieldType × String
def th_end (K : th_M) (pc : Nat) (r : Option Value) : Prop :=
  (r = none ∧ K.2.2.2.1 = none ∧ decode K.1 pc = .ok (.return_, 1)) ∨
  (∃ (v : Int32) (ty : FieldType), r = some (.int v) ∧ K.2.2.2.1 = some ty ∧ narrow ty (.int v) = .int v ∧ decode K.1 pc = .ok (.ireturn, 1)) ∨
  (∃ rt : FieldType, K.2.2.2.1 = some rt ∧ ((∃ n, rt = .object n) ∨ ∃ t, rt = .array t) ∧ (r = some .null ∨ ∃ a, r = some (.ref a)) ∧ decode K.1 pc = .ok (.areturn, 1))
def th_Fix (G : th_G) (K : th_M) (p : Program) (s : State) (m : MethodId) (args : Array Value) (meth : Method) (c : Code) : Prop :=
  p.tables.exec = Jvm.exec ∧ c.code = K.1 ∧ c.maxLocals = K.2.2.1 ∧ s.vm.findClass K.2.1 = some m.cls ∧ meth.name = K.2.2.2.2 ∧ (∀ w ∈ th_W, w.before args s = true) ∧ th_Amb G s
def th_Rt (G : th_G) (K : th_M) (p : Program) (l : Launch) (e : Env) (R : Room) (s : State) (m : MethodId) (args : Array Value) (below : List Frame) (meth : Method) (c : Code) (Q : State → Prop) (post : Option Value → th_S → Prop) : Prop :=
  ∀ (r : Option Value) (S : th_S) (H : Heap) (locs : List Loc) (cells slots pc : Nat) (LS : Array Slot), post r S → th_R G S H → va_S (th_A G) s.heap H locs → cells ≤ R.cells → slots ≤ R.slots → th_end K pc r →
    W p l e R s m args below meth c H locs cells slots Q (F0 m pc LS (r.toList.map (th_v G)))
/-- from pc, with locals ls and stack st, in the heap S, within the room: the method ends as post says -/
def EV (G : th_G) (l : Launch) (K : th_M) (d bc bs pc : Nat) (ls : List (Option Value)) (st : List Value) (S : th_S) (post : Option Value → th_S → Prop) : Prop :=
  ∀ (p : Program) (e : Env) (R : Room) (s : State) (m : MethodId) (args : Array Value) (below : List Frame) (meth : Method) (c : Code) (Q : State → Prop),
    th_Fix G K p s m args meth c → th_Rt G K p l e R s m args below meth c Q post → d ≤ R.frames → 40 * d ≤ R.locals →
    ∀ (H : Heap) (locs : List Loc) (cells slots : Nat) (LS : Array Slot), cells + bc ≤ R.cells → slots + bs ≤ R.slots → th_R G S H → va_S (th_A G) s.heap H locs → th_L G LS K.2.2.1 ls →
      W p l e R s m args below meth c H locs cells slots Q (F0 m pc LS (st.map (th_v G)))
/-- a method's contract -/
def MT (G : th_G) (l : Launch) (y : MethodName) (K : th_M) (d bc bs : Nat) (As : List Value) (S : th_S) (post : Option Value → th_S → Prop) : Prop :=
  Met l y (Cond.code y K.1 K.2.2.1 K.2.2.2.1 :: th_W) { frames := d, cells := bc, slots := bs, locals := 40 * d }
    (va_Pc (As.map (th_v G)) (fun U => th_R G S U.heap ∧ th_Amb G U))
    (fun _ st oc t => (∃ (r : Option Value) (S' : th_S), oc = .returned (r.map (th_v G)) ∧ post r S' ∧ th_R G S' t.heap) ∧ va_F (th_A G) st t) bc bs (th_A G)
theorem th_bytes {G : th_G} {K : th_M} {p : Program} {s : State} {m : MethodId} {args : Array Value} {meth : Method} {c : Code} (F : th_Fix G K p s m args meth c) : c.code = K.1 := F.2.1
theorem EV.post {G : th_G} {l : Launch} {K : th_M} {d bc bs pc : Nat} {ls : List (Option Value)} {st : List Value} {S : th_S} {P P' : Option Value → th_S → Prop} (h : EV G l K d bc bs pc ls st S P) (hp : ∀ r S', P r S' → P' r S') : EV G l K d bc bs pc ls st S P' :=
  fun p e R s m args below meth c Q F Rt => h p e R s m args below meth c Q F (fun r S1 H locs cells slots pc LS h1 => Rt r S1 H locs cells slots pc LS (hp r S1 h1))
theorem EV.deep {G : th_G} {l : Launch} {K : th_M} {d d' bc bs pc : Nat} {ls : List (Option Value)} {st : List Value} {S : th_S} {P : Option Value → th_S → Prop} (h : EV G l K d bc bs pc ls st S P) (hd : d ≤ d') : EV G l K d' bc bs pc ls st S P :=
  fun p e R s m args below meth c Q F Rt h1 h2 => h p e R s m args below meth c Q F Rt (Nat.le_trans hd h1) (Nat.le_trans (Nat.mul_le_mul_left 40 hd) h2)
theorem EV.room {G : th_G} {l : Launch} {K : th_M} {d bc bs bc' bs' pc : Nat} {ls : List (Option Value)} {st : List Value} {S : th_S} {P : Option Value → th_S → Prop} (h : EV G l K d bc bs pc ls st S P) (h1 : bc ≤ bc') (h2 : bs ≤ bs') : EV G l K d bc' bs' pc ls st S P :=
  fun p e R s m args below meth c Q F Rt a1 a2 H locs cells slots LS b1 b2 => h p e R s m args below meth c Q F Rt a1 a2 H locs cells slots LS (by omega) (by omega)
/-- a contract out of a walk -/
theorem MT.of {G : th_G} {l : Launch} {y : MethodName} {K : th_M} {d bc bs : Nat} {As : List Value} {S : th_S} {post : Option Value → th_S → Prop} (hy : plainName y.cls = true) (hyc : y.cls = K.2.1) (hyn : y.name = K.2.2.2.2) {n : Nat} (hn : (th_en As).length + n = K.2.2.1) {ls : List (Option Value)} (hls : th_en As ++ List.replicate n none = ls) (h : EV G l K d bc bs 0 ls [] S post) : MT G l y K d bc bs As S post := by
  refine Met.ofW (cc := K.1) (maxL := K.2.2.1) (ret := K.2.2.2.1) hy rfl ?_
  intro p e s m args below meth c s₁ B hml hv
  obtain ⟨rfl, hR, hAmb⟩ := hv
  have hts := atoms_spec (ws := Cond.code y K.1 K.2.2.1 K.2.2.2.1 :: th_W) B.pre
  have hown : s.vm.findClass K.2.1 = some m.cls := by rw [← hyc]; exact findClass_of_methodNamed B.named
  have hlocks := B.notSynchronized
  have hnm : meth.name = K.2.2.2.2 := by rw [← hyn]; exact (name_of_methodNamed B.named B.method).1
  have hx := B.exec
  have hb := B.bytes
  have hr := B.returns
  have hlen : (lg_sl (As.map (th_v G))).length = (th_en As).length := by
    clear h hls hn hR B hts
    induction As with
    | nil => rfl
    | cons v r ih =>
      by_cases hv : v.category = 2
      · simp [lg_sl, th_en, th_v_cat, hv] at ih ⊢
        omega
      · simp [lg_sl, th_en, th_v_cat, hv] at ih ⊢
        omega
  have hl := lv_entry (As.map (th_v G)) (n := K.2.2.1) (by rw [hlen]; omega)
  rw [lg_entry_eq]
  generalize (lg_sl (As.map (th_v G)) ++ List.replicate (K.2.2.1 - (lg_sl (As.map (th_v G))).length) Slot.unset).toArray = LS at hl ⊢
  have hL : th_L G LS K.2.2.1 ls := ⟨hl.1, hl.2.1, fun q hq => hl.2.2 q (by rw [← hls] at hq; exact th_en_mem As 0 n q hq)⟩
  refine h p e _ s m _ below meth c _ ⟨hx, hb, hml, hown, hnm, fun w hw => hts w (List.mem_cons_of_mem _ hw), hAmb⟩ ?_ (Nat.le_refl _) (Nat.le_refl _) s.heap [] 0 0 LS (by show 0 + bc ≤ bc; omega) (by show 0 + bs ≤ bs; omega) hR va_S.rf hL
  intro r S1 H locs cells slots pc LS1 hp hR1 hS1 hc hs hend
  have fin : ∀ t : State, t.heap = H → s.WarmedH t.vm → (∃ (r' : Option Value) (S' : th_S), Outcome.returned (r.map (th_v G)) = .returned (r'.map (th_v G)) ∧ post r' S' ∧ th_R G S' t.heap) ∧ va_F (th_A G) s t :=
    fun t ht _ => ⟨⟨r, S1, rfl, hp, by rw [ht]; exact hR1⟩, hS1.F ht⟩
  refine W.widen (k := bc) (n := bs) hc hs ?_
  rcases hend with ⟨rfl, h2, h3⟩ | ⟨v, ty, rfl, h2, h3, h4⟩ | ⟨rt, h2, h3, h4, h5⟩
  · exact W.vret hx hb (by rw [hr]; exact h2) fin hS1.2.2 h3
  · exact W.zret hx hb (by rw [hr]; exact h2) h3 fin hS1.2.2 h4
  · rcases h4 with rfl | ⟨a, rfl⟩
    · exact W.aret hx hb (by rw [hr]; exact h2) h3 (Or.inl rfl) fin hS1.2.2 h5
    · exact W.aret hx hb (by rw [hr]; exact h2) h3 (Or.inr ⟨_, rfl⟩) fin hS1.2.2 h5
