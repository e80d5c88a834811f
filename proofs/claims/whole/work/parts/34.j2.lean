/-! methods of a class of which some are run by rows of the machine's own: this one isn't -/
theorem th_ofW {l : Launch} {y : MethodName} {ws ws' : List Cond} {rm : Room} {Pc : Array Value → State → Prop} {Qc : Array Value → State → Outcome → State → Prop} {mc ms : Nat} {free : Addr → Prop} {cc : ByteArray} {maxL : Nat} {ret : Option FieldType} (hy : plainFor y = true) (hw : ws = Cond.code y cc maxL ret :: ws')
    (body : ∀ p e s m args below meth c s₁, BodyLoose p l y (headSpec ws rm) cc maxL ret e s m args below meth c s₁ → c.maxLocals = maxL → Pc args s → W p l e (headSpec ws rm).room s m args below meth c s.heap [] 0 0 (MQ below Qc args s mc ms free) (entryFrame m args maxL)) : Met l y ws rm Pc Qc mc ms free := by
  refine MetFree.of_bodySF (code := cc) (maxLocals := maxL) (ret := ret) hy ?_ ?_
  · intro args s m h hn
    obtain ⟨meth, c, h1, h2, h3, h4, h5, h6, -, -⟩ := Cond.code_spec hn (atoms_spec (ws := ws) h _ (by rw [hw]; exact List.mem_cons_self))
    exact ⟨meth, c, h1, h2, h3, h4, h5, h6⟩
  · intro p e s m args below meth c s₁ B hml hP _
    have hh0 : s₁.heap = s.heap := by rw [B.state]; rfl
    obtain ⟨t, a1, o, b1, b2, b3⟩ := body p e s m args below meth c s₁ B hml hP s₁ hh0 (Stand.of_body B)
    exact ⟨t, o, a1, b1, b2, ⟨b3.1, b3.2⟩⟩
theorem MT.ofF {G : th_G} {l : Launch} {y : MethodName} {K : th_M} {d bc bs : Nat} {As : List Value} {S : th_S} {post : Option Value → th_S → Prop} (hy : plainFor y = true) (hyc : y.cls = K.2.1) (hyn : y.name = K.2.2.2.2) {n : Nat} (hn : (th_en As).length + n = K.2.2.1) {ls : List (Option Value)} (hls : th_en As ++ List.replicate n none = ls) (h : EV G l K d bc bs 0 ls [] S post) : MT G l y K d bc bs As S post := by
  refine th_ofW (cc := K.1) (maxL := K.2.2.1) (ret := K.2.2.2.1) hy rfl ?_
  intro p e s m args below meth c s₁ B hml hv
  obtain ⟨rfl, hR, hAmb⟩ := hv
  have hts := atoms_spec (ws := Cond.code y K.1 K.2.2.1 K.2.2.2.1 :: th_W) B.pre
  have hown : s.vm.findClass K.2.1 = some m.cls := by rw [← hyc]; exact findClass_of_methodNamed B.named
  have hlocks := B.notSynchronized
  have hnm : meth.name = K.2.2.2.2 := by rw [← hyn]; exact (name_of_methodNamed B.named B.method).1
  have hx := B.exec
  have hb := B.bytes
  have hr := B.returns
  have hlen : (lg_sl (As.map (th_v G))).length = (th_en As).length := by
    clear h hls hn hR B hts
    induction As with
    | nil => rfl
    | cons v r ih =>
      by_cases hv : v.category = 2
      · simp [lg_sl, th_en, th_v_cat, hv] at ih ⊢
        omega
      · simp [lg_sl, th_en, th_v_cat, hv] at ih ⊢
        omega
  have hl := lv_entry (As.map (th_v G)) (n := K.2.2.1) (by rw [hlen]; omega)
  rw [lg_entry_eq]
  generalize (lg_sl (As.map (th_v G)) ++ List.replicate (K.2.2.1 - (lg_sl (As.map (th_v G))).length) Slot.unset).toArray = LS at hl ⊢
  have hL : th_L G LS K.2.2.1 ls := ⟨hl.1, hl.2.1, fun q hq => hl.2.2 q (by rw [← hls] at hq; exact th_en_mem As 0 n q hq)⟩
  refine h p e _ s m _ below meth c _ ⟨hx, hb, hml, hown, hnm, fun w hw => hts w (List.mem_cons_of_mem _ hw), hAmb⟩ ?_ (Nat.le_refl _) (Nat.le_refl _) s.heap [] 0 0 LS (by show 0 + bc ≤ bc; omega) (by show 0 + bs ≤ bs; omega) hR va_S.rf hL
  intro r S1 H locs cells slots pc LS1 hp hR1 hS1 hc hs hend
  have fin : ∀ t : State, t.heap = H → s.WarmedH t.vm → (∃ (r' : Option Value) (S' : th_S), Outcome.returned (r.map (th_v G)) = .returned (r'.map (th_v G)) ∧ post r' S' ∧ th_R G S' t.heap) ∧ va_F (th_A G) s t :=
    fun t ht _ => ⟨⟨r, S1, rfl, hp, by rw [ht]; exact hR1⟩, hS1.F ht⟩
  refine W.widen (k := bc) (n := bs) hc hs ?_
  rcases hend with ⟨rfl, h2, h3⟩ | ⟨v, ty, rfl, h2, h3, h4⟩ | ⟨rt, h2, h3, h4, h5⟩
  · exact W.vret hx hb (by rw [hr]; exact h2) fin hS1.2.2 h3
  · exact W.zret hx hb (by rw [hr]; exact h2) h3 fin hS1.2.2 h4
  · rcases h4 with rfl | ⟨a, rfl⟩
    · exact W.aret hx hb (by rw [hr]; exact h2) h3 (Or.inl rfl) fin hS1.2.2 h5
    · exact W.aret hx hb (by rw [hr]; exact h2) h3 (Or.inr ⟨_, rfl⟩) fin hS1.2.2 h5
/-! the JDK's methods -/
def imax (a b : Int32) : Int32 := if a < b then b else a
def imin (a b : Int32) : Int32 := if b < a then b else a
abbrev iu (x : Int32) (k : Int32) : Int32 := (x.toUInt32 >>> (k.toUInt32 &&& Int32.toUInt32 31)).toInt32
def bct1 (v : Int32) : Int32 := v - (iu v 1 &&& 1431655765)
def bct2 (v : Int32) : Int32 := (v &&& 858993459) + (iu v 2 &&& 858993459)
def bct3 (v : Int32) : Int32 := (v + iu v 4) &&& 252645135
def bct4 (v : Int32) : Int32 := v + iu v 8
def bct5 (v : Int32) : Int32 := (v + iu v 16) &&& 63
def bct (v : Int32) : Int32 := bct5 (bct4 (bct3 (bct2 (bct1 v))))
section J2
variable {G : th_G} {l : Launch} {d : Nat} {S : th_S}
theorem j_max (a b : Int32) : MT G l yJ9_max_7cf53 kJ9_max_7cf53 d 0 0 [.int a, .int b] S (th_is (imax a b) S) := by
  refine MT.ofF (by decide +kernel) rfl rfl (n := 0) rfl (ls := [some (.int a), some (.int b)]) rfl ?_
  refine ev_iload0 (q := 1) dJ9_max_7cf53_0 rfl ?_
  refine ev_iload1 (q := 2) dJ9_max_7cf53_1 rfl ?_
  refine ev_icmp_lt (q := 5) (t := 9) dJ9_max_7cf53_2 rfl (by decide) (fun c2 => ?_) (fun c2 => ?_)
  · refine ev_iload1 (q := 10) dJ9_max_7cf53_9 rfl ?_
    exact ev_ireturn dJ9_max_7cf53_10 rfl rfl ⟨congrArg (fun z => some (Value.int z)) (if_pos c2).symm, rfl⟩
  · refine ev_iload0 (q := 6) dJ9_max_7cf53_5 rfl ?_
    refine ev_goto (q := 10) dJ9_max_7cf53_6 (by decide) ?_
    exact ev_ireturn dJ9_max_7cf53_10 rfl rfl ⟨congrArg (fun z => some (Value.int z)) (if_neg c2).symm, rfl⟩
theorem j_min (a b : Int32) : MT G l yJ9_min_7cf53 kJ9_min_7cf53 d 0 0 [.int a, .int b] S (th_is (imin a b) S) := by
  refine MT.ofF (by decide +kernel) rfl rfl (n := 0) rfl (ls := [some (.int a), some (.int b)]) rfl ?_
  refine ev_iload0 (q := 1) dJ9_min_7cf53_0 rfl ?_
  refine ev_iload1 (q := 2) dJ9_min_7cf53_1 rfl ?_
  refine ev_icmp_gt (q := 5) (t := 9) dJ9_min_7cf53_2 rfl (by decide) (fun c2 => ?_) (fun c2 => ?_)
  · refine ev_iload1 (q := 10) dJ9_min_7cf53_9 rfl ?_
    exact ev_ireturn dJ9_min_7cf53_10 rfl rfl ⟨congrArg (fun z => some (Value.int z)) (if_pos c2).symm, rfl⟩
  · refine ev_iload0 (q := 6) dJ9_min_7cf53_5 rfl ?_
    refine ev_goto (q := 10) dJ9_min_7cf53_6 (by decide) ?_
    exact ev_ireturn dJ9_min_7cf53_10 rfl rfl ⟨congrArg (fun z => some (Value.int z)) (if_neg c2).symm, rfl⟩
theorem j_bitCount (v : Int32) : MT G l yJ6_bitCount_0f7a4 kJ6_bitCount_0f7a4 d 0 0 [.int v] S (th_is (bct v) S) := by
  refine MT.of (by decide) rfl rfl (n := 0) rfl (ls := [some (.int v)]) rfl ?_
  refine ev_iload0 (q := 1) dJ6_bitCount_0f7a4_0 rfl ?_
  refine ev_iload0 (q := 2) dJ6_bitCount_0f7a4_1 rfl ?_
  refine ev_iconst (q := 3) (v := 1) dJ6_bitCount_0f7a4_2 rfl rfl ?_
  refine ev_iushr (q := 4) dJ6_bitCount_0f7a4_3 rfl ?_
  refine ev_ldcw (q := 7) dJ6_bitCount_0f7a4_4 q_J6_265 rfl ?_
  refine ev_iand (q := 8) dJ6_bitCount_0f7a4_7 rfl ?_
  refine ev_isub (q := 9) dJ6_bitCount_0f7a4_8 rfl ?_
  refine ev_istore0 (q := 10) dJ6_bitCount_0f7a4_9 rfl (by decide) rfl ?_
  show EV G l kJ6_bitCount_0f7a4 d 0 0 10 [some (.int (bct1 v))] [] S _
  unfold bct
  generalize bct1 v = v
  refine ev_iload0 (q := 11) dJ6_bitCount_0f7a4_10 rfl ?_
  refine ev_ldcw (q := 14) dJ6_bitCount_0f7a4_11 q_J6_266 rfl ?_
  refine ev_iand (q := 15) dJ6_bitCount_0f7a4_14 rfl ?_
  refine ev_iload0 (q := 16) dJ6_bitCount_0f7a4_15 rfl ?_
  refine ev_iconst (q := 17) (v := 2) dJ6_bitCount_0f7a4_16 rfl rfl ?_
  refine ev_iushr (q := 18) dJ6_bitCount_0f7a4_17 rfl ?_
  refine ev_ldcw (q := 21) dJ6_bitCount_0f7a4_18 q_J6_266 rfl ?_
  refine ev_iand (q := 22) dJ6_bitCount_0f7a4_21 rfl ?_
  refine ev_iadd (q := 23) dJ6_bitCount_0f7a4_22 rfl ?_
  refine ev_istore0 (q := 24) dJ6_bitCount_0f7a4_23 rfl (by decide) rfl ?_
  show EV G l kJ6_bitCount_0f7a4 d 0 0 24 [some (.int (bct2 v))] [] S _
  generalize bct2 v = v
  refine ev_iload0 (q := 25) dJ6_bitCount_0f7a4_24 rfl ?_
  refine ev_iload0 (q := 26) dJ6_bitCount_0f7a4_25 rfl ?_
  refine ev_iconst (q := 27) (v := 4) dJ6_bitCount_0f7a4_26 rfl rfl ?_
  refine ev_iushr (q := 28) dJ6_bitCount_0f7a4_27 rfl ?_
  refine ev_iadd (q := 29) dJ6_bitCount_0f7a4_28 rfl ?_
  refine ev_ldcw (q := 32) dJ6_bitCount_0f7a4_29 q_J6_267 rfl ?_
  refine ev_iand (q := 33) dJ6_bitCount_0f7a4_32 rfl ?_
  refine ev_istore0 (q := 34) dJ6_bitCount_0f7a4_33 rfl (by decide) rfl ?_
  show EV G l kJ6_bitCount_0f7a4 d 0 0 34 [some (.int (bct3 v))] [] S _
  generalize bct3 v = v
  refine ev_iload0 (q := 35) dJ6_bitCount_0f7a4_34 rfl ?_
  refine ev_iload0 (q := 36) dJ6_bitCount_0f7a4_35 rfl ?_
  refine ev_bipush (q := 38) (v := 8) dJ6_bitCount_0f7a4_36 rfl rfl ?_
  refine ev_iushr (q := 39) dJ6_bitCount_0f7a4_38 rfl ?_
  refine ev_iadd (q := 40) dJ6_bitCount_0f7a4_39 rfl ?_
  refine ev_istore0 (q := 41) dJ6_bitCount_0f7a4_40 rfl (by decide) rfl ?_
  show EV G l kJ6_bitCount_0f7a4 d 0 0 41 [some (.int (bct4 v))] [] S _
  generalize bct4 v = v
  refine ev_iload0 (q := 42) dJ6_bitCount_0f7a4_41 rfl ?_
  refine ev_iload0 (q := 43) dJ6_bitCount_0f7a4_42 rfl ?_
  refine ev_bipush (q := 45) (v := 16) dJ6_bitCount_0f7a4_43 rfl rfl ?_
  refine ev_iushr (q := 46) dJ6_bitCount_0f7a4_45 rfl ?_
  refine ev_iadd (q := 47) dJ6_bitCount_0f7a4_46 rfl ?_
  refine ev_istore0 (q := 48) dJ6_bitCount_0f7a4_47 rfl (by decide) rfl ?_
  refine ev_iload0 (q := 49) dJ6_bitCount_0f7a4_48 rfl ?_
  refine ev_bipush (q := 51) (v := 63) dJ6_bitCount_0f7a4_49 rfl rfl ?_
  refine ev_iand (q := 52) dJ6_bitCount_0f7a4_51 rfl ?_
  exact ev_ireturn dJ6_bitCount_0f7a4_52 rfl rfl ⟨rfl, rfl⟩
theorem j_floorMod {a b : Nat} (ha : a < 2 ^ 31) (hb : 0 < b) (hb2 : b < 2 ^ 31) : MT G l yJ9_floorMod_7cf53 kJ9_floorMod_7cf53 d 0 0 [.int (nI a), .int (nI b)] S (th_is (nI (a % b)) S) := by
  refine MT.ofF (by decide +kernel) rfl rfl (n := 1) rfl (ls := [some (.int (nI a)), some (.int (nI b)), none]) rfl ?_
  have h0 : ¬ nI b = 0 := fun e => by
    have := (nI_eq hb2 (by decide)).mp (show nI b = nI 0 from e)
    omega
  have hx : ¬ (nI a ^^^ nI b) < 0 := by
    rw [i_lt]
    have e : (0 : Int32).toInt = 0 := by decide
    rw [e, Int.not_lt]
    have : ((nI a) ^^^ (nI b)).toBitVec = (nI a).toBitVec ^^^ (nI b).toBitVec := Int32.toBitVec_xor ..
    show 0 ≤ (((nI a) ^^^ (nI b)).toBitVec).toInt
    rw [this]
    have e1 : (nI a).toBitVec.msb = false := by
      have := nI_toInt ha
      rw [BitVec.msb_eq_false_iff_two_mul_lt]
      have h : (nI a).toBitVec.toInt = a := this
      have := BitVec.toInt_eq_toNat_cond (nI a).toBitVec
      have := (nI a).toBitVec.isLt
      omega
    have e2 : (nI b).toBitVec.msb = false := by
      have := nI_toInt hb2
      rw [BitVec.msb_eq_false_iff_two_mul_lt]
      have h : (nI b).toBitVec.toInt = b := this
      have := BitVec.toInt_eq_toNat_cond (nI b).toBitVec
      have := (nI b).toBitVec.isLt
      omega
    have e3 : ((nI a).toBitVec ^^^ (nI b).toBitVec).msb = false := by rw [BitVec.msb_xor, e1, e2]; rfl
    have := BitVec.toInt_nonneg_of_msb_false e3
    exact this
  refine ev_iload0 (q := 1) dJ9_floorMod_7cf53_0 rfl ?_
  refine ev_iload1 (q := 2) dJ9_floorMod_7cf53_1 rfl ?_
  refine ev_irem (q := 3) dJ9_floorMod_7cf53_2 h0 rfl ?_
  refine ev_istore2 (q := 4) dJ9_floorMod_7cf53_3 rfl (by decide) rfl ?_
  refine ev_iload0 (q := 5) dJ9_floorMod_7cf53_4 rfl ?_
  refine ev_iload1 (q := 6) dJ9_floorMod_7cf53_5 rfl ?_
  refine ev_ixor (q := 7) dJ9_floorMod_7cf53_6 rfl ?_
  refine ev_if_ge (q := 10) (t := 18) dJ9_floorMod_7cf53_7 rfl (by decide) (fun c7 => ?_) (fun c7 => ?_)
  · refine ev_iload2 (q := 19) dJ9_floorMod_7cf53_18 rfl ?_
    exact ev_ireturn dJ9_floorMod_7cf53_19 rfl rfl ⟨congrArg (fun z => some (Value.int z)) (pk_rem ha hb hb2), rfl⟩
  · refine ev_iload2 (q := 11) dJ9_floorMod_7cf53_10 rfl ?_
    refine ev_if_eq (q := 14) (t := 18) dJ9_floorMod_7cf53_11 rfl (by decide) (fun c11 => ?_) (fun c11 => ?_)
    · refine ev_iload2 (q := 19) dJ9_floorMod_7cf53_18 rfl ?_
      exact ev_ireturn dJ9_floorMod_7cf53_19 rfl rfl (absurd (i_lt.mpr (i_nle c7)) hx)
    · refine ev_iload2 (q := 15) dJ9_floorMod_7cf53_14 rfl ?_
      refine ev_iload1 (q := 16) dJ9_floorMod_7cf53_15 rfl ?_
      refine ev_iadd (q := 17) dJ9_floorMod_7cf53_16 rfl ?_
      exact ev_ireturn dJ9_floorMod_7cf53_17 rfl rfl (absurd (i_lt.mpr (i_nle c7)) hx)
end J2
section J3
variable {G : th_G} {l : Launch} {d : Nat} {N : Nat} {SH : Nat → Option th_K0} {V : th_Vl}
theorem j_ACinit (S : th_S) (a : Nat) : MT G l yJxa1e45_init_da8c8 kJxa1e45_init_da8c8 (d + 1) 0 0 [.ref a] S (fun r S' => r = none ∧ S' = S) := by
  refine MT.of (by decide) rfl rfl (n := 0) rfl (ls := [some (.ref a)]) rfl ?_
  refine ev_aload0 (q := 1) dJxa1e45_init_da8c8_0 rfl ?_
  refine ev_oI (q := 4) dJxa1e45_init_da8c8_1 l_Jxa1e45_1 l_oi1 l_oi2 (Nat.le_of_ble_eq_true rfl) (by omega) rfl ?_
  exact ev_return dJxa1e45_init_da8c8_4 rfl ⟨rfl, rfl⟩
theorem j_ALinit {a : Nat} {f : Nat → Option Nat} (ha : SH a = some (.inr (11, f))) : MT G l yJxc12de_init_da8c8 kJxc12de_init_da8c8 (d + 2) 0 0 [.ref a] (N, SH, V) (fun r S' => r = none ∧ S' = (N, SH, th_w V a 0 0)) := by
  refine MT.of (by decide) rfl rfl (n := 0) rfl (ls := [some (.ref a)]) rfl ?_
  refine ev_aload0 (q := 1) dJxc12de_init_da8c8_0 rfl ?_
  refine ev_cI (K := kJxc12de_init_da8c8) (pc := 1) (q := 4) (j_ACinit _ _) dJxc12de_init_da8c8_1 l_Jxc12de_1 rfl (Nat.le_of_ble_eq_true rfl) (Nat.le_refl _) rfl rfl (fun r S1 hp => ?_)
  obtain ⟨rfl, rfl⟩ := hp
  refine ev_aload0 (q := 5) dJxc12de_init_da8c8_4 rfl ?_
  refine ev_iconst (q := 6) (v := 0) dJxc12de_init_da8c8_5 rfl rfl ?_
  refine ev_putI (q := 9) dJxc12de_init_da8c8_6 (p_Jxc12de_7 _) ha rfl rfl rfl rfl ?_
  exact ev_return dJxc12de_init_da8c8_9 rfl ⟨rfl, rfl⟩
theorem j_init {a : Nat} {f : Nat → Option Nat} (ha : SH a = some (.inr (11, f))) : MT G l yJx4a65c_init_da8c8 kJx4a65c_init_da8c8 (d + 3) 0 0 [.ref a] (N, SH, V) (fun r S' => r = none ∧ S' = (N, th_u SH a (.inr (11, th_u f 1 2)), th_w V a 0 0)) := by
  refine MT.of (by decide) rfl rfl (n := 0) rfl (ls := [some (.ref a)]) rfl ?_
  refine ev_aload0 (q := 1) dJx4a65c_init_da8c8_0 rfl ?_
  refine ev_cI (K := kJx4a65c_init_da8c8) (pc := 1) (q := 4) (j_ALinit ha) dJx4a65c_init_da8c8_1 l_Jx4a65c_1 rfl (Nat.le_of_ble_eq_true rfl) (Nat.le_refl _) rfl rfl (fun r S1 hp => ?_)
  obtain ⟨rfl, rfl⟩ := hp
  refine ev_aload0 (q := 5) dJx4a65c_init_da8c8_4 rfl ?_
  refine ev_getDC (q := 8) dJx4a65c_init_da8c8_5 sl_Jx4a65c_39 rfl ?_
  refine ev_putR (q := 11) dJx4a65c_init_da8c8_8 (p_Jx4a65c_9 _) ha rfl rfl ?_
  exact ev_return dJx4a65c_init_da8c8_11 rfl ⟨rfl, rfl⟩
theorem j_size {a : Nat} {f : Nat → Option Nat} (ha : SH a = some (.inr (11, f))) : MT G l yJx4a65c_size_8abf5 kJx4a65c_size_8abf5 d 0 0 [.ref a] (N, SH, V) (th_is (V a 2) (N, SH, V)) := by
  refine MT.of (by decide) rfl rfl (n := 0) rfl (ls := [some (.ref a)]) rfl ?_
  refine ev_aload0 (q := 1) dJx4a65c_size_8abf5_0 rfl ?_
  refine ev_getI (q := 4) dJx4a65c_size_8abf5_1 g_Jx4a65c_48 ha rfl rfl ?_
  exact ev_ireturn dJx4a65c_size_8abf5_4 rfl rfl ⟨rfl, rfl⟩
theorem j_checkIndex3 (S : th_S) {j n : Nat} (hj : j < n) (hn : n < 2 ^ 31) : MT G l yJ3_checkIndex_8e157 kJ3_checkIndex_8e157 d 0 0 [.int (nI j), .int (nI n), .null] S (th_is (nI j) S) := by
  refine MT.of (by decide) rfl rfl (n := 0) rfl (ls := [some (.int (nI j)), some (.int (nI n)), some .null]) rfl ?_
  refine ev_iload0 (q := 1) dJ3_checkIndex_8e157_0 rfl ?_
  refine ev_if_lt (q := 4) (t := 9) dJ3_checkIndex_8e157_1 rfl (by decide) (fun c1 => ?_) (fun c1 => ?_)
  · exact absurd c1 (nI_pos (by omega))
  · refine ev_iload0 (q := 5) dJ3_checkIndex_8e157_4 rfl ?_
    refine ev_iload1 (q := 6) dJ3_checkIndex_8e157_5 rfl ?_
    refine ev_icmp_lt (q := 9) (t := 16) dJ3_checkIndex_8e157_6 rfl (by decide) (fun c6 => ?_) (fun c6 => ?_)
    · refine ev_iload0 (q := 17) dJ3_checkIndex_8e157_16 rfl ?_
      exact ev_ireturn dJ3_checkIndex_8e157_17 rfl rfl ⟨rfl, rfl⟩
    · exact absurd (nI_lt hj (by omega)) c6
theorem j_checkIndex (S : th_S) {j n : Nat} (hj : j < n) (hn : n < 2 ^ 31) : MT G l yJ15_checkIndex_7cf53 kJ15_checkIndex_7cf53 (d + 1) 0 0 [.int (nI j), .int (nI n)] S (th_is (nI j) S) := by
  refine MT.of (by decide) rfl rfl (n := 0) rfl (ls := [some (.int (nI j)), some (.int (nI n))]) rfl ?_
  refine ev_iload0 (q := 1) dJ15_checkIndex_7cf53_0 rfl ?_
  refine ev_iload1 (q := 2) dJ15_checkIndex_7cf53_1 rfl ?_
  refine ev_null (q := 3) dJ15_checkIndex_7cf53_2 rfl ?_
  refine ev_cS (K := kJ15_checkIndex_7cf53) (pc := 3) (q := 6) (j_checkIndex3 _ hj hn) dJ15_checkIndex_7cf53_3 l_J15_105 rfl (Nat.le_of_ble_eq_true rfl) (Nat.le_refl _) rfl rfl (fun r S1 hp => ?_)
  obtain ⟨rfl, rfl⟩ := hp
  exact ev_ireturn dJ15_checkIndex_7cf53_6 rfl rfl ⟨rfl, rfl⟩
theorem j_elementData {a e cap j y : Nat} {f g : Nat → Option Nat} (ha : SH a = some (.inr (11, f))) (he : f 1 = some e) (hE : SH e = some (.inl (5, cap, g))) (hj : j < cap) (hc : cap < 2 ^ 31) (hy : g j = some y) : MT G l yJx4a65c_elementData_915e3 kJx4a65c_elementData_915e3 d 0 0 [.ref a, .int (nI j)] (N, SH, V) (fun r S' => r = some (.ref y) ∧ S' = (N, SH, V)) := by
  refine MT.of (by decide) rfl rfl (n := 0) rfl (ls := [some (.ref a), some (.int (nI j))]) rfl ?_
  refine ev_aload0 (q := 1) dJx4a65c_elementData_915e3_0 rfl ?_
  refine ev_getR (q := 4) dJx4a65c_elementData_915e3_1 g_Jx4a65c_9 ha rfl he rfl ?_
  refine ev_iload1 (q := 5) dJx4a65c_elementData_915e3_4 rfl ?_
  refine ev_aald (q := 6) dJx4a65c_elementData_915e3_5 hE (by decide) (by decide) rfl hj hc hy rfl ?_
  exact ev_areturn dJx4a65c_elementData_915e3_6 rfl (Or.inl ⟨_, rfl⟩) ⟨rfl, rfl⟩
theorem j_get {a e cap n j y : Nat} {f g : Nat → Option Nat} (ha : SH a = some (.inr (11, f))) (he : f 1 = some e) (hE : SH e = some (.inl (5, cap, g))) (hs : V a 2 = nI n) (hj : j < n) (hn : n ≤ cap) (hc : cap < 2 ^ 31) (hy : g j = some y) {x : Int32} (hx : x = nI j) : MT G l yJx4a65c_get_915e3 kJx4a65c_get_915e3 (d + 2) 0 0 [.ref a, .int x] (N, SH, V) (fun r S' => r = some (.ref y) ∧ S' = (N, SH, V)) := by
  subst hx
  refine MT.of (by decide) rfl rfl (n := 0) rfl (ls := [some (.ref a), some (.int (nI j))]) rfl ?_
  refine ev_iload1 (q := 1) dJx4a65c_get_915e3_0 rfl ?_
  refine ev_aload0 (q := 2) dJx4a65c_get_915e3_1 rfl ?_
  refine ev_getI (q := 5) dJx4a65c_get_915e3_2 g_Jx4a65c_48 ha rfl rfl ?_
  show EV G l kJx4a65c_get_915e3 _ 0 0 5 _ [.int (V a 2), .int (nI j)] _ _
  rw [hs]
  refine ev_cS (K := kJx4a65c_get_915e3) (pc := 5) (q := 8) (j_checkIndex _ hj (by omega)) dJx4a65c_get_915e3_5 l_Jx4a65c_118 rfl (Nat.le_of_ble_eq_true rfl) (Nat.le_refl _) rfl rfl (fun r S1 hp => ?_)
  obtain ⟨rfl, rfl⟩ := hp
  refine ev_pop (q := 9) dJx4a65c_get_915e3_8 rfl rfl ?_
  refine ev_aload0 (q := 10) dJx4a65c_get_915e3_9 rfl ?_
  refine ev_iload1 (q := 11) dJx4a65c_get_915e3_10 rfl ?_
  refine ev_cV (K := kJx4a65c_get_915e3) (pc := 11) (q := 14) (j_elementData (d := d) ha he hE (by omega) hc hy) dJx4a65c_get_915e3_11 l_Jx4a65c_123 ha rfl rfl (Nat.le_of_ble_eq_true rfl) (by omega) rfl rfl (fun r S1 hp => ?_)
  obtain ⟨rfl, rfl⟩ := hp
  exact ev_areturn dJx4a65c_get_915e3_14 rfl (Or.inl ⟨_, rfl⟩) ⟨rfl, rfl⟩
end J3
