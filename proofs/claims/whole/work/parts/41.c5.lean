/-! the class: what is seen, held, lit -/
theorem sp_nat {v : Int32} (h : isSp v) : ∃ fi la : Nat, v / 100 = nI fi ∧ v - v / 100 * 100 = nI la ∧ fi ≤ la ∧ la < 16 ∧ la ≤ fi + 3 := by
  obtain ⟨h0, h1, h2, h3⟩ := h
  have e := th_self h0
  have hI := th_ixI h0
  have hlt := Int32.toInt_lt v
  have e1 : v / 100 = nI (ix v / 100) := by
    conv => lhs; rw [e]
    exact pk_div (by omega) (by decide) (by decide)
  have e2 : v - v / 100 * 100 = nI (ix v % 100) := by
    conv => lhs; rw [e]
    exact pk_rem (by omega) (by decide) (by decide)
  rw [e2, e1] at h1 h3
  rw [e2] at h2
  rw [nI_toInt (by omega), nI_toInt (by omega)] at h1
  rw [nI_toInt (by omega)] at h2
  have h1' : ix v / 100 ≤ ix v % 100 := by omega
  rw [pk_sub h1', nI_toInt (by omega)] at h3
  exact ⟨ix v / 100, ix v % 100, e1, e2, h1', by omega, by omega⟩
theorem mk_bits : ∀ fi, fi < 16 → ∀ w, w < 4 → ∀ c, c < 32 → tbit ((((1 : Int32) <<< ((nI (fi + w) - nI fi + 1) &&& 31)) - 1) <<< (nI fi &&& 31)) c = decide (fi ≤ c ∧ c ≤ fi + w) := by decide +kernel
theorem tbit_sIn {la fi : Nat} {v : Int32} (h1 : fi ≤ la) (h2 : la < 16) (h3 : la ≤ fi + 3) {c : Nat} (hc : c < 32) : tbit (sIn (nI la) (nI fi) v) c = (tbit v c && decide (fi ≤ c ∧ c ≤ la)) := by
  unfold sIn
  have e : la = fi + (la - fi) := by omega
  have := mk_bits fi (by omega) (la - fi) (by omega) c hc
  rw [← e] at this
  rw [tbit_and, this]
theorem tbit_ext {x y : Int32} (h : ∀ c, c < 32 → tbit x c = tbit y c) : x = y := by
  apply Int32.toBitVec_inj.mp
  apply BitVec.eq_of_getLsbD_eq
  intro i hi
  exact h i hi
theorem exB_ex {v sp : Int32} : ∀ n, n ≤ 16 → (exB v sp n = true ↔ ∃ c, c < n ∧ tbit v c = true ∧ inSp sp c)
  | 0, _ => by simp [exB]
  | n + 1, h => by
    rw [exB, Bool.or_eq_true, exB_ex n (by omega), decide_eq_true_eq, th_bit1 (by omega)]
    constructor
    · rintro (⟨c, h1, h2⟩ | h1)
      · exact ⟨c, by omega, h2⟩
      · exact ⟨n, by omega, h1⟩
    · rintro ⟨c, h1, h2⟩
      by_cases e : c = n
      · subst e; exact Or.inr h2
      · exact Or.inl ⟨c, by omega, h2⟩
theorem inSp_nat {sp : Int32} {fi la c : Nat} (e1 : sp / 100 = nI fi) (e2 : sp - sp / 100 * 100 = nI la) (h1 : fi ≤ la) (h2 : la < 16) (hc : c < 1000) : inSp sp c ↔ (fi ≤ c ∧ c ≤ la) := by
  unfold inSp inR
  rw [e2, e1, nI_toInt (by omega), nI_toInt (by omega), nI_toInt (by omega)]
  omega
theorem sIn_ex {sp v : Int32} (h : isSp sp) : ¬ sIn (sp - sp / 100 * 100) (sp / 100) v = 0 ↔ exB v sp 16 = true := by
  obtain ⟨fi, la, e1, e2, h1, h2, h3⟩ := sp_nat h
  rw [exB_ex 16 (Nat.le_refl _), e2, e1]
  constructor
  · intro hne
    apply Classical.byContradiction
    intro hno
    apply hne
    apply tbit_ext
    intro c hc
    rw [tbit_sIn h1 h2 h3 hc, tbit_0]
    cases hb : tbit v c
    · rfl
    · rw [Bool.true_and, decide_eq_false_iff_not]
      intro hin
      exact hno ⟨c, by omega, hb, (inSp_nat e1 e2 h1 h2 (by omega)).mpr hin⟩
  · rintro ⟨c, hc, hb, hin⟩ h0
    have : tbit (sIn (nI la) (nI fi) v) c = tbit 0 c := by rw [h0]
    rw [tbit_sIn h1 h2 h3 (by omega), hb, Bool.true_and, tbit_0, decide_eq_false_iff_not] at this
    exact this ((inSp_nat e1 e2 h1 h2 (by omega)).mp hin)
theorem hm_f {f f' g : Nat → Int32} : ∀ n, (∀ k, k < n → f k = f' k) → hm f g n = hm f' g n
  | 0, _ => rfl
  | n + 1, h => by rw [hm, hm, hm_f n (fun k hk => h k (by omega)), h n (by omega)]
theorem h5_in : ∀ a b c e k : Bool, inR (h5 a b c e k) 0 31 := by decide +kernel
theorem hm_in (f g : Nat → Int32) : inR (hm f g 5) 0 31 := h5_in (exB (f 0) (g 0) 16) (exB (f 1) (g 1) 16) (exB (f 2) (g 2) 16) (exB (f 3) (g 3) 16) (exB (f 4) (g 4) 16)
theorem hm_in2 (f g : Nat → Int32) : inR (hm f g 5) 0 65535 := ⟨(hm_in f g).1, Int.le_trans (hm_in f g).2 (by decide)⟩
def bSp (s : th_Vl) : Prop := ∀ j, j < ix (s 36 6) → ∀ k, k < 5 → isSp (s 43 (5 * j + k))
def litF (f : Nat → Int32) (s : th_Vl) (j : Nat) : Bool := decide ((s 44 j).toInt ≤ (mb (hm f (fun k => s 43 (5 * j + k)) 5) 16).toInt)
theorem litF_f {f f' : Nat → Int32} {s : th_Vl} (h : ∀ k, k < 5 → f k = f' k) : litF f s = litF f' s := by
  funext j
  unfold litF
  rw [hm_f 5 h]
theorem lm_f {p q : Nat → Bool} : ∀ n, (∀ k, k < n → p k = q k) → lm p n = lm q n
  | 0, _ => rfl
  | n + 1, h => by rw [lm, lm, lm_f n (fun k hk => h k (by omega)), h n (by omega)]
section C5
variable {G : th_G} {l : Launch} {d : Nat} {N : Nat} {SH : Nat → Option th_K0} {V s : th_Vl}
theorem c_layersHeld {a q j : Nat} (hA : rdS N SH a) (hq : SH q = some (.inl (0, 5, th_no))) (hR : rdR V s a j) (hsp : ∀ k, k < 5 → isSp (s 43 (5 * j + k))) : MT G l yX6_layersHeld kX6_layersHeld (d + 2) 0 0 [.ref a, .ref q] (N, SH, V) (th_is (hm (V q) (fun k => s 43 (5 * j + k)) 5) (N, SH, V)) := by
  refine MT.of (by decide) rfl rfl (n := 2) rfl (ls := [some (.ref a), some (.ref q), none, none]) rfl ?_
  have hA' := hA
  obtain ⟨-, -, ⟨f, ha, hf0, hf1⟩, hb0, hb1⟩ := hA'
  have lp : ∀ i, i ≤ 5 → EV G l kX6_layersHeld (d + 2) 0 0 4 [some (.ref a), some (.ref q), some (.int (hm (V q) (fun k => s 43 (5 * j + k)) i)), some (.int (nI i))] [] (N, SH, V) (th_is (hm (V q) (fun k => s 43 (5 * j + k)) 5) (N, SH, V)) := by
    refine th_down 5 ?_ ?_
    · refine ev_iload3 (q := 5) dX6_layersHeld_4 rfl ?_
      refine ev_iconst (q := 6) (v := 5) dX6_layersHeld_5 rfl rfl ?_
      refine ev_icmp_ge (q := 9) (t := 30) dX6_layersHeld_6 rfl (by decide) (fun c => ?_) (fun c => ?_)
      · refine ev_iload2 (q := 31) dX6_layersHeld_30 rfl ?_
        exact ev_ireturn dX6_layersHeld_31 rfl rfl ⟨rfl, rfl⟩
      · exact absurd (by decide) c
    · intro i hi ih
      rw [hm] at ih
      have hs := hsp i hi
      refine ev_iload3 (q := 5) dX6_layersHeld_4 rfl ?_
      refine ev_iconst (q := 6) (v := 5) dX6_layersHeld_5 rfl rfl ?_
      refine ev_icmp_ge (q := 9) (t := 30) dX6_layersHeld_6 rfl (by decide) (fun c => ?_) (fun c => ?_)
      · exact absurd c (nI_ge hi (by decide))
      · refine ev_aload0 (q := 10) dX6_layersHeld_9 rfl ?_
        refine ev_iload3 (q := 11) dX6_layersHeld_10 rfl ?_
        refine ev_aload1 (q := 12) dX6_layersHeld_11 rfl ?_
        refine ev_cV (K := kX6_layersHeld) (pc := 12) (q := 15) (c_seenIn (d := d) hA hq hi) dX6_layersHeld_12 l_X6_29 ha rfl rfl (Nat.le_of_ble_eq_true rfl) (Nat.le_refl _) rfl rfl (fun r S1 hp => ?_)
        obtain ⟨rfl, rfl⟩ := hp
        have ex := sIn_ex (v := V q i) hs
        rw [(hR.2 i hi).1, (hR.2 i hi).2]
        refine ev_if_eq (q := 18) (t := 24) dX6_layersHeld_15 rfl (by decide) (fun c15 => ?_) (fun c15 => ?_)
        · have e0 : exB (V q i) (s 43 (5 * j + i)) 16 = false := by
            cases hb : exB (V q i) (s 43 (5 * j + i)) 16
            · rfl
            · exact absurd c15 (ex.mpr hb)
          rw [e0, cond_false] at ih
          refine ev_iinc3 (q := 27) dX6_layersHeld_24 rfl (by decide) rfl (nI_succ i).symm ?_
          refine ev_goto (q := 4) dX6_layersHeld_27 (by decide) ?_
          exact ih
        · rw [ex.mp c15, cond_true] at ih
          refine ev_iload2 (q := 19) dX6_layersHeld_18 rfl ?_
          refine ev_iconst (q := 20) (v := 1) dX6_layersHeld_19 rfl rfl ?_
          refine ev_iload3 (q := 21) dX6_layersHeld_20 rfl ?_
          refine ev_ishl (q := 22) dX6_layersHeld_21 rfl ?_
          refine ev_ior (q := 23) dX6_layersHeld_22 rfl ?_
          refine ev_istore2 (q := 24) dX6_layersHeld_23 rfl (by decide) rfl ?_
          refine ev_iinc3 (q := 27) dX6_layersHeld_24 rfl (by decide) rfl (nI_succ i).symm ?_
          refine ev_goto (q := 4) dX6_layersHeld_27 (by decide) ?_
          exact ih
  refine ev_iconst (q := 1) (v := 0) dX6_layersHeld_0 rfl rfl ?_
  refine ev_istore2 (q := 2) dX6_layersHeld_1 rfl (by decide) rfl ?_
  refine ev_iconst (q := 3) (v := 0) dX6_layersHeld_2 rfl rfl ?_
  refine ev_istore3 (q := 4) dX6_layersHeld_3 rfl (by decide) rfl ?_
  exact lp 0 (by decide)
theorem c_isLit {a q j : Nat} (hA : rdS N SH a) (hq : SH q = some (.inl (0, 5, th_no))) (hR : rdR V s a j) (hsp : ∀ k, k < 5 → isSp (s 43 (5 * j + k))) : MT G l yX6_isLit kX6_isLit (d + 3) 0 0 [.ref a, .ref q] (N, SH, V) (th_bo (litF (V q) s j = true) (N, SH, V)) := by
  refine MT.of (by decide) rfl rfl (n := 0) rfl (ls := [some (.ref a), some (.ref q)]) rfl ?_
  have hA' := hA
  obtain ⟨-, -, ⟨f, ha, hf0, hf1⟩, hb0, hb1⟩ := hA'
  have key : bct (hm (V q) (fun k => s 43 (5 * j + k)) 5) < V a 2 ↔ ¬ litF (V q) s j = true := by
    rw [bct_mb (hm_in2 _ _), hR.1, litF, decide_eq_true_eq, i_lt]
    omega
  refine ev_aload0 (q := 1) dX6_isLit_0 rfl ?_
  refine ev_aload1 (q := 2) dX6_isLit_1 rfl ?_
  refine ev_cV (K := kX6_isLit) (pc := 2) (q := 5) (c_layersHeld (d := d) hA hq hR hsp) dX6_isLit_2 l_X6_33 ha rfl rfl (Nat.le_of_ble_eq_true rfl) (Nat.le_refl _) rfl rfl (fun r S1 hp => ?_)
  obtain ⟨rfl, rfl⟩ := hp
  refine ev_cS (K := kX6_isLit) (pc := 5) (q := 8) (j_bitCount (d := d + 2) _) dX6_isLit_5 l_X6_37 rfl (Nat.le_of_ble_eq_true rfl) (Nat.le_refl _) rfl rfl (fun r S1 hp => ?_)
  obtain ⟨rfl, rfl⟩ := hp
  refine ev_aload0 (q := 9) dX6_isLit_8 rfl ?_
  refine ev_getI (q := 12) dX6_isLit_9 g_X6_18 ha rfl rfl ?_
  refine ev_icmp_lt (q := 15) (t := 19) dX6_isLit_12 rfl (by decide) (fun c12 => ?_) (fun c12 => ?_)
  · refine ev_iconst (q := 20) (v := 0) dX6_isLit_19 rfl rfl ?_
    exact ev_ireturn dX6_isLit_20 rfl rfl ⟨rfl, Or.inr ⟨key.mp c12, rfl⟩⟩
  · refine ev_iconst (q := 16) (v := 1) dX6_isLit_15 rfl rfl ?_
    refine ev_goto (q := 20) dX6_isLit_16 (by decide) ?_
    exact ev_ireturn dX6_isLit_20 rfl rfl ⟨rfl, Or.inl ⟨Classical.byContradiction (fun z => c12 (key.mpr z)), rfl⟩⟩
/-- the look sees a crossing, and counts the layers and the cells seen -/
def lyS (f : Nat → Int32) : Nat → Int32
  | 0 => 0
  | k + 1 => if f k = 0 then lyS f k else lyS f k + 1
theorem lyS_f {f g : Nat → Int32} : ∀ n, (∀ k, k < n → f k = g k) → lyS f n = lyS g n
  | 0, _ => rfl
  | n + 1, h => by rw [lyS, lyS, lyS_f n (fun k hk => h k (by omega)), h n (by omega)]
theorem th_w_cm {V : th_Vl} {a k b j : Nat} {x y : Int32} (h : a ≠ b) : th_w (th_w V a k x) b j y = th_w (th_w V b j y) a k x := by
  funext c i
  rw [th_w_if, th_w_if, th_w_if, th_w_if]
  by_cases h1 : c = a ∧ i = k
  · rw [if_pos h1, if_neg (fun z => h (h1.1.symm.trans z.1)), if_pos h1]
  · rw [if_neg h1, if_neg h1]
def lkV (V : th_Vl) (f : Nat → Int32) (i : Nat) : th_Vl := th_w (th_seg V 17 0 i f) 16 4 (lyS f i)
def sgV (V : th_Vl) (f : Nat → Int32) : th_Vl := th_w (lkV V f 5) 16 3 (acB (lkV V f 5 17) 5)
def mdV (V : th_Vl) (f : Nat → Int32) (i : Nat) : th_Vl := th_w (th_seg V 17 0 (i + 1) f) 16 4 (lyS f i)
theorem lkV_0 {V : th_Vl} {f : Nat → Int32} : lkV V f 0 = th_w V 16 4 0 := by
  unfold lkV
  rw [th_seg_0]
  rfl
theorem lkV_s {V : th_Vl} {f : Nat → Int32} {i : Nat} : th_w (lkV V f i) 17 i (f i) = mdV V f i := by
  unfold lkV mdV
  rw [th_w_cm (by decide), th_seg_s0]
theorem mdV_z {V : th_Vl} {f : Nat → Int32} {i : Nat} (h : f i = 0) : lkV V f (i + 1) = mdV V f i := by
  unfold lkV mdV
  rw [lyS, if_pos h]
theorem mdV_n {V : th_Vl} {f : Nat → Int32} {i : Nat} (h : ¬ f i = 0) : lkV V f (i + 1) = th_w (mdV V f i) 16 4 (lyS f i + 1) := by
  unfold lkV mdV
  rw [lyS, if_neg h, th_w_w]
theorem mdV_i {V : th_Vl} {f : Nat → Int32} {i : Nat} : mdV V f i 17 i = f i := by
  unfold mdV
  rw [th_w_ne (by decide), th_seg_in (Nat.zero_le _) (by omega)]
  rfl
theorem sgV_i {V : th_Vl} {f : Nat → Int32} {k : Nat} (hk : k < 5) : sgV V f 17 k = f k := by
  unfold sgV lkV
  rw [th_w_ne (by decide), th_w_ne (by decide), th_seg_in (Nat.zero_le _) (by omega)]
  rfl
theorem sgV_3 {V : th_Vl} {f : Nat → Int32} : sgV V f 16 3 = acB (sgV V f 17) 5 := rfl
theorem sgV_4 {V : th_Vl} {f : Nat → Int32} : sgV V f 16 4 = lyS (sgV V f 17) 5 := by
  show lyS f 5 = _
  exact lyS_f 5 (fun k hk => (sgV_i hk).symm)
def seeV (V : th_Vl) (c : Nat) : th_Vl := sgV V (fun k => sS (V c k) (V 13 k) (V 14 k))
/-- from the write of a cell row on, whatever the rows are called -/
theorem c_seeS (hW : wC SH) {c q : Nat} {f : Nat → Int32} {i : Nat} (hi : i < 5) {Q : Option Value → th_S → Prop} (k : EV G l kX3_see (d + 2) 0 0 8 [some (.ref 16), some (.ref c), some (.ref q), some (.ref 14), some (.int (nI (i + 1)))] [] (N, SH, lkV V f (i + 1)) Q) : EV G l kX3_see (d + 2) 0 0 38 [some (.ref 16), some (.ref c), some (.ref q), some (.ref 14), some (.int (nI i))] [.int (f i), .int (nI i), .ref 17] (N, SH, lkV V f i) Q := by
  refine ev_iast (q := 39) dX3_see_38 (hW _ _ rfl) rfl hi (by decide) rfl ?_
  show EV G l kX3_see _ 0 0 39 _ _ (N, SH, th_w (lkV V f i) 17 i (f i)) _
  rw [lkV_s]
  refine ev_aload0 (q := 40) dX3_see_39 rfl ?_
  refine ev_getR (q := 43) dX3_see_40 g_X3_9 (hW _ _ rfl) rfl rfl rfl ?_
  refine ev_iload4 (q := 45) dX3_see_43 rfl ?_
  refine ev_iald (q := 46) dX3_see_45 (hW _ _ rfl) rfl hi (by decide) rfl ?_
  show EV G l kX3_see _ 0 0 46 _ [.int (mdV V f i 17 i)] _ _
  rw [mdV_i]
  refine ev_if_eq (q := 49) (t := 59) dX3_see_46 rfl (by decide) (fun c46 => ?_) (fun c46 => ?_)
  · rw [mdV_z c46] at k
    refine ev_iinc4 (q := 62) dX3_see_59 rfl (by decide) rfl (nI_succ i).symm ?_
    refine ev_goto (q := 8) dX3_see_62 (by decide) ?_
    exact k
  · rw [mdV_n c46] at k
    refine ev_aload0 (q := 50) dX3_see_49 rfl ?_
    refine ev_dup (q := 51) dX3_see_50 rfl rfl ?_
    refine ev_getI (q := 54) dX3_see_51 g_X3_29 (hW _ _ rfl) rfl rfl ?_
    refine ev_iconst (q := 55) (v := 1) dX3_see_54 rfl rfl ?_
    refine ev_iadd (q := 56) dX3_see_55 rfl ?_
    refine ev_putI (q := 59) dX3_see_56 (p_X3_29 _) (hW _ _ rfl) rfl rfl rfl rfl ?_
    refine ev_iinc4 (q := 62) dX3_see_59 rfl (by decide) rfl (nI_succ i).symm ?_
    refine ev_goto (q := 8) dX3_see_62 (by decide) ?_
    exact k
theorem c_seeE (hW : wC SH) {c q : Nat} {f : Nat → Int32} : EV G l kX3_see (d + 2) 0 0 8 [some (.ref 16), some (.ref c), some (.ref q), some (.ref 14), some (.int (nI 5))] [] (N, SH, lkV V f 5) (fun r S' => r = none ∧ S' = (N, SH, sgV V f)) := by
  refine ev_iload4 (q := 10) dX3_see_8 rfl ?_
  refine ev_iconst (q := 11) (v := 5) dX3_see_10 rfl rfl ?_
  refine ev_icmp_ge (q := 14) (t := 65) dX3_see_11 rfl (by decide) (fun c11 => ?_) (fun c11 => ?_)
  · refine ev_aload0 (q := 66) dX3_see_65 rfl ?_
    refine ev_aload0 (q := 67) dX3_see_66 rfl ?_
    refine ev_getR (q := 70) dX3_see_67 g_X3_9 (hW _ _ rfl) rfl rfl rfl ?_
    refine ev_cS (K := kX3_see) (pc := 70) (q := 73) (c_cellsIn (d := d) (a := 17) (hW _ _ rfl)) dX3_see_70 l_X3_33 rfl (Nat.le_of_ble_eq_true rfl) (Nat.le_refl _) rfl rfl (fun r S1 hp => ?_)
    obtain ⟨rfl, rfl⟩ := hp
    refine ev_putI (q := 76) dX3_see_73 (p_X3_37 _) (hW _ _ rfl) rfl rfl rfl rfl ?_
    exact ev_return dX3_see_76 rfl ⟨rfl, rfl⟩
  · exact absurd (by decide) c11
theorem c_see (hW : wC SH) {c : Nat} (hc : SH c = some (.inl (0, 5, th_no))) (hcn : c ≠ 17) : MT G l yX3_see kX3_see (d + 2) 0 0 [.ref 16, .ref c, .ref 13, .ref 14] (N, SH, V) (fun r S' => r = none ∧ S' = (N, SH, seeV V c)) := by
  refine MT.of (by decide) rfl rfl (n := 1) rfl (ls := [some (.ref 16), some (.ref c), some (.ref 13), some (.ref 14), none]) rfl ?_
  have hcl : c ≠ 16 := fun e => by
    rw [e] at hc
    have z := (hW 16 _ rfl).symm.trans hc
    cases z
  have lp : ∀ i, i ≤ 5 → EV G l kX3_see (d + 2) 0 0 8 [some (.ref 16), some (.ref c), some (.ref 13), some (.ref 14), some (.int (nI i))] [] (N, SH, lkV V (fun k => sS (V c k) (V 13 k) (V 14 k)) i) (fun r S' => r = none ∧ S' = (N, SH, seeV V c)) := by
    refine th_down 5 ?_ ?_
    · exact c_seeE hW
    · intro i hi ih
      refine ev_iload4 (q := 10) dX3_see_8 rfl ?_
      refine ev_iconst (q := 11) (v := 5) dX3_see_10 rfl rfl ?_
      refine ev_icmp_ge (q := 14) (t := 65) dX3_see_11 rfl (by decide) (fun c11 => ?_) (fun c11 => ?_)
      · exact absurd c11 (nI_ge hi (by decide))
      · refine ev_aload0 (q := 15) dX3_see_14 rfl ?_
        refine ev_getR (q := 18) dX3_see_15 g_X3_9 (hW _ _ rfl) rfl rfl rfl ?_
        refine ev_iload4 (q := 20) dX3_see_18 rfl ?_
        refine ev_aload1 (q := 21) dX3_see_20 rfl ?_
        refine ev_iload4 (q := 23) dX3_see_21 rfl ?_
        refine ev_iald (q := 24) dX3_see_23 hc rfl hi (by decide) rfl ?_
        show EV G l kX3_see _ 0 0 24 _ (.int (lkV V (fun k => sS (V c k) (V 13 k) (V 14 k)) i c i) :: _) _ _
        rw [show lkV V (fun k => sS (V c k) (V 13 k) (V 14 k)) i c = V c from (th_w_ne hcl).trans (th_seg_ne hcn)]
        refine ev_aload2 (q := 25) dX3_see_24 rfl ?_
        refine ev_iload4 (q := 27) dX3_see_25 rfl ?_
        refine ev_iald (q := 28) dX3_see_27 (hW _ _ rfl) rfl hi (by decide) rfl ?_
        refine ev_iconst (q := 29) (v := (-1)) dX3_see_28 rfl rfl ?_
        refine ev_ixor (q := 30) dX3_see_29 rfl ?_
        refine ev_iand (q := 31) dX3_see_30 rfl ?_
        refine ev_aload3 (q := 32) dX3_see_31 rfl ?_
        refine ev_iload4 (q := 34) dX3_see_32 rfl ?_
        refine ev_iald (q := 35) dX3_see_34 (hW _ _ rfl) rfl hi (by decide) rfl ?_
        refine ev_iconst (q := 36) (v := (-1)) dX3_see_35 rfl rfl ?_
        refine ev_ixor (q := 37) dX3_see_36 rfl ?_
        refine ev_iand (q := 38) dX3_see_37 rfl ?_
        exact c_seeS (f := fun k => sS (V c k) (V 13 k) (V 14 k)) hW hi ih
  refine ev_aload0 (q := 1) dX3_see_0 rfl ?_
  refine ev_iconst (q := 2) (v := 0) dX3_see_1 rfl rfl ?_
  refine ev_putI (q := 5) dX3_see_2 (p_X3_29 _) (hW _ _ rfl) rfl rfl rfl rfl ?_
  refine ev_iconst (q := 6) (v := 0) dX3_see_5 rfl rfl ?_
  refine ev_istore4 (q := 8) dX3_see_6 rfl (by decide) rfl ?_
  have h := lp 0 (by decide)
  rw [lkV_0] at h
  exact h
def see0V (V : th_Vl) : th_Vl := sgV V (fun k => sS (V 12 k) 0 (V 14 k))
theorem c_see0 (hW : wC SH) : MT G l yX3_see kX3_see (d + 2) 0 0 [.ref 16, .ref 12, .ref 1, .ref 14] (N, SH, V) (fun r S' => r = none ∧ S' = (N, SH, see0V V)) := by
  refine MT.of (by decide) rfl rfl (n := 1) rfl (ls := [some (.ref 16), some (.ref 12), some (.ref 1), some (.ref 14), none]) rfl ?_
  have lp : ∀ i, i ≤ 5 → EV G l kX3_see (d + 2) 0 0 8 [some (.ref 16), some (.ref 12), some (.ref 1), some (.ref 14), some (.int (nI i))] [] (N, SH, lkV V (fun k => sS (V 12 k) 0 (V 14 k)) i) (fun r S' => r = none ∧ S' = (N, SH, see0V V)) := by
    refine th_down 5 ?_ ?_
    · exact c_seeE hW
    · intro i hi ih
      refine ev_iload4 (q := 10) dX3_see_8 rfl ?_
      refine ev_iconst (q := 11) (v := 5) dX3_see_10 rfl rfl ?_
      refine ev_icmp_ge (q := 14) (t := 65) dX3_see_11 rfl (by decide) (fun c11 => ?_) (fun c11 => ?_)
      · exact absurd c11 (nI_ge hi (by decide))
      · refine ev_aload0 (q := 15) dX3_see_14 rfl ?_
        refine ev_getR (q := 18) dX3_see_15 g_X3_9 (hW _ _ rfl) rfl rfl rfl ?_
        refine ev_iload4 (q := 20) dX3_see_18 rfl ?_
        refine ev_aload1 (q := 21) dX3_see_20 rfl ?_
        refine ev_iload4 (q := 23) dX3_see_21 rfl ?_
        refine ev_iald (q := 24) dX3_see_23 (hW _ _ rfl) rfl hi (by decide) rfl ?_
        refine ev_aload2 (q := 25) dX3_see_24 rfl ?_
        refine ev_iload4 (q := 27) dX3_see_25 rfl ?_
        refine ev_xald (q := 28) (n := 5) (g := fun _ => 0) dX3_see_27 (Or.inr ⟨rfl, rfl, rfl⟩) rfl hi (by decide) rfl ?_
        refine ev_iconst (q := 29) (v := (-1)) dX3_see_28 rfl rfl ?_
        refine ev_ixor (q := 30) dX3_see_29 rfl ?_
        refine ev_iand (q := 31) dX3_see_30 rfl ?_
        refine ev_aload3 (q := 32) dX3_see_31 rfl ?_
        refine ev_iload4 (q := 34) dX3_see_32 rfl ?_
        refine ev_iald (q := 35) dX3_see_34 (hW _ _ rfl) rfl hi (by decide) rfl ?_
        refine ev_iconst (q := 36) (v := (-1)) dX3_see_35 rfl rfl ?_
        refine ev_ixor (q := 37) dX3_see_36 rfl ?_
        refine ev_iand (q := 38) dX3_see_37 rfl ?_
        exact c_seeS (f := fun k => sS (V 12 k) 0 (V 14 k)) hW hi ih
  refine ev_aload0 (q := 1) dX3_see_0 rfl ?_
  refine ev_iconst (q := 2) (v := 0) dX3_see_1 rfl rfl ?_
  refine ev_putI (q := 5) dX3_see_2 (p_X3_29 _) (hW _ _ rfl) rfl rfl rfl rfl ?_
  refine ev_iconst (q := 6) (v := 0) dX3_see_5 rfl rfl ?_
  refine ev_istore4 (q := 8) dX3_see_6 rfl (by decide) rfl ?_
  have h := lp 0 (by decide)
  rw [lkV_0] at h
  exact h
/-- the roads that light up -/
theorem c_light {R L eR eL : Nat} {rd ld : Nat → Nat} (hS : RS N SH V R L rd ld eR eL) (hR : ∀ j, j < R → rdR V s (rd j) j) (hsp : ∀ j, j < R → ∀ k, k < 5 → isSp (s 43 (5 * j + k))) : MT G l yX3_light kX3_light (d + 4) 0 0 [.ref 16, .ref 15] (N, SH, V) (fun r S' => r = none ∧ S' = (N, SH, th_w V 16 5 (lm (litF (V 17) s) R))) := by
  refine MT.of (by decide) rfl rfl (n := 1) rfl (ls := [some (.ref 16), some (.ref 15), none]) rfl ?_
  have hW : wC SH := hS.1
  have hR12 : R ≤ 12 := hS.2.2.2.1
  have lp : ∀ i, i ≤ R → EV G l kX3_light (d + 4) 0 0 7 [some (.ref 16), some (.ref 15), some (.int (nI i))] [] (N, SH, th_w V 16 5 (lm (litF (V 17) s) i)) (fun r S' => r = none ∧ S' = (N, SH, th_w V 16 5 (lm (litF (V 17) s) R))) := by
    refine th_down R ?_ ?_
    · have hLs := (hS.c (V' := th_w V 16 5 (lm (litF (V 17) s) R)) rfl rfl).2.2.2.2.2.1
      obtain ⟨fR, hfR⟩ := hLs.sh
      refine ev_iload2 (q := 8) dX3_light_7 rfl ?_
      refine ev_aload1 (q := 9) dX3_light_8 rfl ?_
      refine ev_cF (K := kX3_light) (pc := 9) (q := 14) (hLs.size (d := d + 3)) dX3_light_9 l_X3_43 hfR rfl (Nat.le_of_ble_eq_true rfl) (Nat.le_refl _) rfl rfl (fun r S1 hp => ?_)
      obtain ⟨rfl, rfl⟩ := hp
      refine ev_icmp_ge (q := 17) (t := 55) dX3_light_14 rfl (by decide) (fun c => ?_) (fun c => ?_)
      · exact ev_return dX3_light_55 rfl ⟨rfl, rfl⟩
      · exact absurd (Int32.le_refl _) c
    · intro i hi ih
      have hS' := hS.c (V' := th_w V 16 5 (lm (litF (V 17) s) i)) rfl rfl
      have hLs := hS'.2.2.2.2.2.1
      obtain ⟨fR, hfR⟩ := hLs.sh
      have hA := hS.2.2.2.2.2.2.2.2.1 i hi
      have hA' := hA
      obtain ⟨h64, -, ⟨f, ha, -, -⟩, -, -⟩ := hA'
      refine ev_iload2 (q := 8) dX3_light_7 rfl ?_
      refine ev_aload1 (q := 9) dX3_light_8 rfl ?_
      refine ev_cF (K := kX3_light) (pc := 9) (q := 14) (hLs.size (d := d + 3)) dX3_light_9 l_X3_43 hfR rfl (Nat.le_of_ble_eq_true rfl) (Nat.le_refl _) rfl rfl (fun r S1 hp => ?_)
      obtain ⟨rfl, rfl⟩ := hp
      refine ev_icmp_ge (q := 17) (t := 55) dX3_light_14 rfl (by decide) (fun c => ?_) (fun c => ?_)
      · exact absurd c (nI_ge hi (by omega))
      · refine ev_aload1 (q := 18) dX3_light_17 rfl ?_
        refine ev_iload2 (q := 19) dX3_light_18 rfl ?_
        refine ev_cF (K := kX3_light) (pc := 19) (q := 24) (hLs.get (d := d + 1) hi rfl) dX3_light_19 l_X3_49 hfR rfl (Nat.le_of_ble_eq_true rfl) (Nat.le_refl _) rfl rfl (fun r S1 hp => ?_)
        obtain ⟨rfl, rfl⟩ := hp
        refine ev_chk (q := 27) dX3_light_24 ha rfl n_X3_53 rfl ?_
        refine ev_aload0 (q := 28) dX3_light_27 rfl ?_
        refine ev_getR (q := 31) dX3_light_28 g_X3_9 (hW _ _ rfl) rfl rfl rfl ?_
        refine ev_cV (K := kX3_light) (pc := 31) (q := 34) (c_isLit (d := d) (s := s) (j := i) hA (hW _ _ rfl) ((hR i hi).c (th_w_ne (by omega)) (th_w_ne (by omega)) (th_w_ne (by omega)) rfl rfl) (hsp i hi)) dX3_light_31 l_X3_55 ha rfl rfl (Nat.le_of_ble_eq_true rfl) (Nat.le_refl _) rfl rfl (fun r S1 hp => ?_)
        rw [lm] at ih
        rcases hp with ⟨rfl, ⟨hp31, rfl⟩ | ⟨hp31, rfl⟩⟩
        · rw [show litF (V 17) s i = true from hp31, cond_true] at ih
          refine ev_if_eq (q := 37) (t := 49) dX3_light_34 rfl (by decide) (fun c34 => ?_) (fun c34 => ?_)
          · exact absurd c34 (by decide)
          · refine ev_aload0 (q := 38) dX3_light_37 rfl ?_
            refine ev_dup (q := 39) dX3_light_38 rfl rfl ?_
            refine ev_getI (q := 42) dX3_light_39 g_X3_40 (hW _ _ rfl) rfl rfl ?_
            refine ev_iconst (q := 43) (v := 1) dX3_light_42 rfl rfl ?_
            refine ev_iload2 (q := 44) dX3_light_43 rfl ?_
            refine ev_ishl (q := 45) dX3_light_44 rfl ?_
            refine ev_ior (q := 46) dX3_light_45 rfl ?_
            refine ev_putI (q := 49) dX3_light_46 (p_X3_40 _) (hW _ _ rfl) rfl rfl rfl rfl ?_
            refine ev_iinc2 (q := 52) dX3_light_49 rfl (by decide) rfl (nI_succ i).symm ?_
            refine ev_goto (q := 7) dX3_light_52 (by decide) ?_
            rw [← th_w_w (x := lm (litF (V 17) s) i)] at ih
            exact ih
        · rw [show litF (V 17) s i = false from Bool.eq_false_iff.mpr hp31, cond_false] at ih
          refine ev_if_eq (q := 37) (t := 49) dX3_light_34 rfl (by decide) (fun c34 => ?_) (fun c34 => ?_)
          · refine ev_iinc2 (q := 52) dX3_light_49 rfl (by decide) rfl (nI_succ i).symm ?_
            refine ev_goto (q := 7) dX3_light_52 (by decide) ?_
            exact ih
          · exact absurd rfl c34
  refine ev_aload0 (q := 1) dX3_light_0 rfl ?_
  refine ev_iconst (q := 2) (v := 0) dX3_light_1 rfl rfl ?_
  refine ev_putI (q := 5) dX3_light_2 (p_X3_40 _) (hW _ _ rfl) rfl rfl rfl rfl ?_
  refine ev_iconst (q := 6) (v := 0) dX3_light_5 rfl rfl ?_
  refine ev_istore2 (q := 7) dX3_light_6 rfl (by decide) rfl ?_
  exact lp 0 (Nat.zero_le _)
end C5
