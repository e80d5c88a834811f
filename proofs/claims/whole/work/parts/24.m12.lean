/-! the reference: the heap -/
def apS (s : th_Vl) (r q : Nat) : Bool := apB (tb s r).2.2 (tb s q).2.2 5
def sumS (s : th_Vl) (k : Nat) : Nat → Int32
  | 0 => 0
  | r + 1 => if (nI k >>> (nI r &&& 31)) &&& 1 = 0 then sumS s k r else sumS s k r + wS s r
def gq (s : th_Vl) (k r : Nat) (g : Bool) : Nat → Bool
  | 0 => g
  | q + 1 => if (nI k >>> (nI q &&& 31)) &&& 1 = 1 then gq s k r g q && apS s r q else gq s k r g q
def gdS (s : th_Vl) (k : Nat) : Nat → Bool
  | 0 => true
  | r + 1 => if (nI k >>> (nI r &&& 31)) &&& 1 = 0 then gdS s k r else gq s k r (gdS s k r) r
def hstep (s : th_Vl) (R k : Nat) (h : Int32 × Int32) : Int32 × Int32 := if nI k &&& (lm (litB s) R ^^^ (-1)) = 0 ∧ gdS s k R = true ∧ h.2.toInt < (sumS s k R).toInt then (nI k, sumS s k R) else h
def hpF (s : th_Vl) (R : Nat) : Nat → Int32 × Int32
  | 0 => (0, 0)
  | k + 1 => if k = 0 then (0, 0) else hstep s R k (hpF s R k)
def hpS (s : th_Vl) : Int32 × Int32 := hpF s (ix (s 36 6)) (2 ^ ix (s 36 6))
def a_heap (s : th_Vl) (w : Int32) : Int32 := if ¬ inR w 0 2 then -1 else if w = 0 then (hpS s).1 else if w = 1 then mb (hpS s).1 16 else (hpS s).2
def scH (a k : Nat) : Prop := a = 58 ∨ a = 60 ∨ a = 61 ∨ a = 59 ∨ (a = 36 ∧ (k = 34 ∨ k = 35 ∨ k = 36))
def frH (V V' : th_Vl) : Prop := ∀ a k, ¬ scH a k → V' a k = V a k
theorem frH.rf {V : th_Vl} : frH V V := fun _ _ _ => rfl
theorem frH.tr {V V1 V2 : th_Vl} (h1 : frH V V1) (h2 : frH V1 V2) : frH V V2 := fun a k h => (h2 a k h).trans (h1 a k h)
theorem frT.H {i : Nat} {V V' : th_Vl} (h : frT i V V') : frH V V' := by
  intro a k hn
  refine h a k (fun z => hn ?_)
  rcases z with z | z | z | z | z
  · exact Or.inl z
  · exact Or.inr (Or.inl z.1)
  · exact Or.inr (Or.inr (Or.inl z.1))
  · exact Or.inr (Or.inr (Or.inr (Or.inl z.1)))
  · exact Or.inr (Or.inr (Or.inr (Or.inr ⟨z.1, Or.inl z.2⟩)))
theorem frH.w {V V1 : th_Vl} {a k : Nat} {x : Int32} (h : frH V V1) (hs : scH a k) : frH V (th_w V1 a k x) := by
  intro b j hb
  rw [th_w_if, if_neg]
  · exact h b j hb
  · rintro ⟨rfl, rfl⟩
    exact hb hs
theorem frH.row {V V' : th_Vl} (h : frH V V') {a : Nat} (ha : a ≠ 58 ∧ a ≠ 60 ∧ a ≠ 61 ∧ a ≠ 59 ∧ a ≠ 36) : V' a = V a := by
  funext k
  refine h a k ?_
  rintro (e | e | e | e | e)
  · exact ha.1 e
  · exact ha.2.1 e
  · exact ha.2.2.1 e
  · exact ha.2.2.2.1 e
  · exact ha.2.2.2.2 e.1
theorem frH.snE {V V' : th_Vl} (h : frH V V') : sn V' = sn V := by
  funext k
  unfold sn
  rw [h.row (a := 40) (by decide), h.row (a := 41) (by decide), h.row (a := 42) (by decide)]
theorem frH.hmE {V V' : th_Vl} (h : frH V V') : hmR V' = hmR V := by
  funext k
  unfold hmR
  rw [h.snE, h.row (a := 43) (by decide)]
theorem frH.F {V V' : th_Vl} (h : frH V V') : Frow V' = Frow V := by
  funext hh i k
  unfold Frow
  rw [h.snE, h.row (a := 43) (by decide)]
theorem frH.litE {V V' : th_Vl} (h : frH V V') : litB V' = litB V := by
  funext k
  unfold litB
  rw [h.hmE, h.row (a := 44) (by decide)]
theorem frH.tbE {V V' : th_Vl} (h : frH V V') : tb V' = tb V := by
  funext k
  unfold tb
  rw [h.hmE, h.F]
theorem frH.resE {V V' : th_Vl} (h : frH V V') : res V' = res V := by
  refine res_eq (fun a k hp => h a k ?_)
  rintro (e | e | e | e | e)
  · rw [e] at hp; exact absurd hp (by show ¬ false = true; decide)
  · rw [e] at hp; exact absurd hp (by show ¬ false = true; decide)
  · rw [e] at hp; exact absurd hp (by show ¬ false = true; decide)
  · rw [e] at hp; exact absurd hp (by show ¬ false = true; decide)
  · rcases e with ⟨e, f | f | f⟩ <;> (rw [e, f] at hp; exact absurd hp (by decide))
theorem frH.FM {V V' : th_Vl} (h : frH V V') : FM V V' := by
  intro a ha
  exact h.row ⟨by omega, by omega, by omega, by omega, by omega⟩
theorem BsR_fr {i j : Nat} {V V' : th_Vl} {b : th_b} (h : frT i V V') (hij : j ≠ i) (hB : BsR V j b) : BsR V' j b := by
  have e : ∀ a k, ¬ scT i a k → V' a k = V a k := h
  refine ⟨(e _ _ ?_).trans hB.1, (e _ _ ?_).trans hB.2.1, fun k hk => (e _ _ ?_).trans (hB.2.2 k hk)⟩
  · rintro (z | z | z | z | z)
    · exact absurd z (by decide)
    · exact hij z.2
    · exact absurd z.1 (by decide)
    · exact absurd z.1 (by decide)
    · exact absurd z.1 (by decide)
  · rintro (z | z | z | z | z)
    · exact absurd z (by decide)
    · exact absurd z.1 (by decide)
    · exact hij z.2
    · exact absurd z.1 (by decide)
    · exact absurd z.1 (by decide)
  · rintro (z | z | z | z | z)
    · exact absurd z (by decide)
    · exact absurd z.1 (by decide)
    · exact absurd z.1 (by decide)
    · omega
    · exact absurd z.1 (by decide)
theorem sn_res {V : th_Vl} : sn (res V) = sn V := funext fun _ => rfl
theorem hmR_res {V : th_Vl} : hmR (res V) = hmR V := by
  funext i
  unfold hmR
  rw [sn_res]
  rfl
theorem litB_res {V : th_Vl} : litB (res V) = litB V := by
  funext i
  unfold litB
  rw [hmR_res]
  rfl
theorem Frow_res {V : th_Vl} : Frow (res V) = Frow V := by
  funext h i k
  unfold Frow
  rw [sn_res]
  rfl
theorem tb_res {V : th_Vl} : tb (res V) = tb V := by
  funext i
  unfold tb
  rw [hmR_res, Frow_res]
theorem wS_res {V : th_Vl} : wS (res V) = wS V := by
  funext i
  unfold wS
  rw [hmR_res, tb_res]
theorem apS_res {V : th_Vl} : apS (res V) = apS V := by
  funext i j
  unfold apS
  rw [tb_res]
theorem sumS_res {V : th_Vl} (k : Nat) : ∀ r, sumS (res V) k r = sumS V k r
  | 0 => rfl
  | r + 1 => by rw [sumS, sumS, sumS_res k r, wS_res]
theorem gq_res {V : th_Vl} (k r : Nat) (g : Bool) : ∀ q, gq (res V) k r g q = gq V k r g q
  | 0 => rfl
  | q + 1 => by rw [gq, gq, gq_res k r g q, apS_res]
theorem gdS_res {V : th_Vl} (k : Nat) : ∀ r, gdS (res V) k r = gdS V k r
  | 0 => rfl
  | r + 1 => by rw [gdS, gdS, gdS_res k r, gq_res]
theorem hpF_res {V : th_Vl} (R : Nat) : ∀ k, hpF (res V) R k = hpF V R k
  | 0 => rfl
  | k + 1 => by
    rw [hpF, hpF, hpF_res R k]
    unfold hstep
    rw [litB_res, gdS_res, sumS_res]
theorem hpS_res {V : th_Vl} : hpS (res V) = hpS V := by
  unfold hpS
  rw [hpF_res]
  rfl
section M12
variable {G : th_G} {l : Launch} {d : Nat} {n : Nat} {SH : Nat → Option th_K0} {V : th_Vl}
def PH (n : Nat) (SH : Nat → Option th_K0) (V : th_Vl) : Option Value → th_S → Prop := fun r S' => r = none ∧ ∃ V', S' = (n, SH, V') ∧ frH V V' ∧ V' 36 35 = (hpS V).1 ∧ V' 36 36 = (hpS V).2
theorem m_findHeap (hW : wM SH) (hb : bRo (res V)) : MT G l yX10_findHeap kX10_findHeap (d + 9) 0 0 [.ref 36] (n, SH, V) (PH n SH V) := by
  refine MT.of (by decide) rfl rfl (n := 6) rfl (ls := [some (.ref 36), none, none, none, none, none, none]) rfl ?_
  have h0 : 0 ≤ (V 36 6).toInt := hb.1
  have h12 : (V 36 6).toInt ≤ 12 := hb.2
  have hR := th_self h0
  have hI := th_ixI h0
  have hR12 : ix (V 36 6) ≤ 12 := by omega
  have hpw : 2 ^ ix (V 36 6) ≤ 2 ^ 12 := Nat.pow_le_pow_right (by decide) hR12
  have hshl : (1 : Int32) <<< (V 36 6 &&& 31) = nI (2 ^ ix (V 36 6)) := by
    have := th_shl1 _ hR12
    rw [← hR] at this
    exact this
  generalize hRe : ix (V 36 6) = R at hR hI hR12 hpw hshl
  -- the sets
  have L2 : ∀ k, k ≤ 2 ^ R → 1 ≤ k → ∀ (W : th_Vl) (o3 o4 o5 o6 : Option Value), th_c1 [o3, o4, o5, o6] = true → frH V W → (∀ r, r < R → litB V r = true → BsR W r (tb V r)) → W 36 35 = (hpF V R k).1 → W 36 36 = (hpF V R k).2 → EV G l kX10_findHeap (d + 9) 0 0 44 [some (.ref 36), some (.int (lm (litB V) R)), some (.int (nI k)), o3, o4, o5, o6] [] (n, SH, W) (PH n SH V) := by
    refine th_down (2 ^ R) ?_ ?_
    · intro _ W o3 o4 o5 o6 ho hW1 hW2 hW3 hW4
      have hRW : W 36 6 = V 36 6 := hW1 _ _ (by rintro (z | z | z | z | z) <;> first | exact absurd z (by decide) | exact absurd z.2 (by decide))
      refine ev_iload2 (q := 45) dX10_findHeap_44 rfl ?_
      refine ev_iconst (q := 46) (v := 1) dX10_findHeap_45 rfl rfl ?_
      refine ev_aload0 (q := 47) dX10_findHeap_46 rfl ?_
      refine ev_getI (q := 50) dX10_findHeap_47 g_X10_124 (hW _ _ rfl) rfl rfl ?_
      refine ev_ishl (q := 51) dX10_findHeap_50 rfl ?_
      refine ev_icmp_ge (q := 54) (t := 191) dX10_findHeap_51 rfl (by decide) (fun c51 => ?_) (fun c51 => ?_)
      · exact ev_return dX10_findHeap_191 rfl ⟨rfl, W, rfl, hW1, by rw [hpS, hRe]; exact hW3, by rw [hpS, hRe]; exact hW4⟩
      · exact absurd (by show (1 : Int32) <<< (W 36 6 &&& 31) ≤ _; rw [hRW, hshl]; exact Int32.le_refl _) c51
    · intro k hk ik hk1 W o3 o4 o5 o6 ho hW1 hW2 hW3 hW4
      have hRW : W 36 6 = V 36 6 := hW1 _ _ (by rintro (z | z | z | z | z) <;> first | exact absurd z (by decide) | exact absurd z.2 (by decide))
      have hk0 : ¬ k = 0 := by omega
      have hkk : k < 2 ^ 12 := by omega
      -- on to the next set
      have nx : ∀ (Y : th_Vl) (p3 p4 p5 p6 : Option Value), th_c1 [p3, p4, p5, p6] = true → frH V Y → (∀ r, r < R → litB V r = true → BsR Y r (tb V r)) → Y 36 35 = (hstep V R k (hpF V R k)).1 → Y 36 36 = (hstep V R k (hpF V R k)).2 → EV G l kX10_findHeap (d + 9) 0 0 185 [some (.ref 36), some (.int (lm (litB V) R)), some (.int (nI k)), p3, p4, p5, p6] [] (n, SH, Y) (PH n SH V) := by
        intro Y p3 p4 p5 p6 hp1 hY1 hY2 hY3 hY4
        refine ev_iinc2 (q := 188) dX10_findHeap_185 rfl (by decide) hp1 (nI_succ k).symm ?_
        refine ev_goto (q := 44) dX10_findHeap_188 (by decide) ?_
        exact ik (by omega) Y p3 p4 p5 p6 hp1 hY1 hY2 (by rw [hpF, if_neg hk0]; exact hY3) (by rw [hpF, if_neg hk0]; exact hY4)
      refine ev_iload2 (q := 45) dX10_findHeap_44 rfl ?_
      refine ev_iconst (q := 46) (v := 1) dX10_findHeap_45 rfl rfl ?_
      refine ev_aload0 (q := 47) dX10_findHeap_46 rfl ?_
      refine ev_getI (q := 50) dX10_findHeap_47 g_X10_124 (hW _ _ rfl) rfl rfl ?_
      refine ev_ishl (q := 51) dX10_findHeap_50 rfl ?_
      refine ev_icmp_ge (q := 54) (t := 191) dX10_findHeap_51 rfl (by decide) (fun c51 => ?_) (fun c51 => ?_)
      · exact absurd (by have c51 : (1 : Int32) <<< (W 36 6 &&& 31) ≤ _ := c51; rw [hRW, hshl] at c51; exact c51) (nI_ge hk (by omega))
      · refine ev_iload2 (q := 55) dX10_findHeap_54 rfl ?_
        refine ev_iload1 (q := 56) dX10_findHeap_55 rfl ?_
        refine ev_iconst (q := 57) (v := (-1)) dX10_findHeap_56 rfl rfl ?_
        refine ev_ixor (q := 58) dX10_findHeap_57 rfl ?_
        refine ev_iand (q := 59) dX10_findHeap_58 rfl ?_
        refine ev_if_eq (q := 62) (t := 65) dX10_findHeap_59 rfl (by decide) (fun c59 => ?_) (fun c59 => ?_)
        · -- all of the set are lit
          have hlit : ∀ r, r < R → tbit (nI k) r = true → litB V r = true := by
            intro r hr hbit
            have h1 := th_sub_bit (by omega) c59 hbit
            rw [tbit_lm R (by omega)] at h1
            simpa [hr] using h1
          have o456 : th_c1 [o4, o5, o6] = true := by simpa [th_c1] using (Bool.and_eq_true_iff.mp ho).2
          have o56 : th_c1 [o5, o6] = true := by simpa [th_c1] using (Bool.and_eq_true_iff.mp o456).2
          have o6' : th_c1 [o6] = true := by simpa [th_c1] using (Bool.and_eq_true_iff.mp o56).2
          have lr : ∀ r, r ≤ R → ∀ (p6 : Option Value), th_c1 [p6] = true → EV G l kX10_findHeap (d + 9) 0 0 73 [some (.ref 36), some (.int (lm (litB V) R)), some (.int (nI k)), some (.int (cond (gdS V k r) 1 0)), some (.int (sumS V k r)), some (.int (nI r)), p6] [] (n, SH, W) (PH n SH V) := by
            refine th_down R ?_ ?_
            · intro p6 hp6
              refine ev_iload5 (q := 75) dX10_findHeap_73 rfl ?_
              refine ev_aload0 (q := 76) dX10_findHeap_75 rfl ?_
              refine ev_getI (q := 79) dX10_findHeap_76 g_X10_124 (hW _ _ rfl) rfl rfl ?_
              refine ev_icmp_ge (q := 82) (t := 158) dX10_findHeap_79 rfl (by decide) (fun c79 => ?_) (fun c79 => ?_)
              · refine ev_iload3 (q := 159) dX10_findHeap_158 rfl ?_
                cases hgd : gdS V k R
                · refine ev_if_eq (q := 162) (t := 185) dX10_findHeap_159 rfl (by decide) (fun c159 => ?_) (fun c159 => ?_)
                  · exact nx W _ _ _ _ hp6 hW1 hW2 (by rw [hstep, if_neg (fun z => absurd (hgd.symm.trans z.2.1) (by decide))]; exact hW3) (by rw [hstep, if_neg (fun z => absurd (hgd.symm.trans z.2.1) (by decide))]; exact hW4)
                  · exact absurd rfl c159
                · refine ev_if_eq (q := 162) (t := 185) dX10_findHeap_159 rfl (by decide) (fun c159 => ?_) (fun c159 => ?_)
                  · exact absurd c159 (by decide)
                  · refine ev_iload4 (q := 164) dX10_findHeap_162 rfl ?_
                    refine ev_aload0 (q := 165) dX10_findHeap_164 rfl ?_
                    refine ev_getI (q := 168) dX10_findHeap_165 g_X10_165 (hW _ _ rfl) rfl rfl ?_
                    refine ev_icmp_gt (q := 171) (t := 174) dX10_findHeap_168 rfl (by decide) (fun c168 => ?_) (fun c168 => ?_)
                    · have c168 : (W 36 36).toInt < (sumS V k R).toInt := i_lt.mp c168
                      rw [hW4] at c168
                      have e : hstep V R k (hpF V R k) = (nI k, sumS V k R) := if_pos ⟨c59, hgd, c168⟩
                      refine ev_aload0 (q := 175) dX10_findHeap_174 rfl ?_
                      refine ev_iload4 (q := 177) dX10_findHeap_175 rfl ?_
                      refine ev_putI (q := 180) dX10_findHeap_177 (p_X10_165 _) (hW _ _ rfl) rfl rfl rfl rfl ?_
                      refine ev_aload0 (q := 181) dX10_findHeap_180 rfl ?_
                      refine ev_iload2 (q := 182) dX10_findHeap_181 rfl ?_
                      refine ev_putI (q := 185) dX10_findHeap_182 (p_X10_162 _) (hW _ _ rfl) rfl rfl rfl rfl ?_
                      refine nx (th_w (th_w W 36 36 (sumS V k R)) 36 35 (nI k)) _ _ _ _ hp6 ((hW1.w (Or.inr (Or.inr (Or.inr (Or.inr ⟨rfl, Or.inr (Or.inr rfl)⟩))))).w (Or.inr (Or.inr (Or.inr (Or.inr ⟨rfl, Or.inr (Or.inl rfl)⟩))))) (fun r hr hl => hW2 r hr hl) (by rw [e]; rfl) (by rw [e]; rfl)
                    · have c168 : (sumS V k R).toInt ≤ (W 36 36).toInt := i_nlt c168
                      rw [hW4] at c168
                      refine ev_goto (q := 185) dX10_findHeap_171 (by decide) ?_
                      exact nx W _ _ _ _ hp6 hW1 hW2 (by rw [hstep, if_neg (fun z => absurd z.2.2 (Int.not_lt.mpr c168))]; exact hW3) (by rw [hstep, if_neg (fun z => absurd z.2.2 (Int.not_lt.mpr c168))]; exact hW4)
              · exact absurd (by show W 36 6 ≤ _; rw [hRW, hR]; exact Int32.le_refl _) c79
            · intro r hr ir p6 hp6
              refine ev_iload5 (q := 75) dX10_findHeap_73 rfl ?_
              refine ev_aload0 (q := 76) dX10_findHeap_75 rfl ?_
              refine ev_getI (q := 79) dX10_findHeap_76 g_X10_124 (hW _ _ rfl) rfl rfl ?_
              refine ev_icmp_ge (q := 82) (t := 158) dX10_findHeap_79 rfl (by decide) (fun c79 => ?_) (fun c79 => ?_)
              · exact absurd (by have c79 : W 36 6 ≤ _ := c79; rw [hRW, hR] at c79; exact c79) (nI_ge hr (by omega))
              · refine ev_iload2 (q := 83) dX10_findHeap_82 rfl ?_
                refine ev_iload5 (q := 85) dX10_findHeap_83 rfl ?_
                refine ev_ishr (q := 86) dX10_findHeap_85 rfl ?_
                refine ev_iconst (q := 87) (v := 1) dX10_findHeap_86 rfl rfl ?_
                refine ev_iand (q := 88) dX10_findHeap_87 rfl ?_
                refine ev_if_ne (q := 91) (t := 94) dX10_findHeap_88 rfl (by decide) (fun c88 => ?_) (fun c88 => ?_)
                · have hbit : tbit (nI k) r = true := by
                    cases hz : tbit (nI k) r
                    · exact absurd ((th_bit0 (by omega)).mpr hz) c88
                    · rfl
                  have hlr := hlit r hr hbit
                  have hBr := hW2 r hr hlr
                  have lq : ∀ q, q ≤ r → EV G l kX10_findHeap (d + 9) 0 0 108 [some (.ref 36), some (.int (lm (litB V) R)), some (.int (nI k)), some (.int (cond (gq V k r (gdS V k r) q) 1 0)), some (.int (sumS V k r + wS V r)), some (.int (nI r)), some (.int (nI q))] [] (n, SH, W) (PH n SH V) := by
                    refine th_down r ?_ ?_
                    · refine ev_iload6 (q := 110) dX10_findHeap_108 rfl ?_
                      refine ev_iload5 (q := 112) dX10_findHeap_110 rfl ?_
                      refine ev_icmp_ge (q := 115) (t := 152) dX10_findHeap_112 rfl (by decide) (fun c112 => ?_) (fun c112 => ?_)
                      · refine ev_iinc5 (q := 155) dX10_findHeap_152 rfl (by decide) rfl (nI_succ r).symm ?_
                        refine ev_goto (q := 73) dX10_findHeap_155 (by decide) ?_
                        have h := ir (some (.int (nI r))) rfl
                        rw [gdS, if_neg c88, sumS, if_neg c88] at h
                        exact h
                      · exact absurd (Int32.le_refl _) c112
                    · intro q hq iq
                      refine ev_iload6 (q := 110) dX10_findHeap_108 rfl ?_
                      refine ev_iload5 (q := 112) dX10_findHeap_110 rfl ?_
                      refine ev_icmp_ge (q := 115) (t := 152) dX10_findHeap_112 rfl (by decide) (fun c112 => ?_) (fun c112 => ?_)
                      · exact absurd c112 (nI_ge hq (by omega))
                      · refine ev_iload2 (q := 116) dX10_findHeap_115 rfl ?_
                        refine ev_iload6 (q := 118) dX10_findHeap_116 rfl ?_
                        refine ev_ishr (q := 119) dX10_findHeap_118 rfl ?_
                        refine ev_iconst (q := 120) (v := 1) dX10_findHeap_119 rfl rfl ?_
                        refine ev_iand (q := 121) dX10_findHeap_120 rfl ?_
                        refine ev_iconst (q := 122) (v := 1) dX10_findHeap_121 rfl rfl ?_
                        refine ev_icmp_ne (q := 125) (t := 146) dX10_findHeap_122 rfl (by decide) (fun c122 => ?_) (fun c122 => ?_)
                        · rw [gq, if_neg c122] at iq
                          refine ev_iinc6 (q := 149) dX10_findHeap_146 rfl (by decide) rfl (nI_succ q).symm ?_
                          refine ev_goto (q := 108) dX10_findHeap_149 (by decide) ?_
                          exact iq
                        · rw [gq, if_pos c122] at iq
                          have hbq : tbit (nI k) q = true := (th_bit1 (by omega)).mp c122
                          have hBq := hW2 q (by omega) (hlit q (by omega) hbq)
                          cases hg : gq V k r (gdS V k r) q
                          · rw [hg, Bool.false_and] at iq
                            refine ev_iload3 (q := 126) dX10_findHeap_125 rfl ?_
                            refine ev_if_eq (q := 129) (t := 144) dX10_findHeap_126 rfl (by decide) (fun c126 => ?_) (fun c126 => ?_)
                            · refine ev_iconst (q := 145) (v := 0) dX10_findHeap_144 rfl rfl ?_
                              refine ev_istore3 (q := 146) dX10_findHeap_145 rfl (by decide) rfl ?_
                              refine ev_iinc6 (q := 149) dX10_findHeap_146 rfl (by decide) rfl (nI_succ q).symm ?_
                              refine ev_goto (q := 108) dX10_findHeap_149 (by decide) ?_
                              exact iq
                            · exact absurd rfl c126
                          · rw [hg, Bool.true_and] at iq
                            refine ev_iload3 (q := 126) dX10_findHeap_125 rfl ?_
                            refine ev_if_eq (q := 129) (t := 144) dX10_findHeap_126 rfl (by decide) (fun c126 => ?_) (fun c126 => ?_)
                            · exact absurd c126 (by decide)
                            · refine ev_aload0 (q := 130) dX10_findHeap_129 rfl ?_
                              refine ev_iload5 (q := 132) dX10_findHeap_130 rfl ?_
                              refine ev_iload6 (q := 134) dX10_findHeap_132 rfl ?_
                              refine ev_cV (K := kX10_findHeap) (pc := 134) (q := 137) (m_areApart hW (i := r) (j := q) (by omega) (by omega) rfl rfl _ _ hBr hBq) dX10_findHeap_134 l_X10_168 (hW _ _ rfl) rfl rfl (Nat.le_of_ble_eq_true rfl) (Nat.le_refl _) rfl rfl (fun r S1 hp => ?_)
                              rcases hp with ⟨rfl, ⟨hp134, rfl⟩ | ⟨hp134, rfl⟩⟩
                              · rw [show apS V r q = true from hp134] at iq
                                refine ev_if_eq (q := 140) (t := 144) dX10_findHeap_137 rfl (by decide) (fun c137 => ?_) (fun c137 => ?_)
                                · exact absurd c137 (by decide)
                                · refine ev_iconst (q := 141) (v := 1) dX10_findHeap_140 rfl rfl ?_
                                  refine ev_goto (q := 145) dX10_findHeap_141 (by decide) ?_
                                  refine ev_istore3 (q := 146) dX10_findHeap_145 rfl (by decide) rfl ?_
                                  refine ev_iinc6 (q := 149) dX10_findHeap_146 rfl (by decide) rfl (nI_succ q).symm ?_
                                  refine ev_goto (q := 108) dX10_findHeap_149 (by decide) ?_
                                  exact iq
                              · rw [show apS V r q = false from Bool.eq_false_iff.mpr hp134] at iq
                                refine ev_if_eq (q := 140) (t := 144) dX10_findHeap_137 rfl (by decide) (fun c137 => ?_) (fun c137 => ?_)
                                · refine ev_iconst (q := 145) (v := 0) dX10_findHeap_144 rfl rfl ?_
                                  refine ev_istore3 (q := 146) dX10_findHeap_145 rfl (by decide) rfl ?_
                                  refine ev_iinc6 (q := 149) dX10_findHeap_146 rfl (by decide) rfl (nI_succ q).symm ?_
                                  refine ev_goto (q := 108) dX10_findHeap_149 (by decide) ?_
                                  exact iq
                                · exact absurd rfl c137
                  refine ev_iload4 (q := 96) dX10_findHeap_94 rfl ?_
                  refine ev_aload0 (q := 97) dX10_findHeap_96 rfl ?_
                  refine ev_iload5 (q := 99) dX10_findHeap_97 rfl ?_
                  refine ev_cV (K := kX10_findHeap) (pc := 99) (q := 102) (m_weightOf hW (i := r) (by omega) rfl _ hBr (th_nz (tb_pos V r).1)) dX10_findHeap_99 l_X10_159 (hW _ _ rfl) rfl rfl (Nat.le_of_ble_eq_true rfl) (Nat.le_refl _) rfl rfl (fun r S1 hp => ?_)
                  obtain ⟨rfl, rfl⟩ := hp
                  rw [show wtb (hmR W r) (tb V r) = wS V r by rw [hW1.hmE]; rfl]
                  refine ev_iadd (q := 103) dX10_findHeap_102 rfl ?_
                  refine ev_istore4 (q := 105) dX10_findHeap_103 rfl (by decide) hp6 ?_
                  refine ev_iconst (q := 106) (v := 0) dX10_findHeap_105 rfl rfl ?_
                  refine ev_istore6 (q := 108) dX10_findHeap_106 rfl (by decide) hp6 ?_
                  exact lq 0 (Nat.zero_le _)
                · refine ev_goto (q := 152) dX10_findHeap_91 (by decide) ?_
                  refine ev_iinc5 (q := 155) dX10_findHeap_152 rfl (by decide) hp6 (nI_succ r).symm ?_
                  refine ev_goto (q := 73) dX10_findHeap_155 (by decide) ?_
                  have h := ir p6 hp6
                  rw [gdS, if_pos c88, sumS, if_pos c88] at h
                  exact h
          refine ev_iconst (q := 66) (v := 1) dX10_findHeap_65 rfl rfl ?_
          refine ev_istore3 (q := 67) dX10_findHeap_66 rfl (by decide) ho ?_
          refine ev_iconst (q := 68) (v := 0) dX10_findHeap_67 rfl rfl ?_
          refine ev_istore4 (q := 70) dX10_findHeap_68 rfl (by decide) o456 ?_
          refine ev_iconst (q := 71) (v := 0) dX10_findHeap_70 rfl rfl ?_
          refine ev_istore5 (q := 73) dX10_findHeap_71 rfl (by decide) o56 ?_
          exact lr 0 (Nat.zero_le _) o6 o6'
        · refine ev_goto (q := 185) dX10_findHeap_62 (by decide) ?_
          exact nx W o3 o4 o5 o6 ho hW1 hW2 (by rw [hstep, if_neg (fun z => c59 z.1)]; exact hW3) (by rw [hstep, if_neg (fun z => c59 z.1)]; exact hW4)
  -- the tracks
  have L1 : ∀ j, j ≤ R → ∀ (W : th_Vl), frH V W → (∀ r, r < j → litB V r = true → BsR W r (tb V r)) → EV G l kX10_findHeap (d + 9) 0 0 4 [some (.ref 36), some (.int (lm (litB V) j)), some (.int (nI j)), none, none, none, none] [] (n, SH, W) (PH n SH V) := by
    refine th_down R ?_ ?_
    · intro W hW1 hW2
      have hRW : W 36 6 = V 36 6 := hW1 _ _ (by rintro (z | z | z | z | z) <;> first | exact absurd z (by decide) | exact absurd z.2 (by decide))
      refine ev_iload2 (q := 5) dX10_findHeap_4 rfl ?_
      refine ev_aload0 (q := 6) dX10_findHeap_5 rfl ?_
      refine ev_getI (q := 9) dX10_findHeap_6 g_X10_124 (hW _ _ rfl) rfl rfl ?_
      refine ev_icmp_ge (q := 12) (t := 32) dX10_findHeap_9 rfl (by decide) (fun c9 => ?_) (fun c9 => ?_)
      · refine ev_aload0 (q := 33) dX10_findHeap_32 rfl ?_
        refine ev_iconst (q := 34) (v := 0) dX10_findHeap_33 rfl rfl ?_
        refine ev_putI (q := 37) dX10_findHeap_34 (p_X10_162 _) (hW _ _ rfl) rfl rfl rfl rfl ?_
        refine ev_aload0 (q := 38) dX10_findHeap_37 rfl ?_
        refine ev_iconst (q := 39) (v := 0) dX10_findHeap_38 rfl rfl ?_
        refine ev_putI (q := 42) dX10_findHeap_39 (p_X10_165 _) (hW _ _ rfl) rfl rfl rfl rfl ?_
        refine ev_iconst (q := 43) (v := 1) dX10_findHeap_42 rfl rfl ?_
        refine ev_istore2 (q := 44) dX10_findHeap_43 rfl (by decide) rfl ?_
        exact L2 1 (Nat.one_le_two_pow) (Nat.le_refl 1) (th_w (th_w W 36 35 0) 36 36 0) none none none none rfl ((hW1.w (Or.inr (Or.inr (Or.inr (Or.inr ⟨rfl, Or.inr (Or.inl rfl)⟩))))).w (Or.inr (Or.inr (Or.inr (Or.inr ⟨rfl, Or.inr (Or.inr rfl)⟩))))) (fun r hr hl => hW2 r hr hl) rfl rfl
      · exact absurd (by show W 36 6 ≤ _; rw [hRW, hR]; exact Int32.le_refl _) c9
    · intro j hj ij W hW1 hW2
      have hRW : W 36 6 = V 36 6 := hW1 _ _ (by rintro (z | z | z | z | z) <;> first | exact absurd z (by decide) | exact absurd z.2 (by decide))
      refine ev_iload2 (q := 5) dX10_findHeap_4 rfl ?_
      refine ev_aload0 (q := 6) dX10_findHeap_5 rfl ?_
      refine ev_getI (q := 9) dX10_findHeap_6 g_X10_124 (hW _ _ rfl) rfl rfl ?_
      refine ev_icmp_ge (q := 12) (t := 32) dX10_findHeap_9 rfl (by decide) (fun c9 => ?_) (fun c9 => ?_)
      · exact absurd (by have c9 : W 36 6 ≤ _ := c9; rw [hRW, hR] at c9; exact c9) (nI_ge hj (by omega))
      · refine ev_aload0 (q := 13) dX10_findHeap_12 rfl ?_
        refine ev_iload2 (q := 14) dX10_findHeap_13 rfl ?_
        refine ev_cV (K := kX10_findHeap) (pc := 14) (q := 17) (m_findTrack hW (i := j) (by omega) rfl) dX10_findHeap_14 l_X10_152 (hW _ _ rfl) rfl rfl (Nat.le_of_ble_eq_true rfl) (Nat.le_refl _) rfl rfl (fun r S1 hp => ?_)
        rcases hp with ⟨hl, rfl, rfl⟩ | ⟨hl, rfl, Y, rfl, hY1, hY2⟩
        · rw [hW1.litE] at hl
          refine ev_if_eq (q := 20) (t := 26) dX10_findHeap_17 rfl (by decide) (fun c17 => ?_) (fun c17 => ?_)
          · refine ev_iinc2 (q := 29) dX10_findHeap_26 rfl (by decide) rfl (nI_succ j).symm ?_
            refine ev_goto (q := 4) dX10_findHeap_29 (by decide) ?_
            have h := ij W hW1 (fun r hr hlr => by
              rcases Nat.lt_or_ge r j with z | z
              · exact hW2 r z hlr
              · rw [show r = j by omega] at hlr
                exact absurd (hl.symm.trans hlr) (by decide))
            rw [lm, hl] at h
            exact h
          · exact absurd rfl c17
        · rw [hW1.litE] at hl
          rw [hW1.tbE] at hY2
          refine ev_if_eq (q := 20) (t := 26) dX10_findHeap_17 rfl (by decide) (fun c17 => ?_) (fun c17 => ?_)
          · exact absurd c17 (by decide)
          · refine ev_iload1 (q := 21) dX10_findHeap_20 rfl ?_
            refine ev_iconst (q := 22) (v := 1) dX10_findHeap_21 rfl rfl ?_
            refine ev_iload2 (q := 23) dX10_findHeap_22 rfl ?_
            refine ev_ishl (q := 24) dX10_findHeap_23 rfl ?_
            refine ev_ior (q := 25) dX10_findHeap_24 rfl ?_
            refine ev_istore1 (q := 26) dX10_findHeap_25 rfl (by decide) rfl ?_
            refine ev_iinc2 (q := 29) dX10_findHeap_26 rfl (by decide) rfl (nI_succ j).symm ?_
            refine ev_goto (q := 4) dX10_findHeap_29 (by decide) ?_
            have h := ij Y (hW1.tr hY1.H) (fun r hr hlr => by
              rcases Nat.lt_or_ge r j with z | z
              · exact BsR_fr hY1 (by omega) (hW2 r z hlr)
              · rw [show r = j by omega]
                exact hY2)
            rw [lm, hl] at h
            exact h
  refine ev_iconst (q := 1) (v := 0) dX10_findHeap_0 rfl rfl ?_
  refine ev_istore1 (q := 2) dX10_findHeap_1 rfl (by decide) rfl ?_
  refine ev_iconst (q := 3) (v := 0) dX10_findHeap_2 rfl rfl ?_
  refine ev_istore2 (q := 4) dX10_findHeap_3 rfl (by decide) rfl ?_
  exact L1 0 (Nat.zero_le _) V frH.rf (fun r hr => absurd hr (Nat.not_lt_zero r))
theorem m_heap (hW : wM SH) (hb : bRo (res V)) (w : Int32) : MT G l yX10_heap kX10_heap (d + 10) 0 0 [.ref 36, .int w] (n, SH, V) (MP n SH V (a_heap (res V) w) (res V)) := by
  refine MT.of (by decide) rfl rfl (n := 0) rfl (ls := [some (.ref 36), some (.int w)]) rfl ?_
  refine ev_iload1 (q := 1) dX10_heap_0 rfl ?_
  refine ev_i2l (q := 2) dX10_heap_1 rfl ?_
  refine ev_lconst (q := 3) (v := 0) dX10_heap_2 rfl rfl ?_
  refine ev_ldc2 (q := 6) dX10_heap_3 q_X10_99 rfl ?_
  refine ev_cS (K := kX10_heap) (pc := 6) (q := 9) (m_inI _ _ _ l_0 l_2) dX10_heap_6 l_X10_95 rfl (Nat.le_of_ble_eq_true rfl) (Nat.le_refl _) rfl rfl (fun r S1 hp => ?_)
  rcases hp with ⟨rfl, ⟨hp6, rfl⟩ | ⟨hp6, rfl⟩⟩
  · refine ev_if_ne (q := 12) (t := 14) dX10_heap_9 rfl (by decide) (fun c9 => ?_) (fun c9 => ?_)
    · refine ev_aload0 (q := 15) dX10_heap_14 rfl ?_
      refine ev_cV (K := kX10_heap) (pc := 15) (q := 18) (m_findHeap hW hb) dX10_heap_15 l_X10_172 (hW _ _ rfl) rfl rfl (Nat.le_of_ble_eq_true rfl) (Nat.le_refl _) rfl rfl (fun r S1 hp => ?_)
      obtain ⟨rfl, Y, rfl, hY1, hY2, hY3⟩ := hp
      refine ev_iload1 (q := 19) dX10_heap_18 rfl ?_
      refine ev_if_ne (q := 22) (t := 29) dX10_heap_19 rfl (by decide) (fun c19 => ?_) (fun c19 => ?_)
      · refine ev_iload1 (q := 30) dX10_heap_29 rfl ?_
        refine ev_iconst (q := 31) (v := 1) dX10_heap_30 rfl rfl ?_
        refine ev_icmp_ne (q := 34) (t := 44) dX10_heap_31 rfl (by decide) (fun c31 => ?_) (fun c31 => ?_)
        · refine ev_aload0 (q := 45) dX10_heap_44 rfl ?_
          refine ev_getI (q := 48) dX10_heap_45 g_X10_165 (hW _ _ rfl) rfl rfl ?_
          exact ev_ireturn dX10_heap_48 rfl rfl (MP.mk Y (((if_neg (not_not_intro hp6)).trans ((if_neg c19).trans (if_neg c31))).trans ((congrArg Prod.snd hpS_res).trans hY3.symm)) hY1.resE.symm hY1.FM)
        · refine ev_aload0 (q := 35) dX10_heap_34 rfl ?_
          refine ev_getI (q := 38) dX10_heap_35 g_X10_162 (hW _ _ rfl) rfl rfl ?_
          refine ev_cS (K := kX10_heap) (pc := 38) (q := 41) (m_bitsOf _) dX10_heap_38 l_X10_101 rfl (Nat.le_of_ble_eq_true rfl) (Nat.le_refl _) rfl rfl (fun r S1 hp => ?_)
          obtain ⟨rfl, rfl⟩ := hp
          refine ev_goto (q := 48) dX10_heap_41 (by decide) ?_
          exact ev_ireturn dX10_heap_48 rfl rfl (MP.mk Y (((if_neg (not_not_intro hp6)).trans ((if_neg c19).trans (if_pos c31))).trans (show mb (hpS (res V)).1 16 = mb (Y 36 35) 16 by rw [hpS_res, hY2])) hY1.resE.symm hY1.FM)
      · refine ev_aload0 (q := 23) dX10_heap_22 rfl ?_
        refine ev_getI (q := 26) dX10_heap_23 g_X10_162 (hW _ _ rfl) rfl rfl ?_
        refine ev_goto (q := 48) dX10_heap_26 (by decide) ?_
        exact ev_ireturn dX10_heap_48 rfl rfl (MP.mk Y (((if_neg (not_not_intro hp6)).trans (if_pos c19)).trans ((congrArg Prod.fst hpS_res).trans hY2.symm)) hY1.resE.symm hY1.FM)
    · exact absurd c9 (by decide)
  · refine ev_if_ne (q := 12) (t := 14) dX10_heap_9 rfl (by decide) (fun c9 => ?_) (fun c9 => ?_)
    · exact absurd c9 (by decide)
    · refine ev_iconst (q := 13) (v := (-1)) dX10_heap_12 rfl rfl ?_
      exact ev_ireturn dX10_heap_13 rfl rfl (MP.mk _ (if_pos hp6) rfl FM.rf)
end M12
