/-! the reference: which lines hold -/
def isSumA (s : th_Vl) (c : Int32) : Nat → Int32
  | 0 => if c = 119 then (hpS s).2 else if c = 116 then mb (hpS s).1 16 else 0
  | k + 1 => if c = 108 then (if c = 104 then isSumA s c k + mb (sn s k) 16 else isSumA s c k) + (if sn s k = 0 then 0 else 1) else (if c = 104 then isSumA s c k + mb (sn s k) 16 else isSumA s c k)
def isAB (s : th_Vl) (c m : Int32) : Bool := if c = 114 then (decide (isRd s m) && litB s (ix m)) else decide (m.toInt ≤ (isSumA s c 5).toInt)
def tvQ (s : th_Vl) (k : Nat) : Option (Bool × Nat) := evl (lt s k) (isAB s) 250 2 false 0
def tvB (s : th_Vl) (k : Nat) : Bool := match tvQ s k with
  | some q => q.1
  | none => false
/-- every line's text can be read -/
def bEv (s : th_Vl) : Prop := ∀ k, k < ix (s 36 11) → ∀ A, ∃ q, evl (lt s k) A 250 2 false 0 = some q
def scA (a k : Nat) : Prop := scH a k ∨ (a = 36 ∧ (k = 38 ∨ k = 39))
def frA (V V' : th_Vl) : Prop := ∀ a k, ¬ scA a k → V' a k = V a k
theorem frA.rf {V : th_Vl} : frA V V := fun _ _ _ => rfl
theorem frA.tr {V V1 V2 : th_Vl} (h1 : frA V V1) (h2 : frA V1 V2) : frA V V2 := fun a k h => (h2 a k h).trans (h1 a k h)
theorem frH.A {V V' : th_Vl} (h : frH V V') : frA V V' := fun a k hn => h a k (fun z => hn (Or.inl z))
theorem frA.w {V V1 : th_Vl} {a k : Nat} {x : Int32} (h : frA V V1) (hs : scA a k) : frA V (th_w V1 a k x) := by
  intro b j hb
  rw [th_w_if, if_neg]
  · exact h b j hb
  · rintro ⟨rfl, rfl⟩
    exact hb hs
theorem frA.row {V V' : th_Vl} (h : frA V V') {a : Nat} (ha : a ≠ 58 ∧ a ≠ 60 ∧ a ≠ 61 ∧ a ≠ 59 ∧ a ≠ 36) : V' a = V a := by
  funext k
  refine h a k ?_
  rintro ((e | e | e | e | e) | e)
  · exact ha.1 e
  · exact ha.2.1 e
  · exact ha.2.2.1 e
  · exact ha.2.2.2.1 e
  · exact ha.2.2.2.2 e.1
  · exact ha.2.2.2.2 e.1
theorem frA.resE {V V' : th_Vl} (h : frA V V') : res V' = res V := by
  refine res_eq (fun a k hp => h a k ?_)
  rintro ((e | e | e | e | e) | e)
  · rw [e] at hp; exact absurd hp (by show ¬ false = true; decide)
  · rw [e] at hp; exact absurd hp (by show ¬ false = true; decide)
  · rw [e] at hp; exact absurd hp (by show ¬ false = true; decide)
  · rw [e] at hp; exact absurd hp (by show ¬ false = true; decide)
  · rcases e with ⟨e, f | f | f⟩ <;> (rw [e, f] at hp; exact absurd hp (by decide))
  · rcases e with ⟨e, f | f⟩ <;> (rw [e, f] at hp; exact absurd hp (by decide))
theorem frA.FM {V V' : th_Vl} (h : frA V V') : FM V V' := by
  intro a ha
  exact h.row ⟨by omega, by omega, by omega, by omega, by omega⟩
/-- a field that stays -/
theorem frA.fld {V V' : th_Vl} (h : frA V V') {k : Nat} (hk : k ≠ 34 ∧ k ≠ 35 ∧ k ≠ 36 ∧ k ≠ 38 ∧ k ≠ 39) : V' 36 k = V 36 k := by
  refine h _ _ ?_
  rintro ((e | e | e | e | e) | e)
  · exact absurd e (by decide)
  · exact absurd e (by decide)
  · exact absurd e (by decide)
  · exact absurd e (by decide)
  · rcases e.2 with z | z | z
    · exact hk.1 z
    · exact hk.2.1 z
    · exact hk.2.2.1 z
  · rcases e.2 with z | z
    · exact hk.2.2.2.1 z
    · exact hk.2.2.2.2 z
theorem frA.snE {V V' : th_Vl} (h : frA V V') : sn V' = sn V := by
  funext k
  unfold sn
  rw [h.row (a := 40) (by decide), h.row (a := 41) (by decide), h.row (a := 42) (by decide)]
theorem frA.litE {V V' : th_Vl} (h : frA V V') : litB V' = litB V := by
  funext k
  unfold litB hmR
  rw [h.snE, h.row (a := 44) (by decide), h.row (a := 43) (by decide)]
theorem frA.ltE {V V' : th_Vl} (h : frA V V') (k : Nat) : lt V' k = lt V k := by
  funext p
  unfold lt
  rw [h.row (a := 47) (by decide), h.row (a := 46) (by decide)]
theorem isSum_A {V W : th_Vl} (h : frA V W) (h1 : W 36 35 = (hpS V).1) (h2 : W 36 36 = (hpS V).2) (c : Int32) : ∀ k, isSum W c k = isSumA V c k
  | 0 => by rw [isSum, isSumA, h1, h2]
  | k + 1 => by rw [isSum, isSumA, isSum_A h h1 h2 c k, h.snE]
theorem isB_A {V W : th_Vl} (h : frA V W) (h1 : W 36 35 = (hpS V).1) (h2 : W 36 36 = (hpS V).2) : isB W = isAB V := by
  funext c m
  unfold isB isAB
  have e : decide (isRd W m) = decide (isRd V m) := by simp only [isRd, h.fld (k := 6) (by decide)]
  rw [isSum_A h h1 h2, h.litE, e]
theorem lt_res {V : th_Vl} (k : Nat) : lt (res V) k = lt V k := funext fun _ => rfl
theorem isSumA_res {V : th_Vl} (c : Int32) : ∀ k, isSumA (res V) c k = isSumA V c k
  | 0 => by rw [isSumA, isSumA, hpS_res]
  | k + 1 => by rw [isSumA, isSumA, isSumA_res c k, sn_res]
theorem isAB_res {V : th_Vl} : isAB (res V) = isAB V := by
  funext c m
  unfold isAB
  rw [isSumA_res, litB_res]
  rfl
theorem tvQ_res {V : th_Vl} : tvQ (res V) = tvQ V := by
  funext k
  unfold tvQ
  rw [lt_res, isAB_res]
theorem tvB_res {V : th_Vl} : tvB (res V) = tvB V := by
  funext k
  unfold tvB
  rw [tvQ_res]
def hld (s : th_Vl) : Int32 := lm (tvB s) (ix (s 36 11))
theorem hld_res {V : th_Vl} : hld (res V) = hld V := by
  unfold hld
  rw [tvB_res]
  rfl
def a_holds (s : th_Vl) (k : Int32) : Int32 := if isLn s k then (hld s >>> (k &&& 31)) &&& 1 else -1
section M15
variable {G : th_G} {l : Launch} {d : Nat} {n : Nat} {SH : Nat → Option th_K0} {V : th_Vl}
def PO (n : Nat) (SH : Nat → Option th_K0) (V : th_Vl) : Option Value → th_S → Prop := fun r S' => r = some (.int (hld V)) ∧ ∃ V', S' = (n, SH, V') ∧ frA V V'
theorem m_holding (hW : wM SH) (hb : bRo (res V)) (hl : bLi (res V)) (he : bLe (res V)) (hv : bEv V) : MT G l yX10_holding kX10_holding (d + 256) 0 0 [.ref 36] (n, SH, V) (PO n SH V) := by
  refine MT.of (by decide) rfl rfl (n := 1) rfl (ls := [some (.ref 36), none]) rfl ?_
  have h0 : 0 ≤ (V 36 11).toInt := hl.1
  have h8 : (V 36 11).toInt ≤ 8 := hl.2
  have hR := th_self h0
  have hI := th_ixI h0
  have lp : ∀ j, j ≤ ix (V 36 11) → ∀ W : th_Vl, frA V W → W 36 35 = (hpS V).1 → W 36 36 = (hpS V).2 → W 36 38 = nI j → EV G l kX10_holding (d + 256) 0 0 11 [some (.ref 36), some (.int (lm (tvB V) j))] [] (n, SH, W) (PO n SH V) := by
    refine th_down _ ?_ ?_
    · intro W hW1 hW2 hW3 hW4
      have hLW : W 36 11 = V 36 11 := hW1.fld (by decide)
      refine ev_aload0 (q := 12) dX10_holding_11 rfl ?_
      refine ev_getI (q := 15) dX10_holding_12 g_X10_198 (hW _ _ rfl) rfl rfl ?_
      refine ev_aload0 (q := 16) dX10_holding_15 rfl ?_
      refine ev_getI (q := 19) dX10_holding_16 g_X10_186 (hW _ _ rfl) rfl rfl ?_
      refine ev_icmp_ge (q := 22) (t := 56) dX10_holding_19 rfl (by decide) (fun c19 => ?_) (fun c19 => ?_)
      · refine ev_iload1 (q := 57) dX10_holding_56 rfl ?_
        exact ev_ireturn dX10_holding_57 rfl rfl ⟨rfl, W, rfl, hW1⟩
      · exact absurd (by show W 36 11 ≤ W 36 38; rw [hLW, hW4, ← hR]; exact Int32.le_refl _) c19
    · intro j hj ij W hW1 hW2 hW3 hW4
      have hLW : W 36 11 = V 36 11 := hW1.fld (by decide)
      obtain ⟨q, hq⟩ := hv j hj (isAB V)
      have hqt : tvB V j = q.1 := by rw [tvB, tvQ, hq]
      refine ev_aload0 (q := 12) dX10_holding_11 rfl ?_
      refine ev_getI (q := 15) dX10_holding_12 g_X10_198 (hW _ _ rfl) rfl rfl ?_
      refine ev_aload0 (q := 16) dX10_holding_15 rfl ?_
      refine ev_getI (q := 19) dX10_holding_16 g_X10_186 (hW _ _ rfl) rfl rfl ?_
      refine ev_icmp_ge (q := 22) (t := 56) dX10_holding_19 rfl (by decide) (fun c19 => ?_) (fun c19 => ?_)
      · exact absurd (show W 36 11 ≤ W 36 38 from c19) (by rw [hLW, hW4, hR]; exact nI_ge hj (by omega))
      · have hev : evl (lt W j) (isB W) 250 2 false 0 = some q := by
          rw [hW1.ltE, isB_A hW1 hW2 hW3]
          exact hq
        have hm := (m_read (G := G) (l := l) (n := n) (V := W) hW (show bRo (res W) by rw [hW1.resE]; exact hb) (k := j) (by omega) hW4 (by rw [hW1.row (a := 47) (by decide)]; exact he j (by omega)) 250).2.2.1 0 q hev
        refine ev_aload0 (q := 23) dX10_holding_22 rfl ?_
        refine ev_iconst (q := 24) (v := 0) dX10_holding_23 rfl rfl ?_
        refine ev_putI (q := 27) dX10_holding_24 (p_X10_195 _) (hW _ _ rfl) rfl rfl rfl rfl ?_
        refine ev_aload0 (q := 28) dX10_holding_27 rfl ?_
        show EV G l kX10_holding _ 0 0 28 _ _ (n, SH, vat W 0) _
        refine ev_cV (K := kX10_holding) (pc := 28) (q := 31) (hm) dX10_holding_28 l_X10_211 (hW _ _ rfl) rfl rfl (Nat.le_of_ble_eq_true rfl) (by omega) rfl rfl (fun r S1 hp => ?_)
        obtain ⟨rfl, rfl⟩ := hp
        have hX : frA V (th_w (vat W q.2) 36 38 (nI (j + 1))) := (hW1.w (Or.inr ⟨rfl, Or.inr rfl⟩)).w (Or.inr ⟨rfl, Or.inl rfl⟩)
        have nx : EV G l kX10_holding (d + 256) 0 0 43 [some (.ref 36), some (.int (lm (tvB V) (j + 1)))] [] (n, SH, vat W q.2) (PO n SH V) := by
          refine ev_aload0 (q := 44) dX10_holding_43 rfl ?_
          refine ev_dup (q := 45) dX10_holding_44 rfl rfl ?_
          refine ev_getI (q := 48) dX10_holding_45 g_X10_198 (hW _ _ rfl) rfl rfl ?_
          refine ev_iconst (q := 49) (v := 1) dX10_holding_48 rfl rfl ?_
          refine ev_iadd (q := 50) dX10_holding_49 rfl ?_
          refine ev_putI (q := 53) dX10_holding_50 (p_X10_198 _) (hW _ _ rfl) rfl rfl rfl rfl ?_
          refine ev_goto (q := 11) dX10_holding_53 (by decide) ?_
          show EV G l kX10_holding _ 0 0 11 _ _ (n, SH, th_w (vat W q.2) 36 38 (W 36 38 + 1)) _
          rw [hW4, ← nI_succ]
          exact ij _ hX hW2 hW3 rfl
        cases hq1 : q.1
        · rw [lm, hqt, hq1] at nx
          refine ev_if_eq (q := 34) (t := 43) dX10_holding_31 rfl (by decide) (fun c31 => ?_) (fun c31 => ?_)
          · exact nx
          · exact absurd rfl c31
        · rw [lm, hqt, hq1] at nx
          refine ev_if_eq (q := 34) (t := 43) dX10_holding_31 rfl (by decide) (fun c31 => ?_) (fun c31 => ?_)
          · exact absurd c31 (by decide)
          · refine ev_iload1 (q := 35) dX10_holding_34 rfl ?_
            refine ev_iconst (q := 36) (v := 1) dX10_holding_35 rfl rfl ?_
            refine ev_aload0 (q := 37) dX10_holding_36 rfl ?_
            refine ev_getI (q := 40) dX10_holding_37 g_X10_198 (hW _ _ rfl) rfl rfl ?_
            refine ev_ishl (q := 41) dX10_holding_40 rfl ?_
            refine ev_ior (q := 42) dX10_holding_41 rfl ?_
            refine ev_istore1 (q := 43) dX10_holding_42 rfl (by decide) rfl ?_
            show EV G l kX10_holding _ 0 0 43 [_, some (.int (lm (tvB V) j ||| (1 <<< (W 36 38 &&& 31))))] _ _ _
            rw [hW4]
            exact nx
  refine ev_aload0 (q := 1) dX10_holding_0 rfl ?_
  refine ev_cV (K := kX10_holding) (pc := 1) (q := 4) (m_findHeap (d := d + 246) hW hb) dX10_holding_1 l_X10_172 (hW _ _ rfl) rfl rfl (Nat.le_of_ble_eq_true rfl) (Nat.le_refl _) rfl rfl (fun r S1 hp => ?_)
  obtain ⟨rfl, Y, rfl, hY1, hY2, hY3⟩ := hp
  refine ev_iconst (q := 5) (v := 0) dX10_holding_4 rfl rfl ?_
  refine ev_istore1 (q := 6) dX10_holding_5 rfl (by decide) rfl ?_
  refine ev_aload0 (q := 7) dX10_holding_6 rfl ?_
  refine ev_iconst (q := 8) (v := 0) dX10_holding_7 rfl rfl ?_
  refine ev_putI (q := 11) dX10_holding_8 (p_X10_198 _) (hW _ _ rfl) rfl rfl rfl rfl ?_
  exact lp 0 (Nat.zero_le _) (th_w Y 36 38 0) (hY1.A.w (Or.inr ⟨rfl, Or.inl rfl⟩)) hY2 hY3 rfl
theorem m_holds (hW : wM SH) (hb : bRo (res V)) (hl : bLi (res V)) (he : bLe (res V)) (hv : bEv V) (k : Int32) : MT G l yX10_holds kX10_holds (d + 257) 0 0 [.ref 36, .int k] (n, SH, V) (MP n SH V (a_holds (res V) k) (res V)) := by
  refine MT.of (by decide) rfl rfl (n := 0) rfl (ls := [some (.ref 36), some (.int k)]) rfl ?_
  refine ev_aload0 (q := 1) dX10_holds_0 rfl ?_
  refine ev_iload1 (q := 2) dX10_holds_1 rfl ?_
  refine ev_cV (K := kX10_holds) (pc := 2) (q := 5) (m_isLine hW _) dX10_holds_2 l_X10_192 (hW _ _ rfl) rfl rfl (Nat.le_of_ble_eq_true rfl) (Nat.le_refl _) rfl rfl (fun r S1 hp => ?_)
  rcases hp with ⟨rfl, ⟨hp2, rfl⟩ | ⟨hp2, rfl⟩⟩
  · refine ev_if_eq (q := 8) (t := 19) dX10_holds_5 rfl (by decide) (fun c5 => ?_) (fun c5 => ?_)
    · exact absurd c5 (by decide)
    · refine ev_aload0 (q := 9) dX10_holds_8 rfl ?_
      refine ev_cV (K := kX10_holds) (pc := 9) (q := 12) (m_holding (d := d) hW hb hl he hv) dX10_holds_9 l_X10_217 (hW _ _ rfl) rfl rfl (Nat.le_of_ble_eq_true rfl) (Nat.le_refl _) rfl rfl (fun r S1 hp => ?_)
      obtain ⟨rfl, Y, rfl, hY⟩ := hp
      refine ev_iload1 (q := 13) dX10_holds_12 rfl ?_
      refine ev_ishr (q := 14) dX10_holds_13 rfl ?_
      refine ev_iconst (q := 15) (v := 1) dX10_holds_14 rfl rfl ?_
      refine ev_iand (q := 16) dX10_holds_15 rfl ?_
      refine ev_goto (q := 20) dX10_holds_16 (by decide) ?_
      exact ev_ireturn dX10_holds_20 rfl rfl (MP.mk Y ((if_pos hp2).trans (by rw [hld_res])) hY.resE.symm hY.FM)
  · refine ev_if_eq (q := 8) (t := 19) dX10_holds_5 rfl (by decide) (fun c5 => ?_) (fun c5 => ?_)
    · refine ev_iconst (q := 20) (v := (-1)) dX10_holds_19 rfl rfl ?_
      exact ev_ireturn dX10_holds_20 rfl rfl (MP.mk _ (if_neg hp2) rfl FM.rf)
    · exact absurd c5 (by decide)
end M15
