/-! the reference: the search of a track -/
def ccl (v sp : Int32) : Nat → List Int32
  | 0 => []
  | c + 1 => if ¬ (v >>> (nI c &&& 31)) &&& 1 = 0 ∧ inSp sp c then ccl v sp c ++ [nI c] else ccl v sp c
def Frow (V : th_Vl) (h : Int32) (i k : Nat) : List Int32 := if (h >>> (nI k &&& 31)) &&& 1 = 0 then [-1] else ccl (sn V k) (V 43 (5 * i + k)) 16
/-- the tracks from layer j on, k layers, in their order -/
def trk (F : Nat → List Int32) : Nat → Nat → List (List Int32)
  | _, 0 => [[]]
  | j, k + 1 => (F j).flatMap (fun c => (trk F (j + 1) k).map (fun t => c :: t))
abbrev th_b : Type := Int32 × Int32 × List Int32
abbrev rowF (t : List Int32) : Nat → Int32 := fun k => th_nth t k 0
def bstep (h : Int32) (b : th_b) (t : List Int32) : th_b := if 0 < b.2.1.toInt ∧ b.1.toInt ≤ (topOf h (rowF t)).toInt then b else (topOf h (rowF t), lowOf h (rowF t), t)
def BsR (V : th_Vl) (i : Nat) (b : th_b) : Prop := V 60 i = b.1 ∧ V 61 i = b.2.1 ∧ ∀ k, k < 5 → V 59 (5 * i + k) = th_nth b.2.2 k 0
/-- which cells the search of road i may write -/
def scT (i a k : Nat) : Prop := a = 58 ∨ (a = 60 ∧ k = i) ∨ (a = 61 ∧ k = i) ∨ (a = 59 ∧ 5 * i ≤ k ∧ k < 5 * i + 5) ∨ (a = 36 ∧ k = 34)
def frT (i : Nat) (V V' : th_Vl) : Prop := ∀ a k, ¬ scT i a k → V' a k = V a k
theorem frT.rf {i : Nat} {V : th_Vl} : frT i V V := fun _ _ _ => rfl
theorem frT.tr {i : Nat} {V V1 V2 : th_Vl} (h1 : frT i V V1) (h2 : frT i V1 V2) : frT i V V2 := fun a k h => (h2 a k h).trans (h1 a k h)
theorem frT.w {i : Nat} {V V1 : th_Vl} {a k : Nat} {x : Int32} (h : frT i V V1) (hs : scT i a k) : frT i V (th_w V1 a k x) := by
  intro b j hb
  rw [th_w_if, if_neg]
  · exact h b j hb
  · rintro ⟨rfl, rfl⟩
    exact hb hs
theorem frT.sg {i : Nat} {V V1 : th_Vl} {a lo m : Nat} {f : Nat → Int32} (h : frT i V V1) (hs : ∀ k, lo ≤ k → k < lo + m → scT i a k) : frT i V (th_seg V1 a lo m f) := by
  intro b j hb
  rw [th_seg, if_neg]
  · exact h b j hb
  · rintro ⟨rfl, h1, h2⟩
    exact hb (hs j h1 h2)
theorem frT.row {i : Nat} {V V' : th_Vl} (h : frT i V V') {a : Nat} (ha : a ≠ 58 ∧ a ≠ 60 ∧ a ≠ 61 ∧ a ≠ 59 ∧ a ≠ 36) : V' a = V a := by
  funext k
  refine h a k ?_
  rintro (e | e | e | e | e)
  · exact ha.1 e
  · exact ha.2.1 e.1
  · exact ha.2.2.1 e.1
  · exact ha.2.2.2.1 e.1
  · exact ha.2.2.2.2 e.1
theorem frT.snE {i : Nat} {V V' : th_Vl} (h : frT i V V') (k : Nat) : sn V' k = sn V k := by
  unfold sn
  rw [h.row (a := 40) (by decide), h.row (a := 41) (by decide), h.row (a := 42) (by decide)]
theorem frT.F {i : Nat} {V V' : th_Vl} (h : frT i V V') (hh : Int32) : Frow V' hh i = Frow V hh i := by
  funext k
  unfold Frow
  rw [h.snE k, h.row (a := 43) (by decide)]
theorem frT.resE {i : Nat} {V V' : th_Vl} (h : frT i V V') : res V' = res V := by
  refine res_eq (fun a k hp => h a k ?_)
  rintro (e | e | e | e | e)
  · rw [e] at hp; exact absurd hp (by show ¬ false = true; decide)
  · rw [e.1] at hp; exact absurd hp (by show ¬ false = true; decide)
  · rw [e.1] at hp; exact absurd hp (by show ¬ false = true; decide)
  · rw [e.1] at hp; exact absurd hp (by show ¬ false = true; decide)
  · rw [e.1, e.2] at hp; exact absurd hp (by decide)
theorem frT.FM {i : Nat} {V V' : th_Vl} (h : frT i V V') : FM V V' := by
  intro a ha
  exact h.row ⟨by omega, by omega, by omega, by omega, by omega⟩
theorem ms_f {h : Int32} {f g : Nat → Int32} : ∀ k, (∀ j, j < k → f j = g j) → ms h f k = ms h g k
  | 0, _ => rfl
  | k + 1, e => by rw [ms, ms, ms_f k (fun j hj => e j (by omega)), e k (by omega)]
theorem topOf_f {h : Int32} {f g : Nat → Int32} (e : ∀ j, j < 5 → f j = g j) : topOf h f = topOf h g := by rw [topOf, topOf, ms_f 5 e]
theorem lowOf_f {h : Int32} {f g : Nat → Int32} (e : ∀ j, j < 5 → f j = g j) : lowOf h f = lowOf h g := by rw [lowOf, lowOf, ms_f 5 e]
theorem th_nth_app {α : Type} {a b : List α} {d0 : α} {k : Nat} (h : k < a.length) : th_nth (a ++ b) k d0 = th_nth a k d0 := by
  induction a generalizing k with
  | nil => simp at h
  | cons x a ih =>
    cases k with
    | zero => rfl
    | succ k => exact ih (by simpa using h)
theorem th_nth_mid {α : Type} {a b : List α} {x d0 : α} : th_nth (a ++ x :: b) a.length d0 = x := by
  induction a with
  | nil => rfl
  | cons y a ih => exact ih
section M9
variable {G : th_G} {l : Launch} {n : Nat} {SH : Nat → Option th_K0}
def PF (n : Nat) (SH : Nat → Option th_K0) (i : Nat) (V : th_Vl) (j : Nat) (b : th_b) : Option Value → th_S → Prop := fun rr S' => rr = none ∧ ∃ V', S' = (n, SH, V') ∧ frT i V V' ∧ (∀ k, k < j → V' 58 k = V 58 k) ∧ BsR V' i b
theorem m_findFrom5 (hW : wM SH) {d i : Nat} (hi : i < 12) {r : Int32} (hr : r = nI i) (h : Int32) (V : th_Vl) (p : List Int32) (b : th_b) (hpr : ∀ k, k < 5 → V 58 k = th_nth p k 0) (hB : BsR V i b) : MT G l yX10_findFrom kX10_findFrom (d + 1) 0 0 [.ref 36, .int r, .int h, .int 5] (n, SH, V) (PF n SH i V 5 (bstep h b p)) := by
  refine MT.of (by decide) rfl rfl (n := 2) rfl (ls := [some (.ref 36), some (.int r), some (.int h), some (.int 5), none, none]) rfl ?_
  have hrow5 : ∀ k, k < 5 → V 58 k = rowF p k := hpr
  have eT : topOf h (V 58) = topOf h (rowF p) := topOf_f hrow5
  have eL : lowOf h (V 58) = lowOf h (rowF p) := lowOf_f hrow5
  have hU : frT i V (th_w V 36 34 (lowOf h (V 58))) := frT.rf.w (Or.inr (Or.inr (Or.inr (Or.inr ⟨rfl, rfl⟩))))
  have hBU : BsR (th_w V 36 34 (lowOf h (V 58))) i b := hB
  refine ev_iload3 (q := 1) dX10_findFrom_0 rfl ?_
  refine ev_iconst (q := 2) (v := 5) dX10_findFrom_1 rfl rfl ?_
  refine ev_icmp_ne (q := 5) (t := 85) dX10_findFrom_2 rfl (by decide) (fun c2 => ?_) (fun c2 => ?_)
  · exact absurd rfl c2
  · refine ev_aload0 (q := 6) dX10_findFrom_5 rfl ?_
    refine ev_iload2 (q := 7) dX10_findFrom_6 rfl ?_
    refine ev_cV (K := kX10_findFrom) (pc := 7) (q := 10) (m_missP hW _) dX10_findFrom_7 l_X10_145 (hW _ _ rfl) rfl rfl (Nat.le_of_ble_eq_true rfl) (Nat.le_refl _) rfl rfl (fun r S1 hp => ?_)
    obtain ⟨rfl, rfl⟩ := hp
    have hlo : (th_w V 36 34 (lowOf h (V 58))) 36 34 = lowOf h (V 58) := rfl
    have hro : (th_w V 36 34 (lowOf h (V 58))) 58 = V 58 := rfl
    generalize th_w V 36 34 (lowOf h (V 58)) = U at hU hBU hlo hro ⊢
    have h33 : ¬ (0 < b.2.1.toInt ∧ b.1.toInt ≤ (topOf h (rowF p)).toInt) → EV G l kX10_findFrom (d + 1) 0 0 33 [some (.ref 36), some (.int r), some (.int h), some (.int 5), some (.int (topOf h (V 58))), none] [] (n, SH, U) (PF n SH i V 5 (bstep h b p)) := by
      intro hc
      have lp : ∀ j, j ≤ 5 → EV G l kX10_findFrom (d + 1) 0 0 54 [some (.ref 36), some (.int r), some (.int h), some (.int 5), some (.int (topOf h (V 58))), some (.int (nI j))] [] (n, SH, th_seg (th_w (th_w U 60 i (topOf h (V 58))) 61 i (lowOf h (V 58))) 59 (5 * i) j (V 58)) (PF n SH i V 5 (bstep h b p)) := by
        refine th_down 5 ?_ ?_
        · refine ev_iload5 (q := 56) dX10_findFrom_54 rfl ?_
          refine ev_iconst (q := 57) (v := 5) dX10_findFrom_56 rfl rfl ?_
          refine ev_icmp_ge (q := 60) (t := 84) dX10_findFrom_57 rfl (by decide) (fun c57 => ?_) (fun c57 => ?_)
          · have hBf : BsR (th_seg (th_w (th_w U 60 i (topOf h (V 58))) 61 i (lowOf h (V 58))) 59 (5 * i) 5 (V 58)) i (bstep h b p) := by
              rw [bstep, if_neg hc]
              refine ⟨?_, ?_, fun k hk => ?_⟩
              · rw [th_seg_ne (by decide), th_w_if, if_neg (fun z => absurd z.1 (by decide)), th_w_if, if_pos ⟨rfl, rfl⟩]
                exact eT
              · rw [th_seg_ne (by decide), th_w_if, if_pos ⟨rfl, rfl⟩]
                exact eL
              · rw [th_seg_in (by omega) (by omega), show 5 * i + k - 5 * i = k by omega]
                exact hpr k hk
            exact ev_return dX10_findFrom_84 rfl ⟨rfl, _, rfl, ((hU.w (Or.inr (Or.inl ⟨rfl, rfl⟩))).w (Or.inr (Or.inr (Or.inl ⟨rfl, rfl⟩)))).sg (fun k h1 h2 => Or.inr (Or.inr (Or.inr (Or.inl ⟨rfl, h1, h2⟩)))), fun k hk => congrFun hro k, hBf⟩
          · exact absurd (by decide) c57
        · intro j hj ih
          rw [← th_seg_s, ← hro] at ih
          refine ev_iload5 (q := 56) dX10_findFrom_54 rfl ?_
          refine ev_iconst (q := 57) (v := 5) dX10_findFrom_56 rfl rfl ?_
          refine ev_icmp_ge (q := 60) (t := 84) dX10_findFrom_57 rfl (by decide) (fun c57 => ?_) (fun c57 => ?_)
          · exact absurd c57 (nI_ge hj (by decide))
          · rw [← hro]
            refine ev_aload0 (q := 61) dX10_findFrom_60 rfl ?_
            refine ev_getR (q := 64) dX10_findFrom_61 g_X10_78 (hW _ _ rfl) rfl rfl rfl ?_
            refine ev_iconst (q := 65) (v := 5) dX10_findFrom_64 rfl rfl ?_
            refine ev_iload1 (q := 66) dX10_findFrom_65 rfl ?_
            refine ev_imul (q := 67) dX10_findFrom_66 rfl ?_
            refine ev_iload5 (q := 69) dX10_findFrom_67 rfl ?_
            refine ev_iadd (q := 70) dX10_findFrom_69 rfl ?_
            refine ev_aload0 (q := 71) dX10_findFrom_70 rfl ?_
            refine ev_getR (q := 74) dX10_findFrom_71 g_X10_75 (hW _ _ rfl) rfl rfl rfl ?_
            refine ev_iload5 (q := 76) dX10_findFrom_74 rfl ?_
            refine ev_iald (q := 77) dX10_findFrom_76 (hW _ _ rfl) rfl hj (by decide) rfl ?_
            refine ev_iast (q := 78) dX10_findFrom_77 (hW _ _ rfl) (th_5 hr rfl) (by omega) (by decide) rfl ?_
            refine ev_iinc5 (q := 81) dX10_findFrom_78 rfl (by decide) rfl (nI_succ j).symm ?_
            refine ev_goto (q := 54) dX10_findFrom_81 (by decide) ?_
            exact ih
      rw [← hlo] at lp
      refine ev_aload0 (q := 34) dX10_findFrom_33 rfl ?_
      refine ev_getR (q := 37) dX10_findFrom_34 g_X10_81 (hW _ _ rfl) rfl rfl rfl ?_
      refine ev_iload1 (q := 38) dX10_findFrom_37 rfl ?_
      refine ev_iload4 (q := 40) dX10_findFrom_38 rfl ?_
      refine ev_iast (q := 41) dX10_findFrom_40 (hW _ _ rfl) hr hi (by decide) rfl ?_
      refine ev_aload0 (q := 42) dX10_findFrom_41 rfl ?_
      refine ev_getR (q := 45) dX10_findFrom_42 g_X10_84 (hW _ _ rfl) rfl rfl rfl ?_
      refine ev_iload1 (q := 46) dX10_findFrom_45 rfl ?_
      refine ev_aload0 (q := 47) dX10_findFrom_46 rfl ?_
      refine ev_getI (q := 50) dX10_findFrom_47 g_X10_142 (hW _ _ rfl) rfl rfl ?_
      refine ev_iast (q := 51) dX10_findFrom_50 (hW _ _ rfl) hr hi (by decide) rfl ?_
      refine ev_iconst (q := 52) (v := 0) dX10_findFrom_51 rfl rfl ?_
      refine ev_istore5 (q := 54) dX10_findFrom_52 rfl (by decide) rfl ?_
      have hh := lp 0 (by decide)
      rw [th_seg_0] at hh
      exact hh
    refine ev_istore4 (q := 12) dX10_findFrom_10 rfl (by decide) rfl ?_
    refine ev_aload0 (q := 13) dX10_findFrom_12 rfl ?_
    refine ev_getR (q := 16) dX10_findFrom_13 g_X10_84 (hW _ _ rfl) rfl rfl rfl ?_
    refine ev_iload1 (q := 17) dX10_findFrom_16 rfl ?_
    refine ev_iald (q := 18) dX10_findFrom_17 (hW _ _ rfl) hr hi (by decide) rfl ?_
    refine ev_if_le (q := 21) (t := 33) dX10_findFrom_18 rfl (by decide) (fun c18 => ?_) (fun c18 => ?_)
    · exact h33 (fun q => absurd (show 0 < (U 61 i).toInt by rw [hBU.2.1]; exact q.1) (Int.not_lt.mpr (i_le.mp c18)))
    · refine ev_iload4 (q := 23) dX10_findFrom_21 rfl ?_
      refine ev_aload0 (q := 24) dX10_findFrom_23 rfl ?_
      refine ev_getR (q := 27) dX10_findFrom_24 g_X10_81 (hW _ _ rfl) rfl rfl rfl ?_
      refine ev_iload1 (q := 28) dX10_findFrom_27 rfl ?_
      refine ev_iald (q := 29) dX10_findFrom_28 (hW _ _ rfl) hr hi (by decide) rfl ?_
      refine ev_icmp_lt (q := 32) (t := 33) dX10_findFrom_29 rfl (by decide) (fun c29 => ?_) (fun c29 => ?_)
      · exact h33 (fun q => absurd (show (topOf h (V 58)).toInt < (U 60 i).toInt from i_lt.mp c29) (Int.not_lt.mpr (by rw [hBU.1, eT]; exact q.2)))
      · have hk : 0 < b.2.1.toInt ∧ b.1.toInt ≤ (topOf h (rowF p)).toInt := ⟨by have z : 0 < (U 61 i).toInt := i_nle c18; rw [hBU.2.1] at z; exact z, by have z : (U 60 i).toInt ≤ (topOf h (V 58)).toInt := i_nlt c29; rw [hBU.1, eT] at z; exact z⟩
        exact ev_return dX10_findFrom_32 rfl ⟨rfl, U, rfl, hU, fun k _ => congrFun hro k, by rw [bstep, if_pos hk]; exact hBU⟩
theorem m_findFrom (hW : wM SH) {d i : Nat} (hi : i < 12) {r : Int32} (hr : r = nI i) (h : Int32) : ∀ (k j : Nat), j + k = 5 → ∀ (V : th_Vl) (p : List Int32) (b : th_b), p.length = j → (∀ q, q < j → V 58 q = th_nth p q 0) → BsR V i b → MT G l yX10_findFrom kX10_findFrom (d + 2 + k) 0 0 [.ref 36, .int r, .int h, .int (nI j)] (n, SH, V) (PF n SH i V j ((trk (Frow V h i) j k).foldl (fun b t => bstep h b (p ++ t)) b)) := by
  intro k
  induction k with
  | zero =>
    intro j hj V p b hlen hpr hB
    have hj5 : j = 5 := by omega
    subst hj5
    have e := m_findFrom5 (G := G) (l := l) (n := n) hW (d := d + 1) hi hr h V p b hpr hB
    show MT G l yX10_findFrom kX10_findFrom (d + 2) 0 0 _ _ (PF n SH i V 5 (bstep h b (p ++ [])))
    rw [List.append_nil]
    exact e
  | succ k ih =>
    intro j hj V p b hlen hpr hB
    have hj5 : j < 5 := by omega
    have hdd : 0 + 1 + 1 ≤ d + 2 + (k + 1) := by omega
    refine MT.of (by decide) rfl rfl (n := 2) rfl (ls := [some (.ref 36), some (.int r), some (.int h), some (.int (nI j)), none, none]) rfl ?_
    have hU : frT i V (th_w V 58 j (-1)) := frT.rf.w (Or.inl rfl)
    have hUr : ∀ q, q < j → (th_w V 58 j (-1)) 58 q = V 58 q := fun q hq => th_w_j (by omega)
    have hUB : BsR (th_w V 58 j (-1)) i b := hB
    have hUj : (th_w V 58 j (-1)) 58 j = -1 := by rw [th_w_if, if_pos ⟨rfl, rfl⟩]
    refine ev_iload3 (q := 1) dX10_findFrom_0 rfl ?_
    refine ev_iconst (q := 2) (v := 5) dX10_findFrom_1 rfl rfl ?_
    refine ev_icmp_ne (q := 5) (t := 85) dX10_findFrom_2 rfl (by decide) (fun c2 => ?_) (fun c2 => ?_)
    · refine ev_aload0 (q := 86) dX10_findFrom_85 rfl ?_
      refine ev_getR (q := 89) dX10_findFrom_86 g_X10_75 (hW _ _ rfl) rfl rfl rfl ?_
      refine ev_iload3 (q := 90) dX10_findFrom_89 rfl ?_
      refine ev_iconst (q := 91) (v := (-1)) dX10_findFrom_90 rfl rfl ?_
      refine ev_iast (q := 92) dX10_findFrom_91 (hW _ _ rfl) rfl hj5 (by decide) rfl ?_
      refine ev_iload2 (q := 93) dX10_findFrom_92 rfl ?_
      refine ev_iload3 (q := 94) dX10_findFrom_93 rfl ?_
      refine ev_ishr (q := 95) dX10_findFrom_94 rfl ?_
      refine ev_iconst (q := 96) (v := 1) dX10_findFrom_95 rfl rfl ?_
      refine ev_iand (q := 97) dX10_findFrom_96 rfl ?_
      show EV G l kX10_findFrom _ 0 0 97 _ _ (n, SH, th_w V 58 j (-1)) _
      generalize th_w V 58 j (-1) = U at hU hUr hUB hUj ⊢
      refine ev_if_ne (q := 100) (t := 110) dX10_findFrom_97 rfl (by decide) (fun c97 => ?_) (fun c97 => ?_)
      · have eF : Frow V h i j = ccl (sn V j) (V 43 (5 * i + j)) 16 := if_neg c97
        have lp : ∀ c, c ≤ 16 → ∀ (W : th_Vl) (o5 : Option Value), th_c1 [o5] = true → frT i V W → (∀ q, q < j → W 58 q = V 58 q) → BsR W i (((ccl (sn V j) (V 43 (5 * i + j)) c).flatMap (fun x => (trk (Frow V h i) (j + 1) k).map (fun t => x :: t))).foldl (fun b t => bstep h b (p ++ t)) b) → EV G l kX10_findFrom (d + 2 + (k + 1)) 0 0 113 [some (.ref 36), some (.int r), some (.int h), some (.int (nI j)), some (.int (nI c)), o5] [] (n, SH, W) (PF n SH i V j ((trk (Frow V h i) j (k + 1)).foldl (fun b t => bstep h b (p ++ t)) b)) := by
          refine th_down 16 ?_ ?_
          · intro W o5 ho5 hW1 hW2 hW3
            refine ev_iload4 (q := 115) dX10_findFrom_113 rfl ?_
            refine ev_bipush (q := 117) (v := 16) dX10_findFrom_115 rfl rfl ?_
            refine ev_icmp_ge (q := 120) (t := 170) dX10_findFrom_117 rfl (by decide) (fun c117 => ?_) (fun c117 => ?_)
            · exact ev_return dX10_findFrom_170 rfl ⟨rfl, W, rfl, hW1, hW2, by rw [trk, eF]; exact hW3⟩
            · exact absurd (by decide) c117
          · intro c hc ic W o5 ho5 hW1 hW2 hW3
            refine ev_iload4 (q := 115) dX10_findFrom_113 rfl ?_
            refine ev_bipush (q := 117) (v := 16) dX10_findFrom_115 rfl rfl ?_
            refine ev_icmp_ge (q := 120) (t := 170) dX10_findFrom_117 rfl (by decide) (fun c117 => ?_) (fun c117 => ?_)
            · exact absurd c117 (nI_ge hc (by decide))
            · refine ev_aload0 (q := 121) dX10_findFrom_120 rfl ?_
              refine ev_iload3 (q := 122) dX10_findFrom_121 rfl ?_
              refine ev_cV (K := kX10_findFrom) (pc := 122) (q := 125) (m_seen hW hj5 rfl) dX10_findFrom_122 l_X10_116 (hW _ _ rfl) rfl rfl (Nat.le_of_ble_eq_true rfl) (Nat.le_refl _) rfl rfl (fun r S1 hp => ?_)
              obtain ⟨rfl, rfl⟩ := hp
              rw [hW1.snE j]
              have skip : ¬ (¬ (sn V j >>> (nI c &&& 31)) &&& 1 = 0 ∧ inSp (V 43 (5 * i + j)) c) → EV G l kX10_findFrom (d + 2 + (k + 1)) 0 0 164 [some (.ref 36), some (.int r), some (.int h), some (.int (nI j)), some (.int (nI c)), o5] [] (n, SH, W) (PF n SH i V j ((trk (Frow V h i) j (k + 1)).foldl (fun b t => bstep h b (p ++ t)) b)) := by
                intro hn
                refine ev_iinc4 (q := 167) dX10_findFrom_164 rfl (by decide) ho5 (nI_succ c).symm ?_
                refine ev_goto (q := 113) dX10_findFrom_167 (by decide) ?_
                exact ic W o5 ho5 hW1 hW2 (by rw [ccl, if_neg hn]; exact hW3)
              refine ev_iload4 (q := 127) dX10_findFrom_125 rfl ?_
              refine ev_ishr (q := 128) dX10_findFrom_127 rfl ?_
              refine ev_iconst (q := 129) (v := 1) dX10_findFrom_128 rfl rfl ?_
              refine ev_iand (q := 130) dX10_findFrom_129 rfl ?_
              refine ev_if_eq (q := 133) (t := 164) dX10_findFrom_130 rfl (by decide) (fun c130 => ?_) (fun c130 => ?_)
              · exact skip (fun q => q.1 c130)
              · refine ev_aload0 (q := 134) dX10_findFrom_133 rfl ?_
                refine ev_iload1 (q := 135) dX10_findFrom_134 rfl ?_
                refine ev_iload3 (q := 136) dX10_findFrom_135 rfl ?_
                refine ev_iload4 (q := 138) dX10_findFrom_136 rfl ?_
                refine ev_cV (K := kX10_findFrom) (pc := 138) (q := 141) (m_isIn (d := 0) hW hi hj5 hr rfl rfl) dX10_findFrom_138 l_X10_131 (hW _ _ rfl) rfl rfl (Nat.le_of_ble_eq_true rfl) hdd rfl rfl (fun r S1 hp => ?_)
                rcases hp with ⟨rfl, ⟨hp138, rfl⟩ | ⟨hp138, rfl⟩⟩
                · rw [hW1.row (a := 43) (by decide)] at hp138
                  refine ev_if_ne (q := 144) (t := 147) dX10_findFrom_141 rfl (by decide) (fun c141 => ?_) (fun c141 => ?_)
                  · have hX : frT i V (th_w W 58 j (nI c)) := hW1.w (Or.inl rfl)
                    have hXr : ∀ q, q < j → (th_w W 58 j (nI c)) 58 q = V 58 q := fun q hq => (th_w_j (by omega)).trans (hW2 q hq)
                    have hXB : BsR (th_w W 58 j (nI c)) i _ := hW3
                    have hXj : (th_w W 58 j (nI c)) 58 j = nI c := by rw [th_w_if, if_pos ⟨rfl, rfl⟩]
                    refine ev_aload0 (q := 148) dX10_findFrom_147 rfl ?_
                    refine ev_getR (q := 151) dX10_findFrom_148 g_X10_75 (hW _ _ rfl) rfl rfl rfl ?_
                    refine ev_iload3 (q := 152) dX10_findFrom_151 rfl ?_
                    refine ev_iload4 (q := 154) dX10_findFrom_152 rfl ?_
                    refine ev_iast (q := 155) dX10_findFrom_154 (hW _ _ rfl) rfl hj5 (by decide) rfl ?_
                    refine ev_aload0 (q := 156) dX10_findFrom_155 rfl ?_
                    refine ev_iload1 (q := 157) dX10_findFrom_156 rfl ?_
                    refine ev_iload2 (q := 158) dX10_findFrom_157 rfl ?_
                    refine ev_iload3 (q := 159) dX10_findFrom_158 rfl ?_
                    refine ev_iconst (q := 160) (v := 1) dX10_findFrom_159 rfl rfl ?_
                    refine ev_iadd (q := 161) dX10_findFrom_160 rfl ?_
                    show EV G l kX10_findFrom _ 0 0 161 _ _ (n, SH, th_w W 58 j (nI c)) _
                    generalize th_w W 58 j (nI c) = X at hX hXr hXB hXj ⊢
                    have hm := ih (j + 1) (by omega) X (p ++ [nI c]) _ (by simp [hlen]) (fun q hq => by
                      rcases Nat.lt_or_ge q j with z | z
                      · rw [hXr q z, hpr q z, th_nth_app (by omega)]
                      · rw [show q = j by omega, hXj, ← hlen, th_nth_mid]) hXB
                    rw [hX.F, nI_succ] at hm
                    refine ev_cV (K := kX10_findFrom) (pc := 161) (q := 164) (hm) dX10_findFrom_161 l_X10_148 (hW _ _ rfl) rfl rfl (Nat.le_of_ble_eq_true rfl) (Nat.le_refl _) rfl rfl (fun r S1 hp => ?_)
                    obtain ⟨rfl, Y, rfl, hY1, hY2, hY3⟩ := hp
                    refine ev_iinc4 (q := 167) dX10_findFrom_164 rfl (by decide) ho5 (nI_succ c).symm ?_
                    refine ev_goto (q := 113) dX10_findFrom_167 (by decide) ?_
                    refine ic Y o5 ho5 (hX.tr hY1) (fun q hq => (hY2 q (by omega)).trans (hXr q hq)) ?_
                    rw [ccl, if_pos ⟨c130, hp138⟩, List.flatMap_append, List.foldl_append]
                    have e1 : ([nI c].flatMap (fun x => (trk (Frow V h i) (j + 1) k).map (fun t => x :: t))) = (trk (Frow V h i) (j + 1) k).map (fun t => nI c :: t) := by simp
                    rw [e1, List.foldl_map]
                    have e2 : (fun (b : th_b) (t : List Int32) => bstep h b (p ++ [nI c] ++ t)) = (fun (b : th_b) (t : List Int32) => bstep h b (p ++ nI c :: t)) := by
                      funext b t
                      rw [List.append_assoc]
                      rfl
                    rw [e2] at hY3
                    exact hY3
                  · exact absurd c141 (by decide)
                · rw [hW1.row (a := 43) (by decide)] at hp138
                  refine ev_if_ne (q := 144) (t := 147) dX10_findFrom_141 rfl (by decide) (fun c141 => ?_) (fun c141 => ?_)
                  · exact absurd rfl c141
                  · refine ev_goto (q := 164) dX10_findFrom_144 (by decide) ?_
                    exact skip (fun q => hp138 q.2)
        refine ev_iconst (q := 111) (v := 0) dX10_findFrom_110 rfl rfl ?_
        refine ev_istore4 (q := 113) dX10_findFrom_111 rfl (by decide) rfl ?_
        exact lp 0 (by decide) U none rfl hU hUr hUB
      · have eF : Frow V h i j = [-1] := if_pos c97
        refine ev_aload0 (q := 101) dX10_findFrom_100 rfl ?_
        refine ev_iload1 (q := 102) dX10_findFrom_101 rfl ?_
        refine ev_iload2 (q := 103) dX10_findFrom_102 rfl ?_
        refine ev_iload3 (q := 104) dX10_findFrom_103 rfl ?_
        refine ev_iconst (q := 105) (v := 1) dX10_findFrom_104 rfl rfl ?_
        refine ev_iadd (q := 106) dX10_findFrom_105 rfl ?_
        have hm := ih (j + 1) (by omega) U (p ++ [-1]) b (by simp [hlen]) (fun q hq => by
          rcases Nat.lt_or_ge q j with z | z
          · rw [hUr q z, hpr q z, th_nth_app (by omega)]
          · rw [show q = j by omega, hUj, ← hlen, th_nth_mid]) hUB
        rw [hU.F, nI_succ] at hm
        refine ev_cV (K := kX10_findFrom) (pc := 106) (q := 109) (hm) dX10_findFrom_106 l_X10_148 (hW _ _ rfl) rfl rfl (Nat.le_of_ble_eq_true rfl) (Nat.le_refl _) rfl rfl (fun r S1 hp => ?_)
        obtain ⟨rfl, Y, rfl, hY1, hY2, hY3⟩ := hp
        have hfin : BsR Y i ((trk (Frow V h i) j (k + 1)).foldl (fun b t => bstep h b (p ++ t)) b) := by
          rw [trk, eF]
          have e1 : ([-1].flatMap (fun x : Int32 => (trk (Frow V h i) (j + 1) k).map (fun t => x :: t))) = (trk (Frow V h i) (j + 1) k).map (fun t => (-1 : Int32) :: t) := by simp
          rw [e1, List.foldl_map]
          have e2 : (fun (b : th_b) (t : List Int32) => bstep h b (p ++ [-1] ++ t)) = (fun (b : th_b) (t : List Int32) => bstep h b (p ++ -1 :: t)) := by
            funext b t
            rw [List.append_assoc]
            rfl
          rw [e2] at hY3
          exact hY3
        exact ev_return dX10_findFrom_109 rfl ⟨rfl, Y, rfl, hU.tr hY1, fun q hq => (hY2 q (by omega)).trans (hUr q hq), hfin⟩
    · have h5 : (5 : Int32).toInt = 5 := by decide
      have h6 := Int32.toInt_inj.mpr c2
      rw [nI_toInt (by omega), h5] at h6
      omega
end M9
