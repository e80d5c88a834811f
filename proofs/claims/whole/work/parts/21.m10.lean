/-! the reference: the track of a road -/
def ob (x : Bool) (h : Int32) (j : Nat) : Int32 := cond x (h ||| ((1 : Int32) <<< (nI j &&& 31))) h
def h5 (a b c e k : Bool) : Int32 := ob k (ob e (ob c (ob b (ob a 0 0) 1) 2) 3) 4
theorem h5_bits : ∀ a b c e k : Bool, (((h5 a b c e k >>> (nI 0 &&& 31)) &&& 1 = 0) ↔ a = false) ∧ (((h5 a b c e k >>> (nI 1 &&& 31)) &&& 1 = 0) ↔ b = false) ∧ (((h5 a b c e k >>> (nI 2 &&& 31)) &&& 1 = 0) ↔ c = false) ∧ (((h5 a b c e k >>> (nI 3 &&& 31)) &&& 1 = 0) ↔ e = false) ∧ (((h5 a b c e k >>> (nI 4 &&& 31)) &&& 1 = 0) ↔ k = false) := by decide +kernel
theorem h5_low : ∀ a b c e k : Bool, 0 < (lowOf (h5 a b c e k) (fun _ => 0)).toInt ∧ (lowOf (h5 a b c e k) (fun _ => 0)).toInt ≤ 1000 := by decide +kernel
/-- a layer is held if one of its cells is -/
theorem hm_bit {f g : Nat → Int32} {k : Nat} (hk : k < 5) : ((hm f g 5 >>> (nI k &&& 31)) &&& 1 = 0) ↔ exB (f k) (g k) 16 = false := by
  have e : hm f g 5 = h5 (exB (f 0) (g 0) 16) (exB (f 1) (g 1) 16) (exB (f 2) (g 2) 16) (exB (f 3) (g 3) 16) (exB (f 4) (g 4) 16) := rfl
  have hb := h5_bits (exB (f 0) (g 0) 16) (exB (f 1) (g 1) 16) (exB (f 2) (g 2) 16) (exB (f 3) (g 3) 16) (exB (f 4) (g 4) 16)
  rw [e]
  rcases (show k = 0 ∨ k = 1 ∨ k = 2 ∨ k = 3 ∨ k = 4 by omega) with rfl | rfl | rfl | rfl | rfl
  · exact hb.1
  · exact hb.2.1
  · exact hb.2.2.1
  · exact hb.2.2.2.1
  · exact hb.2.2.2.2
theorem ms_low {h : Int32} {f g : Nat → Int32} : ∀ k, (ms h f k).1 = (ms h g k).1 ∧ (ms h f k).2.1 = (ms h g k).2.1 ∧ (ms h f k).2.2.2.1 = (ms h g k).2.2.2.1
  | 0 => ⟨rfl, rfl, rfl⟩
  | k + 1 => by
    obtain ⟨h1, h2, h3⟩ := ms_low (h := h) (f := f) (g := g) k
    rw [ms, ms]
    by_cases hc : (h >>> (nI k &&& 31)) &&& 1 = 0
    · rw [if_pos hc, if_pos hc]; exact ⟨h1, h2, h3⟩
    · rw [if_neg hc, if_neg hc]
      exact ⟨by show (ms h f k).1 + 1 = _; rw [h1], by show (ms h f k).2.1 + nI k = _; rw [h2], by show (ms h f k).2.2.2.1 + nI k * nI k = _; rw [h3]⟩
theorem lowOf_any {h : Int32} {f : Nat → Int32} : lowOf h f = lowOf h (fun _ => 0) := by
  obtain ⟨h1, h2, h3⟩ := ms_low (h := h) (f := f) (g := fun _ => 0) 5
  unfold lowOf lowQ m6a
  rw [h1, h2, h3]
theorem low_pos (f g : Nat → Int32) (row : Nat → Int32) : 0 < (lowOf (hm f g 5) row).toInt ∧ (lowOf (hm f g 5) row).toInt ≤ 1000 := by
  rw [lowOf_any]
  exact h5_low _ _ _ _ _
theorem and1 (x : Int32) : x &&& 1 = 0 ∨ x &&& 1 = 1 := by
  have h := pk_and x (m := 1) 1 (by decide)
  rcases (show x.toBitVec.toNat % 2 ^ 1 = 0 ∨ x.toBitVec.toNat % 2 ^ 1 = 1 by omega) with e | e
  · rw [e] at h; exact Or.inl h
  · rw [e] at h; exact Or.inr h
theorem ccl_ne {v sp : Int32} : ∀ c, exB v sp c = true → ccl v sp c ≠ []
  | 0, h => by simp [exB] at h
  | c + 1, h => by
    rw [ccl]
    by_cases hc : ¬ (v >>> (nI c &&& 31)) &&& 1 = 0 ∧ inSp sp c
    · rw [if_pos hc]; simp
    · rw [if_neg hc]
      rw [exB, Bool.or_eq_true] at h
      rcases h with h | h
      · exact ccl_ne c h
      · exact absurd (of_decide_eq_true h) (fun z => hc ⟨fun y => by rw [z.1] at y; exact absurd y (by decide), z.2⟩)
theorem trk_ne {F : Nat → List Int32} : ∀ k j, (∀ q, j ≤ q → q < j + k → F q ≠ []) → trk F j k ≠ []
  | 0, j, _ => by simp [trk]
  | k + 1, j, h => by
    have h1 := h j (Nat.le_refl _) (by omega)
    have h2 := trk_ne (F := F) k (j + 1) (fun q a b => h q (by omega) (by omega))
    rw [trk]
    cases hF : F j with
    | nil => exact absurd hF h1
    | cons x xs =>
      cases hT : trk F (j + 1) k with
      | nil => exact absurd hT h2
      | cons y ys => simp
theorem Frow_ne {V : th_Vl} {i q : Nat} (hq : q < 5) : Frow V (hmR V i) i q ≠ [] := by
  unfold Frow
  by_cases hc : (hmR V i >>> (nI q &&& 31)) &&& 1 = 0
  · rw [if_pos hc]; simp
  · rw [if_neg hc]
    refine ccl_ne 16 ?_
    cases he : exB (sn V q) (V 43 (5 * i + q)) 16
    · exact absurd ((hm_bit (f := sn V) (g := fun k => V 43 (5 * i + k)) hq).mpr he) hc
    · rfl
/-- the track of a road: its number above the line, below it, its cells -/
def tb (s : th_Vl) (i : Nat) : th_b := match trk (Frow s (hmR s i) i) 0 5 with
  | [] => (0, 1, [])
  | t :: ts => ts.foldl (bstep (hmR s i)) (topOf (hmR s i) (rowF t), lowOf (hmR s i) (rowF t), t)
theorem tb_fold (s : th_Vl) (i : Nat) (b : th_b) (hb : b.2.1 = 0) : (trk (Frow s (hmR s i) i) 0 5).foldl (fun b t => bstep (hmR s i) b ([] ++ t)) b = tb s i := by
  unfold tb
  have hne := trk_ne (F := Frow s (hmR s i) i) 5 0 (fun q _ hq => Frow_ne (by omega))
  cases hT : trk (Frow s (hmR s i) i) 0 5 with
  | nil => exact absurd hT hne
  | cons t ts =>
    show ts.foldl (bstep (hmR s i)) (bstep (hmR s i) b t) = _
    rw [show bstep (hmR s i) b t = (topOf (hmR s i) (rowF t), lowOf (hmR s i) (rowF t), t) from if_neg (fun z => by rw [hb] at z; exact absurd z.1 (by decide))]
theorem fold_low {h : Int32} {x : Int32} (hx : ∀ t : List Int32, lowOf h (rowF t) = x) : ∀ (ts : List (List Int32)) (b : th_b), b.2.1 = x → (ts.foldl (bstep h) b).2.1 = x
  | [], b, hb => hb
  | t :: ts, b, hb => by
    refine fold_low hx ts (bstep h b t) ?_
    unfold bstep
    by_cases hc : 0 < b.2.1.toInt ∧ b.1.toInt ≤ (topOf h (rowF t)).toInt
    · rw [if_pos hc]; exact hb
    · rw [if_neg hc]; exact hx t
theorem tb_low (s : th_Vl) (i : Nat) : (tb s i).2.1 = lowOf (hmR s i) (fun _ => 0) := by
  unfold tb
  have hne := trk_ne (F := Frow s (hmR s i) i) 5 0 (fun q _ hq => Frow_ne (by omega))
  cases hT : trk (Frow s (hmR s i) i) 0 5 with
  | nil => exact absurd hT hne
  | cons t ts => exact fold_low (fun t => lowOf_any) ts _ lowOf_any
theorem tb_pos (s : th_Vl) (i : Nat) : 0 < (tb s i).2.1.toInt ∧ (tb s i).2.1.toInt ≤ 1000 := by
  rw [tb_low]
  exact low_pos _ _ _
section M10
variable {G : th_G} {l : Launch} {d : Nat} {n : Nat} {SH : Nat → Option th_K0} {V : th_Vl}
def PT (n : Nat) (SH : Nat → Option th_K0) (i : Nat) (V : th_Vl) : Option Value → th_S → Prop := fun r S' => (litB V i = false ∧ r = some (.int 0) ∧ S' = (n, SH, V)) ∨ (litB V i = true ∧ r = some (.int 1) ∧ ∃ V', S' = (n, SH, V') ∧ frT i V V' ∧ BsR V' i (tb V i))
theorem m_findTrack (hW : wM SH) {i : Nat} (hi : i < 12) {r : Int32} (hr : r = nI i) : MT G l yX10_findTrack kX10_findTrack (d + 8) 0 0 [.ref 36, .int r] (n, SH, V) (PT n SH i V) := by
  refine MT.of (by decide) rfl rfl (n := 0) rfl (ls := [some (.ref 36), some (.int r)]) rfl ?_
  have hU : frT i V (th_w V 61 i 0) := frT.rf.w (Or.inr (Or.inr (Or.inl ⟨rfl, rfl⟩)))
  have hUB : BsR (th_w V 61 i 0) i (V 60 i, 0, [V 59 (5 * i + 0), V 59 (5 * i + 1), V 59 (5 * i + 2), V 59 (5 * i + 3), V 59 (5 * i + 4)]) := by
    refine ⟨rfl, by rw [th_w_if, if_pos ⟨rfl, rfl⟩], fun k hk => ?_⟩
    rcases (show k = 0 ∨ k = 1 ∨ k = 2 ∨ k = 3 ∨ k = 4 by omega) with rfl | rfl | rfl | rfl | rfl <;> rfl
  refine ev_aload0 (q := 1) dX10_findTrack_0 rfl ?_
  refine ev_iload1 (q := 2) dX10_findTrack_1 rfl ?_
  refine ev_cV (K := kX10_findTrack) (pc := 2) (q := 5) (m_isLit hW hi hr) dX10_findTrack_2 l_X10_139 (hW _ _ rfl) rfl rfl (Nat.le_of_ble_eq_true rfl) (Nat.le_refl _) rfl rfl (fun r S1 hp => ?_)
  rcases hp with ⟨rfl, ⟨hp2, rfl⟩ | ⟨hp2, rfl⟩⟩
  · refine ev_if_ne (q := 8) (t := 10) dX10_findTrack_5 rfl (by decide) (fun c5 => ?_) (fun c5 => ?_)
    · refine ev_aload0 (q := 11) dX10_findTrack_10 rfl ?_
      refine ev_getR (q := 14) dX10_findTrack_11 g_X10_84 (hW _ _ rfl) rfl rfl rfl ?_
      refine ev_iload1 (q := 15) dX10_findTrack_14 rfl ?_
      refine ev_iconst (q := 16) (v := 0) dX10_findTrack_15 rfl rfl ?_
      refine ev_iast (q := 17) dX10_findTrack_16 (hW _ _ rfl) hr hi (by decide) rfl ?_
      refine ev_aload0 (q := 18) dX10_findTrack_17 rfl ?_
      refine ev_iload1 (q := 19) dX10_findTrack_18 rfl ?_
      refine ev_aload0 (q := 20) dX10_findTrack_19 rfl ?_
      refine ev_iload1 (q := 21) dX10_findTrack_20 rfl ?_
      refine ev_iconst (q := 22) (v := 0) dX10_findTrack_21 rfl rfl ?_
      show EV G l kX10_findTrack _ 0 0 22 _ _ (n, SH, th_w V 61 i 0) _
      generalize th_w V 61 i 0 = U at hU hUB ⊢
      refine ev_cV (K := kX10_findTrack) (pc := 22) (q := 25) (m_heldBy hW hi hr false) dX10_findTrack_22 l_X10_135 (hW _ _ rfl) rfl rfl (Nat.le_of_ble_eq_true rfl) (Nat.le_refl _) rfl rfl (fun r S1 hp => ?_)
      obtain ⟨rfl, rfl⟩ := hp
      have eh : hmR U i = hmR V i := by
        unfold hmR
        rw [show sn U = sn V from funext hU.snE, hU.row (a := 43) (by decide)]
      have hm := m_findFrom (G := G) (l := l) (n := n) hW (d := d) hi hr (hmR U i) 5 0 rfl U [] _ rfl (fun q hq => absurd hq (Nat.not_lt_zero q)) hUB
      rw [hU.F, eh, tb_fold V i _ rfl] at hm
      refine ev_iconst (q := 26) (v := 0) dX10_findTrack_25 rfl rfl ?_
      show EV G l kX10_findTrack _ 0 0 26 _ [.int 0, .int (hmR U i), .int r, .ref 36] (n, SH, U) _
      rw [eh]
      refine ev_cV (K := kX10_findTrack) (pc := 26) (q := 29) (hm) dX10_findTrack_26 l_X10_148 (hW _ _ rfl) rfl rfl (Nat.le_of_ble_eq_true rfl) (Nat.le_refl _) rfl rfl (fun r S1 hp => ?_)
      obtain ⟨rfl, Y, rfl, hY1, hY2, hY3⟩ := hp
      refine ev_iconst (q := 30) (v := 1) dX10_findTrack_29 rfl rfl ?_
      exact ev_ireturn dX10_findTrack_30 rfl rfl (Or.inr ⟨hp2, rfl, Y, rfl, hU.tr hY1, hY3⟩)
    · exact absurd c5 (by decide)
  · refine ev_if_ne (q := 8) (t := 10) dX10_findTrack_5 rfl (by decide) (fun c5 => ?_) (fun c5 => ?_)
    · exact absurd c5 (by decide)
    · refine ev_iconst (q := 9) (v := 0) dX10_findTrack_8 rfl rfl ?_
      exact ev_ireturn dX10_findTrack_9 rfl rfl (Or.inl ⟨Bool.eq_false_iff.mpr hp2, rfl, rfl⟩)
end M10
