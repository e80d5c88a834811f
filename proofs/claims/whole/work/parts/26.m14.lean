/-! the reference: a text is read -/
/-- figures from p on, n letters at most -/
def dg (L : Nat → Int32) : Nat → Nat → Int32 → Nat × Int32
  | 0, p, x => (p, x)
  | f + 1, p, x => if isFg (L p) then dg L f (p + 1) (10 * x + L p - 48) else (p, x)
/-- a ONE (0), a BOTH (1), an ANY (2), a BOTH and an ANY under way (3, 4): what it says and where it ends; none: not within the steps -/
def evl (L : Nat → Int32) (A : Int32 → Int32 → Bool) : Nat → Nat → Bool → Nat → Option (Bool × Nat)
  | 0, _, _, _ => none
  | f + 1, 0, _, p => if 1000 < p then none else
    if L p = 33 then (evl L A f 0 false (p + 1)).map (fun q => (!q.1, q.2))
    else if L p = 40 then (evl L A f 2 false (p + 1)).map (fun q => (q.1, q.2 + 1))
    else some (A (L p) (dg L 200 (p + 1) 0).2, (dg L 200 (p + 1) 0).1)
  | f + 1, 1, _, p => (evl L A f 0 false p).bind (fun q => evl L A f 3 q.1 q.2)
  | f + 1, 2, _, p => (evl L A f 1 false p).bind (fun q => evl L A f 4 q.1 q.2)
  | f + 1, 3, b, p => if 1000 < p then none else if L p = 38 then (evl L A f 0 false (p + 1)).bind (fun q => evl L A f 3 (b && q.1) q.2) else some (b, p)
  | f + 1, _ + 4, b, p => if 1000 < p then none else if L p = 124 then (evl L A f 1 false (p + 1)).bind (fun q => evl L A f 4 (b || q.1) q.2) else some (b, p)
abbrev vat (V : th_Vl) (p : Nat) : th_Vl := th_w V 36 39 (nI p)
theorem isSum_at {V : th_Vl} {p : Nat} (c : Int32) : ∀ k, isSum (vat V p) c k = isSum V c k
  | 0 => rfl
  | k + 1 => by
    rw [isSum, isSum, isSum_at c k]
    rfl
theorem hmR_at {V : th_Vl} {p : Nat} : hmR (vat V p) = hmR V := by
  funext i
  unfold hmR
  rw [show sn (vat V p) = sn V from funext fun _ => rfl]
  rfl
theorem litB_at {V : th_Vl} {p : Nat} : litB (vat V p) = litB V := by
  funext i
  unfold litB
  rw [hmR_at]
  rfl
theorem isB_at {V : th_Vl} {p : Nat} (c m : Int32) : isB (vat V p) c m = isB V c m := by
  unfold isB
  rw [isSum_at, litB_at]
  rfl
section M14
variable {G : th_G} {l : Launch} {n : Nat} {SH : Nat → Option th_K0} {V : th_Vl}
/-- what a reading leaves -/
def PE (n : Nat) (SH : Nat → Option th_K0) (V : th_Vl) (b : Bool) (p : Nat) : Option Value → th_S → Prop := fun r S' => r = some (.int (cond b 1 0)) ∧ S' = (n, SH, vat V p)
theorem dg_le (L : Nat → Int32) : ∀ f p x, (dg L f p x).1 ≤ p + f
  | 0, p, x => Nat.le_refl _
  | f + 1, p, x => by
    rw [dg]
    split
    · have := dg_le L f (p + 1) (10 * x + L p - 48)
      omega
    · show p ≤ _
      omega
theorem dg_stop {L : Nat → Int32} {B : Nat} (hB : ∀ p, B ≤ p → ¬ isFg (L p)) : ∀ f p x, B ≤ p + f → ¬ isFg (L (dg L f p x).1)
  | 0, p, x, h => hB p (by omega)
  | f + 1, p, x, h => by
    rw [dg]
    split
    · exact dg_stop hB f (p + 1) _ (by omega)
    · assumption
theorem dg_up {L : Nat → Int32} {B : Nat} (hB : ∀ p, B ≤ p → ¬ isFg (L p)) : ∀ f p x, p ≤ B → (dg L f p x).1 ≤ B
  | 0, p, x, h => h
  | f + 1, p, x, h => by
    rw [dg]
    by_cases hc : isFg (L p)
    · rw [if_pos hc]
      exact dg_up hB f (p + 1) _ (by
        rcases Nat.lt_or_ge p B with z | z
        · omega
        · exact absurd hc (hB p z))
    · rw [if_neg hc]; exact h
theorem at_w {V : th_Vl} {p q : Nat} {x : Int32} (hx : nI p + 1 = x) (hq : nI q = x) : th_w (vat V p) 36 39 x = vat V q := by
  rw [th_w_w, ← hq]
/-- the three readers: by the steps -/
theorem m_read (hW : wM SH) (hb : bRo (res V)) {k : Nat} (hk : k < 8) (ha : V 36 38 = nI k) (hL : inR (V 47 k) 0 60) : ∀ f : Nat,
    (∀ (p : Nat) (q : Bool × Nat), evl (lt V k) (isB V) f 0 false p = some q → MT G l yX10_one kX10_one (f + 5) 0 0 [.ref 36] (n, SH, vat V p) (PE n SH V q.1 q.2)) ∧
    (∀ (p : Nat) (q : Bool × Nat), evl (lt V k) (isB V) f 1 false p = some q → MT G l yX10_both kX10_both (f + 5) 0 0 [.ref 36] (n, SH, vat V p) (PE n SH V q.1 q.2)) ∧
    (∀ (p : Nat) (q : Bool × Nat), evl (lt V k) (isB V) f 2 false p = some q → MT G l yX10_any kX10_any (f + 5) 0 0 [.ref 36] (n, SH, vat V p) (PE n SH V q.1 q.2)) ∧
    (∀ (b : Bool) (p : Nat) (q : Bool × Nat) (o : Option Value), th_c1 [o] = true → evl (lt V k) (isB V) f 3 b p = some q → EV G l kX10_both (f + 5) 0 0 5 [some (.ref 36), some (.int (cond b 1 0)), o] [] (n, SH, vat V p) (PE n SH V q.1 q.2)) ∧
    (∀ (b : Bool) (p : Nat) (q : Bool × Nat) (o : Option Value), th_c1 [o] = true → evl (lt V k) (isB V) f 4 b p = some q → EV G l kX10_any (f + 5) 0 0 5 [some (.ref 36), some (.int (cond b 1 0)), o] [] (n, SH, vat V p) (PE n SH V q.1 q.2)) := by
  have hlet : ∀ (d p : Nat), p < 2 ^ 30 → MT G l yX10_letter kX10_letter d 0 0 [.ref 36] (n, SH, vat V p) (th_is (lt V k p) (n, SH, vat V p)) := fun d p hp => m_letter hW (V := vat V p) hk ha rfl hp hL
  have hat : ∀ p : Nat, vat V p 36 39 = nI p := fun p => rfl
  intro f
  induction f with
  | zero => refine ⟨?_, ?_, ?_, ?_, ?_⟩ <;> (intros; rename_i h; simp [evl] at h)
  | succ f ih =>
    obtain ⟨i0, i1, i2, i3, i4⟩ := ih
    refine ⟨?_, ?_, ?_, ?_, ?_⟩
    · intro p q h
      rw [evl] at h
      by_cases hg : 1000 < p
      · rw [if_pos hg] at h; cases h
      · rw [if_neg hg] at h
        refine MT.of (by decide) rfl rfl (n := 2) rfl (ls := [some (.ref 36), none, none]) rfl ?_
        refine ev_aload0 (q := 1) dX10_one_0 rfl ?_
        refine ev_cV (K := kX10_one) (pc := 1) (q := 4) (hlet _ p (by omega)) dX10_one_1 l_X10_205 (hW _ _ rfl) rfl rfl (Nat.le_of_ble_eq_true rfl) (Nat.le_refl _) rfl rfl (fun r S1 hp => ?_)
        obtain ⟨rfl, rfl⟩ := hp
        refine ev_istore1 (q := 5) dX10_one_4 rfl (by decide) rfl ?_
        refine ev_aload0 (q := 6) dX10_one_5 rfl ?_
        refine ev_dup (q := 7) dX10_one_6 rfl rfl ?_
        refine ev_getI (q := 10) dX10_one_7 g_X10_195 (hW _ _ rfl) rfl rfl ?_
        refine ev_iconst (q := 11) (v := 1) dX10_one_10 rfl rfl ?_
        refine ev_iadd (q := 12) dX10_one_11 rfl ?_
        refine ev_putI (q := 15) dX10_one_12 (p_X10_195 _) (hW _ _ rfl) rfl rfl rfl rfl ?_
        refine ev_iload1 (q := 16) dX10_one_15 rfl ?_
        refine ev_bipush (q := 18) (v := 33) dX10_one_16 rfl rfl ?_
        show EV G l kX10_one _ 0 0 18 _ _ (n, SH, th_w (vat V p) 36 39 (vat V p 36 39 + 1)) _
        rw [hat, at_w rfl (nI_succ p)]
        refine ev_icmp_ne (q := 21) (t := 34) dX10_one_18 rfl (by decide) (fun c18 => ?_) (fun c18 => ?_)
        · rw [if_neg c18] at h
          refine ev_iload1 (q := 35) dX10_one_34 rfl ?_
          refine ev_bipush (q := 37) (v := 40) dX10_one_35 rfl rfl ?_
          refine ev_icmp_ne (q := 40) (t := 57) dX10_one_37 rfl (by decide) (fun c37 => ?_) (fun c37 => ?_)
          · rw [if_neg c37] at h
            cases h
            have lp : ∀ (m pp : Nat) (x : Int32), pp ≤ 1001 + (200 - m) → m ≤ 200 → ix (V 47 k) ≤ pp + m → EV G l kX10_one (f + 1 + 5) 0 0 59 [some (.ref 36), some (.int (lt V k p)), some (.int x)] [] (n, SH, vat V pp) (PE n SH V (isB V (lt V k p) (dg (lt V k) m pp x).2) (dg (lt V k) m pp x).1) := by
              have hnf : ∀ pp, ix (V 47 k) ≤ pp → ¬ isFg (lt V k pp) := fun pp hh z => by
                rw [lt, if_neg (by omega)] at z
                exact absurd z.1 (by decide)
              have hend : ∀ (pp : Nat) (x : Int32), pp < 2 ^ 30 → ¬ isFg (lt V k pp) → EV G l kX10_one (f + 1 + 5) 0 0 59 [some (.ref 36), some (.int (lt V k p)), some (.int x)] [] (n, SH, vat V pp) (PE n SH V (isB V (lt V k p) x) pp) := by
                intro pp x hpp hf
                refine ev_aload0 (q := 60) dX10_one_59 rfl ?_
                refine ev_cV (K := kX10_one) (pc := 60) (q := 63) (hlet _ pp hpp) dX10_one_60 l_X10_205 (hW _ _ rfl) rfl rfl (Nat.le_of_ble_eq_true rfl) (Nat.le_refl _) rfl rfl (fun r S1 hp => ?_)
                obtain ⟨rfl, rfl⟩ := hp
                refine ev_cS (K := kX10_one) (pc := 63) (q := 66) (m_isFigure _) dX10_one_63 l_X10_181 rfl (Nat.le_of_ble_eq_true rfl) (Nat.le_refl _) rfl rfl (fun r S1 hp => ?_)
                rcases hp with ⟨rfl, ⟨hp63, rfl⟩ | ⟨hp63, rfl⟩⟩
                · exact absurd hp63 hf
                · refine ev_if_eq (q := 69) (t := 95) dX10_one_66 rfl (by decide) (fun c66 => ?_) (fun c66 => ?_)
                  · refine ev_aload0 (q := 96) dX10_one_95 rfl ?_
                    refine ev_iload1 (q := 97) dX10_one_96 rfl ?_
                    refine ev_iload2 (q := 98) dX10_one_97 rfl ?_
                    refine ev_cV (K := kX10_one) (pc := 98) (q := 101) (m_is (d := f + 1) (V := vat V pp) hW hb _ _) dX10_one_98 l_X10_214 (hW _ _ rfl) rfl rfl (Nat.le_of_ble_eq_true rfl) (Nat.le_refl _) rfl rfl (fun r S1 hp => ?_)
                    rcases hp with ⟨rfl, ⟨hp98, rfl⟩ | ⟨hp98, rfl⟩⟩
                    · rw [isB_at] at hp98
                      exact ev_ireturn dX10_one_101 rfl rfl ⟨by rw [hp98]; rfl, rfl⟩
                    · rw [isB_at] at hp98
                      exact ev_ireturn dX10_one_101 rfl rfl ⟨by rw [Bool.eq_false_iff.mpr hp98]; rfl, rfl⟩
                  · exact absurd rfl c66
              intro m
              induction m with
              | zero =>
                intro pp x h1 h2 h3
                exact hend pp x (by omega) (hnf pp (by omega))
              | succ m im =>
                intro pp x h1 h2 h3
                rw [dg]
                by_cases hf : isFg (lt V k pp)
                · rw [if_pos hf]
                  refine ev_aload0 (q := 60) dX10_one_59 rfl ?_
                  refine ev_cV (K := kX10_one) (pc := 60) (q := 63) (hlet _ pp (by omega)) dX10_one_60 l_X10_205 (hW _ _ rfl) rfl rfl (Nat.le_of_ble_eq_true rfl) (Nat.le_refl _) rfl rfl (fun r S1 hp => ?_)
                  obtain ⟨rfl, rfl⟩ := hp
                  refine ev_cS (K := kX10_one) (pc := 63) (q := 66) (m_isFigure _) dX10_one_63 l_X10_181 rfl (Nat.le_of_ble_eq_true rfl) (Nat.le_refl _) rfl rfl (fun r S1 hp => ?_)
                  rcases hp with ⟨rfl, ⟨hp63, rfl⟩ | ⟨hp63, rfl⟩⟩
                  · refine ev_if_eq (q := 69) (t := 95) dX10_one_66 rfl (by decide) (fun c66 => ?_) (fun c66 => ?_)
                    · exact absurd c66 (by decide)
                    · refine ev_bipush (q := 71) (v := 10) dX10_one_69 rfl rfl ?_
                      refine ev_iload2 (q := 72) dX10_one_71 rfl ?_
                      refine ev_imul (q := 73) dX10_one_72 rfl ?_
                      refine ev_aload0 (q := 74) dX10_one_73 rfl ?_
                      refine ev_cV (K := kX10_one) (pc := 74) (q := 77) (hlet _ pp (by omega)) dX10_one_74 l_X10_205 (hW _ _ rfl) rfl rfl (Nat.le_of_ble_eq_true rfl) (Nat.le_refl _) rfl rfl (fun r S1 hp => ?_)
                      obtain ⟨rfl, rfl⟩ := hp
                      refine ev_iadd (q := 78) dX10_one_77 rfl ?_
                      refine ev_bipush (q := 80) (v := 48) dX10_one_78 rfl rfl ?_
                      refine ev_isub (q := 81) dX10_one_80 rfl ?_
                      refine ev_istore2 (q := 82) dX10_one_81 rfl (by decide) rfl ?_
                      refine ev_aload0 (q := 83) dX10_one_82 rfl ?_
                      refine ev_dup (q := 84) dX10_one_83 rfl rfl ?_
                      refine ev_getI (q := 87) dX10_one_84 g_X10_195 (hW _ _ rfl) rfl rfl ?_
                      refine ev_iconst (q := 88) (v := 1) dX10_one_87 rfl rfl ?_
                      refine ev_iadd (q := 89) dX10_one_88 rfl ?_
                      refine ev_putI (q := 92) dX10_one_89 (p_X10_195 _) (hW _ _ rfl) rfl rfl rfl rfl ?_
                      refine ev_goto (q := 59) dX10_one_92 (by decide) ?_
                      show EV G l kX10_one _ 0 0 59 _ _ (n, SH, th_w (vat V pp) 36 39 (vat V pp 36 39 + 1)) _
                      rw [hat, at_w rfl (nI_succ pp)]
                      exact im (pp + 1) _ (by omega) (by omega) (by omega)
                  · exact absurd hf hp63
                · rw [if_neg hf]
                  exact hend pp x (by omega) hf
            have h60 := hL.2
            have hLi := th_ixI hL.1
            refine ev_iconst (q := 58) (v := 0) dX10_one_57 rfl rfl ?_
            refine ev_istore2 (q := 59) dX10_one_58 rfl (by decide) rfl ?_
            exact lp 200 (p + 1) 0 (by omega) (by omega) (by omega)
          · rw [if_pos c37, Option.map_eq_some_iff] at h
            obtain ⟨q', h1, rfl⟩ := h
            refine ev_aload0 (q := 41) dX10_one_40 rfl ?_
            refine ev_cV (K := kX10_one) (pc := 41) (q := 44) (i2 (p + 1) q' h1) dX10_one_41 l_X10_211 (hW _ _ rfl) rfl rfl (Nat.le_of_ble_eq_true rfl) (Nat.le_refl _) rfl rfl (fun r S1 hp => ?_)
            obtain ⟨rfl, rfl⟩ := hp
            refine ev_istore2 (q := 45) dX10_one_44 rfl (by decide) rfl ?_
            refine ev_aload0 (q := 46) dX10_one_45 rfl ?_
            refine ev_dup (q := 47) dX10_one_46 rfl rfl ?_
            refine ev_getI (q := 50) dX10_one_47 g_X10_195 (hW _ _ rfl) rfl rfl ?_
            refine ev_iconst (q := 51) (v := 1) dX10_one_50 rfl rfl ?_
            refine ev_iadd (q := 52) dX10_one_51 rfl ?_
            refine ev_putI (q := 55) dX10_one_52 (p_X10_195 _) (hW _ _ rfl) rfl rfl rfl rfl ?_
            refine ev_iload2 (q := 56) dX10_one_55 rfl ?_
            show EV G l kX10_one _ 0 0 56 _ _ (n, SH, th_w (vat V q'.2) 36 39 (vat V q'.2 36 39 + 1)) _
            rw [hat, at_w rfl (nI_succ q'.2)]
            cases hq : q'.1
            · exact ev_ireturn dX10_one_56 rfl rfl ⟨rfl, rfl⟩
            · exact ev_ireturn dX10_one_56 rfl rfl ⟨rfl, rfl⟩
        · rw [if_pos c18, Option.map_eq_some_iff] at h
          obtain ⟨q', h1, rfl⟩ := h
          refine ev_aload0 (q := 22) dX10_one_21 rfl ?_
          refine ev_cV (K := kX10_one) (pc := 22) (q := 25) (i0 (p + 1) q' h1) dX10_one_22 l_X10_208 (hW _ _ rfl) rfl rfl (Nat.le_of_ble_eq_true rfl) (Nat.le_refl _) rfl rfl (fun r S1 hp => ?_)
          obtain ⟨rfl, rfl⟩ := hp
          cases hq : q'.1
          · refine ev_if_ne (q := 28) (t := 32) dX10_one_25 rfl (by decide) (fun c25 => ?_) (fun c25 => ?_)
            · exact absurd rfl c25
            · refine ev_iconst (q := 29) (v := 1) dX10_one_28 rfl rfl ?_
              refine ev_goto (q := 33) dX10_one_29 (by decide) ?_
              exact ev_ireturn dX10_one_33 rfl rfl ⟨rfl, rfl⟩
          · refine ev_if_ne (q := 28) (t := 32) dX10_one_25 rfl (by decide) (fun c25 => ?_) (fun c25 => ?_)
            · refine ev_iconst (q := 33) (v := 0) dX10_one_32 rfl rfl ?_
              exact ev_ireturn dX10_one_33 rfl rfl ⟨rfl, rfl⟩
            · exact absurd c25 (by decide)
    · intro p q h
      rw [evl, Option.bind_eq_some_iff] at h
      obtain ⟨q', h1, h2⟩ := h
      refine MT.of (by decide) rfl rfl (n := 2) rfl (ls := [some (.ref 36), none, none]) rfl ?_
      refine ev_aload0 (q := 1) dX10_both_0 rfl ?_
      refine ev_cV (K := kX10_both) (pc := 1) (q := 4) (i0 p q' h1) dX10_both_1 l_X10_208 (hW _ _ rfl) rfl rfl (Nat.le_of_ble_eq_true rfl) (Nat.le_refl _) rfl rfl (fun r S1 hp => ?_)
      obtain ⟨rfl, rfl⟩ := hp
      refine ev_istore1 (q := 5) dX10_both_4 rfl (by decide) rfl ?_
      exact (i3 q'.1 q'.2 q none rfl h2).deep (by omega)
    · intro p q h
      rw [evl, Option.bind_eq_some_iff] at h
      obtain ⟨q', h1, h2⟩ := h
      refine MT.of (by decide) rfl rfl (n := 2) rfl (ls := [some (.ref 36), none, none]) rfl ?_
      refine ev_aload0 (q := 1) dX10_any_0 rfl ?_
      refine ev_cV (K := kX10_any) (pc := 1) (q := 4) (i1 p q' h1) dX10_any_1 l_X10_201 (hW _ _ rfl) rfl rfl (Nat.le_of_ble_eq_true rfl) (Nat.le_refl _) rfl rfl (fun r S1 hp => ?_)
      obtain ⟨rfl, rfl⟩ := hp
      refine ev_istore1 (q := 5) dX10_any_4 rfl (by decide) rfl ?_
      exact (i4 q'.1 q'.2 q none rfl h2).deep (by omega)
    · intro b p q o ho h
      rw [evl] at h
      by_cases hg : 1000 < p
      · rw [if_pos hg] at h; cases h
      · rw [if_neg hg] at h
        refine ev_aload0 (q := 6) dX10_both_5 rfl ?_
        refine ev_cV (K := kX10_both) (pc := 6) (q := 9) (hlet _ p (by omega)) dX10_both_6 l_X10_205 (hW _ _ rfl) rfl rfl (Nat.le_of_ble_eq_true rfl) (Nat.le_refl _) rfl rfl (fun r S1 hp => ?_)
        obtain ⟨rfl, rfl⟩ := hp
        refine ev_bipush (q := 11) (v := 38) dX10_both_9 rfl rfl ?_
        refine ev_icmp_ne (q := 14) (t := 46) dX10_both_11 rfl (by decide) (fun c11 => ?_) (fun c11 => ?_)
        · rw [if_neg c11] at h
          cases h
          refine ev_iload1 (q := 47) dX10_both_46 rfl ?_
          cases b
          · exact ev_ireturn dX10_both_47 rfl rfl ⟨rfl, rfl⟩
          · exact ev_ireturn dX10_both_47 rfl rfl ⟨rfl, rfl⟩
        · rw [if_pos c11, Option.bind_eq_some_iff] at h
          obtain ⟨q', h1, h2⟩ := h
          refine ev_aload0 (q := 15) dX10_both_14 rfl ?_
          refine ev_dup (q := 16) dX10_both_15 rfl rfl ?_
          refine ev_getI (q := 19) dX10_both_16 g_X10_195 (hW _ _ rfl) rfl rfl ?_
          refine ev_iconst (q := 20) (v := 1) dX10_both_19 rfl rfl ?_
          refine ev_iadd (q := 21) dX10_both_20 rfl ?_
          refine ev_putI (q := 24) dX10_both_21 (p_X10_195 _) (hW _ _ rfl) rfl rfl rfl rfl ?_
          refine ev_aload0 (q := 25) dX10_both_24 rfl ?_
          show EV G l kX10_both _ 0 0 25 _ _ (n, SH, th_w (vat V p) 36 39 (vat V p 36 39 + 1)) _
          rw [hat, at_w rfl (nI_succ p)]
          refine ev_cV (K := kX10_both) (pc := 25) (q := 28) (i0 (p + 1) q' h1) dX10_both_25 l_X10_208 (hW _ _ rfl) rfl rfl (Nat.le_of_ble_eq_true rfl) (Nat.le_refl _) rfl rfl (fun r S1 hp => ?_)
          obtain ⟨rfl, rfl⟩ := hp
          have fin := fun o1 ho1 => (i3 (b && q'.1) q'.2 q o1 ho1 h2).deep (show f + 5 ≤ f + 1 + 5 by omega)
          refine ev_istore2 (q := 29) dX10_both_28 rfl (by decide) ho ?_
          refine ev_iload1 (q := 30) dX10_both_29 rfl ?_
          cases b
          · rw [Bool.false_and] at fin
            refine ev_if_eq (q := 33) (t := 41) dX10_both_30 rfl (by decide) (fun c30 => ?_) (fun c30 => ?_)
            · refine ev_iconst (q := 42) (v := 0) dX10_both_41 rfl rfl ?_
              refine ev_istore1 (q := 43) dX10_both_42 rfl (by decide) rfl ?_
              refine ev_goto (q := 5) dX10_both_43 (by decide) ?_
              exact fin _ rfl
            · exact absurd rfl c30
          · rw [Bool.true_and] at fin
            refine ev_if_eq (q := 33) (t := 41) dX10_both_30 rfl (by decide) (fun c30 => ?_) (fun c30 => ?_)
            · exact absurd c30 (by decide)
            · cases hq : q'.1
              · rw [hq] at fin
                refine ev_iload2 (q := 34) dX10_both_33 rfl ?_
                refine ev_if_eq (q := 37) (t := 41) dX10_both_34 rfl (by decide) (fun c34 => ?_) (fun c34 => ?_)
                · refine ev_iconst (q := 42) (v := 0) dX10_both_41 rfl rfl ?_
                  refine ev_istore1 (q := 43) dX10_both_42 rfl (by decide) rfl ?_
                  refine ev_goto (q := 5) dX10_both_43 (by decide) ?_
                  exact fin _ rfl
                · exact absurd rfl c34
              · rw [hq] at fin
                refine ev_iload2 (q := 34) dX10_both_33 rfl ?_
                refine ev_if_eq (q := 37) (t := 41) dX10_both_34 rfl (by decide) (fun c34 => ?_) (fun c34 => ?_)
                · exact absurd c34 (by decide)
                · refine ev_iconst (q := 38) (v := 1) dX10_both_37 rfl rfl ?_
                  refine ev_goto (q := 42) dX10_both_38 (by decide) ?_
                  refine ev_istore1 (q := 43) dX10_both_42 rfl (by decide) rfl ?_
                  refine ev_goto (q := 5) dX10_both_43 (by decide) ?_
                  exact fin _ rfl
    · intro b p q o ho h
      rw [evl] at h
      by_cases hg : 1000 < p
      · rw [if_pos hg] at h; cases h
      · rw [if_neg hg] at h
        refine ev_aload0 (q := 6) dX10_any_5 rfl ?_
        refine ev_cV (K := kX10_any) (pc := 6) (q := 9) (hlet _ p (by omega)) dX10_any_6 l_X10_205 (hW _ _ rfl) rfl rfl (Nat.le_of_ble_eq_true rfl) (Nat.le_refl _) rfl rfl (fun r S1 hp => ?_)
        obtain ⟨rfl, rfl⟩ := hp
        refine ev_bipush (q := 11) (v := 124) dX10_any_9 rfl rfl ?_
        refine ev_icmp_ne (q := 14) (t := 46) dX10_any_11 rfl (by decide) (fun c11 => ?_) (fun c11 => ?_)
        · rw [if_neg c11] at h
          cases h
          refine ev_iload1 (q := 47) dX10_any_46 rfl ?_
          cases b
          · exact ev_ireturn dX10_any_47 rfl rfl ⟨rfl, rfl⟩
          · exact ev_ireturn dX10_any_47 rfl rfl ⟨rfl, rfl⟩
        · rw [if_pos c11, Option.bind_eq_some_iff] at h
          obtain ⟨q', h1, h2⟩ := h
          refine ev_aload0 (q := 15) dX10_any_14 rfl ?_
          refine ev_dup (q := 16) dX10_any_15 rfl rfl ?_
          refine ev_getI (q := 19) dX10_any_16 g_X10_195 (hW _ _ rfl) rfl rfl ?_
          refine ev_iconst (q := 20) (v := 1) dX10_any_19 rfl rfl ?_
          refine ev_iadd (q := 21) dX10_any_20 rfl ?_
          refine ev_putI (q := 24) dX10_any_21 (p_X10_195 _) (hW _ _ rfl) rfl rfl rfl rfl ?_
          refine ev_aload0 (q := 25) dX10_any_24 rfl ?_
          show EV G l kX10_any _ 0 0 25 _ _ (n, SH, th_w (vat V p) 36 39 (vat V p 36 39 + 1)) _
          rw [hat, at_w rfl (nI_succ p)]
          refine ev_cV (K := kX10_any) (pc := 25) (q := 28) (i1 (p + 1) q' h1) dX10_any_25 l_X10_201 (hW _ _ rfl) rfl rfl (Nat.le_of_ble_eq_true rfl) (Nat.le_refl _) rfl rfl (fun r S1 hp => ?_)
          obtain ⟨rfl, rfl⟩ := hp
          have fin := fun o1 ho1 => (i4 (b || q'.1) q'.2 q o1 ho1 h2).deep (show f + 5 ≤ f + 1 + 5 by omega)
          refine ev_istore2 (q := 29) dX10_any_28 rfl (by decide) ho ?_
          refine ev_iload1 (q := 30) dX10_any_29 rfl ?_
          cases b
          · rw [Bool.false_or] at fin
            refine ev_if_ne (q := 33) (t := 37) dX10_any_30 rfl (by decide) (fun c30 => ?_) (fun c30 => ?_)
            · exact absurd rfl c30
            · cases hq : q'.1
              · rw [hq] at fin
                refine ev_iload2 (q := 34) dX10_any_33 rfl ?_
                refine ev_if_eq (q := 37) (t := 41) dX10_any_34 rfl (by decide) (fun c34 => ?_) (fun c34 => ?_)
                · refine ev_iconst (q := 42) (v := 0) dX10_any_41 rfl rfl ?_
                  refine ev_istore1 (q := 43) dX10_any_42 rfl (by decide) rfl ?_
                  refine ev_goto (q := 5) dX10_any_43 (by decide) ?_
                  exact fin _ rfl
                · exact absurd rfl c34
              · rw [hq] at fin
                refine ev_iload2 (q := 34) dX10_any_33 rfl ?_
                refine ev_if_eq (q := 37) (t := 41) dX10_any_34 rfl (by decide) (fun c34 => ?_) (fun c34 => ?_)
                · exact absurd c34 (by decide)
                · refine ev_iconst (q := 38) (v := 1) dX10_any_37 rfl rfl ?_
                  refine ev_goto (q := 42) dX10_any_38 (by decide) ?_
                  refine ev_istore1 (q := 43) dX10_any_42 rfl (by decide) rfl ?_
                  refine ev_goto (q := 5) dX10_any_43 (by decide) ?_
                  exact fin _ rfl
          · rw [Bool.true_or] at fin
            refine ev_if_ne (q := 33) (t := 37) dX10_any_30 rfl (by decide) (fun c30 => ?_) (fun c30 => ?_)
            · refine ev_iconst (q := 38) (v := 1) dX10_any_37 rfl rfl ?_
              refine ev_goto (q := 42) dX10_any_38 (by decide) ?_
              refine ev_istore1 (q := 43) dX10_any_42 rfl (by decide) rfl ?_
              refine ev_goto (q := 5) dX10_any_43 (by decide) ?_
              exact fin _ rfl
            · exact absurd c30 (by decide)
end M14
