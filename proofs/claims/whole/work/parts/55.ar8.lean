/-! numbers: the first fault, by the class's way and by the reference's -/
theorem popB_pop : ∀ st, popB (popB st) = popB st
  | [] => rfl
  | c :: r => by
    rw [popB]
    by_cases h : c = 33
    · rw [if_pos h]; exact popB_pop r
    · rw [if_neg h, popB, if_neg h]
theorem popB_33 (st : List Int32) : popB (33 :: st) = popB st := by rw [popB, if_pos rfl]
theorem popB_40 (st : List Int32) : popB (40 :: st) = 40 :: st := by rw [popB, if_neg (by decide)]
section A8
variable {L T : Nat → Int32} {A : Int32 → Int32 → Bool} {len : Nat}
theorem fgN_dg (hL : ∀ p, len ≤ p → L p = 0) (hT : ∀ p, p < len → L p = T p) : ∀ f p x, (dg L f p x).1 = p + fgN T len f p
  | 0, p, x => rfl
  | f + 1, p, x => by
    have key : isFg (L p) ↔ (p < len ∧ isFg (T p)) := by
      constructor
      · intro h
        have := fg_lt hL h
        exact ⟨this, by rw [← hT p this]; exact h⟩
      · rintro ⟨h1, h2⟩
        rw [hT p h1]; exact h2
    rw [dg, fgN]
    by_cases h : isFg (L p)
    · rw [if_pos h, if_pos (key.mp h), fgN_dg hL hT f (p + 1)]
      omega
    · rw [if_neg h, if_neg (fun z => h (key.mpr z))]
      rfl
theorem fl_stop {g p : Nat} {st : List Int32} (hT : ∀ p, p < len → L p = T p) (hp : p ≤ len) (h1 : ¬ L p = 124) (h2 : ¬ L p = 38) (h3 : ¬ L p = 41) (hg : len + 1 ≤ g + p) (hs : 0 < st.length ∨ p < len) : flt T len g p st false = nI p := by
  obtain ⟨g, rfl⟩ : ∃ k, g = k + 1 := ⟨g - 1, by omega⟩
  rw [flt]
  by_cases hlt : p < len
  · rw [hT p hlt] at h1 h2 h3
    rw [if_pos hlt, if_neg (fun z => by cases z.1), if_neg (fun z => by cases z), if_neg (fun z => z.elim h1 h2), if_neg (fun z => h3 z.1)]
  · rw [if_neg hlt, if_pos (Or.inr (by omega)), show p = len by omega]
theorem prs_flt (hL : ∀ p, len ≤ p → L p = 0) (hT : ∀ p, p < len → L p = T p) : ∀ f m o b p t q ok (st : List Int32), p ≤ len → st.length = o → o ≤ 20 → prs L A f m o b p = some (t, q, ok) → ∀ g, len + 1 ≤ g + p →
    (m = 0 → (ok = true → ∃ g', len + 1 ≤ g' + q ∧ flt T len g p st true = flt T len g' q (popB st) false) ∧ (ok = false → flt T len g p st true = nI q)) ∧
    (m = 1 → popB st = st → (ok = true → ∃ g', len + 1 ≤ g' + q ∧ flt T len g p st true = flt T len g' q st false ∧ ¬ L q = 38) ∧ (ok = false → flt T len g p st true = nI q)) ∧
    (m = 2 → popB st = st → (ok = true → ∃ g', len + 1 ≤ g' + q ∧ flt T len g p st true = flt T len g' q st false ∧ ¬ L q = 38 ∧ ¬ L q = 124) ∧ (ok = false → flt T len g p st true = nI q)) ∧
    (m = 3 → popB st = st → (ok = true → ∃ g', len + 1 ≤ g' + q ∧ flt T len g p st false = flt T len g' q st false ∧ ¬ L q = 38) ∧ (ok = false → flt T len g p st false = nI q)) ∧
    (4 ≤ m → popB st = st → ¬ L p = 38 → (ok = true → ∃ g', len + 1 ≤ g' + q ∧ flt T len g p st false = flt T len g' q st false ∧ ¬ L q = 38 ∧ ¬ L q = 124) ∧ (ok = false → flt T len g p st false = nI q)) := by
  intro f
  induction f with
  | zero => intro m o b p t q ok st _ _ _ h; simp [prs] at h
  | succ f ih =>
    intro m o b p t q ok st hp hst ho h g hg
    obtain ⟨g, rfl⟩ : ∃ k, g = k + 1 := ⟨g - 1, by omega⟩
    match m, h with
    | 0, h =>
      refine ⟨fun _ => ?_, fun z => (by cases z), fun z => (by cases z), fun z => (by cases z), fun z => (by omega)⟩
      rw [prs] at h
      by_cases hc : L p = 33 ∨ L p = 40
      · rw [if_pos hc] at h
        have hlt : p < len := by rcases hc with hc | hc <;> exact L_lt hL hc (by decide)
        have hTc : T p = 33 ∨ T p = 40 := by rw [← hT p hlt]; exact hc
        rw [flt, if_pos hlt, if_pos ⟨rfl, hTc⟩]
        by_cases ho20 : 20 ≤ o
        · rw [if_pos ho20] at h
          rw [if_pos (by omega)]
          cases h
          exact ⟨fun z => (by cases z), fun _ => rfl⟩
        · rw [if_neg ho20] at h
          rw [if_neg (by omega), ← hT p hlt]
          by_cases h33 : L p = 33
          · rw [if_pos h33] at h
            rw [h33]
            cases hq : prs L A f 0 (o + 1) false (p + 1) with
            | none => rw [hq] at h; cases h
            | some r =>
              rw [hq] at h
              obtain ⟨r1, r2, r3⟩ := r
              have h : some (!r1, r2, r3) = some (t, q, ok) := h
              cases h
              have := (ih _ _ _ _ _ _ _ (33 :: st) hlt (by simp [hst]) (by omega) hq g (by omega)).1 rfl
              rw [popB_33] at this
              exact this
          · rw [if_neg h33] at h
            have h40 : L p = 40 := hc.resolve_left h33
            rw [h40]
            cases hq : prs L A f 2 (o + 1) false (p + 1) with
            | none => rw [hq] at h; cases h
            | some r =>
              rw [hq] at h
              obtain ⟨r1, r2, r3⟩ := r
              have hle := prs_le hL _ _ _ _ _ _ _ _ hlt hq
              have h : (if r3 = true then (if L r2 = 41 then some (r1, r2 + 1, true) else some (false, r2, false)) else some (r1, r2, r3)) = some (t, q, ok) := h
              have hi := (ih _ _ _ _ _ _ _ (40 :: st) hlt (by simp [hst]) (by omega) hq g (by omega)).2.2.1 rfl (popB_40 st)
              by_cases hk : r3 = true
              · rw [if_pos hk] at h
                obtain ⟨g', w1, w2, w3, w4⟩ := hi.1 hk
                rw [w2]
                by_cases h41 : L r2 = 41
                · rw [if_pos h41] at h
                  cases h
                  have hlt2 := L_lt hL h41 (by decide)
                  have hT41 : T r2 = 41 := by rw [← hT r2 hlt2]; exact h41
                  obtain ⟨g', rfl⟩ : ∃ k, g' = k + 1 := ⟨g' - 1, by omega⟩
                  refine ⟨fun _ => ⟨g', by omega, ?_⟩, fun z => (by cases z)⟩
                  rw [flt, if_pos hlt2, if_neg (fun z => by cases z.1), if_neg (fun z => by cases z), hT41, if_neg (by decide), if_pos ⟨rfl, by simp⟩]
                  rfl
                · rw [if_neg h41] at h
                  cases h
                  exact ⟨fun z => (by cases z), fun _ => fl_stop hT hle.2.1 w4 w3 h41 w1 (Or.inl (by simp))⟩
              · rw [if_neg hk] at h
                cases h
                exact ⟨fun z => absurd z hk, fun z => hi.2 z⟩
      · rw [if_neg hc] at h
        by_cases hn : isNm (L p)
        · rw [if_pos hn] at h
          have hlt := nm_lt hL hn
          have hTc : ¬ (T p = 33 ∨ T p = 40) := by rw [← hT p hlt]; exact hc
          have hTn : isNm (T p) := by rw [← hT p hlt]; exact hn
          have hd := fgN_dg hL hT 3 (p + 1) 0
          rw [flt, if_pos hlt, if_neg (fun z => hTc z.2), if_pos rfl, if_pos hTn]
          by_cases hf : isFg (L (p + 1))
          · rw [if_neg (not_not_intro hf)] at h
            have hgt := dg_gt (x := 0) hf
            rw [if_neg (by omega), ← hd]
            have hdl := dg_len hL 3 (p + 1) 0 (by omega)
            by_cases hf4 : isFg (L (dg L 3 (p + 1) 0).1)
            · rw [if_pos hf4] at h
              cases h
              refine ⟨fun z => (by cases z), fun _ => fl_stop hT hdl ?_ ?_ ?_ (by omega) (Or.inr (fg_lt hL hf4))⟩
              · intro z; rw [z] at hf4; exact absurd hf4 (by decide)
              · intro z; rw [z] at hf4; exact absurd hf4 (by decide)
              · intro z; rw [z] at hf4; exact absurd hf4 (by decide)
            · rw [if_neg hf4] at h
              cases h
              exact ⟨fun _ => ⟨g, by omega, rfl⟩, fun z => (by cases z)⟩
          · rw [if_pos hf] at h
            cases h
            have e : (dg L 3 (p + 1) 0).1 = p + 1 := by rw [dg, if_neg hf]
            rw [if_pos (by omega)]
            exact ⟨fun z => (by cases z), fun _ => rfl⟩
        · rw [if_neg hn] at h
          cases h
          refine ⟨fun z => (by cases z), fun _ => ?_⟩
          rw [flt]
          by_cases hlt : p < len
          · have hTc : ¬ (T p = 33 ∨ T p = 40) := by rw [← hT p hlt]; exact hc
            have hTn : ¬ isNm (T p) := by rw [← hT p hlt]; exact hn
            rw [if_pos hlt, if_neg (fun z => hTc z.2), if_pos rfl, if_neg hTn]
          · rw [if_neg hlt, if_pos (Or.inl rfl), show p = len by omega]
    | 1, h =>
      refine ⟨fun z => (by cases z), fun _ hpop => ?_, fun z => (by cases z), fun z => (by cases z), fun z => (by omega)⟩
      rw [prs] at h
      cases hq : prs L A f 0 o false p with
      | none => rw [hq] at h; cases h
      | some r =>
        rw [hq] at h
        obtain ⟨r1, r2, r3⟩ := r
        have hle := prs_le hL _ _ _ _ _ _ _ _ hp hq
        have hi := (ih _ _ _ _ _ _ _ st hp hst ho hq (g + 1) hg).1 rfl
        have h : (if r3 = true then prs L A f 3 o r1 r2 else some (r1, r2, r3)) = some (t, q, ok) := h
        by_cases hk : r3 = true
        · rw [if_pos hk] at h
          obtain ⟨g', w1, w2⟩ := hi.1 hk
          rw [w2, hpop]
          exact (ih _ _ _ _ _ _ _ st hle.2.1 hst ho h g' w1).2.2.2.1 rfl hpop
        · rw [if_neg hk] at h
          cases h
          exact ⟨fun z => absurd z hk, fun z => hi.2 z⟩
    | 2, h =>
      refine ⟨fun z => (by cases z), fun z => (by cases z), fun _ hpop => ?_, fun z => (by cases z), fun z => (by omega)⟩
      rw [prs] at h
      cases hq : prs L A f 1 o false p with
      | none => rw [hq] at h; cases h
      | some r =>
        rw [hq] at h
        obtain ⟨r1, r2, r3⟩ := r
        have hle := prs_le hL _ _ _ _ _ _ _ _ hp hq
        have hi := (ih _ _ _ _ _ _ _ st hp hst ho hq (g + 1) hg).2.1 rfl hpop
        have h : (if r3 = true then prs L A f 4 o r1 r2 else some (r1, r2, r3)) = some (t, q, ok) := h
        by_cases hk : r3 = true
        · rw [if_pos hk] at h
          obtain ⟨g', w1, w2, w3⟩ := hi.1 hk
          rw [w2]
          exact (ih _ _ _ _ _ _ _ st hle.2.1 hst ho h g' w1).2.2.2.2 (by decide) hpop w3
        · rw [if_neg hk] at h
          cases h
          exact ⟨fun z => absurd z hk, fun z => hi.2 z⟩
    | 3, h =>
      refine ⟨fun z => (by cases z), fun z => (by cases z), fun z => (by cases z), fun _ hpop => ?_, fun z => (by omega)⟩
      rw [prs] at h
      by_cases hc : L p = 38
      · rw [if_pos hc] at h
        have hlt := L_lt hL hc (by decide)
        have hTc : T p = 38 := by rw [← hT p hlt]; exact hc
        rw [flt, if_pos hlt, if_neg (fun z => by cases z.1), if_neg (fun z => by cases z), if_pos (Or.inr hTc)]
        cases hq : prs L A f 0 o false (p + 1) with
        | none => rw [hq] at h; cases h
        | some r =>
          rw [hq] at h
          obtain ⟨r1, r2, r3⟩ := r
          have hle := prs_le hL _ _ _ _ _ _ _ _ hlt hq
          have hi := (ih _ _ _ _ _ _ _ st hlt hst ho hq g (by omega)).1 rfl
          have h : (if r3 = true then prs L A f 3 o (b && r1) r2 else some (r1, r2, r3)) = some (t, q, ok) := h
          by_cases hk : r3 = true
          · rw [if_pos hk] at h
            obtain ⟨g', w1, w2⟩ := hi.1 hk
            rw [w2, hpop]
            exact (ih _ _ _ _ _ _ _ st hle.2.1 hst ho h g' w1).2.2.2.1 rfl hpop
          · rw [if_neg hk] at h
            cases h
            exact ⟨fun z => absurd z hk, fun z => hi.2 z⟩
      · rw [if_neg hc] at h
        cases h
        exact ⟨fun _ => ⟨g + 1, hg, rfl, hc⟩, fun z => (by cases z)⟩
    | m + 4, h =>
      refine ⟨fun z => (by omega), fun z => (by omega), fun z => (by omega), fun z => (by omega), fun _ hpop h38 => ?_⟩
      rw [prs] at h
      by_cases hc : L p = 124
      · rw [if_pos hc] at h
        have hlt := L_lt hL hc (by decide)
        have hTc : T p = 124 := by rw [← hT p hlt]; exact hc
        rw [flt, if_pos hlt, if_neg (fun z => by cases z.1), if_neg (fun z => by cases z), if_pos (Or.inl hTc)]
        cases hq : prs L A f 1 o false (p + 1) with
        | none => rw [hq] at h; cases h
        | some r =>
          rw [hq] at h
          obtain ⟨r1, r2, r3⟩ := r
          have hle := prs_le hL _ _ _ _ _ _ _ _ hlt hq
          have hi := (ih _ _ _ _ _ _ _ st hlt hst ho hq g (by omega)).2.1 rfl hpop
          have h : (if r3 = true then prs L A f 4 o (b || r1) r2 else some (r1, r2, r3)) = some (t, q, ok) := h
          by_cases hk : r3 = true
          · rw [if_pos hk] at h
            obtain ⟨g', w1, w2, w3⟩ := hi.1 hk
            rw [w2]
            exact (ih _ _ _ _ _ _ _ st hle.2.1 hst ho h g' w1).2.2.2.2 (by decide) hpop w3
          · rw [if_neg hk] at h
            cases h
            exact ⟨fun z => absurd z hk, fun z => hi.2 z⟩
      · rw [if_neg hc] at h
        cases h
        exact ⟨fun _ => ⟨g + 1, hg, rfl, h38, hc⟩, fun z => (by cases z)⟩
/-- the whole text: its fault -/
theorem prs_fault (hL : ∀ p, len ≤ p → L p = 0) (hT : ∀ p, p < len → L p = T p) (h60 : len ≤ 60) {t : Bool} {q : Nat} {ok : Bool} (h : prs L A 250 2 0 false 0 = some (t, q, ok)) : q ≤ len ∧ flt T len 62 0 [] true = if ok = true ∧ q = len then -1 else nI q := by
  have hle := prs_le hL _ _ _ _ _ _ _ _ (Nat.zero_le _) h
  have hi := (prs_flt hL hT _ _ _ _ _ _ _ _ [] (Nat.zero_le _) rfl (by decide) h 62 (by omega)).2.2.1 rfl rfl
  refine ⟨hle.2.1, ?_⟩
  cases ok with
  | false =>
    rw [hi.2 rfl, if_neg (fun z => by cases z.1)]
  | true =>
    obtain ⟨g', w1, w2, w3, w4⟩ := hi.1 rfl
    rw [w2]
    by_cases e : q = len
    · rw [if_pos ⟨rfl, e⟩]
      obtain ⟨g', rfl⟩ : ∃ k, g' = k + 1 := ⟨g' - 1, by omega⟩
      rw [flt, if_neg (by omega), if_neg (fun z => by rcases z with z | z <;> simp at z)]
    · rw [if_neg (fun z => e z.2)]
      have hlt : q < len := by omega
      obtain ⟨g', rfl⟩ : ∃ k, g' = k + 1 := ⟨g' - 1, by omega⟩
      rw [hT q hlt] at w3 w4
      rw [flt, if_pos hlt, if_neg (fun z => by cases z.1), if_neg (fun z => by cases z), if_neg (fun z => z.elim w4 w3), if_neg (fun z => by simp at z)]
end A8
