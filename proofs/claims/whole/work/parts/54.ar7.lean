/-! numbers: a text read as the class reads it -/
/-- a ONE (0), a BOTH (1), an ANY (2), a BOTH and an ANY under way (3, 4), o things open: what it says, where it ends, whether without a fault -/
def prs (L : Nat → Int32) (A : Int32 → Int32 → Bool) : Nat → Nat → Nat → Bool → Nat → Option (Bool × Nat × Bool)
  | 0, _, _, _, _ => none
  | f + 1, 0, o, _, p =>
    if L p = 33 ∨ L p = 40 then
      (if 20 ≤ o then some (false, p, false)
      else if L p = 33 then (match prs L A f 0 (o + 1) false (p + 1) with
        | none => none
        | some q => some (!q.1, q.2.1, q.2.2))
      else (match prs L A f 2 (o + 1) false (p + 1) with
        | none => none
        | some q => if q.2.2 = true then (if L q.2.1 = 41 then some (q.1, q.2.1 + 1, true) else some (false, q.2.1, false)) else some q))
    else if isNm (L p) then
      (if ¬ isFg (L (p + 1)) then some (false, p + 1, false)
      else if isFg (L (dg L 3 (p + 1) 0).1) then some (false, (dg L 3 (p + 1) 0).1, false)
      else some (A (L p) (dg L 3 (p + 1) 0).2, (dg L 3 (p + 1) 0).1, true))
    else some (false, p, false)
  | f + 1, 1, o, _, p => (match prs L A f 0 o false p with
    | none => none
    | some q => if q.2.2 = true then prs L A f 3 o q.1 q.2.1 else some q)
  | f + 1, 2, o, _, p => (match prs L A f 1 o false p with
    | none => none
    | some q => if q.2.2 = true then prs L A f 4 o q.1 q.2.1 else some q)
  | f + 1, 3, o, b, p => if L p = 38 then (match prs L A f 0 o false (p + 1) with
    | none => none
    | some q => if q.2.2 = true then prs L A f 3 o (b && q.1) q.2.1 else some q) else some (b, p, true)
  | f + 1, _ + 4, o, b, p => if L p = 124 then (match prs L A f 1 o false (p + 1) with
    | none => none
    | some q => if q.2.2 = true then prs L A f 4 o (b || q.1) q.2.1 else some q) else some (b, p, true)
theorem fg0 : ¬ isFg 0 := by decide
theorem nm0 : ¬ isNm 0 := by decide
theorem dg_ge (L : Nat → Int32) : ∀ f p x, p ≤ (dg L f p x).1
  | 0, p, x => Nat.le_refl _
  | f + 1, p, x => by
    rw [dg]
    split
    · have := dg_ge L f (p + 1) (10 * x + L p - 48)
      omega
    · exact Nat.le_refl _
section A7
variable {L : Nat → Int32} {A : Int32 → Int32 → Bool} {len : Nat}
theorem dg_len (hL : ∀ p, len ≤ p → L p = 0) (f p : Nat) (x : Int32) (h : p ≤ len) : (dg L f p x).1 ≤ len := dg_up (fun p hp => by rw [hL p hp]; exact fg0) f p x h
theorem L_lt (hL : ∀ p, len ≤ p → L p = 0) {p : Nat} {c : Int32} (h : L p = c) (hc : ¬ c = 0) : p < len := by
  rcases Nat.lt_or_ge p len with z | z
  · exact z
  · rw [hL p z] at h
    exact absurd h.symm hc
theorem fg_lt (hL : ∀ p, len ≤ p → L p = 0) {p : Nat} (h : isFg (L p)) : p < len := by
  rcases Nat.lt_or_ge p len with z | z
  · exact z
  · rw [hL p z] at h
    exact absurd h fg0
theorem nm_lt (hL : ∀ p, len ≤ p → L p = 0) {p : Nat} (h : isNm (L p)) : p < len := by
  rcases Nat.lt_or_ge p len with z | z
  · exact z
  · rw [hL p z] at h
    exact absurd h nm0
theorem dg_gt {p : Nat} {x : Int32} (h : isFg (L p)) : p < (dg L 3 p x).1 := by
  rw [dg, if_pos h]
  have := dg_ge L 2 (p + 1) (10 * x + L p - 48)
  omega
/-- where a reading ends -/
theorem prs_le (hL : ∀ p, len ≤ p → L p = 0) : ∀ f m o b p t q ok, p ≤ len → prs L A f m o b p = some (t, q, ok) → p ≤ q ∧ q ≤ len ∧ (ok = true → m ≤ 2 → p < q) := by
  intro f
  induction f with
  | zero => intro m o b p t q ok _ h; simp [prs] at h
  | succ f ih =>
    intro m o b p t q ok hp h
    match m, h with
    | 0, h =>
      rw [prs] at h
      split at h
      · rename_i hc
        have hlt : p < len := by rcases hc with hc | hc <;> exact L_lt hL hc (by decide)
        split at h
        · cases h; exact ⟨Nat.le_refl _, hp, fun z => by cases z⟩
        · split at h
          · cases hq : prs L A f 0 (o + 1) false (p + 1) with
            | none => rw [hq] at h; cases h
            | some r =>
              rw [hq] at h
              obtain ⟨r1, r2, r3⟩ := r
              have h : some (!r1, r2, r3) = some (t, q, ok) := h
              cases h
              have := ih _ _ _ _ _ _ _ hlt hq
              exact ⟨by omega, this.2.1, fun _ _ => by omega⟩
          · cases hq : prs L A f 2 (o + 1) false (p + 1) with
            | none => rw [hq] at h; cases h
            | some r =>
              rw [hq] at h
              obtain ⟨r1, r2, r3⟩ := r
              have := ih _ _ _ _ _ _ _ hlt hq
              have h : (if r3 = true then (if L r2 = 41 then some (r1, r2 + 1, true) else some (false, r2, false)) else some (r1, r2, r3)) = some (t, q, ok) := h
              split at h
              · split at h
                · rename_i h41
                  have := L_lt hL h41 (by decide)
                  cases h
                  exact ⟨by omega, by omega, fun _ _ => by omega⟩
                · cases h; exact ⟨by omega, by omega, fun z => by cases z⟩
              · rename_i hk
                cases h
                exact ⟨by omega, by omega, fun z => absurd z hk⟩
      · split at h
        · rename_i hn
          have hlt := nm_lt hL hn
          have hd := dg_len hL 3 (p + 1) 0 (by omega)
          have hg := dg_ge L 3 (p + 1) 0
          split at h
          · cases h; exact ⟨by omega, by omega, fun z => by cases z⟩
          · split at h
            · cases h; exact ⟨by omega, by omega, fun z => by cases z⟩
            · cases h; exact ⟨by omega, by omega, fun _ _ => by omega⟩
        · cases h; exact ⟨Nat.le_refl _, hp, fun z => by cases z⟩
    | 1, h =>
      rw [prs] at h
      cases hq : prs L A f 0 o false p with
      | none => rw [hq] at h; cases h
      | some r =>
        rw [hq] at h
        obtain ⟨r1, r2, r3⟩ := r
        have h1 := ih _ _ _ _ _ _ _ hp hq
        have h : (if r3 = true then prs L A f 3 o r1 r2 else some (r1, r2, r3)) = some (t, q, ok) := h
        split at h
        · rename_i hk
          have h2 := ih _ _ _ _ _ _ _ h1.2.1 h
          exact ⟨by omega, h2.2.1, fun _ _ => by have := h1.2.2 hk (by decide); omega⟩
        · rename_i hk
          cases h
          exact ⟨h1.1, h1.2.1, fun z => absurd z hk⟩
    | 2, h =>
      rw [prs] at h
      cases hq : prs L A f 1 o false p with
      | none => rw [hq] at h; cases h
      | some r =>
        rw [hq] at h
        obtain ⟨r1, r2, r3⟩ := r
        have h1 := ih _ _ _ _ _ _ _ hp hq
        have h : (if r3 = true then prs L A f 4 o r1 r2 else some (r1, r2, r3)) = some (t, q, ok) := h
        split at h
        · rename_i hk
          have h2 := ih _ _ _ _ _ _ _ h1.2.1 h
          exact ⟨by omega, h2.2.1, fun _ _ => by have := h1.2.2 hk (by decide); omega⟩
        · rename_i hk
          cases h
          exact ⟨h1.1, h1.2.1, fun z => absurd z hk⟩
    | 3, h =>
      rw [prs] at h
      split at h
      · rename_i hc
        have hlt := L_lt hL hc (by decide)
        cases hq : prs L A f 0 o false (p + 1) with
        | none => rw [hq] at h; cases h
        | some r =>
          rw [hq] at h
          obtain ⟨r1, r2, r3⟩ := r
          have h1 := ih _ _ _ _ _ _ _ hlt hq
          have h : (if r3 = true then prs L A f 3 o (b && r1) r2 else some (r1, r2, r3)) = some (t, q, ok) := h
          split at h
          · have h2 := ih _ _ _ _ _ _ _ h1.2.1 h
            exact ⟨by omega, h2.2.1, fun _ z => absurd z (by decide)⟩
          · cases h
            exact ⟨by omega, h1.2.1, fun _ z => absurd z (by decide)⟩
      · cases h; exact ⟨Nat.le_refl _, hp, fun _ z => absurd z (by decide)⟩
    | m + 4, h =>
      rw [prs] at h
      split at h
      · rename_i hc
        have hlt := L_lt hL hc (by decide)
        cases hq : prs L A f 1 o false (p + 1) with
        | none => rw [hq] at h; cases h
        | some r =>
          rw [hq] at h
          obtain ⟨r1, r2, r3⟩ := r
          have h1 := ih _ _ _ _ _ _ _ hlt hq
          have h : (if r3 = true then prs L A f 4 o (b || r1) r2 else some (r1, r2, r3)) = some (t, q, ok) := h
          split at h
          · have h2 := ih _ _ _ _ _ _ _ h1.2.1 h
            exact ⟨by omega, h2.2.1, fun _ z => by omega⟩
          · cases h
            exact ⟨by omega, h1.2.1, fun _ z => by omega⟩
      · cases h; exact ⟨Nat.le_refl _, hp, fun _ z => by omega⟩
def pbd : Nat → Nat
  | 0 => 1
  | 1 => 2
  | 2 => 3
  | _ => 1
/-- every reading ends within the steps -/
theorem prs_tot (hL : ∀ p, len ≤ p → L p = 0) : ∀ f m o b p, p ≤ len → 4 * (len - p) + pbd m ≤ f → ∃ r, prs L A f m o b p = some r := by
  intro f
  induction f with
  | zero =>
    intro m o b p _ h
    exfalso
    match m, h with
    | 0, h => simp [pbd] at h
    | 1, h => simp [pbd] at h
    | 2, h => simp [pbd] at h
    | m + 3, h => simp [pbd] at h
  | succ f ih =>
    intro m o b p hp h
    match m, h with
    | 0, h =>
      have h : 4 * (len - p) + 1 ≤ f + 1 := h
      rw [prs]
      split
      · rename_i hc
        have hlt : p < len := by rcases hc with hc | hc <;> exact L_lt hL hc (by decide)
        split
        · exact ⟨_, rfl⟩
        · split
          · obtain ⟨r, hr⟩ := ih 0 (o + 1) false (p + 1) hlt (by show 4 * (len - (p + 1)) + 1 ≤ f; omega)
            rw [hr]
            exact ⟨_, rfl⟩
          · obtain ⟨r, hr⟩ := ih 2 (o + 1) false (p + 1) hlt (by show 4 * (len - (p + 1)) + 3 ≤ f; omega)
            rw [hr]
            show ∃ r', (if r.2.2 = true then (if L r.2.1 = 41 then some (r.1, r.2.1 + 1, true) else some (false, r.2.1, false)) else some r) = some r'
            split
            · split <;> exact ⟨_, rfl⟩
            · exact ⟨_, rfl⟩
      · split
        · split
          · exact ⟨_, rfl⟩
          · split <;> exact ⟨_, rfl⟩
        · exact ⟨_, rfl⟩
    | 1, h =>
      have h : 4 * (len - p) + 2 ≤ f + 1 := h
      rw [prs]
      obtain ⟨r, hr⟩ := ih 0 o false p hp (by show 4 * (len - p) + 1 ≤ f; omega)
      rw [hr]
      obtain ⟨r1, r2, r3⟩ := r
      have hle := prs_le hL _ _ _ _ _ _ _ _ hp hr
      show ∃ r', (if r3 = true then prs L A f 3 o r1 r2 else some (r1, r2, r3)) = some r'
      split
      · rename_i hk
        have := hle.2.2 hk (by decide)
        exact ih 3 o r1 r2 hle.2.1 (by show 4 * (len - r2) + 1 ≤ f; omega)
      · exact ⟨_, rfl⟩
    | 2, h =>
      have h : 4 * (len - p) + 3 ≤ f + 1 := h
      rw [prs]
      obtain ⟨r, hr⟩ := ih 1 o false p hp (by show 4 * (len - p) + 2 ≤ f; omega)
      rw [hr]
      obtain ⟨r1, r2, r3⟩ := r
      have hle := prs_le hL _ _ _ _ _ _ _ _ hp hr
      show ∃ r', (if r3 = true then prs L A f 4 o r1 r2 else some (r1, r2, r3)) = some r'
      split
      · rename_i hk
        have := hle.2.2 hk (by decide)
        exact ih 4 o r1 r2 hle.2.1 (by show 4 * (len - r2) + 1 ≤ f; omega)
      · exact ⟨_, rfl⟩
    | 3, h =>
      have h : 4 * (len - p) + 1 ≤ f + 1 := h
      rw [prs]
      split
      · rename_i hc
        have hlt := L_lt hL hc (by decide)
        obtain ⟨r, hr⟩ := ih 0 o false (p + 1) hlt (by show 4 * (len - (p + 1)) + 1 ≤ f; omega)
        rw [hr]
        obtain ⟨r1, r2, r3⟩ := r
        have hle := prs_le hL _ _ _ _ _ _ _ _ hlt hr
        show ∃ r', (if r3 = true then prs L A f 3 o (b && r1) r2 else some (r1, r2, r3)) = some r'
        split
        · exact ih 3 o _ r2 hle.2.1 (by show 4 * (len - r2) + 1 ≤ f; omega)
        · exact ⟨_, rfl⟩
      · exact ⟨_, rfl⟩
    | m + 4, h =>
      have h : 4 * (len - p) + 1 ≤ f + 1 := h
      rw [prs]
      split
      · rename_i hc
        have hlt := L_lt hL hc (by decide)
        obtain ⟨r, hr⟩ := ih 1 o false (p + 1) hlt (by show 4 * (len - (p + 1)) + 2 ≤ f; omega)
        rw [hr]
        obtain ⟨r1, r2, r3⟩ := r
        have hle := prs_le hL _ _ _ _ _ _ _ _ hlt hr
        show ∃ r', (if r3 = true then prs L A f 4 o (b || r1) r2 else some (r1, r2, r3)) = some r'
        split
        · exact ih 4 o _ r2 hle.2.1 (by show 4 * (len - r2) + 1 ≤ f; omega)
        · exact ⟨_, rfl⟩
      · exact ⟨_, rfl⟩
theorem dg_more {L : Nat → Int32} : ∀ f k p x, ¬ isFg (L (dg L f p x).1) → dg L (f + k) p x = dg L f p x
  | 0, k, p, x, h => by
    have h : ¬ isFg (L p) := h
    rw [Nat.zero_add]
    cases k with
    | zero => rfl
    | succ k =>
      show (if isFg (L p) then dg L k (p + 1) (10 * x + L p - 48) else (p, x)) = (p, x)
      rw [if_neg h]
  | f + 1, k, p, x, h => by
    rw [show f + 1 + k = (f + k) + 1 by omega, dg, dg]
    rw [dg] at h
    by_cases hc : isFg (L p)
    · rw [if_pos hc] at h
      rw [if_pos hc, if_pos hc]
      exact dg_more f k (p + 1) _ h
    · rw [if_neg hc, if_neg hc]
/-- without a fault the reference reads the same -/
theorem prs_evl (hL : ∀ p, len ≤ p → L p = 0) (h1000 : len ≤ 1000) : ∀ f m o b p t q, p ≤ len → prs L A f m o b p = some (t, q, true) → evl L A f m b p = some (t, q) := by
  intro f
  induction f with
  | zero => intro m o b p t q _ h; simp [prs] at h
  | succ f ih =>
    intro m o b p t q hp h
    have hp1 : ¬ 1000 < p := by omega
    match m, h with
    | 0, h =>
      rw [prs] at h
      rw [evl, if_neg hp1]
      split at h
      · rename_i hc
        have hlt : p < len := by rcases hc with hc | hc <;> exact L_lt hL hc (by decide)
        split at h
        · cases h
        · split at h
          · rename_i h33
            rw [if_pos h33]
            cases hq : prs L A f 0 (o + 1) false (p + 1) with
            | none => rw [hq] at h; cases h
            | some r =>
              rw [hq] at h
              obtain ⟨r1, r2, r3⟩ := r
              have h : some (!r1, r2, r3) = some (t, q, true) := h
              cases h
              have e := ih _ _ _ _ _ _ hlt hq
              rw [e]
              rfl
          · rename_i h33
            have h40 : L p = 40 := hc.resolve_left h33
            rw [if_neg h33, if_pos h40]
            cases hq : prs L A f 2 (o + 1) false (p + 1) with
            | none => rw [hq] at h; cases h
            | some r =>
              rw [hq] at h
              obtain ⟨r1, r2, r3⟩ := r
              have h : (if r3 = true then (if L r2 = 41 then some (r1, r2 + 1, true) else some (false, r2, false)) else some (r1, r2, r3)) = some (t, q, true) := h
              by_cases hk : r3 = true
              · rw [if_pos hk] at h
                rw [hk] at hq
                by_cases h41 : L r2 = 41
                · rw [if_pos h41] at h
                  cases h
                  have e := ih _ _ _ _ _ _ hlt hq
                  rw [e]
                  rfl
                · rw [if_neg h41] at h
                  cases h
              · rw [if_neg hk] at h
                cases h
                exact absurd rfl hk
      · rename_i hc
        rw [if_neg (fun z => hc (Or.inl z)), if_neg (fun z => hc (Or.inr z))]
        split at h
        · split at h
          · cases h
          · split at h
            · cases h
            · rename_i hn
              have e := dg_more 3 197 (p + 1) 0 hn
              cases h
              rw [show (200 : Nat) = 3 + 197 from rfl, e]
        · cases h
    | 1, h =>
      rw [prs] at h
      rw [evl]
      cases hq : prs L A f 0 o false p with
      | none => rw [hq] at h; cases h
      | some r =>
        rw [hq] at h
        obtain ⟨r1, r2, r3⟩ := r
        have h1 := prs_le hL _ _ _ _ _ _ _ _ hp hq
        have h : (if r3 = true then prs L A f 3 o r1 r2 else some (r1, r2, r3)) = some (t, q, true) := h
        split at h
        · rename_i hk
          subst hk
          rw [ih _ _ _ _ _ _ hp hq]
          exact ih _ _ _ _ _ _ h1.2.1 h
        · rename_i hk
          cases h
          exact absurd rfl hk
    | 2, h =>
      rw [prs] at h
      rw [evl]
      cases hq : prs L A f 1 o false p with
      | none => rw [hq] at h; cases h
      | some r =>
        rw [hq] at h
        obtain ⟨r1, r2, r3⟩ := r
        have h1 := prs_le hL _ _ _ _ _ _ _ _ hp hq
        have h : (if r3 = true then prs L A f 4 o r1 r2 else some (r1, r2, r3)) = some (t, q, true) := h
        split at h
        · rename_i hk
          subst hk
          rw [ih _ _ _ _ _ _ hp hq]
          exact ih _ _ _ _ _ _ h1.2.1 h
        · rename_i hk
          cases h
          exact absurd rfl hk
    | 3, h =>
      rw [prs] at h
      rw [evl, if_neg hp1]
      split at h
      · rename_i hc
        have hlt := L_lt hL hc (by decide)
        rw [if_pos hc]
        cases hq : prs L A f 0 o false (p + 1) with
        | none => rw [hq] at h; cases h
        | some r =>
          rw [hq] at h
          obtain ⟨r1, r2, r3⟩ := r
          have h1 := prs_le hL _ _ _ _ _ _ _ _ hlt hq
          have h : (if r3 = true then prs L A f 3 o (b && r1) r2 else some (r1, r2, r3)) = some (t, q, true) := h
          split at h
          · rename_i hk
            subst hk
            rw [ih _ _ _ _ _ _ hlt hq]
            exact ih _ _ _ _ _ _ h1.2.1 h
          · rename_i hk
            cases h
            exact absurd rfl hk
      · rename_i hc
        rw [if_neg hc]
        cases h
        rfl
    | m + 4, h =>
      rw [prs] at h
      rw [evl, if_neg hp1]
      split at h
      · rename_i hc
        have hlt := L_lt hL hc (by decide)
        rw [if_pos hc]
        cases hq : prs L A f 1 o false (p + 1) with
        | none => rw [hq] at h; cases h
        | some r =>
          rw [hq] at h
          obtain ⟨r1, r2, r3⟩ := r
          have h1 := prs_le hL _ _ _ _ _ _ _ _ hlt hq
          have h : (if r3 = true then prs L A f 4 o (b || r1) r2 else some (r1, r2, r3)) = some (t, q, true) := h
          split at h
          · rename_i hk
            subst hk
            rw [ih _ _ _ _ _ _ hlt hq]
            exact ih _ _ _ _ _ _ h1.2.1 h
          · rename_i hk
            cases h
            exact absurd rfl hk
      · rename_i hc
        rw [if_neg hc]
        cases h
        rfl
end A7
