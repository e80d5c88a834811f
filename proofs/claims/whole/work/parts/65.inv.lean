/-! what holds of the reference's state after any calls -/
def bSa (s : th_Vl) : Prop := ∀ j, j < ix (s 36 11) → inR (s 48 j) 1 100
def bKi (i : Nat) (s : th_Vl) : Prop := 0 ≤ (s 36 22).toInt ∧ (s 36 22).toInt ≤ i
def INV (i : Nat) (s : th_Vl) : Prop := (bRo s ∧ bLi s ∧ bSz s ∧ bTp s) ∧ bKi i s ∧ (bHi s ∧ bRh s) ∧ bSp s ∧ bLe s ∧ bBy s ∧ bGd s ∧ bSa s
theorem bRo.c {s s' : th_Vl} (h : bRo s) (e : s' 36 6 = s 36 6) : bRo s' := by
  show inR (s' 36 6) 0 12
  rw [e]; exact h
theorem bLi.c {s s' : th_Vl} (h : bLi s) (e : s' 36 11 = s 36 11) : bLi s' := by
  show inR (s' 36 11) 0 8
  rw [e]; exact h
theorem bSz.c {s s' : th_Vl} (h : bSz s) (e : s' 38 = s 38) : bSz s' := by unfold bSz at h ⊢; rw [e]; exact h
theorem bTp.c {s s' : th_Vl} (h : bTp s) (e : s' 36 10 = s 36 10) : bTp s' := by unfold bTp at h ⊢; rw [e]; exact h
theorem bKi.c {i j : Nat} {s s' : th_Vl} (h : bKi i s) (hij : i ≤ j) (e : s' 36 22 = s 36 22) : bKi j s' := by
  unfold bKi at h ⊢
  rw [e]
  omega
theorem bHi.c {s s' : th_Vl} (h : bHi s) (e : s' 40 = s 40) : bHi s' := by unfold bHi at h ⊢; rw [e]; exact h
theorem bRh.c {s s' : th_Vl} (h : bRh s) (e : s' 56 = s 56) : bRh s' := by unfold bRh at h ⊢; rw [e]; exact h
theorem bSp.c {s s' : th_Vl} (h : bSp s) (e : s' 36 6 = s 36 6) (e2 : s' 43 = s 43) : bSp s' := by unfold bSp at h ⊢; rw [e, e2]; exact h
theorem bLe.c {s s' : th_Vl} (h : bLe s) (e : s' 47 = s 47) : bLe s' := by unfold bLe at h ⊢; rw [e]; exact h
theorem bBy.c {s s' : th_Vl} (h : bBy s) (e : s' 45 = s 45) (e2 : s' 46 = s 46) : bBy s' := by unfold bBy at h ⊢; rw [e, e2]; exact h
theorem lt_c {s s' : th_Vl} (e : s' 47 = s 47) (e2 : s' 46 = s 46) : lt s' = lt s := by
  funext j p
  unfold lt
  rw [e, e2]
theorem bGd.c {s s' : th_Vl} (h : bGd s) (e : s' 36 11 = s 36 11) (e1 : s' 47 = s 47) (e2 : s' 46 = s 46) : bGd s' := by
  unfold bGd at h ⊢
  rw [e, lt_c e1 e2, e1]
  exact h
theorem bSa.c {s s' : th_Vl} (h : bSa s) (e : s' 36 11 = s 36 11) (e1 : s' 48 = s 48) : bSa s' := by unfold bSa at h ⊢; rw [e, e1]; exact h
/-- what the bounds speak of -/
def kI (a : Nat) : Prop := a = 38 ∨ a = 40 ∨ a = 56 ∨ a = 43 ∨ a = 47 ∨ a = 45 ∨ a = 46 ∨ a = 48
def kF (k : Nat) : Prop := k = 6 ∨ k = 11 ∨ k = 10 ∨ k = 22
theorem INV.c {i j : Nat} {s s' : th_Vl} (h : INV i s) (hij : i ≤ j) (e : ∀ a, kI a → s' a = s a) (f : ∀ k, kF k → s' 36 k = s 36 k) : INV j s' := by
  obtain ⟨⟨h1, h2, h3, h4⟩, h5, ⟨h6, h7⟩, h8, h9, h10, h11, h12⟩ := h
  exact ⟨⟨h1.c (f _ (by unfold kF; omega)), h2.c (f _ (by unfold kF; omega)), h3.c (e _ (by unfold kI; omega)), h4.c (f _ (by unfold kF; omega))⟩, h5.c hij (f _ (by unfold kF; omega)), ⟨h6.c (e _ (by unfold kI; omega)), h7.c (e _ (by unfold kI; omega))⟩, h8.c (f _ (by unfold kF; omega)) (e _ (by unfold kI; omega)), h9.c (e _ (by unfold kI; omega)), h10.c (e _ (by unfold kI; omega)) (e _ (by unfold kI; omega)), h11.c (f _ (by unfold kF; omega)) (e _ (by unfold kI; omega)) (e _ (by unfold kI; omega)), h12.c (f _ (by unfold kF; omega)) (e _ (by unfold kI; omega))⟩
theorem INV.up {i : Nat} {s : th_Vl} (h : INV i s) : INV (i + 1) s := h.c (Nat.le_succ _) (fun _ _ => rfl) (fun _ _ => rfl)
/-- all bounds stay but those of one row -/
theorem INV.hits {i : Nat} {s s' : th_Vl} (h : INV i s) (e : ∀ a, a ≠ 40 → s' a = s a) (hh : bHi s') : INV (i + 1) s' := by
  obtain ⟨⟨h1, h2, h3, h4⟩, h5, ⟨h6, h7⟩, h8, h9, h10, h11, h12⟩ := h
  have em := e 36 (by decide)
  exact ⟨⟨h1.c (by rw [em]), h2.c (by rw [em]), h3.c (e _ (by decide)), h4.c (by rw [em])⟩, h5.c (Nat.le_succ _) (by rw [em]), ⟨hh, h7.c (e _ (by decide))⟩, h8.c (by rw [em]) (e _ (by decide)), h9.c (e _ (by decide)), h10.c (e _ (by decide)) (e _ (by decide)), h11.c (by rw [em]) (e _ (by decide)) (e _ (by decide)), h12.c (by rw [em]) (e _ (by decide))⟩
theorem INV.sizes {i : Nat} {s s' : th_Vl} (h : INV i s) (e : ∀ a, a ≠ 37 → a ≠ 38 → a ≠ 39 → s' a = s a) (hh : bSz s') : INV (i + 1) s' := by
  obtain ⟨⟨h1, h2, h3, h4⟩, h5, ⟨h6, h7⟩, h8, h9, h10, h11, h12⟩ := h
  have em := e 36 (by decide) (by decide) (by decide)
  exact ⟨⟨h1.c (by rw [em]), h2.c (by rw [em]), hh, h4.c (by rw [em])⟩, h5.c (Nat.le_succ _) (by rw [em]), ⟨h6.c (e _ (by decide) (by decide) (by decide)), h7.c (e _ (by decide) (by decide) (by decide))⟩, h8.c (by rw [em]) (e _ (by decide) (by decide) (by decide)), h9.c (e _ (by decide) (by decide) (by decide)), h10.c (e _ (by decide) (by decide) (by decide)) (e _ (by decide) (by decide) (by decide)), h11.c (by rw [em]) (e _ (by decide) (by decide) (by decide)) (e _ (by decide) (by decide) (by decide)), h12.c (by rw [em]) (e _ (by decide) (by decide) (by decide))⟩
theorem I_sheet {i : Nat} {s : th_Vl} (h : INV i s) (r k n : Int32) : INV (i + 1) (n_sheet s r k n) := by
  unfold n_sheet
  split
  · exact h.up
  · split
    · exact h.up
    · split
      · exact h.up
      · rename_i hn
        refine h.sizes (fun a a1 a2 a3 => by rw [th_seg_ne a3, th_w_ne a2, th_w_ne a1]) (fun q hq => ?_)
        rw [th_seg_ne (by decide), th_w_if]
        split
        · omega
        · rw [th_w_ne (by decide)]
          exact h.1.2.2.1 q hq
theorem I_cell {i : Nat} {s : th_Vl} (h : INV i s) (r k v : Int32) : INV (i + 1) (n_cell s r k v) := by
  unfold n_cell
  split
  · exact h.up
  · split
    · exact h.up
    · split
      · exact h.up
      · exact h.c (Nat.le_succ _) (fun a ha => th_w_ne (by unfold kI at ha; omega)) (fun k hk => by rw [th_w_ne (by decide)])
theorem I_lose {i : Nat} {s : th_Vl} (h : INV i s) (r : Int32) : INV (i + 1) (n_lose s r) := by
  unfold n_lose
  split
  · exact h.up
  · split
    · exact h.up
    · refine h.sizes (fun a a1 a2 a3 => th_w_ne a2) (fun q hq => ?_)
      rw [th_w_if]
      split
      · decide
      · exact h.1.2.2.1 q hq
theorem I_hits {i : Nat} {s : th_Vl} (h : INV i s) (x b : Int32) : INV (i + 1) (n_hits s x b) := by
  unfold n_hits
  split
  · rename_i hc
    refine h.hits (fun a ha => th_w_ne ha) (fun k hk => ?_)
    rw [th_w_if]
    split
    · exact hc.2
    · exact h.2.2.1.1 k hk
  · exact h.up
theorem I_load {i : Nat} {s : th_Vl} (h : INV i s) (r x : Int32) : INV (i + 1) (n_load s r x) := by
  unfold n_load
  split
  · exact h.up
  · split
    · exact h.up
    · refine h.hits (fun a ha => th_seg_ne ha) (fun k hk => ?_)
      rw [th_seg_in (Nat.zero_le _) (by omega)]
      unfold lf
      split
      · obtain ⟨q, h1, h2⟩ := pk_andE (s 39 (20 * ix r + ix x + (k - 0))) (m := 65535) 16 (by decide)
        rw [h2]
        have := nI_toInt (n := q) (by omega)
        constructor <;> omega
      · decide
theorem I_mask {i : Nat} {s : th_Vl} (h : INV i s) (x w b : Int32) : INV (i + 1) (n_mask s x w b) := by
  unfold n_mask
  split
  · split
    · exact h.c (Nat.le_succ _) (fun a ha => th_w_ne (by unfold kI at ha; omega)) (fun k hk => by rw [th_w_ne (by decide)])
    · exact h.c (Nat.le_succ _) (fun a ha => th_w_ne (by unfold kI at ha; omega)) (fun k hk => by rw [th_w_ne (by decide)])
  · exact h.up
theorem I_road {i : Nat} {s : th_Vl} (h : INV i s) (z o t hh f need : Int32) : INV (i + 1) (n_road s z o t hh f need) := by
  unfold n_road
  split
  · exact h.up
  · split
    · exact h.up
    · rename_i hg h12
      have hg := Classical.not_not.mp hg
      obtain ⟨⟨h1, h2, h3, h4⟩, h5, ⟨h6, h7⟩, h8, h9, h10, h11, h12'⟩ := h
      have e : ∀ a, a ≠ 36 → a ≠ 43 → a ≠ 44 → th_w (th_w (th_seg s 43 (5 * ix (s 36 6)) 5 (tl z o t hh f)) 44 (ix (s 36 6)) need) 36 6 (s 36 6 + 1) a = s a := fun a a1 a2 a3 => by rw [th_w_ne a1, th_w_ne a3, th_seg_ne a2]
      have ek : ∀ k, k ≠ 6 → th_w (th_w (th_seg s 43 (5 * ix (s 36 6)) 5 (tl z o t hh f)) 44 (ix (s 36 6)) need) 36 6 (s 36 6 + 1) 36 k = s 36 k := fun k hk => by rw [th_w_j hk, th_w_ne (by decide), th_seg_ne (by decide)]
      have eR : th_w (th_w (th_seg s 43 (5 * ix (s 36 6)) 5 (tl z o t hh f)) 44 (ix (s 36 6)) need) 36 6 (s 36 6 + 1) 36 6 = s 36 6 + 1 := by rw [th_w_if, if_pos ⟨rfl, rfl⟩]
      have hI := th_ixI h1.1
      have hS := th_self h1.1
      have hlt : ix (s 36 6) < 12 := by
        rcases Nat.lt_or_ge (ix (s 36 6)) 12 with w | w
        · exact w
        · exact absurd (by rw [hS, show ix (s 36 6) = 12 by have := h1.2; omega]; rfl) h12
      have eN : s 36 6 + 1 = nI (ix (s 36 6) + 1) := by rw [nI_succ, ← hS]
      have eT := nI_toInt (n := ix (s 36 6) + 1) (by omega)
      have eC : ix (s 36 6 + 1) = ix (s 36 6) + 1 := by rw [eN]; exact nI_clamp (by omega)
      refine ⟨⟨?_, h2.c (ek _ (by decide)), h3.c (e _ (by decide) (by decide) (by decide)), h4.c (ek _ (by decide))⟩, h5.c (Nat.le_succ _) (ek _ (by decide)), ⟨h6.c (e _ (by decide) (by decide) (by decide)), h7.c (e _ (by decide) (by decide) (by decide))⟩, fun j hj k hk => ?_, h9.c (e _ (by decide) (by decide) (by decide)), h10.c (e _ (by decide) (by decide) (by decide)) (e _ (by decide) (by decide) (by decide)), h11.c (ek _ (by decide)) (e _ (by decide) (by decide) (by decide)) (e _ (by decide) (by decide) (by decide)), h12'.c (ek _ (by decide)) (e _ (by decide) (by decide) (by decide))⟩
      · show inR (th_w _ 36 6 _ 36 6) 0 12
        rw [eR, eN]
        constructor <;> omega
      · rw [eR, eC] at hj
        rw [th_w_ne (by decide), th_w_ne (by decide)]
        by_cases w : j = ix (s 36 6)
        · subst w
          rw [th_seg_in (by omega) (by omega), show 5 * ix (s 36 6) + k - 5 * ix (s 36 6) = k by omega]
          exact hg.1 k hk
        · rw [th_seg_out (by omega)]
          exact h8 j (by omega) k hk
theorem I_span {i : Nat} {s : th_Vl} (h : INV i s) (r x v : Int32) : INV (i + 1) (n_span s r x v) := by
  unfold n_span
  split
  · rename_i hc
    obtain ⟨⟨h1, h2, h3, h4⟩, h5, ⟨h6, h7⟩, h8, h9, h10, h11, h12⟩ := h
    have e : ∀ a, a ≠ 43 → th_w s 43 (5 * ix r + ix x) v a = s a := fun a ha => th_w_ne ha
    have em := e 36 (by decide)
    refine ⟨⟨h1.c (by rw [em]), h2.c (by rw [em]), h3.c (e _ (by decide)), h4.c (by rw [em])⟩, h5.c (Nat.le_succ _) (by rw [em]), ⟨h6.c (e _ (by decide)), h7.c (e _ (by decide))⟩, fun j hj k hk => ?_, h9.c (e _ (by decide)), h10.c (e _ (by decide)) (e _ (by decide)), h11.c (by rw [em]) (e _ (by decide)) (e _ (by decide)), h12.c (by rw [em]) (e _ (by decide))⟩
    rw [th_w_if]
    split
    · exact hc.2.2
    · exact h8 j (by rw [em] at hj; exact hj) k hk
  · exact h.up
theorem I_feed {i : Nat} {s : th_Vl} (h : INV i s) (v : Int32) : INV (i + 1) (n_feed s v) := by
  unfold n_feed
  split
  · exact h.up
  · rename_i hc
    obtain ⟨⟨h1, h2, h3, h4⟩, h5, ⟨h6, h7⟩, h8, h9, h10, h11, h12⟩ := h
    have e : ∀ a, a ≠ 36 → a ≠ 45 → th_w (th_seg s 45 (ix (s 36 10)) (nb v) (bB v)) 36 10 (s 36 10 + nI (nb v)) a = s a := fun a a1 a2 => by rw [th_w_ne a1, th_seg_ne a2]
    have ek : ∀ k, k ≠ 10 → th_w (th_seg s 45 (ix (s 36 10)) (nb v) (bB v)) 36 10 (s 36 10 + nI (nb v)) 36 k = s 36 k := fun k hk => by rw [th_w_j hk, th_seg_ne (by decide)]
    have hn4 := nb_le v
    have h0 : 0 ≤ (s 36 10).toInt := h4.1
    have hI := th_ixI h0
    have h60 : (s 36 10).toInt ≤ 60 := h4.2
    refine ⟨⟨h1.c (ek _ (by decide)), h2.c (ek _ (by decide)), h3.c (e _ (by decide) (by decide)), ?_⟩, h5.c (Nat.le_succ _) (ek _ (by decide)), ⟨h6.c (e _ (by decide) (by decide)), h7.c (e _ (by decide) (by decide))⟩, h8.c (ek _ (by decide)) (e _ (by decide) (by decide)), h9.c (e _ (by decide) (by decide)), ⟨fun k => ?_, fun k => ?_⟩, h11.c (ek _ (by decide)) (e _ (by decide) (by decide)) (e _ (by decide) (by decide)), h12.c (ek _ (by decide)) (e _ (by decide) (by decide))⟩
    · show inR (th_w _ 36 10 _ 36 10) 0 60
      have e1 : s 36 10 + nI (nb v) = nI (ix (s 36 10) + nb v) := by rw [← nI_add, ← th_self h0]
      have e2 := nI_toInt (n := ix (s 36 10) + nb v) (by omega)
      rw [th_w_if, if_pos ⟨rfl, rfl⟩, e1]
      constructor <;> omega
    · rw [th_w_ne (by decide)]
      by_cases w : ix (s 36 10) ≤ k ∧ k < ix (s 36 10) + nb v
      · rw [th_seg_in w.1 w.2]
        exact isBy_8 _
      · rw [th_seg_out (by omega)]
        exact h10.1 k
    · rw [e _ (by decide) (by decide)]
      exact h10.2 k
theorem INV.fld {i : Nat} {s s' : th_Vl} (h : INV i s) (e : ∀ a, a ≠ 36 → kI a → s' a = s a) (f1 : s' 36 6 = s 36 6) (f2 : s' 36 11 = s 36 11) (ht : bTp s') (hk : bKi (i + 1) s') : INV (i + 1) s' := by
  obtain ⟨⟨h1, h2, h3, h4⟩, h5, ⟨h6, h7⟩, h8, h9, h10, h11, h12⟩ := h
  have e' : ∀ a, kI a → s' a = s a := fun a ha => e a (by unfold kI at ha; omega) ha
  exact ⟨⟨h1.c f1, h2.c f2, h3.c (e' _ (by unfold kI; omega)), ht⟩, hk, ⟨h6.c (e' _ (by unfold kI; omega)), h7.c (e' _ (by unfold kI; omega))⟩, h8.c f1 (e' _ (by unfold kI; omega)), h9.c (e' _ (by unfold kI; omega)), h10.c (e' _ (by unfold kI; omega)) (e' _ (by unfold kI; omega)), h11.c f2 (e' _ (by unfold kI; omega)) (e' _ (by unfold kI; omega)), h12.c f2 (e' _ (by unfold kI; omega))⟩
theorem I_clear {i : Nat} {s : th_Vl} (h : INV i s) : INV (i + 1) (n_clear s) := by
  unfold n_clear
  refine h.fld (fun a a1 _ => th_w_ne a1) (th_w_j (by decide)) (th_w_j (by decide)) ?_ (h.2.1.c (Nat.le_succ _) (th_w_j (by decide)))
  show inR (th_w _ 36 10 _ 36 10) 0 60
  rw [th_w_if, if_pos ⟨rfl, rfl⟩]
  decide
theorem I_rest {i : Nat} {s : th_Vl} (h : INV i s) (v : Int32) : INV (i + 1) (n_rest s v) := by
  unfold n_rest
  split
  · exact h.c (Nat.le_succ _) (fun a ha => th_w_ne (by unfold kI at ha; omega)) (fun k hk => th_w_j (by unfold kF at hk; omega))
  · exact h.up
theorem I_thin {i : Nat} {s : th_Vl} (h : INV i s) (k v : Int32) : INV (i + 1) (n_thin s k v) := by
  unfold n_thin
  split
  · rename_i hc
    obtain ⟨⟨h1, h2, h3, h4⟩, h5, ⟨h6, h7⟩, h8, h9, h10, h11, h12⟩ := h
    have e : ∀ a, a ≠ 48 → th_w s 48 (ix k) v a = s a := fun a ha => th_w_ne ha
    have em := e 36 (by decide)
    refine ⟨⟨h1.c (by rw [em]), h2.c (by rw [em]), h3.c (e _ (by decide)), h4.c (by rw [em])⟩, h5.c (Nat.le_succ _) (by rw [em]), ⟨h6.c (e _ (by decide)), h7.c (e _ (by decide))⟩, h8.c (by rw [em]) (e _ (by decide)), h9.c (e _ (by decide)), h10.c (e _ (by decide)) (e _ (by decide)), h11.c (by rw [em]) (e _ (by decide)) (e _ (by decide)), fun j hj => ?_⟩
    rw [th_w_if]
    split
    · exact hc.2
    · exact h12 j (by rw [em] at hj; exact hj)
  · exact h.up
theorem I_again {i : Nat} {s : th_Vl} (h : INV i s) (k : Int32) : INV (i + 1) (n_again s k) := by
  unfold n_again
  split
  · refine h.hits (fun a ha => th_seg_ne ha) (fun j hj => ?_)
    have : rat s k < 30 := rat_lt
    rw [th_seg_in (Nat.zero_le _) (by omega)]
    exact h.2.2.1.2 _ (by omega)
  · exact h.up
theorem I_anew {i : Nat} {s : th_Vl} (h : INV i s) : INV (i + 1) (n_anew s) := by
  unfold n_anew
  refine h.fld (fun a a1 a2 => ?_) ?_ ?_ (h.1.2.2.2.c ?_) ?_
  · unfold kI at a2
    rw [th_seg_ne (by omega), th_seg_ne (by omega), th_seg_ne (by omega), th_seg_ne (by omega), th_w_ne a1, th_w_ne a1, th_w_ne a1, th_w_ne a1, th_w_ne a1]
  · rw [th_seg_ne (by decide), th_seg_ne (by decide), th_seg_ne (by decide), th_seg_ne (by decide), th_w_j (by decide), th_w_j (by decide), th_w_j (by decide), th_w_j (by decide), th_w_j (by decide)]
  · rw [th_seg_ne (by decide), th_seg_ne (by decide), th_seg_ne (by decide), th_seg_ne (by decide), th_w_j (by decide), th_w_j (by decide), th_w_j (by decide), th_w_j (by decide), th_w_j (by decide)]
  · rw [th_seg_ne (by decide), th_seg_ne (by decide), th_seg_ne (by decide), th_seg_ne (by decide), th_w_j (by decide), th_w_j (by decide), th_w_j (by decide), th_w_j (by decide), th_w_j (by decide)]
  · unfold bKi
    rw [th_seg_ne (by decide), th_seg_ne (by decide), th_seg_ne (by decide), th_seg_ne (by decide), th_w_j (by decide), th_w_j (by decide), th_w_if, if_pos ⟨rfl, rfl⟩]
    have e0 : (0 : Int32).toInt = 0 := by decide
    omega
theorem I_line {i : Nat} {s : th_Vl} (h : INV i s) (sh : Int32) (b : Bool) : INV (i + 1) (n_line s sh b) := by
  unfold n_line
  split
  · exact h.up
  · split
    · exact h.up
    · split
      · exact h.up
      · rename_i hsh h8 hft
        have hsh := Classical.not_not.mp hsh
        obtain ⟨⟨h1, h2, h3, h4⟩, h5, ⟨h6, h7⟩, hsp, h9, h10, h11, h12⟩ := h
        have hI := th_ixI h2.1
        have hS := th_self h2.1
        have h0 : 0 ≤ (s 36 10).toInt := h4.1
        have hTI := th_ixI h0
        have h60 : (s 36 10).toInt ≤ 60 := h4.2
        have hlt : ix (s 36 11) < 8 := by
          rcases Nat.lt_or_ge (ix (s 36 11)) 8 with w | w
          · exact w
          · exact absurd (by rw [hS, show ix (s 36 11) = 8 by have := h2.2; omega]; rfl) h8
        have eN : s 36 11 + 1 = nI (ix (s 36 11) + 1) := by rw [nI_succ, ← hS]
        have eT := nI_toInt (n := ix (s 36 11) + 1) (by omega)
        have eC : ix (s 36 11 + 1) = ix (s 36 11) + 1 := by rw [eN]; exact nI_clamp (by omega)
        generalize hK : ix (s 36 11) = K at hlt eN eT eC hI
        have e : ∀ a, a ≠ 36 → (a < 46 ∨ 53 < a) → th_w (th_w (ln1 s sh b K) 36 10 0) 36 11 (s 36 11 + 1) a = s a := fun a a1 a2 => by
          unfold ln1
          rw [th_w_ne a1, th_w_ne a1, th_w_ne (by omega), th_w_ne (by omega), th_w_ne (by omega), th_w_ne (by omega), th_w_ne (by omega), th_w_ne (by omega), th_w_ne (by omega), th_seg_ne (by omega)]
        have ek : ∀ k, k ≠ 11 → k ≠ 10 → th_w (th_w (ln1 s sh b K) 36 10 0) 36 11 (s 36 11 + 1) 36 k = s 36 k := fun k k1 k2 => by
          unfold ln1
          rw [th_w_j k1, th_w_j k2, th_w_ne (by decide), th_w_ne (by decide), th_w_ne (by decide), th_w_ne (by decide), th_w_ne (by decide), th_w_ne (by decide), th_w_ne (by decide), th_seg_ne (by decide)]
        have eL : th_w (th_w (ln1 s sh b K) 36 10 0) 36 11 (s 36 11 + 1) 36 11 = s 36 11 + 1 := by rw [th_w_if, if_pos ⟨rfl, rfl⟩]
        have eP : th_w (th_w (ln1 s sh b K) 36 10 0) 36 11 (s 36 11 + 1) 36 10 = 0 := by rw [th_w_j (by decide), th_w_if, if_pos ⟨rfl, rfl⟩]
        have eG : ∀ k, th_w (th_w (ln1 s sh b K) 36 10 0) 36 11 (s 36 11 + 1) 47 k = if k = K then s 36 10 else s 47 k := fun k => by
          unfold ln1
          rw [th_w_ne (by decide), th_w_ne (by decide), th_w_ne (by decide), th_w_ne (by decide), th_w_ne (by decide), th_w_ne (by decide), th_w_ne (by decide), th_w_ne (by decide), th_w_if]
          by_cases w : k = K
          · rw [if_pos ⟨rfl, w⟩, if_pos w]
          · rw [if_neg (fun z => w z.2), if_neg w, th_seg_ne (by decide)]
        have eH : ∀ k, th_w (th_w (ln1 s sh b K) 36 10 0) 36 11 (s 36 11 + 1) 48 k = if k = K then sh else s 48 k := fun k => by
          unfold ln1
          rw [th_w_ne (by decide), th_w_ne (by decide), th_w_ne (by decide), th_w_ne (by decide), th_w_ne (by decide), th_w_ne (by decide), th_w_ne (by decide), th_w_if]
          by_cases w : k = K
          · rw [if_pos ⟨rfl, w⟩, if_pos w]
          · rw [if_neg (fun z => w z.2), if_neg w, th_w_ne (by decide), th_seg_ne (by decide)]
        have eX : th_w (th_w (ln1 s sh b K) 36 10 0) 36 11 (s 36 11 + 1) 46 = th_seg s 46 (60 * K) (ix (s 36 10)) (ltx s) 46 := by
          unfold ln1
          rw [th_w_ne (by decide), th_w_ne (by decide), th_w_ne (by decide), th_w_ne (by decide), th_w_ne (by decide), th_w_ne (by decide), th_w_ne (by decide), th_w_ne (by decide), th_w_ne (by decide)]
        generalize th_w (th_w (ln1 s sh b K) 36 10 0) 36 11 (s 36 11 + 1) = s' at e ek eL eP eG eH eX ⊢
        refine ⟨⟨h1.c (ek _ (by decide) (by decide)), ?_, h3.c (e _ (by decide) (by decide)), ?_⟩, h5.c (Nat.le_succ _) (ek _ (by decide) (by decide)), ⟨h6.c (e _ (by decide) (by decide)), h7.c (e _ (by decide) (by decide))⟩, hsp.c (ek _ (by decide) (by decide)) (e _ (by decide) (by decide)), fun k hk => ?_, ⟨fun k => ?_, fun k => ?_⟩, fun j hj A => ?_, fun j hj => ?_⟩
        · show inR (s' 36 11) 0 8
          rw [eL, eN]
          constructor <;> omega
        · show inR (s' 36 10) 0 60
          rw [eP]
          decide
        · rw [eG]
          split
          · exact h4
          · exact h9 k hk
        · rw [e _ (by decide) (by decide)]; exact h10.1 k
        · rw [eX]
          by_cases w : 60 * K ≤ k ∧ k < 60 * K + ix (s 36 10)
          · rw [th_seg_in w.1 w.2]
            exact isBy_8 _
          · rw [th_seg_out (by omega)]
            exact h10.2 k
        · rw [eL, eC] at hj
          by_cases w : j = K
          · subst w
            have hl0 : ∀ p, ix (s 36 10) ≤ p → lt s' j p = 0 := fun p hp => by
              unfold lt
              rw [eG, if_pos rfl, if_neg (by omega)]
            have hlT : ∀ p, p < ix (s 36 10) → lt s' j p = s 45 p := fun p hp => by
              unfold lt
              rw [eG, if_pos rfl, if_pos hp, eX, th_seg_in (by omega) (by omega), show 60 * j + p - 60 * j = p by omega, ltx, h10.1 p]
            obtain ⟨⟨t, q, ok⟩, hr⟩ := prs_tot (A := A) hl0 250 2 0 false 0 (Nat.zero_le _) (by show 4 * (ix (s 36 10) - 0) + 3 ≤ 250; omega)
            obtain ⟨hql, hfl⟩ := prs_fault (T := s 45) hl0 hlT (by omega) hr
            have hfl : fTp s = if ok = true ∧ q = ix (s 36 10) then -1 else nI q := hfl
            by_cases hok : ok = true ∧ q = ix (s 36 10)
            · refine ⟨t, ?_⟩
              rw [hr, eG, if_pos rfl, hok.1, hok.2]
            · rw [if_neg hok] at hfl
              exfalso
              apply hft
              rw [hfl, nI_toInt (by omega)]
              omega
          · have hl1 : lt s' j = lt s j := by
              funext p
              unfold lt
              rw [eG, if_neg w, eX]
              by_cases hp : p < ix (s 47 j)
              · have hle := h9 j (by omega)
                have := th_ixI hle.1
                have := hle.2
                rw [if_pos hp, if_pos hp, th_seg_out (by omega)]
              · rw [if_neg hp, if_neg hp]
            rw [hl1, eG, if_neg w]
            exact h11 j (by omega) A
        · rw [eL, eC] at hj
          rw [eH]
          split
          · exact hsh
          · exact h12 j (by omega)
theorem nlk_row {U s : th_Vl} {a : Nat} (h : a < 36 ∨ (36 < a ∧ a < 50) ∨ 56 < a) : nlk U s a = U a := by
  unfold nlk
  split
  · exact lk2_row (by omega)
  · unfold lk5
    rw [th_w_ne (by omega), th_w_ne (by omega), lk4_row (by omega), lk3_row (by omega), lk2_row (by omega)]
theorem nlk_fld {U s : th_Vl} {k : Nat} (h : k ≠ 23 ∧ k ≠ 22 ∧ k ≠ 25) : nlk U s 36 k = U 36 k := by
  unfold nlk
  split
  · exact lk2_fld h.1
  · unfold lk5
    rw [th_w_j h.2.2, th_w_j h.2.1, lk4_row (by decide), lk3_row (by decide), lk2_fld h.1]
theorem I_fire {i : Nat} {s : th_Vl} (h : INV i s) (hi : i < 1000000) : INV (i + 1) (n_fire s) := by
  rw [nfire_eq]
  have key : ∀ x : th_Vl, (∀ a, a ≠ 36 → (a < 50 ∨ 56 < a) → x a = s a) → (∀ k, k = 6 ∨ k = 11 ∨ k = 10 → x 36 k = s 36 k) → bKi (i + 1) x → bRh x → INV (i + 1) (n_noh x) := by
    intro x e f hk hr
    obtain ⟨⟨h1, h2, h3, h4⟩, h5, ⟨h6, h7⟩, h8, h9, h10, h11, h12⟩ := h
    have nm : n_noh x 36 = x 36 := th_seg_ne (by decide)
    have na : ∀ a, a ≠ 36 → a ≠ 40 → (a < 50 ∨ 56 < a) → n_noh x a = s a := fun a a1 a2 a3 => (th_seg_ne a2).trans (e a a1 a3)
    refine ⟨⟨h1.c (by rw [nm]; exact f _ (by omega)), h2.c (by rw [nm]; exact f _ (by omega)), h3.c (na _ (by decide) (by decide) (by decide)), h4.c (by rw [nm]; exact f _ (by omega))⟩, hk.c (Nat.le_refl _) (by rw [nm]), ⟨fun k hk => ?_, hr.c (th_seg_ne (by decide))⟩, h8.c (by rw [nm]; exact f _ (by omega)) (na _ (by decide) (by decide) (by decide)), h9.c (na _ (by decide) (by decide) (by decide)), h10.c (na _ (by decide) (by decide) (by decide)) (na _ (by decide) (by decide) (by decide)), h11.c (by rw [nm]; exact f _ (by omega)) (na _ (by decide) (by decide) (by decide)) (na _ (by decide) (by decide) (by decide)), h12.c (by rw [nm]; exact f _ (by omega)) (na _ (by decide) (by decide) (by decide))⟩
    show inR (th_seg x 40 0 5 _ 40 k) 0 65535
    rw [th_seg_in (Nat.zero_le _) (by omega)]
    decide
  have hki := h.2.1
  have hrh := h.2.2.1.2
  have hhi := h.2.2.1.1
  split
  · refine key _ (fun a a1 _ => by rw [th_w_ne a1, th_w_ne a1, th_w_ne a1]) (fun k hk => by rw [th_w_j (by omega), th_w_j (by omega), th_w_j (by omega)]) (hki.c (Nat.le_succ _) (by rw [th_w_j (by decide), th_w_j (by decide), th_w_j (by decide)])) (hrh.c (by rw [th_w_ne (by decide), th_w_ne (by decide), th_w_ne (by decide)]))
  · refine key _ (fun a a1 a2 => by rw [nlk_row (by omega), th_w_ne a1]) (fun k hk => by rw [nlk_fld (by omega), th_w_j (by omega)]) ?_ ?_
    · unfold nlk
      split
      · refine hki.c (Nat.le_succ _) ?_
        rw [lk2_fld (by decide), th_w_j (by decide)]
      · have hS := th_self hki.1
        have hI := th_ixI hki.1
        have h2 := hki.2
        have e1 : s 36 22 + 1 = nI (ix (s 36 22) + 1) := by rw [nI_succ, ← hS]
        have e2 := nI_toInt (n := ix (s 36 22) + 1) (by omega)
        unfold bKi lk5
        rw [th_w_j (by decide), th_w_if, if_pos ⟨rfl, rfl⟩, e1]
        omega
    · unfold nlk
      split
      · exact hrh.c (by rw [lk2_row (by decide), th_w_ne (by decide)])
      · intro k hk
        unfold lk5 lk4
        rw [th_w_ne (by decide), th_w_ne (by decide)]
        have hm : lto s < 30 := Nat.mod_lt _ (by decide)
        by_cases w : 5 * lto s ≤ k ∧ k < 5 * lto s + 5
        · rw [th_seg_in w.1 w.2]
          exact hhi _ (by omega)
        · rw [th_seg_out (by omega), th_w_ne (by decide), th_w_ne (by decide), lk3_row (by decide), lk2_row (by decide), th_w_ne (by decide)]
          exact hrh k hk
