/-! numbers: the tracks of a road, as the class goes through them -/
theorem ccl_mem {v sp x : Int32} : ∀ n, x ∈ ccl v sp n → ∃ c, c < n ∧ x = nI c
  | 0, h => by simp [ccl] at h
  | n + 1, h => by
    rw [ccl] at h
    split at h
    · rcases List.mem_append.mp h with h | h
      · obtain ⟨c, h1, h2⟩ := ccl_mem n h
        exact ⟨c, by omega, h2⟩
      · exact ⟨n, by omega, List.mem_singleton.mp h⟩
    · obtain ⟨c, h1, h2⟩ := ccl_mem n h
      exact ⟨c, by omega, h2⟩
theorem trk_mem {F : Nat → List Int32} : ∀ k j (t : List Int32), t ∈ trk F j k → t.length = k ∧ ∀ q, q < k → th_nth t q 0 ∈ F (j + q)
  | 0, j, t, h => by
    rw [trk, List.mem_singleton] at h
    subst h
    exact ⟨rfl, fun q hq => absurd hq (Nat.not_lt_zero _)⟩
  | k + 1, j, t, h => by
    rw [trk] at h
    obtain ⟨c, hc, h⟩ := List.mem_flatMap.mp h
    obtain ⟨u, hu, rfl⟩ := List.mem_map.mp h
    obtain ⟨h1, h2⟩ := trk_mem k (j + 1) u hu
    refine ⟨by simp [h1], fun q hq => ?_⟩
    cases q with
    | zero => exact hc
    | succ q =>
      have := h2 q (by omega)
      rw [show j + (q + 1) = j + 1 + q by omega]
      exact this
theorem trk_cons {F : Nat → List Int32} {j k : Nat} {c : Int32} {t : List Int32} (hc : c ∈ F j) (ht : t ∈ trk F (j + 1) k) : c :: t ∈ trk F j (k + 1) := by
  rw [trk]
  exact List.mem_flatMap.mpr ⟨c, hc, List.mem_map.mpr ⟨t, ht, rfl⟩⟩
/-- the cells of the held layers of a road -/
def Frw (f g : Nat → Int32) (k : Nat) : List Int32 := if exB (f k) (g k) 16 = false then [-1] else ccl (f k) (g k) 16
theorem Frow_Frw {s : th_Vl} {i k : Nat} (hk : k < 5) : Frow s (hmR s i) i k = Frw (sn s) (fun q => s 43 (5 * i + q)) k := by
  have hb : ((hmR s i >>> (nI k &&& 31)) &&& 1 = 0) ↔ exB (sn s k) (s 43 (5 * i + k)) 16 = false := hm_bit (f := sn s) (g := fun q => s 43 (5 * i + q)) hk
  show (if (hmR s i >>> (nI k &&& 31)) &&& 1 = 0 then [-1] else ccl (sn s k) (s 43 (5 * i + k)) 16) = (if exB (sn s k) (s 43 (5 * i + k)) 16 = false then [-1] else ccl (sn s k) (s 43 (5 * i + k)) 16)
  generalize exB (sn s k) (s 43 (5 * i + k)) 16 = x at hb ⊢
  by_cases h : x = false
  · rw [if_pos (hb.mpr h), if_pos h]
  · rw [if_neg (fun z => h (hb.mp z)), if_neg h]
theorem trk_F {F F' : Nat → List Int32} : ∀ k j, (∀ q, j ≤ q → q < j + k → F q = F' q) → trk F j k = trk F' j k
  | 0, _, _ => rfl
  | k + 1, j, h => by rw [trk, trk, trk_F k (j + 1) (fun q h1 h2 => h q (by omega) (by omega)), h j (by omega) (by omega)]
/-- every track: the number above the line -/
theorem trk_top {f g : Nat → Int32} {t : List Int32} (ht : t ∈ trk (Frw f g) 0 5) : topC (ms (hm f g 5) (rowF t) 5) = topOf (hm f g 5) (rowF t) ∧ 0 ≤ (topOf (hm f g 5) (rowF t)).toInt ∧ (topOf (hm f g 5) (rowF t)).toInt ≤ 281250 := by
  obtain ⟨h1, h2⟩ := trk_mem 5 0 t ht
  have hc : ∀ k, k < 5 → exB (f k) (g k) 16 = true → ∃ c : Nat, c < 16 ∧ th_nth t k 0 = nI c := by
    intro k hk hb
    have := h2 k hk
    rw [Nat.zero_add, Frw, if_neg (by rw [hb]; simp)] at this
    exact ccl_mem 16 this
  refine top_ok (p := fun k => exB (f k) (g k) 16) (c := fun k => if h : k < 5 ∧ exB (f k) (g k) 16 = true then ((Classical.choose (hc k h.1 h.2) : Nat) : Int) else 0) (fun k hk => hm_bit hk) (fun k hk hb => ?_) (fun j => ?_)
  · rw [dif_pos ⟨hk, hb⟩]
    exact (Classical.choose_spec (hc k hk hb)).2
  · split
    · rename_i h
      have := (Classical.choose_spec (hc j h.1 h.2)).1
      omega
    · omega
/-- the class takes a trial -/
abbrev th_c2 : Type := Int32 × List Int32
def cstep (h : Int32) (b : th_c2) (t : List Int32) : th_c2 := if b.1.toInt ≤ (topOf h (rowF t)).toInt then b else (topOf h (rowF t), t)
theorem cstep_fold {h : Int32} (hl : ∀ t : List Int32, 0 < (lowOf h (rowF t)).toInt) : ∀ (ts : List (List Int32)) (b : th_b) (c : th_c2), 0 < b.2.1.toInt → c = (b.1, b.2.2) → ts.foldl (cstep h) c = ((ts.foldl (bstep h) b).1, (ts.foldl (bstep h) b).2.2)
  | [], b, c, _, hc => hc
  | t :: ts, b, c, hb, hc => by
    rw [List.foldl_cons, List.foldl_cons]
    refine cstep_fold hl ts (bstep h b t) (cstep h c t) ?_ ?_
    · unfold bstep
      split
      · exact hb
      · exact hl t
    · unfold bstep cstep
      subst hc
      by_cases hq : b.1.toInt ≤ (topOf h (rowF t)).toInt
      · rw [if_pos hq, if_pos ⟨hb, hq⟩]
      · rw [if_neg hq, if_neg (fun z => hq z.2)]
theorem cstep_perfect {h : Int32} {b : th_c2} (hb : b.1 = 0) : ∀ ts : List (List Int32), (∀ t, t ∈ ts → 0 ≤ (topOf h (rowF t)).toInt) → ts.foldl (cstep h) b = b
  | [], _ => rfl
  | t :: ts, hn => by
    have e : cstep h b t = b := by
      unfold cstep
      rw [if_pos]
      rw [hb]
      exact hn t (List.mem_cons_self)
    rw [List.foldl_cons, e]
    exact cstep_perfect hb ts (fun u hu => hn u (List.mem_cons_of_mem _ hu))
/-- the class's track is the reference's -/
theorem cfold_tb (s : th_Vl) (i : Nat) (x : List Int32) : (trk (Frw (sn s) (fun q => s 43 (5 * i + q))) 0 5).foldl (cstep (hmR s i)) (1073741824, x) = ((tb s i).1, (tb s i).2.2) := by
  have eF : trk (Frow s (hmR s i) i) 0 5 = trk (Frw (sn s) (fun q => s 43 (5 * i + q))) 0 5 := trk_F 5 0 (fun q _ hq => Frow_Frw (by omega))
  have hne : trk (Frow s (hmR s i) i) 0 5 ≠ [] := trk_ne 5 0 (fun q _ hq => Frow_ne (by omega))
  have ht := fun t (h : t ∈ trk (Frow s (hmR s i) i) 0 5) => trk_top (f := sn s) (g := fun q => s 43 (5 * i + q)) (eF ▸ h)
  have hl : ∀ t : List Int32, 0 < (lowOf (hmR s i) (rowF t)).toInt := fun t => (low_pos _ _ _).1
  rw [← eF]
  unfold tb
  cases hT : trk (Frow s (hmR s i) i) 0 5 with
  | nil => exact absurd hT hne
  | cons t ts =>
    rw [List.foldl_cons]
    have := (ht t (by rw [hT]; exact List.mem_cons_self)).2.2
    have e : cstep (hmR s i) (1073741824, x) t = (topOf (hmR s i) (rowF t), t) := by
      unfold cstep
      rw [if_neg]
      show ¬ (1073741824 : Int32).toInt ≤ _
      have z : (1073741824 : Int32).toInt = 1073741824 := by decide
      have w : (topOf (hmR s i) (rowF t)).toInt ≤ 281250 := this
      omega
    rw [e]
    exact cstep_fold hl ts (topOf (hmR s i) (rowF t), lowOf (hmR s i) (rowF t), t) _ (hl t) rfl
theorem fold_in {h : Int32} (P : Int32 × List Int32 → Prop) (hP : ∀ b t, P b → P (cstep h b t)) : ∀ (ts : List (List Int32)) (b : th_c2), P b → P (ts.foldl (cstep h) b)
  | [], b, hb => hb
  | t :: ts, b, hb => fold_in P hP ts _ (hP b t hb)
theorem bfold_mem {h : Int32} {T : List Int32 → Prop} : ∀ (ts : List (List Int32)) (b : th_b), (∀ t, t ∈ ts → T t) → (T b.2.2 ∧ b.1 = topOf h (rowF b.2.2)) → T (ts.foldl (bstep h) b).2.2 ∧ (ts.foldl (bstep h) b).1 = topOf h (rowF (ts.foldl (bstep h) b).2.2)
  | [], b, _, hb => hb
  | t :: ts, b, ht, hb => by
    rw [List.foldl_cons]
    refine bfold_mem ts _ (fun u hu => ht u (List.mem_cons_of_mem _ hu)) ?_
    unfold bstep
    split
    · exact hb
    · exact ⟨ht t List.mem_cons_self, rfl⟩
/-- the track in hand is a track -/
theorem tb_mem (s : th_Vl) (i : Nat) : (tb s i).2.2 ∈ trk (Frw (sn s) (fun q => s 43 (5 * i + q))) 0 5 ∧ (tb s i).1 = topOf (hmR s i) (rowF (tb s i).2.2) := by
  have eF : trk (Frow s (hmR s i) i) 0 5 = trk (Frw (sn s) (fun q => s 43 (5 * i + q))) 0 5 := trk_F 5 0 (fun q _ hq => Frow_Frw (by omega))
  have hne : trk (Frow s (hmR s i) i) 0 5 ≠ [] := trk_ne 5 0 (fun q _ hq => Frow_ne (by omega))
  rw [← eF]
  unfold tb
  cases hT : trk (Frow s (hmR s i) i) 0 5 with
  | nil => exact absurd hT hne
  | cons t ts => exact bfold_mem (T := fun u => u ∈ t :: ts) ts (topOf (hmR s i) (rowF t), lowOf (hmR s i) (rowF t), t) (fun u hu => List.mem_cons_of_mem _ hu) ⟨List.mem_cons_self, rfl⟩
theorem tb_top (s : th_Vl) (i : Nat) : 0 ≤ (tb s i).1.toInt ∧ (tb s i).1.toInt ≤ 281250 := by
  obtain ⟨h1, h2⟩ := tb_mem s i
  rw [h2]
  exact (trk_top h1).2
/-- each cell of the track: -1 or one of 16 -/
theorem tb_cell (s : th_Vl) (i : Nat) {k : Nat} (hk : k < 5) : th_nth (tb s i).2.2 k 0 = -1 ∨ ∃ c : Nat, c < 16 ∧ th_nth (tb s i).2.2 k 0 = nI c := by
  have := (trk_mem 5 0 _ (tb_mem s i).1).2 k hk
  rw [Nat.zero_add] at this
  unfold Frw at this
  split at this
  · exact Or.inl (List.mem_singleton.mp this)
  · exact Or.inr (ccl_mem 16 this)
