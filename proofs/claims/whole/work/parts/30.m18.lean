/-! the reference: faults of a text; a line comes -/
/-- how many figures stand from p on, f at most, below len -/
def fgN (T : Nat → Int32) (len : Nat) : Nat → Nat → Nat
  | 0, _ => 0
  | f + 1, p => if p < len ∧ isFg (T p) then fgN T len f (p + 1) + 1 else 0
def popB : List Int32 → List Int32
  | [] => []
  | c :: r => if c = 33 then popB r else c :: r
/-- the FAULT of the letters T from p on, what stands open, whether a ONE is due -/
def flt (T : Nat → Int32) (len : Nat) : Nat → Nat → List Int32 → Bool → Int32
  | 0, _, _, _ => -1
  | f + 1, p, st, due =>
    if p < len then
      if due = true ∧ (T p = 33 ∨ T p = 40) then (if st.length = 20 then nI p else flt T len f (p + 1) (T p :: st) true)
      else if due = true then
        (if isNm (T p) then (if fgN T len 3 (p + 1) = 0 then nI (p + 1) else flt T len f (p + 1 + fgN T len 3 (p + 1)) (popB st) false) else nI p)
      else if T p = 124 ∨ T p = 38 then flt T len f (p + 1) st true
      else if T p = 41 ∧ 0 < st.length then flt T len f (p + 1) (popB (st.tail)) false
      else nI p
    else if due = true ∨ 0 < st.length then nI len else -1
def stR (W : th_Vl) : List Int32 → Prop
  | [] => True
  | c :: r => W 62 r.length = c ∧ stR W r
theorem stR_w {W : th_Vl} {x : Int32} {m : Nat} : ∀ st : List Int32, st.length ≤ m → stR W st → stR (th_w W 62 m x) st
  | [], _, _ => trivial
  | c :: r, h, hs => ⟨by
      have : r.length < m := by simp at h; omega
      rw [th_w_j (by omega)]
      exact hs.1, stR_w r (by simp at h; omega) hs.2⟩
theorem popB_len : ∀ st : List Int32, (popB st).length ≤ st.length
  | [] => Nat.le_refl _
  | c :: r => by
    rw [popB]
    split
    · have := popB_len r
      simp
      omega
    · exact Nat.le_refl _
theorem fgN_le (T : Nat → Int32) (len : Nat) : ∀ f p, p ≤ len → p + fgN T len f p ≤ len ∧ fgN T len f p ≤ f
  | 0, p, h => ⟨h, Nat.le_refl _⟩
  | f + 1, p, h => by
    rw [fgN]
    split
    · have := fgN_le T len f (p + 1) (by omega)
      omega
    · omega
def fTp (s : th_Vl) : Int32 := flt (s 45) (ix (s 36 10)) 62 0 [] true
def a_line (s : th_Vl) (sh : Int32) : Int32 := if ¬ inR sh 1 100 then -1 else if s 36 11 = 8 then -2 else if 0 ≤ (fTp s).toInt then -100 - fTp s else s 36 11
def ltx (s : th_Vl) (j : Nat) : Int32 := (s 45 j).toInt8.toInt32
def ln1 (s : th_Vl) (sh : Int32) (b : Bool) (K : Nat) : th_Vl := th_w (th_w (th_w (th_w (th_w (th_w (th_w (th_seg s 46 (60 * K) (ix (s 36 10)) (ltx s)) 47 K (s 36 10)) 48 K sh) 49 K (cond b 1 0)) 50 K 0) 51 K 0) 52 K 0) 53 K 0
def n_line (s : th_Vl) (sh : Int32) (b : Bool) : th_Vl := if ¬ inR sh 1 100 then s else if s 36 11 = 8 then s else if 0 ≤ (fTp s).toInt then s else th_w (th_w (ln1 s sh b (ix (s 36 11))) 36 10 0) 36 11 (s 36 11 + 1)
section M18
variable {G : th_G} {l : Launch} {d : Nat} {n : Nat} {SH : Nat → Option th_K0} {V : th_Vl}
/-- only the row of what stands open changes -/
def PU (n : Nat) (SH : Nat → Option th_K0) (V : th_Vl) (x : Int32) : Option Value → th_S → Prop := fun r S' => r = some (.int x) ∧ ∃ V', S' = (n, SH, V') ∧ ∀ a, a ≠ 62 → V' a = V a
theorem m_faultOf (hW : wM SH) (ht : bTp (res V)) : MT G l yX10_faultOf kX10_faultOf (d + 1) 0 0 [.ref 36] (n, SH, V) (PU n SH V (fTp V)) := by
  refine MT.of (by decide) rfl rfl (n := 5) rfl (ls := [some (.ref 36), none, none, none, none, none]) rfl ?_
  have h0 : 0 ≤ (V 36 10).toInt := ht.1
  have h60 : (V 36 10).toInt ≤ 60 := ht.2
  have hR := th_self h0
  have hI := th_ixI h0
  unfold fTp
  generalize hLe : ix (V 36 10) = len at hR hI
  have hl60 : len ≤ 60 := by omega
  have lp : ∀ (f p : Nat) (st : List Int32) (due : Bool) (W : th_Vl) (o4 o5 : Option Value), len < p + f → p ≤ len → st.length ≤ 20 → th_c1 [o4, o5] = true → stR W st → (∀ a, a ≠ 62 → W a = V a) → EV G l kX10_faultOf (d + 1) 0 0 6 [some (.ref 36), some (.int (nI st.length)), some (.int (cond due 1 0)), some (.int (nI p)), o4, o5] [] (n, SH, W) (PU n SH V (flt (V 45) len f p st due)) := by
    intro f
    induction f with
    | zero => intro p st due W o4 o5 h1 h2; omega
    | succ f ih =>
      intro p st due W o4 o5 hf hp0 hst ho hsR hWV
      have o5' : th_c1 [o5] = true := by simpa [th_c1] using (Bool.and_eq_true_iff.mp ho).2
      have eT : W 45 = V 45 := hWV _ (by decide)
      have eM : W 36 = V 36 := hWV _ (by decide)
      have eLn : W 36 10 = nI len := by rw [eM]; exact hR
      rw [flt]
      by_cases hp : p < len
      · rw [if_pos hp]
        -- behind a ONE or a bracket: what ! stood ahead of it ends too
        have pop : ∀ (q : Nat) (o4 o5 : Option Value), th_c1 [o4, o5] = true → len < q + f → q ≤ len → ∀ (st2 : List Int32), st2.length ≤ 20 → stR W st2 → EV G l kX10_faultOf (d + 1) 0 0 176 [some (.ref 36), some (.int (nI st2.length)), some (.int 0), some (.int (nI q)), o4, o5] [] (n, SH, W) (PU n SH V (flt (V 45) len f q (popB st2) false)) := by
          intro q o4 o5 ho hq1 hq2 st2
          have hend : ∀ st3 : List Int32, st3.length ≤ 20 → stR W st3 → EV G l kX10_faultOf (d + 1) 0 0 203 [some (.ref 36), some (.int (nI st3.length)), some (.int 0), some (.int (nI q)), o4, o5] [] (n, SH, W) (PU n SH V (flt (V 45) len f q st3 false)) := by
            intro st3 h1 h2
            refine ev_goto (q := 6) dX10_faultOf_203 (by decide) ?_
            exact ih q st3 false W o4 o5 hq1 hq2 h1 ho h2 hWV
          induction st2 with
          | nil =>
            intro h1 h2
            refine ev_iload2 (q := 177) dX10_faultOf_176 rfl ?_
            refine ev_if_ne (q := 180) (t := 203) dX10_faultOf_177 rfl (by decide) (fun c177 => ?_) (fun c177 => ?_)
            · exact absurd rfl c177
            · refine ev_iload1 (q := 181) dX10_faultOf_180 rfl ?_
              refine ev_if_le (q := 184) (t := 203) dX10_faultOf_181 rfl (by decide) (fun c181 => ?_) (fun c181 => ?_)
              · exact hend [] h1 h2
              · exact absurd (by decide) c181
          | cons c r ir =>
            intro h1 h2
            have hrl : r.length < 20 := by have h1' := h1; simp at h1'; omega
            have e62 : W 62 r.length = c := h2.1
            have el : nI (c :: r).length = nI (r.length + 1) := rfl
            refine ev_iload2 (q := 177) dX10_faultOf_176 rfl ?_
            refine ev_if_ne (q := 180) (t := 203) dX10_faultOf_177 rfl (by decide) (fun c177 => ?_) (fun c177 => ?_)
            · exact absurd rfl c177
            · refine ev_iload1 (q := 181) dX10_faultOf_180 rfl ?_
              refine ev_if_le (q := 184) (t := 203) dX10_faultOf_181 rfl (by decide) (fun c181 => ?_) (fun c181 => ?_)
              · exact absurd c181 (nI_nle (by simp) (by simp; omega))
              · refine ev_aload0 (q := 185) dX10_faultOf_184 rfl ?_
                refine ev_getR (q := 188) dX10_faultOf_185 g_X10_87 (hW _ _ rfl) rfl rfl rfl ?_
                refine ev_iload1 (q := 189) dX10_faultOf_188 rfl ?_
                refine ev_iconst (q := 190) (v := 1) dX10_faultOf_189 rfl rfl ?_
                refine ev_isub (q := 191) dX10_faultOf_190 rfl ?_
                refine ev_iald (q := 192) dX10_faultOf_191 (hW _ _ rfl) (nI_pred r.length) hrl (by decide) rfl ?_
                refine ev_bipush (q := 194) (v := 33) dX10_faultOf_192 rfl rfl ?_
                show EV G l kX10_faultOf _ 0 0 194 _ [.int 33, .int (W 62 r.length)] _ _
                rw [e62, popB]
                refine ev_icmp_ne (q := 197) (t := 203) dX10_faultOf_194 rfl (by decide) (fun c194 => ?_) (fun c194 => ?_)
                · rw [if_neg c194]
                  exact hend (c :: r) h1 h2
                · rw [if_pos c194]
                  refine ev_iinc1 (q := 200) dX10_faultOf_197 rfl (by decide) ho (show nI (r.length + 1) + Int32.ofInt (-1) = nI r.length from pk_m1 r.length) ?_
                  refine ev_goto (q := 176) dX10_faultOf_200 (by decide) ?_
                  exact ir (by omega) h2.2
        refine ev_iload3 (q := 7) dX10_faultOf_6 rfl ?_
        refine ev_aload0 (q := 8) dX10_faultOf_7 rfl ?_
        refine ev_getI (q := 11) dX10_faultOf_8 g_X10_175 (hW _ _ rfl) rfl rfl ?_
        refine ev_icmp_ge (q := 14) (t := 206) dX10_faultOf_11 rfl (by decide) (fun c11 => ?_) (fun c11 => ?_)
        · exact absurd (show W 36 10 ≤ nI p from c11) (by rw [eLn]; exact nI_ge hp (by omega))
        · refine ev_aload0 (q := 15) dX10_faultOf_14 rfl ?_
          refine ev_getR (q := 18) dX10_faultOf_15 g_X10_34 (hW _ _ rfl) rfl rfl rfl ?_
          refine ev_iload3 (q := 19) dX10_faultOf_18 rfl ?_
          refine ev_bald (q := 20) dX10_faultOf_19 (hW _ _ rfl) rfl (show p < 60 by omega) (by decide) rfl ?_
          refine ev_istore4 (q := 22) dX10_faultOf_20 rfl (by decide) ho ?_
          show EV G l kX10_faultOf _ 0 0 22 [_, _, _, _, some (.int (W 45 p)), _] _ _ _
          rw [eT]
          -- the letter isn't an opening one
          have B65 : ¬ (due = true ∧ (V 45 p = 33 ∨ V 45 p = 40)) → EV G l kX10_faultOf (d + 1) 0 0 65 [some (.ref 36), some (.int (nI st.length)), some (.int (cond due 1 0)), some (.int (nI p)), some (.int (V 45 p)), o5] [] (n, SH, W) (PU n SH V (if due = true ∧ (V 45 p = 33 ∨ V 45 p = 40) then (if st.length = 20 then nI p else flt (V 45) len f (p + 1) (V 45 p :: st) true) else if due = true then (if isNm (V 45 p) then (if fgN (V 45) len 3 (p + 1) = 0 then nI (p + 1) else flt (V 45) len f (p + 1 + fgN (V 45) len 3 (p + 1)) (popB st) false) else nI p) else if V 45 p = 124 ∨ V 45 p = 38 then flt (V 45) len f (p + 1) st true else if V 45 p = 41 ∧ 0 < st.length then flt (V 45) len f (p + 1) (popB (st.tail)) false else nI p)) := by
            intro hno
            rw [if_neg hno]
            cases due
            · rw [if_neg (by decide)]
              have B154 : ¬ (V 45 p = 124 ∨ V 45 p = 38) → EV G l kX10_faultOf (d + 1) 0 0 154 [some (.ref 36), some (.int (nI st.length)), some (.int 0), some (.int (nI p)), some (.int (V 45 p)), o5] [] (n, SH, W) (PU n SH V (if V 45 p = 124 ∨ V 45 p = 38 then flt (V 45) len f (p + 1) st true else if V 45 p = 41 ∧ 0 < st.length then flt (V 45) len f (p + 1) (popB (st.tail)) false else nI p)) := by
                intro hn2
                rw [if_neg hn2]
                have B174 : ¬ (V 45 p = 41 ∧ 0 < st.length) → EV G l kX10_faultOf (d + 1) 0 0 174 [some (.ref 36), some (.int (nI st.length)), some (.int 0), some (.int (nI p)), some (.int (V 45 p)), o5] [] (n, SH, W) (PU n SH V (if V 45 p = 41 ∧ 0 < st.length then flt (V 45) len f (p + 1) (popB (st.tail)) false else nI p)) := by
                  intro hn3
                  rw [if_neg hn3]
                  refine ev_iload3 (q := 175) dX10_faultOf_174 rfl ?_
                  exact ev_ireturn dX10_faultOf_175 rfl rfl ⟨rfl, W, rfl, hWV⟩
                refine ev_iload4 (q := 156) dX10_faultOf_154 rfl ?_
                refine ev_bipush (q := 158) (v := 41) dX10_faultOf_156 rfl rfl ?_
                refine ev_icmp_ne (q := 161) (t := 174) dX10_faultOf_158 rfl (by decide) (fun c158 => ?_) (fun c158 => ?_)
                · exact B174 (fun z => c158 z.1)
                · refine ev_iload1 (q := 162) dX10_faultOf_161 rfl ?_
                  refine ev_if_le (q := 165) (t := 174) dX10_faultOf_162 rfl (by decide) (fun c162 => ?_) (fun c162 => ?_)
                  · exact B174 (fun z => absurd c162 (nI_nle z.2 (by omega)))
                  · cases st with
                    | nil => exact absurd (by decide) c162
                    | cons c r =>
                      have hrl : r.length < 20 := by have h1' := hst; simp at h1'; omega
                      rw [if_pos ⟨c158, by simp⟩]
                      refine ev_iinc1 (q := 168) dX10_faultOf_165 rfl (by decide) o5' (show nI (r.length + 1) + Int32.ofInt (-1) = nI r.length from pk_m1 r.length) ?_
                      refine ev_iinc3 (q := 171) dX10_faultOf_168 rfl (by decide) o5' (nI_succ p).symm ?_
                      refine ev_goto (q := 176) dX10_faultOf_171 (by decide) ?_
                      exact pop (p + 1) _ o5 o5' (by omega) (by omega) r (by omega) hsR.2
              have B146 : (V 45 p = 124 ∨ V 45 p = 38) → EV G l kX10_faultOf (d + 1) 0 0 146 [some (.ref 36), some (.int (nI st.length)), some (.int 0), some (.int (nI p)), some (.int (V 45 p)), o5] [] (n, SH, W) (PU n SH V (if V 45 p = 124 ∨ V 45 p = 38 then flt (V 45) len f (p + 1) st true else if V 45 p = 41 ∧ 0 < st.length then flt (V 45) len f (p + 1) (popB (st.tail)) false else nI p)) := by
                intro hy
                rw [if_pos hy]
                refine ev_iconst (q := 147) (v := 1) dX10_faultOf_146 rfl rfl ?_
                refine ev_istore2 (q := 148) dX10_faultOf_147 rfl (by decide) o5' ?_
                refine ev_iinc3 (q := 151) dX10_faultOf_148 rfl (by decide) o5' (nI_succ p).symm ?_
                refine ev_goto (q := 176) dX10_faultOf_151 (by decide) ?_
                refine ev_iload2 (q := 177) dX10_faultOf_176 rfl ?_
                refine ev_if_ne (q := 180) (t := 203) dX10_faultOf_177 rfl (by decide) (fun c177 => ?_) (fun c177 => ?_)
                · refine ev_goto (q := 6) dX10_faultOf_203 (by decide) ?_
                  exact ih (p + 1) st true W _ o5 (by omega) (by omega) hst o5' hsR hWV
                · exact absurd c177 (by decide)
              refine ev_iload2 (q := 66) dX10_faultOf_65 rfl ?_
              refine ev_if_eq (q := 69) (t := 132) dX10_faultOf_66 rfl (by decide) (fun c66 => ?_) (fun c66 => ?_)
              · refine ev_iload4 (q := 134) dX10_faultOf_132 rfl ?_
                refine ev_bipush (q := 136) (v := 124) dX10_faultOf_134 rfl rfl ?_
                refine ev_icmp_eq (q := 139) (t := 146) dX10_faultOf_136 rfl (by decide) (fun c136 => ?_) (fun c136 => ?_)
                · exact B146 (Or.inl c136)
                · refine ev_iload4 (q := 141) dX10_faultOf_139 rfl ?_
                  refine ev_bipush (q := 143) (v := 38) dX10_faultOf_141 rfl rfl ?_
                  refine ev_icmp_ne (q := 146) (t := 154) dX10_faultOf_143 rfl (by decide) (fun c143 => ?_) (fun c143 => ?_)
                  · exact B154 (fun z => z.elim c136 c143)
                  · exact B146 (Or.inr c143)
              · exact absurd rfl c66
            · rw [if_pos rfl]
              refine ev_iload2 (q := 66) dX10_faultOf_65 rfl ?_
              refine ev_if_eq (q := 69) (t := 132) dX10_faultOf_66 rfl (by decide) (fun c66 => ?_) (fun c66 => ?_)
              · exact absurd c66 (by decide)
              · refine ev_iload4 (q := 71) dX10_faultOf_69 rfl ?_
                refine ev_cS (K := kX10_faultOf) (pc := 71) (q := 74) (m_isName _) dX10_faultOf_71 l_X10_178 rfl (Nat.le_of_ble_eq_true rfl) (Nat.le_refl _) rfl rfl (fun r S1 hp => ?_)
                rcases hp with ⟨rfl, ⟨hp71, rfl⟩ | ⟨hp71, rfl⟩⟩
                · rw [if_pos hp71]
                  refine ev_if_ne (q := 77) (t := 79) dX10_faultOf_74 rfl (by decide) (fun c74 => ?_) (fun c74 => ?_)
                  · -- the figures
                    have hfg := fgN_le (V 45) len 3 (p + 1) (by omega)
                    have B120 : ∀ N, N = fgN (V 45) len 3 (p + 1) → EV G l kX10_faultOf (d + 1) 0 0 120 [some (.ref 36), some (.int (nI st.length)), some (.int 1), some (.int (nI (p + 1 + N))), some (.int (V 45 p)), some (.int (nI N))] [] (n, SH, W) (PU n SH V (if fgN (V 45) len 3 (p + 1) = 0 then nI (p + 1) else flt (V 45) len f (p + 1 + fgN (V 45) len 3 (p + 1)) (popB st) false)) := by
                      intro N hN
                      rw [← hN] at hfg ⊢
                      refine ev_iload5 (q := 122) dX10_faultOf_120 rfl ?_
                      refine ev_if_ne (q := 125) (t := 127) dX10_faultOf_122 rfl (by decide) (fun c122 => ?_) (fun c122 => ?_)
                      · have hN0 : ¬ N = 0 := fun e => c122 (by rw [e]; rfl)
                        rw [if_neg hN0]
                        refine ev_iconst (q := 128) (v := 0) dX10_faultOf_127 rfl rfl ?_
                        refine ev_istore2 (q := 129) dX10_faultOf_128 rfl (by decide) rfl ?_
                        refine ev_goto (q := 176) dX10_faultOf_129 (by decide) ?_
                        exact pop (p + 1 + N) _ _ rfl (by omega) (by omega) st hst hsR
                      · have hN0 : N = 0 := (nI_eq (by omega) (by decide)).mp c122
                        subst hN0
                        rw [if_pos rfl]
                        refine ev_iload3 (q := 126) dX10_faultOf_125 rfl ?_
                        exact ev_ireturn dX10_faultOf_126 rfl rfl ⟨rfl, W, rfl, hWV⟩
                    have fl : ∀ (m k : Nat), m + k = 3 → p + 1 + k ≤ len → fgN (V 45) len 3 (p + 1) = k + fgN (V 45) len m (p + 1 + k) → EV G l kX10_faultOf (d + 1) 0 0 85 [some (.ref 36), some (.int (nI st.length)), some (.int 1), some (.int (nI (p + 1 + k))), some (.int (V 45 p)), some (.int (nI k))] [] (n, SH, W) (PU n SH V (if fgN (V 45) len 3 (p + 1) = 0 then nI (p + 1) else flt (V 45) len f (p + 1 + fgN (V 45) len 3 (p + 1)) (popB st) false)) := by
                      intro m
                      induction m with
                      | zero =>
                        intro k hk hk2 hk3
                        have hk3' : k = 3 := by omega
                        subst hk3'
                        refine ev_iload3 (q := 86) dX10_faultOf_85 rfl ?_
                        refine ev_aload0 (q := 87) dX10_faultOf_86 rfl ?_
                        refine ev_getI (q := 90) dX10_faultOf_87 g_X10_175 (hW _ _ rfl) rfl rfl ?_
                        refine ev_icmp_ge (q := 93) (t := 120) dX10_faultOf_90 rfl (by decide) (fun c90 => ?_) (fun c90 => ?_)
                        · exact B120 3 (by rw [hk3]; rfl)
                        · refine ev_iload5 (q := 95) dX10_faultOf_93 rfl ?_
                          refine ev_iconst (q := 96) (v := 3) dX10_faultOf_95 rfl rfl ?_
                          refine ev_icmp_ge (q := 99) (t := 120) dX10_faultOf_96 rfl (by decide) (fun c96 => ?_) (fun c96 => ?_)
                          · exact B120 3 (by rw [hk3]; rfl)
                          · exact absurd (by decide) c96
                      | succ m im =>
                        intro k hk hk2 hk3
                        refine ev_iload3 (q := 86) dX10_faultOf_85 rfl ?_
                        refine ev_aload0 (q := 87) dX10_faultOf_86 rfl ?_
                        refine ev_getI (q := 90) dX10_faultOf_87 g_X10_175 (hW _ _ rfl) rfl rfl ?_
                        refine ev_icmp_ge (q := 93) (t := 120) dX10_faultOf_90 rfl (by decide) (fun c90 => ?_) (fun c90 => ?_)
                        · have hge : ¬ p + 1 + k < len := fun z => absurd (show W 36 10 ≤ nI (p + 1 + k) from c90) (by rw [eLn]; exact nI_ge z (by omega))
                          exact B120 k (by rw [hk3, fgN, if_neg (fun z => hge z.1)]; rfl)
                        · have hlt : p + 1 + k < len := by
                            rcases Nat.lt_or_ge (p + 1 + k) len with z | z
                            · exact z
                            · exact absurd (show W 36 10 ≤ nI (p + 1 + k) by rw [eLn]; exact nI_le z (by omega)) c90
                          refine ev_iload5 (q := 95) dX10_faultOf_93 rfl ?_
                          refine ev_iconst (q := 96) (v := 3) dX10_faultOf_95 rfl rfl ?_
                          refine ev_icmp_ge (q := 99) (t := 120) dX10_faultOf_96 rfl (by decide) (fun c96 => ?_) (fun c96 => ?_)
                          · exact absurd c96 (nI_ge (a := k) (b := 3) (by omega) (by decide))
                          · refine ev_aload0 (q := 100) dX10_faultOf_99 rfl ?_
                            refine ev_getR (q := 103) dX10_faultOf_100 g_X10_34 (hW _ _ rfl) rfl rfl rfl ?_
                            refine ev_iload3 (q := 104) dX10_faultOf_103 rfl ?_
                            refine ev_bald (q := 105) dX10_faultOf_104 (hW _ _ rfl) rfl (show p + 1 + k < 60 by omega) (by decide) rfl ?_
                            show EV G l kX10_faultOf _ 0 0 105 _ [.int (W 45 (p + 1 + k))] _ _
                            rw [eT]
                            refine ev_cS (K := kX10_faultOf) (pc := 105) (q := 108) (m_isFigure _) dX10_faultOf_105 l_X10_181 rfl (Nat.le_of_ble_eq_true rfl) (Nat.le_refl _) rfl rfl (fun r S1 hp => ?_)
                            rcases hp with ⟨rfl, ⟨hp105, rfl⟩ | ⟨hp105, rfl⟩⟩
                            · refine ev_if_eq (q := 111) (t := 120) dX10_faultOf_108 rfl (by decide) (fun c108 => ?_) (fun c108 => ?_)
                              · exact absurd c108 (by decide)
                              · refine ev_iinc5 (q := 114) dX10_faultOf_111 rfl (by decide) rfl (nI_succ k).symm ?_
                                refine ev_iinc3 (q := 117) dX10_faultOf_114 rfl (by decide) rfl (nI_succ (p + 1 + k)).symm ?_
                                refine ev_goto (q := 85) dX10_faultOf_117 (by decide) ?_
                                exact im (k + 1) (by omega) (by omega) (by rw [hk3, fgN, if_pos ⟨hlt, hp105⟩]; rw [show p + 1 + (k + 1) = p + 1 + k + 1 by omega]; omega)
                            · refine ev_if_eq (q := 111) (t := 120) dX10_faultOf_108 rfl (by decide) (fun c108 => ?_) (fun c108 => ?_)
                              · exact B120 k (by rw [hk3, fgN, if_neg (fun z => hp105 z.2)]; rfl)
                              · exact absurd rfl c108
                    refine ev_iinc3 (q := 82) dX10_faultOf_79 rfl (by decide) o5' (nI_succ p).symm ?_
                    refine ev_iconst (q := 83) (v := 0) dX10_faultOf_82 rfl rfl ?_
                    refine ev_istore5 (q := 85) dX10_faultOf_83 rfl (by decide) o5' ?_
                    exact fl 3 0 rfl (by omega) (by rw [Nat.add_zero, Nat.zero_add])
                  · exact absurd c74 (by decide)
                · rw [if_neg hp71]
                  refine ev_if_ne (q := 77) (t := 79) dX10_faultOf_74 rfl (by decide) (fun c74 => ?_) (fun c74 => ?_)
                  · exact absurd rfl c74
                  · refine ev_iload3 (q := 78) dX10_faultOf_77 rfl ?_
                    exact ev_ireturn dX10_faultOf_78 rfl rfl ⟨rfl, W, rfl, hWV⟩
          -- an opening letter
          have B40 : (due = true ∧ (V 45 p = 33 ∨ V 45 p = 40)) → EV G l kX10_faultOf (d + 1) 0 0 40 [some (.ref 36), some (.int (nI st.length)), some (.int (cond due 1 0)), some (.int (nI p)), some (.int (V 45 p)), o5] [] (n, SH, W) (PU n SH V (if due = true ∧ (V 45 p = 33 ∨ V 45 p = 40) then (if st.length = 20 then nI p else flt (V 45) len f (p + 1) (V 45 p :: st) true) else if due = true then (if isNm (V 45 p) then (if fgN (V 45) len 3 (p + 1) = 0 then nI (p + 1) else flt (V 45) len f (p + 1 + fgN (V 45) len 3 (p + 1)) (popB st) false) else nI p) else if V 45 p = 124 ∨ V 45 p = 38 then flt (V 45) len f (p + 1) st true else if V 45 p = 41 ∧ 0 < st.length then flt (V 45) len f (p + 1) (popB (st.tail)) false else nI p)) := by
            intro hy
            rw [if_pos hy]
            refine ev_iload1 (q := 41) dX10_faultOf_40 rfl ?_
            refine ev_bipush (q := 43) (v := 20) dX10_faultOf_41 rfl rfl ?_
            refine ev_icmp_ne (q := 46) (t := 48) dX10_faultOf_43 rfl (by decide) (fun c43 => ?_) (fun c43 => ?_)
            · have hn20 : ¬ st.length = 20 := fun e => c43 (by rw [e]; rfl)
              have hl20 : st.length < 20 := by omega
              rw [if_neg hn20]
              refine ev_aload0 (q := 49) dX10_faultOf_48 rfl ?_
              refine ev_getR (q := 52) dX10_faultOf_49 g_X10_87 (hW _ _ rfl) rfl rfl rfl ?_
              refine ev_iload1 (q := 53) dX10_faultOf_52 rfl ?_
              refine ev_iload4 (q := 55) dX10_faultOf_53 rfl ?_
              refine ev_iast (q := 56) dX10_faultOf_55 (hW _ _ rfl) rfl hl20 (by decide) rfl ?_
              refine ev_iinc1 (q := 59) dX10_faultOf_56 rfl (by decide) o5' (nI_succ st.length).symm ?_
              refine ev_iinc3 (q := 62) dX10_faultOf_59 rfl (by decide) o5' (nI_succ p).symm ?_
              refine ev_goto (q := 6) dX10_faultOf_62 (by decide) ?_
              rw [hy.1]
              exact ih (p + 1) (V 45 p :: st) true (th_w W 62 st.length (V 45 p)) _ o5 (by omega) (by omega) (by simp; omega) o5' ⟨by rw [th_w_if, if_pos ⟨rfl, rfl⟩], stR_w st (Nat.le_refl _) hsR⟩ (fun a ha => (th_w_ne ha).trans (hWV a ha))
            · have h20 : st.length = 20 := (nI_eq (by omega) (by decide)).mp c43
              rw [if_pos h20]
              refine ev_iload3 (q := 47) dX10_faultOf_46 rfl ?_
              exact ev_ireturn dX10_faultOf_47 rfl rfl ⟨rfl, W, rfl, hWV⟩
          cases hdue : due
          · rw [hdue] at B65
            refine ev_iload2 (q := 23) dX10_faultOf_22 rfl ?_
            refine ev_if_eq (q := 26) (t := 65) dX10_faultOf_23 rfl (by decide) (fun c23 => ?_) (fun c23 => ?_)
            · exact B65 (fun z => absurd z.1 (by decide))
            · exact absurd rfl c23
          · rw [hdue] at B65 B40
            refine ev_iload2 (q := 23) dX10_faultOf_22 rfl ?_
            refine ev_if_eq (q := 26) (t := 65) dX10_faultOf_23 rfl (by decide) (fun c23 => ?_) (fun c23 => ?_)
            · exact absurd c23 (by decide)
            · refine ev_iload4 (q := 28) dX10_faultOf_26 rfl ?_
              refine ev_bipush (q := 30) (v := 33) dX10_faultOf_28 rfl rfl ?_
              refine ev_icmp_eq (q := 33) (t := 40) dX10_faultOf_30 rfl (by decide) (fun c30 => ?_) (fun c30 => ?_)
              · exact B40 ⟨rfl, Or.inl c30⟩
              · refine ev_iload4 (q := 35) dX10_faultOf_33 rfl ?_
                refine ev_bipush (q := 37) (v := 40) dX10_faultOf_35 rfl rfl ?_
                refine ev_icmp_ne (q := 40) (t := 65) dX10_faultOf_37 rfl (by decide) (fun c37 => ?_) (fun c37 => ?_)
                · exact B65 (fun z => z.2.elim c30 c37)
                · exact B40 ⟨rfl, Or.inr c37⟩
      · rw [if_neg hp]
        have hpl : p = len := by omega
        have B214 : (due = true ∨ 0 < st.length) → EV G l kX10_faultOf (d + 1) 0 0 214 [some (.ref 36), some (.int (nI st.length)), some (.int (cond due 1 0)), some (.int (nI p)), o4, o5] [] (n, SH, W) (PU n SH V (if due = true ∨ 0 < st.length then nI len else -1)) := by
          intro hy
          rw [if_pos hy]
          refine ev_aload0 (q := 215) dX10_faultOf_214 rfl ?_
          refine ev_getI (q := 218) dX10_faultOf_215 g_X10_175 (hW _ _ rfl) rfl rfl ?_
          refine ev_goto (q := 222) dX10_faultOf_218 (by decide) ?_
          exact ev_ireturn dX10_faultOf_222 rfl rfl ⟨congrArg (fun z => some (Value.int z)) eLn, W, rfl, hWV⟩
        refine ev_iload3 (q := 7) dX10_faultOf_6 rfl ?_
        refine ev_aload0 (q := 8) dX10_faultOf_7 rfl ?_
        refine ev_getI (q := 11) dX10_faultOf_8 g_X10_175 (hW _ _ rfl) rfl rfl ?_
        refine ev_icmp_ge (q := 14) (t := 206) dX10_faultOf_11 rfl (by decide) (fun c11 => ?_) (fun c11 => ?_)
        · cases hdue : due
          · rw [hdue] at B214
            refine ev_iload2 (q := 207) dX10_faultOf_206 rfl ?_
            refine ev_if_ne (q := 210) (t := 214) dX10_faultOf_207 rfl (by decide) (fun c207 => ?_) (fun c207 => ?_)
            · exact absurd rfl c207
            · refine ev_iload1 (q := 211) dX10_faultOf_210 rfl ?_
              refine ev_if_le (q := 214) (t := 221) dX10_faultOf_211 rfl (by decide) (fun c211 => ?_) (fun c211 => ?_)
              · have hs0 : ¬ 0 < st.length := fun z => absurd c211 (nI_nle z (by omega))
                rw [if_neg (fun z => z.elim (fun z => absurd z (by decide)) hs0)]
                refine ev_iconst (q := 222) (v := (-1)) dX10_faultOf_221 rfl rfl ?_
                exact ev_ireturn dX10_faultOf_222 rfl rfl ⟨rfl, W, rfl, hWV⟩
              · have hs0 : 0 < st.length := by
                  rcases Nat.eq_zero_or_pos st.length with z | z
                  · exact absurd (by rw [z]; exact Int32.le_refl _) c211
                  · exact z
                exact B214 (Or.inr hs0)
          · rw [hdue] at B214
            refine ev_iload2 (q := 207) dX10_faultOf_206 rfl ?_
            refine ev_if_ne (q := 210) (t := 214) dX10_faultOf_207 rfl (by decide) (fun c207 => ?_) (fun c207 => ?_)
            · exact B214 (Or.inl rfl)
            · exact absurd c207 (by decide)
        · exact absurd (show W 36 10 ≤ nI p by rw [eLn, hpl]; exact Int32.le_refl _) c11
  refine ev_iconst (q := 1) (v := 0) dX10_faultOf_0 rfl rfl ?_
  refine ev_istore1 (q := 2) dX10_faultOf_1 rfl (by decide) rfl ?_
  refine ev_iconst (q := 3) (v := 1) dX10_faultOf_2 rfl rfl ?_
  refine ev_istore2 (q := 4) dX10_faultOf_3 rfl (by decide) rfl ?_
  refine ev_iconst (q := 5) (v := 0) dX10_faultOf_4 rfl rfl ?_
  refine ev_istore3 (q := 6) dX10_faultOf_5 rfl (by decide) rfl ?_
  exact lp 62 0 [] true V none none (by omega) (Nat.zero_le _) (by simp) rfl trivial (fun _ _ => rfl)
end M18
