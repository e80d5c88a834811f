/-! the reference: a crossing fires -/
def irm (x y : Int32) : Int32 := x - x / y * y
/-- a line passes -/
def pas (s : th_Vl) (k : Nat) : Bool := tvB s k && decide (irm (s 50 k + 1) (s 48 k) = 0)
def f50 (s : th_Vl) (k : Nat) : Int32 := cond (tvB s k) (s 50 k + 1) (s 50 k)
def f51 (s : th_Vl) (k : Nat) : Int32 := cond (pas s k) (s 51 k + 1) (s 51 k)
/-- how many keeps pass, of the first k lines -/
def kpc (s : th_Vl) : Nat → Nat
  | 0 => 0
  | k + 1 => if pas s k = true ∧ s 49 k = 0 then kpc s k + 1 else kpc s k
def brc (s : th_Vl) : Nat → Bool
  | 0 => false
  | k + 1 => brc s k || (pas s k && decide (¬ s 49 k = 0))
def f52 (s : th_Vl) (k : Nat) : Int32 := cond (pas s k) (s 52 k + 1) (s 52 k)
def f53 (s : th_Vl) (L k : Nat) : Int32 := cond (pas s k && decide (kpc s L = 1)) (s 53 k + 1) (s 53 k)
def lk1 (U s : th_Vl) (L : Nat) : th_Vl := th_seg (th_seg U 50 0 L (f50 s)) 51 0 L (f51 s)
def lk2 (U s : th_Vl) (L : Nat) : th_Vl := if 0 < kpc s L ∧ brc s L = true then th_w (lk1 U s L) 36 23 (s 36 23 + 1) else lk1 U s L
def lk3 (U s : th_Vl) (L k : Nat) : th_Vl := th_seg (th_seg (lk2 U s L) 52 0 k (f52 s)) 53 0 k (f53 s L)
def lto (s : th_Vl) : Nat := ix (s 36 22) % 30
def lk4 (U s : th_Vl) (L j : Nat) : th_Vl := th_seg (th_w (th_w (lk3 U s L L) 54 (lto s) (s 36 20)) 55 (lto s) (lm (pas s) L)) 56 (5 * lto s) j (s 40)
def lk5 (U s : th_Vl) (L : Nat) : th_Vl := th_w (th_w (lk4 U s L 5) 36 22 (s 36 22 + 1)) 36 25 (s 36 24)
def a_look (s : th_Vl) : Int32 := if kpc s (ix (s 36 11)) = 0 ∨ brc s (ix (s 36 11)) = true then 0 else lm (pas s) (ix (s 36 11))
def n_look (s : th_Vl) : th_Vl := if kpc s (ix (s 36 11)) = 0 ∨ brc s (ix (s 36 11)) = true then lk2 s s (ix (s 36 11)) else lk5 s s (ix (s 36 11))
def bSh (s : th_Vl) : Prop := ∀ k, k < ix (s 36 11) → ¬ s 48 k = 0
def n_fire (s : th_Vl) : th_Vl := n_noh (th_w (if 0 < (s 36 25).toInt then th_w (th_w s 36 25 (s 36 25 - 1)) 36 21 (s 36 21 + 1) else n_look s) 36 20 (s 36 20 + 1))
def a_fire (s : th_Vl) : Int32 := if 0 < (s 36 25).toInt then -1 else a_look s
theorem th_seg_id {V : th_Vl} {a lo i : Nat} {f : Nat → Int32} (h : f i = V a (lo + i)) : th_seg V a lo (i + 1) f = th_seg V a lo i f := by
  funext b j
  unfold th_seg
  by_cases h1 : b = a ∧ lo ≤ j ∧ j < lo + i
  · rw [if_pos h1, if_pos ⟨h1.1, h1.2.1, by omega⟩]
  · rw [if_neg h1]
    by_cases h2 : b = a ∧ lo ≤ j ∧ j < lo + (i + 1)
    · rw [if_pos h2]
      obtain ⟨rfl, h3, h4⟩ := h2
      have : j = lo + i := by
        rcases Nat.lt_or_ge j (lo + i) with z | z
        · exact absurd ⟨rfl, h3, z⟩ h1
        · omega
      subst this
      rw [show lo + i - lo = i by omega]
      exact h
    · rw [if_neg h2]
theorem pas_hold {s : th_Vl} {k : Nat} (h : tvB s k = false) : pas s k = false := by rw [pas, h, Bool.false_and]
theorem pas_res {V : th_Vl} : pas (res V) = pas V := by
  funext k
  unfold pas
  rw [tvB_res]
  rfl
theorem kpc_res {V : th_Vl} : ∀ k, kpc (res V) k = kpc V k
  | 0 => rfl
  | k + 1 => by rw [kpc, kpc, kpc_res k, pas_res]; rfl
theorem brc_res {V : th_Vl} : ∀ k, brc (res V) k = brc V k
  | 0 => rfl
  | k + 1 => by rw [brc, brc, brc_res k, pas_res]; rfl
theorem kpc_le (s : th_Vl) : ∀ k, kpc s k ≤ k
  | 0 => Nat.le_refl _
  | k + 1 => by
    have := kpc_le s k
    rw [kpc]
    split <;> omega
theorem lk1_res {U s : th_Vl} {L : Nat} : res (lk1 U s L) = lk1 (res U) s L := by
  unfold lk1
  rw [res_seg (fun _ => rfl), res_seg (fun _ => rfl)]
theorem lk2_res {U s : th_Vl} {L : Nat} : res (lk2 U s L) = lk2 (res U) s L := by
  unfold lk2
  by_cases h : 0 < kpc s L ∧ brc s L = true
  · rw [if_pos h, if_pos h, res_w (by rfl), lk1_res]
  · rw [if_neg h, if_neg h, lk1_res]
theorem lk3_res {U s : th_Vl} {L k : Nat} : res (lk3 U s L k) = lk3 (res U) s L k := by
  unfold lk3
  rw [res_seg (fun _ => rfl), res_seg (fun _ => rfl), lk2_res]
theorem lk4_res {U s : th_Vl} {L k : Nat} : res (lk4 U s L k) = lk4 (res U) s L k := by
  unfold lk4
  rw [res_seg (fun _ => rfl), res_w (by rfl), res_w (by rfl), lk3_res]
theorem lk5_res {U s : th_Vl} {L : Nat} : res (lk5 U s L) = lk5 (res U) s L := by
  unfold lk5
  rw [res_w (by rfl), res_w (by rfl), lk4_res]
theorem lk1_row {U s : th_Vl} {L a : Nat} (h : a ≠ 50 ∧ a ≠ 51) : lk1 U s L a = U a := by
  unfold lk1
  rw [th_seg_ne h.2, th_seg_ne h.1]
theorem lk2_row {U s : th_Vl} {L a : Nat} (h : a ≠ 50 ∧ a ≠ 51 ∧ a ≠ 36) : lk2 U s L a = U a := by
  unfold lk2
  split
  · rw [th_w_ne h.2.2, lk1_row ⟨h.1, h.2.1⟩]
  · exact lk1_row ⟨h.1, h.2.1⟩
theorem lk2_fld {U s : th_Vl} {L k : Nat} (h : k ≠ 23) : lk2 U s L 36 k = U 36 k := by
  unfold lk2
  split
  · rw [th_w_j h, lk1_row (by decide)]
  · rw [lk1_row (by decide)]
theorem lk3_row {U s : th_Vl} {L k a : Nat} (h : a ≠ 52 ∧ a ≠ 53) : lk3 U s L k a = lk2 U s L a := by
  unfold lk3
  rw [th_seg_ne h.2, th_seg_ne h.1]
theorem lk4_row {U s : th_Vl} {L k a : Nat} (h : a ≠ 54 ∧ a ≠ 55 ∧ a ≠ 56) : lk4 U s L k a = lk3 U s L L a := by
  unfold lk4
  rw [th_seg_ne h.2.2, th_w_ne h.2.1, th_w_ne h.1]
theorem lk1_FM {V U s : th_Vl} {L : Nat} (h : FM V U) : FM V (lk1 U s L) := (h.sg (by decide)).sg (by decide)
theorem lk2_FM {V U s : th_Vl} {L : Nat} (h : FM V U) : FM V (lk2 U s L) := by
  unfold lk2
  split
  · exact (lk1_FM h).w (by decide)
  · exact lk1_FM h
theorem lk5_FM {V U s : th_Vl} {L : Nat} (h : FM V U) : FM V (lk5 U s L) := ((((((lk2_FM h).sg (by decide)).sg (by decide)).w (by decide)).w (by decide)).sg (by decide)).w (by decide) |>.w (by decide)
section M16
variable {G : th_G} {l : Launch} {d : Nat} {n : Nat} {SH : Nat → Option th_K0} {V : th_Vl}
/-- what a look leaves: as n_look says, scratch apart -/
def PL (n : Nat) (SH : Nat → Option th_K0) (V : th_Vl) : Option Value → th_S → Prop := MP n SH V (a_look V) (res (n_look V))
theorem m_look (hW : wM SH) (hb : bRo (res V)) (hl : bLi (res V)) (he : bLe (res V)) (hv : bEv V) (hsh : bSh V) (hkp : bKp V) : MT G l yX10_look kX10_look (d + 257) 0 0 [.ref 36] (n, SH, V) (PL n SH V) := by
  refine MT.of (by decide) rfl rfl (n := 6) rfl (ls := [some (.ref 36), none, none, none, none, none, none]) rfl ?_
  have h0 : 0 ≤ (V 36 11).toInt := hl.1
  have h8 : (V 36 11).toInt ≤ 8 := hl.2
  have hR := th_self h0
  have hI := th_ixI h0
  have hK := th_self (x := V 36 22) hkp
  have hKI := th_ixI (x := V 36 22) hkp
  have hto : lto V < 30 := Nat.mod_lt _ (by decide)
  have hsh' : ∀ k, k < ix (V 36 11) → ¬ V 48 k = 0 := hsh
  generalize hLe : ix (V 36 11) = L at hR hI hsh'
  have hL8 : L ≤ 8 := by omega
  refine ev_aload0 (q := 1) dX10_look_0 rfl ?_
  refine ev_cV (K := kX10_look) (pc := 1) (q := 4) (m_holding (d := d) hW hb hl he hv) dX10_look_1 l_X10_217 (hW _ _ rfl) rfl rfl (Nat.le_of_ble_eq_true rfl) (Nat.le_refl _) rfl rfl (fun r S1 hp => ?_)
  obtain ⟨rfl, Y, rfl, hY⟩ := hp
  -- the lines are read
  have rd : ∀ a, a ≠ 58 ∧ a ≠ 60 ∧ a ≠ 61 ∧ a ≠ 59 ∧ a ≠ 36 → Y a = V a := fun a ha => hY.row ha
  have hld' : hld V = lm (tvB V) L := by rw [hld, hLe]
  have hbit : ∀ k, k < L → ((hld V >>> (nI k &&& 31)) &&& 1 = 0 ↔ tvB V k = false) := by
    intro k hk
    rw [th_bit0 (by omega), hld', tbit_lm L (by omega)]
    simp [hk]
  have hbitp : ∀ k, k < L → ((lm (pas V) L >>> (nI k &&& 31)) &&& 1 = 0 ↔ pas V k = false) := by
    intro k hk
    rw [th_bit0 (by omega), tbit_lm L (by omega)]
    simp [hk]
  have hFY : FM V Y := hY.FM
  have bad : (kpc V L = 0 ∨ brc V L = true) → ∀ o5 o6 : Option Value, EV G l kX10_look (d + 257) 0 0 139 [some (.ref 36), some (.int (hld V)), some (.int (lm (pas V) L)), some (.int (nI (kpc V L))), some (.int (cond (brc V L) 1 0)), o5, o6] [] (n, SH, lk2 Y V L) (PL n SH V) := by
    intro hc o5 o6
    refine ev_iconst (q := 140) (v := 0) dX10_look_139 rfl rfl ?_
    exact ev_ireturn dX10_look_140 rfl rfl (MP.mk _ (by rw [a_look, hLe, if_pos hc]) (by rw [n_look, hLe, if_pos hc, lk2_res, lk2_res, hY.resE]) (lk2_FM hFY))
  -- the kept crossing is laid down
  have L3 : ¬ (kpc V L = 0 ∨ brc V L = true) → ∀ j, j ≤ 5 → EV G l kX10_look (d + 257) 0 0 229 [some (.ref 36), some (.int (hld V)), some (.int (lm (pas V) L)), some (.int (nI (kpc V L))), some (.int (cond (brc V L) 1 0)), some (.int (nI (lto V))), some (.int (nI j))] [] (n, SH, lk4 Y V L j) (PL n SH V) := by
    intro hc
    refine th_down 5 ?_ ?_
    · have e22 : lk4 Y V L 5 36 22 = V 36 22 := by rw [lk4_row (by decide), lk3_row (by decide), lk2_fld (by decide)]; exact hY.fld (by decide)
      have e24 : th_w (lk4 Y V L 5) 36 22 (lk4 Y V L 5 36 22 + 1) 36 24 = V 36 24 := by rw [th_w_j (by decide), lk4_row (by decide), lk3_row (by decide), lk2_fld (by decide)]; exact hY.fld (by decide)
      refine ev_iload6 (q := 231) dX10_look_229 rfl ?_
      refine ev_iconst (q := 232) (v := 5) dX10_look_231 rfl rfl ?_
      refine ev_icmp_ge (q := 235) (t := 260) dX10_look_232 rfl (by decide) (fun c232 => ?_) (fun c232 => ?_)
      · refine ev_aload0 (q := 261) dX10_look_260 rfl ?_
        refine ev_dup (q := 262) dX10_look_261 rfl rfl ?_
        refine ev_getI (q := 265) dX10_look_262 g_X10_223 (hW _ _ rfl) rfl rfl ?_
        refine ev_iconst (q := 266) (v := 1) dX10_look_265 rfl rfl ?_
        refine ev_iadd (q := 267) dX10_look_266 rfl ?_
        refine ev_putI (q := 270) dX10_look_267 (p_X10_223 _) (hW _ _ rfl) rfl rfl rfl rfl ?_
        refine ev_aload0 (q := 271) dX10_look_270 rfl ?_
        refine ev_aload0 (q := 272) dX10_look_271 rfl ?_
        refine ev_getI (q := 275) dX10_look_272 g_X10_229 (hW _ _ rfl) rfl rfl ?_
        refine ev_putI (q := 278) dX10_look_275 (p_X10_232 _) (hW _ _ rfl) rfl rfl rfl rfl ?_
        refine ev_iload2 (q := 279) dX10_look_278 rfl ?_
        show EV G l kX10_look _ 0 0 279 _ _ (n, SH, th_w (th_w (lk4 Y V L 5) 36 22 (lk4 Y V L 5 36 22 + 1)) 36 25 (th_w (lk4 Y V L 5) 36 22 (lk4 Y V L 5 36 22 + 1) 36 24)) _
        rw [e24, e22]
        exact ev_ireturn dX10_look_279 rfl rfl (MP.mk (lk5 Y V L) (by rw [a_look, hLe, if_neg hc]) (by rw [n_look, hLe, if_neg hc, lk5_res, lk5_res, hY.resE]) (lk5_FM hFY))
      · exact absurd (by decide) c232
    · intro j hj ih
      have e40 : lk4 Y V L j 40 = V 40 := by rw [lk4_row (by decide), lk3_row (by decide), lk2_row (by decide)]; exact rd _ (by decide)
      unfold lk4 at ih
      rw [← th_seg_s] at ih
      have ih : EV G l kX10_look (d + 257) 0 0 229 [some (.ref 36), some (.int (hld V)), some (.int (lm (pas V) L)), some (.int (nI (kpc V L))), some (.int (cond (brc V L) 1 0)), some (.int (nI (lto V))), some (.int (nI (j + 1)))] [] (n, SH, th_w (lk4 Y V L j) 56 (5 * lto V + j) (V 40 j)) (PL n SH V) := ih
      rw [← e40] at ih
      refine ev_iload6 (q := 231) dX10_look_229 rfl ?_
      refine ev_iconst (q := 232) (v := 5) dX10_look_231 rfl rfl ?_
      refine ev_icmp_ge (q := 235) (t := 260) dX10_look_232 rfl (by decide) (fun c232 => ?_) (fun c232 => ?_)
      · exact absurd c232 (nI_ge hj (by decide))
      · refine ev_aload0 (q := 236) dX10_look_235 rfl ?_
        refine ev_getR (q := 239) dX10_look_236 g_X10_69 (hW _ _ rfl) rfl rfl rfl ?_
        refine ev_iconst (q := 240) (v := 5) dX10_look_239 rfl rfl ?_
        refine ev_iload5 (q := 242) dX10_look_240 rfl ?_
        refine ev_imul (q := 243) dX10_look_242 rfl ?_
        refine ev_iload6 (q := 245) dX10_look_243 rfl ?_
        refine ev_iadd (q := 246) dX10_look_245 rfl ?_
        refine ev_aload0 (q := 247) dX10_look_246 rfl ?_
        refine ev_getR (q := 250) dX10_look_247 g_X10_19 (hW _ _ rfl) rfl rfl rfl ?_
        refine ev_iload6 (q := 252) dX10_look_250 rfl ?_
        refine ev_iald (q := 253) dX10_look_252 (hW _ _ rfl) rfl hj (by decide) rfl ?_
        refine ev_iast (q := 254) dX10_look_253 (hW _ _ rfl) (th_5 rfl rfl) (by omega) (by decide) rfl ?_
        refine ev_iinc6 (q := 257) dX10_look_254 rfl (by decide) rfl (nI_succ j).symm ?_
        refine ev_goto (q := 229) dX10_look_257 (by decide) ?_
        exact ih
  -- who passed is told
  have L2 : ¬ (kpc V L = 0 ∨ brc V L = true) → ∀ k, k ≤ L → EV G l kX10_look (d + 257) 0 0 144 [some (.ref 36), some (.int (hld V)), some (.int (lm (pas V) L)), some (.int (nI (kpc V L))), some (.int (cond (brc V L) 1 0)), some (.int (nI k)), none] [] (n, SH, lk3 Y V L k) (PL n SH V) := by
    intro hc
    refine th_down L ?_ ?_
    · have e11 : lk3 Y V L L 36 11 = V 36 11 := by rw [lk3_row (by decide), lk2_fld (by decide)]; exact hY.fld (by decide)
      have e22 : lk3 Y V L L 36 22 = V 36 22 := by rw [lk3_row (by decide), lk2_fld (by decide)]; exact hY.fld (by decide)
      have e20 : lk3 Y V L L 36 20 = V 36 20 := by rw [lk3_row (by decide), lk2_fld (by decide)]; exact hY.fld (by decide)
      have ek : V 36 22 - V 36 22 / 30 * 30 = nI (lto V) := by
        have hlt := Int32.toInt_lt (V 36 22)
        have := pk_rem (a := ix (V 36 22)) (d := 30) (by omega) (by decide) (by decide)
        rw [← hK] at this
        exact this
      refine ev_iload5 (q := 146) dX10_look_144 rfl ?_
      refine ev_aload0 (q := 147) dX10_look_146 rfl ?_
      refine ev_getI (q := 150) dX10_look_147 g_X10_186 (hW _ _ rfl) rfl rfl ?_
      refine ev_icmp_ge (q := 153) (t := 198) dX10_look_150 rfl (by decide) (fun c150 => ?_) (fun c150 => ?_)
      · refine ev_aload0 (q := 199) dX10_look_198 rfl ?_
        refine ev_getI (q := 202) dX10_look_199 g_X10_223 (hW _ _ rfl) rfl rfl ?_
        refine ev_bipush (q := 204) (v := 30) dX10_look_202 rfl rfl ?_
        refine ev_irem (q := 205) dX10_look_204 (by decide) rfl ?_
        show EV G l kX10_look _ 0 0 205 _ [.int (lk3 Y V L L 36 22 - lk3 Y V L L 36 22 / 30 * 30)] _ _
        rw [e22, ek]
        refine ev_istore5 (q := 207) dX10_look_205 rfl (by decide) rfl ?_
        refine ev_aload0 (q := 208) dX10_look_207 rfl ?_
        refine ev_getR (q := 211) dX10_look_208 g_X10_63 (hW _ _ rfl) rfl rfl rfl ?_
        refine ev_iload5 (q := 213) dX10_look_211 rfl ?_
        refine ev_aload0 (q := 214) dX10_look_213 rfl ?_
        refine ev_getI (q := 217) dX10_look_214 g_X10_226 (hW _ _ rfl) rfl rfl ?_
        refine ev_iast (q := 218) dX10_look_217 (hW _ _ rfl) rfl hto (by decide) rfl ?_
        refine ev_aload0 (q := 219) dX10_look_218 rfl ?_
        refine ev_getR (q := 222) dX10_look_219 g_X10_66 (hW _ _ rfl) rfl rfl rfl ?_
        refine ev_iload5 (q := 224) dX10_look_222 rfl ?_
        refine ev_iload2 (q := 225) dX10_look_224 rfl ?_
        refine ev_iast (q := 226) dX10_look_225 (hW _ _ rfl) rfl hto (by decide) rfl ?_
        refine ev_iconst (q := 227) (v := 0) dX10_look_226 rfl rfl ?_
        refine ev_istore6 (q := 229) dX10_look_227 rfl (by decide) rfl ?_
        show EV G l kX10_look _ 0 0 229 _ _ (n, SH, th_w (th_w (lk3 Y V L L) 54 (lto V) (lk3 Y V L L 36 20)) 55 (lto V) (lm (pas V) L)) _
        rw [e20]
        have h := L3 hc 0 (by decide)
        unfold lk4 at h
        rw [th_seg_0] at h
        exact h
      · exact absurd (by show lk3 Y V L L 36 11 ≤ _; rw [e11, ← hR]; exact Int32.le_refl _) c150
    · intro k hk ih
      have e11 : lk3 Y V L k 36 11 = V 36 11 := by rw [lk3_row (by decide), lk2_fld (by decide)]; exact hY.fld (by decide)
      have e52 : lk3 Y V L k 52 k = V 52 k := by
        unfold lk3
        rw [th_seg_ne (by decide), th_seg_out (by omega), lk2_row (by decide), rd _ (by decide)]
      have e53 : lk3 Y V L k 53 k = V 53 k := by
        unfold lk3
        rw [th_seg_out (by omega), th_seg_ne (by decide), lk2_row (by decide), rd _ (by decide)]
      refine ev_iload5 (q := 146) dX10_look_144 rfl ?_
      refine ev_aload0 (q := 147) dX10_look_146 rfl ?_
      refine ev_getI (q := 150) dX10_look_147 g_X10_186 (hW _ _ rfl) rfl rfl ?_
      refine ev_icmp_ge (q := 153) (t := 198) dX10_look_150 rfl (by decide) (fun c150 => ?_) (fun c150 => ?_)
      · exact absurd (show lk3 Y V L k 36 11 ≤ _ from c150) (by rw [e11, hR]; exact nI_ge hk (by omega))
      · refine ev_iload2 (q := 154) dX10_look_153 rfl ?_
        refine ev_iload5 (q := 156) dX10_look_154 rfl ?_
        refine ev_ishr (q := 157) dX10_look_156 rfl ?_
        refine ev_iconst (q := 158) (v := 1) dX10_look_157 rfl rfl ?_
        refine ev_iand (q := 159) dX10_look_158 rfl ?_
        refine ev_if_ne (q := 162) (t := 165) dX10_look_159 rfl (by decide) (fun c159 => ?_) (fun c159 => ?_)
        · have hps : pas V k = true := by
            cases hz : pas V k
            · exact absurd ((hbitp k hk).mpr hz) c159
            · rfl
          have f2 : f52 V k = V 52 k + 1 := by rw [f52, hps]; rfl
          refine ev_aload0 (q := 166) dX10_look_165 rfl ?_
          refine ev_getR (q := 169) dX10_look_166 g_X10_57 (hW _ _ rfl) rfl rfl rfl ?_
          refine ev_iload5 (q := 171) dX10_look_169 rfl ?_
          refine ev_dup2 (q := 172) dX10_look_171 rfl rfl rfl ?_
          refine ev_iald (q := 173) dX10_look_172 (hW _ _ rfl) rfl (show k < 8 by omega) (by decide) rfl ?_
          refine ev_iconst (q := 174) (v := 1) dX10_look_173 rfl rfl ?_
          refine ev_iadd (q := 175) dX10_look_174 rfl ?_
          refine ev_iast (q := 176) dX10_look_175 (hW _ _ rfl) rfl (show k < 8 by omega) (by decide) rfl ?_
          refine ev_iload3 (q := 177) dX10_look_176 rfl ?_
          refine ev_iconst (q := 178) (v := 1) dX10_look_177 rfl rfl ?_
          show EV G l kX10_look _ 0 0 178 _ _ (n, SH, th_w (lk3 Y V L k) 52 k (lk3 Y V L k 52 k + 1)) _
          rw [e52, ← f2]
          have w1 : th_w (lk3 Y V L k) 52 k (f52 V k) = th_seg (th_seg (lk2 Y V L) 52 0 (k + 1) (f52 V)) 53 0 k (f53 V L) := by
            unfold lk3
            rw [th_w_seg (by decide), th_seg_s0]
          have e53' : (th_w (lk3 Y V L k) 52 k (f52 V k)) 53 k = V 53 k := by rw [th_w_ne (by decide), e53]
          refine ev_icmp_ne (q := 181) (t := 192) dX10_look_178 rfl (by decide) (fun c178 => ?_) (fun c178 => ?_)
          · have hne : ¬ kpc V L = 1 := fun e => c178 (by rw [e]; rfl)
            have f3 : f53 V L k = (th_seg (lk2 Y V L) 52 0 (k + 1) (f52 V)) 53 (0 + k) := by rw [f53, decide_eq_false hne, Bool.and_false, th_seg_ne (by decide), lk2_row (by decide), rd _ (by decide), Nat.zero_add]; rfl
            refine ev_iinc5 (q := 195) dX10_look_192 rfl (by decide) rfl (nI_succ k).symm ?_
            refine ev_goto (q := 144) dX10_look_195 (by decide) ?_
            rw [w1, ← th_seg_id f3]
            exact ih
          · have he1 : kpc V L = 1 := by
              have := kpc_le V L
              exact (nI_eq (by omega) (by decide)).mp c178
            have f3 : f53 V L k = V 53 k + 1 := by rw [f53, hps, decide_eq_true he1]; rfl
            refine ev_aload0 (q := 182) dX10_look_181 rfl ?_
            refine ev_getR (q := 185) dX10_look_182 g_X10_60 (hW _ _ rfl) rfl rfl rfl ?_
            refine ev_iload5 (q := 187) dX10_look_185 rfl ?_
            refine ev_dup2 (q := 188) dX10_look_187 rfl rfl rfl ?_
            refine ev_iald (q := 189) dX10_look_188 (hW _ _ rfl) rfl (show k < 8 by omega) (by decide) rfl ?_
            refine ev_iconst (q := 190) (v := 1) dX10_look_189 rfl rfl ?_
            refine ev_iadd (q := 191) dX10_look_190 rfl ?_
            refine ev_iast (q := 192) dX10_look_191 (hW _ _ rfl) rfl (show k < 8 by omega) (by decide) rfl ?_
            show EV G l kX10_look _ 0 0 192 _ _ (n, SH, th_w (th_w (lk3 Y V L k) 52 k (f52 V k)) 53 k ((th_w (lk3 Y V L k) 52 k (f52 V k)) 53 k + 1)) _
            rw [e53', ← f3, w1, th_seg_s0]
            refine ev_iinc5 (q := 195) dX10_look_192 rfl (by decide) rfl (nI_succ k).symm ?_
            refine ev_goto (q := 144) dX10_look_195 (by decide) ?_
            exact ih
        · have hps : pas V k = false := (hbitp k hk).mp c159
          have f2 : f52 V k = lk2 Y V L 52 (0 + k) := by rw [f52, hps, lk2_row (by decide), rd _ (by decide), Nat.zero_add]; rfl
          have f3 : f53 V L k = (th_seg (lk2 Y V L) 52 0 (k + 1) (f52 V)) 53 (0 + k) := by rw [f53, hps, Bool.false_and, th_seg_ne (by decide), lk2_row (by decide), rd _ (by decide), Nat.zero_add]; rfl
          refine ev_goto (q := 192) dX10_look_162 (by decide) ?_
          refine ev_iinc5 (q := 195) dX10_look_192 rfl (by decide) rfl (nI_succ k).symm ?_
          refine ev_goto (q := 144) dX10_look_195 (by decide) ?_
          unfold lk3 at ih ⊢
          rw [th_seg_id f3, th_seg_id f2] at ih
          exact ih
  -- behind the first loop
  have B111 : EV G l kX10_look (d + 257) 0 0 111 [some (.ref 36), some (.int (hld V)), some (.int (lm (pas V) L)), some (.int (nI (kpc V L))), some (.int (cond (brc V L) 1 0)), some (.int (nI L)), none] [] (n, SH, lk1 Y V L) (PL n SH V) := by
    have hkb : kpc V L < 2 ^ 31 := by have := kpc_le V L; omega
    have e23 : lk1 Y V L 36 23 = V 36 23 := by rw [lk1_row (by decide)]; exact hY.fld (by decide)
    have B130 : EV G l kX10_look (d + 257) 0 0 130 [some (.ref 36), some (.int (hld V)), some (.int (lm (pas V) L)), some (.int (nI (kpc V L))), some (.int (cond (brc V L) 1 0)), some (.int (nI L)), none] [] (n, SH, lk2 Y V L) (PL n SH V) := by
      refine ev_iload3 (q := 131) dX10_look_130 rfl ?_
      refine ev_if_eq (q := 134) (t := 139) dX10_look_131 rfl (by decide) (fun c131 => ?_) (fun c131 => ?_)
      · have hz : kpc V L = 0 := (nI_eq hkb (by decide)).mp c131
        exact bad (Or.inl hz) _ _
      · have hz : ¬ kpc V L = 0 := fun e => c131 (by rw [e]; rfl)
        cases hbr : brc V L
        · refine ev_iload4 (q := 136) dX10_look_134 rfl ?_
          refine ev_if_eq (q := 139) (t := 141) dX10_look_136 rfl (by decide) (fun c136 => ?_) (fun c136 => ?_)
          · have hc : ¬ (kpc V L = 0 ∨ brc V L = true) := fun z => z.elim hz (fun z => absurd (hbr.symm.trans z) (by decide))
            refine ev_iconst (q := 142) (v := 0) dX10_look_141 rfl rfl ?_
            refine ev_istore5 (q := 144) dX10_look_142 rfl (by decide) rfl ?_
            have h := L2 hc 0 (Nat.zero_le _)
            unfold lk3 at h
            rw [th_seg_0, th_seg_0, hbr] at h
            exact h
          · exact absurd rfl c136
        · refine ev_iload4 (q := 136) dX10_look_134 rfl ?_
          refine ev_if_eq (q := 139) (t := 141) dX10_look_136 rfl (by decide) (fun c136 => ?_) (fun c136 => ?_)
          · exact absurd c136 (by decide)
          · have h := bad (Or.inr hbr) (some (.int (nI L))) none
            rw [hbr] at h
            exact h
    refine ev_iload3 (q := 112) dX10_look_111 rfl ?_
    refine ev_if_le (q := 115) (t := 130) dX10_look_112 rfl (by decide) (fun c112 => ?_) (fun c112 => ?_)
    · have hz : kpc V L = 0 := by
        rcases Nat.eq_zero_or_pos (kpc V L) with z | z
        · exact z
        · exact absurd c112 (nI_nle z hkb)
      rw [show lk2 Y V L = lk1 Y V L from if_neg (fun z => by omega)] at B130
      exact B130
    · have hz : 0 < kpc V L := by
        rcases Nat.eq_zero_or_pos (kpc V L) with z | z
        · exact absurd (by rw [z]; exact Int32.le_refl _) c112
        · exact z
      cases hbr : brc V L
      · rw [show lk2 Y V L = lk1 Y V L from if_neg (fun z => absurd (hbr.symm.trans z.2) (by decide)), hbr] at B130
        refine ev_iload4 (q := 117) dX10_look_115 rfl ?_
        refine ev_if_eq (q := 120) (t := 130) dX10_look_117 rfl (by decide) (fun c117 => ?_) (fun c117 => ?_)
        · exact B130
        · exact absurd rfl c117
      · rw [show lk2 Y V L = th_w (lk1 Y V L) 36 23 (V 36 23 + 1) from if_pos ⟨hz, hbr⟩, ← e23, hbr] at B130
        refine ev_iload4 (q := 117) dX10_look_115 rfl ?_
        refine ev_if_eq (q := 120) (t := 130) dX10_look_117 rfl (by decide) (fun c117 => ?_) (fun c117 => ?_)
        · exact absurd c117 (by decide)
        · refine ev_aload0 (q := 121) dX10_look_120 rfl ?_
          refine ev_dup (q := 122) dX10_look_121 rfl rfl ?_
          refine ev_getI (q := 125) dX10_look_122 g_X10_220 (hW _ _ rfl) rfl rfl ?_
          refine ev_iconst (q := 126) (v := 1) dX10_look_125 rfl rfl ?_
          refine ev_iadd (q := 127) dX10_look_126 rfl ?_
          refine ev_putI (q := 130) dX10_look_127 (p_X10_220 _) (hW _ _ rfl) rfl rfl rfl rfl ?_
          exact B130
  -- the lines, in order
  have L1 : ∀ k, k ≤ L → EV G l kX10_look (d + 257) 0 0 15 [some (.ref 36), some (.int (hld V)), some (.int (lm (pas V) k)), some (.int (nI (kpc V k))), some (.int (cond (brc V k) 1 0)), some (.int (nI k)), none] [] (n, SH, lk1 Y V k) (PL n SH V) := by
    refine th_down L ?_ ?_
    · have e11 : lk1 Y V L 36 11 = V 36 11 := by rw [lk1_row (by decide)]; exact hY.fld (by decide)
      refine ev_iload5 (q := 17) dX10_look_15 rfl ?_
      refine ev_aload0 (q := 18) dX10_look_17 rfl ?_
      refine ev_getI (q := 21) dX10_look_18 g_X10_186 (hW _ _ rfl) rfl rfl ?_
      refine ev_icmp_ge (q := 24) (t := 111) dX10_look_21 rfl (by decide) (fun c21 => ?_) (fun c21 => ?_)
      · exact B111
      · exact absurd (by show lk1 Y V L 36 11 ≤ _; rw [e11, ← hR]; exact Int32.le_refl _) c21
    · intro k hk ih
      have e11 : lk1 Y V k 36 11 = V 36 11 := by rw [lk1_row (by decide)]; exact hY.fld (by decide)
      have e50 : lk1 Y V k 50 k = V 50 k := by
        unfold lk1
        rw [th_seg_ne (by decide), th_seg_out (by omega), rd _ (by decide)]
      have e51 : lk1 Y V k 51 k = V 51 k := by
        unfold lk1
        rw [th_seg_out (by omega), th_seg_ne (by decide), rd _ (by decide)]
      refine ev_iload5 (q := 17) dX10_look_15 rfl ?_
      refine ev_aload0 (q := 18) dX10_look_17 rfl ?_
      refine ev_getI (q := 21) dX10_look_18 g_X10_186 (hW _ _ rfl) rfl rfl ?_
      refine ev_icmp_ge (q := 24) (t := 111) dX10_look_21 rfl (by decide) (fun c21 => ?_) (fun c21 => ?_)
      · exact absurd (show lk1 Y V k 36 11 ≤ _ from c21) (by rw [e11, hR]; exact nI_ge hk (by omega))
      · refine ev_iload1 (q := 25) dX10_look_24 rfl ?_
        refine ev_iload5 (q := 27) dX10_look_25 rfl ?_
        refine ev_ishr (q := 28) dX10_look_27 rfl ?_
        refine ev_iconst (q := 29) (v := 1) dX10_look_28 rfl rfl ?_
        refine ev_iand (q := 30) dX10_look_29 rfl ?_
        refine ev_if_ne (q := 33) (t := 36) dX10_look_30 rfl (by decide) (fun c30 => ?_) (fun c30 => ?_)
        · have hh : tvB V k = true := by
            cases hz : tvB V k
            · exact absurd ((hbit k hk).mpr hz) c30
            · rfl
          have g0 : f50 V k = V 50 k + 1 := by rw [f50, hh]; rfl
          have w1 : th_w (lk1 Y V k) 50 k (f50 V k) = th_seg (th_seg Y 50 0 (k + 1) (f50 V)) 51 0 k (f51 V) := by
            unfold lk1
            rw [th_w_seg (by decide), th_seg_s0]
          refine ev_aload0 (q := 37) dX10_look_36 rfl ?_
          refine ev_getR (q := 40) dX10_look_37 g_X10_51 (hW _ _ rfl) rfl rfl rfl ?_
          refine ev_iload5 (q := 42) dX10_look_40 rfl ?_
          refine ev_dup2 (q := 43) dX10_look_42 rfl rfl rfl ?_
          refine ev_iald (q := 44) dX10_look_43 (hW _ _ rfl) rfl (show k < 8 by omega) (by decide) rfl ?_
          refine ev_iconst (q := 45) (v := 1) dX10_look_44 rfl rfl ?_
          refine ev_iadd (q := 46) dX10_look_45 rfl ?_
          refine ev_iast (q := 47) dX10_look_46 (hW _ _ rfl) rfl (show k < 8 by omega) (by decide) rfl ?_
          show EV G l kX10_look _ 0 0 47 _ _ (n, SH, th_w (lk1 Y V k) 50 k (lk1 Y V k 50 k + 1)) _
          rw [e50, ← g0, w1]
          have r50 : (th_seg (th_seg Y 50 0 (k + 1) (f50 V)) 51 0 k (f51 V)) 50 k = V 50 k + 1 := by
            rw [th_seg_ne (by decide), th_seg_in (by omega) (by omega), Nat.sub_zero, g0]
          have r48 : (th_seg (th_seg Y 50 0 (k + 1) (f50 V)) 51 0 k (f51 V)) 48 k = V 48 k := by
            rw [th_seg_ne (by decide), th_seg_ne (by decide), rd _ (by decide)]
          have r49 : (th_seg (th_seg Y 50 0 (k + 1) (f50 V)) 51 0 (k + 1) (f51 V)) 49 k = V 49 k := by
            rw [th_seg_ne (by decide), th_seg_ne (by decide), rd _ (by decide)]
          have r51 : (th_seg (th_seg Y 50 0 (k + 1) (f50 V)) 51 0 k (f51 V)) 51 k = V 51 k := by
            rw [th_seg_out (by omega), th_seg_ne (by decide), rd _ (by decide)]
          refine ev_aload0 (q := 48) dX10_look_47 rfl ?_
          refine ev_getR (q := 51) dX10_look_48 g_X10_51 (hW _ _ rfl) rfl rfl rfl ?_
          refine ev_iload5 (q := 53) dX10_look_51 rfl ?_
          refine ev_iald (q := 54) dX10_look_53 (hW _ _ rfl) rfl (show k < 8 by omega) (by decide) rfl ?_
          refine ev_aload0 (q := 55) dX10_look_54 rfl ?_
          refine ev_getR (q := 58) dX10_look_55 g_X10_44 (hW _ _ rfl) rfl rfl rfl ?_
          refine ev_iload5 (q := 60) dX10_look_58 rfl ?_
          refine ev_iald (q := 61) dX10_look_60 (hW _ _ rfl) rfl (show k < 8 by omega) (by decide) rfl ?_
          refine ev_irem (q := 62) dX10_look_61 (by rw [show (n, SH, th_seg (th_seg Y 50 0 (k + 1) (f50 V)) 51 0 k (f51 V)).2.2 48 k = V 48 k from r48]; exact hsh' k hk) rfl ?_
          show EV G l kX10_look _ 0 0 62 _ [.int (irm ((th_seg (th_seg Y 50 0 (k + 1) (f50 V)) 51 0 k (f51 V)) 50 k) ((th_seg (th_seg Y 50 0 (k + 1) (f50 V)) 51 0 k (f51 V)) 48 k))] _ _
          rw [r50, r48]
          refine ev_if_eq (q := 65) (t := 68) dX10_look_62 rfl (by decide) (fun c62 => ?_) (fun c62 => ?_)
          · have hps : pas V k = true := by rw [pas, hh, decide_eq_true c62]; rfl
            have g1 : f51 V k = V 51 k + 1 := by rw [f51, hps]; rfl
            refine ev_aload0 (q := 69) dX10_look_68 rfl ?_
            refine ev_getR (q := 72) dX10_look_69 g_X10_54 (hW _ _ rfl) rfl rfl rfl ?_
            refine ev_iload5 (q := 74) dX10_look_72 rfl ?_
            refine ev_dup2 (q := 75) dX10_look_74 rfl rfl rfl ?_
            refine ev_iald (q := 76) dX10_look_75 (hW _ _ rfl) rfl (show k < 8 by omega) (by decide) rfl ?_
            refine ev_iconst (q := 77) (v := 1) dX10_look_76 rfl rfl ?_
            refine ev_iadd (q := 78) dX10_look_77 rfl ?_
            refine ev_iast (q := 79) dX10_look_78 (hW _ _ rfl) rfl (show k < 8 by omega) (by decide) rfl ?_
            refine ev_iload2 (q := 80) dX10_look_79 rfl ?_
            refine ev_iconst (q := 81) (v := 1) dX10_look_80 rfl rfl ?_
            refine ev_iload5 (q := 83) dX10_look_81 rfl ?_
            refine ev_ishl (q := 84) dX10_look_83 rfl ?_
            refine ev_ior (q := 85) dX10_look_84 rfl ?_
            refine ev_istore2 (q := 86) dX10_look_85 rfl (by decide) rfl ?_
            show EV G l kX10_look _ 0 0 86 _ _ (n, SH, th_w (th_seg (th_seg Y 50 0 (k + 1) (f50 V)) 51 0 k (f51 V)) 51 k ((th_seg (th_seg Y 50 0 (k + 1) (f50 V)) 51 0 k (f51 V)) 51 k + 1)) _
            rw [r51, ← g1, th_seg_s0]
            refine ev_aload0 (q := 87) dX10_look_86 rfl ?_
            refine ev_getR (q := 90) dX10_look_87 g_X10_47 (hW _ _ rfl) rfl rfl rfl ?_
            refine ev_iload5 (q := 92) dX10_look_90 rfl ?_
            refine ev_zald (q := 93) dX10_look_92 (hW _ _ rfl) rfl (show k < 8 by omega) (by decide) rfl ?_
            show EV G l kX10_look _ 0 0 93 _ [.int ((th_seg (th_seg Y 50 0 (k + 1) (f50 V)) 51 0 (k + 1) (f51 V)) 49 k)] _ _
            rw [r49]
            rw [lm, kpc, brc, hps] at ih
            refine ev_if_eq (q := 96) (t := 102) dX10_look_93 rfl (by decide) (fun c93 => ?_) (fun c93 => ?_)
            · rw [if_pos ⟨rfl, c93⟩, decide_eq_false (not_not_intro c93), Bool.and_false, Bool.or_false] at ih
              refine ev_iinc3 (q := 105) dX10_look_102 rfl (by decide) rfl (nI_succ _).symm ?_
              refine ev_iinc5 (q := 108) dX10_look_105 rfl (by decide) rfl (nI_succ k).symm ?_
              refine ev_goto (q := 15) dX10_look_108 (by decide) ?_
              exact ih
            · rw [if_neg (fun z => c93 z.2), decide_eq_true c93, Bool.and_true, Bool.or_true] at ih
              refine ev_iconst (q := 97) (v := 1) dX10_look_96 rfl rfl ?_
              refine ev_istore4 (q := 99) dX10_look_97 rfl (by decide) rfl ?_
              refine ev_goto (q := 105) dX10_look_99 (by decide) ?_
              refine ev_iinc5 (q := 108) dX10_look_105 rfl (by decide) rfl (nI_succ k).symm ?_
              refine ev_goto (q := 15) dX10_look_108 (by decide) ?_
              exact ih
          · have hps : pas V k = false := by rw [pas, decide_eq_false c62, Bool.and_false]
            have g1 : f51 V k = (th_seg Y 50 0 (k + 1) (f50 V)) 51 (0 + k) := by rw [f51, hps, th_seg_ne (by decide), rd _ (by decide), Nat.zero_add]; rfl
            rw [lm, kpc, brc, hps, if_neg (fun z => absurd z.1 (by decide)), Bool.false_and, Bool.or_false] at ih
            refine ev_goto (q := 105) dX10_look_65 (by decide) ?_
            refine ev_iinc5 (q := 108) dX10_look_105 rfl (by decide) rfl (nI_succ k).symm ?_
            refine ev_goto (q := 15) dX10_look_108 (by decide) ?_
            rw [← th_seg_id g1]
            exact ih
        · have hh : tvB V k = false := (hbit k hk).mp c30
          have hps := pas_hold hh
          have g0 : f50 V k = Y 50 (0 + k) := by rw [f50, hh, rd _ (by decide), Nat.zero_add]; rfl
          have g1 : f51 V k = (th_seg Y 50 0 (k + 1) (f50 V)) 51 (0 + k) := by rw [f51, hps, th_seg_ne (by decide), rd _ (by decide), Nat.zero_add]; rfl
          rw [lm, kpc, brc, hps, if_neg (fun z => absurd z.1 (by decide)), Bool.false_and, Bool.or_false] at ih
          refine ev_goto (q := 105) dX10_look_33 (by decide) ?_
          refine ev_iinc5 (q := 108) dX10_look_105 rfl (by decide) rfl (nI_succ k).symm ?_
          refine ev_goto (q := 15) dX10_look_108 (by decide) ?_
          unfold lk1 at ih ⊢
          rw [th_seg_id g1, th_seg_id g0] at ih
          exact ih
  refine ev_istore1 (q := 5) dX10_look_4 rfl (by decide) rfl ?_
  refine ev_iconst (q := 6) (v := 0) dX10_look_5 rfl rfl ?_
  refine ev_istore2 (q := 7) dX10_look_6 rfl (by decide) rfl ?_
  refine ev_iconst (q := 8) (v := 0) dX10_look_7 rfl rfl ?_
  refine ev_istore3 (q := 9) dX10_look_8 rfl (by decide) rfl ?_
  refine ev_iconst (q := 10) (v := 0) dX10_look_9 rfl rfl ?_
  refine ev_istore4 (q := 12) dX10_look_10 rfl (by decide) rfl ?_
  refine ev_iconst (q := 13) (v := 0) dX10_look_12 rfl rfl ?_
  refine ev_istore5 (q := 15) dX10_look_13 rfl (by decide) rfl ?_
  have h := L1 0 (Nat.zero_le _)
  unfold lk1 at h
  rw [th_seg_0, th_seg_0] at h
  exact h
end M16
