/-! the law: every answer is the reference's -/
theorem pers_in {a k : Nat} (h : pers a k = true) : 36 ≤ a ∧ a < 64 := by
  constructor
  · rcases Nat.lt_or_ge a 36 with z | z
    · have hb : Nat.blt a 36 = true := Nat.blt_eq.mpr z
      simp [pers, hb] at h
    · exact z
  · rcases Nat.lt_or_ge a 64 with z | z
    · exact z
    · exfalso
      have hb : Nat.blt a 36 = false := by
        cases hb : Nat.blt a 36
        · rfl
        · have := Nat.blt_eq.mp hb; omega
      simp only [pers, hb, cond_false] at h
      rw [show a - 36 = (a - 64) + 28 by omega] at h
      have := congrFun (th_nth_big (d0 := fun _ : Nat => false) [persF, fun _ => true, fun _ => true, fun _ => true, fun _ => true, fun _ => true, fun _ => true, fun _ => true, fun _ => true, fun _ => true, fun _ => true, fun _ => true, fun _ => true, fun _ => true, fun _ => true, fun _ => true, fun _ => true, fun _ => true, fun _ => true, fun _ => true, fun _ => true, fun _ => false, fun _ => false, fun _ => false, fun _ => false, fun _ => false, fun _ => false, fun _ => false] (a - 64)) k
      cases this.symm.trans h
theorem FC.resE {V V' : th_Vl} (h : FC V V') : res V' = res V := res_eq (fun a k hp => by rw [h a (pers_in hp).1 (pers_in hp).2])
theorem shM_in {a : Nat} {x : th_K0} (h : shM a = some x) : 36 ≤ a ∧ a < 64 := by
  constructor
  · rcases Nat.lt_or_ge a 36 with z | z
    · have hb : Nat.blt a 36 = true := Nat.blt_eq.mpr z
      simp [shM, hb] at h
    · exact z
  · rcases Nat.lt_or_ge a 64 with z | z
    · exact z
    · exfalso
      have hb : Nat.blt a 36 = false := by
        cases hb : Nat.blt a 36
        · rfl
        · have := Nat.blt_eq.mp hb; omega
      simp only [shM, hb, cond_false] at h
      rw [show a - 36 = (a - 64) + 28 by omega] at h
      cases (th_nth_big (d0 := (none : Option th_K0)) _ (a - 64)).symm.trans h
theorem wM.ext {SH SH' : Nat → Option th_K0} (hW : wM SH) (h : ∀ a, 36 ≤ a → a < 64 → SH' a = SH a) : wM SH' := fun a x hx => (h a (shM_in hx).1 (shM_in hx).2).trans (hW a x hx)
theorem CR.FM {N : Nat} {SH : Nat → Option th_K0} {V V' s : th_Vl} (h : CR N SH V s) (hf : FM V V') : CR N SH V' s := by
  obtain ⟨rd, ld, eR, eL, hS, hN⟩ := h
  refine ⟨rd, ld, eR, eL, hS.c (hf _ (by decide)) (hf _ (by decide)), ?_⟩
  obtain ⟨h1, h2, h3, h4, h5, h6, h7⟩ := hN
  obtain ⟨-, -, -, -, -, -, -, -, g1, -, g2, -⟩ := hS
  refine ⟨fun r hr => (h1 r hr).c (hf _ (by omega)) (hf _ (by omega)) rfl rfl rfl, h2.c (hf _ (by decide)) (hf _ (by decide)) (hf _ (by decide)) rfl rfl rfl, ?_, h4.c (hf _ (by decide)) (hf _ (by decide)) (hf _ (by decide)) rfl rfl rfl, h5.c (hf _ (by decide)) (hf _ (by decide)) rfl rfl, fun j hj => ?_, fun j hj => ?_⟩
  · unfold eqF at h3 ⊢
    rw [hf 4 (by decide), hf 31 (by decide)]
    exact h3
  · have := (g1 j hj).1
    exact (h6 j hj).c (hf _ (by omega)) (hf _ (by omega)) (hf _ (by omega)) rfl rfl
  · have := (g2 j hj).1
    exact (h7 j hj).c (hf _ (by omega)) (hf _ (by omega)) (hf _ (by omega)) rfl rfl rfl rfl rfl rfl rfl rfl
theorem bEv_res {V : th_Vl} (h : bEv (res V)) : bEv V := fun k hk A => by
  have := h k hk A
  rw [lt_res] at this
  exact this
theorem bSh_res {V : th_Vl} (h : bSa (res V)) : bSh V := fun k hk z => by
  have := (h k hk).1
  have e : res V 48 k = V 48 k := rfl
  rw [e, z] at this
  exact absurd this (by decide)
def J (k : Nat) (S : th_S) : Prop := wM S.2.1 ∧ CR S.1 S.2.1 S.2.2 (res S.2.2) ∧ INV k (res S.2.2)
theorem J.step {k N N' : Nat} {SH SH' : Nat → Option th_K0} {V V' V'' s' : th_Vl} (hJ : J k (N, SH, V)) (hC : CR N' SH' V' s') (hM : ∀ a, 36 ≤ a → a < 64 → SH' a = SH a) (hr : res V'' = s') (hF : FM V' V'') (hI : INV (k + 1) s') : J (k + 1) (N', SH', V'') := by
  refine ⟨hJ.1.ext hM, ?_, ?_⟩
  · show CR N' SH' V'' (res V'')
    rw [hr]; exact hC.FM hF
  · show INV (k + 1) (res V'')
    rw [hr]; exact hI
theorem law_loop {G : th_G} {l : Launch} {LL : Nat} (hLL : LL ≤ 3584) (hG : LL = G.2.2.2.2.1) : ∀ n k, LL ≤ 7 * k + 7 * n + 6 → k + n ≤ 1000 → ∀ (N : Nat) (SH : Nat → Option th_K0) (V : th_Vl), J k (N, SH, V) → EV G l kL_law 300 (4 * n) (84 * n) 18 [some (.ref 0), some (.ref 4), some (.ref 36), some (.int (nI (7 * k)))] [] (N, SH, V) (fun r S' => r = some (.int 1)) := by
  have hL31 : LL < 2 ^ 31 := by omega
  have stop : ∀ (bc bs k N : Nat) (SH : Nat → Option th_K0) (V : th_Vl), EV G l kL_law 300 bc bs 998 [some (.ref 0), some (.ref 4), some (.ref 36), some (.int (nI (7 * k)))] [] (N, SH, V) (fun r S' => r = some (.int 1)) := by
    intro bc bs k N SH V
    refine ev_iconst (q := 999) (v := 1) dL_law_998 rfl rfl ?_
    exact ev_ireturn dL_law_999 rfl rfl rfl
  have cmp : ∀ k, k ≤ 1000 → (nI LL - 7 < nI (7 * k) ↔ LL < 7 * k + 7) := fun k hk => by
    rw [i_lt, show (7 : Int32) = nI 7 from rfl, pk_sub_toInt (by omega) (by omega), nI_toInt (by omega)]
    omega
  intro n
  induction n with
  | zero =>
    intro k hk hk9 N SH V hJ
    refine ev_iload3 (q := 19) dL_law_18 rfl ?_
    refine ev_aload0 (q := 20) dL_law_19 rfl ?_
    refine ev_xalen (q := 21) dL_law_20 (Or.inl ⟨rfl, hG⟩) rfl ?_
    refine ev_bipush (q := 23) (v := 7) dL_law_21 rfl rfl ?_
    refine ev_isub (q := 24) dL_law_23 rfl ?_
    refine ev_icmp_gt (q := 27) (t := 998) dL_law_24 rfl (by decide) (fun c24 => ?_) (fun c24 => ?_)
    · exact stop _ _ k N SH V
    · exact absurd ((cmp k (by omega)).mpr (by omega)) c24
  | succ n ih =>
    intro k hk hk9 N SH V hJ
    obtain ⟨b0, hb0⟩ : ∃ b0, b0 = 4 * n := ⟨_, rfl⟩
    obtain ⟨c0, hc0⟩ : ∃ c0, c0 = 84 * n := ⟨_, rfl⟩
    obtain ⟨bc, hbc⟩ : ∃ bc, bc = 4 * (n + 1) := ⟨_, rfl⟩
    obtain ⟨bs, hbs⟩ : ∃ bs, bs = 84 * (n + 1) := ⟨_, rfl⟩
    rw [← hbc, ← hbs]
    refine ev_iload3 (q := 19) dL_law_18 rfl ?_
    refine ev_aload0 (q := 20) dL_law_19 rfl ?_
    refine ev_xalen (q := 21) dL_law_20 (Or.inl ⟨rfl, hG⟩) rfl ?_
    refine ev_bipush (q := 23) (v := 7) dL_law_21 rfl rfl ?_
    refine ev_isub (q := 24) dL_law_23 rfl ?_
    refine ev_icmp_gt (q := 27) (t := 998) dL_law_24 rfl (by decide) (fun c24 => ?_) (fun c24 => ?_)
    · exact stop _ _ k N SH V
    have hkL : 7 * k + 7 ≤ LL := by
      rcases Nat.lt_or_ge LL (7 * k + 7) with w | w
      · exact absurd ((cmp k (by omega)).mpr w) c24
      · exact w
    have fin : ∀ bc bs, 4 * n ≤ bc → 84 * n ≤ bs → ∀ (N' : Nat) (SH' : Nat → Option th_K0) (V' : th_Vl), J (k + 1) (N', SH', V') → EV G l kL_law 300 bc bs 992 [some (.ref 0), some (.ref 4), some (.ref 36), some (.int (nI (7 * k)))] [] (N', SH', V') (fun r S' => r = some (.int 1)) := by
      intro bc bs h1 h2 N' SH' V' hJ'
      have e7 : nI (7 * k) + 7 = nI (7 * (k + 1)) := nI_add (7 * k) 7
      refine ev_iinc3 (q := 995) dL_law_992 rfl (by decide) rfl e7 ?_
      refine ev_goto (q := 18) dL_law_995 (by decide) ?_
      exact (ih (k + 1) (by omega) (by omega) N' SH' V' hJ').room h1 h2
    obtain ⟨hm, hC, hI⟩ := hJ
    have hJ : J k (N, SH, V) := ⟨hm, hC, hI⟩
    have hm : wM SH := hm
    have hC : CR N SH V (res V) := hC
    have hI : INV k (res V) := hI
    have hC' := hC
    obtain ⟨rd, ld, eR, eL, hS, -⟩ := hC'
    have hW : wC SH := hS.1
    have hI' := hI
    obtain ⟨⟨hro, hli, hsz, htp⟩, hki, ⟨hhi, hrh⟩, hsp, hle, hby, hgd, hsa⟩ := hI'
    have hkp : bKp (res V) := hki.1
    have hk2 : (res V 36 22).toInt < 1000000 := by have := hki.2; omega
    have hk9 : k < 1000000 := by omega
    have hev := bGd_Ev hgd hli hle
    refine ev_aload0 (q := 28) dL_law_27 rfl ?_
    refine ev_iload3 (q := 29) dL_law_28 rfl ?_
    refine ev_xald (q := 30) dL_law_29 (Or.inl ⟨rfl, hG, rfl⟩) rfl (by omega) hL31 rfl ?_
    refine ev_bipush (q := 32) (v := 31) dL_law_30 rfl rfl ?_
    refine ev_iand (q := 33) dL_law_32 rfl ?_
    show EV G l kL_law _ _ _ 33 _ [.int (G.2.2.2.2.2 (7 * k) &&& 31)] _ _
    obtain ⟨j, hj, ej⟩ := pk_andE (G.2.2.2.2.2 (7 * k)) (m := 31) 5 (by decide)
    rw [ej]
    rcases Nat.lt_or_ge j 28 with h28 | h28
    · have hcs : j = 0 ∨ j = 1 ∨ j = 2 ∨ j = 3 ∨ j = 4 ∨ j = 5 ∨ j = 6 ∨ j = 7 ∨ j = 8 ∨ j = 9 ∨ j = 10 ∨ j = 11 ∨ j = 12 ∨ j = 13 ∨ j = 14 ∨ j = 15 ∨ j = 16 ∨ j = 17 ∨ j = 18 ∨ j = 19 ∨ j = 20 ∨ j = 21 ∨ j = 22 ∨ j = 23 ∨ j = 24 ∨ j = 25 ∨ j = 26 ∨ j = 27 := by omega
      rcases hcs with rfl | rfl | rfl | rfl | rfl | rfl | rfl | rfl | rfl | rfl | rfl | rfl | rfl | rfl | rfl | rfl | rfl | rfl | rfl | rfl | rfl | rfl | rfl | rfl | rfl | rfl | rfl | rfl
      · refine ev_tableIn (q := 160) dL_law_33 (by decide) (by decide) rfl (by decide) ?_
        refine ev_aload1 (q := 161) dL_law_160 rfl ?_
        refine ev_aload0 (q := 162) dL_law_161 rfl ?_
        refine ev_iload3 (q := 163) dL_law_162 rfl ?_
        refine ev_iconst (q := 164) (v := 1) dL_law_163 rfl rfl ?_
        refine ev_iadd (q := 165) dL_law_164 rfl ?_
        refine ev_xald (q := 166) dL_law_165 (Or.inl ⟨rfl, hG, rfl⟩) (nI_add (7 * k) 1) (by omega) hL31 rfl ?_
        refine ev_aload0 (q := 167) dL_law_166 rfl ?_
        refine ev_iload3 (q := 168) dL_law_167 rfl ?_
        refine ev_iconst (q := 169) (v := 2) dL_law_168 rfl rfl ?_
        refine ev_iadd (q := 170) dL_law_169 rfl ?_
        refine ev_xald (q := 171) dL_law_170 (Or.inl ⟨rfl, hG, rfl⟩) (nI_add (7 * k) 2) (by omega) hL31 rfl ?_
        refine ev_aload0 (q := 172) dL_law_171 rfl ?_
        refine ev_iload3 (q := 173) dL_law_172 rfl ?_
        refine ev_iconst (q := 174) (v := 3) dL_law_173 rfl rfl ?_
        refine ev_iadd (q := 175) dL_law_174 rfl ?_
        refine ev_xald (q := 176) dL_law_175 (Or.inl ⟨rfl, hG, rfl⟩) (nI_add (7 * k) 3) (by omega) hL31 rfl ?_
        refine ev_cV (K := kL_law) (pc := 176) (q := 179) (c_sheet (d := 0) hC hsz _ _ _) dL_law_176 l_L_13 (hW _ _ rfl) rfl rfl (Nat.le_of_ble_eq_true rfl) (by omega) rfl rfl (fun r S1 hp => ?_)
        obtain ⟨N1, SH1, V1, rfl, rfl, hC1, hF1, hM1, hN1⟩ := hp
        have hWm : wM SH1 := hm.ext hM1
        have er : res V1 = res V := hF1.resE
        refine ev_aload2 (q := 180) dL_law_179 rfl ?_
        refine ev_aload0 (q := 181) dL_law_180 rfl ?_
        refine ev_iload3 (q := 182) dL_law_181 rfl ?_
        refine ev_iconst (q := 183) (v := 1) dL_law_182 rfl rfl ?_
        refine ev_iadd (q := 184) dL_law_183 rfl ?_
        refine ev_xald (q := 185) dL_law_184 (Or.inl ⟨rfl, hG, rfl⟩) (nI_add (7 * k) 1) (by omega) hL31 rfl ?_
        refine ev_aload0 (q := 186) dL_law_185 rfl ?_
        refine ev_iload3 (q := 187) dL_law_186 rfl ?_
        refine ev_iconst (q := 188) (v := 2) dL_law_187 rfl rfl ?_
        refine ev_iadd (q := 189) dL_law_188 rfl ?_
        refine ev_xald (q := 190) dL_law_189 (Or.inl ⟨rfl, hG, rfl⟩) (nI_add (7 * k) 2) (by omega) hL31 rfl ?_
        refine ev_aload0 (q := 191) dL_law_190 rfl ?_
        refine ev_iload3 (q := 192) dL_law_191 rfl ?_
        refine ev_iconst (q := 193) (v := 3) dL_law_192 rfl rfl ?_
        refine ev_iadd (q := 194) dL_law_193 rfl ?_
        refine ev_xald (q := 195) dL_law_194 (Or.inl ⟨rfl, hG, rfl⟩) (nI_add (7 * k) 3) (by omega) hL31 rfl ?_
        refine ev_cV (K := kL_law) (pc := 195) (q := 198) (m_sheet (d := 0) hWm _ _ _) dL_law_195 l_L_17 (hWm _ _ rfl) rfl rfl (Nat.le_of_ble_eq_true rfl) (by omega) rfl rfl (fun r S1 hp => ?_)
        obtain ⟨V2, rfl, rfl, hr2, hFM⟩ := hp
        refine ev_icmp_eq (q := 201) (t := 992) dL_law_198 rfl (by decide) (fun c => ?_) (fun c => ?_)
        · exact fin _ _ (by omega) (by omega) N1 SH1 V2 (hJ.step hC1 hM1 (hr2.trans (by rw [er])) hFM (I_sheet hI _ _ _))
        · exact absurd rfl c
      · refine ev_tableIn (q := 203) dL_law_33 (by decide) (by decide) rfl (by decide) ?_
        refine ev_aload1 (q := 204) dL_law_203 rfl ?_
        refine ev_aload0 (q := 205) dL_law_204 rfl ?_
        refine ev_iload3 (q := 206) dL_law_205 rfl ?_
        refine ev_iconst (q := 207) (v := 1) dL_law_206 rfl rfl ?_
        refine ev_iadd (q := 208) dL_law_207 rfl ?_
        refine ev_xald (q := 209) dL_law_208 (Or.inl ⟨rfl, hG, rfl⟩) (nI_add (7 * k) 1) (by omega) hL31 rfl ?_
        refine ev_aload0 (q := 210) dL_law_209 rfl ?_
        refine ev_iload3 (q := 211) dL_law_210 rfl ?_
        refine ev_iconst (q := 212) (v := 2) dL_law_211 rfl rfl ?_
        refine ev_iadd (q := 213) dL_law_212 rfl ?_
        refine ev_xald (q := 214) dL_law_213 (Or.inl ⟨rfl, hG, rfl⟩) (nI_add (7 * k) 2) (by omega) hL31 rfl ?_
        refine ev_aload0 (q := 215) dL_law_214 rfl ?_
        refine ev_iload3 (q := 216) dL_law_215 rfl ?_
        refine ev_iconst (q := 217) (v := 3) dL_law_216 rfl rfl ?_
        refine ev_iadd (q := 218) dL_law_217 rfl ?_
        refine ev_xald (q := 219) dL_law_218 (Or.inl ⟨rfl, hG, rfl⟩) (nI_add (7 * k) 3) (by omega) hL31 rfl ?_
        refine ev_cV (K := kL_law) (pc := 219) (q := 222) (c_cell (d := 0) hC hsz _ _ _) dL_law_219 l_L_18 (hW _ _ rfl) rfl rfl (Nat.le_of_ble_eq_true rfl) (by omega) rfl rfl (fun r S1 hp => ?_)
        obtain ⟨N1, SH1, V1, rfl, rfl, hC1, hF1, hM1, hN1⟩ := hp
        have hWm : wM SH1 := hm.ext hM1
        have er : res V1 = res V := hF1.resE
        refine ev_aload2 (q := 223) dL_law_222 rfl ?_
        refine ev_aload0 (q := 224) dL_law_223 rfl ?_
        refine ev_iload3 (q := 225) dL_law_224 rfl ?_
        refine ev_iconst (q := 226) (v := 1) dL_law_225 rfl rfl ?_
        refine ev_iadd (q := 227) dL_law_226 rfl ?_
        refine ev_xald (q := 228) dL_law_227 (Or.inl ⟨rfl, hG, rfl⟩) (nI_add (7 * k) 1) (by omega) hL31 rfl ?_
        refine ev_aload0 (q := 229) dL_law_228 rfl ?_
        refine ev_iload3 (q := 230) dL_law_229 rfl ?_
        refine ev_iconst (q := 231) (v := 2) dL_law_230 rfl rfl ?_
        refine ev_iadd (q := 232) dL_law_231 rfl ?_
        refine ev_xald (q := 233) dL_law_232 (Or.inl ⟨rfl, hG, rfl⟩) (nI_add (7 * k) 2) (by omega) hL31 rfl ?_
        refine ev_aload0 (q := 234) dL_law_233 rfl ?_
        refine ev_iload3 (q := 235) dL_law_234 rfl ?_
        refine ev_iconst (q := 236) (v := 3) dL_law_235 rfl rfl ?_
        refine ev_iadd (q := 237) dL_law_236 rfl ?_
        refine ev_xald (q := 238) dL_law_237 (Or.inl ⟨rfl, hG, rfl⟩) (nI_add (7 * k) 3) (by omega) hL31 rfl ?_
        refine ev_cV (K := kL_law) (pc := 238) (q := 241) (m_cell (d := 0) hWm (by rw [er]; exact hsz) _ _ _) dL_law_238 l_L_21 (hWm _ _ rfl) rfl rfl (Nat.le_of_ble_eq_true rfl) (by omega) rfl rfl (fun r S1 hp => ?_)
        obtain ⟨V2, rfl, rfl, hr2, hFM⟩ := hp
        rw [er]
        refine ev_icmp_eq (q := 244) (t := 992) dL_law_241 rfl (by decide) (fun c => ?_) (fun c => ?_)
        · exact fin _ _ (by omega) (by omega) N1 SH1 V2 (hJ.step hC1 hM1 (hr2.trans (by rw [er])) hFM (I_cell hI _ _ _))
        · exact absurd rfl c
      · refine ev_tableIn (q := 246) dL_law_33 (by decide) (by decide) rfl (by decide) ?_
        refine ev_aload1 (q := 247) dL_law_246 rfl ?_
        refine ev_aload0 (q := 248) dL_law_247 rfl ?_
        refine ev_iload3 (q := 249) dL_law_248 rfl ?_
        refine ev_iconst (q := 250) (v := 1) dL_law_249 rfl rfl ?_
        refine ev_iadd (q := 251) dL_law_250 rfl ?_
        refine ev_xald (q := 252) dL_law_251 (Or.inl ⟨rfl, hG, rfl⟩) (nI_add (7 * k) 1) (by omega) hL31 rfl ?_
        refine ev_cV (K := kL_law) (pc := 252) (q := 255) (c_lose (d := 0) hC hsz _) dL_law_252 l_L_22 (hW _ _ rfl) rfl rfl (Nat.le_of_ble_eq_true rfl) (by omega) rfl rfl (fun r S1 hp => ?_)
        obtain ⟨N1, SH1, V1, rfl, rfl, hC1, hF1, hM1, hN1⟩ := hp
        have hWm : wM SH1 := hm.ext hM1
        have er : res V1 = res V := hF1.resE
        refine ev_aload2 (q := 256) dL_law_255 rfl ?_
        refine ev_aload0 (q := 257) dL_law_256 rfl ?_
        refine ev_iload3 (q := 258) dL_law_257 rfl ?_
        refine ev_iconst (q := 259) (v := 1) dL_law_258 rfl rfl ?_
        refine ev_iadd (q := 260) dL_law_259 rfl ?_
        refine ev_xald (q := 261) dL_law_260 (Or.inl ⟨rfl, hG, rfl⟩) (nI_add (7 * k) 1) (by omega) hL31 rfl ?_
        refine ev_cV (K := kL_law) (pc := 261) (q := 264) (m_lose (d := 0) hWm _) dL_law_261 l_L_26 (hWm _ _ rfl) rfl rfl (Nat.le_of_ble_eq_true rfl) (by omega) rfl rfl (fun r S1 hp => ?_)
        obtain ⟨V2, rfl, rfl, hr2, hFM⟩ := hp
        rw [er]
        refine ev_icmp_eq (q := 267) (t := 992) dL_law_264 rfl (by decide) (fun c => ?_) (fun c => ?_)
        · exact fin _ _ (by omega) (by omega) N1 SH1 V2 (hJ.step hC1 hM1 (hr2.trans (by rw [er])) hFM (I_lose hI _))
        · exact absurd rfl c
      · refine ev_tableIn (q := 269) dL_law_33 (by decide) (by decide) rfl (by decide) ?_
        refine ev_aload1 (q := 270) dL_law_269 rfl ?_
        refine ev_aload0 (q := 271) dL_law_270 rfl ?_
        refine ev_iload3 (q := 272) dL_law_271 rfl ?_
        refine ev_iconst (q := 273) (v := 1) dL_law_272 rfl rfl ?_
        refine ev_iadd (q := 274) dL_law_273 rfl ?_
        refine ev_xald (q := 275) dL_law_274 (Or.inl ⟨rfl, hG, rfl⟩) (nI_add (7 * k) 1) (by omega) hL31 rfl ?_
        refine ev_aload0 (q := 276) dL_law_275 rfl ?_
        refine ev_iload3 (q := 277) dL_law_276 rfl ?_
        refine ev_iconst (q := 278) (v := 2) dL_law_277 rfl rfl ?_
        refine ev_iadd (q := 279) dL_law_278 rfl ?_
        refine ev_xald (q := 280) dL_law_279 (Or.inl ⟨rfl, hG, rfl⟩) (nI_add (7 * k) 2) (by omega) hL31 rfl ?_
        refine ev_cV (K := kL_law) (pc := 280) (q := 283) (c_hits (d := 0) hC _ _) dL_law_280 l_L_27 (hW _ _ rfl) rfl rfl (Nat.le_of_ble_eq_true rfl) (by omega) rfl rfl (fun r S1 hp => ?_)
        obtain ⟨N1, SH1, V1, rfl, rfl, hC1, hF1, hM1, hN1⟩ := hp
        have hWm : wM SH1 := hm.ext hM1
        have er : res V1 = res V := hF1.resE
        refine ev_aload2 (q := 284) dL_law_283 rfl ?_
        refine ev_aload0 (q := 285) dL_law_284 rfl ?_
        refine ev_iload3 (q := 286) dL_law_285 rfl ?_
        refine ev_iconst (q := 287) (v := 1) dL_law_286 rfl rfl ?_
        refine ev_iadd (q := 288) dL_law_287 rfl ?_
        refine ev_xald (q := 289) dL_law_288 (Or.inl ⟨rfl, hG, rfl⟩) (nI_add (7 * k) 1) (by omega) hL31 rfl ?_
        refine ev_aload0 (q := 290) dL_law_289 rfl ?_
        refine ev_iload3 (q := 291) dL_law_290 rfl ?_
        refine ev_iconst (q := 292) (v := 2) dL_law_291 rfl rfl ?_
        refine ev_iadd (q := 293) dL_law_292 rfl ?_
        refine ev_xald (q := 294) dL_law_293 (Or.inl ⟨rfl, hG, rfl⟩) (nI_add (7 * k) 2) (by omega) hL31 rfl ?_
        refine ev_cV (K := kL_law) (pc := 294) (q := 297) (m_hits (d := 0) hWm _ _) dL_law_294 l_L_31 (hWm _ _ rfl) rfl rfl (Nat.le_of_ble_eq_true rfl) (by omega) rfl rfl (fun r S1 hp => ?_)
        obtain ⟨V2, rfl, rfl, hr2, hFM⟩ := hp
        rw [er]
        refine ev_icmp_eq (q := 300) (t := 992) dL_law_297 rfl (by decide) (fun c => ?_) (fun c => ?_)
        · exact fin _ _ (by omega) (by omega) N1 SH1 V2 (hJ.step hC1 hM1 (hr2.trans (by rw [er])) hFM (I_hits hI _ _))
        · exact absurd rfl c
      · refine ev_tableIn (q := 302) dL_law_33 (by decide) (by decide) rfl (by decide) ?_
        refine ev_aload1 (q := 303) dL_law_302 rfl ?_
        refine ev_aload0 (q := 304) dL_law_303 rfl ?_
        refine ev_iload3 (q := 305) dL_law_304 rfl ?_
        refine ev_iconst (q := 306) (v := 1) dL_law_305 rfl rfl ?_
        refine ev_iadd (q := 307) dL_law_306 rfl ?_
        refine ev_xald (q := 308) dL_law_307 (Or.inl ⟨rfl, hG, rfl⟩) (nI_add (7 * k) 1) (by omega) hL31 rfl ?_
        refine ev_aload0 (q := 309) dL_law_308 rfl ?_
        refine ev_iload3 (q := 310) dL_law_309 rfl ?_
        refine ev_iconst (q := 311) (v := 2) dL_law_310 rfl rfl ?_
        refine ev_iadd (q := 312) dL_law_311 rfl ?_
        refine ev_xald (q := 313) dL_law_312 (Or.inl ⟨rfl, hG, rfl⟩) (nI_add (7 * k) 2) (by omega) hL31 rfl ?_
        refine ev_cV (K := kL_law) (pc := 313) (q := 316) (c_load (d := 0) hC hsz _ _) dL_law_313 l_L_32 (hW _ _ rfl) rfl rfl (Nat.le_of_ble_eq_true rfl) (by omega) rfl rfl (fun r S1 hp => ?_)
        obtain ⟨N1, SH1, V1, rfl, rfl, hC1, hF1, hM1, hN1⟩ := hp
        have hWm : wM SH1 := hm.ext hM1
        have er : res V1 = res V := hF1.resE
        refine ev_aload2 (q := 317) dL_law_316 rfl ?_
        refine ev_aload0 (q := 318) dL_law_317 rfl ?_
        refine ev_iload3 (q := 319) dL_law_318 rfl ?_
        refine ev_iconst (q := 320) (v := 1) dL_law_319 rfl rfl ?_
        refine ev_iadd (q := 321) dL_law_320 rfl ?_
        refine ev_xald (q := 322) dL_law_321 (Or.inl ⟨rfl, hG, rfl⟩) (nI_add (7 * k) 1) (by omega) hL31 rfl ?_
        refine ev_aload0 (q := 323) dL_law_322 rfl ?_
        refine ev_iload3 (q := 324) dL_law_323 rfl ?_
        refine ev_iconst (q := 325) (v := 2) dL_law_324 rfl rfl ?_
        refine ev_iadd (q := 326) dL_law_325 rfl ?_
        refine ev_xald (q := 327) dL_law_326 (Or.inl ⟨rfl, hG, rfl⟩) (nI_add (7 * k) 2) (by omega) hL31 rfl ?_
        refine ev_cV (K := kL_law) (pc := 327) (q := 330) (m_load (d := 0) hWm (by rw [er]; exact hsz) _ _) dL_law_327 l_L_35 (hWm _ _ rfl) rfl rfl (Nat.le_of_ble_eq_true rfl) (by omega) rfl rfl (fun r S1 hp => ?_)
        obtain ⟨V2, rfl, rfl, hr2, hFM⟩ := hp
        rw [er]
        refine ev_icmp_eq (q := 333) (t := 992) dL_law_330 rfl (by decide) (fun c => ?_) (fun c => ?_)
        · exact fin _ _ (by omega) (by omega) N1 SH1 V2 (hJ.step hC1 hM1 (hr2.trans (by rw [er])) hFM (I_load hI _ _))
        · exact absurd rfl c
      · refine ev_tableIn (q := 335) dL_law_33 (by decide) (by decide) rfl (by decide) ?_
        refine ev_aload1 (q := 336) dL_law_335 rfl ?_
        refine ev_aload0 (q := 337) dL_law_336 rfl ?_
        refine ev_iload3 (q := 338) dL_law_337 rfl ?_
        refine ev_iconst (q := 339) (v := 1) dL_law_338 rfl rfl ?_
        refine ev_iadd (q := 340) dL_law_339 rfl ?_
        refine ev_xald (q := 341) dL_law_340 (Or.inl ⟨rfl, hG, rfl⟩) (nI_add (7 * k) 1) (by omega) hL31 rfl ?_
        refine ev_aload0 (q := 342) dL_law_341 rfl ?_
        refine ev_iload3 (q := 343) dL_law_342 rfl ?_
        refine ev_iconst (q := 344) (v := 2) dL_law_343 rfl rfl ?_
        refine ev_iadd (q := 345) dL_law_344 rfl ?_
        refine ev_xald (q := 346) dL_law_345 (Or.inl ⟨rfl, hG, rfl⟩) (nI_add (7 * k) 2) (by omega) hL31 rfl ?_
        refine ev_aload0 (q := 347) dL_law_346 rfl ?_
        refine ev_iload3 (q := 348) dL_law_347 rfl ?_
        refine ev_iconst (q := 349) (v := 3) dL_law_348 rfl rfl ?_
        refine ev_iadd (q := 350) dL_law_349 rfl ?_
        refine ev_xald (q := 351) dL_law_350 (Or.inl ⟨rfl, hG, rfl⟩) (nI_add (7 * k) 3) (by omega) hL31 rfl ?_
        refine ev_cV (K := kL_law) (pc := 351) (q := 354) (c_mask (d := 0) hC _ _ _) dL_law_351 l_L_36 (hW _ _ rfl) rfl rfl (Nat.le_of_ble_eq_true rfl) (by omega) rfl rfl (fun r S1 hp => ?_)
        obtain ⟨N1, SH1, V1, rfl, rfl, hC1, hF1, hM1, hN1⟩ := hp
        have hWm : wM SH1 := hm.ext hM1
        have er : res V1 = res V := hF1.resE
        refine ev_aload2 (q := 355) dL_law_354 rfl ?_
        refine ev_aload0 (q := 356) dL_law_355 rfl ?_
        refine ev_iload3 (q := 357) dL_law_356 rfl ?_
        refine ev_iconst (q := 358) (v := 1) dL_law_357 rfl rfl ?_
        refine ev_iadd (q := 359) dL_law_358 rfl ?_
        refine ev_xald (q := 360) dL_law_359 (Or.inl ⟨rfl, hG, rfl⟩) (nI_add (7 * k) 1) (by omega) hL31 rfl ?_
        refine ev_aload0 (q := 361) dL_law_360 rfl ?_
        refine ev_iload3 (q := 362) dL_law_361 rfl ?_
        refine ev_iconst (q := 363) (v := 2) dL_law_362 rfl rfl ?_
        refine ev_iadd (q := 364) dL_law_363 rfl ?_
        refine ev_xald (q := 365) dL_law_364 (Or.inl ⟨rfl, hG, rfl⟩) (nI_add (7 * k) 2) (by omega) hL31 rfl ?_
        refine ev_aload0 (q := 366) dL_law_365 rfl ?_
        refine ev_iload3 (q := 367) dL_law_366 rfl ?_
        refine ev_iconst (q := 368) (v := 3) dL_law_367 rfl rfl ?_
        refine ev_iadd (q := 369) dL_law_368 rfl ?_
        refine ev_xald (q := 370) dL_law_369 (Or.inl ⟨rfl, hG, rfl⟩) (nI_add (7 * k) 3) (by omega) hL31 rfl ?_
        refine ev_cV (K := kL_law) (pc := 370) (q := 373) (m_mask (d := 0) hWm _ _ _) dL_law_370 l_L_39 (hWm _ _ rfl) rfl rfl (Nat.le_of_ble_eq_true rfl) (by omega) rfl rfl (fun r S1 hp => ?_)
        obtain ⟨V2, rfl, rfl, hr2, hFM⟩ := hp
        rw [er]
        refine ev_icmp_eq (q := 376) (t := 992) dL_law_373 rfl (by decide) (fun c => ?_) (fun c => ?_)
        · exact fin _ _ (by omega) (by omega) N1 SH1 V2 (hJ.step hC1 hM1 (hr2.trans (by rw [er])) hFM (I_mask hI _ _ _))
        · exact absurd rfl c
      · refine ev_tableIn (q := 378) dL_law_33 (by decide) (by decide) rfl (by decide) ?_
        refine ev_aload1 (q := 379) dL_law_378 rfl ?_
        refine ev_aload0 (q := 380) dL_law_379 rfl ?_
        refine ev_iload3 (q := 381) dL_law_380 rfl ?_
        refine ev_iconst (q := 382) (v := 1) dL_law_381 rfl rfl ?_
        refine ev_iadd (q := 383) dL_law_382 rfl ?_
        refine ev_xald (q := 384) dL_law_383 (Or.inl ⟨rfl, hG, rfl⟩) (nI_add (7 * k) 1) (by omega) hL31 rfl ?_
        refine ev_aload0 (q := 385) dL_law_384 rfl ?_
        refine ev_iload3 (q := 386) dL_law_385 rfl ?_
        refine ev_iconst (q := 387) (v := 2) dL_law_386 rfl rfl ?_
        refine ev_iadd (q := 388) dL_law_387 rfl ?_
        refine ev_xald (q := 389) dL_law_388 (Or.inl ⟨rfl, hG, rfl⟩) (nI_add (7 * k) 2) (by omega) hL31 rfl ?_
        refine ev_cV (K := kL_law) (pc := 389) (q := 392) (c_layer (d := 0) hC _ _) dL_law_389 l_L_40 (hW _ _ rfl) rfl rfl (Nat.le_of_ble_eq_true rfl) (by omega) rfl rfl (fun r S1 hp => ?_)
        obtain ⟨N1, SH1, V1, rfl, rfl, hC1, hF1, hM1, hN1⟩ := hp
        have hWm : wM SH1 := hm.ext hM1
        have er : res V1 = res V := hF1.resE
        refine ev_aload2 (q := 393) dL_law_392 rfl ?_
        refine ev_aload0 (q := 394) dL_law_393 rfl ?_
        refine ev_iload3 (q := 395) dL_law_394 rfl ?_
        refine ev_iconst (q := 396) (v := 1) dL_law_395 rfl rfl ?_
        refine ev_iadd (q := 397) dL_law_396 rfl ?_
        refine ev_xald (q := 398) dL_law_397 (Or.inl ⟨rfl, hG, rfl⟩) (nI_add (7 * k) 1) (by omega) hL31 rfl ?_
        refine ev_aload0 (q := 399) dL_law_398 rfl ?_
        refine ev_iload3 (q := 400) dL_law_399 rfl ?_
        refine ev_iconst (q := 401) (v := 2) dL_law_400 rfl rfl ?_
        refine ev_iadd (q := 402) dL_law_401 rfl ?_
        refine ev_xald (q := 403) dL_law_402 (Or.inl ⟨rfl, hG, rfl⟩) (nI_add (7 * k) 2) (by omega) hL31 rfl ?_
        refine ev_cV (K := kL_law) (pc := 403) (q := 406) (m_layer (d := 0) hWm _ _) dL_law_403 l_L_43 (hWm _ _ rfl) rfl rfl (Nat.le_of_ble_eq_true rfl) (by omega) rfl rfl (fun r S1 hp => ?_)
        obtain ⟨V2, rfl, rfl, hr2, hFM⟩ := hp
        rw [er]
        refine ev_icmp_eq (q := 409) (t := 992) dL_law_406 rfl (by decide) (fun c => ?_) (fun c => ?_)
        · exact fin _ _ (by omega) (by omega) N1 SH1 V2 (hJ.step hC1 hM1 (hr2.trans (by rw [er])) hFM hI.up)
        · exact absurd rfl c
      · refine ev_tableIn (q := 411) dL_law_33 (by decide) (by decide) rfl (by decide) ?_
        refine EV.room (bc := b0 + 4) (bs := c0 + 28) ?_ (by omega) (by omega)
        refine ev_aload1 (q := 412) dL_law_411 rfl ?_
        refine ev_aload0 (q := 413) dL_law_412 rfl ?_
        refine ev_iload3 (q := 414) dL_law_413 rfl ?_
        refine ev_iconst (q := 415) (v := 1) dL_law_414 rfl rfl ?_
        refine ev_iadd (q := 416) dL_law_415 rfl ?_
        refine ev_xald (q := 417) dL_law_416 (Or.inl ⟨rfl, hG, rfl⟩) (nI_add (7 * k) 1) (by omega) hL31 rfl ?_
        refine ev_aload0 (q := 418) dL_law_417 rfl ?_
        refine ev_iload3 (q := 419) dL_law_418 rfl ?_
        refine ev_iconst (q := 420) (v := 2) dL_law_419 rfl rfl ?_
        refine ev_iadd (q := 421) dL_law_420 rfl ?_
        refine ev_xald (q := 422) dL_law_421 (Or.inl ⟨rfl, hG, rfl⟩) (nI_add (7 * k) 2) (by omega) hL31 rfl ?_
        refine ev_aload0 (q := 423) dL_law_422 rfl ?_
        refine ev_iload3 (q := 424) dL_law_423 rfl ?_
        refine ev_iconst (q := 425) (v := 3) dL_law_424 rfl rfl ?_
        refine ev_iadd (q := 426) dL_law_425 rfl ?_
        refine ev_xald (q := 427) dL_law_426 (Or.inl ⟨rfl, hG, rfl⟩) (nI_add (7 * k) 3) (by omega) hL31 rfl ?_
        refine ev_aload0 (q := 428) dL_law_427 rfl ?_
        refine ev_iload3 (q := 429) dL_law_428 rfl ?_
        refine ev_iconst (q := 430) (v := 4) dL_law_429 rfl rfl ?_
        refine ev_iadd (q := 431) dL_law_430 rfl ?_
        refine ev_xald (q := 432) dL_law_431 (Or.inl ⟨rfl, hG, rfl⟩) (nI_add (7 * k) 4) (by omega) hL31 rfl ?_
        refine ev_aload0 (q := 433) dL_law_432 rfl ?_
        refine ev_iload3 (q := 434) dL_law_433 rfl ?_
        refine ev_iconst (q := 435) (v := 5) dL_law_434 rfl rfl ?_
        refine ev_iadd (q := 436) dL_law_435 rfl ?_
        refine ev_xald (q := 437) dL_law_436 (Or.inl ⟨rfl, hG, rfl⟩) (nI_add (7 * k) 5) (by omega) hL31 rfl ?_
        refine ev_aload0 (q := 438) dL_law_437 rfl ?_
        refine ev_iload3 (q := 439) dL_law_438 rfl ?_
        refine ev_bipush (q := 441) (v := 6) dL_law_439 rfl rfl ?_
        refine ev_iadd (q := 442) dL_law_441 rfl ?_
        refine ev_xald (q := 443) dL_law_442 (Or.inl ⟨rfl, hG, rfl⟩) (nI_add (7 * k) 6) (by omega) hL31 rfl ?_
        refine ev_cV (K := kL_law) (pc := 443) (q := 446) (c_road (d := 0) hC hro _ _ _ _ _ _) dL_law_443 l_L_44 (hW _ _ rfl) rfl rfl (Nat.le_of_ble_eq_true rfl) (by omega) rfl rfl (fun r S1 hp => ?_)
        obtain ⟨N1, SH1, V1, rfl, rfl, hC1, hF1, hM1, hN1⟩ := hp
        have hWm : wM SH1 := hm.ext hM1
        have er : res V1 = res V := hF1.resE
        refine ev_aload2 (q := 447) dL_law_446 rfl ?_
        refine ev_aload0 (q := 448) dL_law_447 rfl ?_
        refine ev_iload3 (q := 449) dL_law_448 rfl ?_
        refine ev_iconst (q := 450) (v := 1) dL_law_449 rfl rfl ?_
        refine ev_iadd (q := 451) dL_law_450 rfl ?_
        refine ev_xald (q := 452) dL_law_451 (Or.inl ⟨rfl, hG, rfl⟩) (nI_add (7 * k) 1) (by omega) hL31 rfl ?_
        refine ev_aload0 (q := 453) dL_law_452 rfl ?_
        refine ev_iload3 (q := 454) dL_law_453 rfl ?_
        refine ev_iconst (q := 455) (v := 2) dL_law_454 rfl rfl ?_
        refine ev_iadd (q := 456) dL_law_455 rfl ?_
        refine ev_xald (q := 457) dL_law_456 (Or.inl ⟨rfl, hG, rfl⟩) (nI_add (7 * k) 2) (by omega) hL31 rfl ?_
        refine ev_aload0 (q := 458) dL_law_457 rfl ?_
        refine ev_iload3 (q := 459) dL_law_458 rfl ?_
        refine ev_iconst (q := 460) (v := 3) dL_law_459 rfl rfl ?_
        refine ev_iadd (q := 461) dL_law_460 rfl ?_
        refine ev_xald (q := 462) dL_law_461 (Or.inl ⟨rfl, hG, rfl⟩) (nI_add (7 * k) 3) (by omega) hL31 rfl ?_
        refine ev_aload0 (q := 463) dL_law_462 rfl ?_
        refine ev_iload3 (q := 464) dL_law_463 rfl ?_
        refine ev_iconst (q := 465) (v := 4) dL_law_464 rfl rfl ?_
        refine ev_iadd (q := 466) dL_law_465 rfl ?_
        refine ev_xald (q := 467) dL_law_466 (Or.inl ⟨rfl, hG, rfl⟩) (nI_add (7 * k) 4) (by omega) hL31 rfl ?_
        refine ev_aload0 (q := 468) dL_law_467 rfl ?_
        refine ev_iload3 (q := 469) dL_law_468 rfl ?_
        refine ev_iconst (q := 470) (v := 5) dL_law_469 rfl rfl ?_
        refine ev_iadd (q := 471) dL_law_470 rfl ?_
        refine ev_xald (q := 472) dL_law_471 (Or.inl ⟨rfl, hG, rfl⟩) (nI_add (7 * k) 5) (by omega) hL31 rfl ?_
        refine ev_aload0 (q := 473) dL_law_472 rfl ?_
        refine ev_iload3 (q := 474) dL_law_473 rfl ?_
        refine ev_bipush (q := 476) (v := 6) dL_law_474 rfl rfl ?_
        refine ev_iadd (q := 477) dL_law_476 rfl ?_
        refine ev_xald (q := 478) dL_law_477 (Or.inl ⟨rfl, hG, rfl⟩) (nI_add (7 * k) 6) (by omega) hL31 rfl ?_
        refine ev_cV (K := kL_law) (pc := 478) (q := 481) (m_road (d := 0) hWm (by rw [er]; exact hro) _ _ _ _ _ _) dL_law_478 l_L_48 (hWm _ _ rfl) rfl rfl (Nat.le_of_ble_eq_true rfl) (by omega) rfl rfl (fun r S1 hp => ?_)
        obtain ⟨V2, rfl, rfl, hr2, hFM⟩ := hp
        rw [er]
        refine ev_icmp_eq (q := 484) (t := 992) dL_law_481 rfl (by decide) (fun c => ?_) (fun c => ?_)
        · exact fin _ _ (by omega) (by omega) N1 SH1 V2 (hJ.step hC1 hM1 (hr2.trans (by rw [er])) hFM (I_road hI _ _ _ _ _ _))
        · exact absurd rfl c
      · refine ev_tableIn (q := 486) dL_law_33 (by decide) (by decide) rfl (by decide) ?_
        refine ev_aload1 (q := 487) dL_law_486 rfl ?_
        refine ev_aload0 (q := 488) dL_law_487 rfl ?_
        refine ev_iload3 (q := 489) dL_law_488 rfl ?_
        refine ev_iconst (q := 490) (v := 1) dL_law_489 rfl rfl ?_
        refine ev_iadd (q := 491) dL_law_490 rfl ?_
        refine ev_xald (q := 492) dL_law_491 (Or.inl ⟨rfl, hG, rfl⟩) (nI_add (7 * k) 1) (by omega) hL31 rfl ?_
        refine ev_aload0 (q := 493) dL_law_492 rfl ?_
        refine ev_iload3 (q := 494) dL_law_493 rfl ?_
        refine ev_iconst (q := 495) (v := 2) dL_law_494 rfl rfl ?_
        refine ev_iadd (q := 496) dL_law_495 rfl ?_
        refine ev_xald (q := 497) dL_law_496 (Or.inl ⟨rfl, hG, rfl⟩) (nI_add (7 * k) 2) (by omega) hL31 rfl ?_
        refine ev_aload0 (q := 498) dL_law_497 rfl ?_
        refine ev_iload3 (q := 499) dL_law_498 rfl ?_
        refine ev_iconst (q := 500) (v := 3) dL_law_499 rfl rfl ?_
        refine ev_iadd (q := 501) dL_law_500 rfl ?_
        refine ev_xald (q := 502) dL_law_501 (Or.inl ⟨rfl, hG, rfl⟩) (nI_add (7 * k) 3) (by omega) hL31 rfl ?_
        refine ev_cV (K := kL_law) (pc := 502) (q := 505) (c_span (d := 0) hC hro _ _ _) dL_law_502 l_L_49 (hW _ _ rfl) rfl rfl (Nat.le_of_ble_eq_true rfl) (by omega) rfl rfl (fun r S1 hp => ?_)
        obtain ⟨N1, SH1, V1, rfl, rfl, hC1, hF1, hM1, hN1⟩ := hp
        have hWm : wM SH1 := hm.ext hM1
        have er : res V1 = res V := hF1.resE
        refine ev_aload2 (q := 506) dL_law_505 rfl ?_
        refine ev_aload0 (q := 507) dL_law_506 rfl ?_
        refine ev_iload3 (q := 508) dL_law_507 rfl ?_
        refine ev_iconst (q := 509) (v := 1) dL_law_508 rfl rfl ?_
        refine ev_iadd (q := 510) dL_law_509 rfl ?_
        refine ev_xald (q := 511) dL_law_510 (Or.inl ⟨rfl, hG, rfl⟩) (nI_add (7 * k) 1) (by omega) hL31 rfl ?_
        refine ev_aload0 (q := 512) dL_law_511 rfl ?_
        refine ev_iload3 (q := 513) dL_law_512 rfl ?_
        refine ev_iconst (q := 514) (v := 2) dL_law_513 rfl rfl ?_
        refine ev_iadd (q := 515) dL_law_514 rfl ?_
        refine ev_xald (q := 516) dL_law_515 (Or.inl ⟨rfl, hG, rfl⟩) (nI_add (7 * k) 2) (by omega) hL31 rfl ?_
        refine ev_aload0 (q := 517) dL_law_516 rfl ?_
        refine ev_iload3 (q := 518) dL_law_517 rfl ?_
        refine ev_iconst (q := 519) (v := 3) dL_law_518 rfl rfl ?_
        refine ev_iadd (q := 520) dL_law_519 rfl ?_
        refine ev_xald (q := 521) dL_law_520 (Or.inl ⟨rfl, hG, rfl⟩) (nI_add (7 * k) 3) (by omega) hL31 rfl ?_
        refine ev_cV (K := kL_law) (pc := 521) (q := 524) (m_span (d := 0) hWm (by rw [er]; exact hro) _ _ _) dL_law_521 l_L_52 (hWm _ _ rfl) rfl rfl (Nat.le_of_ble_eq_true rfl) (by omega) rfl rfl (fun r S1 hp => ?_)
        obtain ⟨V2, rfl, rfl, hr2, hFM⟩ := hp
        rw [er]
        refine ev_icmp_eq (q := 527) (t := 992) dL_law_524 rfl (by decide) (fun c => ?_) (fun c => ?_)
        · exact fin _ _ (by omega) (by omega) N1 SH1 V2 (hJ.step hC1 hM1 (hr2.trans (by rw [er])) hFM (I_span hI _ _ _))
        · exact absurd rfl c
      · refine ev_tableIn (q := 529) dL_law_33 (by decide) (by decide) rfl (by decide) ?_
        refine ev_aload1 (q := 530) dL_law_529 rfl ?_
        refine ev_cV (K := kL_law) (pc := 530) (q := 533) (c_lit (d := 0) hC hsp) dL_law_530 l_L_53 (hW _ _ rfl) rfl rfl (Nat.le_of_ble_eq_true rfl) (by omega) rfl rfl (fun r S1 hp => ?_)
        obtain ⟨N1, SH1, V1, rfl, rfl, hC1, hF1, hM1, hN1⟩ := hp
        have hWm : wM SH1 := hm.ext hM1
        have er : res V1 = res V := hF1.resE
        refine ev_aload2 (q := 534) dL_law_533 rfl ?_
        refine ev_cV (K := kL_law) (pc := 534) (q := 537) (m_lit (d := 0) hWm (by rw [er]; exact hro)) dL_law_534 l_L_57 (hWm _ _ rfl) rfl rfl (Nat.le_of_ble_eq_true rfl) (by omega) rfl rfl (fun r S1 hp => ?_)
        obtain ⟨V2, rfl, rfl, hr2, hFM⟩ := hp
        rw [er]
        refine ev_icmp_eq (q := 540) (t := 992) dL_law_537 rfl (by decide) (fun c => ?_) (fun c => ?_)
        · exact fin _ _ (by omega) (by omega) N1 SH1 V2 (hJ.step hC1 hM1 (hr2.trans (by rw [er])) hFM hI.up)
        · exact absurd rfl c
      · refine ev_tableIn (q := 542) dL_law_33 (by decide) (by decide) rfl (by decide) ?_
        refine ev_aload1 (q := 543) dL_law_542 rfl ?_
        refine ev_aload0 (q := 544) dL_law_543 rfl ?_
        refine ev_iload3 (q := 545) dL_law_544 rfl ?_
        refine ev_iconst (q := 546) (v := 1) dL_law_545 rfl rfl ?_
        refine ev_iadd (q := 547) dL_law_546 rfl ?_
        refine ev_xald (q := 548) dL_law_547 (Or.inl ⟨rfl, hG, rfl⟩) (nI_add (7 * k) 1) (by omega) hL31 rfl ?_
        refine ev_cV (K := kL_law) (pc := 548) (q := 551) (c_held (d := 0) hC hro hsp _) dL_law_548 l_L_58 (hW _ _ rfl) rfl rfl (Nat.le_of_ble_eq_true rfl) (by omega) rfl rfl (fun r S1 hp => ?_)
        obtain ⟨N1, SH1, V1, rfl, rfl, hC1, hF1, hM1, hN1⟩ := hp
        have hWm : wM SH1 := hm.ext hM1
        have er : res V1 = res V := hF1.resE
        refine ev_aload2 (q := 552) dL_law_551 rfl ?_
        refine ev_aload0 (q := 553) dL_law_552 rfl ?_
        refine ev_iload3 (q := 554) dL_law_553 rfl ?_
        refine ev_iconst (q := 555) (v := 1) dL_law_554 rfl rfl ?_
        refine ev_iadd (q := 556) dL_law_555 rfl ?_
        refine ev_xald (q := 557) dL_law_556 (Or.inl ⟨rfl, hG, rfl⟩) (nI_add (7 * k) 1) (by omega) hL31 rfl ?_
        refine ev_cV (K := kL_law) (pc := 557) (q := 560) (m_held (d := 0) hWm (by rw [er]; exact hro) _) dL_law_557 l_L_61 (hWm _ _ rfl) rfl rfl (Nat.le_of_ble_eq_true rfl) (by omega) rfl rfl (fun r S1 hp => ?_)
        obtain ⟨V2, rfl, rfl, hr2, hFM⟩ := hp
        rw [er]
        refine ev_icmp_eq (q := 563) (t := 992) dL_law_560 rfl (by decide) (fun c => ?_) (fun c => ?_)
        · exact fin _ _ (by omega) (by omega) N1 SH1 V2 (hJ.step hC1 hM1 (hr2.trans (by rw [er])) hFM hI.up)
        · exact absurd rfl c
      · refine ev_tableIn (q := 565) dL_law_33 (by decide) (by decide) rfl (by decide) ?_
        refine ev_aload1 (q := 566) dL_law_565 rfl ?_
        refine ev_aload0 (q := 567) dL_law_566 rfl ?_
        refine ev_iload3 (q := 568) dL_law_567 rfl ?_
        refine ev_iconst (q := 569) (v := 1) dL_law_568 rfl rfl ?_
        refine ev_iadd (q := 570) dL_law_569 rfl ?_
        refine ev_xald (q := 571) dL_law_570 (Or.inl ⟨rfl, hG, rfl⟩) (nI_add (7 * k) 1) (by omega) hL31 rfl ?_
        refine ev_aload0 (q := 572) dL_law_571 rfl ?_
        refine ev_iload3 (q := 573) dL_law_572 rfl ?_
        refine ev_iconst (q := 574) (v := 2) dL_law_573 rfl rfl ?_
        refine ev_iadd (q := 575) dL_law_574 rfl ?_
        refine ev_xald (q := 576) dL_law_575 (Or.inl ⟨rfl, hG, rfl⟩) (nI_add (7 * k) 2) (by omega) hL31 rfl ?_
        refine ev_cV (K := kL_law) (pc := 576) (q := 579) (c_track (d := 0) hC hro hsp _ _) dL_law_576 l_L_62 (hW _ _ rfl) rfl rfl (Nat.le_of_ble_eq_true rfl) (by omega) rfl rfl (fun r S1 hp => ?_)
        obtain ⟨N1, SH1, V1, rfl, rfl, hC1, hF1, hM1, hN1⟩ := hp
        have hWm : wM SH1 := hm.ext hM1
        have er : res V1 = res V := hF1.resE
        refine ev_aload2 (q := 580) dL_law_579 rfl ?_
        refine ev_aload0 (q := 581) dL_law_580 rfl ?_
        refine ev_iload3 (q := 582) dL_law_581 rfl ?_
        refine ev_iconst (q := 583) (v := 1) dL_law_582 rfl rfl ?_
        refine ev_iadd (q := 584) dL_law_583 rfl ?_
        refine ev_xald (q := 585) dL_law_584 (Or.inl ⟨rfl, hG, rfl⟩) (nI_add (7 * k) 1) (by omega) hL31 rfl ?_
        refine ev_aload0 (q := 586) dL_law_585 rfl ?_
        refine ev_iload3 (q := 587) dL_law_586 rfl ?_
        refine ev_iconst (q := 588) (v := 2) dL_law_587 rfl rfl ?_
        refine ev_iadd (q := 589) dL_law_588 rfl ?_
        refine ev_xald (q := 590) dL_law_589 (Or.inl ⟨rfl, hG, rfl⟩) (nI_add (7 * k) 2) (by omega) hL31 rfl ?_
        refine ev_cV (K := kL_law) (pc := 590) (q := 593) (m_track (d := 0) hWm (by rw [er]; exact hro) _ _) dL_law_590 l_L_65 (hWm _ _ rfl) rfl rfl (Nat.le_of_ble_eq_true rfl) (by omega) rfl rfl (fun r S1 hp => ?_)
        obtain ⟨V2, rfl, rfl, hr2, hFM⟩ := hp
        rw [er]
        refine ev_icmp_eq (q := 596) (t := 992) dL_law_593 rfl (by decide) (fun c => ?_) (fun c => ?_)
        · exact fin _ _ (by omega) (by omega) N1 SH1 V2 (hJ.step hC1 hM1 (hr2.trans (by rw [er])) hFM hI.up)
        · exact absurd rfl c
      · refine ev_tableIn (q := 598) dL_law_33 (by decide) (by decide) rfl (by decide) ?_
        refine ev_aload1 (q := 599) dL_law_598 rfl ?_
        refine ev_aload0 (q := 600) dL_law_599 rfl ?_
        refine ev_iload3 (q := 601) dL_law_600 rfl ?_
        refine ev_iconst (q := 602) (v := 1) dL_law_601 rfl rfl ?_
        refine ev_iadd (q := 603) dL_law_602 rfl ?_
        refine ev_xald (q := 604) dL_law_603 (Or.inl ⟨rfl, hG, rfl⟩) (nI_add (7 * k) 1) (by omega) hL31 rfl ?_
        refine ev_aload0 (q := 605) dL_law_604 rfl ?_
        refine ev_iload3 (q := 606) dL_law_605 rfl ?_
        refine ev_iconst (q := 607) (v := 2) dL_law_606 rfl rfl ?_
        refine ev_iadd (q := 608) dL_law_607 rfl ?_
        refine ev_xald (q := 609) dL_law_608 (Or.inl ⟨rfl, hG, rfl⟩) (nI_add (7 * k) 2) (by omega) hL31 rfl ?_
        refine ev_cV (K := kL_law) (pc := 609) (q := 612) (c_miss (d := 0) hC hro hsp _ _) dL_law_609 l_L_66 (hW _ _ rfl) rfl rfl (Nat.le_of_ble_eq_true rfl) (by omega) rfl rfl (fun r S1 hp => ?_)
        obtain ⟨N1, SH1, V1, rfl, rfl, hC1, hF1, hM1, hN1⟩ := hp
        have hWm : wM SH1 := hm.ext hM1
        have er : res V1 = res V := hF1.resE
        refine ev_aload2 (q := 613) dL_law_612 rfl ?_
        refine ev_aload0 (q := 614) dL_law_613 rfl ?_
        refine ev_iload3 (q := 615) dL_law_614 rfl ?_
        refine ev_iconst (q := 616) (v := 1) dL_law_615 rfl rfl ?_
        refine ev_iadd (q := 617) dL_law_616 rfl ?_
        refine ev_xald (q := 618) dL_law_617 (Or.inl ⟨rfl, hG, rfl⟩) (nI_add (7 * k) 1) (by omega) hL31 rfl ?_
        refine ev_aload0 (q := 619) dL_law_618 rfl ?_
        refine ev_iload3 (q := 620) dL_law_619 rfl ?_
        refine ev_iconst (q := 621) (v := 2) dL_law_620 rfl rfl ?_
        refine ev_iadd (q := 622) dL_law_621 rfl ?_
        refine ev_xald (q := 623) dL_law_622 (Or.inl ⟨rfl, hG, rfl⟩) (nI_add (7 * k) 2) (by omega) hL31 rfl ?_
        refine ev_cV (K := kL_law) (pc := 623) (q := 626) (m_miss (d := 0) hWm (by rw [er]; exact hro) (fun i _ => (tb_top V1 i).1) _ _) dL_law_623 l_L_69 (hWm _ _ rfl) rfl rfl (Nat.le_of_ble_eq_true rfl) (by omega) rfl rfl (fun r S1 hp => ?_)
        obtain ⟨V2, rfl, rfl, hr2, hFM⟩ := hp
        rw [er]
        refine ev_icmp_eq (q := 629) (t := 992) dL_law_626 rfl (by decide) (fun c => ?_) (fun c => ?_)
        · exact fin _ _ (by omega) (by omega) N1 SH1 V2 (hJ.step hC1 hM1 (hr2.trans (by rw [er])) hFM hI.up)
        · exact absurd rfl c
      · refine ev_tableIn (q := 631) dL_law_33 (by decide) (by decide) rfl (by decide) ?_
        refine ev_aload1 (q := 632) dL_law_631 rfl ?_
        refine ev_aload0 (q := 633) dL_law_632 rfl ?_
        refine ev_iload3 (q := 634) dL_law_633 rfl ?_
        refine ev_iconst (q := 635) (v := 1) dL_law_634 rfl rfl ?_
        refine ev_iadd (q := 636) dL_law_635 rfl ?_
        refine ev_xald (q := 637) dL_law_636 (Or.inl ⟨rfl, hG, rfl⟩) (nI_add (7 * k) 1) (by omega) hL31 rfl ?_
        refine ev_cV (K := kL_law) (pc := 637) (q := 640) (c_weight (d := 0) hC hro hsp _) dL_law_637 l_L_70 (hW _ _ rfl) rfl rfl (Nat.le_of_ble_eq_true rfl) (by omega) rfl rfl (fun r S1 hp => ?_)
        obtain ⟨N1, SH1, V1, rfl, rfl, hC1, hF1, hM1, hN1⟩ := hp
        have hWm : wM SH1 := hm.ext hM1
        have er : res V1 = res V := hF1.resE
        refine ev_aload2 (q := 641) dL_law_640 rfl ?_
        refine ev_aload0 (q := 642) dL_law_641 rfl ?_
        refine ev_iload3 (q := 643) dL_law_642 rfl ?_
        refine ev_iconst (q := 644) (v := 1) dL_law_643 rfl rfl ?_
        refine ev_iadd (q := 645) dL_law_644 rfl ?_
        refine ev_xald (q := 646) dL_law_645 (Or.inl ⟨rfl, hG, rfl⟩) (nI_add (7 * k) 1) (by omega) hL31 rfl ?_
        refine ev_cV (K := kL_law) (pc := 646) (q := 649) (m_weight (d := 0) hWm (by rw [er]; exact hro) _) dL_law_646 l_L_73 (hWm _ _ rfl) rfl rfl (Nat.le_of_ble_eq_true rfl) (by omega) rfl rfl (fun r S1 hp => ?_)
        obtain ⟨V2, rfl, rfl, hr2, hFM⟩ := hp
        rw [er]
        refine ev_icmp_eq (q := 652) (t := 992) dL_law_649 rfl (by decide) (fun c => ?_) (fun c => ?_)
        · exact fin _ _ (by omega) (by omega) N1 SH1 V2 (hJ.step hC1 hM1 (hr2.trans (by rw [er])) hFM hI.up)
        · exact absurd rfl c
      · refine ev_tableIn (q := 654) dL_law_33 (by decide) (by decide) rfl (by decide) ?_
        refine ev_aload1 (q := 655) dL_law_654 rfl ?_
        refine ev_aload0 (q := 656) dL_law_655 rfl ?_
        refine ev_iload3 (q := 657) dL_law_656 rfl ?_
        refine ev_iconst (q := 658) (v := 1) dL_law_657 rfl rfl ?_
        refine ev_iadd (q := 659) dL_law_658 rfl ?_
        refine ev_xald (q := 660) dL_law_659 (Or.inl ⟨rfl, hG, rfl⟩) (nI_add (7 * k) 1) (by omega) hL31 rfl ?_
        refine ev_cV (K := kL_law) (pc := 660) (q := 663) (c_heap (d := 0) hC hsp _) dL_law_660 l_L_74 (hW _ _ rfl) rfl rfl (Nat.le_of_ble_eq_true rfl) (by omega) rfl rfl (fun r S1 hp => ?_)
        obtain ⟨N1, SH1, V1, rfl, rfl, hC1, hF1, hM1, hN1⟩ := hp
        have hWm : wM SH1 := hm.ext hM1
        have er : res V1 = res V := hF1.resE
        refine ev_aload2 (q := 664) dL_law_663 rfl ?_
        refine ev_aload0 (q := 665) dL_law_664 rfl ?_
        refine ev_iload3 (q := 666) dL_law_665 rfl ?_
        refine ev_iconst (q := 667) (v := 1) dL_law_666 rfl rfl ?_
        refine ev_iadd (q := 668) dL_law_667 rfl ?_
        refine ev_xald (q := 669) dL_law_668 (Or.inl ⟨rfl, hG, rfl⟩) (nI_add (7 * k) 1) (by omega) hL31 rfl ?_
        refine ev_cV (K := kL_law) (pc := 669) (q := 672) (m_heap (d := 0) hWm (by rw [er]; exact hro) _) dL_law_669 l_L_77 (hWm _ _ rfl) rfl rfl (Nat.le_of_ble_eq_true rfl) (by omega) rfl rfl (fun r S1 hp => ?_)
        obtain ⟨V2, rfl, rfl, hr2, hFM⟩ := hp
        rw [er]
        refine ev_icmp_eq (q := 675) (t := 992) dL_law_672 rfl (by decide) (fun c => ?_) (fun c => ?_)
        · exact fin _ _ (by omega) (by omega) N1 SH1 V2 (hJ.step hC1 hM1 (hr2.trans (by rw [er])) hFM hI.up)
        · exact absurd rfl c
      · refine ev_tableIn (q := 677) dL_law_33 (by decide) (by decide) rfl (by decide) ?_
        refine ev_aload1 (q := 678) dL_law_677 rfl ?_
        refine ev_cV (K := kL_law) (pc := 678) (q := 681) (c_blind (d := 0) hC hsp) dL_law_678 l_L_78 (hW _ _ rfl) rfl rfl (Nat.le_of_ble_eq_true rfl) (by omega) rfl rfl (fun r S1 hp => ?_)
        obtain ⟨N1, SH1, V1, rfl, rfl, hC1, hF1, hM1, hN1⟩ := hp
        have hWm : wM SH1 := hm.ext hM1
        have er : res V1 = res V := hF1.resE
        refine ev_aload2 (q := 682) dL_law_681 rfl ?_
        refine ev_cV (K := kL_law) (pc := 682) (q := 685) (m_blind (d := 0) hWm (by rw [er]; exact hro)) dL_law_682 l_L_81 (hWm _ _ rfl) rfl rfl (Nat.le_of_ble_eq_true rfl) (by omega) rfl rfl (fun r S1 hp => ?_)
        obtain ⟨V2, rfl, rfl, hr2, hFM⟩ := hp
        rw [er]
        refine ev_icmp_eq (q := 688) (t := 992) dL_law_685 rfl (by decide) (fun c => ?_) (fun c => ?_)
        · exact fin _ _ (by omega) (by omega) N1 SH1 V2 (hJ.step hC1 hM1 (hr2.trans (by rw [er])) hFM hI.up)
        · exact absurd rfl c
      · refine ev_tableIn (q := 690) dL_law_33 (by decide) (by decide) rfl (by decide) ?_
        refine ev_aload1 (q := 691) dL_law_690 rfl ?_
        refine ev_aload0 (q := 692) dL_law_691 rfl ?_
        refine ev_iload3 (q := 693) dL_law_692 rfl ?_
        refine ev_iconst (q := 694) (v := 1) dL_law_693 rfl rfl ?_
        refine ev_iadd (q := 695) dL_law_694 rfl ?_
        refine ev_xald (q := 696) dL_law_695 (Or.inl ⟨rfl, hG, rfl⟩) (nI_add (7 * k) 1) (by omega) hL31 rfl ?_
        refine ev_cV (K := kL_law) (pc := 696) (q := 699) (c_feed (d := 0) hC htp _) dL_law_696 l_L_82 (hW _ _ rfl) rfl rfl (Nat.le_of_ble_eq_true rfl) (by omega) rfl rfl (fun r S1 hp => ?_)
        obtain ⟨N1, SH1, V1, rfl, rfl, hC1, hF1, hM1, hN1⟩ := hp
        have hWm : wM SH1 := hm.ext hM1
        have er : res V1 = res V := hF1.resE
        refine ev_aload2 (q := 700) dL_law_699 rfl ?_
        refine ev_aload0 (q := 701) dL_law_700 rfl ?_
        refine ev_iload3 (q := 702) dL_law_701 rfl ?_
        refine ev_iconst (q := 703) (v := 1) dL_law_702 rfl rfl ?_
        refine ev_iadd (q := 704) dL_law_703 rfl ?_
        refine ev_xald (q := 705) dL_law_704 (Or.inl ⟨rfl, hG, rfl⟩) (nI_add (7 * k) 1) (by omega) hL31 rfl ?_
        refine ev_cV (K := kL_law) (pc := 705) (q := 708) (m_feed (d := 0) hWm (by rw [er]; exact htp) _) dL_law_705 l_L_85 (hWm _ _ rfl) rfl rfl (Nat.le_of_ble_eq_true rfl) (by omega) rfl rfl (fun r S1 hp => ?_)
        obtain ⟨V2, rfl, rfl, hr2, hFM⟩ := hp
        rw [er]
        refine ev_icmp_eq (q := 711) (t := 992) dL_law_708 rfl (by decide) (fun c => ?_) (fun c => ?_)
        · exact fin _ _ (by omega) (by omega) N1 SH1 V2 (hJ.step hC1 hM1 (hr2.trans (by rw [er])) hFM (I_feed hI _))
        · exact absurd rfl c
      · refine ev_tableIn (q := 713) dL_law_33 (by decide) (by decide) rfl (by decide) ?_
        refine ev_aload1 (q := 714) dL_law_713 rfl ?_
        refine ev_cV (K := kL_law) (pc := 714) (q := 717) (c_clear (d := 0) hC) dL_law_714 l_L_86 (hW _ _ rfl) rfl rfl (Nat.le_of_ble_eq_true rfl) (by omega) rfl rfl (fun r S1 hp => ?_)
        obtain ⟨N1, SH1, V1, rfl, rfl, hC1, hF1, hM1, hN1⟩ := hp
        have hWm : wM SH1 := hm.ext hM1
        have er : res V1 = res V := hF1.resE
        refine ev_aload2 (q := 718) dL_law_717 rfl ?_
        refine ev_cV (K := kL_law) (pc := 718) (q := 721) (m_clear (d := 0) hWm) dL_law_718 l_L_89 (hWm _ _ rfl) rfl rfl (Nat.le_of_ble_eq_true rfl) (by omega) rfl rfl (fun r S1 hp => ?_)
        obtain ⟨V2, rfl, rfl, hr2, hFM⟩ := hp
        rw [er]
        refine ev_icmp_eq (q := 724) (t := 992) dL_law_721 rfl (by decide) (fun c => ?_) (fun c => ?_)
        · exact fin _ _ (by omega) (by omega) N1 SH1 V2 (hJ.step hC1 hM1 (hr2.trans (by rw [er])) hFM (I_clear hI))
        · exact absurd rfl c
      · refine ev_tableIn (q := 726) dL_law_33 (by decide) (by decide) rfl (by decide) ?_
        refine EV.room (bc := b0 + 4) (bs := c0 + 84) ?_ (by omega) (by omega)
        refine ev_aload1 (q := 727) dL_law_726 rfl ?_
        refine ev_aload0 (q := 728) dL_law_727 rfl ?_
        refine ev_iload3 (q := 729) dL_law_728 rfl ?_
        refine ev_iconst (q := 730) (v := 1) dL_law_729 rfl rfl ?_
        refine ev_iadd (q := 731) dL_law_730 rfl ?_
        refine ev_xald (q := 732) dL_law_731 (Or.inl ⟨rfl, hG, rfl⟩) (nI_add (7 * k) 1) (by omega) hL31 rfl ?_
        refine ev_aload0 (q := 733) dL_law_732 rfl ?_
        refine ev_iload3 (q := 734) dL_law_733 rfl ?_
        refine ev_iconst (q := 735) (v := 2) dL_law_734 rfl rfl ?_
        refine ev_iadd (q := 736) dL_law_735 rfl ?_
        refine ev_xald (q := 737) dL_law_736 (Or.inl ⟨rfl, hG, rfl⟩) (nI_add (7 * k) 2) (by omega) hL31 rfl ?_
        have both : ∀ b : Bool, (G.2.2.2.2.2 (7 * k + 2) = 0 ↔ b = false) → EV G l kL_law 300 (b0 + 4) (c0 + 84) 745 [some (.ref 0), some (.ref 4), some (.ref 36), some (.int (nI (7 * k)))] [.int (cond b 1 0), .int (G.2.2.2.2.2 (7 * k + 1)), .ref 4] (N, SH, V) (fun r S' => r = some (.int 1)) := by
          intro b hb
          refine ev_cV (K := kL_law) (pc := 745) (q := 748) (c_line (d := 0) hC htp hli hby hle _ b) dL_law_745 l_L_90 (hW _ _ rfl) rfl rfl (Nat.le_of_ble_eq_true rfl) (by omega) rfl rfl (fun r S1 hp => ?_)
          obtain ⟨N1, SH1, V1, rfl, rfl, hC1, hF1, hM1, hN1⟩ := hp
          have hWm : wM SH1 := hm.ext hM1
          have er : res V1 = res V := hF1.resE
          refine ev_aload2 (q := 749) dL_law_748 rfl ?_
          refine ev_aload0 (q := 750) dL_law_749 rfl ?_
          refine ev_iload3 (q := 751) dL_law_750 rfl ?_
          refine ev_iconst (q := 752) (v := 1) dL_law_751 rfl rfl ?_
          refine ev_iadd (q := 753) dL_law_752 rfl ?_
          refine ev_xald (q := 754) dL_law_753 (Or.inl ⟨rfl, hG, rfl⟩) (nI_add (7 * k) 1) (by omega) hL31 rfl ?_
          refine ev_aload0 (q := 755) dL_law_754 rfl ?_
          refine ev_iload3 (q := 756) dL_law_755 rfl ?_
          refine ev_iconst (q := 757) (v := 2) dL_law_756 rfl rfl ?_
          refine ev_iadd (q := 758) dL_law_757 rfl ?_
          refine ev_xald (q := 759) dL_law_758 (Or.inl ⟨rfl, hG, rfl⟩) (nI_add (7 * k) 2) (by omega) hL31 rfl ?_
          have two : EV G l kL_law 300 b0 c0 767 [some (.ref 0), some (.ref 4), some (.ref 36), some (.int (nI (7 * k)))] [.int (cond b 1 0), .int (G.2.2.2.2.2 (7 * k + 1)), .ref 36, .int (a_line (res V) (G.2.2.2.2.2 (7 * k + 1)))] (N1, SH1, V1) (fun r S' => r = some (.int 1)) := by
            refine ev_cV (K := kL_law) (pc := 767) (q := 770) (m_line (d := 0) hWm (by rw [er]; exact htp) (by rw [er]; exact hli) _ b) dL_law_767 l_L_94 (hWm _ _ rfl) rfl rfl (Nat.le_of_ble_eq_true rfl) (by omega) rfl rfl (fun r S1 hp => ?_)
            obtain ⟨V2, rfl, rfl, hr2, hFM⟩ := hp
            rw [er]
            refine ev_icmp_eq (q := 773) (t := 992) dL_law_770 rfl (by decide) (fun c => ?_) (fun c => ?_)
            · exact fin _ _ (by omega) (by omega) N1 SH1 V2 (hJ.step hC1 hM1 (hr2.trans (by rw [er])) hFM (I_line hI _ b))
            · exact absurd rfl c
          refine ev_if_eq (q := 762) (t := 766) dL_law_759 rfl (by decide) (fun cb => ?_) (fun cb => ?_)
          · have := hb.mp cb
            subst this
            refine ev_iconst (q := 767) (v := 0) dL_law_766 rfl rfl ?_
            exact two
          · have hbt : b = true := by cases b; exact absurd (hb.mpr rfl) cb; rfl
            subst hbt
            refine ev_iconst (q := 763) (v := 1) dL_law_762 rfl rfl ?_
            refine ev_goto (q := 767) dL_law_763 (by decide) ?_
            exact two
        refine ev_if_eq (q := 740) (t := 744) dL_law_737 rfl (by decide) (fun cb => ?_) (fun cb => ?_)
        · refine ev_iconst (q := 745) (v := 0) dL_law_744 rfl rfl ?_
          exact both false ⟨fun _ => rfl, fun _ => cb⟩
        · refine ev_iconst (q := 741) (v := 1) dL_law_740 rfl rfl ?_
          refine ev_goto (q := 745) dL_law_741 (by decide) ?_
          exact both true ⟨fun z => absurd z cb, fun z => by cases z⟩
      · refine ev_tableIn (q := 775) dL_law_33 (by decide) (by decide) rfl (by decide) ?_
        refine ev_aload1 (q := 776) dL_law_775 rfl ?_
        refine ev_aload0 (q := 777) dL_law_776 rfl ?_
        refine ev_iload3 (q := 778) dL_law_777 rfl ?_
        refine ev_iconst (q := 779) (v := 1) dL_law_778 rfl rfl ?_
        refine ev_iadd (q := 780) dL_law_779 rfl ?_
        refine ev_xald (q := 781) dL_law_780 (Or.inl ⟨rfl, hG, rfl⟩) (nI_add (7 * k) 1) (by omega) hL31 rfl ?_
        refine ev_aload0 (q := 782) dL_law_781 rfl ?_
        refine ev_iload3 (q := 783) dL_law_782 rfl ?_
        refine ev_iconst (q := 784) (v := 2) dL_law_783 rfl rfl ?_
        refine ev_iadd (q := 785) dL_law_784 rfl ?_
        refine ev_xald (q := 786) dL_law_785 (Or.inl ⟨rfl, hG, rfl⟩) (nI_add (7 * k) 2) (by omega) hL31 rfl ?_
        refine ev_cV (K := kL_law) (pc := 786) (q := 789) (c_thin (d := 0) hC hli _ _) dL_law_786 l_L_95 (hW _ _ rfl) rfl rfl (Nat.le_of_ble_eq_true rfl) (by omega) rfl rfl (fun r S1 hp => ?_)
        obtain ⟨N1, SH1, V1, rfl, rfl, hC1, hF1, hM1, hN1⟩ := hp
        have hWm : wM SH1 := hm.ext hM1
        have er : res V1 = res V := hF1.resE
        refine ev_aload2 (q := 790) dL_law_789 rfl ?_
        refine ev_aload0 (q := 791) dL_law_790 rfl ?_
        refine ev_iload3 (q := 792) dL_law_791 rfl ?_
        refine ev_iconst (q := 793) (v := 1) dL_law_792 rfl rfl ?_
        refine ev_iadd (q := 794) dL_law_793 rfl ?_
        refine ev_xald (q := 795) dL_law_794 (Or.inl ⟨rfl, hG, rfl⟩) (nI_add (7 * k) 1) (by omega) hL31 rfl ?_
        refine ev_aload0 (q := 796) dL_law_795 rfl ?_
        refine ev_iload3 (q := 797) dL_law_796 rfl ?_
        refine ev_iconst (q := 798) (v := 2) dL_law_797 rfl rfl ?_
        refine ev_iadd (q := 799) dL_law_798 rfl ?_
        refine ev_xald (q := 800) dL_law_799 (Or.inl ⟨rfl, hG, rfl⟩) (nI_add (7 * k) 2) (by omega) hL31 rfl ?_
        refine ev_cV (K := kL_law) (pc := 800) (q := 803) (m_thin (d := 0) hWm (by rw [er]; exact hli) _ _) dL_law_800 l_L_98 (hWm _ _ rfl) rfl rfl (Nat.le_of_ble_eq_true rfl) (by omega) rfl rfl (fun r S1 hp => ?_)
        obtain ⟨V2, rfl, rfl, hr2, hFM⟩ := hp
        rw [er]
        refine ev_icmp_eq (q := 806) (t := 992) dL_law_803 rfl (by decide) (fun c => ?_) (fun c => ?_)
        · exact fin _ _ (by omega) (by omega) N1 SH1 V2 (hJ.step hC1 hM1 (hr2.trans (by rw [er])) hFM (I_thin hI _ _))
        · exact absurd rfl c
      · refine ev_tableIn (q := 808) dL_law_33 (by decide) (by decide) rfl (by decide) ?_
        refine ev_aload1 (q := 809) dL_law_808 rfl ?_
        refine ev_aload0 (q := 810) dL_law_809 rfl ?_
        refine ev_iload3 (q := 811) dL_law_810 rfl ?_
        refine ev_iconst (q := 812) (v := 1) dL_law_811 rfl rfl ?_
        refine ev_iadd (q := 813) dL_law_812 rfl ?_
        refine ev_xald (q := 814) dL_law_813 (Or.inl ⟨rfl, hG, rfl⟩) (nI_add (7 * k) 1) (by omega) hL31 rfl ?_
        refine ev_cV (K := kL_law) (pc := 814) (q := 817) (c_holds (d := 0) hC hli hro hsp hhi hle hby hgd _) dL_law_814 l_L_99 (hW _ _ rfl) rfl rfl (Nat.le_of_ble_eq_true rfl) (by omega) rfl rfl (fun r S1 hp => ?_)
        obtain ⟨N1, SH1, V1, rfl, rfl, hC1, hF1, hM1, hN1⟩ := hp
        have hWm : wM SH1 := hm.ext hM1
        have er : res V1 = res V := hF1.resE
        refine ev_aload2 (q := 818) dL_law_817 rfl ?_
        refine ev_aload0 (q := 819) dL_law_818 rfl ?_
        refine ev_iload3 (q := 820) dL_law_819 rfl ?_
        refine ev_iconst (q := 821) (v := 1) dL_law_820 rfl rfl ?_
        refine ev_iadd (q := 822) dL_law_821 rfl ?_
        refine ev_xald (q := 823) dL_law_822 (Or.inl ⟨rfl, hG, rfl⟩) (nI_add (7 * k) 1) (by omega) hL31 rfl ?_
        refine ev_cV (K := kL_law) (pc := 823) (q := 826) (m_holds (d := 0) hWm (by rw [er]; exact hro) (by rw [er]; exact hli) (by rw [er]; exact hle) (bEv_res (by rw [er]; exact hev)) _) dL_law_823 l_L_102 (hWm _ _ rfl) rfl rfl (Nat.le_of_ble_eq_true rfl) (by omega) rfl rfl (fun r S1 hp => ?_)
        obtain ⟨V2, rfl, rfl, hr2, hFM⟩ := hp
        rw [er]
        refine ev_icmp_eq (q := 829) (t := 992) dL_law_826 rfl (by decide) (fun c => ?_) (fun c => ?_)
        · exact fin _ _ (by omega) (by omega) N1 SH1 V2 (hJ.step hC1 hM1 (hr2.trans (by rw [er])) hFM hI.up)
        · exact absurd rfl c
      · refine ev_tableIn (q := 831) dL_law_33 (by decide) (by decide) rfl (by decide) ?_
        refine ev_aload1 (q := 832) dL_law_831 rfl ?_
        refine ev_aload0 (q := 833) dL_law_832 rfl ?_
        refine ev_iload3 (q := 834) dL_law_833 rfl ?_
        refine ev_iconst (q := 835) (v := 1) dL_law_834 rfl rfl ?_
        refine ev_iadd (q := 836) dL_law_835 rfl ?_
        refine ev_xald (q := 837) dL_law_836 (Or.inl ⟨rfl, hG, rfl⟩) (nI_add (7 * k) 1) (by omega) hL31 rfl ?_
        refine ev_aload0 (q := 838) dL_law_837 rfl ?_
        refine ev_iload3 (q := 839) dL_law_838 rfl ?_
        refine ev_iconst (q := 840) (v := 2) dL_law_839 rfl rfl ?_
        refine ev_iadd (q := 841) dL_law_840 rfl ?_
        refine ev_xald (q := 842) dL_law_841 (Or.inl ⟨rfl, hG, rfl⟩) (nI_add (7 * k) 2) (by omega) hL31 rfl ?_
        refine ev_cV (K := kL_law) (pc := 842) (q := 845) (c_of (d := 0) hC hli _ _) dL_law_842 l_L_103 (hW _ _ rfl) rfl rfl (Nat.le_of_ble_eq_true rfl) (by omega) rfl rfl (fun r S1 hp => ?_)
        obtain ⟨N1, SH1, V1, rfl, rfl, hC1, hF1, hM1, hN1⟩ := hp
        have hWm : wM SH1 := hm.ext hM1
        have er : res V1 = res V := hF1.resE
        refine ev_aload2 (q := 846) dL_law_845 rfl ?_
        refine ev_aload0 (q := 847) dL_law_846 rfl ?_
        refine ev_iload3 (q := 848) dL_law_847 rfl ?_
        refine ev_iconst (q := 849) (v := 1) dL_law_848 rfl rfl ?_
        refine ev_iadd (q := 850) dL_law_849 rfl ?_
        refine ev_xald (q := 851) dL_law_850 (Or.inl ⟨rfl, hG, rfl⟩) (nI_add (7 * k) 1) (by omega) hL31 rfl ?_
        refine ev_aload0 (q := 852) dL_law_851 rfl ?_
        refine ev_iload3 (q := 853) dL_law_852 rfl ?_
        refine ev_iconst (q := 854) (v := 2) dL_law_853 rfl rfl ?_
        refine ev_iadd (q := 855) dL_law_854 rfl ?_
        refine ev_xald (q := 856) dL_law_855 (Or.inl ⟨rfl, hG, rfl⟩) (nI_add (7 * k) 2) (by omega) hL31 rfl ?_
        refine ev_cV (K := kL_law) (pc := 856) (q := 859) (m_of (d := 0) hWm (by rw [er]; exact hli) _ _) dL_law_856 l_L_106 (hWm _ _ rfl) rfl rfl (Nat.le_of_ble_eq_true rfl) (by omega) rfl rfl (fun r S1 hp => ?_)
        obtain ⟨V2, rfl, rfl, hr2, hFM⟩ := hp
        rw [er]
        refine ev_icmp_eq (q := 862) (t := 992) dL_law_859 rfl (by decide) (fun c => ?_) (fun c => ?_)
        · exact fin _ _ (by omega) (by omega) N1 SH1 V2 (hJ.step hC1 hM1 (hr2.trans (by rw [er])) hFM hI.up)
        · exact absurd rfl c
      · refine ev_tableIn (q := 864) dL_law_33 (by decide) (by decide) rfl (by decide) ?_
        refine ev_aload1 (q := 865) dL_law_864 rfl ?_
        refine ev_cV (K := kL_law) (pc := 865) (q := 868) (c_fire (d := 0) hC hro hsp hhi hle hby hgd (fun j hj => (hsa j hj).1) hkp hk2) dL_law_865 l_L_107 (hW _ _ rfl) rfl rfl (Nat.le_of_ble_eq_true rfl) (by omega) rfl rfl (fun r S1 hp => ?_)
        obtain ⟨N1, SH1, V1, rfl, rfl, hC1, hF1, hM1, hN1⟩ := hp
        have hWm : wM SH1 := hm.ext hM1
        have er : res V1 = res V := hF1.resE
        have hk1 : bKp V1 := show 0 ≤ (res V1 36 22).toInt from er ▸ hkp
        have hs1 : bSh V1 := bSh_res (by rw [er]; exact hsa)
        refine ev_aload2 (q := 869) dL_law_868 rfl ?_
        refine ev_cV (K := kL_law) (pc := 869) (q := 872) (m_fire (d := 0) hWm (by rw [er]; exact hro) (by rw [er]; exact hli) (by rw [er]; exact hle) (bEv_res (by rw [er]; exact hev)) hs1 hk1) dL_law_869 l_L_110 (hWm _ _ rfl) rfl rfl (Nat.le_of_ble_eq_true rfl) (by omega) rfl rfl (fun r S1 hp => ?_)
        obtain ⟨V2, rfl, rfl, hr2, hFM⟩ := hp
        rw [er]
        refine ev_icmp_eq (q := 875) (t := 992) dL_law_872 rfl (by decide) (fun c => ?_) (fun c => ?_)
        · exact fin _ _ (by omega) (by omega) N1 SH1 V2 (hJ.step hC1 hM1 (hr2.trans (by rw [er])) hFM (I_fire hI hk9))
        · exact absurd rfl c
      · refine ev_tableIn (q := 877) dL_law_33 (by decide) (by decide) rfl (by decide) ?_
        refine ev_aload1 (q := 878) dL_law_877 rfl ?_
        refine ev_aload0 (q := 879) dL_law_878 rfl ?_
        refine ev_iload3 (q := 880) dL_law_879 rfl ?_
        refine ev_iconst (q := 881) (v := 1) dL_law_880 rfl rfl ?_
        refine ev_iadd (q := 882) dL_law_881 rfl ?_
        refine ev_xald (q := 883) dL_law_882 (Or.inl ⟨rfl, hG, rfl⟩) (nI_add (7 * k) 1) (by omega) hL31 rfl ?_
        refine ev_cV (K := kL_law) (pc := 883) (q := 886) (c_rest (d := 0) hC _) dL_law_883 l_L_111 (hW _ _ rfl) rfl rfl (Nat.le_of_ble_eq_true rfl) (by omega) rfl rfl (fun r S1 hp => ?_)
        obtain ⟨N1, SH1, V1, rfl, rfl, hC1, hF1, hM1, hN1⟩ := hp
        have hWm : wM SH1 := hm.ext hM1
        have er : res V1 = res V := hF1.resE
        refine ev_aload2 (q := 887) dL_law_886 rfl ?_
        refine ev_aload0 (q := 888) dL_law_887 rfl ?_
        refine ev_iload3 (q := 889) dL_law_888 rfl ?_
        refine ev_iconst (q := 890) (v := 1) dL_law_889 rfl rfl ?_
        refine ev_iadd (q := 891) dL_law_890 rfl ?_
        refine ev_xald (q := 892) dL_law_891 (Or.inl ⟨rfl, hG, rfl⟩) (nI_add (7 * k) 1) (by omega) hL31 rfl ?_
        refine ev_cV (K := kL_law) (pc := 892) (q := 895) (m_rest (d := 0) hWm _) dL_law_892 l_L_114 (hWm _ _ rfl) rfl rfl (Nat.le_of_ble_eq_true rfl) (by omega) rfl rfl (fun r S1 hp => ?_)
        obtain ⟨V2, rfl, rfl, hr2, hFM⟩ := hp
        rw [er]
        refine ev_icmp_eq (q := 898) (t := 992) dL_law_895 rfl (by decide) (fun c => ?_) (fun c => ?_)
        · exact fin _ _ (by omega) (by omega) N1 SH1 V2 (hJ.step hC1 hM1 (hr2.trans (by rw [er])) hFM (I_rest hI _))
        · exact absurd rfl c
      · refine ev_tableIn (q := 900) dL_law_33 (by decide) (by decide) rfl (by decide) ?_
        refine ev_aload1 (q := 901) dL_law_900 rfl ?_
        refine ev_aload0 (q := 902) dL_law_901 rfl ?_
        refine ev_iload3 (q := 903) dL_law_902 rfl ?_
        refine ev_iconst (q := 904) (v := 1) dL_law_903 rfl rfl ?_
        refine ev_iadd (q := 905) dL_law_904 rfl ?_
        refine ev_xald (q := 906) dL_law_905 (Or.inl ⟨rfl, hG, rfl⟩) (nI_add (7 * k) 1) (by omega) hL31 rfl ?_
        refine ev_cV (K := kL_law) (pc := 906) (q := 909) (c_many (d := 0) hC hro hli _) dL_law_906 l_L_115 (hW _ _ rfl) rfl rfl (Nat.le_of_ble_eq_true rfl) (by omega) rfl rfl (fun r S1 hp => ?_)
        obtain ⟨N1, SH1, V1, rfl, rfl, hC1, hF1, hM1, hN1⟩ := hp
        have hWm : wM SH1 := hm.ext hM1
        have er : res V1 = res V := hF1.resE
        refine ev_aload2 (q := 910) dL_law_909 rfl ?_
        refine ev_aload0 (q := 911) dL_law_910 rfl ?_
        refine ev_iload3 (q := 912) dL_law_911 rfl ?_
        refine ev_iconst (q := 913) (v := 1) dL_law_912 rfl rfl ?_
        refine ev_iadd (q := 914) dL_law_913 rfl ?_
        refine ev_xald (q := 915) dL_law_914 (Or.inl ⟨rfl, hG, rfl⟩) (nI_add (7 * k) 1) (by omega) hL31 rfl ?_
        refine ev_cV (K := kL_law) (pc := 915) (q := 918) (m_many (d := 0) hWm _) dL_law_915 l_L_118 (hWm _ _ rfl) rfl rfl (Nat.le_of_ble_eq_true rfl) (by omega) rfl rfl (fun r S1 hp => ?_)
        obtain ⟨V2, rfl, rfl, hr2, hFM⟩ := hp
        rw [er]
        refine ev_icmp_eq (q := 921) (t := 992) dL_law_918 rfl (by decide) (fun c => ?_) (fun c => ?_)
        · exact fin _ _ (by omega) (by omega) N1 SH1 V2 (hJ.step hC1 hM1 (hr2.trans (by rw [er])) hFM hI.up)
        · exact absurd rfl c
      · refine ev_tableIn (q := 923) dL_law_33 (by decide) (by decide) rfl (by decide) ?_
        refine ev_aload1 (q := 924) dL_law_923 rfl ?_
        refine ev_aload0 (q := 925) dL_law_924 rfl ?_
        refine ev_iload3 (q := 926) dL_law_925 rfl ?_
        refine ev_iconst (q := 927) (v := 1) dL_law_926 rfl rfl ?_
        refine ev_iadd (q := 928) dL_law_927 rfl ?_
        refine ev_xald (q := 929) dL_law_928 (Or.inl ⟨rfl, hG, rfl⟩) (nI_add (7 * k) 1) (by omega) hL31 rfl ?_
        refine ev_aload0 (q := 930) dL_law_929 rfl ?_
        refine ev_iload3 (q := 931) dL_law_930 rfl ?_
        refine ev_iconst (q := 932) (v := 2) dL_law_931 rfl rfl ?_
        refine ev_iadd (q := 933) dL_law_932 rfl ?_
        refine ev_xald (q := 934) dL_law_933 (Or.inl ⟨rfl, hG, rfl⟩) (nI_add (7 * k) 2) (by omega) hL31 rfl ?_
        refine ev_cV (K := kL_law) (pc := 934) (q := 937) (c_raw (d := 0) hC hli hro hsp hkp hrh hle hby hgd _ _) dL_law_934 l_L_119 (hW _ _ rfl) rfl rfl (Nat.le_of_ble_eq_true rfl) (by omega) rfl rfl (fun r S1 hp => ?_)
        obtain ⟨N1, SH1, V1, rfl, rfl, hC1, hF1, hM1, hN1⟩ := hp
        have hWm : wM SH1 := hm.ext hM1
        have er : res V1 = res V := hF1.resE
        refine ev_aload2 (q := 938) dL_law_937 rfl ?_
        refine ev_aload0 (q := 939) dL_law_938 rfl ?_
        refine ev_iload3 (q := 940) dL_law_939 rfl ?_
        refine ev_iconst (q := 941) (v := 1) dL_law_940 rfl rfl ?_
        refine ev_iadd (q := 942) dL_law_941 rfl ?_
        refine ev_xald (q := 943) dL_law_942 (Or.inl ⟨rfl, hG, rfl⟩) (nI_add (7 * k) 1) (by omega) hL31 rfl ?_
        refine ev_aload0 (q := 944) dL_law_943 rfl ?_
        refine ev_iload3 (q := 945) dL_law_944 rfl ?_
        refine ev_iconst (q := 946) (v := 2) dL_law_945 rfl rfl ?_
        refine ev_iadd (q := 947) dL_law_946 rfl ?_
        refine ev_xald (q := 948) dL_law_947 (Or.inl ⟨rfl, hG, rfl⟩) (nI_add (7 * k) 2) (by omega) hL31 rfl ?_
        refine ev_cV (K := kL_law) (pc := 948) (q := 951) (m_raw (d := 0) hWm (by rw [er]; exact hro) (by rw [er]; exact hli) (by rw [er]; exact hle) (bEv_res (by rw [er]; exact hev)) (by rw [er]; exact hkp) _ _) dL_law_948 l_L_122 (hWm _ _ rfl) rfl rfl (Nat.le_of_ble_eq_true rfl) (by omega) rfl rfl (fun r S1 hp => ?_)
        obtain ⟨V2, rfl, rfl, hr2, hFM⟩ := hp
        rw [er]
        refine ev_icmp_eq (q := 954) (t := 992) dL_law_951 rfl (by decide) (fun c => ?_) (fun c => ?_)
        · exact fin _ _ (by omega) (by omega) N1 SH1 V2 (hJ.step hC1 hM1 (hr2.trans (by rw [er])) hFM hI.up)
        · exact absurd rfl c
      · refine ev_tableIn (q := 956) dL_law_33 (by decide) (by decide) rfl (by decide) ?_
        refine ev_aload1 (q := 957) dL_law_956 rfl ?_
        refine ev_aload0 (q := 958) dL_law_957 rfl ?_
        refine ev_iload3 (q := 959) dL_law_958 rfl ?_
        refine ev_iconst (q := 960) (v := 1) dL_law_959 rfl rfl ?_
        refine ev_iadd (q := 961) dL_law_960 rfl ?_
        refine ev_xald (q := 962) dL_law_961 (Or.inl ⟨rfl, hG, rfl⟩) (nI_add (7 * k) 1) (by omega) hL31 rfl ?_
        refine ev_cV (K := kL_law) (pc := 962) (q := 965) (c_again (d := 0) hC hkp hrh _) dL_law_962 l_L_123 (hW _ _ rfl) rfl rfl (Nat.le_of_ble_eq_true rfl) (by omega) rfl rfl (fun r S1 hp => ?_)
        obtain ⟨N1, SH1, V1, rfl, rfl, hC1, hF1, hM1, hN1⟩ := hp
        have hWm : wM SH1 := hm.ext hM1
        have er : res V1 = res V := hF1.resE
        refine ev_aload2 (q := 966) dL_law_965 rfl ?_
        refine ev_aload0 (q := 967) dL_law_966 rfl ?_
        refine ev_iload3 (q := 968) dL_law_967 rfl ?_
        refine ev_iconst (q := 969) (v := 1) dL_law_968 rfl rfl ?_
        refine ev_iadd (q := 970) dL_law_969 rfl ?_
        refine ev_xald (q := 971) dL_law_970 (Or.inl ⟨rfl, hG, rfl⟩) (nI_add (7 * k) 1) (by omega) hL31 rfl ?_
        refine ev_cV (K := kL_law) (pc := 971) (q := 974) (m_again (d := 0) hWm (by rw [er]; exact hkp) _) dL_law_971 l_L_126 (hWm _ _ rfl) rfl rfl (Nat.le_of_ble_eq_true rfl) (by omega) rfl rfl (fun r S1 hp => ?_)
        obtain ⟨V2, rfl, rfl, hr2, hFM⟩ := hp
        rw [er]
        refine ev_icmp_eq (q := 977) (t := 992) dL_law_974 rfl (by decide) (fun c => ?_) (fun c => ?_)
        · exact fin _ _ (by omega) (by omega) N1 SH1 V2 (hJ.step hC1 hM1 (hr2.trans (by rw [er])) hFM (I_again hI _))
        · exact absurd rfl c
      · refine ev_tableIn (q := 979) dL_law_33 (by decide) (by decide) rfl (by decide) ?_
        refine ev_aload1 (q := 980) dL_law_979 rfl ?_
        refine ev_cV (K := kL_law) (pc := 980) (q := 983) (c_anew (d := 0) hC) dL_law_980 l_L_127 (hW _ _ rfl) rfl rfl (Nat.le_of_ble_eq_true rfl) (by omega) rfl rfl (fun r S1 hp => ?_)
        obtain ⟨N1, SH1, V1, rfl, rfl, hC1, hF1, hM1, hN1⟩ := hp
        have hWm : wM SH1 := hm.ext hM1
        have er : res V1 = res V := hF1.resE
        refine ev_aload2 (q := 984) dL_law_983 rfl ?_
        refine ev_cV (K := kL_law) (pc := 984) (q := 987) (m_anew (d := 0) hWm) dL_law_984 l_L_130 (hWm _ _ rfl) rfl rfl (Nat.le_of_ble_eq_true rfl) (by omega) rfl rfl (fun r S1 hp => ?_)
        obtain ⟨V2, rfl, rfl, hr2, hFM⟩ := hp
        rw [er]
        refine ev_icmp_eq (q := 990) (t := 992) dL_law_987 rfl (by decide) (fun c => ?_) (fun c => ?_)
        · exact fin _ _ (by omega) (by omega) N1 SH1 V2 (hJ.step hC1 hM1 (hr2.trans (by rw [er])) hFM (I_anew hI))
        · exact absurd rfl c
    · have e := nI_toInt (n := j) (by omega)
      refine ev_tableOut (q := 992) dL_law_33 (Or.inr (by omega)) (by decide) ?_
      exact fin _ _ (by omega) (by omega) N SH V ⟨hm, hC, hI.up⟩
