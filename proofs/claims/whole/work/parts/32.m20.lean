/-! the reference is made -/
theorem th_fx (B : Nat) {f g : Nat → Option Nat} (h : ∀ k, k < B → f k = g k) (hf : ∀ k, f (k + B) = none) (hg : ∀ k, g (k + B) = none) : f = g := by
  funext k
  rcases Nat.lt_or_ge k B with z | z
  · exact h k z
  · have e : k = (k - B) + B := by omega
    rw [e, hf, hg]
theorem th_nth_big {α : Type} {d0 : α} : ∀ (a : List α) (k : Nat), th_nth a (k + a.length) d0 = d0
  | [], k => by cases k <;> rfl
  | x :: a, k => th_nth_big a k
theorem th_lt_cases (B : Nat) {P : Nat → Prop} {a : Nat} (h : a < B) (hh : ∀ k, k < B → P k) : P a := hh a h
/-- what the reference's constructor leaves -/
def PMi (SH : Nat → Option th_K0) (V : th_Vl) : Option Value → th_S → Prop := fun r S' => r = none ∧ ∃ SH' V', S' = (64, SH', V') ∧ wM SH' ∧ (∀ a, a < 36 → SH' a = SH a) ∧ (∀ a, a < 36 → V' a = V a) ∧ ∀ a, 36 ≤ a → a < 64 → ∀ k, V' a k = th_seg (fun _ _ => 0) 38 0 3 (fun _ => -1) a k
section EVX
variable {G : th_G} {l : Launch} {K : th_M} {d bc bs pc q : Nat} {ls : List (Option Value)} {st : List Value} {N N1 : Nat} {SH : Nat → Option th_K0} {V : th_Vl} {post : Option Value → th_S → Prop}
theorem ev_newaX (hN : N + 1 = N1) {t n : Nat} {i : Int32} {at0 : ArrayType} (hd : decode K.1 pc = .ok (.newarray at0, 2)) (hty : newarray.typeOf at0 = th_ty t) (ht : t < 4) (hw : Cond.arrayClass (th_ty t) ∈ th_W) (hi : i = nI n) (hn : n ≤ 1000) (hq : pc + 2 = q) (kk : EV G l K d bc bs q ls (.ref N :: st) (N1, th_u SH N (.inl (t, n, fun _ => none)), th_z V N) post) : EV G l K d (bc + 1) (bs + n) pc ls (.int i :: st) (N, SH, V) post := by
  subst hN
  exact ev_newa hd hty ht hw hi hn hq kk
theorem ev_newqX (hN : N + 1 = N1) {t n i0 : Nat} {i : Int32} {C : String} (hd : decode K.1 pc = .ok (.anewarray i0, 3)) (ht : (t = 4 ∧ C = "TriggerHall$Sheet") ∨ (t = 5 ∧ C = "java/lang/Object")) (hw : Cond.classLink K.2.1 i0 C ∈ th_W) (hi : i = nI n) (hn : n ≤ 1000) (hq : pc + 3 = q) (kk : EV G l K d bc bs q ls (.ref N :: st) (N1, th_u SH N (.inl (t, n, fun _ => none)), th_z V N) post) : EV G l K d (bc + 1) (bs + n) pc ls (.int i :: st) (N, SH, V) post := by
  subst hN
  exact ev_newq hd ht hw hi hn hq kk
theorem ev_newX (hN : N + 1 = N1) {ci i M : Nat} {C : String} {T : u_T} (hd : decode K.1 pc = .ok (.new i, 3)) (hcl : th_cl[ci]? = some (C, T, M)) (w1 : Cond.classLink K.2.1 i C ∈ th_W) (w2 : Cond.instantiable C M ∈ th_W) (w3 : Cond.initialized C ∈ th_W) (hq : pc + 3 = q) (kk : EV G l K d bc bs q ls (.ref N :: st) (N1, th_u SH N (.inr (ci, fun _ => none)), th_z V N) post) : EV G l K d (bc + 1) (bs + M) pc ls st (N, SH, V) post := by
  subst hN
  exact ev_new hd hcl w1 w2 w3 hq kk
theorem ev_putRX {a ci k i b : Nat} {f : Nat → Option Nat} (hd : decode K.1 pc = .ok (.putfield i, 3)) (hg : th_pf K.2.1 K.2.2.2.2 i ci k) (ha : SH a = some (.inr (ci, f))) (hk : th_ir ci k = true) (hq : pc + 3 = q) (kk : EV G l K d bc bs q ls st (N, th_u SH a (.inr (ci, th_u f k b)), V) post) : EV G l K d bc bs pc ls (.ref b :: .ref a :: st) (N, SH, V) post := ev_putR (S := (N, SH, V)) hd hg ha hk hq kk
theorem ev_putIX {a ci k i : Nat} {f : Nat → Option Nat} {x : Int32} (hd : decode K.1 pc = .ok (.putfield i, 3)) (hg : th_pf K.2.1 K.2.2.2.2 i ci k) (ha : SH a = some (.inr (ci, f))) (hk : th_ir ci k = false) (hn : narrow (th_ft ci k) (.int x) = .int x) (hfit : fits (th_ft ci k) (.int x) = true) (hq : pc + 3 = q) (kk : EV G l K d bc bs q ls st (N, SH, th_w V a k x) post) : EV G l K d bc bs pc ls (.int x :: .ref a :: st) (N, SH, V) post := ev_putI (S := (N, SH, V)) hd hg ha hk hn hfit hq kk
end EVX
section M20
variable {G : th_G} {l : Launch} {d : Nat} {SH : Nat → Option th_K0} {V : th_Vl}
theorem wM_of {SH : Nat → Option th_K0} {f : Nat → Option Nat} (h0 : SH 36 = some (.inr (10, f))) (hf : f = rf_M) (h : ∀ j, j < 27 → SH (37 + j) = shM (37 + j)) : wM SH := by
  intro a c hc
  have h36 : 36 ≤ a := by
    rcases Nat.lt_or_ge a 36 with z | z
    · have : Nat.blt a 36 = true := Nat.blt_eq.mpr z
      simp [shM, this] at hc
    · exact z
  rcases Nat.lt_or_ge a 64 with z | z
  · rcases Nat.eq_or_lt_of_le h36 with e | e
    · subst e
      rw [h0, hf]
      exact hc
    · have e2 := h (a - 37) (by omega)
      rw [show 37 + (a - 37) = a by omega] at e2
      rw [e2, hc]
  · have : Nat.blt a 36 = false := by
      cases hb : Nat.blt a 36
      · rfl
      · have := Nat.blt_eq.mp hb; omega
    have e : a - 36 = (a - 64) + 28 := by omega
    simp only [shM, this, cond_false] at hc
    rw [e] at hc
    have := th_nth_big (d0 := (none : Option th_K0)) [some (.inr (10, rf_M)), some (.inl (0, 3, th_no)), some (.inl (0, 3, th_no)), some (.inl (0, 60, th_no)), some (.inl (0, 5, th_no)), some (.inl (0, 5, th_no)), some (.inl (0, 5, th_no)), some (.inl (0, 60, th_no)), some (.inl (0, 12, th_no)), some (.inl (1, 60, th_no)), some (.inl (1, 480, th_no)), some (.inl (0, 8, th_no)), some (.inl (0, 8, th_no)), some (.inl (3, 8, th_no)), some (.inl (0, 8, th_no)), some (.inl (0, 8, th_no)), some (.inl (0, 8, th_no)), some (.inl (0, 8, th_no)), some (.inl (0, 30, th_no)), some (.inl (0, 30, th_no)), some (.inl (0, 150, th_no)), some (.inl (0, 5, th_no)), some (.inl (0, 5, th_no)), some (.inl (0, 60, th_no)), some (.inl (0, 12, th_no)), some (.inl (0, 12, th_no)), some (.inl (0, 20, th_no)), some (.inl (0, 5, th_no))] (a - 64)
    have := this.symm.trans hc
    cases this
theorem th_27 {P : Nat → Prop} (h : P 0 ∧ P 1 ∧ P 2 ∧ P 3 ∧ P 4 ∧ P 5 ∧ P 6 ∧ P 7 ∧ P 8 ∧ P 9 ∧ P 10 ∧ P 11 ∧ P 12 ∧ P 13 ∧ P 14 ∧ P 15 ∧ P 16 ∧ P 17 ∧ P 18 ∧ P 19 ∧ P 20 ∧ P 21 ∧ P 22 ∧ P 23 ∧ P 24 ∧ P 25 ∧ P 26) : ∀ j, j < 27 → P j := by
  intro j hj
  have : j = 0 ∨ j = 1 ∨ j = 2 ∨ j = 3 ∨ j = 4 ∨ j = 5 ∨ j = 6 ∨ j = 7 ∨ j = 8 ∨ j = 9 ∨ j = 10 ∨ j = 11 ∨ j = 12 ∨ j = 13 ∨ j = 14 ∨ j = 15 ∨ j = 16 ∨ j = 17 ∨ j = 18 ∨ j = 19 ∨ j = 20 ∨ j = 21 ∨ j = 22 ∨ j = 23 ∨ j = 24 ∨ j = 25 ∨ j = 26 := by omega
  rcases this with rfl | rfl | rfl | rfl | rfl | rfl | rfl | rfl | rfl | rfl | rfl | rfl | rfl | rfl | rfl | rfl | rfl | rfl | rfl | rfl | rfl | rfl | rfl | rfl | rfl | rfl | rfl <;> simp only [h]
theorem m_init (h0 : SH 36 = some (.inr (10, fun _ => none))) (hv : V 36 = fun _ => 0) : MT G l yX10_init kX10_init (d + 1) 27 1078 [.ref 36] (37, SH, V) (PMi SH V) := by
  refine MT.of (by decide) rfl rfl (n := 1) rfl (ls := [some (.ref 36), none]) rfl ?_
  refine ev_aload0 (q := 1) dX10_init_0 rfl ?_
  refine ev_oI (q := 4) dX10_init_1 l_X10_1 l_oi1 l_oi2 (Nat.le_of_ble_eq_true rfl) (by omega) rfl ?_
  refine ev_aload0 (q := 5) dX10_init_4 rfl ?_
  refine ev_iconst (q := 6) (v := 3) dX10_init_5 rfl rfl ?_
  refine ev_newaX (n := 3) (bc := 26) (bs := 1075) (N := 37) (N1 := 38) rfl (q := 8) (K := kX10_init) (pc := 6) (t := 0) dX10_init_6 rfl (by decide) ac_int rfl (by decide) rfl ?_
  refine ev_putRX (q := 11) dX10_init_8 p_X10_9 h0 rfl rfl ?_
  refine ev_aload0 (q := 12) dX10_init_11 rfl ?_
  refine ev_iconst (q := 13) (v := 3) dX10_init_12 rfl rfl ?_
  refine ev_newaX (n := 3) (bc := 25) (bs := 1072) (N := 38) (N1 := 39) rfl (q := 15) (K := kX10_init) (pc := 13) (t := 0) dX10_init_13 rfl (by decide) ac_int rfl (by decide) rfl ?_
  refine ev_putRX (q := 18) dX10_init_15 p_X10_13 rfl rfl rfl ?_
  refine ev_aload0 (q := 19) dX10_init_18 rfl ?_
  refine ev_bipush (q := 21) (v := 60) dX10_init_19 rfl rfl ?_
  refine ev_newaX (n := 60) (bc := 24) (bs := 1012) (N := 39) (N1 := 40) rfl (q := 23) (K := kX10_init) (pc := 21) (t := 0) dX10_init_21 rfl (by decide) ac_int rfl (by decide) rfl ?_
  refine ev_putRX (q := 26) dX10_init_23 p_X10_16 rfl rfl rfl ?_
  refine ev_aload0 (q := 27) dX10_init_26 rfl ?_
  refine ev_iconst (q := 28) (v := 5) dX10_init_27 rfl rfl ?_
  refine ev_newaX (n := 5) (bc := 23) (bs := 1007) (N := 40) (N1 := 41) rfl (q := 30) (K := kX10_init) (pc := 28) (t := 0) dX10_init_28 rfl (by decide) ac_int rfl (by decide) rfl ?_
  refine ev_putRX (q := 33) dX10_init_30 p_X10_19 rfl rfl rfl ?_
  refine ev_aload0 (q := 34) dX10_init_33 rfl ?_
  refine ev_iconst (q := 35) (v := 5) dX10_init_34 rfl rfl ?_
  refine ev_newaX (n := 5) (bc := 22) (bs := 1002) (N := 41) (N1 := 42) rfl (q := 37) (K := kX10_init) (pc := 35) (t := 0) dX10_init_35 rfl (by decide) ac_int rfl (by decide) rfl ?_
  refine ev_putRX (q := 40) dX10_init_37 p_X10_22 rfl rfl rfl ?_
  refine ev_aload0 (q := 41) dX10_init_40 rfl ?_
  refine ev_iconst (q := 42) (v := 5) dX10_init_41 rfl rfl ?_
  refine ev_newaX (n := 5) (bc := 21) (bs := 997) (N := 42) (N1 := 43) rfl (q := 44) (K := kX10_init) (pc := 42) (t := 0) dX10_init_42 rfl (by decide) ac_int rfl (by decide) rfl ?_
  refine ev_putRX (q := 47) dX10_init_44 p_X10_25 rfl rfl rfl ?_
  refine ev_aload0 (q := 48) dX10_init_47 rfl ?_
  refine ev_bipush (q := 50) (v := 60) dX10_init_48 rfl rfl ?_
  refine ev_newaX (n := 60) (bc := 20) (bs := 937) (N := 43) (N1 := 44) rfl (q := 52) (K := kX10_init) (pc := 50) (t := 0) dX10_init_50 rfl (by decide) ac_int rfl (by decide) rfl ?_
  refine ev_putRX (q := 55) dX10_init_52 p_X10_28 rfl rfl rfl ?_
  refine ev_aload0 (q := 56) dX10_init_55 rfl ?_
  refine ev_bipush (q := 58) (v := 12) dX10_init_56 rfl rfl ?_
  refine ev_newaX (n := 12) (bc := 19) (bs := 925) (N := 44) (N1 := 45) rfl (q := 60) (K := kX10_init) (pc := 58) (t := 0) dX10_init_58 rfl (by decide) ac_int rfl (by decide) rfl ?_
  refine ev_putRX (q := 63) dX10_init_60 p_X10_31 rfl rfl rfl ?_
  refine ev_aload0 (q := 64) dX10_init_63 rfl ?_
  refine ev_bipush (q := 66) (v := 60) dX10_init_64 rfl rfl ?_
  refine ev_newaX (n := 60) (bc := 18) (bs := 865) (N := 45) (N1 := 46) rfl (q := 68) (K := kX10_init) (pc := 66) (t := 1) dX10_init_66 rfl (by decide) ac_byte rfl (by decide) rfl ?_
  refine ev_putRX (q := 71) dX10_init_68 p_X10_34 rfl rfl rfl ?_
  refine ev_aload0 (q := 72) dX10_init_71 rfl ?_
  refine ev_sipush (q := 75) (v := 480) dX10_init_72 rfl rfl ?_
  refine ev_newaX (n := 480) (bc := 17) (bs := 385) (N := 46) (N1 := 47) rfl (q := 77) (K := kX10_init) (pc := 75) (t := 1) dX10_init_75 rfl (by decide) ac_byte rfl (by decide) rfl ?_
  refine ev_putRX (q := 80) dX10_init_77 p_X10_38 rfl rfl rfl ?_
  refine ev_aload0 (q := 81) dX10_init_80 rfl ?_
  refine ev_bipush (q := 83) (v := 8) dX10_init_81 rfl rfl ?_
  refine ev_newaX (n := 8) (bc := 16) (bs := 377) (N := 47) (N1 := 48) rfl (q := 85) (K := kX10_init) (pc := 83) (t := 0) dX10_init_83 rfl (by decide) ac_int rfl (by decide) rfl ?_
  refine ev_putRX (q := 88) dX10_init_85 p_X10_41 rfl rfl rfl ?_
  refine ev_aload0 (q := 89) dX10_init_88 rfl ?_
  refine ev_bipush (q := 91) (v := 8) dX10_init_89 rfl rfl ?_
  refine ev_newaX (n := 8) (bc := 15) (bs := 369) (N := 48) (N1 := 49) rfl (q := 93) (K := kX10_init) (pc := 91) (t := 0) dX10_init_91 rfl (by decide) ac_int rfl (by decide) rfl ?_
  refine ev_putRX (q := 96) dX10_init_93 p_X10_44 rfl rfl rfl ?_
  refine ev_aload0 (q := 97) dX10_init_96 rfl ?_
  refine ev_bipush (q := 99) (v := 8) dX10_init_97 rfl rfl ?_
  refine ev_newaX (n := 8) (bc := 14) (bs := 361) (N := 49) (N1 := 50) rfl (q := 101) (K := kX10_init) (pc := 99) (t := 3) dX10_init_99 rfl (by decide) ac_boolean rfl (by decide) rfl ?_
  refine ev_putRX (q := 104) dX10_init_101 p_X10_47 rfl rfl rfl ?_
  refine ev_aload0 (q := 105) dX10_init_104 rfl ?_
  refine ev_bipush (q := 107) (v := 8) dX10_init_105 rfl rfl ?_
  refine ev_newaX (n := 8) (bc := 13) (bs := 353) (N := 50) (N1 := 51) rfl (q := 109) (K := kX10_init) (pc := 107) (t := 0) dX10_init_107 rfl (by decide) ac_int rfl (by decide) rfl ?_
  refine ev_putRX (q := 112) dX10_init_109 p_X10_51 rfl rfl rfl ?_
  refine ev_aload0 (q := 113) dX10_init_112 rfl ?_
  refine ev_bipush (q := 115) (v := 8) dX10_init_113 rfl rfl ?_
  refine ev_newaX (n := 8) (bc := 12) (bs := 345) (N := 51) (N1 := 52) rfl (q := 117) (K := kX10_init) (pc := 115) (t := 0) dX10_init_115 rfl (by decide) ac_int rfl (by decide) rfl ?_
  refine ev_putRX (q := 120) dX10_init_117 p_X10_54 rfl rfl rfl ?_
  refine ev_aload0 (q := 121) dX10_init_120 rfl ?_
  refine ev_bipush (q := 123) (v := 8) dX10_init_121 rfl rfl ?_
  refine ev_newaX (n := 8) (bc := 11) (bs := 337) (N := 52) (N1 := 53) rfl (q := 125) (K := kX10_init) (pc := 123) (t := 0) dX10_init_123 rfl (by decide) ac_int rfl (by decide) rfl ?_
  refine ev_putRX (q := 128) dX10_init_125 p_X10_57 rfl rfl rfl ?_
  refine ev_aload0 (q := 129) dX10_init_128 rfl ?_
  refine ev_bipush (q := 131) (v := 8) dX10_init_129 rfl rfl ?_
  refine ev_newaX (n := 8) (bc := 10) (bs := 329) (N := 53) (N1 := 54) rfl (q := 133) (K := kX10_init) (pc := 131) (t := 0) dX10_init_131 rfl (by decide) ac_int rfl (by decide) rfl ?_
  refine ev_putRX (q := 136) dX10_init_133 p_X10_60 rfl rfl rfl ?_
  refine ev_aload0 (q := 137) dX10_init_136 rfl ?_
  refine ev_bipush (q := 139) (v := 30) dX10_init_137 rfl rfl ?_
  refine ev_newaX (n := 30) (bc := 9) (bs := 299) (N := 54) (N1 := 55) rfl (q := 141) (K := kX10_init) (pc := 139) (t := 0) dX10_init_139 rfl (by decide) ac_int rfl (by decide) rfl ?_
  refine ev_putRX (q := 144) dX10_init_141 p_X10_63 rfl rfl rfl ?_
  refine ev_aload0 (q := 145) dX10_init_144 rfl ?_
  refine ev_bipush (q := 147) (v := 30) dX10_init_145 rfl rfl ?_
  refine ev_newaX (n := 30) (bc := 8) (bs := 269) (N := 55) (N1 := 56) rfl (q := 149) (K := kX10_init) (pc := 147) (t := 0) dX10_init_147 rfl (by decide) ac_int rfl (by decide) rfl ?_
  refine ev_putRX (q := 152) dX10_init_149 p_X10_66 rfl rfl rfl ?_
  refine ev_aload0 (q := 153) dX10_init_152 rfl ?_
  refine ev_sipush (q := 156) (v := 150) dX10_init_153 rfl rfl ?_
  refine ev_newaX (n := 150) (bc := 7) (bs := 119) (N := 56) (N1 := 57) rfl (q := 158) (K := kX10_init) (pc := 156) (t := 0) dX10_init_156 rfl (by decide) ac_int rfl (by decide) rfl ?_
  refine ev_putRX (q := 161) dX10_init_158 p_X10_69 rfl rfl rfl ?_
  refine ev_aload0 (q := 162) dX10_init_161 rfl ?_
  refine ev_iconst (q := 163) (v := 5) dX10_init_162 rfl rfl ?_
  refine ev_newaX (n := 5) (bc := 6) (bs := 114) (N := 57) (N1 := 58) rfl (q := 165) (K := kX10_init) (pc := 163) (t := 0) dX10_init_163 rfl (by decide) ac_int rfl (by decide) rfl ?_
  refine ev_putRX (q := 168) dX10_init_165 p_X10_72 rfl rfl rfl ?_
  refine ev_aload0 (q := 169) dX10_init_168 rfl ?_
  refine ev_iconst (q := 170) (v := 5) dX10_init_169 rfl rfl ?_
  refine ev_newaX (n := 5) (bc := 5) (bs := 109) (N := 58) (N1 := 59) rfl (q := 172) (K := kX10_init) (pc := 170) (t := 0) dX10_init_170 rfl (by decide) ac_int rfl (by decide) rfl ?_
  refine ev_putRX (q := 175) dX10_init_172 p_X10_75 rfl rfl rfl ?_
  refine ev_aload0 (q := 176) dX10_init_175 rfl ?_
  refine ev_bipush (q := 178) (v := 60) dX10_init_176 rfl rfl ?_
  refine ev_newaX (n := 60) (bc := 4) (bs := 49) (N := 59) (N1 := 60) rfl (q := 180) (K := kX10_init) (pc := 178) (t := 0) dX10_init_178 rfl (by decide) ac_int rfl (by decide) rfl ?_
  refine ev_putRX (q := 183) dX10_init_180 p_X10_78 rfl rfl rfl ?_
  refine ev_aload0 (q := 184) dX10_init_183 rfl ?_
  refine ev_bipush (q := 186) (v := 12) dX10_init_184 rfl rfl ?_
  refine ev_newaX (n := 12) (bc := 3) (bs := 37) (N := 60) (N1 := 61) rfl (q := 188) (K := kX10_init) (pc := 186) (t := 0) dX10_init_186 rfl (by decide) ac_int rfl (by decide) rfl ?_
  refine ev_putRX (q := 191) dX10_init_188 p_X10_81 rfl rfl rfl ?_
  refine ev_aload0 (q := 192) dX10_init_191 rfl ?_
  refine ev_bipush (q := 194) (v := 12) dX10_init_192 rfl rfl ?_
  refine ev_newaX (n := 12) (bc := 2) (bs := 25) (N := 61) (N1 := 62) rfl (q := 196) (K := kX10_init) (pc := 194) (t := 0) dX10_init_194 rfl (by decide) ac_int rfl (by decide) rfl ?_
  refine ev_putRX (q := 199) dX10_init_196 p_X10_84 rfl rfl rfl ?_
  refine ev_aload0 (q := 200) dX10_init_199 rfl ?_
  refine ev_bipush (q := 202) (v := 20) dX10_init_200 rfl rfl ?_
  refine ev_newaX (n := 20) (bc := 1) (bs := 5) (N := 62) (N1 := 63) rfl (q := 204) (K := kX10_init) (pc := 202) (t := 0) dX10_init_202 rfl (by decide) ac_int rfl (by decide) rfl ?_
  refine ev_putRX (q := 207) dX10_init_204 p_X10_87 rfl rfl rfl ?_
  refine ev_aload0 (q := 208) dX10_init_207 rfl ?_
  refine ev_iconst (q := 209) (v := 5) dX10_init_208 rfl rfl ?_
  refine ev_newaX (n := 5) (bc := 0) (bs := 0) (N := 63) (N1 := 64) rfl (q := 211) (K := kX10_init) (pc := 209) (t := 0) dX10_init_209 rfl (by decide) ac_int rfl (by decide) rfl ?_
  refine ev_putRX (q := 214) dX10_init_211 p_X10_90 rfl rfl rfl ?_
  generalize hSH : th_u _ 36 _ = SH1
  generalize hV1 : th_z _ 63 = V1
  have eW : wM SH1 := by
    subst hSH
    exact wM_of rfl (th_fx 41 (by decide +kernel) (fun k => rfl) (fun k => rfl)) (th_27 ⟨rfl, rfl, rfl, rfl, rfl, rfl, rfl, rfl, rfl, rfl, rfl, rfl, rfl, rfl, rfl, rfl, rfl, rfl, rfl, rfl, rfl, rfl, rfl, rfl, rfl, rfl, rfl⟩)
  have eO : ∀ a, a < 36 → SH1 a = SH a := by
    subst hSH
    intro a ha
    repeat rw [th_u_ne (by omega)]
  have eV : ∀ a, a < 36 → V1 a = V a := by
    subst hV1
    intro a ha
    repeat rw [th_z_ne (by omega)]
  have eZ : ∀ a, 36 ≤ a → a < 64 → V1 a = fun _ => 0 := by
    intro a ha hb
    rcases Nat.eq_or_lt_of_le ha with e | e
    · subst e
      subst hV1
      repeat rw [th_z_ne (by decide)]
      exact hv
    · have key : ∀ j, j < 27 → V1 (37 + j) = fun _ => 0 := th_27 (by subst hV1; exact ⟨rfl, rfl, rfl, rfl, rfl, rfl, rfl, rfl, rfl, rfl, rfl, rfl, rfl, rfl, rfl, rfl, rfl, rfl, rfl, rfl, rfl, rfl, rfl, rfl, rfl, rfl, rfl⟩)
      rw [show a = 37 + (a - 37) by omega]
      exact key _ (by omega)
  clear hV1 hSH
  have hW := eW
  have lp : ∀ i, i ≤ 3 → EV G l kX10_init (d + 1) 0 0 216 [some (.ref 36), some (.int (nI i))] [] (64, SH1, th_seg V1 38 0 i (fun _ => -1)) (PMi SH V) := by
    refine th_down 3 ?_ ?_
    · refine ev_iload1 (q := 217) dX10_init_216 rfl ?_
      refine ev_iconst (q := 218) (v := 3) dX10_init_217 rfl rfl ?_
      refine ev_icmp_ge (q := 221) (t := 234) dX10_init_218 rfl (by decide) (fun c => ?_) (fun c => ?_)
      · refine ev_return dX10_init_234 rfl ⟨rfl, SH1, th_seg V1 38 0 3 (fun _ => -1), rfl, eW, eO, fun a ha => (th_seg_ne (by omega)).trans (eV a ha), fun a h1 h2 k => ?_⟩
        unfold th_seg
        rw [eZ a h1 h2]
      · exact absurd (by decide) c
    · intro i hi ih
      rw [← th_seg_s0] at ih
      refine ev_iload1 (q := 217) dX10_init_216 rfl ?_
      refine ev_iconst (q := 218) (v := 3) dX10_init_217 rfl rfl ?_
      refine ev_icmp_ge (q := 221) (t := 234) dX10_init_218 rfl (by decide) (fun c => ?_) (fun c => ?_)
      · exact absurd c (nI_ge hi (by decide))
      · refine ev_aload0 (q := 222) dX10_init_221 rfl ?_
        refine ev_getR (q := 225) dX10_init_222 g_X10_13 (hW _ _ rfl) rfl rfl rfl ?_
        refine ev_iload1 (q := 226) dX10_init_225 rfl ?_
        refine ev_iconst (q := 227) (v := (-1)) dX10_init_226 rfl rfl ?_
        refine ev_iast (q := 228) dX10_init_227 (hW _ _ rfl) rfl hi (by decide) rfl ?_
        refine ev_iinc1 (q := 231) dX10_init_228 rfl (by decide) rfl (nI_succ i).symm ?_
        refine ev_goto (q := 216) dX10_init_231 (by decide) ?_
        exact ih
  refine ev_iconst (q := 215) (v := 0) dX10_init_214 rfl rfl ?_
  refine ev_istore1 (q := 216) dX10_init_215 rfl (by decide) rfl ?_
  have h := lp 0 (by decide)
  rw [th_seg_0] at h
  exact h
end M20
