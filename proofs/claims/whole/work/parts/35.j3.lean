/-! the lists grow -/
def nz0 (x : Int32) : Int32 := (x ^^^ (-1)) &&& (x - 1)
def nz1 (p : Int32 × Int32) : Int32 × Int32 := if p.2 ≤ 65536 then p else (p.1 + 16, iu p.2 16)
def nz2 (p : Int32 × Int32) : Int32 × Int32 := if p.2 ≤ 256 then p else (p.1 + 8, iu p.2 8)
def nz3 (p : Int32 × Int32) : Int32 × Int32 := if p.2 ≤ 16 then p else (p.1 + 4, iu p.2 4)
def nz4 (p : Int32 × Int32) : Int32 × Int32 := if p.2 ≤ 4 then p else (p.1 + 2, iu p.2 2)
def nz5 (p : Int32 × Int32) : Int32 := p.1 + iu p.2 1
/-- the number of the lowest bit -/
def ntz (x : Int32) : Int32 := if 0 < nz0 x then nz5 (nz4 (nz3 (nz2 (nz1 (1, nz0 x))))) else nz0 x &&& 32
section J4
variable {G : th_G} {l : Launch} {d : Nat} {N : Nat} {SH : Nat → Option th_K0} {V : th_Vl}
theorem j_ntz (S : th_S) (x : Int32) : MT G l yJ6_numberOfTrailingZeros_0f7a4 kJ6_numberOfTrailingZeros_0f7a4 d 0 0 [.int x] S (th_is (ntz x) S) := by
  refine MT.of (by decide) rfl rfl (n := 1) rfl (ls := [some (.int x), none]) rfl ?_
  refine ev_iload0 (q := 1) dJ6_numberOfTrailingZeros_0f7a4_0 rfl ?_
  refine ev_iconst (q := 2) (v := (-1)) dJ6_numberOfTrailingZeros_0f7a4_1 rfl rfl ?_
  refine ev_ixor (q := 3) dJ6_numberOfTrailingZeros_0f7a4_2 rfl ?_
  refine ev_iload0 (q := 4) dJ6_numberOfTrailingZeros_0f7a4_3 rfl ?_
  refine ev_iconst (q := 5) (v := 1) dJ6_numberOfTrailingZeros_0f7a4_4 rfl rfl ?_
  refine ev_isub (q := 6) dJ6_numberOfTrailingZeros_0f7a4_5 rfl ?_
  refine ev_iand (q := 7) dJ6_numberOfTrailingZeros_0f7a4_6 rfl ?_
  refine ev_istore0 (q := 8) dJ6_numberOfTrailingZeros_0f7a4_7 rfl (by decide) rfl ?_
  show EV G l kJ6_numberOfTrailingZeros_0f7a4 d 0 0 8 [some (.int (nz0 x)), none] [] S _
  unfold ntz
  generalize nz0 x = y
  refine ev_iload0 (q := 9) dJ6_numberOfTrailingZeros_0f7a4_8 rfl ?_
  refine ev_if_gt (q := 12) (t := 17) dJ6_numberOfTrailingZeros_0f7a4_9 rfl (by decide) (fun c9 => ?_) (fun c9 => ?_)
  · rw [if_pos c9]
    refine ev_iconst (q := 18) (v := 1) dJ6_numberOfTrailingZeros_0f7a4_17 rfl rfl ?_
    refine ev_istore1 (q := 19) dJ6_numberOfTrailingZeros_0f7a4_18 rfl (by decide) rfl ?_
    have s5 : ∀ p : Int32 × Int32, EV G l kJ6_numberOfTrailingZeros_0f7a4 d 0 0 74 [some (.int p.2), some (.int p.1)] [] S (th_is (nz5 p) S) := by
      intro p
      refine ev_iload1 (q := 75) dJ6_numberOfTrailingZeros_0f7a4_74 rfl ?_
      refine ev_iload0 (q := 76) dJ6_numberOfTrailingZeros_0f7a4_75 rfl ?_
      refine ev_iconst (q := 77) (v := 1) dJ6_numberOfTrailingZeros_0f7a4_76 rfl rfl ?_
      refine ev_iushr (q := 78) dJ6_numberOfTrailingZeros_0f7a4_77 rfl ?_
      refine ev_iadd (q := 79) dJ6_numberOfTrailingZeros_0f7a4_78 rfl ?_
      exact ev_ireturn dJ6_numberOfTrailingZeros_0f7a4_79 rfl rfl ⟨rfl, rfl⟩
    have s4 : ∀ p : Int32 × Int32, EV G l kJ6_numberOfTrailingZeros_0f7a4 d 0 0 62 [some (.int p.2), some (.int p.1)] [] S (th_is (nz5 (nz4 p)) S) := by
      intro p
      unfold nz4
      refine ev_iload0 (q := 63) dJ6_numberOfTrailingZeros_0f7a4_62 rfl ?_
      refine ev_iconst (q := 64) (v := 4) dJ6_numberOfTrailingZeros_0f7a4_63 rfl rfl ?_
      refine ev_icmp_le (q := 67) (t := 74) dJ6_numberOfTrailingZeros_0f7a4_64 rfl (by decide) (fun c => ?_) (fun c => ?_)
      · rw [if_pos c]
        exact s5 p
      · rw [if_neg c]
        refine ev_iinc1 (q := 70) dJ6_numberOfTrailingZeros_0f7a4_67 rfl (by decide) rfl rfl ?_
        refine ev_iload0 (q := 71) dJ6_numberOfTrailingZeros_0f7a4_70 rfl ?_
        refine ev_iconst (q := 72) (v := 2) dJ6_numberOfTrailingZeros_0f7a4_71 rfl rfl ?_
        refine ev_iushr (q := 73) dJ6_numberOfTrailingZeros_0f7a4_72 rfl ?_
        refine ev_istore0 (q := 74) dJ6_numberOfTrailingZeros_0f7a4_73 rfl (by decide) rfl ?_
        exact s5 (p.1 + 2, iu p.2 2)
    have s3 : ∀ p : Int32 × Int32, EV G l kJ6_numberOfTrailingZeros_0f7a4 d 0 0 49 [some (.int p.2), some (.int p.1)] [] S (th_is (nz5 (nz4 (nz3 p))) S) := by
      intro p
      unfold nz3
      refine ev_iload0 (q := 50) dJ6_numberOfTrailingZeros_0f7a4_49 rfl ?_
      refine ev_bipush (q := 52) (v := 16) dJ6_numberOfTrailingZeros_0f7a4_50 rfl rfl ?_
      refine ev_icmp_le (q := 55) (t := 62) dJ6_numberOfTrailingZeros_0f7a4_52 rfl (by decide) (fun c => ?_) (fun c => ?_)
      · rw [if_pos c]
        exact s4 p
      · rw [if_neg c]
        refine ev_iinc1 (q := 58) dJ6_numberOfTrailingZeros_0f7a4_55 rfl (by decide) rfl rfl ?_
        refine ev_iload0 (q := 59) dJ6_numberOfTrailingZeros_0f7a4_58 rfl ?_
        refine ev_iconst (q := 60) (v := 4) dJ6_numberOfTrailingZeros_0f7a4_59 rfl rfl ?_
        refine ev_iushr (q := 61) dJ6_numberOfTrailingZeros_0f7a4_60 rfl ?_
        refine ev_istore0 (q := 62) dJ6_numberOfTrailingZeros_0f7a4_61 rfl (by decide) rfl ?_
        exact s4 (p.1 + 4, iu p.2 4)
    have s2 : ∀ p : Int32 × Int32, EV G l kJ6_numberOfTrailingZeros_0f7a4 d 0 0 34 [some (.int p.2), some (.int p.1)] [] S (th_is (nz5 (nz4 (nz3 (nz2 p)))) S) := by
      intro p
      unfold nz2
      refine ev_iload0 (q := 35) dJ6_numberOfTrailingZeros_0f7a4_34 rfl ?_
      refine ev_sipush (q := 38) (v := 256) dJ6_numberOfTrailingZeros_0f7a4_35 rfl rfl ?_
      refine ev_icmp_le (q := 41) (t := 49) dJ6_numberOfTrailingZeros_0f7a4_38 rfl (by decide) (fun c => ?_) (fun c => ?_)
      · rw [if_pos c]
        exact s3 p
      · rw [if_neg c]
        refine ev_iinc1 (q := 44) dJ6_numberOfTrailingZeros_0f7a4_41 rfl (by decide) rfl rfl ?_
        refine ev_iload0 (q := 45) dJ6_numberOfTrailingZeros_0f7a4_44 rfl ?_
        refine ev_bipush (q := 47) (v := 8) dJ6_numberOfTrailingZeros_0f7a4_45 rfl rfl ?_
        refine ev_iushr (q := 48) dJ6_numberOfTrailingZeros_0f7a4_47 rfl ?_
        refine ev_istore0 (q := 49) dJ6_numberOfTrailingZeros_0f7a4_48 rfl (by decide) rfl ?_
        exact s3 (p.1 + 8, iu p.2 8)
    have s1 : ∀ p : Int32 × Int32, EV G l kJ6_numberOfTrailingZeros_0f7a4 d 0 0 19 [some (.int p.2), some (.int p.1)] [] S (th_is (nz5 (nz4 (nz3 (nz2 (nz1 p))))) S) := by
      intro p
      unfold nz1
      refine ev_iload0 (q := 20) dJ6_numberOfTrailingZeros_0f7a4_19 rfl ?_
      refine ev_ldcw (q := 23) dJ6_numberOfTrailingZeros_0f7a4_20 q_J6_264 rfl ?_
      refine ev_icmp_le (q := 26) (t := 34) dJ6_numberOfTrailingZeros_0f7a4_23 rfl (by decide) (fun c => ?_) (fun c => ?_)
      · rw [if_pos c]
        exact s2 p
      · rw [if_neg c]
        refine ev_iinc1 (q := 29) dJ6_numberOfTrailingZeros_0f7a4_26 rfl (by decide) rfl rfl ?_
        refine ev_iload0 (q := 30) dJ6_numberOfTrailingZeros_0f7a4_29 rfl ?_
        refine ev_bipush (q := 32) (v := 16) dJ6_numberOfTrailingZeros_0f7a4_30 rfl rfl ?_
        refine ev_iushr (q := 33) dJ6_numberOfTrailingZeros_0f7a4_32 rfl ?_
        refine ev_istore0 (q := 34) dJ6_numberOfTrailingZeros_0f7a4_33 rfl (by decide) rfl ?_
        exact s2 (p.1 + 16, iu p.2 16)
    exact s1 (1, y)
  · rw [if_neg c9]
    refine ev_iload0 (q := 13) dJ6_numberOfTrailingZeros_0f7a4_12 rfl ?_
    refine ev_bipush (q := 15) (v := 32) dJ6_numberOfTrailingZeros_0f7a4_13 rfl rfl ?_
    refine ev_iand (q := 16) dJ6_numberOfTrailingZeros_0f7a4_15 rfl ?_
    exact ev_ireturn dJ6_numberOfTrailingZeros_0f7a4_16 rfl rfl ⟨rfl, rfl⟩
theorem j_newLength (S : th_S) : MT G l yJ8_newLength_cabcc kJ8_newLength_cabcc (d + 1) 0 0 [.int (nI 10), .int 1, .int 5] S (th_is 15 S) := by
  refine MT.of (by decide) rfl rfl (n := 1) rfl (ls := [some (.int (nI 10)), some (.int 1), some (.int 5), none]) rfl ?_
  refine ev_iload0 (q := 1) dJ8_newLength_cabcc_0 rfl ?_
  refine ev_iload1 (q := 2) dJ8_newLength_cabcc_1 rfl ?_
  refine ev_iload2 (q := 3) dJ8_newLength_cabcc_2 rfl ?_
  refine ev_cS (K := kJ8_newLength_cabcc) (pc := 3) (q := 6) (j_max _ _) dJ8_newLength_cabcc_3 l_J8_194 rfl (Nat.le_of_ble_eq_true rfl) (Nat.le_refl _) rfl rfl (fun r S1 hp => ?_)
  obtain ⟨rfl, rfl⟩ := hp
  refine ev_iadd (q := 7) dJ8_newLength_cabcc_6 rfl ?_
  refine ev_istore3 (q := 8) dJ8_newLength_cabcc_7 rfl (by decide) rfl ?_
  refine ev_iconst (q := 9) (v := 0) dJ8_newLength_cabcc_8 rfl rfl ?_
  refine ev_iload3 (q := 10) dJ8_newLength_cabcc_9 rfl ?_
  show EV G l kJ8_newLength_cabcc _ 0 0 10 [_, _, _, some (.int 15)] [.int 15, .int 0] _ _
  refine ev_icmp_ge (q := 13) (t := 21) dJ8_newLength_cabcc_10 rfl (by decide) (fun c10 => ?_) (fun c10 => ?_)
  · exact absurd c10 (by decide)
  · refine ev_iload3 (q := 14) dJ8_newLength_cabcc_13 rfl ?_
    refine ev_ldc (q := 16) dJ8_newLength_cabcc_14 q_J8_200 rfl ?_
    refine ev_icmp_gt (q := 19) (t := 21) dJ8_newLength_cabcc_16 rfl (by decide) (fun c16 => ?_) (fun c16 => ?_)
    · exact absurd c16 (by decide)
    · refine ev_iload3 (q := 20) dJ8_newLength_cabcc_19 rfl ?_
      exact ev_ireturn dJ8_newLength_cabcc_20 rfl rfl ⟨rfl, rfl⟩
/-- what a grown row is: 15 long, the first ten as before -/
abbrev g15 (g : Nat → Option Nat) : Nat → Option Nat := va_cpy g (fun _ => none) 0 0 10
theorem j_copyOf3 {e : Nat} {g : Nat → Option Nat} {ci : Nat} {C : String} {T : u_T} {M : Nat} (hE : SH e = some (.inl (5, 10, g))) (heN : e < N) (hcl : th_cl[ci]? = some (C, T, M)) (hca : Cond.castable C "java/lang/Object" ∈ th_N) (hel : ∀ k, k < 10 → ∃ (y : Nat) (h : Nat → Option Nat), g k = some y ∧ SH y = some (.inr (ci, h)) ∧ y < N) : MT G l yJ7_copyOf_6403c kJ7_copyOf_6403c (d + 1) 1 15 [.ref e, .int 15, .ref 3] (N, SH, V) (fun r S' => r = some (.ref N) ∧ S' = (N + 1, th_u (th_u SH N (.inl (5, 15, fun _ => none))) N (.inl (5, 15, g15 g)), th_z V N)) := by
  refine MT.of (by decide) rfl rfl (n := 1) rfl (ls := [some (.ref e), some (.int 15), some (.ref 3), none]) rfl ?_
  refine ev_aload2 (q := 1) dJ7_copyOf_6403c_0 rfl ?_
  refine ev_ldcM (q := 3) dJ7_copyOf_6403c_1 n_J7_110 rfl ?_
  refine ev_acmp_ne (q := 6) (t := 13) dJ7_copyOf_6403c_3 rfl (by decide) (fun c3 => ?_) (fun c3 => ?_)
  · exact absurd rfl c3
  · refine ev_iload1 (q := 7) dJ7_copyOf_6403c_6 rfl ?_
    refine ev_newqX (n := 15) (bc := 0) (bs := 0) (N := N) (N1 := N + 1) rfl (K := kJ7_copyOf_6403c) (pc := 7) (q := 10) dJ7_copyOf_6403c_7 (Or.inr ⟨rfl, rfl⟩) n_J7_2 rfl (by decide) rfl ?_
    have hEe : th_u SH N (.inl (5, 15, fun _ => none)) e = some (.inl (5, 10, g)) := by rw [th_u_ne (by omega)]; exact hE
    refine ev_goto (q := 24) dJ7_copyOf_6403c_10 (by decide) ?_
    refine ev_astore3 (q := 25) dJ7_copyOf_6403c_24 rfl (by decide) rfl ?_
    refine ev_aload0 (q := 26) dJ7_copyOf_6403c_25 rfl ?_
    refine ev_iconst (q := 27) (v := 0) dJ7_copyOf_6403c_26 rfl rfl ?_
    refine ev_aload3 (q := 28) dJ7_copyOf_6403c_27 rfl ?_
    refine ev_iconst (q := 29) (v := 0) dJ7_copyOf_6403c_28 rfl rfl ?_
    refine ev_aload0 (q := 30) dJ7_copyOf_6403c_29 rfl ?_
    refine ev_alen (q := 31) dJ7_copyOf_6403c_30 hEe (by decide) rfl ?_
    refine ev_iload1 (q := 32) dJ7_copyOf_6403c_31 rfl ?_
    refine ev_cS (K := kJ7_copyOf_6403c) (pc := 32) (q := 35) (j_min _ _) dJ7_copyOf_6403c_32 l_J7_304 rfl (Nat.le_of_ble_eq_true rfl) (Nat.le_refl _) rfl rfl (fun r S1 hp => ?_)
    obtain ⟨rfl, rfl⟩ := hp
    refine ev_copyq (q := 38) (m := 10) (ci := ci) dJ7_copyOf_6403c_35 w_ac1 hEe th_u_eq (by decide) (by decide) (by decide) hcl hca (fun k hk => ?_) (by decide) (by omega) rfl ?_
    · obtain ⟨y, h, h1, h2, h3⟩ := hel k hk
      exact ⟨y, h, h1, (th_u_ne (by omega)).trans h2⟩
    · refine ev_aload3 (q := 39) dJ7_copyOf_6403c_38 rfl ?_
      exact ev_areturn dJ7_copyOf_6403c_39 rfl (Or.inr ⟨_, rfl⟩) ⟨rfl, rfl⟩
theorem j_copyOf2 {e : Nat} {g : Nat → Option Nat} {ci : Nat} {C : String} {T : u_T} {M : Nat} (hE : SH e = some (.inl (5, 10, g))) (heN : e < N) (hcl : th_cl[ci]? = some (C, T, M)) (hca : Cond.castable C "java/lang/Object" ∈ th_N) (hel : ∀ k, k < 10 → ∃ (y : Nat) (h : Nat → Option Nat), g k = some y ∧ SH y = some (.inr (ci, h)) ∧ y < N) : MT G l yJ7_copyOf_1904c kJ7_copyOf_1904c (d + 2) 1 15 [.ref e, .int 15] (N, SH, V) (fun r S' => r = some (.ref N) ∧ S' = (N + 1, th_u (th_u SH N (.inl (5, 15, fun _ => none))) N (.inl (5, 15, g15 g)), th_z V N)) := by
  refine MT.of (by decide) rfl rfl (n := 0) rfl (ls := [some (.ref e), some (.int 15)]) rfl ?_
  refine ev_aload0 (q := 1) dJ7_copyOf_1904c_0 rfl ?_
  refine ev_iload1 (q := 2) dJ7_copyOf_1904c_1 rfl ?_
  refine ev_aload0 (q := 3) dJ7_copyOf_1904c_2 rfl ?_
  refine ev_getCq (q := 6) dJ7_copyOf_1904c_3 w_gC hE (Nat.le_of_ble_eq_true rfl) (by omega) rfl ?_
  refine ev_cS (bc := 0) (bs := 0) (K := kJ7_copyOf_1904c) (pc := 6) (q := 9) (j_copyOf3 hE heN hcl hca hel) dJ7_copyOf_1904c_6 l_J7_300 rfl (Nat.le_of_ble_eq_true rfl) (Nat.le_refl _) rfl rfl (fun r S1 hp => ?_)
  obtain ⟨rfl, rfl⟩ := hp
  exact ev_areturn dJ7_copyOf_1904c_9 rfl (Or.inr ⟨_, rfl⟩) ⟨rfl, rfl⟩
theorem j_growA {a : Nat} {f : Nat → Option Nat} (ha : SH a = some (.inr (11, f))) (haN : a < N) (he : f 1 = some 2) : MT G l yJx4a65c_grow_92f84 kJx4a65c_grow_92f84 (d + 1) 1 15 [.ref a, .int 1] (N, SH, V) (fun r S' => r = some (.ref N) ∧ S' = (N + 1, th_u (th_u SH N (.inl (5, 10, fun _ => none))) a (.inr (11, th_u f 1 N)), th_z V N)) := by
  refine MT.of (by decide) rfl rfl (n := 2) rfl (ls := [some (.ref a), some (.int 1), none, none]) rfl ?_
  refine ev_aload0 (q := 1) dJx4a65c_grow_92f84_0 rfl ?_
  refine ev_getR (q := 4) dJx4a65c_grow_92f84_1 g_Jx4a65c_9 ha rfl he rfl ?_
  refine ev_xalen (q := 5) dJx4a65c_grow_92f84_4 (Or.inr ⟨rfl, rfl⟩) rfl ?_
  refine ev_istore2 (q := 6) dJx4a65c_grow_92f84_5 rfl (by decide) rfl ?_
  refine ev_iload2 (q := 7) dJx4a65c_grow_92f84_6 rfl ?_
  refine ev_if_gt (q := 10) (t := 20) dJx4a65c_grow_92f84_7 rfl (by decide) (fun c7 => ?_) (fun c7 => ?_)
  · exact absurd c7 (by decide)
  · refine ev_aload0 (q := 11) dJx4a65c_grow_92f84_10 rfl ?_
    refine ev_getR (q := 14) dJx4a65c_grow_92f84_11 g_Jx4a65c_9 ha rfl he rfl ?_
    refine ev_getDC (q := 17) dJx4a65c_grow_92f84_14 sl_Jx4a65c_39 rfl ?_
    refine ev_acmp_eq (q := 20) (t := 45) dJx4a65c_grow_92f84_17 rfl (by decide) (fun c17 => ?_) (fun c17 => ?_)
    · refine ev_aload0 (q := 46) dJx4a65c_grow_92f84_45 rfl ?_
      refine ev_bipush (q := 48) (v := 10) dJx4a65c_grow_92f84_46 rfl rfl ?_
      refine ev_iload1 (q := 49) dJx4a65c_grow_92f84_48 rfl ?_
      refine ev_cS (K := kJx4a65c_grow_92f84) (pc := 49) (q := 52) (j_max _ _) dJx4a65c_grow_92f84_49 l_Jx4a65c_79 rfl (Nat.le_of_ble_eq_true rfl) (Nat.le_refl _) rfl rfl (fun r S1 hp => ?_)
      obtain ⟨rfl, rfl⟩ := hp
      refine ev_newqX (n := 10) (bc := 0) (bs := 5) (N := N) (N1 := N + 1) rfl (K := kJx4a65c_grow_92f84) (pc := 52) (q := 55) dJx4a65c_grow_92f84_52 (Or.inr ⟨rfl, rfl⟩) n_Jx4a65c_7 rfl (by decide) rfl ?_
      have ha' : th_u SH N (.inl (5, 10, fun _ => none)) a = some (.inr (11, f)) := by rw [th_u_ne (by omega)]; exact ha
      refine ev_dup_x1 (q := 56) dJx4a65c_grow_92f84_55 rfl rfl rfl ?_
      refine ev_putR (q := 59) dJx4a65c_grow_92f84_56 (p_Jx4a65c_9 _) ha' rfl rfl ?_
      exact ev_areturn dJx4a65c_grow_92f84_59 rfl (Or.inr ⟨_, rfl⟩) ⟨rfl, rfl⟩
    · exact absurd rfl c17
theorem j_growC {a e : Nat} {f g : Nat → Option Nat} {ci : Nat} {C : String} {T : u_T} {M : Nat} (ha : SH a = some (.inr (11, f))) (haN : a < N) (he : f 1 = some e) (hE : SH e = some (.inl (5, 10, g))) (heN : e < N) (hcl : th_cl[ci]? = some (C, T, M)) (hca : Cond.castable C "java/lang/Object" ∈ th_N) (hel : ∀ k, k < 10 → ∃ (y : Nat) (h : Nat → Option Nat), g k = some y ∧ SH y = some (.inr (ci, h)) ∧ y < N) : MT G l yJx4a65c_grow_92f84 kJx4a65c_grow_92f84 (d + 3) 1 15 [.ref a, .int 11] (N, SH, V) (fun r S' => r = some (.ref N) ∧ S' = (N + 1, th_u (th_u (th_u SH N (.inl (5, 15, fun _ => none))) N (.inl (5, 15, g15 g))) a (.inr (11, th_u f 1 N)), th_z V N)) := by
  refine MT.of (by decide) rfl rfl (n := 2) rfl (ls := [some (.ref a), some (.int 11), none, none]) rfl ?_
  refine ev_aload0 (q := 1) dJx4a65c_grow_92f84_0 rfl ?_
  refine ev_getR (q := 4) dJx4a65c_grow_92f84_1 g_Jx4a65c_9 ha rfl he rfl ?_
  refine ev_alen (q := 5) dJx4a65c_grow_92f84_4 hE (by decide) rfl ?_
  refine ev_istore2 (q := 6) dJx4a65c_grow_92f84_5 rfl (by decide) rfl ?_
  refine ev_iload2 (q := 7) dJx4a65c_grow_92f84_6 rfl ?_
  have B20 : EV G l kJx4a65c_grow_92f84 (d + 3) 1 15 20 [some (.ref a), some (.int 11), some (.int (nI 10)), none] [] (N, SH, V) (fun r S' => r = some (.ref N) ∧ S' = (N + 1, th_u (th_u (th_u SH N (.inl (5, 15, fun _ => none))) N (.inl (5, 15, g15 g))) a (.inr (11, th_u f 1 N)), th_z V N)) := by
    refine ev_iload2 (q := 21) dJx4a65c_grow_92f84_20 rfl ?_
    refine ev_iload1 (q := 22) dJx4a65c_grow_92f84_21 rfl ?_
    refine ev_iload2 (q := 23) dJx4a65c_grow_92f84_22 rfl ?_
    refine ev_isub (q := 24) dJx4a65c_grow_92f84_23 rfl ?_
    refine ev_iload2 (q := 25) dJx4a65c_grow_92f84_24 rfl ?_
    refine ev_iconst (q := 26) (v := 1) dJx4a65c_grow_92f84_25 rfl rfl ?_
    refine ev_ishr (q := 27) dJx4a65c_grow_92f84_26 rfl ?_
    show EV G l kJx4a65c_grow_92f84 _ 1 15 27 _ [.int 5, .int 1, .int (nI 10)] _ _
    refine ev_cS (K := kJx4a65c_grow_92f84) (pc := 27) (q := 30) (j_newLength (d := d) _) dJx4a65c_grow_92f84_27 l_Jx4a65c_73 rfl (Nat.le_of_ble_eq_true rfl) (by omega) rfl rfl (fun r S1 hp => ?_)
    obtain ⟨rfl, rfl⟩ := hp
    refine ev_istore3 (q := 31) dJx4a65c_grow_92f84_30 rfl (by decide) rfl ?_
    refine ev_aload0 (q := 32) dJx4a65c_grow_92f84_31 rfl ?_
    refine ev_aload0 (q := 33) dJx4a65c_grow_92f84_32 rfl ?_
    refine ev_getR (q := 36) dJx4a65c_grow_92f84_33 g_Jx4a65c_9 ha rfl he rfl ?_
    refine ev_iload3 (q := 37) dJx4a65c_grow_92f84_36 rfl ?_
    refine ev_cS (bc := 0) (bs := 0) (K := kJx4a65c_grow_92f84) (pc := 37) (q := 40) (j_copyOf2 hE heN hcl hca hel) dJx4a65c_grow_92f84_37 l_Jx4a65c_66 rfl (Nat.le_of_ble_eq_true rfl) (Nat.le_refl _) rfl rfl (fun r S1 hp => ?_)
    obtain ⟨rfl, rfl⟩ := hp
    have ha' : th_u (th_u SH N (.inl (5, 15, fun _ => none))) N (.inl (5, 15, g15 g)) a = some (.inr (11, f)) := by rw [th_u_ne (by omega), th_u_ne (by omega)]; exact ha
    refine ev_dup_x1 (q := 41) dJx4a65c_grow_92f84_40 rfl rfl rfl ?_
    refine ev_putR (q := 44) dJx4a65c_grow_92f84_41 (p_Jx4a65c_9 _) ha' rfl rfl ?_
    exact ev_areturn dJx4a65c_grow_92f84_44 rfl (Or.inr ⟨_, rfl⟩) ⟨rfl, rfl⟩
  refine ev_if_gt (q := 10) (t := 20) dJx4a65c_grow_92f84_7 rfl (by decide) (fun c7 => ?_) (fun c7 => ?_)
  · exact B20
  · exact absurd (by decide) c7
theorem j_grow0A {a : Nat} {f : Nat → Option Nat} (ha : SH a = some (.inr (11, f))) (haN : a < N) (he : f 1 = some 2) (hs : V a 2 = 0) : MT G l yJx4a65c_grow_d5877 kJx4a65c_grow_d5877 (d + 4) 1 15 [.ref a] (N, SH, V) (fun r S' => r = some (.ref N) ∧ S' = (N + 1, th_u (th_u SH N (.inl (5, 10, fun _ => none))) a (.inr (11, th_u f 1 N)), th_z V N)) := by
  refine MT.of (by decide) rfl rfl (n := 0) rfl (ls := [some (.ref a)]) rfl ?_
  refine ev_aload0 (q := 1) dJx4a65c_grow_d5877_0 rfl ?_
  refine ev_aload0 (q := 2) dJx4a65c_grow_d5877_1 rfl ?_
  refine ev_getI (q := 5) dJx4a65c_grow_d5877_2 g_Jx4a65c_48 ha rfl rfl ?_
  refine ev_iconst (q := 6) (v := 1) dJx4a65c_grow_d5877_5 rfl rfl ?_
  refine ev_iadd (q := 7) dJx4a65c_grow_d5877_6 rfl ?_
  show EV G l kJx4a65c_grow_d5877 _ 1 15 7 _ [.int (V a 2 + 1), .ref a] _ _
  rw [hs]
  refine ev_cV (bc := 0) (bs := 0) (K := kJx4a65c_grow_d5877) (pc := 7) (q := 10) (j_growA (d := d) ha haN he) dJx4a65c_grow_d5877_7 l_Jx4a65c_69 ha rfl rfl (Nat.le_of_ble_eq_true rfl) (by omega) rfl rfl (fun r S1 hp => ?_)
  obtain ⟨rfl, rfl⟩ := hp
  exact ev_areturn dJx4a65c_grow_d5877_10 rfl (Or.inr ⟨_, rfl⟩) ⟨rfl, rfl⟩
theorem j_grow0C {a e : Nat} {f g : Nat → Option Nat} {ci : Nat} {C : String} {T : u_T} {M : Nat} (ha : SH a = some (.inr (11, f))) (haN : a < N) (he : f 1 = some e) (hs : V a 2 = 10) (hE : SH e = some (.inl (5, 10, g))) (heN : e < N) (hcl : th_cl[ci]? = some (C, T, M)) (hca : Cond.castable C "java/lang/Object" ∈ th_N) (hel : ∀ k, k < 10 → ∃ (y : Nat) (h : Nat → Option Nat), g k = some y ∧ SH y = some (.inr (ci, h)) ∧ y < N) : MT G l yJx4a65c_grow_d5877 kJx4a65c_grow_d5877 (d + 4) 1 15 [.ref a] (N, SH, V) (fun r S' => r = some (.ref N) ∧ S' = (N + 1, th_u (th_u (th_u SH N (.inl (5, 15, fun _ => none))) N (.inl (5, 15, g15 g))) a (.inr (11, th_u f 1 N)), th_z V N)) := by
  refine MT.of (by decide) rfl rfl (n := 0) rfl (ls := [some (.ref a)]) rfl ?_
  refine ev_aload0 (q := 1) dJx4a65c_grow_d5877_0 rfl ?_
  refine ev_aload0 (q := 2) dJx4a65c_grow_d5877_1 rfl ?_
  refine ev_getI (q := 5) dJx4a65c_grow_d5877_2 g_Jx4a65c_48 ha rfl rfl ?_
  refine ev_iconst (q := 6) (v := 1) dJx4a65c_grow_d5877_5 rfl rfl ?_
  refine ev_iadd (q := 7) dJx4a65c_grow_d5877_6 rfl ?_
  show EV G l kJx4a65c_grow_d5877 _ 1 15 7 _ [.int (V a 2 + 1), .ref a] _ _
  rw [hs]
  show EV G l kJx4a65c_grow_d5877 _ 1 15 7 _ [.int 11, .ref a] _ _
  refine ev_cV (bc := 0) (bs := 0) (K := kJx4a65c_grow_d5877) (pc := 7) (q := 10) (j_growC (d := d) ha haN he hE heN hcl hca hel) dJx4a65c_grow_d5877_7 l_Jx4a65c_69 ha rfl rfl (Nat.le_of_ble_eq_true rfl) (by omega) rfl rfl (fun r S1 hp => ?_)
  obtain ⟨rfl, rfl⟩ := hp
  exact ev_areturn dJx4a65c_grow_d5877_10 rfl (Or.inr ⟨_, rfl⟩) ⟨rfl, rfl⟩
/-- the list at a has the n objects el; its row is at e -/
def LST (N : Nat) (SH : Nat → Option th_K0) (V : th_Vl) (a n : Nat) (el : Nat → Nat) (e : Nat) : Prop := ∃ f : Nat → Option Nat, SH a = some (.inr (11, f)) ∧ f 1 = some e ∧ V a 2 = nI n ∧ ((e = 2 ∧ n = 0) ∨ ∃ (cap : Nat) (g : Nat → Option Nat), SH e = some (.inl (5, cap, g)) ∧ 64 ≤ e ∧ e < N ∧ n ≤ cap ∧ (cap = 10 ∨ cap = 15) ∧ ∀ k, k < n → g k = some (el k))
/-- what add leaves -/
def PAL (N : Nat) (SH : Nat → Option th_K0) (V : th_Vl) (a n : Nat) (el : Nat → Nat) (e o : Nat) (r0 : Option Value) : Option Value → th_S → Prop := fun r S' => r = r0 ∧ ∃ N' SH' V' e', S' = (N', SH', V') ∧ LST N' SH' V' a (n + 1) (fun k => if k = n then o else el k) e' ∧ N ≤ N' ∧ N' ≤ N + 1 ∧ 64 ≤ e' ∧ (e' = e ∨ N ≤ e') ∧ (∀ b, b < N → b ≠ a → b ≠ e → SH' b = SH b) ∧ (∀ b, b < N → b ≠ a → V' b = V b)
theorem j_add3 {a e n o : Nat} {el : Nat → Nat} {ci : Nat} {C : String} {T : u_T} {M : Nat} {h0 : Nat → Option Nat} (hL : LST N SH V a n el e) (haN : a < N) (hN : 64 ≤ N) (hn : n < 15) (hcl : th_cl[ci]? = some (C, T, M)) (hca : Cond.castable C "java/lang/Object" ∈ th_N) (hel : ∀ k, k < n → ∃ h : Nat → Option Nat, SH (el k) = some (.inr (ci, h)) ∧ el k < N) (ho : SH o = some (.inr (ci, h0))) (hoN : o < N) (ha64 : a < 64) (hci : ci ≠ 11) : MT G l yJx4a65c_add_72be8 kJx4a65c_add_72be8 (d + 5) 1 15 [.ref a, .ref o, .ref e, .int (nI n)] (N, SH, V) (PAL N SH V a n el e o none) := by
  refine MT.of (by decide) rfl rfl (n := 0) rfl (ls := [some (.ref a), some (.ref o), some (.ref e), some (.int (nI n))]) rfl ?_
  obtain ⟨f, ha, hf, hs, hL⟩ := hL
  have tail : ∀ (bc bs N1 e1 cap : Nat) (SH1 : Nat → Option th_K0) (V1 : th_Vl) (f1 g1 : Nat → Option Nat), SH1 a = some (.inr (11, f1)) → f1 1 = some e1 → SH1 e1 = some (.inl (5, cap, g1)) → (∃ h, SH1 o = some (.inr (ci, h))) → 64 ≤ e1 → e1 < N1 → n < cap → (cap = 10 ∨ cap = 15) → (∀ k, k < n → g1 k = some (el k)) → N ≤ N1 → N1 ≤ N + 1 → (e1 = e ∨ N ≤ e1) → (∀ b, b < N → b ≠ a → b ≠ e → SH1 b = SH b) → (∀ b, b < N → b ≠ a → V1 b = V b) → EV G l kJx4a65c_add_72be8 (d + 5) bc bs 11 [some (.ref a), some (.ref o), some (.ref e1), some (.int (nI n))] [] (N1, SH1, V1) (PAL N SH V a n el e o none) := by
    intro bc bs N1 e1 cap SH1 V1 f1 g1 q1 q2 q3 q4 q5 q6 q7 q8 q9 q10 q11 q12 q13 q14
    obtain ⟨h, q4⟩ := q4
    have hae : a ≠ e1 := by omega
    refine ev_aload2 (q := 12) dJx4a65c_add_72be8_11 rfl ?_
    refine ev_iload3 (q := 13) dJx4a65c_add_72be8_12 rfl ?_
    refine ev_aload1 (q := 14) dJx4a65c_add_72be8_13 rfl ?_
    refine ev_aast (q := 15) dJx4a65c_add_72be8_14 q3 q4 (Or.inr ⟨rfl, C, T, M, hcl, hca⟩) rfl q7 (by omega) rfl ?_
    have q1' : th_u SH1 e1 (.inl (5, cap, th_u g1 n o)) a = some (.inr (11, f1)) := by rw [th_u_ne hae]; exact q1
    refine ev_aload0 (q := 16) dJx4a65c_add_72be8_15 rfl ?_
    refine ev_iload3 (q := 17) dJx4a65c_add_72be8_16 rfl ?_
    refine ev_iconst (q := 18) (v := 1) dJx4a65c_add_72be8_17 rfl rfl ?_
    refine ev_iadd (q := 19) dJx4a65c_add_72be8_18 rfl ?_
    refine ev_putI (q := 22) dJx4a65c_add_72be8_19 (p_Jx4a65c_48 _) q1' rfl rfl rfl rfl ?_
    refine ev_return dJx4a65c_add_72be8_22 rfl ⟨rfl, N1, th_u SH1 e1 (.inl (5, cap, th_u g1 n o)), th_w V1 a 2 (nI n + 1), e1, rfl, ⟨f1, q1', q2, ?_, Or.inr ⟨cap, th_u g1 n o, th_u_eq, q5, q6, q7, q8, fun k hk => ?_⟩⟩, q10, q11, q5, q12, fun b hb1 hb2 hb3 => ?_, fun b hb1 hb2 => (th_w_ne hb2).trans (q14 b hb1 hb2)⟩
    · rw [th_w_if, if_pos ⟨rfl, rfl⟩]
      exact nI_lit
    · show th_u g1 n o k = some (if k = n then o else el k)
      by_cases hkn : k = n
      · rw [if_pos hkn, hkn, th_u_eq]
      · rw [if_neg hkn, th_u_ne hkn]
        exact q9 k (by omega)
    · rw [th_u_ne (by rcases q12 with z | z <;> omega)]
      exact q13 b hb1 hb2 hb3
  refine ev_iload3 (q := 1) dJx4a65c_add_72be8_0 rfl ?_
  refine ev_aload2 (q := 2) dJx4a65c_add_72be8_1 rfl ?_
  rcases hL with ⟨he, hn0⟩ | ⟨cap, g, hE, he64, heN, hnc, hcap, hg⟩
  · subst he hn0
    refine ev_xalen (q := 3) dJx4a65c_add_72be8_2 (Or.inr ⟨rfl, rfl⟩) rfl ?_
    refine ev_icmp_ne (q := 6) (t := 11) dJx4a65c_add_72be8_3 rfl (by decide) (fun c3 => ?_) (fun c3 => ?_)
    · exact absurd rfl c3
    · refine ev_aload0 (q := 7) dJx4a65c_add_72be8_6 rfl ?_
      refine ev_cV (bc := 0) (bs := 0) (K := kJx4a65c_add_72be8) (pc := 7) (q := 10) (j_grow0A (d := d) ha haN hf hs) dJx4a65c_add_72be8_7 l_Jx4a65c_129 ha rfl rfl (Nat.le_of_ble_eq_true rfl) (Nat.le_refl _) rfl rfl (fun r S1 hp => ?_)
      obtain ⟨rfl, rfl⟩ := hp
      refine ev_astore2 (q := 11) dJx4a65c_add_72be8_10 rfl (by decide) rfl ?_
      refine tail 0 0 (N + 1) N 10 _ _ (th_u f 1 N) (fun _ => none) th_u_eq th_u_eq ((th_u_ne (by omega)).trans th_u_eq) ?_ hN (by omega) (by omega) (Or.inl rfl) (fun k hk => absurd hk (Nat.not_lt_zero _)) (by omega) (Nat.le_refl _) (Or.inr (Nat.le_refl _)) (fun b hb1 hb2 hb3 => ?_) (fun b hb1 hb2 => th_z_ne (by omega))
      · refine ⟨h0, ?_⟩
        have hoa : o ≠ a := fun e => by rw [e, ha] at ho; cases ho; exact absurd rfl hci
        rw [th_u_ne hoa, th_u_ne (by omega)]
        exact ho
      · rw [th_u_ne hb2, th_u_ne (by omega)]
  · refine ev_alen (q := 3) dJx4a65c_add_72be8_2 hE (by decide) rfl ?_
    refine ev_icmp_ne (q := 6) (t := 11) dJx4a65c_add_72be8_3 rfl (by decide) (fun c3 => ?_) (fun c3 => ?_)
    · have hne : n ≠ cap := fun e => c3 (by rw [e])
      exact tail 1 15 N e cap SH V f g ha hf hE ⟨h0, ho⟩ he64 heN (by omega) hcap hg (Nat.le_refl _) (by omega) (Or.inl rfl) (fun _ _ _ _ => rfl) (fun _ _ _ => rfl)
    · have hnc2 : n = cap := (nI_eq (by omega) (by omega)).mp c3
      have hc10 : cap = 10 := by omega
      subst hnc2 hc10
      refine ev_aload0 (q := 7) dJx4a65c_add_72be8_6 rfl ?_
      refine ev_cV (bc := 0) (bs := 0) (K := kJx4a65c_add_72be8) (pc := 7) (q := 10) (j_grow0C (d := d) ha haN hf hs hE heN hcl hca (fun k hk => ?_)) dJx4a65c_add_72be8_7 l_Jx4a65c_129 ha rfl rfl (Nat.le_of_ble_eq_true rfl) (Nat.le_refl _) rfl rfl (fun r S1 hp => ?_)
      · obtain ⟨h, h1, h2⟩ := hel k hk
        exact ⟨el k, h, hg k hk, h1, h2⟩
      obtain ⟨rfl, rfl⟩ := hp
      refine ev_astore2 (q := 11) dJx4a65c_add_72be8_10 rfl (by decide) rfl ?_
      refine tail 0 0 (N + 1) N 15 _ _ (th_u f 1 N) (g15 g) th_u_eq th_u_eq ((th_u_ne (by omega)).trans th_u_eq) ?_ hN (by omega) (by omega) (Or.inr rfl) (fun k hk => ?_) (by omega) (Nat.le_refl _) (Or.inr (Nat.le_refl _)) (fun b hb1 hb2 hb3 => ?_) (fun b hb1 hb2 => th_z_ne (by omega))
      · refine ⟨h0, ?_⟩
        have hoa : o ≠ a := fun e => by rw [e, ha] at ho; cases ho; exact absurd rfl hci
        rw [th_u_ne hoa, th_u_ne (by omega), th_u_ne (by omega)]
        exact ho
      · show va_cpy g (fun _ => none) 0 0 10 k = _
        unfold va_cpy
        rw [if_pos ⟨Nat.zero_le _, by omega⟩, Nat.zero_add, Nat.sub_zero]
        exact hg k hk
      · rw [th_u_ne hb2, th_u_ne (by omega), th_u_ne (by omega)]
theorem j_add {a e n o : Nat} {el : Nat → Nat} {ci : Nat} {C : String} {T : u_T} {M : Nat} {h0 : Nat → Option Nat} (hL : LST N SH V a n el e) (haN : a < N) (hN : 64 ≤ N) (hn : n < 15) (hcl : th_cl[ci]? = some (C, T, M)) (hca : Cond.castable C "java/lang/Object" ∈ th_N) (hel : ∀ k, k < n → ∃ h : Nat → Option Nat, SH (el k) = some (.inr (ci, h)) ∧ el k < N) (ho : SH o = some (.inr (ci, h0))) (hoN : o < N) (ha64 : a < 64) (hci : ci ≠ 11) : MT G l yJx4a65c_add_9ea2d kJx4a65c_add_9ea2d (d + 6) 1 15 [.ref a, .ref o] (N, SH, V) (PAL N SH V a n el e o (some (.int 1))) := by
  refine MT.of (by decide) rfl rfl (n := 0) rfl (ls := [some (.ref a), some (.ref o)]) rfl ?_
  obtain ⟨f, ha, hf, hs, hL⟩ := hL
  refine ev_aload0 (q := 1) dJx4a65c_add_9ea2d_0 rfl ?_
  refine ev_dup (q := 2) dJx4a65c_add_9ea2d_1 rfl rfl ?_
  refine ev_getI (q := 5) dJx4a65c_add_9ea2d_2 g_Jx4a65c_63 ha rfl rfl ?_
  refine ev_iconst (q := 6) (v := 1) dJx4a65c_add_9ea2d_5 rfl rfl ?_
  refine ev_iadd (q := 7) dJx4a65c_add_9ea2d_6 rfl ?_
  refine ev_putI (q := 10) dJx4a65c_add_9ea2d_7 (p_Jx4a65c_63 _) ha rfl rfl rfl rfl ?_
  refine ev_aload0 (q := 11) dJx4a65c_add_9ea2d_10 rfl ?_
  refine ev_aload1 (q := 12) dJx4a65c_add_9ea2d_11 rfl ?_
  refine ev_aload0 (q := 13) dJx4a65c_add_9ea2d_12 rfl ?_
  refine ev_getR (q := 16) dJx4a65c_add_9ea2d_13 g_Jx4a65c_9 ha rfl hf rfl ?_
  refine ev_aload0 (q := 17) dJx4a65c_add_9ea2d_16 rfl ?_
  refine ev_getI (q := 20) dJx4a65c_add_9ea2d_17 g_Jx4a65c_48 ha rfl rfl ?_
  show EV G l kJx4a65c_add_9ea2d _ 1 15 20 _ [.int (th_w V a 0 (V a 0 + 1) a 2), .ref e, .ref o, .ref a] (N, SH, th_w V a 0 (V a 0 + 1)) _
  rw [show th_w V a 0 (V a 0 + 1) a 2 = nI n by rw [th_w_j (by decide)]; exact hs]
  refine ev_cV (bc := 0) (bs := 0) (K := kJx4a65c_add_9ea2d) (pc := 20) (q := 23) (j_add3 (d := d) (V := th_w V a 0 (V a 0 + 1)) (el := el) ⟨f, ha, hf, by rw [th_w_j (by decide)]; exact hs, hL⟩ haN hN hn hcl hca hel ho hoN ha64 hci) dJx4a65c_add_9ea2d_20 l_Jx4a65c_131 ha rfl rfl (Nat.le_of_ble_eq_true rfl) (Nat.le_refl _) rfl rfl (fun r S1 hp => ?_)
  obtain ⟨rfl, N', SH', V', e', rfl, h1, h2, h3, h4, h5, h6, h7⟩ := hp
  refine ev_iconst (q := 24) (v := 1) dJx4a65c_add_9ea2d_23 rfl rfl ?_
  exact ev_ireturn dJx4a65c_add_9ea2d_24 rfl rfl ⟨rfl, N', SH', V', e', rfl, h1, h2, h3, h4, h5, h6, fun b hb1 hb2 => (h7 b hb1 hb2).trans (th_w_ne hb2)⟩
end J4
