/-! the class: the tape -/
theorem tbit_i8 (x : Int32) {c : Nat} (hc : c < 8) : tbit x.toInt8.toInt32 c = tbit x c := by
  unfold tbit
  rw [Int8.toBitVec_toInt32, Int32.toBitVec_toInt8, BitVec.getLsbD_signExtend, BitVec.getLsbD_signExtend]
  rw [if_pos hc, if_pos (by omega)]
  simp [hc]
  omega
theorem tbit_255 : ∀ c, c < 32 → tbit 255 c = decide (c < 8) := by decide +kernel
theorem chv_i8 (x : Int32) : chv x.toInt8.toInt32 = x &&& 255 := by
  refine tbit_ext (fun c hc => ?_)
  unfold chv
  rw [tbit_and, tbit_and, tbit_255 c hc]
  by_cases h : c < 8
  · rw [tbit_i8 x h]
  · simp [h]
theorem i2c_255 (x : Int32) : ((x &&& 255).toUInt32 % 65536).toInt32 = x &&& 255 := by
  obtain ⟨q, h1, h2⟩ := pk_andE x (m := 255) 8 (by decide)
  rw [h2, pk_char, pk_tn (by omega), Nat.mod_eq_of_lt (by omega)]
theorem vpc_255 (x : Int32) : vp_nar .char (x &&& 255) = x &&& 255 := by
  have := pk_vc (x &&& 255)
  rw [i2c_255] at this
  exact this
theorem th_w_sw {V : th_Vl} {a b k m : Nat} {x y z : Int32} (h : a ≠ b) : th_w (th_w (th_w V a k y) b m x) a k z = th_w (th_w V b m x) a k z := by
  funext c j
  simp only [th_w_if]
  by_cases h1 : c = a ∧ j = k
  · simp [h1]
  · by_cases h2 : c = b ∧ j = m
    · simp [h2]
    · simp [h1, h2]
section C9
variable {G : th_G} {l : Launch} {d : Nat} {N : Nat} {SH : Nat → Option th_K0} {V s : th_Vl}
theorem c_letterIn (S : th_S) (v : Int32) (k : Nat) : MT G l yX9_letterIn kX9_letterIn d 0 0 [.int v, .int (nI k)] S (th_is (bt v k &&& 255) S) := by
  refine MT.of (by decide) rfl rfl (n := 0) rfl (ls := [some (.int v), some (.int (nI k))]) rfl ?_
  refine ev_iload0 (q := 1) dX9_letterIn_0 rfl ?_
  refine ev_bipush (q := 3) (v := 8) dX9_letterIn_1 rfl rfl ?_
  refine ev_iload1 (q := 4) dX9_letterIn_3 rfl ?_
  refine ev_imul (q := 5) dX9_letterIn_4 rfl ?_
  refine ev_iushr (q := 6) dX9_letterIn_5 rfl ?_
  refine ev_sipush (q := 9) (v := 255) dX9_letterIn_6 rfl rfl ?_
  refine ev_iand (q := 10) dX9_letterIn_9 rfl ?_
  refine ev_i2c (q := 11) dX9_letterIn_10 rfl ?_
  show EV G l kX9_letterIn _ 0 0 11 _ [.int ((bt v k &&& 255).toUInt32 % 65536).toInt32] _ _
  exact ev_ireturn dX9_letterIn_11 rfl (pk_nc _) ⟨congrArg (fun z => some (Value.int z)) (i2c_255 _), rfl⟩
theorem c_lettersIn (S : th_S) (v : Int32) : MT G l yX9_lettersIn kX9_lettersIn (d + 1) 0 0 [.int v] S (th_is (nI (nb v)) S) := by
  refine MT.of (by decide) rfl rfl (n := 1) rfl (ls := [some (.int v), none]) rfl ?_
  have lp : ∀ i, i ≤ 4 → (∀ j, j < i → ¬ bt v j &&& 255 = 0) → EV G l kX9_lettersIn (d + 1) 0 0 2 [some (.int v), some (.int (nI i))] [] S (th_is (nI (nb v)) S) := by
    refine th_down 4 ?_ ?_
    · intro h
      have e := nb_is (v := v) (Nat.le_refl 4) h (Or.inl rfl)
      refine ev_iload1 (q := 3) dX9_lettersIn_2 rfl ?_
      refine ev_iconst (q := 4) (v := 4) dX9_lettersIn_3 rfl rfl ?_
      refine ev_icmp_ge (q := 7) (t := 23) dX9_lettersIn_4 rfl (by decide) (fun c => ?_) (fun c => ?_)
      · refine ev_iconst (q := 24) (v := 4) dX9_lettersIn_23 rfl rfl ?_
        exact ev_ireturn dX9_lettersIn_24 rfl rfl ⟨by rw [e]; rfl, rfl⟩
      · exact absurd (by decide) c
    · intro i hi ih h
      refine ev_iload1 (q := 3) dX9_lettersIn_2 rfl ?_
      refine ev_iconst (q := 4) (v := 4) dX9_lettersIn_3 rfl rfl ?_
      refine ev_icmp_ge (q := 7) (t := 23) dX9_lettersIn_4 rfl (by decide) (fun c => ?_) (fun c => ?_)
      · exact absurd c (nI_ge hi (by decide))
      · refine ev_iload0 (q := 8) dX9_lettersIn_7 rfl ?_
        refine ev_iload1 (q := 9) dX9_lettersIn_8 rfl ?_
        refine ev_cS (K := kX9_lettersIn) (pc := 9) (q := 12) (c_letterIn (d := d) S v i) dX9_lettersIn_9 l_X9_203 rfl (Nat.le_of_ble_eq_true rfl) (by omega) rfl rfl (fun r S1 hp => ?_)
        obtain ⟨rfl, rfl⟩ := hp
        refine ev_if_ne (q := 15) (t := 17) dX9_lettersIn_12 rfl (by decide) (fun c12 => ?_) (fun c12 => ?_)
        · refine ev_iinc1 (q := 20) dX9_lettersIn_17 rfl (by decide) rfl (nI_succ i).symm ?_
          refine ev_goto (q := 2) dX9_lettersIn_20 (by decide) ?_
          refine ih (fun j hj => ?_)
          rcases Nat.lt_or_ge j i with z | z
          · exact h j z
          · rw [show j = i by omega]; exact c12
        · have e := nb_is (v := v) (Nat.le_of_lt hi) h (Or.inr c12)
          refine ev_iload1 (q := 16) dX9_lettersIn_15 rfl ?_
          exact ev_ireturn dX9_lettersIn_16 rfl rfl ⟨by rw [e], rfl⟩
  refine ev_iconst (q := 1) (v := 0) dX9_lettersIn_0 rfl rfl ?_
  refine ev_istore1 (q := 2) dX9_lettersIn_1 rfl (by decide) rfl ?_
  exact lp 0 (by decide) (fun j hj => absurd hj (Nat.not_lt_zero _))
theorem c_tput {a b m : Nat} {f : Nat → Option Nat} (ha : SH a = some (.inr (8, f))) (hf : f 0 = some b) (hb : SH b = some (.inl (2, 60, th_no))) (hab : a ≠ b) (hm : V a 1 = nI m) (hm60 : m < 60) {x : Int32} (hx : vp_nar .char x = x) : MT G l yX8_put kX8_put d 0 0 [.ref a, .int x] (N, SH, V) (fun r S' => r = none ∧ S' = (N, SH, th_w (th_w V b m x) a 1 (nI (m + 1)))) := by
  refine MT.of (by decide) rfl rfl (n := 0) rfl (ls := [some (.ref a), some (.int x)]) rfl ?_
  refine ev_aload0 (q := 1) dX8_put_0 rfl ?_
  refine ev_getI (q := 4) dX8_put_1 g_X8_15 ha rfl rfl ?_
  refine ev_bipush (q := 6) (v := 60) dX8_put_4 rfl rfl ?_
  refine ev_icmp_ge (q := 9) (t := 29) dX8_put_6 rfl (by decide) (fun c6 => ?_) (fun c6 => ?_)
  · exact absurd (show (60 : Int32) ≤ V a 1 from c6) (by rw [hm]; exact nI_ge hm60 (by decide))
  · refine ev_aload0 (q := 10) dX8_put_9 rfl ?_
    refine ev_getR (q := 13) dX8_put_10 g_X8_9 ha rfl hf rfl ?_
    refine ev_aload0 (q := 14) dX8_put_13 rfl ?_
    refine ev_getI (q := 17) dX8_put_14 g_X8_15 ha rfl rfl ?_
    refine ev_iload1 (q := 18) dX8_put_17 rfl ?_
    refine ev_cast (q := 19) dX8_put_18 hb hm hm60 (by decide) rfl ?_
    rw [hx]
    show EV G l kX8_put _ 0 0 19 _ _ (N, SH, th_w V b m x) _
    have e : (th_w V b m x) a 1 = nI m := (congrFun (th_w_ne hab) 1).trans hm
    refine ev_aload0 (q := 20) dX8_put_19 rfl ?_
    refine ev_dup (q := 21) dX8_put_20 rfl rfl ?_
    refine ev_getI (q := 24) dX8_put_21 g_X8_15 ha rfl rfl ?_
    refine ev_iconst (q := 25) (v := 1) dX8_put_24 rfl rfl ?_
    refine ev_iadd (q := 26) dX8_put_25 rfl ?_
    show EV G l kX8_put _ 0 0 26 _ [.int (th_w V b m x a 1 + 1), .ref a] _ _
    rw [e, ← nI_succ]
    refine ev_putI (q := 29) dX8_put_26 (p_X8_15 _) ha rfl rfl rfl rfl ?_
    exact ev_return dX8_put_29 rfl ⟨rfl, rfl⟩
theorem c_feed (hC : CR N SH V s) (hb : bTp s) (v : Int32) : MT G l yX9_feed kX9_feed (d + 2) 0 0 [.ref 4, .int v] (N, SH, V) (CP N SH V (a_feed s v) (n_feed s v)) := by
  refine MT.of (by decide) rfl rfl (n := 2) rfl (ls := [some (.ref 4), some (.int v), none, none]) rfl ?_
  obtain ⟨rd, ld, eR, eL, hS, hN⟩ := hC
  have hW : wC SH := hS.1
  have h0 : 0 ≤ (s 36 10).toInt := hb.1
  have h60 : (s 36 10).toInt ≤ 60 := hb.2
  obtain ⟨t1, t2⟩ := hN.2.2.2.2.1
  have hT := th_self h0
  have hI := th_ixI h0
  have hn4 := nb_le v
  have hsum : s 36 10 + nI (nb v) = nI (ix (s 36 10) + nb v) := by rw [hT, nI_add, ← hT]
  have hsumI : (s 36 10 + nI (nb v)).toInt = (s 36 10).toInt + nb v := by
    rw [hsum, nI_toInt (by omega)]
    omega
  have hfull : (60 : Int32).toInt = 60 := by decide
  refine ev_iload1 (q := 1) dX9_feed_0 rfl ?_
  refine ev_cS (K := kX9_feed) (pc := 1) (q := 4) (c_lettersIn (d := d) _ v) dX9_feed_1 l_X9_197 rfl (Nat.le_of_ble_eq_true rfl) (by omega) rfl rfl (fun r S1 hp => ?_)
  obtain ⟨rfl, rfl⟩ := hp
  refine ev_istore2 (q := 5) dX9_feed_4 rfl (by decide) rfl ?_
  refine ev_aload0 (q := 6) dX9_feed_5 rfl ?_
  refine ev_getR (q := 9) dX9_feed_6 g_X9_43 (hW _ _ rfl) rfl rfl rfl ?_
  refine ev_getI (q := 12) dX9_feed_9 g_X9_200 (hW _ _ rfl) rfl rfl ?_
  refine ev_iload2 (q := 13) dX9_feed_12 rfl ?_
  refine ev_iadd (q := 14) dX9_feed_13 rfl ?_
  refine ev_bipush (q := 16) (v := 60) dX9_feed_14 rfl rfl ?_
  show EV G l kX9_feed _ 0 0 16 _ [.int 60, .int (V 27 1 + nI (nb v))] _ _
  rw [t1]
  refine ev_icmp_le (q := 19) (t := 22) dX9_feed_16 rfl (by decide) (fun c16 => ?_) (fun c16 => ?_)
  · have hle : (s 36 10).toInt + nb v ≤ 60 := by
      have := i_le.mp c16
      omega
    have ea : a_feed s v = s 36 10 + nI (nb v) := if_neg (Int.not_lt.mpr hle)
    have en : n_feed s v = th_w (th_seg s 45 (ix (s 36 10)) (nb v) (bB v)) 36 10 (s 36 10 + nI (nb v)) := if_neg (Int.not_lt.mpr hle)
    have lp : ∀ j, j ≤ nb v → EV G l kX9_feed (d + 2) 0 0 24 [some (.ref 4), some (.int v), some (.int (nI (nb v))), some (.int (nI j))] [] (N, SH, th_w (th_seg V 28 (ix (s 36 10)) j (fun k => bt v k &&& 255)) 27 1 (nI (ix (s 36 10) + j))) (CP N SH V (a_feed s v) (n_feed s v)) := by
      refine th_down _ ?_ ?_
      · refine ev_iload3 (q := 25) dX9_feed_24 rfl ?_
        refine ev_iload2 (q := 26) dX9_feed_25 rfl ?_
        refine ev_icmp_ge (q := 29) (t := 47) dX9_feed_26 rfl (by decide) (fun c => ?_) (fun c => ?_)
        · refine ev_aload0 (q := 48) dX9_feed_47 rfl ?_
          refine ev_getR (q := 51) dX9_feed_48 g_X9_43 (hW _ _ rfl) rfl rfl rfl ?_
          refine ev_getI (q := 54) dX9_feed_51 g_X9_200 (hW _ _ rfl) rfl rfl ?_
          rw [en]
          have fin : RN (th_w (th_seg V 28 (ix (s 36 10)) (nb v) (fun k => bt v k &&& 255)) 27 1 (nI (ix (s 36 10) + nb v))) (th_w (th_seg s 45 (ix (s 36 10)) (nb v) (bB v)) 36 10 (s 36 10 + nI (nb v))) (ix (s 36 6)) (ix (s 36 11)) rd ld := by
            refine RN.T hS hN (fun a h1 h2 => by rw [th_w_ne h1, th_seg_ne h2]) (fun a h1 h2 => by rw [th_w_ne h1, th_seg_ne h2]) (fun k hk => by rw [th_w_j hk, th_seg_ne (by decide)]) ⟨?_, fun k hk => ?_⟩
            · rw [th_w_if, if_pos ⟨rfl, rfl⟩, th_w_if, if_pos ⟨rfl, rfl⟩, hsum]
            · have ei : ix (nI (ix (s 36 10) + nb v)) = ix (s 36 10) + nb v := nI_clamp (by omega)
              rw [th_w_if, if_pos ⟨rfl, rfl⟩, hsum, ei] at hk
              rw [th_w_ne (by decide), th_w_ne (by decide)]
              by_cases hk2 : k < ix (s 36 10)
              · rw [th_seg_out (Or.inl hk2), th_seg_out (Or.inl hk2)]
                exact t2 k hk2
              · rw [th_seg_in (by omega) (by omega), th_seg_in (by omega) (by omega), bB, chv_i8]
          exact ev_ireturn dX9_feed_54 rfl rfl (CP.mk _ (ea.trans hsum) hS rfl rfl rfl rfl fin ((FC.rf.sg (by decide)).w (by decide)))
        · exact absurd (Int32.le_refl _) c
      · intro j hj ih
        refine ev_iload3 (q := 25) dX9_feed_24 rfl ?_
        refine ev_iload2 (q := 26) dX9_feed_25 rfl ?_
        refine ev_icmp_ge (q := 29) (t := 47) dX9_feed_26 rfl (by decide) (fun c => ?_) (fun c => ?_)
        · exact absurd c (nI_ge hj (by omega))
        · refine ev_aload0 (q := 30) dX9_feed_29 rfl ?_
          refine ev_getR (q := 33) dX9_feed_30 g_X9_43 (hW _ _ rfl) rfl rfl rfl ?_
          refine ev_iload1 (q := 34) dX9_feed_33 rfl ?_
          refine ev_iload3 (q := 35) dX9_feed_34 rfl ?_
          refine ev_cS (K := kX9_feed) (pc := 35) (q := 38) (c_letterIn (d := d) _ v j) dX9_feed_35 l_X9_203 rfl (Nat.le_of_ble_eq_true rfl) (by omega) rfl rfl (fun r S1 hp => ?_)
          obtain ⟨rfl, rfl⟩ := hp
          refine ev_cV (K := kX9_feed) (pc := 38) (q := 41) (c_tput (d := d) (a := 27) (b := 28) (m := ix (s 36 10) + j) (hW _ _ rfl) rfl (hW _ _ rfl) (by decide) rfl (by omega) (vpc_255 _)) dX9_feed_38 l_X9_207 (hW _ _ rfl) rfl rfl (Nat.le_of_ble_eq_true rfl) (by omega) rfl rfl (fun r S1 hp => ?_)
          obtain ⟨rfl, rfl⟩ := hp
          rw [th_w_sw (by decide), th_seg_s (f := fun k => bt v k &&& 255)]
          refine ev_iinc3 (q := 44) dX9_feed_41 rfl (by decide) rfl (nI_succ j).symm ?_
          refine ev_goto (q := 24) dX9_feed_44 (by decide) ?_
          exact ih
    refine ev_iconst (q := 23) (v := 0) dX9_feed_22 rfl rfl ?_
    refine ev_istore3 (q := 24) dX9_feed_23 rfl (by decide) rfl ?_
    have hh := lp 0 (Nat.zero_le _)
    rw [th_seg_0] at hh
    have e : th_w V 27 1 (nI (ix (s 36 10) + 0)) = V := by
      funext a k
      rw [th_w_if]
      split
      · rename_i h
        rw [h.1, h.2, t1, Nat.add_zero, ← hT]
      · rfl
    rw [e] at hh
    exact hh
  · have hgt : 60 < (s 36 10).toInt + nb v := by
      have := i_nle c16
      omega
    refine ev_bipush (q := 21) (v := (-2)) dX9_feed_19 rfl rfl ?_
    exact ev_ireturn dX9_feed_21 rfl rfl (CP.no hS hN (if_pos hgt) (if_pos hgt))
end C9
