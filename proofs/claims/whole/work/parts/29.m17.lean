/-! the reference: fire, raw, the constructor -/
theorem f50_res {V : th_Vl} : f50 (res V) = f50 V := by
  funext k
  unfold f50
  rw [tvB_res]
  rfl
theorem f51_res {V : th_Vl} : f51 (res V) = f51 V := by
  funext k
  unfold f51
  rw [pas_res]
  rfl
theorem f52_res {V : th_Vl} : f52 (res V) = f52 V := by
  funext k
  unfold f52
  rw [pas_res]
  rfl
theorem f53_res {V : th_Vl} : f53 (res V) = f53 V := by
  funext L k
  unfold f53
  rw [pas_res, kpc_res]
  rfl
theorem lk1_s {U V : th_Vl} {L : Nat} : lk1 U (res V) L = lk1 U V L := by
  unfold lk1
  rw [f50_res, f51_res]
theorem lk2_s {U V : th_Vl} {L : Nat} : lk2 U (res V) L = lk2 U V L := by
  unfold lk2
  rw [lk1_s, kpc_res, brc_res]
  rfl
theorem lk3_s {U V : th_Vl} {L k : Nat} : lk3 U (res V) L k = lk3 U V L k := by
  unfold lk3
  rw [lk2_s, f52_res, f53_res]
theorem lk5_s {U V : th_Vl} {L : Nat} : lk5 U (res V) L = lk5 U V L := by
  unfold lk5 lk4
  rw [lk3_s, pas_res]
  rfl
theorem nlook_res {V : th_Vl} : n_look (res V) = res (n_look V) := by
  have e : ix (res V 36 11) = ix (V 36 11) := rfl
  unfold n_look
  rw [e, kpc_res, brc_res]
  split
  · rw [lk2_s, lk2_res]
  · rw [lk5_s, lk5_res]
theorem alook_res {V : th_Vl} : a_look (res V) = a_look V := by
  have e : ix (res V 36 11) = ix (V 36 11) := rfl
  unfold a_look
  rw [e, kpc_res, brc_res, pas_res]
theorem nlook_came {V : th_Vl} : n_look V 36 20 = V 36 20 := by
  unfold n_look
  split
  · rw [lk2_fld (by decide)]
  · unfold lk5
    rw [th_w_j (by decide), th_w_j (by decide), lk4_row (by decide), lk3_row (by decide), lk2_fld (by decide)]
theorem th_seg_back {W : th_Vl} {a m : Nat} {f g : Nat → Int32} (h : ∀ j, j < m → g j = W a j) : th_seg (th_seg W a 0 m f) a 0 m g = W := by
  funext b j
  unfold th_seg
  by_cases h1 : b = a ∧ 0 ≤ j ∧ j < 0 + m
  · rw [if_pos h1, h1.1, Nat.sub_zero]
    exact h j (by omega)
  · rw [if_neg h1, if_neg h1]
def rwh (s : th_Vl) (k : Int32) : th_Vl := th_seg s 40 0 5 (fun j => s 56 (5 * rat s k + j))
def a_raw (s : th_Vl) (k w : Int32) : Int32 := if ¬ (inR k 0 (rws s - 1).toInt ∧ inR w 0 7) then -1 else if w = 0 then s 54 (rat s k) else if w = 1 then s 55 (rat s k) else if w.toInt < 7 then s 56 (5 * rat s k + ix w - 2) else hld (rwh s k)
section M17
variable {G : th_G} {l : Launch} {d : Nat} {n : Nat} {SH : Nat → Option th_K0} {V : th_Vl}
theorem noh_res {V : th_Vl} : res (n_noh V) = n_noh (res V) := res_seg (fun _ => rfl)
theorem m_fire (hW : wM SH) (hb : bRo (res V)) (hl : bLi (res V)) (he : bLe (res V)) (hv : bEv V) (hsh : bSh V) (hkp : bKp V) : MT G l yX10_fire kX10_fire (d + 258) 0 0 [.ref 36] (n, SH, V) (MP n SH V (a_fire (res V)) (n_fire (res V))) := by
  refine MT.of (by decide) rfl rfl (n := 1) rfl (ls := [some (.ref 36), none]) rfl ?_
  have tail : ∀ (U : th_Vl) (x : Int32), FM V U → U 36 20 = V 36 20 → x = a_fire (res V) → res U = (if 0 < (res V 36 25).toInt then th_w (th_w (res V) 36 25 (res V 36 25 - 1)) 36 21 (res V 36 21 + 1) else n_look (res V)) → EV G l kX10_fire (d + 258) 0 0 37 [some (.ref 36), some (.int x)] [] (n, SH, U) (MP n SH V (a_fire (res V)) (n_fire (res V))) := by
    intro U x hF hc hx hr
    refine ev_aload0 (q := 38) dX10_fire_37 rfl ?_
    refine ev_dup (q := 39) dX10_fire_38 rfl rfl ?_
    refine ev_getI (q := 42) dX10_fire_39 g_X10_226 (hW _ _ rfl) rfl rfl ?_
    refine ev_iconst (q := 43) (v := 1) dX10_fire_42 rfl rfl ?_
    refine ev_iadd (q := 44) dX10_fire_43 rfl ?_
    refine ev_putI (q := 47) dX10_fire_44 (p_X10_226 _) (hW _ _ rfl) rfl rfl rfl rfl ?_
    refine ev_aload0 (q := 48) dX10_fire_47 rfl ?_
    show EV G l kX10_fire _ 0 0 48 _ _ (n, SH, th_w U 36 20 (U 36 20 + 1)) _
    rw [hc]
    refine ev_cV (K := kX10_fire) (pc := 48) (q := 51) (m_noHits (d := d) hW) dX10_fire_48 l_X10_241 (hW _ _ rfl) rfl rfl (Nat.le_of_ble_eq_true rfl) (by omega) rfl rfl (fun r S1 hp => ?_)
    obtain ⟨rfl, rfl⟩ := hp
    refine ev_iload1 (q := 52) dX10_fire_51 rfl ?_
    exact ev_ireturn dX10_fire_52 rfl rfl (MP.mk _ hx.symm (by rw [n_fire, noh_res, res_w (by rfl), hr]; rfl) ((hF.w (by decide)).sg (by decide)))
  refine ev_iconst (q := 1) (v := (-1)) dX10_fire_0 rfl rfl ?_
  refine ev_istore1 (q := 2) dX10_fire_1 rfl (by decide) rfl ?_
  refine ev_aload0 (q := 3) dX10_fire_2 rfl ?_
  refine ev_getI (q := 6) dX10_fire_3 g_X10_232 (hW _ _ rfl) rfl rfl ?_
  refine ev_if_le (q := 9) (t := 32) dX10_fire_6 rfl (by decide) (fun c6 => ?_) (fun c6 => ?_)
  · have c6 : ¬ 0 < (res V 36 25).toInt := Int.not_lt.mpr (i_le.mp c6)
    refine ev_aload0 (q := 33) dX10_fire_32 rfl ?_
    refine ev_cV (K := kX10_fire) (pc := 33) (q := 36) (m_look (d := d) hW hb hl he hv hsh hkp) dX10_fire_33 l_X10_238 (hW _ _ rfl) rfl rfl (Nat.le_of_ble_eq_true rfl) (Nat.le_refl _) rfl rfl (fun r S1 hp => ?_)
    obtain ⟨U, rfl, rfl, hU1, hU2⟩ := hp
    refine ev_istore1 (q := 37) dX10_fire_36 rfl (by decide) rfl ?_
    refine tail U _ hU2 ?_ (by rw [a_fire, if_neg c6, alook_res]) (by rw [if_neg c6, nlook_res]; exact hU1)
    have e : res U 36 20 = res (n_look V) 36 20 := by rw [hU1]
    have e : U 36 20 = n_look V 36 20 := e
    rw [e, nlook_came]
  · have c6 : 0 < (res V 36 25).toInt := i_nle c6
    refine ev_aload0 (q := 10) dX10_fire_9 rfl ?_
    refine ev_dup (q := 11) dX10_fire_10 rfl rfl ?_
    refine ev_getI (q := 14) dX10_fire_11 g_X10_232 (hW _ _ rfl) rfl rfl ?_
    refine ev_iconst (q := 15) (v := 1) dX10_fire_14 rfl rfl ?_
    refine ev_isub (q := 16) dX10_fire_15 rfl ?_
    refine ev_putI (q := 19) dX10_fire_16 (p_X10_232 _) (hW _ _ rfl) rfl rfl rfl rfl ?_
    refine ev_aload0 (q := 20) dX10_fire_19 rfl ?_
    refine ev_dup (q := 21) dX10_fire_20 rfl rfl ?_
    refine ev_getI (q := 24) dX10_fire_21 g_X10_235 (hW _ _ rfl) rfl rfl ?_
    refine ev_iconst (q := 25) (v := 1) dX10_fire_24 rfl rfl ?_
    refine ev_iadd (q := 26) dX10_fire_25 rfl ?_
    refine ev_putI (q := 29) dX10_fire_26 (p_X10_235 _) (hW _ _ rfl) rfl rfl rfl rfl ?_
    refine ev_goto (q := 37) dX10_fire_29 (by decide) ?_
    exact tail (th_w (th_w V 36 25 (V 36 25 - 1)) 36 21 (V 36 21 + 1)) (-1) ((FM.rf.w (by decide)).w (by decide)) rfl (by rw [a_fire, if_pos c6]) (by rw [if_pos c6, res_w (by rfl), res_w (by rfl)]; rfl)
theorem m_raw (hW : wM SH) (hb : bRo (res V)) (hl : bLi (res V)) (he : bLe (res V)) (hv : bEv V) (hkp : bKp (res V)) (k w : Int32) : MT G l yX10_raw kX10_raw (d + 257) 0 0 [.ref 36, .int k, .int w] (n, SH, V) (MP n SH V (a_raw (res V) k w) (res V)) := by
  refine MT.of (by decide) rfl rfl (n := 3) rfl (ls := [some (.ref 36), some (.int k), some (.int w), none, none, none]) rfl ?_
  refine ev_iload1 (q := 1) dX10_raw_0 rfl ?_
  refine ev_i2l (q := 2) dX10_raw_1 rfl ?_
  refine ev_lconst (q := 3) (v := 0) dX10_raw_2 rfl rfl ?_
  refine ev_aload0 (q := 4) dX10_raw_3 rfl ?_
  refine ev_cV (K := kX10_raw) (pc := 4) (q := 7) (m_raws hW) dX10_raw_4 l_X10_246 (hW _ _ rfl) rfl rfl (Nat.le_of_ble_eq_true rfl) (Nat.le_refl _) rfl rfl (fun r S1 hp => ?_)
  obtain ⟨rfl, rfl⟩ := hp
  refine ev_iconst (q := 8) (v := 1) dX10_raw_7 rfl rfl ?_
  refine ev_isub (q := 9) dX10_raw_8 rfl ?_
  refine ev_i2l (q := 10) dX10_raw_9 rfl ?_
  refine ev_cS (K := kX10_raw) (pc := 10) (q := 13) (m_inI _ _ _ l_0 th_64) dX10_raw_10 l_X10_95 rfl (Nat.le_of_ble_eq_true rfl) (Nat.le_refl _) rfl rfl (fun r S1 hp => ?_)
  rcases hp with ⟨rfl, ⟨hp10, rfl⟩ | ⟨hp10, rfl⟩⟩
  · refine ev_if_eq (q := 16) (t := 28) dX10_raw_13 rfl (by decide) (fun c13 => ?_) (fun c13 => ?_)
    · exact absurd c13 (by decide)
    · refine ev_iload2 (q := 17) dX10_raw_16 rfl ?_
      refine ev_i2l (q := 18) dX10_raw_17 rfl ?_
      refine ev_lconst (q := 19) (v := 0) dX10_raw_18 rfl rfl ?_
      refine ev_ldc2 (q := 22) dX10_raw_19 q_X10_249 rfl ?_
      refine ev_cS (K := kX10_raw) (pc := 22) (q := 25) (m_inI _ _ _ l_0 l_7) dX10_raw_22 l_X10_95 rfl (Nat.le_of_ble_eq_true rfl) (Nat.le_refl _) rfl rfl (fun r S1 hp => ?_)
      rcases hp with ⟨rfl, ⟨hp22, rfl⟩ | ⟨hp22, rfl⟩⟩
      · refine ev_if_ne (q := 28) (t := 30) dX10_raw_25 rfl (by decide) (fun c25 => ?_) (fun c25 => ?_)
        · have hok : ¬ ¬ (inR k 0 (rws (res V) - 1).toInt ∧ inR w 0 7) := not_not_intro ⟨hp10, hp22⟩
          have hr := isRw_lt hkp hp10
          have hKe : V 36 22 = nI (ix (V 36 22)) := th_self (Int.le_trans hr.1 (Int.le_of_lt hr.2.1))
          have hjK : ix k < ix (V 36 22) := by
            have h1 := th_ixI hr.1
            have h2 := th_ixI (x := V 36 22) (Int.le_trans hr.1 (Int.le_of_lt hr.2.1))
            have h3 : k.toInt < (V 36 22).toInt := hr.2.1
            omega
          have hK2 : ix (V 36 22) < 2 ^ 31 := by
            have := Int32.toInt_lt (V 36 22)
            have h2 := th_ixI (x := V 36 22) (Int.le_trans hr.1 (Int.le_of_lt hr.2.1))
            omega
          refine ev_aload0 (q := 31) dX10_raw_30 rfl ?_
          refine ev_iload1 (q := 32) dX10_raw_31 rfl ?_
          refine ev_cV (K := kX10_raw) (pc := 32) (q := 35) (m_rawAt hW hK2 hKe (th_self hr.1) hjK) dX10_raw_32 l_X10_251 (hW _ _ rfl) rfl rfl (Nat.le_of_ble_eq_true rfl) (Nat.le_refl _) rfl rfl (fun r S1 hp => ?_)
          obtain ⟨rfl, rfl⟩ := hp
          show EV G l kX10_raw _ 0 0 35 _ [.int (nI (rat V k))] _ _
          have hrl : rat V k < 30 := rat_lt
          refine ev_istore3 (q := 36) dX10_raw_35 rfl (by decide) rfl ?_
          refine ev_iload2 (q := 37) dX10_raw_36 rfl ?_
          refine ev_if_ne (q := 40) (t := 47) dX10_raw_37 rfl (by decide) (fun c37 => ?_) (fun c37 => ?_)
          · refine ev_iload2 (q := 48) dX10_raw_47 rfl ?_
            refine ev_iconst (q := 49) (v := 1) dX10_raw_48 rfl rfl ?_
            refine ev_icmp_ne (q := 52) (t := 59) dX10_raw_49 rfl (by decide) (fun c49 => ?_) (fun c49 => ?_)
            · have hwI := th_ixI hp22.1
              have hw2 : 2 ≤ ix w := by
                have h1 := th_ne c37
                have h2 := th_ne c49
                have e0 : (0 : Int32).toInt = 0 := by decide
                have e1 : (1 : Int32).toInt = 1 := by decide
                omega
              refine ev_iload2 (q := 60) dX10_raw_59 rfl ?_
              refine ev_bipush (q := 62) (v := 7) dX10_raw_60 rfl rfl ?_
              refine ev_icmp_ge (q := 65) (t := 78) dX10_raw_62 rfl (by decide) (fun c62 => ?_) (fun c62 => ?_)
              · have c62 : ¬ w.toInt < 7 := Int.not_lt.mpr (i_le.mp c62)
                have lb : ∀ (Y : th_Vl) (x : Int32), frA (th_seg (th_seg V 63 0 5 (V 40)) 40 0 5 (fun j => V 56 (5 * rat V k + j))) Y → x = hld (rwh (res V) k) → ∀ j, j ≤ 5 → EV G l kX10_raw (d + 257) 0 0 134 [some (.ref 36), some (.int k), some (.int w), some (.int (nI (rat V k))), some (.int x), some (.int (nI j))] [] (n, SH, th_seg Y 40 0 j (V 40)) (MP n SH V (a_raw (res V) k w) (res V)) := by
                  intro Y x hY hx
                  refine th_down 5 ?_ ?_
                  · refine ev_iload5 (q := 136) dX10_raw_134 rfl ?_
                    refine ev_iconst (q := 137) (v := 5) dX10_raw_136 rfl rfl ?_
                    refine ev_icmp_ge (q := 140) (t := 160) dX10_raw_137 rfl (by decide) (fun c137 => ?_) (fun c137 => ?_)
                    · refine ev_iload4 (q := 162) dX10_raw_160 rfl ?_
                      exact ev_ireturn dX10_raw_162 rfl rfl (MP.mk _ (((if_neg hok).trans ((if_neg c37).trans ((if_neg c49).trans (if_neg c62)))).trans hx.symm) (by rw [res_seg (fun _ => rfl), hY.resE, res_seg (fun _ => rfl), res_sg (fun _ => rfl)]; exact (th_seg_back (fun j _ => rfl)).symm) (((FM.tr ((FM.rf.sg (by decide)).sg (by decide)) hY.FM)).sg (by decide)))
                    · exact absurd (by decide) c137
                  · intro j hj ih
                    have e63 : th_seg Y 40 0 j (V 40) 63 j = V 40 j := by
                      rw [th_seg_ne (by decide), hY.row (by decide), th_seg_ne (by decide), th_seg_in (by omega) (by omega), Nat.sub_zero]
                    rw [← th_seg_s0, ← e63] at ih
                    refine ev_iload5 (q := 136) dX10_raw_134 rfl ?_
                    refine ev_iconst (q := 137) (v := 5) dX10_raw_136 rfl rfl ?_
                    refine ev_icmp_ge (q := 140) (t := 160) dX10_raw_137 rfl (by decide) (fun c137 => ?_) (fun c137 => ?_)
                    · exact absurd c137 (nI_ge hj (by decide))
                    · refine ev_aload0 (q := 141) dX10_raw_140 rfl ?_
                      refine ev_getR (q := 144) dX10_raw_141 g_X10_19 (hW _ _ rfl) rfl rfl rfl ?_
                      refine ev_iload5 (q := 146) dX10_raw_144 rfl ?_
                      refine ev_aload0 (q := 147) dX10_raw_146 rfl ?_
                      refine ev_getR (q := 150) dX10_raw_147 g_X10_90 (hW _ _ rfl) rfl rfl rfl ?_
                      refine ev_iload5 (q := 152) dX10_raw_150 rfl ?_
                      refine ev_iald (q := 153) dX10_raw_152 (hW _ _ rfl) rfl hj (by decide) rfl ?_
                      refine ev_iast (q := 154) dX10_raw_153 (hW _ _ rfl) rfl hj (by decide) rfl ?_
                      refine ev_iinc5 (q := 157) dX10_raw_154 rfl (by decide) rfl (nI_succ j).symm ?_
                      refine ev_goto (q := 134) dX10_raw_157 (by decide) ?_
                      exact ih
                have la : ∀ j, j ≤ 5 → EV G l kX10_raw (d + 257) 0 0 81 [some (.ref 36), some (.int k), some (.int w), some (.int (nI (rat V k))), some (.int (nI j)), none] [] (n, SH, th_seg (th_seg V 63 0 j (V 40)) 40 0 j (fun j => V 56 (5 * rat V k + j))) (MP n SH V (a_raw (res V) k w) (res V)) := by
                  refine th_down 5 ?_ ?_
                  · have eU : res (th_seg (th_seg V 63 0 5 (V 40)) 40 0 5 (fun j => V 56 (5 * rat V k + j))) = rwh (res V) k := by
                      rw [res_seg (fun _ => rfl), res_sg (fun _ => rfl)]
                      rfl
                    have hvU : bEv (th_seg (th_seg V 63 0 5 (V 40)) 40 0 5 (fun j => V 56 (5 * rat V k + j))) := by
                      intro q hq A
                      have e1 : th_seg (th_seg V 63 0 5 (V 40)) 40 0 5 (fun j => V 56 (5 * rat V k + j)) 36 = V 36 := by rw [th_seg_ne (by decide), th_seg_ne (by decide)]
                      have e2 : lt (th_seg (th_seg V 63 0 5 (V 40)) 40 0 5 (fun j => V 56 (5 * rat V k + j))) q = lt V q := by
                        funext p
                        unfold lt
                        rw [th_seg_ne (by decide), th_seg_ne (by decide), th_seg_ne (by decide), th_seg_ne (by decide)]
                      rw [e1] at hq
                      rw [e2]
                      exact hv q hq A
                    have hbU : ∀ {P : th_Vl → Prop}, P (rwh (res V) k) → P (res (th_seg (th_seg V 63 0 5 (V 40)) 40 0 5 (fun j => V 56 (5 * rat V k + j)))) := fun h => by rw [eU]; exact h
                    have rM : rwh (res V) k 36 = res V 36 := th_seg_ne (by decide)
                    have rL : rwh (res V) k 47 = res V 47 := th_seg_ne (by decide)
                    refine ev_iload4 (q := 83) dX10_raw_81 rfl ?_
                    refine ev_iconst (q := 84) (v := 5) dX10_raw_83 rfl rfl ?_
                    refine ev_icmp_ge (q := 87) (t := 125) dX10_raw_84 rfl (by decide) (fun c84 => ?_) (fun c84 => ?_)
                    · refine ev_aload0 (q := 126) dX10_raw_125 rfl ?_
                      refine ev_cV (K := kX10_raw) (pc := 126) (q := 129) (m_holding (d := d) hW (hbU (P := bRo) (by rw [bRo, rM]; exact hb)) (hbU (P := bLi) (by rw [bLi, rM]; exact hl)) (hbU (P := bLe) (by unfold bLe; rw [rL]; exact he)) hvU) dX10_raw_126 l_X10_217 (hW _ _ rfl) rfl rfl (Nat.le_of_ble_eq_true rfl) (Nat.le_refl _) rfl rfl (fun r S1 hp => ?_)
                      obtain ⟨rfl, Y, rfl, hY⟩ := hp
                      refine ev_istore4 (q := 131) dX10_raw_129 rfl (by decide) rfl ?_
                      refine ev_iconst (q := 132) (v := 0) dX10_raw_131 rfl rfl ?_
                      refine ev_istore5 (q := 134) dX10_raw_132 rfl (by decide) rfl ?_
                      have h := lb Y (hld (th_seg (th_seg V 63 0 5 (V 40)) 40 0 5 (fun j => V 56 (5 * rat V k + j)))) hY (by rw [← eU, hld_res]) 0 (by decide)
                      rw [th_seg_0] at h
                      exact h
                    · exact absurd (by decide) c84
                  · intro j hj ih
                    have e40 : th_seg (th_seg V 63 0 j (V 40)) 40 0 j (fun j => V 56 (5 * rat V k + j)) 40 j = V 40 j := by
                      rw [th_seg_out (by omega), th_seg_ne (by decide)]
                    have e56 : th_seg (th_seg V 63 0 (j + 1) (V 40)) 40 0 j (fun j => V 56 (5 * rat V k + j)) 56 = V 56 := by
                      rw [th_seg_ne (by decide), th_seg_ne (by decide)]
                    refine ev_iload4 (q := 83) dX10_raw_81 rfl ?_
                    refine ev_iconst (q := 84) (v := 5) dX10_raw_83 rfl rfl ?_
                    refine ev_icmp_ge (q := 87) (t := 125) dX10_raw_84 rfl (by decide) (fun c84 => ?_) (fun c84 => ?_)
                    · exact absurd c84 (nI_ge hj (by decide))
                    · refine ev_aload0 (q := 88) dX10_raw_87 rfl ?_
                      refine ev_getR (q := 91) dX10_raw_88 g_X10_90 (hW _ _ rfl) rfl rfl rfl ?_
                      refine ev_iload4 (q := 93) dX10_raw_91 rfl ?_
                      refine ev_aload0 (q := 94) dX10_raw_93 rfl ?_
                      refine ev_getR (q := 97) dX10_raw_94 g_X10_19 (hW _ _ rfl) rfl rfl rfl ?_
                      refine ev_iload4 (q := 99) dX10_raw_97 rfl ?_
                      refine ev_iald (q := 100) dX10_raw_99 (hW _ _ rfl) rfl hj (by decide) rfl ?_
                      refine ev_iast (q := 101) dX10_raw_100 (hW _ _ rfl) rfl hj (by decide) rfl ?_
                      show EV G l kX10_raw _ 0 0 101 _ _ (n, SH, th_w (th_seg (th_seg V 63 0 j (V 40)) 40 0 j (fun j => V 56 (5 * rat V k + j))) 63 j (th_seg (th_seg V 63 0 j (V 40)) 40 0 j (fun j => V 56 (5 * rat V k + j)) 40 j)) _
                      rw [e40, th_w_seg (by decide), th_seg_s0]
                      refine ev_aload0 (q := 102) dX10_raw_101 rfl ?_
                      refine ev_getR (q := 105) dX10_raw_102 g_X10_19 (hW _ _ rfl) rfl rfl rfl ?_
                      refine ev_iload4 (q := 107) dX10_raw_105 rfl ?_
                      refine ev_aload0 (q := 108) dX10_raw_107 rfl ?_
                      refine ev_getR (q := 111) dX10_raw_108 g_X10_69 (hW _ _ rfl) rfl rfl rfl ?_
                      refine ev_iconst (q := 112) (v := 5) dX10_raw_111 rfl rfl ?_
                      refine ev_iload3 (q := 113) dX10_raw_112 rfl ?_
                      refine ev_imul (q := 114) dX10_raw_113 rfl ?_
                      refine ev_iload4 (q := 116) dX10_raw_114 rfl ?_
                      refine ev_iadd (q := 117) dX10_raw_116 rfl ?_
                      refine ev_iald (q := 118) dX10_raw_117 (hW _ _ rfl) (th_5 rfl rfl) (by omega) (by decide) rfl ?_
                      refine ev_iast (q := 119) dX10_raw_118 (hW _ _ rfl) rfl hj (by decide) rfl ?_
                      refine ev_iinc4 (q := 122) dX10_raw_119 rfl (by decide) rfl (nI_succ j).symm ?_
                      refine ev_goto (q := 81) dX10_raw_122 (by decide) ?_
                      show EV G l kX10_raw _ 0 0 81 _ _ (n, SH, th_w (th_seg (th_seg V 63 0 (j + 1) (V 40)) 40 0 j (fun j => V 56 (5 * rat V k + j))) 40 j (th_seg (th_seg V 63 0 (j + 1) (V 40)) 40 0 j (fun j => V 56 (5 * rat V k + j)) 56 (5 * rat V k + j))) _
                      rw [e56, th_seg_s0 (f := fun j => V 56 (5 * rat V k + j))]
                      exact ih
                refine ev_iconst (q := 79) (v := 0) dX10_raw_78 rfl rfl ?_
                refine ev_istore4 (q := 81) dX10_raw_79 rfl (by decide) rfl ?_
                have h := la 0 (by decide)
                rw [th_seg_0, th_seg_0] at h
                exact h
              · have c62 : w.toInt < 7 := i_nle c62
                have ei : 5 * nI (rat V k) + w - 2 = nI (5 * rat V k + ix w - 2) := by
                  rw [th_5 rfl (th_self hp22.1), show (2 : Int32) = nI 2 from rfl, pk_sub (by omega)]
                refine ev_aload0 (q := 66) dX10_raw_65 rfl ?_
                refine ev_getR (q := 69) dX10_raw_66 g_X10_69 (hW _ _ rfl) rfl rfl rfl ?_
                refine ev_iconst (q := 70) (v := 5) dX10_raw_69 rfl rfl ?_
                refine ev_iload3 (q := 71) dX10_raw_70 rfl ?_
                refine ev_imul (q := 72) dX10_raw_71 rfl ?_
                refine ev_iload2 (q := 73) dX10_raw_72 rfl ?_
                refine ev_iadd (q := 74) dX10_raw_73 rfl ?_
                refine ev_iconst (q := 75) (v := 2) dX10_raw_74 rfl rfl ?_
                refine ev_isub (q := 76) dX10_raw_75 rfl ?_
                refine ev_iald (q := 77) dX10_raw_76 (hW _ _ rfl) ei (by omega) (by decide) rfl ?_
                exact ev_ireturn dX10_raw_77 rfl rfl (MP.mk _ ((if_neg hok).trans ((if_neg c37).trans ((if_neg c49).trans (if_pos c62)))) rfl FM.rf)
            · refine ev_aload0 (q := 53) dX10_raw_52 rfl ?_
              refine ev_getR (q := 56) dX10_raw_53 g_X10_66 (hW _ _ rfl) rfl rfl rfl ?_
              refine ev_iload3 (q := 57) dX10_raw_56 rfl ?_
              refine ev_iald (q := 58) dX10_raw_57 (hW _ _ rfl) rfl hrl (by decide) rfl ?_
              exact ev_ireturn dX10_raw_58 rfl rfl (MP.mk _ ((if_neg hok).trans ((if_neg c37).trans (if_pos c49))) rfl FM.rf)
          · refine ev_aload0 (q := 41) dX10_raw_40 rfl ?_
            refine ev_getR (q := 44) dX10_raw_41 g_X10_63 (hW _ _ rfl) rfl rfl rfl ?_
            refine ev_iload3 (q := 45) dX10_raw_44 rfl ?_
            refine ev_iald (q := 46) dX10_raw_45 (hW _ _ rfl) rfl hrl (by decide) rfl ?_
            exact ev_ireturn dX10_raw_46 rfl rfl (MP.mk _ ((if_neg hok).trans (if_pos c37)) rfl FM.rf)
        · exact absurd c25 (by decide)
      · refine ev_if_ne (q := 28) (t := 30) dX10_raw_25 rfl (by decide) (fun c25 => ?_) (fun c25 => ?_)
        · exact absurd c25 (by decide)
        · refine ev_iconst (q := 29) (v := (-1)) dX10_raw_28 rfl rfl ?_
          exact ev_ireturn dX10_raw_29 rfl rfl (MP.mk _ (if_pos (fun z => hp22 z.2)) rfl FM.rf)
  · refine ev_if_eq (q := 16) (t := 28) dX10_raw_13 rfl (by decide) (fun c13 => ?_) (fun c13 => ?_)
    · refine ev_iconst (q := 29) (v := (-1)) dX10_raw_28 rfl rfl ?_
      exact ev_ireturn dX10_raw_29 rfl rfl (MP.mk _ (if_pos (fun z => hp10 z.1)) rfl FM.rf)
    · exact absurd c13 (by decide)
end M17
