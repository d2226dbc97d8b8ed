theorem rFig_le {f : Nat → Int32} {m p : Nat} (hp : p ≤ m) : (rFig f m p).2.1 ≤ m := by
  have a1 : (rNum f m 0 9 p).2.1 ≤ m := rNum_le hp
  have a2 : (rSign f m 44 (rNum f m 0 9 p).2.1).2 ≤ m := rSign_le (by decide) a1
  have a3 : (rNum f m 1 9 (rSign f m 44 (rNum f m 0 9 p).2.1).2).2.1 ≤ m := rNum_le a2
  have a4 : (rSign f m 44 (rNum f m 1 9 (rSign f m 44 (rNum f m 0 9 p).2.1).2).2.1).2 ≤ m := rSign_le (by decide) a3
  have a5 : (rNum f m 0 9 (rSign f m 44 (rNum f m 1 9 (rSign f m 44 (rNum f m 0 9 p).2.1).2).2.1).2).2.1 ≤ m := rNum_le a4
  have a6 : (rSign f m 59 (rNum f m 0 9 (rSign f m 44 (rNum f m 1 9 (rSign f m 44 (rNum f m 0 9 p).2.1).2).2.1).2).2.1).2 ≤ m := rSign_le (by decide) a5
  unfold rFig
  repeat' split
  all_goals assumption
theorem rLet_le {f : Nat → Int32} {m p : Nat} {v : Nat → Int32} (hp : p ≤ m) : (rLet f m p v).2.1 ≤ m := by
  unfold rLet
  by_cases k0 : knd (bt f m p) = 0
  · rw [if_pos k0]; exact hp
  · rw [if_neg k0]
    have hpm : p < m := by
      unfold bt at k0
      by_cases q : p < m
      · exact q
      · rw [if_neg q] at k0
        exact absurd (by decide) k0
    have := rFig_le (f := f) (show p + 1 ≤ m from hpm)
    repeat' split
    all_goals first | exact hp | exact this
theorem rLet_v0 {f : Nat → Int32} {m p : Nat} {v : Nat → Int32} (hv : 0 ≤ v 0) (hc : (rLet f m p v).1 = 0) : 0 ≤ (rLet f m p v).2.2 0 := by
  unfold rLet at hc ⊢
  by_cases k0 : knd (bt f m p) = 0
  · rw [if_pos k0] at hc; exact absurd hc (show ¬ (1 : Int32) = 0 by decide)
  · rw [if_neg k0] at hc ⊢
    by_cases k1 : 6 ≤ v 0
    · rw [if_pos k1] at hc; exact absurd hc (show ¬ (3 : Int32) = 0 by decide)
    · rw [if_neg k1] at hc ⊢
      by_cases k2 : ¬ (rFig f m (p + 1)).1 = 0
      · rw [if_pos k2] at hc; exact absurd hc k2
      · rw [if_neg k2]
        show 0 ≤ v 0 + 1
        obtain ⟨j, hj, e⟩ := nI_of (Int32.not_lt.mpr hv)
        rw [e] at k1 ⊢
        rw [cle (n := 6) (by decide) hj] at k1
        rw [nI_1]
        exact nI_pos' (by omega)
theorem rLaw_le {f : Nat → Int32} {m p : Nat} {v : Nat → Int32} (hp : p ≤ m) : (rLaw f m p v).2.1 ≤ m := by
  have a1 : (rSign f m 99 p).2 ≤ m := rSign_le (by decide) hp
  have a2 : (rNum f m 1 30 (rSign f m 99 p).2).2.1 ≤ m := rNum_le a1
  have a3 : (rSign f m 59 (rNum f m 1 30 (rSign f m 99 p).2).2.1).2 ≤ m := rSign_le (by decide) a2
  unfold rLaw
  repeat' split
  all_goals assumption
theorem rLaw_v0 {f : Nat → Int32} {m : Nat} {v : Nat → Int32} (hc : (rLaw f m 0 (clrV v)).1 = 0) : (rLaw f m 0 (clrV v)).2.2 0 = 0 := by
  unfold rLaw at hc ⊢
  by_cases k0 : ¬ (rSign f m 99 0).1 = 0
  · rw [if_pos k0] at hc; exact absurd hc k0
  · rw [if_neg k0] at hc ⊢
    by_cases k1 : ¬ (rNum f m 1 30 (rSign f m 99 0).2).1 = 0
    · rw [if_pos k1] at hc; exact absurd hc k1
    · rw [if_neg k1]
      rfl
theorem c_P_readLetters {E : gX} {S : Nat} {G : gG} {Q : Option Value → gG → Prop} {r m p : Nat} {lf nb : Int32} {f : Nat → Int32} (hP : PX G r f (nI m) lf (nI p) nb) (hm : m ≤ 100) (hp : p ≤ m) {h : Nat} {s : Int32} {v : Nat → Int32} (hH : HX G h s v) (hn : nN (v 0) ≤ 6) (hv0 : 0 ≤ v 0) (hd : h + 8 ≤ r ∨ r + 2 ≤ h) (hQ : ∀ (G' : gG) (nb' : Int32) (v' : Nat → Int32), PX G' r f (nI m) (lfC lf (rLets f m 7 p v).1) (nI (rLets f m 7 p v).2.1) nb' → HX G' h s v' → nN (v' 0) ≤ 6 → (∀ (_ : (rLets f m 7 p v).1 = 0), ∀ k, k < 36 → v' k = (rLets f m 7 p v).2.2 k) → Frm2 G G' r 2 h 8 → Q (some (.int (bI (zB (rLets f m 7 p v).1)))) G') : Runs E y_P_readLetters 5 0 S [.ref r, .ref h] G Q := by
  refine Runs.of "ClockPost$Tape" [some (.ref r), some (.ref h), none] cw_P_readLetters (by decide) (by decide +kernel) rfl (Nat.le_of_ble_eq_true rfl) rfl (fun K hK => ?_)
  refine r_iconst hK d_P_readLetters_0 kc_0 ?_
  refine st_in_2_3 hK d_P_readLetters_1 trivial ?_
  suffices L : ∀ j, j ≤ 7 → ∀ (G1 : gG) (p1 : Nat) (v1 : Nat → Int32) (nb1 : Int32), PX G1 r f (nI m) lf (nI p1) nb1 → p1 ≤ m → HX G1 h s v1 → nN (v1 0) ≤ 6 → 0 ≤ v1 0 → rLets f m (7 - j) p1 v1 = rLets f m 7 p v → Frm2 G G1 r 2 h 8 → K 2 [some (.ref r), some (.ref h), some (.int (nI j))] [] S G1 from L 0 (Nat.zero_le _) G p v nb hP hp hH hn hv0 rfl Frm2.rf
  refine lpN 7 (fun j hj ih G1 p1 v1 nb1 hP hp hH hn hv0 hE hF => ?_)
  refine r_iload_n hK d_P_readLetters_2 rfl ?_
  refine r_bipush hK d_P_readLetters_3 kb_6 ?_
  refine r_icmp_gt (tgt := 35) hK d_P_readLetters_5 rfl (fun h5 => ?_) (fun h5 => ?_)
  · skip
    have hq : j = 7 := by have := (clt (n := 6) (by decide) (by omega)).mp h5; omega
    have hE2 : rLets f m 7 p v = (0, p1, v1) := by rw [← hE, hq]; rfl
    refine r_iconst hK d_P_readLetters_35 kc_1 ?_
    refine r_zret hK rfl (rfl) rfl d_P_readLetters_36 ?_
    rw [hE2] at hQ
    exact hQ _ _ _ hP hH hn (fun _ _ _ => rfl) hF
  · skip
    have hq : j < 7 := by
      have := fun q => h5 ((clt (n := 6) (by decide) (by omega)).mpr q)
      exact Nat.lt_succ_of_le (Nat.not_lt.mp this)
    rw [show 7 - j = (7 - (j + 1)) + 1 by omega, rLets] at hE
    refine r_aload_n hK d_P_readLetters_8 rfl ?_
    refine r_get hK lf_P_19 d_P_readLetters_9 (hP.1) rfl ?_
    refine r_aload_n hK d_P_readLetters_12 rfl ?_
    refine r_get hK lf_P_15 d_P_readLetters_13 (hP.1) rfl ?_
    refine r_icmp_ge (tgt := 35) hK d_P_readLetters_16 rfl (fun h16 => ?_) (fun h16 => ?_)
    · skip
      have hq2 : ¬ p1 < m := by have := (nI_leI (by omega) (by omega)).mp h16; omega
      rw [if_neg hq2] at hE
      have hE2 : rLets f m 7 p v = (0, p1, v1) := hE.symm
      refine r_iconst hK d_P_readLetters_35 kc_1 ?_
      refine r_zret hK rfl (rfl) rfl d_P_readLetters_36 ?_
      rw [hE2] at hQ
      exact hQ _ _ _ hP hH hn (fun _ _ _ => rfl) hF
    · skip
      have hq2 : p1 < m := Nat.not_le.mp (fun q => h16 ((nI_leI (by omega) (by omega)).mpr q))
      rw [if_pos hq2] at hE
      refine r_aload_n hK d_P_readLetters_19 rfl ?_
      refine r_aload_n hK d_P_readLetters_20 rfl ?_
      refine r_v1 (k' := 4) hK lm_P_52 d_P_readLetters_21 ⟨_, hP.1⟩ (by decide) (Nat.le_of_ble_eq_true rfl) ?_
      refine c_P_readLetter hP hm hp hq2 hH hn hv0 hd (fun G21 nb21 v21 hP hH hn21 e21 f21 => kc_s ?_)
      have hF := hF.tr f21
      refine r_if_ne (tgt := 29) hK d_P_readLetters_24 rfl (fun h24 => ?_) (fun h24 => ?_)
      · skip
        have c1 := zB_t.mp (bI_n0.mp h24)
        rw [if_pos c1] at hE
        rw [lfC_0 c1] at hP
        have hH := hH.cast (e21 c1)
        have hn := (e21 c1 0 (by omega)) ▸ hn21
        first | refine iN_2_3 hK d_P_readLetters_29 trivial ?_ | refine ii_2_1_3 hK d_P_readLetters_29 trivial ?_
        refine r_goto (tgt := 2) hK d_P_readLetters_32 rfl ?_
        exact ih hq _ _ _ _ hP (rLet_le hp) hH hn (rLet_v0 hv0 c1) hE hF
      · skip
        have c1 := zB_f.mp (bI_0.mp h24)
        rw [if_neg c1] at hE
        rw [← hE, zB_0 c1] at hQ
        refine r_iconst hK d_P_readLetters_27 kc_0 ?_
        refine r_zret hK rfl (rfl) rfl d_P_readLetters_28 ?_
        exact hQ _ _ _ hP hH hn21 (fun q => absurd q c1) hF
theorem c_P_readInto {E : gX} {S : Nat} {G : gG} {Q : Option Value → gG → Prop} {r m : Nat} {lf pl nb : Int32} {f : Nat → Int32} (hP : PX G r f (nI m) lf pl nb) (hm : m ≤ 100) {h : Nat} {s : Int32} {v : Nat → Int32} (hH : HX G h s v) (hd : h + 8 ≤ r ∨ r + 2 ≤ h) (hQ : ∀ (G' : gG) (nb' : Int32) (v' : Nat → Int32), PX G' r f (nI m) (lfC lf (rAll f m v).1) (nI (rAll f m v).2.1) nb' → HX G' h (bI (zB (rAll f m v).1)) v' → nN (v' 0) ≤ 6 → (∀ (_ : (rAll f m v).1 = 0), ∀ k, k < 36 → v' k = (rAll f m v).2.2 k) → Frm2 G G' r 2 h 8 → Q (some (.int (bI (zB (rAll f m v).1)))) G') : Runs E y_P_readInto 6 0 S [.ref r, .ref h] G Q := by
  refine Runs.of "ClockPost$Tape" [some (.ref r), some (.ref h)] cw_P_readInto (by decide) (by decide +kernel) rfl (Nat.le_of_ble_eq_true rfl) rfl (fun K hK => ?_)
  have hF : Frm2 G G r 2 h 8 := Frm2.rf
  refine r_aload_n hK d_P_readInto_0 rfl ?_
  refine r_iconst hK d_P_readInto_1 kc_0 ?_
  refine p_P_place (x := nI 0) hK lf_P_19 d_P_readInto_2 hP (fun G2 hP f2 => ?_)
  have hH := hH.frm f2 (by omega)
  have hF := hF.tr f2.l
  refine r_aload_n hK d_P_readInto_5 rfl ?_
  refine r_v0 (k' := 1) hK lm_P_22 d_P_readInto_6 ⟨_, hH.1⟩ (by decide) (Nat.le_of_ble_eq_true rfl) ?_
  refine c_H_clear hH (fun G6 hH f6 => kc_n ?_)
  have hP := hP.frm f6 (by omega)
  have hF := hF.tr f6.r
  have hH : HX G6 h 0 (clrV v) := hH
  refine r_aload_n hK d_P_readInto_9 rfl ?_
  refine r_aload_n hK d_P_readInto_10 rfl ?_
  refine r_aload_n hK d_P_readInto_11 rfl ?_
  refine r_v1 (k' := 3) hK lm_P_27 d_P_readInto_12 ⟨_, hP.1⟩ (by decide) (Nat.le_of_ble_eq_true rfl) ?_
  refine c_P_readLaw hP hm (Nat.zero_le _) hH hd (fun G12 nb12 hP e12 x12 f12 => kc_s ?_)
  have hF := hF.tr f12
  refine r_if_eq (tgt := 30) hK d_P_readInto_15 rfl (fun h15 => ?_) (fun h15 => ?_)
  · skip
    have c1 := zB_f.mp (bI_0.mp h15)
    have eA : rAll f m v = rLaw f m 0 (clrV v) := if_neg c1
    have c2 := c1
    rw [← eA] at c2
    rw [zB_0 c2, eA] at hQ
    obtain ⟨x, hH⟩ := x12
    have hn6 : nN (upd (clrV v) 1 x 0) ≤ 6 := by show nN 0 ≤ 6; decide
    have e20 : ∀ (_ : (rLaw f m 0 (clrV v)).1 = 0), ∀ k, k < 36 → upd (clrV v) 1 x k = (rLaw f m 0 (clrV v)).2.2 k := fun q => absurd q c1
    refine r_iconst hK d_P_readInto_30 kc_0 ?_
    refine p_H_stands hK lf_P_34 d_P_readInto_31 hH rfl rfl (fun G31 hH f31 => ?_)
    have hP := hP.frm f31 (by omega)
    have hF := hF.tr f31.r
    refine r_aload_n hK d_P_readInto_34 rfl ?_
    refine r_get hK lf_P_34 d_P_readInto_35 (hH.1) rfl ?_
    refine r_zret hK rfl (rfl) rfl d_P_readInto_38 ?_
    exact hQ _ _ _ hP hH hn6 e20 hF
  · skip
    have c1 := zB_t.mp (bI_n0.mp h15)
    have eA : rAll f m v = rLets f m 7 (rLaw f m 0 (clrV v)).2.1 (rLaw f m 0 (clrV v)).2.2 := if_pos c1
    rw [lfC_0 c1] at hP
    have hH := e12 c1
    have h0 := rLaw_v0 (f := f) (m := m) (v := v) c1
    refine r_aload_n hK d_P_readInto_18 rfl ?_
    refine r_aload_n hK d_P_readInto_19 rfl ?_
    refine r_v1 (k' := 5) hK lm_P_31 d_P_readInto_20 ⟨_, hP.1⟩ (by decide) (Nat.le_of_ble_eq_true rfl) ?_
    refine c_P_readLetters hP hm (rLaw_le (Nat.zero_le _)) hH (by rw [h0]; decide) (by rw [h0]; decide) hd (fun G20 nb20 v20 hP hH hn6 e20 f20 => kc_s ?_)
    have hF := hF.tr f20
    refine r_if_eq (tgt := 30) hK d_P_readInto_23 rfl (fun h23 => ?_) (fun h23 => ?_)
    · skip
      have c2 := zB_f.mp (bI_0.mp h23)
      rw [eA, zB_0 c2] at hQ
      refine r_iconst hK d_P_readInto_30 kc_0 ?_
      refine p_H_stands hK lf_P_34 d_P_readInto_31 hH rfl rfl (fun G31 hH f31 => ?_)
      have hP := hP.frm f31 (by omega)
      have hF := hF.tr f31.r
      refine r_aload_n hK d_P_readInto_34 rfl ?_
      refine r_get hK lf_P_34 d_P_readInto_35 (hH.1) rfl ?_
      refine r_zret hK rfl (rfl) rfl d_P_readInto_38 ?_
      exact hQ _ _ _ hP hH hn6 e20 hF
    · skip
      have c2 := zB_t.mp (bI_n0.mp h23)
      rw [eA, zB_1 c2] at hQ
      refine r_iconst hK d_P_readInto_26 kc_1 ?_
      refine r_goto (tgt := 31) hK d_P_readInto_27 rfl ?_
      refine p_H_stands hK lf_P_34 d_P_readInto_31 hH rfl rfl (fun G31 hH f31 => ?_)
      have hP := hP.frm f31 (by omega)
      have hF := hF.tr f31.r
      refine r_aload_n hK d_P_readInto_34 rfl ?_
      refine r_get hK lf_P_34 d_P_readInto_35 (hH.1) rfl ?_
      refine r_zret hK rfl (rfl) rfl d_P_readInto_38 ?_
      exact hQ _ _ _ hP hH hn6 e20 hF
