theorem c_X_found {E : gX} {S : Nat} {G : gG} {Q : Option Value → gG → Prop} {b : Nat} {st : Bool} {nw : Nat → Int32} {ac : Nat → Nat → Int32} {na : Nat} {ik : Nat → Bool} {im : Nat → Nat → Int32} {rp : Nat → Bool} {rl : Nat → Int32} {rs : Nat → Nat} {ri : Nat → Nat → Int32} {tp : Nat → Int32} {tn : Nat} {lf : Int32} {fd : Int32} {tr : Nat → Int32} {un : Nat} (hX : XV G b (st, nw, ac, na, ik, im, rp, rl, rs, ri, tp, tn, lf, fd, tr, un)) {x : Int32} (hQ : ∀ G' : gG, XV G' b (st, nw, ac, na, ik, im, rp, rl, rs, ri, tp, tn, lf, x, tr, un) → Frm G G' b 309 → Q (some (.int (-1000010 - x))) G') : Runs E y_X_found 1 0 S [.ref b, .int x] G Q := by
  refine Runs.of "ClockPost" [some (.ref b), some (.int x)] cw_X_found (by decide) (by decide +kernel) rfl (Nat.le_of_ble_eq_true rfl) rfl (fun K hK => ?_)
  refine r_aload_n hK d_X_found_0 rfl ?_
  refine r_iload_n hK d_X_found_1 rfl ?_
  refine p_X_finding hK lf_X_300 d_X_found_2 hX (fun G2 hX f2 => ?_)
  refine r_ldcw hK d_X_found_5 lc_X_303 ?_
  refine r_iload_n hK d_X_found_8 rfl ?_
  refine r_isub hK d_X_found_9 ?_
  refine r_iret hK rfl rfl d_X_found_10 ?_
  exact hQ _ hX f2
theorem c_X_foundNothing {E : gX} {S : Nat} {G : gG} {Q : Option Value → gG → Prop} {b : Nat} {st : Bool} {nw : Nat → Int32} {ac : Nat → Nat → Int32} {na : Nat} {ik : Nat → Bool} {im : Nat → Nat → Int32} {rp : Nat → Bool} {rl : Nat → Int32} {rs : Nat → Nat} {ri : Nat → Nat → Int32} {tp : Nat → Int32} {tn : Nat} {lf : Int32} {fd : Int32} {tr : Nat → Int32} {un : Nat} (hX : XV G b (st, nw, ac, na, ik, im, rp, rl, rs, ri, tp, tn, lf, fd, tr, un)) {x : Int32} (hQ : ∀ G' : gG, XV G' b (st, nw, ac, na, ik, im, rp, rl, rs, ri, tp, tn, lf, 0, tr, un) → Frm G G' b 309 → Q (some (.int x)) G') : Runs E y_X_foundNothing 1 0 S [.ref b, .int x] G Q := by
  refine Runs.of "ClockPost" [some (.ref b), some (.int x)] cw_X_foundNothing (by decide) (by decide +kernel) rfl (Nat.le_of_ble_eq_true rfl) rfl (fun K hK => ?_)
  refine r_aload_n hK d_X_foundNothing_0 rfl ?_
  refine r_iconst hK d_X_foundNothing_1 kc_0 ?_
  refine p_X_finding hK lf_X_300 d_X_foundNothing_2 hX (fun G2 hX f2 => ?_)
  refine r_iload_n hK d_X_foundNothing_5 rfl ?_
  refine r_iret hK rfl rfl d_X_foundNothing_6 ?_
  exact hQ _ hX f2
theorem c_X_refusalOf {E : gX} {S : Nat} {G : gG} {Q : Option Value → gG → Prop} {b : Nat} {st : Bool} {nw : Nat → Int32} {ac : Nat → Nat → Int32} {na : Nat} {ik : Nat → Bool} {im : Nat → Nat → Int32} {rp : Nat → Bool} {rl : Nat → Int32} {rs : Nat → Nat} {ri : Nat → Nat → Int32} {tp : Nat → Int32} {tn : Nat} {lf : Int32} {fd : Int32} {tr : Nat → Int32} {un : Nat} (hX : XV G b (st, nw, ac, na, ik, im, rp, rl, rs, ri, tp, tn, lf, fd, tr, un)) {z : Bool} (hQ : Q (some (.int (rfu st z))) G) : Runs E y_X_refusalOf 1 0 S [.ref b, .int (bI z)] G Q := by
  refine Runs.of "ClockPost" [some (.ref b), some (.int (bI z))] cw_X_refusalOf (by decide) (by decide +kernel) rfl (Nat.le_of_ble_eq_true rfl) rfl (fun K hK => ?_)
  refine r_aload_n hK d_X_refusalOf_0 rfl ?_
  refine r_get hK lf_X_25 d_X_refusalOf_1 (hX.1.1) rfl ?_
  refine r_get hK lf_X_135 d_X_refusalOf_4 (hX.now.o) rfl ?_
  refine r_if_ne (tgt := 13) hK d_X_refusalOf_7 rfl (fun h7 => ?_) (fun h7 => ?_)
  · skip
    have hb := bI_n0.mp h7
    refine r_iload_n hK d_X_refusalOf_13 rfl ?_
    refine r_if_eq (tgt := 21) hK d_X_refusalOf_14 rfl (fun h14 => ?_) (fun h14 => ?_)
    · skip
      have hc := bI_0.mp h14
      refine r_ldc hK d_X_refusalOf_21 lc_X_66 ?_
      refine r_iret hK rfl rfl d_X_refusalOf_23 ?_
      first | exact rc hQ (by rw [rfu, if_pos hb, if_pos hc]) | exact rc hQ (by rw [rfu, if_pos hb, if_neg (by simp [hc])])
    · skip
      have hc := bI_n0.mp h14
      refine r_iconst hK d_X_refusalOf_17 kc_0 ?_
      refine r_goto (tgt := 23) hK d_X_refusalOf_18 rfl ?_
      refine r_iret hK rfl rfl d_X_refusalOf_23 ?_
      first | exact rc hQ (by rw [rfu, if_pos hb, if_pos hc]) | exact rc hQ (by rw [rfu, if_pos hb, if_neg (by simp [hc])])
  · skip
    have hb := bI_0.mp h7
    refine r_ldc hK d_X_refusalOf_10 lc_X_138 ?_
    refine r_iret hK rfl rfl d_X_refusalOf_12 ?_
    exact rc hQ (by rw [rfu, if_neg (by simp [hb])])
theorem c_X_rowsThere {E : gX} {S : Nat} {G : gG} {Q : Option Value → gG → Prop} {b : Nat} {st : Bool} {nw : Nat → Int32} {ac : Nat → Nat → Int32} {na : Nat} {ik : Nat → Bool} {im : Nat → Nat → Int32} {rp : Nat → Bool} {rl : Nat → Int32} {rs : Nat → Nat} {ri : Nat → Nat → Int32} {tp : Nat → Int32} {tn : Nat} {lf : Int32} {fd : Int32} {tr : Nat → Int32} {un : Nat} (hX : XV G b (st, nw, ac, na, ik, im, rp, rl, rs, ri, tp, tn, lf, fd, tr, un)) (hQ : Q (some (.int (rowN rp 8))) G) : Runs E y_X_rowsThere 1 0 S [.ref b] G Q := by
  refine Runs.of "ClockPost" [some (.ref b), none, none] cw_X_rowsThere (by decide) (by decide +kernel) rfl (Nat.le_of_ble_eq_true rfl) rfl (fun K hK => ?_)
  refine r_iconst hK d_X_rowsThere_0 kc_0 ?_
  refine st_in_1_3 hK d_X_rowsThere_1 trivial ?_
  refine r_iconst hK d_X_rowsThere_2 kc_0 ?_
  refine st_in_2_3 hK d_X_rowsThere_3 trivial ?_
  suffices L : ∀ j, j ≤ 8 → K 4 [some (.ref b), some (.int (rowN rp j)), some (.int (nI j))] [] S G from L 0 (Nat.zero_le _)
  refine lpN 8 (fun j hj ih => ?_)
  refine r_iload_n hK d_X_rowsThere_4 rfl ?_
  refine r_aload_n hK d_X_rowsThere_5 rfl ?_
  refine r_get hK lf_X_11 d_X_rowsThere_6 (hX.1.1) rfl ?_
  refine r_alen (v := nI 8) hK d_X_rowsThere_9 hX.1.2.1 (by decide) rfl ?_
  refine r_icmp_ge (tgt := 39) hK d_X_rowsThere_10 rfl (fun h10 => ?_) (fun h10 => ?_)
  · skip
    have hq : j = 8 := by have := (nI_leI (by decide) (by omega)).mp h10; omega
    refine r_iload_n hK d_X_rowsThere_39 rfl ?_
    refine r_iret hK rfl rfl d_X_rowsThere_40 ?_
    exact rc hQ (by rw [hq])
  · skip
    have hq : j < 8 := Nat.not_le.mp (fun q => h10 ((nI_leI (by decide) (by omega)).mpr q))
    obtain ⟨g, hR, hg⟩ := hX.rows j hq
    refine r_iload_n hK d_X_rowsThere_13 rfl ?_
    refine r_aload_n hK d_X_rowsThere_14 rfl ?_
    refine r_get hK lf_X_11 d_X_rowsThere_15 (hX.1.1) rfl ?_
    refine r_iload_n hK d_X_rowsThere_18 rfl ?_
    refine g_row hK d_X_rowsThere_19 hX.1 hq ?_
    refine r_get hK lf_X_78 d_X_rowsThere_20 (hR.1) rfl ?_
    refine r_if_eq (tgt := 30) hK d_X_rowsThere_23 rfl (fun h23 => ?_) (fun h23 => ?_)
    · skip
      have hb : rowN rp (j + 1) = rowN rp j + 1 := by rw [rowN, bIn_0.mp h23]; rfl
      refine r_iconst hK d_X_rowsThere_30 kc_1 ?_
      refine r_iadd hK d_X_rowsThere_31 ?_
      refine st_in_1_3 hK d_X_rowsThere_32 trivial ?_
      first | refine iN_2_3 hK d_X_rowsThere_33 trivial ?_ | refine ii_2_1_3 hK d_X_rowsThere_33 trivial ?_
      refine r_goto (tgt := 4) hK d_X_rowsThere_36 rfl ?_
      exact hb ▸ ih hq
    · skip
      have hb : rowN rp (j + 1) = rowN rp j + 0 := by
        have hz : rp j = false := by
          cases e : rp j with
          | true => exact absurd (bIn_0.mpr e) h23
          | false => rfl
        rw [rowN, hz]; rfl
      refine r_iconst hK d_X_rowsThere_26 kc_0 ?_
      refine r_goto (tgt := 31) hK d_X_rowsThere_27 rfl ?_
      refine r_iadd hK d_X_rowsThere_31 ?_
      refine st_in_1_3 hK d_X_rowsThere_32 trivial ?_
      first | refine iN_2_3 hK d_X_rowsThere_33 trivial ?_ | refine ii_2_1_3 hK d_X_rowsThere_33 trivial ?_
      refine r_goto (tgt := 4) hK d_X_rowsThere_36 rfl ?_
      exact hb ▸ ih hq
theorem c_X_row {E : gX} {S : Nat} {G : gG} {Q : Option Value → gG → Prop} {b : Nat} {st : Bool} {nw : Nat → Int32} {ac : Nat → Nat → Int32} {na : Nat} {ik : Nat → Bool} {im : Nat → Nat → Int32} {rp : Nat → Bool} {rl : Nat → Int32} {rs : Nat → Nat} {ri : Nat → Nat → Int32} {tp : Nat → Int32} {tn : Nat} {lf : Int32} {fd : Int32} {tr : Nat → Int32} {un : Nat} (hX : XV G b (st, nw, ac, na, ik, im, rp, rl, rs, ri, tp, tn, lf, fd, tr, un)) (hI : XPI (st, nw, ac, na, ik, im, rp, rl, rs, ri, tp, tn, lf, fd, tr, un)) {r l n : Int32} (hQ : ∀ G' : gG, XV G' b (opRow (st, nw, ac, na, ik, im, rp, rl, rs, ri, tp, tn, lf, fd, tr, un) r l n).2 → Frm G G' b 309 → Q (some (.int (opRow (st, nw, ac, na, ik, im, rp, rl, rs, ri, tp, tn, lf, fd, tr, un) r l n).1)) G') : Runs E y_X_row 3 0 S [.ref b, .int r, .int l, .int n] G Q := by
  refine Runs.of "ClockPost" [some (.ref b), some (.int r), some (.int l), some (.int n)] cw_X_row (by decide) (by decide +kernel) rfl (Nat.le_of_ble_eq_true rfl) rfl (fun K hK => ?_)
  refine r_iload_n hK d_X_row_0 rfl ?_
  refine r_s1 (k' := 2) hK lm_X_58 d_X_row_1 (by decide) (Nat.le_of_ble_eq_true rfl) ?_
  refine c_X_isRow (kc_s ?_)
  refine r_if_eq (tgt := 22) hK d_X_row_4 rfl (fun h4 => ?_) (fun h4 => ?_)
  · skip
    have hb := bI_0.mp h4
    rw [opRow, if_neg (by simp [hb])] at hQ
    refine r_ldc hK d_X_row_22 lc_X_66 ?_
    refine r_iret hK rfl rfl d_X_row_24 ?_
    exact hQ _ hX Frm.rf
  · skip
    have hb := bI_n0.mp h4
    refine r_iload_n hK d_X_row_7 rfl ?_
    refine r_iconst hK d_X_row_8 kc_0 ?_
    refine r_iconst hK d_X_row_9 kc_2 ?_
    refine r_s3 (k' := 1) hK lm_X_62 d_X_row_10 (by decide) (Nat.le_of_ble_eq_true rfl) ?_
    refine c_X_isWithin (kc_s ?_)
    refine r_if_eq (tgt := 22) hK d_X_row_13 rfl (fun h13 => ?_) (fun h13 => ?_)
    · skip
      have hc := bI_0.mp h13
      rw [opRow, if_neg (by simp [hc])] at hQ
      refine r_ldc hK d_X_row_22 lc_X_66 ?_
      refine r_iret hK rfl rfl d_X_row_24 ?_
      exact hQ _ hX Frm.rf
    · skip
      have hc := bI_n0.mp h13
      refine r_iload_n hK d_X_row_16 rfl ?_
      refine r_bipush hK d_X_row_17 kb_40 ?_
      refine r_icmp_le (tgt := 25) hK d_X_row_19 rfl (fun h19 => ?_) (fun h19 => ?_)
      · skip
        rw [opRow, if_pos ⟨hb, hc, h19⟩] at hQ
        refine r_iload_n hK d_X_row_25 rfl ?_
        refine r_if_ge (tgt := 35) hK d_X_row_26 rfl (fun h26 => ?_) (fun h26 => ?_)
        · skip
          rw [if_neg (Int32.not_lt.mpr h26)] at hQ
          obtain ⟨j, hj, rfl⟩ := inB_7 hb
          obtain ⟨g, hR, hg⟩ := hX.rows j hj
          refine r_aload_n hK d_X_row_35 rfl ?_
          refine r_get hK lf_X_11 d_X_row_36 (hX.1.1) rfl ?_
          refine r_iload_n hK d_X_row_39 rfl ?_
          refine g_row hK d_X_row_40 hX.1 hj ?_
          refine r_iload_n hK d_X_row_41 rfl ?_
          refine r_iload_n hK d_X_row_42 rfl ?_
          refine r_v2 (k' := 2) hK lm_X_71 d_X_row_43 ⟨_, hR.1⟩ (by decide) (Nat.le_of_ble_eq_true rfl) ?_
          refine c_R_lay hR (fun G43 hR f43 => kc_n ?_)
          have e43 : nI (nN n) = n := by obtain ⟨k, hk, rfl⟩ := nI_of (Int32.not_lt.mpr h26); rw [nN_nI hk]
          have hX := hX.sR (p := true) (l := l) (s := nN n) (f := zV) hj f43 ⟨_, by rw [e43]; exact hR, fun k hk => by simp only [fillV, if_pos hk]; rfl⟩
          refine r_aload_n hK d_X_row_46 rfl ?_
          refine r_iload_n hK d_X_row_47 rfl ?_
          refine r_v1 (k' := 1) hK lm_X_75 d_X_row_48 ⟨_, hX.1.1⟩ (by decide) (Nat.le_of_ble_eq_true rfl) ?_
          refine c_X_foundNothing hX (fun G48 hX f48 => kc_s ?_)
          refine r_iret hK rfl rfl d_X_row_51 ?_
          rw [nN_nI (by omega)] at hQ
          exact hQ _ hX ((f43.mono (by omega) (by omega)).tr f48)
        · skip
          rw [if_pos (Int32.not_le.mp h26)] at hQ
          refine r_aload_n hK d_X_row_29 rfl ?_
          refine r_iconst hK d_X_row_30 kc_4 ?_
          refine r_v1 (k' := 1) hK lm_X_67 d_X_row_31 ⟨_, hX.1.1⟩ (by decide) (Nat.le_of_ble_eq_true rfl) ?_
          refine c_X_found hX (fun G31 hX f31 => kc_s ?_)
          refine r_iret hK rfl rfl d_X_row_34 ?_
          exact hQ _ hX f31
      · skip
        rw [opRow, if_neg (fun q => h19 q.2.2)] at hQ
        refine r_ldc hK d_X_row_22 lc_X_66 ?_
        refine r_iret hK rfl rfl d_X_row_24 ?_
        exact hQ _ hX Frm.rf
theorem c_X_drop {E : gX} {S : Nat} {G : gG} {Q : Option Value → gG → Prop} {b : Nat} {st : Bool} {nw : Nat → Int32} {ac : Nat → Nat → Int32} {na : Nat} {ik : Nat → Bool} {im : Nat → Nat → Int32} {rp : Nat → Bool} {rl : Nat → Int32} {rs : Nat → Nat} {ri : Nat → Nat → Int32} {tp : Nat → Int32} {tn : Nat} {lf : Int32} {fd : Int32} {tr : Nat → Int32} {un : Nat} (hX : XV G b (st, nw, ac, na, ik, im, rp, rl, rs, ri, tp, tn, lf, fd, tr, un)) (hI : XPI (st, nw, ac, na, ik, im, rp, rl, rs, ri, tp, tn, lf, fd, tr, un)) {r : Int32} (hQ : ∀ G' : gG, XV G' b (opDrop (st, nw, ac, na, ik, im, rp, rl, rs, ri, tp, tn, lf, fd, tr, un) r).2 → Frm G G' b 309 → Q (some (.int (opDrop (st, nw, ac, na, ik, im, rp, rl, rs, ri, tp, tn, lf, fd, tr, un) r).1)) G') : Runs E y_X_drop 3 0 S [.ref b, .int r] G Q := by
  refine Runs.of "ClockPost" [some (.ref b), some (.int r)] cw_X_drop (by decide) (by decide +kernel) rfl (Nat.le_of_ble_eq_true rfl) rfl (fun K hK => ?_)
  refine r_iload_n hK d_X_drop_0 rfl ?_
  refine r_s1 (k' := 2) hK lm_X_58 d_X_drop_1 (by decide) (Nat.le_of_ble_eq_true rfl) ?_
  refine c_X_isRow (kc_s ?_)
  refine r_if_ne (tgt := 10) hK d_X_drop_4 rfl (fun h4 => ?_) (fun h4 => ?_)
  · skip
    have hb := bI_n0.mp h4
    rw [opDrop, if_pos hb] at hQ
    obtain ⟨j, hj, rfl⟩ := inB_7 hb
    rw [nN_nI (by omega)] at hQ
    obtain ⟨g, hR, hg⟩ := hX.rows j hj
    refine r_aload_n hK d_X_drop_10 rfl ?_
    refine r_get hK lf_X_11 d_X_drop_11 (hX.1.1) rfl ?_
    refine r_iload_n hK d_X_drop_14 rfl ?_
    refine g_row hK d_X_drop_15 hX.1 hj ?_
    refine r_get hK lf_X_78 d_X_drop_16 (hR.1) rfl ?_
    refine r_if_eq (tgt := 28) hK d_X_drop_19 rfl (fun h19 => ?_) (fun h19 => ?_)
    · skip
      have hp := bIn_0.mp h19
      rw [if_pos hp] at hQ
      refine r_aload_n hK d_X_drop_28 rfl ?_
      refine r_get hK lf_X_11 d_X_drop_29 (hX.1.1) rfl ?_
      refine r_iload_n hK d_X_drop_32 rfl ?_
      refine g_row hK d_X_drop_33 hX.1 hj ?_
      refine r_iconst hK d_X_drop_34 kc_1 ?_
      refine p_R_missing (x := 1) hK lf_X_78 d_X_drop_35 hR rfl rfl (fun G35 hR f35 => ?_)
      have hX := hX.sRp (p := false) hj f35 ⟨g, hR, hg⟩
      refine r_aload_n hK d_X_drop_38 rfl ?_
      refine r_aload_n hK d_X_drop_39 rfl ?_
      refine r_get hK lf_X_11 d_X_drop_40 (hX.1.1) rfl ?_
      refine r_iload_n hK d_X_drop_43 rfl ?_
      refine g_row hK d_X_drop_44 hX.1 hj ?_
      refine r_get hK lf_X_104 d_X_drop_45 (hR.1) rfl ?_
      refine r_v1 (k' := 1) hK lm_X_75 d_X_drop_48 ⟨_, hX.1.1⟩ (by decide) (Nat.le_of_ble_eq_true rfl) ?_
      refine c_X_foundNothing hX (fun G48 hX f48 => kc_s ?_)
      refine r_iret hK rfl rfl d_X_drop_51 ?_
      exact hQ _ hX ((f35.mono (by omega) (by omega)).tr f48)
    · skip
      have hp : ¬ rp j = true := fun q => h19 (bIn_0.mpr q)
      rw [if_neg hp] at hQ
      refine r_aload_n hK d_X_drop_22 rfl ?_
      refine r_iconst hK d_X_drop_23 kc_1 ?_
      refine r_v1 (k' := 1) hK lm_X_67 d_X_drop_24 ⟨_, hX.1.1⟩ (by decide) (Nat.le_of_ble_eq_true rfl) ?_
      refine c_X_found hX (fun G24 hX f24 => kc_s ?_)
      refine r_iret hK rfl rfl d_X_drop_27 ?_
      exact hQ _ hX f24
  · skip
    have hb := bI_0.mp h4
    rw [opDrop, if_neg (by simp [hb])] at hQ
    refine r_ldc hK d_X_drop_7 lc_X_66 ?_
    refine r_iret hK rfl rfl d_X_drop_9 ?_
    exact hQ _ hX Frm.rf
theorem c_X_set {E : gX} {S : Nat} {G : gG} {Q : Option Value → gG → Prop} {b : Nat} {st : Bool} {nw : Nat → Int32} {ac : Nat → Nat → Int32} {na : Nat} {ik : Nat → Bool} {im : Nat → Nat → Int32} {rp : Nat → Bool} {rl : Nat → Int32} {rs : Nat → Nat} {ri : Nat → Nat → Int32} {tp : Nat → Int32} {tn : Nat} {lf : Int32} {fd : Int32} {tr : Nat → Int32} {un : Nat} (hX : XV G b (st, nw, ac, na, ik, im, rp, rl, rs, ri, tp, tn, lf, fd, tr, un)) (hI : XPI (st, nw, ac, na, ik, im, rp, rl, rs, ri, tp, tn, lf, fd, tr, un)) {r i v : Int32} (hQ : ∀ G' : gG, XV G' b (opSet (st, nw, ac, na, ik, im, rp, rl, rs, ri, tp, tn, lf, fd, tr, un) r i v).2 → Frm G G' b 309 → Q (some (.int (opSet (st, nw, ac, na, ik, im, rp, rl, rs, ri, tp, tn, lf, fd, tr, un) r i v).1)) G') : Runs E y_X_set 3 0 S [.ref b, .int r, .int i, .int v] G Q := by
  refine Runs.of "ClockPost" [some (.ref b), some (.int r), some (.int i), some (.int v)] cw_X_set (by decide) (by decide +kernel) rfl (Nat.le_of_ble_eq_true rfl) rfl (fun K hK => ?_)
  refine r_iload_n hK d_X_set_0 rfl ?_
  refine r_s1 (k' := 2) hK lm_X_58 d_X_set_1 (by decide) (Nat.le_of_ble_eq_true rfl) ?_
  refine c_X_isRow (kc_s ?_)
  refine r_if_ne (tgt := 10) hK d_X_set_4 rfl (fun h4 => ?_) (fun h4 => ?_)
  · skip
    have hb := bI_n0.mp h4
    rw [opSet, if_pos hb] at hQ
    obtain ⟨j, hj, rfl⟩ := inB_7 hb
    rw [nN_nI (by omega)] at hQ
    obtain ⟨g, hR, hg⟩ := hX.rows j hj
    have hs := hI.2.2.2.2.2.2.2.1 j hj
    refine r_aload_n hK d_X_set_10 rfl ?_
    refine r_get hK lf_X_11 d_X_set_11 (hX.1.1) rfl ?_
    refine r_iload_n hK d_X_set_14 rfl ?_
    refine g_row hK d_X_set_15 hX.1 hj ?_
    refine r_get hK lf_X_78 d_X_set_16 (hR.1) rfl ?_
    refine r_if_eq (tgt := 28) hK d_X_set_19 rfl (fun h19 => ?_) (fun h19 => ?_)
    · skip
      have hp := bIn_0.mp h19
      rw [if_pos hp] at hQ
      refine r_aload_n hK d_X_set_28 rfl ?_
      refine r_get hK lf_X_11 d_X_set_29 (hX.1.1) rfl ?_
      refine r_iload_n hK d_X_set_32 rfl ?_
      refine g_row hK d_X_set_33 hX.1 hj ?_
      refine r_iload_n hK d_X_set_34 rfl ?_
      refine r_iconst hK d_X_set_35 kc_1 ?_
      refine r_v2 (k' := 1) hK lm_X_82 d_X_set_36 ⟨_, hR.1⟩ (by decide) (Nat.le_of_ble_eq_true rfl) ?_
      refine c_R_hasPlaces hR (kc_s ?_)
      refine r_if_ne (tgt := 48) hK d_X_set_39 rfl (fun h39 => ?_) (fun h39 => ?_)
      · skip
        have hh := bI_n0.mp h39
        rw [if_pos hh] at hQ
        refine r_aload_n hK d_X_set_48 rfl ?_
        refine r_aload_n hK d_X_set_49 rfl ?_
        refine r_get hK lf_X_11 d_X_set_50 (hX.1.1) rfl ?_
        refine r_iload_n hK d_X_set_53 rfl ?_
        refine g_row hK d_X_set_54 hX.1 hj ?_
        refine r_iload_n hK d_X_set_55 rfl ?_
        refine r_iload_n hK d_X_set_56 rfl ?_
        refine r_v2 (k' := 2) hK lm_X_86 d_X_set_57 ⟨_, hR.1⟩ (by decide) (Nat.le_of_ble_eq_true rfl) ?_
        refine c_R_put hR hs (fun G57 hR f57 => kc_s ?_)
        rw [if_pos hh] at hR
        have hX := hX.sRi (f := upd (ri j) (nN i) (cutV (rl j) v)) hj f57 ⟨_, hR, fun k hk => by unfold upd; split <;> simp_all⟩
        refine r_v1 (k' := 1) hK lm_X_75 d_X_set_60 ⟨_, hX.1.1⟩ (by decide) (Nat.le_of_ble_eq_true rfl) ?_
        refine c_X_foundNothing hX (fun G60 hX f60 => kc_s ?_)
        refine r_iret hK rfl rfl d_X_set_63 ?_
        exact hQ _ hX ((f57.mono (by omega) (by omega)).tr f60)
      · skip
        have hh := bI_0.mp h39
        rw [if_neg (by simp [hh])] at hQ
        refine r_aload_n hK d_X_set_42 rfl ?_
        refine r_iconst hK d_X_set_43 kc_2 ?_
        refine r_v1 (k' := 1) hK lm_X_67 d_X_set_44 ⟨_, hX.1.1⟩ (by decide) (Nat.le_of_ble_eq_true rfl) ?_
        refine c_X_found hX (fun G44 hX f44 => kc_s ?_)
        refine r_iret hK rfl rfl d_X_set_47 ?_
        exact hQ _ hX f44
    · skip
      have hp : ¬ rp j = true := fun q => h19 (bIn_0.mpr q)
      rw [if_neg hp] at hQ
      refine r_aload_n hK d_X_set_22 rfl ?_
      refine r_iconst hK d_X_set_23 kc_1 ?_
      refine r_v1 (k' := 1) hK lm_X_67 d_X_set_24 ⟨_, hX.1.1⟩ (by decide) (Nat.le_of_ble_eq_true rfl) ?_
      refine c_X_found hX (fun G24 hX f24 => kc_s ?_)
      refine r_iret hK rfl rfl d_X_set_27 ?_
      exact hQ _ hX f24
  · skip
    have hb := bI_0.mp h4
    rw [opSet, if_neg (by simp [hb])] at hQ
    refine r_ldc hK d_X_set_7 lc_X_66 ?_
    refine r_iret hK rfl rfl d_X_set_9 ?_
    exact hQ _ hX Frm.rf
theorem c_X_copy {E : gX} {S : Nat} {G : gG} {Q : Option Value → gG → Prop} {b : Nat} {st : Bool} {nw : Nat → Int32} {ac : Nat → Nat → Int32} {na : Nat} {ik : Nat → Bool} {im : Nat → Nat → Int32} {rp : Nat → Bool} {rl : Nat → Int32} {rs : Nat → Nat} {ri : Nat → Nat → Int32} {tp : Nat → Int32} {tn : Nat} {lf : Int32} {fd : Int32} {tr : Nat → Int32} {un : Nat} (hX : XV G b (st, nw, ac, na, ik, im, rp, rl, rs, ri, tp, tn, lf, fd, tr, un)) (hI : XPI (st, nw, ac, na, ik, im, rp, rl, rs, ri, tp, tn, lf, fd, tr, un)) {a i c j n : Int32} (hQ : ∀ G' : gG, XV G' b (opCopy (st, nw, ac, na, ik, im, rp, rl, rs, ri, tp, tn, lf, fd, tr, un) a i c j n).2 → Frm G G' b 309 → Q (some (.int (opCopy (st, nw, ac, na, ik, im, rp, rl, rs, ri, tp, tn, lf, fd, tr, un) a i c j n).1)) G') : Runs E y_X_copy 3 0 S [.ref b, .int a, .int i, .int c, .int j, .int n] G Q := by
  refine Runs.of "ClockPost" [some (.ref b), some (.int a), some (.int i), some (.int c), some (.int j), some (.int n), none, none] cw_X_copy (by decide) (by decide +kernel) rfl (Nat.le_of_ble_eq_true rfl) rfl (fun K hK => ?_)
  refine r_iload_n hK d_X_copy_0 rfl ?_
  refine r_s1 (k' := 2) hK lm_X_58 d_X_copy_1 (by decide) (Nat.le_of_ble_eq_true rfl) ?_
  refine c_X_isRow (kc_s ?_)
  refine r_if_eq (tgt := 14) hK d_X_copy_4 rfl (fun h4 => ?_) (fun h4 => ?_)
  · skip
    have hb := bI_0.mp h4
    rw [opCopy, if_neg (by simp [hb])] at hQ
    refine r_ldc hK d_X_copy_14 lc_X_66 ?_
    refine r_iret hK rfl rfl d_X_copy_16 ?_
    exact hQ _ hX Frm.rf
  · skip
    have hb := bI_n0.mp h4
    refine r_iload_n hK d_X_copy_7 rfl ?_
    refine r_s1 (k' := 2) hK lm_X_58 d_X_copy_8 (by decide) (Nat.le_of_ble_eq_true rfl) ?_
    refine c_X_isRow (kc_s ?_)
    refine r_if_ne (tgt := 17) hK d_X_copy_11 rfl (fun h11 => ?_) (fun h11 => ?_)
    · skip
      have hc := bI_n0.mp h11
      rw [opCopy, if_pos ⟨hb, hc⟩] at hQ
      obtain ⟨x, hx, rfl⟩ := inB_7 hb
      obtain ⟨y, hy, rfl⟩ := inB_7 hc
      rw [nN_nI (by omega), nN_nI (by omega)] at hQ
      obtain ⟨g, hR, hg⟩ := hX.rows x hx
      obtain ⟨g2, hR2, hg2⟩ := hX.rows y hy
      have hs := hI.2.2.2.2.2.2.2.1 x hx
      have hs2 := hI.2.2.2.2.2.2.2.1 y hy
      refine r_aload_n hK d_X_copy_17 rfl ?_
      refine r_get hK lf_X_11 d_X_copy_18 (hX.1.1) rfl ?_
      refine r_iload_n hK d_X_copy_21 rfl ?_
      refine g_row hK d_X_copy_22 hX.1 hx ?_
      refine st_a_6_8 hK d_X_copy_23 trivial ?_
      refine r_aload_n hK d_X_copy_25 rfl ?_
      refine r_get hK lf_X_11 d_X_copy_26 (hX.1.1) rfl ?_
      refine r_iload_n hK d_X_copy_29 rfl ?_
      refine g_row hK d_X_copy_30 hX.1 hy ?_
      refine st_a_7_8 hK d_X_copy_31 trivial ?_
      refine r_aload hK d_X_copy_33 rfl ?_
      refine r_get hK lf_X_78 d_X_copy_35 (hR.1) rfl ?_
      refine r_if_ne (tgt := 49) hK d_X_copy_38 rfl (fun h38 => ?_) (fun h38 => ?_)
      · skip
        have hp : ¬ rp x = true := fun q => h38 (bIn_0.mpr q)
        rw [if_neg (fun q => hp q.1)] at hQ
        refine r_aload_n hK d_X_copy_49 rfl ?_
        refine r_iconst hK d_X_copy_50 kc_1 ?_
        refine r_v1 (k' := 1) hK lm_X_67 d_X_copy_51 ⟨_, hX.1.1⟩ (by decide) (Nat.le_of_ble_eq_true rfl) ?_
        refine c_X_found hX (fun G51 hX f51 => kc_s ?_)
        refine r_iret hK rfl rfl d_X_copy_54 ?_
        exact hQ _ hX f51
      · skip
        have hp := bIn_0.mp h38
        refine r_aload hK d_X_copy_41 rfl ?_
        refine r_get hK lf_X_78 d_X_copy_43 (hR2.1) rfl ?_
        refine r_if_eq (tgt := 55) hK d_X_copy_46 rfl (fun h46 => ?_) (fun h46 => ?_)
        · skip
          have hp2 := bIn_0.mp h46
          rw [if_pos ⟨hp, hp2⟩] at hQ
          refine r_aload hK d_X_copy_55 rfl ?_
          refine r_get hK lf_X_90 d_X_copy_57 (hR.1) rfl ?_
          refine r_aload hK d_X_copy_60 rfl ?_
          refine r_get hK lf_X_90 d_X_copy_62 (hR2.1) rfl ?_
          refine r_icmp_eq (tgt := 74) hK d_X_copy_65 rfl (fun h65 => ?_) (fun h65 => ?_)
          · skip
            rw [if_pos h65] at hQ
            refine r_aload hK d_X_copy_74 rfl ?_
            refine r_iload_n hK d_X_copy_76 rfl ?_
            refine r_iload hK d_X_copy_77 rfl ?_
            refine r_v2 (k' := 1) hK lm_X_82 d_X_copy_79 ⟨_, hR.1⟩ (by decide) (Nat.le_of_ble_eq_true rfl) ?_
            refine c_R_hasPlaces hR (kc_s ?_)
            refine r_if_eq (tgt := 97) hK d_X_copy_82 rfl (fun h82 => ?_) (fun h82 => ?_)
            · skip
              have hh := bI_0.mp h82
              rw [if_neg (by simp [hh])] at hQ
              refine r_aload_n hK d_X_copy_97 rfl ?_
              refine r_iconst hK d_X_copy_98 kc_2 ?_
              refine r_v1 (k' := 1) hK lm_X_67 d_X_copy_99 ⟨_, hX.1.1⟩ (by decide) (Nat.le_of_ble_eq_true rfl) ?_
              refine c_X_found hX (fun G99 hX f99 => kc_s ?_)
              refine r_iret hK rfl rfl d_X_copy_102 ?_
              exact hQ _ hX f99
            · skip
              have hh := bI_n0.mp h82
              refine r_aload hK d_X_copy_85 rfl ?_
              refine r_iload hK d_X_copy_87 rfl ?_
              refine r_iload hK d_X_copy_89 rfl ?_
              refine r_v2 (k' := 1) hK lm_X_82 d_X_copy_91 ⟨_, hR2.1⟩ (by decide) (Nat.le_of_ble_eq_true rfl) ?_
              refine c_R_hasPlaces hR2 (kc_s ?_)
              refine r_if_ne (tgt := 103) hK d_X_copy_94 rfl (fun h94 => ?_) (fun h94 => ?_)
              · skip
                have hh2 := bI_n0.mp h94
                rw [if_pos ⟨hh, hh2⟩] at hQ
                have b1 := (hasP_iff hs).mp hh
                have b2 := (hasP_iff hs2).mp hh2
                have t1 : i.toInt = (nN i : Int) := by show i.toInt = ((i.toInt.toNat : Nat) : Int); omega
                have t2 : j.toInt = (nN j : Int) := by show j.toInt = ((j.toInt.toNat : Nat) : Int); omega
                have t3 : n.toInt = (nN n : Int) := by show n.toInt = ((n.toInt.toNat : Nat) : Int); omega
                have z1 : ¬ i < 0 := by rw [i_lt, ti_0]; omega
                have z2 : ¬ j < 0 := by rw [i_lt, ti_0]; omega
                have z3 : ¬ n < 0 := by rw [i_lt, ti_0]; omega
                refine r_aload hK d_X_copy_103 rfl ?_
                refine r_get hK lf_X_94 d_X_copy_105 (hR.1) rfl ?_
                refine r_iload_n hK d_X_copy_108 rfl ?_
                refine r_aload hK d_X_copy_109 rfl ?_
                refine r_get hK lf_X_94 d_X_copy_111 (hR2.1) rfl ?_
                refine r_iload hK d_X_copy_114 rfl ?_
                refine r_iload hK d_X_copy_116 rfl ?_
                refine r_copy hK wo_X_98 hR.2 hR2.2 z1 z2 z3 (show nN i + nN n ≤ 40 by omega) (show nN j + nN n ≤ 40 by omega) (by decide) (Nat.le_of_ble_eq_true rfl) d_X_copy_118 ?_
                have f118 : Frm G (gup G (b + 277 + 2 * y + 1) (.inl (0, 40, .inl (va_cpy g g2 (nN i) (nN j) (nN n))))) (b + 277 + 2 * y) 2 := Frm.up (by omega) (by omega)
                have hR3 : RX (gup G (b + 277 + 2 * y + 1) (.inl (0, 40, .inl (va_cpy g g2 (nN i) (nN j) (nN n))))) (b + 277 + 2 * y) _ _ _ _ := ⟨(gup_n (by omega)).trans hR2.1, gup_s⟩
                have hX := hX.sRi (f := va_cpy (ri x) (ri y) (nN i) (nN j) (nN n)) hy f118 ⟨_, hR3, fun k hk => by unfold va_cpy; split; exact hg _ (by omega); exact hg2 _ hk⟩
                refine r_aload_n hK d_X_copy_121 rfl ?_
                refine r_iload hK d_X_copy_122 rfl ?_
                refine r_v1 (k' := 1) hK lm_X_75 d_X_copy_124 ⟨_, hX.1.1⟩ (by decide) (Nat.le_of_ble_eq_true rfl) ?_
                refine c_X_foundNothing hX (fun G124 hX f124 => kc_s ?_)
                refine r_iret hK rfl rfl d_X_copy_127 ?_
                exact hQ _ hX ((f118.mono (by omega) (by omega)).tr f124)
              · skip
                have hh2 := bI_0.mp h94
                rw [if_neg (by simp [hh2])] at hQ
                refine r_aload_n hK d_X_copy_97 rfl ?_
                refine r_iconst hK d_X_copy_98 kc_2 ?_
                refine r_v1 (k' := 1) hK lm_X_67 d_X_copy_99 ⟨_, hX.1.1⟩ (by decide) (Nat.le_of_ble_eq_true rfl) ?_
                refine c_X_found hX (fun G99 hX f99 => kc_s ?_)
                refine r_iret hK rfl rfl d_X_copy_102 ?_
                exact hQ _ hX f99
          · skip
            rw [if_neg h65] at hQ
            refine r_aload_n hK d_X_copy_68 rfl ?_
            refine r_iconst hK d_X_copy_69 kc_5 ?_
            refine r_v1 (k' := 1) hK lm_X_67 d_X_copy_70 ⟨_, hX.1.1⟩ (by decide) (Nat.le_of_ble_eq_true rfl) ?_
            refine c_X_found hX (fun G70 hX f70 => kc_s ?_)
            refine r_iret hK rfl rfl d_X_copy_73 ?_
            exact hQ _ hX f70
        · skip
          have hp2 : ¬ rp y = true := fun q => h46 (bIn_0.mpr q)
          rw [if_neg (fun q => hp2 q.2)] at hQ
          refine r_aload_n hK d_X_copy_49 rfl ?_
          refine r_iconst hK d_X_copy_50 kc_1 ?_
          refine r_v1 (k' := 1) hK lm_X_67 d_X_copy_51 ⟨_, hX.1.1⟩ (by decide) (Nat.le_of_ble_eq_true rfl) ?_
          refine c_X_found hX (fun G51 hX f51 => kc_s ?_)
          refine r_iret hK rfl rfl d_X_copy_54 ?_
          exact hQ _ hX f51
    · skip
      have hc := bI_0.mp h11
      rw [opCopy, if_neg (by simp [hc])] at hQ
      refine r_ldc hK d_X_copy_14 lc_X_66 ?_
      refine r_iret hK rfl rfl d_X_copy_16 ?_
      exact hQ _ hX Frm.rf
