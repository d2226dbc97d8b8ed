theorem c_X_undo {E : gX} {S : Nat} {G : gG} {Q : Option Value → gG → Prop} {b : Nat} {st : Bool} {nw : Nat → Int32} {ac : Nat → Nat → Int32} {na : Nat} {ik : Nat → Bool} {im : Nat → Nat → Int32} {rp : Nat → Bool} {rl : Nat → Int32} {rs : Nat → Nat} {ri : Nat → Nat → Int32} {tp : Nat → Int32} {tn : Nat} {lf : Int32} {fd : Int32} {tr : Nat → Int32} {un : Nat} (hX : XV G b (st, nw, ac, na, ik, im, rp, rl, rs, ri, tp, tn, lf, fd, tr, un)) (hI : XPI (st, nw, ac, na, ik, im, rp, rl, rs, ri, tp, tn, lf, fd, tr, un)) (hQ : ∀ G' : gG, XV G' b (opUndo (st, nw, ac, na, ik, im, rp, rl, rs, ri, tp, tn, lf, fd, tr, un)).2 → Frm G G' b 309 → Q (some (.int (opUndo (st, nw, ac, na, ik, im, rp, rl, rs, ri, tp, tn, lf, fd, tr, un)).1)) G') : Runs E y_X_undo 4 0 S [.ref b] G Q := by
  refine Runs.of "ClockPost" [some (.ref b)] cw_X_undo (by decide) (by decide +kernel) rfl (Nat.le_of_ble_eq_true rfl) rfl (fun K hK => ?_)
  obtain ⟨o, ho, hA, hAJ, hAH⟩ := hX.acts
  have hn2 : nN ((if 1 ≤ na then ac (na - 1) else zV) 0) ≤ 6 := by
    by_cases q : 1 ≤ na
    · rw [if_pos q]; exact hI.2.2.2.2.2.1 _ (by omega)
    · rw [if_neg q]; decide
  refine r_aload_n hK d_X_undo_0 rfl ?_
  refine r_get hK lf_X_39 d_X_undo_1 (hX.1.1) rfl ?_
  refine r_aload_n hK d_X_undo_4 rfl ?_
  refine r_get hK lf_X_25 d_X_undo_5 (hX.1.1) rfl ?_
  refine r_v1 (k' := 3) hK lm_X_180 d_X_undo_8 ⟨_, hA.1⟩ (by decide) (Nat.le_of_ble_eq_true rfl) ?_
  refine c_A_takeBack (b := true) (v := if 1 ≤ na then ac (na - 1) else zV) hA ho hI.2.2.2.1 hX.now (fun q => by rw [if_pos q]; exact hAH _ (by omega)) hn2 (by omega) (fun G8 hA8 e8 f8 => kc_s ?_)
  refine r_if_eq (tgt := 24) hK d_X_undo_11 rfl (fun h11 => ?_) (fun h11 => ?_)
  · skip
    have hz : ¬ 1 ≤ na := by simpa using bI_0.mp h11
    rw [if_neg hz] at e8
    subst e8
    rw [opUndo, if_neg hz] at hQ
    refine r_ldc hK d_X_undo_24 lc_X_138 ?_
    refine r_iret hK rfl rfl d_X_undo_26 ?_
    first | exact hQ _ hX (f8.f (by omega) (by omega) (by omega) (by omega)) | exact hQ _ hX Frm.rf
  · skip
    have hz : 1 ≤ na := by simpa using bI_n0.mp h11
    rw [if_pos hz, if_pos hz] at e8
    rw [opUndo, if_pos hz] at hQ
    obtain ⟨G1, g1, g2⟩ := f8.sp
    have hst := hI.2.2.2.2.1 (by omega)
    have hX := hX.sA (ac' := ac) (na' := na - 1) (g1.mono (by omega) (by omega)) ⟨o, ho, hA8.frm g2.sm (by omega), fun i hi => (hAJ i hi).frm g1 (by omega), fun i hi => (hAH i (by omega)).frm g1 (by omega)⟩
    have hX := hX.sN g2 e8
    rw [← hst] at hX
    refine r_aload_n hK d_X_undo_14 rfl ?_
    refine r_get hK lf_X_39 d_X_undo_15 (hX.1.1) rfl ?_
    refine r_get hK lf_X_183 d_X_undo_18 (hA8.1) rfl ?_
    refine r_goto (tgt := 26) hK d_X_undo_21 rfl ?_
    refine r_iret hK rfl rfl d_X_undo_26 ?_
    first | exact hQ _ hX (f8.f (by omega) (by omega) (by omega) (by omega)) | exact hQ _ hX Frm.rf
theorem c_X_letter {E : gX} {S : Nat} {G : gG} {Q : Option Value → gG → Prop} {b : Nat} {st : Bool} {nw : Nat → Int32} {ac : Nat → Nat → Int32} {na : Nat} {ik : Nat → Bool} {im : Nat → Nat → Int32} {rp : Nat → Bool} {rl : Nat → Int32} {rs : Nat → Nat} {ri : Nat → Nat → Int32} {tp : Nat → Int32} {tn : Nat} {lf : Int32} {fd : Int32} {tr : Nat → Int32} {un : Nat} (hX : XV G b (st, nw, ac, na, ik, im, rp, rl, rs, ri, tp, tn, lf, fd, tr, un)) (hI : XPI (st, nw, ac, na, ik, im, rp, rl, rs, ri, tp, tn, lf, fd, tr, un)) {i q : Int32} (hQ : ∀ G' : gG, XV G' b (opLetter (st, nw, ac, na, ik, im, rp, rl, rs, ri, tp, tn, lf, fd, tr, un) i q).2 → Frm G G' b 309 → Q (some (.int (opLetter (st, nw, ac, na, ik, im, rp, rl, rs, ri, tp, tn, lf, fd, tr, un) i q).1)) G') : Runs E y_X_letter 4 0 S [.ref b, .int i, .int q] G Q := by
  refine Runs.of "ClockPost" [some (.ref b), some (.int i), some (.int q), none] cw_X_letter (by decide) (by decide +kernel) rfl (Nat.le_of_ble_eq_true rfl) rfl (fun K hK => ?_)
  refine r_aload_n hK d_X_letter_0 rfl ?_
  refine r_get hK lf_X_25 d_X_letter_1 (hX.1.1) rfl ?_
  refine r_iload_n hK d_X_letter_4 rfl ?_
  refine r_v1 (k' := 1) hK lm_X_152 d_X_letter_5 ⟨_, hX.now.o⟩ (by decide) (Nat.le_of_ble_eq_true rfl) ?_
  refine e_H_hasLetter hX.now (kc_s ?_)
  refine r_if_ne (tgt := 14) hK d_X_letter_8 rfl (fun h8 => ?_) (fun h8 => ?_)
  · skip
    have hb := bI_n0.mp h8
    simp only [opLetter, if_pos hb] at hQ
    obtain ⟨j, hj, hj6, rfl⟩ := hasL_ix hb hI.1
    rw [nN_nI (by omega)] at hQ
    refine r_aload_n hK d_X_letter_14 rfl ?_
    refine r_get hK lf_X_25 d_X_letter_15 (hX.1.1) rfl ?_
    refine r_get hK lf_X_171 d_X_letter_18 (hX.now.o) rfl ?_
    refine r_iload_n hK d_X_letter_21 rfl ?_
    refine g_let2 hK d_X_letter_22 hX.now hj6 ?_
    refine st_an_3_4 hK d_X_letter_23 trivial ?_
    refine r_iload_n hK d_X_letter_24 rfl ?_
    refine r_table (td := 110) hK d_X_letter_25 (by decide +kernel) rfl (fun h25 => ?_) ⟨fun h25 => ?_, fun h25 => ?_, fun h25 => ?_, fun h25 => ?_, fun h25 => ?_, fun h25 => ?_, trivial⟩
    · skip
      have z0 : ¬ q = 0 := fun e => by rw [e] at h25; revert h25; decide
      have z1 : ¬ q = 1 := fun e => by rw [e] at h25; revert h25; decide
      have z2 : ¬ q = 2 := fun e => by rw [e] at h25; revert h25; decide
      have z3 : ¬ q = 3 := fun e => by rw [e] at h25; revert h25; decide
      have z4 : ¬ q = 4 := fun e => by rw [e] at h25; revert h25; decide
      have z5 : ¬ q = 5 := fun e => by rw [e] at h25; revert h25; decide
      simp only [if_neg z0, if_neg z1, if_neg z2, if_neg z3, if_neg z4, if_neg z5] at hQ
      refine r_ldc hK d_X_letter_110 lc_X_66 ?_
      refine r_iret hK rfl rfl d_X_letter_112 ?_
      exact hQ _ hX Frm.rf
    · skip
      show K 64 _ _ _ _
      have hq : q = 0 := toI h25
      subst hq
      refine r_aload_n hK d_X_letter_64 rfl ?_
      refine r_get hK lf_X_175 d_X_letter_65 (hX.now.l hI.1 hj) rfl ?_
      refine r_iret hK rfl rfl d_X_letter_68 ?_
      exact hQ _ hX Frm.rf
    · skip
      show K 69 _ _ _ _
      have hq : q = 1 := toI h25
      subst hq
      refine r_aload_n hK d_X_letter_69 rfl ?_
      refine r_get hK lf_X_186 d_X_letter_70 (hX.now.l hI.1 hj) rfl ?_
      refine r_iret hK rfl rfl d_X_letter_73 ?_
      exact hQ _ hX Frm.rf
    · skip
      show K 74 _ _ _ _
      have hq : q = 2 := toI h25
      subst hq
      refine r_aload_n hK d_X_letter_74 rfl ?_
      refine r_get hK lf_X_189 d_X_letter_75 (hX.now.l hI.1 hj) rfl ?_
      refine r_iret hK rfl rfl d_X_letter_78 ?_
      exact hQ _ hX Frm.rf
    · skip
      show K 79 _ _ _ _
      have hq : q = 3 := toI h25
      subst hq
      refine r_aload_n hK d_X_letter_79 rfl ?_
      refine r_get hK lf_X_25 d_X_letter_80 (hX.1.1) rfl ?_
      refine r_iload_n hK d_X_letter_83 rfl ?_
      refine r_v1 (k' := 2) hK lm_X_155 d_X_letter_84 ⟨_, hX.now.o⟩ (by decide) (Nat.le_of_ble_eq_true rfl) ?_
      refine e_H_isBehind hX.now (kc_s ?_)
      refine r_if_eq (tgt := 94) hK d_X_letter_87 rfl (fun h87 => ?_) (fun h87 => ?_)
      · skip
        have hc := bI_0.mp h87
        rw [hc] at hQ
        refine r_iconst hK d_X_letter_94 kc_0 ?_
        refine r_iret hK rfl rfl d_X_letter_95 ?_
        exact hQ _ hX Frm.rf
      · skip
        have hc := bI_n0.mp h87
        rw [hc] at hQ
        refine r_iconst hK d_X_letter_90 kc_1 ?_
        refine r_goto (tgt := 95) hK d_X_letter_91 rfl ?_
        refine r_iret hK rfl rfl d_X_letter_95 ?_
        exact hQ _ hX Frm.rf
    · skip
      show K 96 _ _ _ _
      have hq : q = 4 := toI h25
      subst hq
      refine r_aload_n hK d_X_letter_96 rfl ?_
      refine r_get hK lf_X_192 d_X_letter_97 (hX.now.l hI.1 hj) rfl ?_
      refine r_iret hK rfl rfl d_X_letter_100 ?_
      exact hQ _ hX Frm.rf
    · skip
      show K 101 _ _ _ _
      have hq : q = 5 := toI h25
      subst hq
      refine r_aload_n hK d_X_letter_101 rfl ?_
      refine r_get hK lf_X_25 d_X_letter_102 (hX.1.1) rfl ?_
      refine r_iload_n hK d_X_letter_105 rfl ?_
      refine r_v1 (k' := 3) hK lm_X_195 d_X_letter_106 ⟨_, hX.now.o⟩ (by decide) (Nat.le_of_ble_eq_true rfl) ?_
      refine e_H_weightOf hX.now hI.1 hj (kc_s ?_)
      refine r_iret hK rfl rfl d_X_letter_109 ?_
      exact hQ _ hX Frm.rf
  · skip
    have hb := bI_0.mp h8
    simp only [opLetter, hb] at hQ
    refine r_ldc hK d_X_letter_11 lc_X_66 ?_
    refine r_iret hK rfl rfl d_X_letter_13 ?_
    exact hQ _ hX Frm.rf
theorem c_X_image {E : gX} {S : Nat} {G : gG} {Q : Option Value → gG → Prop} {b : Nat} {st : Bool} {nw : Nat → Int32} {ac : Nat → Nat → Int32} {na : Nat} {ik : Nat → Bool} {im : Nat → Nat → Int32} {rp : Nat → Bool} {rl : Nat → Int32} {rs : Nat → Nat} {ri : Nat → Nat → Int32} {tp : Nat → Int32} {tn : Nat} {lf : Int32} {fd : Int32} {tr : Nat → Int32} {un : Nat} (hX : XV G b (st, nw, ac, na, ik, im, rp, rl, rs, ri, tp, tn, lf, fd, tr, un)) (hI : XPI (st, nw, ac, na, ik, im, rp, rl, rs, ri, tp, tn, lf, fd, tr, un)) {k : Int32} (hQ : ∀ G' : gG, XV G' b (opImage (st, nw, ac, na, ik, im, rp, rl, rs, ri, tp, tn, lf, fd, tr, un) k).2 → Frm G G' b 309 → Q (some (.int (opImage (st, nw, ac, na, ik, im, rp, rl, rs, ri, tp, tn, lf, fd, tr, un) k).1)) G') : Runs E y_X_image 3 0 S [.ref b, .int k] G Q := by
  refine Runs.of "ClockPost" [some (.ref b), some (.int k)] cw_X_image (by decide) (by decide +kernel) rfl (Nat.le_of_ble_eq_true rfl) rfl (fun K hK => ?_)
  refine r_iload_n hK d_X_image_0 rfl ?_
  refine r_iconst hK d_X_image_1 kc_0 ?_
  refine r_iconst hK d_X_image_2 kc_1 ?_
  refine r_s3 (k' := 1) hK lm_X_62 d_X_image_3 (by decide) (Nat.le_of_ble_eq_true rfl) ?_
  refine c_X_isWithin (kc_s ?_)
  refine r_if_ne (tgt := 12) hK d_X_image_6 rfl (fun h6 => ?_) (fun h6 => ?_)
  · skip
    have hb := bI_n0.mp h6
    rw [opImage, if_pos hb] at hQ
    obtain ⟨j, hj, rfl⟩ := inB_1 hb
    rw [nN_nI (by omega)] at hQ
    refine r_aload_n hK d_X_image_12 rfl ?_
    refine r_get hK lf_X_25 d_X_image_13 (hX.1.1) rfl ?_
    refine r_get hK lf_X_135 d_X_image_16 (hX.now.o) rfl ?_
    refine r_if_ne (tgt := 25) hK d_X_image_19 rfl (fun h19 => ?_) (fun h19 => ?_)
    · skip
      have hc := bI_n0.mp h19
      rw [if_pos hc] at hQ
      refine r_aload_n hK d_X_image_25 rfl ?_
      refine r_get hK lf_X_32 d_X_image_26 (hX.1.1) rfl ?_
      refine r_iload_n hK d_X_image_29 rfl ?_
      refine g_img hK d_X_image_30 hX.1 hj ?_
      refine r_aload_n hK d_X_image_31 rfl ?_
      refine r_get hK lf_X_25 d_X_image_32 (hX.1.1) rfl ?_
      refine r_v1 (k' := 2) hK lm_X_122 d_X_image_35 ⟨_, (hX.imgs j hj).o⟩ (by decide) (Nat.le_of_ble_eq_true rfl) ?_
      refine e_H_become (hX.imgs j hj) hX.now hI.1 (by omega) (fun G35 hH f35 => kc_n ?_)
      have hX := hX.sI hj f35 hH
      rw [hc] at hX
      refine r_iconst hK d_X_image_38 kc_1 ?_
      refine r_iret hK rfl rfl d_X_image_39 ?_
      have hX2 := hX
      subst hc
      exact hQ _ hX2 (f35.mono (by omega) (by omega))
    · skip
      have hc := bI_0.mp h19
      rw [if_neg (by simp [hc])] at hQ
      refine r_ldc hK d_X_image_22 lc_X_138 ?_
      refine r_iret hK rfl rfl d_X_image_24 ?_
      exact hQ _ hX Frm.rf
  · skip
    have hb := bI_0.mp h6
    rw [opImage, if_neg (by simp [hb])] at hQ
    refine r_ldc hK d_X_image_9 lc_X_66 ?_
    refine r_iret hK rfl rfl d_X_image_11 ?_
    exact hQ _ hX Frm.rf
theorem c_X_restore {E : gX} {S : Nat} {G : gG} {Q : Option Value → gG → Prop} {b : Nat} {st : Bool} {nw : Nat → Int32} {ac : Nat → Nat → Int32} {na : Nat} {ik : Nat → Bool} {im : Nat → Nat → Int32} {rp : Nat → Bool} {rl : Nat → Int32} {rs : Nat → Nat} {ri : Nat → Nat → Int32} {tp : Nat → Int32} {tn : Nat} {lf : Int32} {fd : Int32} {tr : Nat → Int32} {un : Nat} (hX : XV G b (st, nw, ac, na, ik, im, rp, rl, rs, ri, tp, tn, lf, fd, tr, un)) (hI : XPI (st, nw, ac, na, ik, im, rp, rl, rs, ri, tp, tn, lf, fd, tr, un)) {k : Int32} (hQ : ∀ G' : gG, XV G' b (opRestore (st, nw, ac, na, ik, im, rp, rl, rs, ri, tp, tn, lf, fd, tr, un) k).2 → Frm G G' b 309 → Q (some (.int (opRestore (st, nw, ac, na, ik, im, rp, rl, rs, ri, tp, tn, lf, fd, tr, un) k).1)) G') : Runs E y_X_restore 3 0 S [.ref b, .int k] G Q := by
  refine Runs.of "ClockPost" [some (.ref b), some (.int k)] cw_X_restore (by decide) (by decide +kernel) rfl (Nat.le_of_ble_eq_true rfl) rfl (fun K hK => ?_)
  refine r_iload_n hK d_X_restore_0 rfl ?_
  refine r_iconst hK d_X_restore_1 kc_0 ?_
  refine r_iconst hK d_X_restore_2 kc_1 ?_
  refine r_s3 (k' := 1) hK lm_X_62 d_X_restore_3 (by decide) (Nat.le_of_ble_eq_true rfl) ?_
  refine c_X_isWithin (kc_s ?_)
  refine r_if_ne (tgt := 12) hK d_X_restore_6 rfl (fun h6 => ?_) (fun h6 => ?_)
  · skip
    have hb := bI_n0.mp h6
    rw [opRestore, if_pos hb] at hQ
    obtain ⟨j, hj, rfl⟩ := inB_1 hb
    rw [nN_nI (by omega)] at hQ
    refine r_aload_n hK d_X_restore_12 rfl ?_
    refine r_get hK lf_X_32 d_X_restore_13 (hX.1.1) rfl ?_
    refine r_iload_n hK d_X_restore_16 rfl ?_
    refine g_img hK d_X_restore_17 hX.1 hj ?_
    refine r_get hK lf_X_135 d_X_restore_18 ((hX.imgs j hj).o) rfl ?_
    refine r_if_ne (tgt := 27) hK d_X_restore_21 rfl (fun h21 => ?_) (fun h21 => ?_)
    · skip
      have hc := bI_n0.mp h21
      rw [if_pos hc] at hQ
      refine r_aload_n hK d_X_restore_27 rfl ?_
      refine r_get hK lf_X_25 d_X_restore_28 (hX.1.1) rfl ?_
      refine r_aload_n hK d_X_restore_31 rfl ?_
      refine r_get hK lf_X_32 d_X_restore_32 (hX.1.1) rfl ?_
      refine r_iload_n hK d_X_restore_35 rfl ?_
      refine g_img hK d_X_restore_36 hX.1 hj ?_
      refine r_v1 (k' := 2) hK lm_X_122 d_X_restore_37 ⟨_, hX.now.o⟩ (by decide) (Nat.le_of_ble_eq_true rfl) ?_
      refine e_H_become hX.now (hX.imgs j hj) (hI.2.2.2.2.2.2.1 j hj) (by omega) (fun G37 hH f37 => kc_n ?_)
      rw [hc] at hH
      have hX := hX.sN f37 hH
      obtain ⟨o, ho, hA, hAJ, hAH⟩ := hX.acts
      refine r_aload_n hK d_X_restore_40 rfl ?_
      refine r_get hK lf_X_39 d_X_restore_41 (hX.1.1) rfl ?_
      refine r_v0 (k' := 1) hK lm_X_126 d_X_restore_44 ⟨_, hA.1⟩ (by decide) (Nat.le_of_ble_eq_true rfl) ?_
      refine c_A_forgetAll hA (fun G44 hA f44 => kc_n ?_)
      have hX := hX.sA (ac' := ac) (na' := 0) (f44.mono (by omega) (by omega)) ⟨o, ho, hA, fun i hi => (hAJ i hi).frm f44 (by omega), fun i hi => absurd hi (by omega)⟩
      refine r_iconst hK d_X_restore_47 kc_1 ?_
      refine r_iret hK rfl rfl d_X_restore_48 ?_
      exact hQ _ hX ((f37.mono (by omega) (by omega)).tr (f44.mono (by omega) (by omega)))
    · skip
      have hc := bI_0.mp h21
      rw [if_neg (by simp [hc])] at hQ
      refine r_ldc hK d_X_restore_24 lc_X_138 ?_
      refine r_iret hK rfl rfl d_X_restore_26 ?_
      exact hQ _ hX Frm.rf
  · skip
    have hb := bI_0.mp h6
    rw [opRestore, if_neg (by simp [hb])] at hQ
    refine r_ldc hK d_X_restore_9 lc_X_66 ?_
    refine r_iret hK rfl rfl d_X_restore_11 ?_
    exact hQ _ hX Frm.rf
theorem c_X_kind {E : gX} {S : Nat} {G : gG} {Q : Option Value → gG → Prop} {b : Nat} {st : Bool} {nw : Nat → Int32} {ac : Nat → Nat → Int32} {na : Nat} {ik : Nat → Bool} {im : Nat → Nat → Int32} {rp : Nat → Bool} {rl : Nat → Int32} {rs : Nat → Nat} {ri : Nat → Nat → Int32} {tp : Nat → Int32} {tn : Nat} {lf : Int32} {fd : Int32} {tr : Nat → Int32} {un : Nat} (hX : XV G b (st, nw, ac, na, ik, im, rp, rl, rs, ri, tp, tn, lf, fd, tr, un)) (hI : XPI (st, nw, ac, na, ik, im, rp, rl, rs, ri, tp, tn, lf, fd, tr, un)) {i : Int32} (hQ : ∀ G' : gG, XV G' b (opKind (st, nw, ac, na, ik, im, rp, rl, rs, ri, tp, tn, lf, fd, tr, un) i).2 → Frm G G' b 309 → Q (some (.int (opKind (st, nw, ac, na, ik, im, rp, rl, rs, ri, tp, tn, lf, fd, tr, un) i).1)) G') : Runs E y_X_kind 2 0 S [.ref b, .int i] G Q := by
  refine Runs.of "ClockPost" [some (.ref b), some (.int i)] cw_X_kind (by decide) (by decide +kernel) rfl (Nat.le_of_ble_eq_true rfl) rfl (fun K hK => ?_)
  refine r_aload_n hK d_X_kind_0 rfl ?_
  refine r_get hK lf_X_25 d_X_kind_1 (hX.1.1) rfl ?_
  refine r_iload_n hK d_X_kind_4 rfl ?_
  refine r_v1 (k' := 1) hK lm_X_152 d_X_kind_5 ⟨_, hX.now.o⟩ (by decide) (Nat.le_of_ble_eq_true rfl) ?_
  refine e_H_hasLetter hX.now (kc_s ?_)
  refine r_if_eq (tgt := 26) hK d_X_kind_8 rfl (fun h8 => ?_) (fun h8 => ?_)
  · skip
    have hb := bI_0.mp h8
    simp only [opKind, hb] at hQ
    refine r_ldc hK d_X_kind_26 lc_X_66 ?_
    refine r_iret hK rfl rfl d_X_kind_28 ?_
    exact hQ _ hX Frm.rf
  · skip
    have hb := bI_n0.mp h8
    simp only [opKind, if_pos hb] at hQ
    obtain ⟨j, hj, hj6, rfl⟩ := hasL_ix hb hI.1
    rw [nN_nI (by omega)] at hQ
    refine r_aload_n hK d_X_kind_11 rfl ?_
    refine r_get hK lf_X_25 d_X_kind_12 (hX.1.1) rfl ?_
    refine r_get hK lf_X_171 d_X_kind_15 (hX.now.o) rfl ?_
    refine r_iload_n hK d_X_kind_18 rfl ?_
    refine g_let2 hK d_X_kind_19 hX.now hj6 ?_
    refine r_get hK lf_X_277 d_X_kind_20 (hX.now.l hI.1 hj) rfl ?_
    refine r_goto (tgt := 28) hK d_X_kind_23 rfl ?_
    refine r_iret hK rfl rfl d_X_kind_28 ?_
    exact hQ _ hX Frm.rf
theorem c_X_as {E : gX} {S : Nat} {G : gG} {Q : Option Value → gG → Prop} {b : Nat} {st : Bool} {nw : Nat → Int32} {ac : Nat → Nat → Int32} {na : Nat} {ik : Nat → Bool} {im : Nat → Nat → Int32} {rp : Nat → Bool} {rl : Nat → Int32} {rs : Nat → Nat} {ri : Nat → Nat → Int32} {tp : Nat → Int32} {tn : Nat} {lf : Int32} {fd : Int32} {tr : Nat → Int32} {un : Nat} (hX : XV G b (st, nw, ac, na, ik, im, rp, rl, rs, ri, tp, tn, lf, fd, tr, un)) (hI : XPI (st, nw, ac, na, ik, im, rp, rl, rs, ri, tp, tn, lf, fd, tr, un)) {i k : Int32} (hQ : ∀ G' : gG, XV G' b (opAs (st, nw, ac, na, ik, im, rp, rl, rs, ri, tp, tn, lf, fd, tr, un) i k).2 → Frm G G' b 309 → Q (some (.int (opAs (st, nw, ac, na, ik, im, rp, rl, rs, ri, tp, tn, lf, fd, tr, un) i k).1)) G') : Runs E y_X_as 4 0 S [.ref b, .int i, .int k] G Q := by
  refine Runs.of "ClockPost" [some (.ref b), some (.int i), some (.int k)] cw_X_as (by decide) (by decide +kernel) rfl (Nat.le_of_ble_eq_true rfl) rfl (fun K hK => ?_)
  refine r_aload_n hK d_X_as_0 rfl ?_
  refine r_get hK lf_X_25 d_X_as_1 (hX.1.1) rfl ?_
  refine r_iload_n hK d_X_as_4 rfl ?_
  refine r_v1 (k' := 1) hK lm_X_152 d_X_as_5 ⟨_, hX.now.o⟩ (by decide) (Nat.le_of_ble_eq_true rfl) ?_
  refine e_H_hasLetter hX.now (kc_s ?_)
  refine r_if_eq (tgt := 20) hK d_X_as_8 rfl (fun h8 => ?_) (fun h8 => ?_)
  · skip
    have hb := bI_0.mp h8
    rw [opAs, if_neg (by simp [hb])] at hQ
    refine r_ldc hK d_X_as_20 lc_X_66 ?_
    refine r_iret hK rfl rfl d_X_as_22 ?_
    exact hQ _ hX Frm.rf
  · skip
    have hb := bI_n0.mp h8
    refine r_iload_n hK d_X_as_11 rfl ?_
    refine r_iconst hK d_X_as_12 kc_0 ?_
    refine r_iconst hK d_X_as_13 kc_5 ?_
    refine r_s3 (k' := 1) hK lm_X_62 d_X_as_14 (by decide) (Nat.le_of_ble_eq_true rfl) ?_
    refine c_X_isWithin (kc_s ?_)
    refine r_if_ne (tgt := 23) hK d_X_as_17 rfl (fun h17 => ?_) (fun h17 => ?_)
    · skip
      have hc := bI_n0.mp h17
      rw [opAs, if_pos ⟨hb, hc⟩] at hQ
      obtain ⟨j, hj, hj6, rfl⟩ := hasL_ix hb hI.1
      rw [nN_nI (by omega)] at hQ
      refine r_aload_n hK d_X_as_23 rfl ?_
      refine r_get hK lf_X_25 d_X_as_24 (hX.1.1) rfl ?_
      refine r_get hK lf_X_171 d_X_as_27 (hX.now.o) rfl ?_
      refine r_iload_n hK d_X_as_30 rfl ?_
      refine g_let2 hK d_X_as_31 hX.now hj6 ?_
      refine r_get hK lf_X_277 d_X_as_32 (hX.now.l hI.1 hj) rfl ?_
      refine r_iload_n hK d_X_as_35 rfl ?_
      refine r_s2 (k' := 3) hK lm_X_280 d_X_as_36 (by decide) (Nat.le_of_ble_eq_true rfl) ?_
      refine c_X_isOfKind (kc_s ?_)
      refine r_if_eq (tgt := 50) hK d_X_as_39 rfl (fun h39 => ?_) (fun h39 => ?_)
      · skip
        have hz := bI_0.mp h39
        rw [if_neg (by simp [hz])] at hQ
        refine r_aload_n hK d_X_as_50 rfl ?_
        refine r_iconst hK d_X_as_51 kc_3 ?_
        refine r_v1 (k' := 1) hK lm_X_67 d_X_as_52 ⟨_, hX.1.1⟩ (by decide) (Nat.le_of_ble_eq_true rfl) ?_
        refine c_X_found hX (fun G52 hX f52 => kc_s ?_)
        refine r_iret hK rfl rfl d_X_as_55 ?_
        first | exact hQ _ hX f44 | exact hQ _ hX f52
      · skip
        have hz := bI_n0.mp h39
        rw [if_pos hz] at hQ
        refine r_aload_n hK d_X_as_42 rfl ?_
        refine r_iload_n hK d_X_as_43 rfl ?_
        refine r_v1 (k' := 1) hK lm_X_75 d_X_as_44 ⟨_, hX.1.1⟩ (by decide) (Nat.le_of_ble_eq_true rfl) ?_
        refine c_X_foundNothing hX (fun G44 hX f44 => kc_s ?_)
        refine r_goto (tgt := 55) hK d_X_as_47 rfl ?_
        refine r_iret hK rfl rfl d_X_as_55 ?_
        first | exact hQ _ hX f44 | exact hQ _ hX f52
    · skip
      have hc := bI_0.mp h17
      rw [opAs, if_neg (by simp [hc])] at hQ
      refine r_ldc hK d_X_as_20 lc_X_66 ?_
      refine r_iret hK rfl rfl d_X_as_22 ?_
      exact hQ _ hX Frm.rf
theorem c_X_ask {E : gX} {S : Nat} {G : gG} {Q : Option Value → gG → Prop} {b : Nat} {st : Bool} {nw : Nat → Int32} {ac : Nat → Nat → Int32} {na : Nat} {ik : Nat → Bool} {im : Nat → Nat → Int32} {rp : Nat → Bool} {rl : Nat → Int32} {rs : Nat → Nat} {ri : Nat → Nat → Int32} {tp : Nat → Int32} {tn : Nat} {lf : Int32} {fd : Int32} {tr : Nat → Int32} {un : Nat} (hX : XV G b (st, nw, ac, na, ik, im, rp, rl, rs, ri, tp, tn, lf, fd, tr, un)) (hI : XPI (st, nw, ac, na, ik, im, rp, rl, rs, ri, tp, tn, lf, fd, tr, un)) {i q : Int32} (hQ : ∀ G' : gG, XV G' b (opAsk (st, nw, ac, na, ik, im, rp, rl, rs, ri, tp, tn, lf, fd, tr, un) i q).2 → Frm G G' b 309 → Q (some (.int (opAsk (st, nw, ac, na, ik, im, rp, rl, rs, ri, tp, tn, lf, fd, tr, un) i q).1)) G') : Runs E y_X_ask 31 0 S [.ref b, .int i, .int q] G Q := by
  refine Runs.of "ClockPost" [some (.ref b), some (.int i), some (.int q), none] cw_X_ask (by decide) (by decide +kernel) rfl (Nat.le_of_ble_eq_true rfl) rfl (fun K hK => ?_)
  refine r_aload_n hK d_X_ask_0 rfl ?_
  refine r_get hK lf_X_25 d_X_ask_1 (hX.1.1) rfl ?_
  refine r_iload_n hK d_X_ask_4 rfl ?_
  refine r_v1 (k' := 1) hK lm_X_152 d_X_ask_5 ⟨_, hX.now.o⟩ (by decide) (Nat.le_of_ble_eq_true rfl) ?_
  refine e_H_hasLetter hX.now (kc_s ?_)
  refine r_if_eq (tgt := 20) hK d_X_ask_8 rfl (fun h8 => ?_) (fun h8 => ?_)
  · skip
    have hb := bI_0.mp h8
    rw [opAsk, if_neg (by simp [hb])] at hQ
    refine r_ldc hK d_X_ask_20 lc_X_66 ?_
    refine r_iret hK rfl rfl d_X_ask_22 ?_
    exact hQ _ hX Frm.rf
  · skip
    have hb := bI_n0.mp h8
    refine r_iload_n hK d_X_ask_11 rfl ?_
    refine r_iconst hK d_X_ask_12 kc_0 ?_
    refine r_iconst hK d_X_ask_13 kc_1 ?_
    refine r_s3 (k' := 1) hK lm_X_62 d_X_ask_14 (by decide) (Nat.le_of_ble_eq_true rfl) ?_
    refine c_X_isWithin (kc_s ?_)
    refine r_if_ne (tgt := 23) hK d_X_ask_17 rfl (fun h17 => ?_) (fun h17 => ?_)
    · skip
      have hc := bI_n0.mp h17
      rw [opAsk, if_pos ⟨hb, hc⟩] at hQ
      obtain ⟨j, hj, hj6, rfl⟩ := hasL_ix hb hI.1
      rw [nN_nI (by omega)] at hQ
      refine r_aload_n hK d_X_ask_23 rfl ?_
      refine r_get hK lf_X_53 d_X_ask_24 (hX.1.1) rfl ?_
      refine r_iconst hK d_X_ask_27 kc_0 ?_
      refine p_T_length (x := nI 0) hK lf_X_283 d_X_ask_28 hX.tru (fun G28 hT f28 => ?_)
      have hX := hX.sU (tr' := tr) (un' := 0) f28 hT
      refine r_aload_n hK d_X_ask_31 rfl ?_
      refine r_get hK lf_X_25 d_X_ask_32 (hX.1.1) rfl ?_
      refine r_get hK lf_X_171 d_X_ask_35 (hX.now.o) rfl ?_
      refine r_iload_n hK d_X_ask_38 rfl ?_
      refine g_let2 hK d_X_ask_39 hX.now hj6 ?_
      refine st_an_3_4 hK d_X_ask_40 trivial ?_
      refine r_aload_n hK d_X_ask_41 rfl ?_
      refine r_get hK lf_X_53 d_X_ask_42 (hX.1.1) rfl ?_
      refine r_iload_n hK d_X_ask_45 rfl ?_
      refine r_aload_n hK d_X_ask_46 rfl ?_
      refine r_get hK lf_X_277 d_X_ask_47 (hX.now.l hI.1 hj) rfl ?_
      refine r_s2 (k' := 2) hK lm_X_284 d_X_ask_50 (by decide) (Nat.le_of_ble_eq_true rfl) ?_
      refine c_X_bodyOf (kc_s ?_)
      refine r_aload_n hK d_X_ask_53 rfl ?_
      refine r_iload_n hK d_X_ask_54 rfl ?_
      refine r_iconst hK d_X_ask_55 kc_0 ?_
      refine r_s5 (k' := 3 + 17) hK lm_X_287 d_X_ask_56 (by decide) (Nat.le_of_ble_eq_true rfl) ?_
      refine c_X_begin 17 (t := (tr, 0)) (by omega) hX.tru (Nat.zero_le _) (hX.now.l hI.1 hj) (by omega) (fun G56 hT f56 => kc_s ?_)
      have hX := hX.sU f56 hT
      refine r_iret hK rfl rfl d_X_ask_59 ?_
      exact hQ _ hX ((f28.mono (by omega) (by omega)).tr (f56.mono (by omega) (by omega)))
    · skip
      have hc := bI_0.mp h17
      rw [opAsk, if_neg (by simp [hc])] at hQ
      refine r_ldc hK d_X_ask_20 lc_X_66 ?_
      refine r_iret hK rfl rfl d_X_ask_22 ?_
      exact hQ _ hX Frm.rf
theorem c_X_trace {E : gX} {S : Nat} {G : gG} {Q : Option Value → gG → Prop} {b : Nat} {st : Bool} {nw : Nat → Int32} {ac : Nat → Nat → Int32} {na : Nat} {ik : Nat → Bool} {im : Nat → Nat → Int32} {rp : Nat → Bool} {rl : Nat → Int32} {rs : Nat → Nat} {ri : Nat → Nat → Int32} {tp : Nat → Int32} {tn : Nat} {lf : Int32} {fd : Int32} {tr : Nat → Int32} {un : Nat} (hX : XV G b (st, nw, ac, na, ik, im, rp, rl, rs, ri, tp, tn, lf, fd, tr, un)) (hI : XPI (st, nw, ac, na, ik, im, rp, rl, rs, ri, tp, tn, lf, fd, tr, un)) {i : Int32} (hQ : ∀ G' : gG, XV G' b (opTrace (st, nw, ac, na, ik, im, rp, rl, rs, ri, tp, tn, lf, fd, tr, un) i).2 → Frm G G' b 309 → Q (some (.int (opTrace (st, nw, ac, na, ik, im, rp, rl, rs, ri, tp, tn, lf, fd, tr, un) i).1)) G') : Runs E y_X_trace 2 0 S [.ref b, .int i] G Q := by
  refine Runs.of "ClockPost" [some (.ref b), some (.int i)] cw_X_trace (by decide) (by decide +kernel) rfl (Nat.le_of_ble_eq_true rfl) rfl (fun K hK => ?_)
  refine r_iload_n hK d_X_trace_0 rfl ?_
  refine r_iconst hK d_X_trace_1 kc_0 ?_
  refine r_aload_n hK d_X_trace_2 rfl ?_
  refine r_get hK lf_X_53 d_X_trace_3 (hX.1.1) rfl ?_
  refine r_get hK lf_X_283 d_X_trace_6 (hX.tru.1) rfl ?_
  refine r_iconst hK d_X_trace_9 kc_1 ?_
  refine r_isub hK d_X_trace_10 ?_
  refine r_s3 (k' := 1) hK lm_X_62 d_X_trace_11 (by decide) (Nat.le_of_ble_eq_true rfl) ?_
  refine c_X_isWithin (kc_s ?_)
  refine r_if_eq (tgt := 29) hK d_X_trace_14 rfl (fun h14 => ?_) (fun h14 => ?_)
  · skip
    have hb := bI_0.mp h14
    simp only [opTrace, hb] at hQ
    refine r_ldc hK d_X_trace_29 lc_X_212 ?_
    refine r_iret hK rfl rfl d_X_trace_31 ?_
    exact hQ _ hX Frm.rf
  · skip
    have hb := bI_n0.mp h14
    simp only [opTrace, if_pos hb] at hQ
    have hin : vp_in i 16 := by
      have h16 := hI.2.2.2.2.2.2.2.2.2
      simp only [inB, Bool.and_eq_true, decide_eq_true_eq, i_le, ti_0] at hb
      have e : (nI un - 1).toInt = (un : Int) - 1 := by rw [sub_toI (by rw [nI_toInt (by omega), ti_1]; omega), nI_toInt (by omega), ti_1]
      rw [e] at hb
      exact vp_in_iff.mpr (by omega)
    refine r_aload_n hK d_X_trace_17 rfl ?_
    refine r_get hK lf_X_53 d_X_trace_18 (hX.1.1) rfl ?_
    refine r_get hK lf_X_291 d_X_trace_21 (hX.tru.1) rfl ?_
    refine r_iload_n hK d_X_trace_24 rfl ?_
    refine r_iald hK d_X_trace_25 hX.tru.2 hin ?_
    refine r_goto (tgt := 31) hK d_X_trace_26 rfl ?_
    refine r_iret hK rfl rfl d_X_trace_31 ?_
    exact hQ _ hX Frm.rf
theorem c_X_count {E : gX} {S : Nat} {G : gG} {Q : Option Value → gG → Prop} {b : Nat} {st : Bool} {nw : Nat → Int32} {ac : Nat → Nat → Int32} {na : Nat} {ik : Nat → Bool} {im : Nat → Nat → Int32} {rp : Nat → Bool} {rl : Nat → Int32} {rs : Nat → Nat} {ri : Nat → Nat → Int32} {tp : Nat → Int32} {tn : Nat} {lf : Int32} {fd : Int32} {tr : Nat → Int32} {un : Nat} (hX : XV G b (st, nw, ac, na, ik, im, rp, rl, rs, ri, tp, tn, lf, fd, tr, un)) (hI : XPI (st, nw, ac, na, ik, im, rp, rl, rs, ri, tp, tn, lf, fd, tr, un)) {q : Int32} (hQ : ∀ G' : gG, XV G' b (opCount (st, nw, ac, na, ik, im, rp, rl, rs, ri, tp, tn, lf, fd, tr, un) q).2 → Frm G G' b 309 → Q (some (.int (opCount (st, nw, ac, na, ik, im, rp, rl, rs, ri, tp, tn, lf, fd, tr, un) q).1)) G') : Runs E y_X_count 4 0 S [.ref b, .int q] G Q := by
  refine Runs.of "ClockPost" [some (.ref b), some (.int q)] cw_X_count (by decide) (by decide +kernel) rfl (Nat.le_of_ble_eq_true rfl) rfl (fun K hK => ?_)
  refine r_iload_n hK d_X_count_0 rfl ?_
  refine r_table (td := 133) hK d_X_count_1 (by decide +kernel) rfl (fun h1 => ?_) ⟨fun h1 => ?_, fun h1 => ?_, fun h1 => ?_, fun h1 => ?_, fun h1 => ?_, fun h1 => ?_, fun h1 => ?_, fun h1 => ?_, fun h1 => ?_, fun h1 => ?_, trivial⟩
  · skip
    have z0 : ¬ q = 0 := fun e => by rw [e] at h1; revert h1; decide
    have z1 : ¬ q = 1 := fun e => by rw [e] at h1; revert h1; decide
    have z2 : ¬ q = 2 := fun e => by rw [e] at h1; revert h1; decide
    have z3 : ¬ q = 3 := fun e => by rw [e] at h1; revert h1; decide
    have z4 : ¬ q = 4 := fun e => by rw [e] at h1; revert h1; decide
    have z5 : ¬ q = 5 := fun e => by rw [e] at h1; revert h1; decide
    have z6 : ¬ q = 6 := fun e => by rw [e] at h1; revert h1; decide
    have z7 : ¬ q = 7 := fun e => by rw [e] at h1; revert h1; decide
    have z8 : ¬ q = 8 := fun e => by rw [e] at h1; revert h1; decide
    have z9 : ¬ q = 9 := fun e => by rw [e] at h1; revert h1; decide
    simp only [opCount, if_neg z0, if_neg z1, if_neg z2, if_neg z3, if_neg z4, if_neg z5, if_neg z6, if_neg z7, if_neg z8, if_neg z9] at hQ
    refine r_ldc hK d_X_count_133 lc_X_66 ?_
    refine r_iret hK rfl rfl d_X_count_135 ?_
    exact hQ _ hX Frm.rf
  · skip
    show K 56 _ _ _ _
    have hq : q = 0 := toI h1
    subst hq
    refine r_aload_n hK d_X_count_56 rfl ?_
    refine r_v0 (k' := 1) hK lm_X_294 d_X_count_57 ⟨_, hX.1.1⟩ (by decide) (Nat.le_of_ble_eq_true rfl) ?_
    refine c_X_rowsThere hX (kc_s ?_)
    refine r_iret hK rfl rfl d_X_count_60 ?_
    exact hQ _ hX Frm.rf
  · skip
    show K 61 _ _ _ _
    have hq : q = 1 := toI h1
    subst hq
    refine r_aload_n hK d_X_count_61 rfl ?_
    refine r_get hK lf_X_25 d_X_count_62 (hX.1.1) rfl ?_
    refine r_get hK lf_X_129 d_X_count_65 (hX.now.o) rfl ?_
    refine r_iret hK rfl rfl d_X_count_68 ?_
    exact hQ _ hX Frm.rf
  · skip
    show K 69 _ _ _ _
    have hq : q = 2 := toI h1
    subst hq
    refine r_aload_n hK d_X_count_69 rfl ?_
    refine r_get hK lf_X_25 d_X_count_70 (hX.1.1) rfl ?_
    refine r_get hK lf_X_139 d_X_count_73 (hX.now.o) rfl ?_
    refine r_iret hK rfl rfl d_X_count_76 ?_
    exact hQ _ hX Frm.rf
  · skip
    show K 77 _ _ _ _
    have hq : q = 3 := toI h1
    subst hq
    refine r_aload_n hK d_X_count_77 rfl ?_
    refine r_get hK lf_X_25 d_X_count_78 (hX.1.1) rfl ?_
    refine r_get hK lf_X_149 d_X_count_81 (hX.now.o) rfl ?_
    refine r_iret hK rfl rfl d_X_count_84 ?_
    exact hQ _ hX Frm.rf
  · skip
    show K 85 _ _ _ _
    have hq : q = 4 := toI h1
    subst hq
    refine r_aload_n hK d_X_count_85 rfl ?_
    refine r_get hK lf_X_25 d_X_count_86 (hX.1.1) rfl ?_
    refine r_v0 (k' := 3) hK lm_X_168 d_X_count_89 ⟨_, hX.now.o⟩ (by decide) (Nat.le_of_ble_eq_true rfl) ?_
    refine e_H_thickness hX.now hI.1 (kc_s ?_)
    refine r_iret hK rfl rfl d_X_count_92 ?_
    exact hQ _ hX Frm.rf
  · skip
    show K 93 _ _ _ _
    have hq : q = 5 := toI h1
    subst hq
    refine r_aload_n hK d_X_count_93 rfl ?_
    refine r_get hK lf_X_25 d_X_count_94 (hX.1.1) rfl ?_
    refine r_get hK lf_X_209 d_X_count_97 (hX.now.o) rfl ?_
    refine r_iret hK rfl rfl d_X_count_100 ?_
    exact hQ _ hX Frm.rf
  · skip
    show K 101 _ _ _ _
    have hq : q = 6 := toI h1
    subst hq
    obtain ⟨o, ho, hA, -⟩ := hX.acts
    refine r_aload_n hK d_X_count_101 rfl ?_
    refine r_get hK lf_X_39 d_X_count_102 (hX.1.1) rfl ?_
    refine r_get hK lf_X_183 d_X_count_105 (hA.1) rfl ?_
    refine r_iret hK rfl rfl d_X_count_108 ?_
    exact hQ _ hX Frm.rf
  · skip
    show K 109 _ _ _ _
    have hq : q = 7 := toI h1
    subst hq
    obtain ⟨pl, nb, hP⟩ := hX.tape
    refine r_aload_n hK d_X_count_109 rfl ?_
    refine r_get hK lf_X_18 d_X_count_110 (hX.1.1) rfl ?_
    refine r_get hK lf_X_110 d_X_count_113 (hP.1) rfl ?_
    refine r_iret hK rfl rfl d_X_count_116 ?_
    exact hQ _ hX Frm.rf
  · skip
    show K 117 _ _ _ _
    have hq : q = 8 := toI h1
    subst hq
    refine r_aload_n hK d_X_count_117 rfl ?_
    refine r_get hK lf_X_25 d_X_count_118 (hX.1.1) rfl ?_
    refine r_get hK lf_X_162 d_X_count_121 (hX.now.o) rfl ?_
    refine r_iret hK rfl rfl d_X_count_124 ?_
    exact hQ _ hX Frm.rf
  · skip
    show K 125 _ _ _ _
    have hq : q = 9 := toI h1
    subst hq
    refine r_aload_n hK d_X_count_125 rfl ?_
    refine r_get hK lf_X_25 d_X_count_126 (hX.1.1) rfl ?_
    refine r_get hK lf_X_297 d_X_count_129 (hX.now.o) rfl ?_
    refine r_iret hK rfl rfl d_X_count_132 ?_
    exact hQ _ hX Frm.rf
