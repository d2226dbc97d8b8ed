theorem inB_d {d : Int32} (h : inB d 0 60 = true) : ∃ j : Nat, j < 61 ∧ d = nI j := by
  simp only [inB, Bool.and_eq_true, decide_eq_true_eq] at h
  obtain ⟨j, hj, rfl⟩ := nI_of (Int32.not_lt.mpr h.1)
  exact ⟨j, by have := (lec (n := 60) (by decide) hj).mp h.2; omega, rfl⟩
theorem passV_m {v : Nat → Int32} {n k : Nat} (h : Vk v n) (hk : (passV v).2 = some k) : k < n ∧ n ≤ 6 := by
  rw [passV, h.nN, fallV_f h.day (cnB_le _)] at hk
  exact ⟨(nxt_lt hk).1, h.1⟩
theorem c_M_layTried {E : gX} {S : Nat} {G : gG} {Q : Option Value → gG → Prop} {c : Nat} {f w : Nat → Int32} {A : Nat → Nat → Int32} (hM : MV G c f w A) (hQ : ∀ G' : gG, MV G' c f (putT w 972 (tw w 0)) A → Frm G G' c 10 → Q none G') : Runs E y_M_layTried 2 0 S [.ref c] G Q := by
  refine Runs.of "ClockPostModel" [some (.ref c)] cw_M_layTried (by decide) (by decide +kernel) rfl (Nat.le_of_ble_eq_true rfl) rfl (fun K hK => ?_)
  refine r_aload_n hK d_M_layTried_0 rfl ?_
  refine r_iconst hK d_M_layTried_1 kc_0 ?_
  refine r_sipush hK d_M_layTried_2 ks_972 ?_
  refine r_v2 (k' := 1) hK lm_M_126 d_M_layTried_5 ⟨_, hM.1⟩ (by decide) (Nat.le_of_ble_eq_true rfl) ?_
  refine c_M_copyTown (a := 0) (b := 972) hM (by omega) (by omega) (by omega) (fun G5 hM f5 => kc_n ?_)
  refine r_vret hK rfl rfl d_M_layTried_8 ?_
  exact hQ _ hM f5
theorem lay_cg {w nw : Nat → Int32} : putT (putT w 0 nw) 972 (tw (putT w 0 nw) 0) = putT (putT w 0 nw) 972 nw := putT_cg (fun k hk => tw_put k hk)
theorem l_trd {E : gX} {S c : Nat} {G : gG} {Q : Option Value → gG → Prop} {f w0 nw w1 : Nat → Int32} {A : Nat → Nat → Int32} (hM : MV G c f (putT (putT w0 0 nw) 972 w1) A) (hQ : ∀ G' : gG, MV G' c f (putT (putT w0 0 nw) 972 nw) A → Frm G G' c 10 → Q none G') : Runs E y_M_layTried 2 0 S [.ref c] G Q := by
  refine c_M_layTried hM (fun G' hM' hF => hQ G' ?_ hF)
  rw [putT_2, putT_cg (u := nw) (fun k hk => by
    show putT (putT w0 0 nw) 972 w1 (0 + k) = nw k
    rw [putT_out (by omega), putT_at hk])] at hM'
  exact hM'
theorem putT_id {w : Nat → Int32} {B : Nat} : w = putT w B (tw w B) := putT_tw.symm
theorem c_M_noDays {E : gX} {S : Nat} {G : gG} {Q : Option Value → gG → Prop} {c n : Nat} {f w0 nw u : Nat → Int32} {A : Nat → Nat → Int32} {st : Bool} (hM : MV G c f (putT (putT w0 0 nw) 972 u) A) (h1 : f 1 = bI st) (hV : Vk nw n) {d : Int32} (hQ : ∀ (G' : gG) (u' : Nat → Int32), MV G' c f (putT (putT w0 0 nw) 972 u') A → (rfu st (inB d 0 60) = 0 → u' = psN (nN d) nw) → Frm G G' c 10 → Q (some (.int (rfu st (inB d 0 60)))) G') : Runs E y_M_noDays 6 0 S [.ref c, .int d] G Q := by
  refine Runs.of "ClockPostModel" [some (.ref c), some (.int d)] cw_M_noDays (by decide) (by decide +kernel) rfl (Nat.le_of_ble_eq_true rfl) rfl (fun K hK => ?_)
  refine r_aload_n hK d_M_noDays_0 rfl ?_
  refine r_get hK lf_M_130 d_M_noDays_1 (hM.1) rfl ?_
  rw [h1]
  refine r_if_ne (tgt := 10) hK d_M_noDays_4 rfl (fun h4 => ?_) (fun h4 => ?_)
  · skip
    have hst : st = true := bI_n0.mp h4
    subst hst
    refine r_iload_n hK d_M_noDays_10 rfl ?_
    refine r_i2l hK d_M_noDays_11 ?_
    refine r_lconst (v := 0) hK d_M_noDays_12 rfl ?_
    refine r_ldc2 hK d_M_noDays_13 lc_M_186 ?_
    refine r_s3 (k' := 1) hK lm_M_45 d_M_noDays_16 (by decide) (Nat.le_of_ble_eq_true rfl) ?_
    refine c_M_in (a := 0) (b := 60) (by decide) (by decide) (kc_s ?_)
    refine r_if_ne (tgt := 25) hK d_M_noDays_19 rfl (fun h19 => ?_) (fun h19 => ?_)
    · skip
      have hb := bI_n0.mp h19
      rw [hb] at hQ
      refine r_aload_n hK d_M_noDays_25 rfl ?_
      refine r_v0 (k' := 2) hK lm_M_188 d_M_noDays_26 ⟨_, hM.1⟩ (by decide) (Nat.le_of_ble_eq_true rfl) ?_
      refine l_trd hM (fun G26 hM f26 => kc_n ?_)
      refine r_aload_n hK d_M_noDays_29 rfl ?_
      refine r_sipush hK d_M_noDays_30 ks_972 ?_
      refine r_iload_n hK d_M_noDays_33 rfl ?_
      obtain ⟨e, he, rfl⟩ := inB_d hb
      refine r_v2 (k' := 5) hK lm_M_191 d_M_noDays_34 ⟨_, hM.1⟩ (by decide) (Nat.le_of_ble_eq_true rfl) ?_
      refine c_M_passes (B := 972) hM (by omega) hV (by omega) (fun G34 hM f34 => kc_n ?_)
      refine r_iconst hK d_M_noDays_37 kc_0 ?_
      refine r_iret hK rfl rfl d_M_noDays_38 ?_
      exact hQ _ _ hM (fun _ => by rw [nN_nI (by omega)]) (f26.tr f34)
    · skip
      have hb := bI_0.mp h19
      rw [hb] at hQ
      refine r_ldc hK d_M_noDays_22 lc_M_55 ?_
      refine r_iret hK rfl rfl d_M_noDays_24 ?_
      exact hQ _ _ hM (fun q => absurd q (by decide)) Frm.rf
  · skip
    have hst : st = false := bI_0.mp h4
    subst hst
    refine r_ldc hK d_M_noDays_7 lc_M_137 ?_
    refine r_iret hK rfl rfl d_M_noDays_9 ?_
    exact hQ _ _ hM (fun q => absurd q (by cases inB d 0 60 <;> decide)) Frm.rf
theorem c_M_burden {E : gX} {S : Nat} {G : gG} {Q : Option Value → gG → Prop} {c : Nat} {f w : Nat → Int32} {A : Nat → Nat → Int32} {st : Bool} {nw : Nat → Int32} {ac : Nat → Nat → Int32} {na : Nat} {ik : Nat → Bool} {im : Nat → Nat → Int32} {rp : Nat → Bool} {rl : Nat → Int32} {rs : Nat → Nat} {ri : Nat → Nat → Int32} {tp : Nat → Int32} {tn : Nat} {lf : Int32} {fd : Int32} {tr : Nat → Int32} {un : Nat} (hM : MV G c f w A) (hS : MS f w A (st, nw, ac, na, ik, im, rp, rl, rs, ri, tp, tn, lf, fd, tr, un)) (hI : MI (st, nw, ac, na, ik, im, rp, rl, rs, ri, tp, tn, lf, fd, tr, un)) {d : Int32} (hQ : ∀ G' : gG, MR G' c (opBurden (st, nw, ac, na, ik, im, rp, rl, rs, ri, tp, tn, lf, fd, tr, un) d).2 → Frm G G' c 10 → Q (some (.int (opBurden (st, nw, ac, na, ik, im, rp, rl, rs, ri, tp, tn, lf, fd, tr, un) d).1)) G') : Runs E y_M_burden 7 0 S [.ref c, .int d] G Q := by
  refine Runs.of "ClockPostModel" [some (.ref c), some (.int d), none] cw_M_burden (by decide) (by decide +kernel) rfl (Nat.le_of_ble_eq_true rfl) rfl (fun K hK => ?_)
  obtain ⟨w0, hw0⟩ : ∃ x, w = putT x 0 nw := ⟨_, hS.t0⟩
  subst hw0
  obtain ⟨n, hV⟩ := hI.1
  have h6 := hV.1
  have hz0 : putT w0 0 nw 0 = nI n := (hS.2.2.2.2.2.2.1 0 (by omega)).trans hV.2.1
  obtain ⟨w1, hw1⟩ : ∃ x, putT w0 0 nw = putT (putT w0 0 nw) 972 x := ⟨_, putT_id⟩
  rw [hw1] at hM
  refine r_aload_n hK d_M_burden_0 rfl ?_
  refine r_iload_n hK d_M_burden_1 rfl ?_
  refine r_v1 (k' := 6) hK lm_M_194 d_M_burden_2 ⟨_, hM.1⟩ (by decide) (Nat.le_of_ble_eq_true rfl) ?_
  refine c_M_noDays hM hS.1 hV (fun G2 u2 hM hu f2 => kc_s ?_)
  have hS2 := hS.sT (u := u2) hI.2.2.2.1
  refine st_in_2_3 hK d_M_burden_5 trivial ?_
  refine r_iload_n hK d_M_burden_6 rfl ?_
  refine r_if_eq (tgt := 14) hK d_M_burden_7 rfl (fun h7 => ?_) (fun h7 => ?_)
  · skip
    have hz := h7
    rw [opBurden, if_pos hz] at hQ
    have hu := hu hz
    subst hu
    refine r_aload_n hK d_M_burden_14 rfl ?_
    refine r_sipush hK d_M_burden_15 ks_972 ?_
    refine r_v1 (k' := 3) hK lm_M_157 d_M_burden_18 ⟨_, hM.1⟩ (by decide) (Nat.le_of_ble_eq_true rfl) ?_
    refine c_M_burdenAt (B := 972) hM (by omega) (hV.ps _ _) (kc_s ?_)
    refine r_iret hK rfl rfl d_M_burden_21 ?_
    exact hQ _ ⟨_, _, _, hM, hS2⟩ f2
  · skip
    rw [opBurden, if_neg h7] at hQ
    refine r_iload_n hK d_M_burden_10 rfl ?_
    refine r_goto (tgt := 21) hK d_M_burden_11 rfl ?_
    refine r_iret hK rfl rfl d_M_burden_21 ?_
    exact hQ _ ⟨_, _, _, hM, hS2⟩ f2
theorem c_M_sum {E : gX} {S : Nat} {G : gG} {Q : Option Value → gG → Prop} {c : Nat} {f w : Nat → Int32} {A : Nat → Nat → Int32} {st : Bool} {nw : Nat → Int32} {ac : Nat → Nat → Int32} {na : Nat} {ik : Nat → Bool} {im : Nat → Nat → Int32} {rp : Nat → Bool} {rl : Nat → Int32} {rs : Nat → Nat} {ri : Nat → Nat → Int32} {tp : Nat → Int32} {tn : Nat} {lf : Int32} {fd : Int32} {tr : Nat → Int32} {un : Nat} (hM : MV G c f w A) (hS : MS f w A (st, nw, ac, na, ik, im, rp, rl, rs, ri, tp, tn, lf, fd, tr, un)) (hI : MI (st, nw, ac, na, ik, im, rp, rl, rs, ri, tp, tn, lf, fd, tr, un)) {d : Int32} (hQ : ∀ G' : gG, MR G' c (opSum (st, nw, ac, na, ik, im, rp, rl, rs, ri, tp, tn, lf, fd, tr, un) d).2 → Frm G G' c 10 → Q (some (.int (opSum (st, nw, ac, na, ik, im, rp, rl, rs, ri, tp, tn, lf, fd, tr, un) d).1)) G') : Runs E y_M_sum 7 0 S [.ref c, .int d] G Q := by
  refine Runs.of "ClockPostModel" [some (.ref c), some (.int d), none] cw_M_sum (by decide) (by decide +kernel) rfl (Nat.le_of_ble_eq_true rfl) rfl (fun K hK => ?_)
  obtain ⟨w0, hw0⟩ : ∃ x, w = putT x 0 nw := ⟨_, hS.t0⟩
  subst hw0
  obtain ⟨n, hV⟩ := hI.1
  have h6 := hV.1
  have hz0 : putT w0 0 nw 0 = nI n := (hS.2.2.2.2.2.2.1 0 (by omega)).trans hV.2.1
  obtain ⟨w1, hw1⟩ : ∃ x, putT w0 0 nw = putT (putT w0 0 nw) 972 x := ⟨_, putT_id⟩
  rw [hw1] at hM
  refine r_aload_n hK d_M_sum_0 rfl ?_
  refine r_iload_n hK d_M_sum_1 rfl ?_
  refine r_v1 (k' := 6) hK lm_M_194 d_M_sum_2 ⟨_, hM.1⟩ (by decide) (Nat.le_of_ble_eq_true rfl) ?_
  refine c_M_noDays hM hS.1 hV (fun G2 u2 hM hu f2 => kc_s ?_)
  have hS2 := hS.sT (u := u2) hI.2.2.2.1
  refine st_in_2_3 hK d_M_sum_5 trivial ?_
  refine r_iload_n hK d_M_sum_6 rfl ?_
  refine r_if_eq (tgt := 14) hK d_M_sum_7 rfl (fun h7 => ?_) (fun h7 => ?_)
  · skip
    have hz := h7
    rw [opSum, if_pos hz] at hQ
    have hu := hu hz
    subst hu
    refine r_aload_n hK d_M_sum_14 rfl ?_
    refine r_get hK lf_M_7 d_M_sum_15 (hM.1) rfl ?_
    refine r_sipush hK d_M_sum_18 ks_976 ?_
    refine g_tw (B := 972) (j := 4) hK d_M_sum_21 hM ((show _ = nI (972 + 4) from rfl)) (by omega) (by omega) ?_
    refine r_iret hK rfl rfl d_M_sum_22 ?_
    exact hQ _ ⟨_, _, _, hM, hS2⟩ f2
  · skip
    rw [opSum, if_neg h7] at hQ
    refine r_iload_n hK d_M_sum_10 rfl ?_
    refine r_goto (tgt := 22) hK d_M_sum_11 rfl ?_
    refine r_iret hK rfl rfl d_M_sum_22 ?_
    exact hQ _ ⟨_, _, _, hM, hS2⟩ f2
theorem c_M_behind {E : gX} {S : Nat} {G : gG} {Q : Option Value → gG → Prop} {c : Nat} {f w : Nat → Int32} {A : Nat → Nat → Int32} {st : Bool} {nw : Nat → Int32} {ac : Nat → Nat → Int32} {na : Nat} {ik : Nat → Bool} {im : Nat → Nat → Int32} {rp : Nat → Bool} {rl : Nat → Int32} {rs : Nat → Nat} {ri : Nat → Nat → Int32} {tp : Nat → Int32} {tn : Nat} {lf : Int32} {fd : Int32} {tr : Nat → Int32} {un : Nat} (hM : MV G c f w A) (hS : MS f w A (st, nw, ac, na, ik, im, rp, rl, rs, ri, tp, tn, lf, fd, tr, un)) (hI : MI (st, nw, ac, na, ik, im, rp, rl, rs, ri, tp, tn, lf, fd, tr, un)) {d : Int32} (hQ : ∀ G' : gG, MR G' c (opBehind (st, nw, ac, na, ik, im, rp, rl, rs, ri, tp, tn, lf, fd, tr, un) d).2 → Frm G G' c 10 → Q (some (.int (opBehind (st, nw, ac, na, ik, im, rp, rl, rs, ri, tp, tn, lf, fd, tr, un) d).1)) G') : Runs E y_M_behind 7 0 S [.ref c, .int d] G Q := by
  refine Runs.of "ClockPostModel" [some (.ref c), some (.int d), none] cw_M_behind (by decide) (by decide +kernel) rfl (Nat.le_of_ble_eq_true rfl) rfl (fun K hK => ?_)
  obtain ⟨w0, hw0⟩ : ∃ x, w = putT x 0 nw := ⟨_, hS.t0⟩
  subst hw0
  obtain ⟨n, hV⟩ := hI.1
  have h6 := hV.1
  have hz0 : putT w0 0 nw 0 = nI n := (hS.2.2.2.2.2.2.1 0 (by omega)).trans hV.2.1
  obtain ⟨w1, hw1⟩ : ∃ x, putT w0 0 nw = putT (putT w0 0 nw) 972 x := ⟨_, putT_id⟩
  rw [hw1] at hM
  refine r_aload_n hK d_M_behind_0 rfl ?_
  refine r_iload_n hK d_M_behind_1 rfl ?_
  refine r_v1 (k' := 6) hK lm_M_194 d_M_behind_2 ⟨_, hM.1⟩ (by decide) (Nat.le_of_ble_eq_true rfl) ?_
  refine c_M_noDays hM hS.1 hV (fun G2 u2 hM hu f2 => kc_s ?_)
  have hS2 := hS.sT (u := u2) hI.2.2.2.1
  refine st_in_2_3 hK d_M_behind_5 trivial ?_
  refine r_iload_n hK d_M_behind_6 rfl ?_
  refine r_if_eq (tgt := 14) hK d_M_behind_7 rfl (fun h7 => ?_) (fun h7 => ?_)
  · skip
    have hz := h7
    rw [opBehind, if_pos hz] at hQ
    have hu := hu hz
    subst hu
    refine r_aload_n hK d_M_behind_14 rfl ?_
    refine r_get hK lf_M_7 d_M_behind_15 (hM.1) rfl ?_
    refine r_sipush hK d_M_behind_18 ks_975 ?_
    refine g_tw (B := 972) (j := 3) hK d_M_behind_21 hM ((show _ = nI (972 + 3) from rfl)) (by omega) (by omega) ?_
    refine r_iret hK rfl rfl d_M_behind_22 ?_
    exact hQ _ ⟨_, _, _, hM, hS2⟩ f2
  · skip
    rw [opBehind, if_neg h7] at hQ
    refine r_iload_n hK d_M_behind_10 rfl ?_
    refine r_goto (tgt := 22) hK d_M_behind_11 rfl ?_
    refine r_iret hK rfl rfl d_M_behind_22 ?_
    exact hQ _ ⟨_, _, _, hM, hS2⟩ f2
theorem c_M_falls {E : gX} {S : Nat} {G : gG} {Q : Option Value → gG → Prop} {c : Nat} {f w : Nat → Int32} {A : Nat → Nat → Int32} {st : Bool} {nw : Nat → Int32} {ac : Nat → Nat → Int32} {na : Nat} {ik : Nat → Bool} {im : Nat → Nat → Int32} {rp : Nat → Bool} {rl : Nat → Int32} {rs : Nat → Nat} {ri : Nat → Nat → Int32} {tp : Nat → Int32} {tn : Nat} {lf : Int32} {fd : Int32} {tr : Nat → Int32} {un : Nat} (hM : MV G c f w A) (hS : MS f w A (st, nw, ac, na, ik, im, rp, rl, rs, ri, tp, tn, lf, fd, tr, un)) (hI : MI (st, nw, ac, na, ik, im, rp, rl, rs, ri, tp, tn, lf, fd, tr, un)) {q : Int32} (hQ : ∀ G' : gG, MR G' c (opFalls (st, nw, ac, na, ik, im, rp, rl, rs, ri, tp, tn, lf, fd, tr, un) q).2 → Frm G G' c 10 → Q (some (.int (opFalls (st, nw, ac, na, ik, im, rp, rl, rs, ri, tp, tn, lf, fd, tr, un) q).1)) G') : Runs E y_M_falls 5 0 S [.ref c, .int q] G Q := by
  refine Runs.of "ClockPostModel" [some (.ref c), some (.int q), none, none] cw_M_falls (by decide) (by decide +kernel) rfl (Nat.le_of_ble_eq_true rfl) rfl (fun K hK => ?_)
  obtain ⟨w0, hw0⟩ : ∃ x, w = putT x 0 nw := ⟨_, hS.t0⟩
  subst hw0
  obtain ⟨n, hV⟩ := hI.1
  have h6 := hV.1
  have hz0 : putT w0 0 nw 0 = nI n := (hS.2.2.2.2.2.2.1 0 (by omega)).trans hV.2.1
  have hM0 := hM
  obtain ⟨w1, hw1⟩ : ∃ x, putT w0 0 nw = putT (putT w0 0 nw) 972 x := ⟨_, putT_id⟩
  rw [hw1] at hM
  refine r_aload_n hK d_M_falls_0 rfl ?_
  refine r_get hK lf_M_130 d_M_falls_1 (hM.1) rfl ?_
  rw [hS.1]
  refine r_if_ne (tgt := 10) hK d_M_falls_4 rfl (fun h4 => ?_) (fun h4 => ?_)
  · skip
    have hst : st = true := bI_n0.mp h4
    subst hst
    refine r_iload_n hK d_M_falls_10 rfl ?_
    refine r_i2l hK d_M_falls_11 ?_
    refine r_lconst (v := 0) hK d_M_falls_12 rfl ?_
    refine r_lconst (v := 1) hK d_M_falls_13 rfl ?_
    refine r_s3 (k' := 1) hK lm_M_45 d_M_falls_14 (by decide) (Nat.le_of_ble_eq_true rfl) ?_
    refine c_M_in (a := 0) (b := 1) (by decide) (by decide) (kc_s ?_)
    refine r_if_ne (tgt := 23) hK d_M_falls_17 rfl (fun h17 => ?_) (fun h17 => ?_)
    · skip
      have hb := bI_n0.mp h17
      rw [opFalls, hb, if_pos (by decide)] at hQ
      refine r_aload_n hK d_M_falls_23 rfl ?_
      refine r_v0 (k' := 2) hK lm_M_188 d_M_falls_24 ⟨_, hM.1⟩ (by decide) (Nat.le_of_ble_eq_true rfl) ?_
      refine l_trd hM (fun G24 hM f24 => kc_n ?_)
      refine r_iconst hK d_M_falls_27 kc_1 ?_
      refine st_in_2_4 hK d_M_falls_28 trivial ?_
      suffices L : ∀ j, j ≤ 61 → ∀ (G1 : gG) (u : Nat → Int32) (a3 : Option Value), MV G1 c f (putT (putT w0 0 nw) 972 u) A → Vk u n → Frm G G1 c 10 → flS (61 - j) j u = flS 60 1 nw → okc a3 → K 29 [some (.ref c), some (.int q), some (.int (nI j)), a3] [] S G1 from L 1 (by omega) _ _ _ hM hV f24 rfl trivial
      clear hM
      refine lpN 61 (fun j hj ih G1 u a3 hM hVu hF hE ha3 => ?_)
      refine r_iload_n hK d_M_falls_29 rfl ?_
      refine r_bipush hK d_M_falls_30 kb_61 ?_
      refine r_icmp_ge (tgt := 65) hK d_M_falls_32 rfl (fun h32 => ?_) (fun h32 => ?_)
      · skip
        have hq : j = 61 := by have := (cle (n := 61) (by decide) (by omega)).mp h32; omega
        subst hq
        rw [← hE] at hQ
        refine r_ldc hK d_M_falls_65 lc_M_147 ?_
        refine r_iret hK rfl rfl d_M_falls_67 ?_
        exact hQ _ ⟨_, _, _, hM, hS.sT hI.2.2.2.1⟩ hF
      · skip
        have hq : j < 61 := Nat.not_le.mp (fun q => h32 ((cle (n := 61) (by decide) (by omega)).mpr q))
        rw [show 61 - j = (61 - (j + 1)) + 1 by omega, flS] at hE
        refine r_aload_n hK d_M_falls_35 rfl ?_
        refine r_sipush hK d_M_falls_36 ks_972 ?_
        refine r_v1 (k' := 4) hK lm_M_167 d_M_falls_39 ⟨_, hM.1⟩ (by decide) (Nat.le_of_ble_eq_true rfl) ?_
        refine c_M_pass (B := 972) hM (by omega) hVu (fun G39 hM f39 => kc_s ?_)
        have hF := hF.tr f39
        have hlt : ∀ k, (passV u).2 = some k → k < 6 := fun k hk => by
          have := passV_m hVu hk
          omega
        refine st_in_3_4 hK d_M_falls_42 trivial ?_
        refine r_iload_n hK d_M_falls_43 rfl ?_
        refine r_ldc hK d_M_falls_44 lc_M_147 ?_
        refine r_icmp_eq (tgt := 59) hK d_M_falls_46 rfl (fun h46 => ?_) (fun h46 => ?_)
        · skip
          have hn : (passV u).2 = none := (oI_n hlt).mp h46
          rw [hn] at hE
          first | refine iN_2_4 hK d_M_falls_59 trivial ?_ | refine ii_2_1_4 hK d_M_falls_59 trivial ?_
          refine r_goto (tgt := 29) hK d_M_falls_62 rfl ?_
          exact ih hq _ _ _ hM hVu.pass hF hE trivial
        · skip
          obtain ⟨k, hk⟩ : ∃ k, (passV u).2 = some k := by
            cases hn : (passV u).2 with
            | none => exact absurd (by rw [hn]; rfl) h46
            | some k => exact ⟨k, rfl⟩
          rw [hk] at hE ⊢
          rw [← hE] at hQ
          refine r_iload_n hK d_M_falls_49 rfl ?_
          refine r_if_ne (tgt := 57) hK d_M_falls_50 rfl (fun h50 => ?_) (fun h50 => ?_)
          · skip
            have hQ := hQ G39 ⟨_, _, _, hM, hS.sT hI.2.2.2.1⟩ hF
            simp only [if_neg h50] at hQ
            refine r_iload_n hK d_M_falls_57 rfl ?_
            refine r_iret hK rfl rfl d_M_falls_58 ?_
            exact hQ
          · skip
            have hQ := hQ G39 ⟨_, _, _, hM, hS.sT hI.2.2.2.1⟩ hF
            simp only [if_pos h50] at hQ
            refine r_iload_n hK d_M_falls_53 rfl ?_
            refine r_goto (tgt := 58) hK d_M_falls_54 rfl ?_
            refine r_iret hK rfl rfl d_M_falls_58 ?_
            exact hQ
    · skip
      have hb := bI_0.mp h17
      rw [opFalls, hb, if_neg (by decide)] at hQ
      refine r_ldc hK d_M_falls_20 lc_M_55 ?_
      refine r_iret hK rfl rfl d_M_falls_22 ?_
      exact hQ _ ⟨_, _, _, hM0, hS⟩ Frm.rf
  · skip
    have hst : st = false := bI_0.mp h4
    subst hst
    rw [opFalls, if_neg (by cases inB q 0 1 <;> decide)] at hQ
    refine r_ldc hK d_M_falls_7 lc_M_137 ?_
    refine r_iret hK rfl rfl d_M_falls_9 ?_
    exact hQ _ ⟨_, _, _, hM0, hS⟩ Frm.rf
