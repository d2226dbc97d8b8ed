theorem MS.sna {f w : Nat → Int32} {A : Nat → Nat → Int32} {st : Bool} {nw : Nat → Int32} {ac : Nat → Nat → Int32} {na : Nat} {ik : Nat → Bool} {im : Nat → Nat → Int32} {rp : Nat → Bool} {rl : Nat → Int32} {rs : Nat → Nat} {ri : Nat → Nat → Int32} {tp : Nat → Int32} {tn : Nat} {lf : Int32} {fd : Int32} {tr : Nat → Int32} {un : Nat} {m : Nat} (h : MS f w A (st, nw, ac, na, ik, im, rp, rl, rs, ri, tp, tn, lf, fd, tr, un)) (hm : m ≤ na) : MS (upd f 2 (nI m)) (w) (A) (st, nw, ac, m, ik, im, rp, rl, rs, ri, tp, tn, lf, fd, tr, un) :=
  ⟨by rw [upd_n (by omega)]; exact h.1, upd_s, by rw [upd_n (by omega)]; exact h.2.2.1, by rw [upd_n (by omega)]; exact h.2.2.2.1, by rw [upd_n (by omega)]; exact h.2.2.2.2.1, by rw [upd_n (by omega)]; exact h.2.2.2.2.2.1, h.2.2.2.2.2.2.1, fun i hi => h.2.2.2.2.2.2.2.1 i (by omega), h.2.2.2.2.2.2.2.2.1, h.2.2.2.2.2.2.2.2.2.1, h.2.2.2.2.2.2.2.2.2.2.1, h.2.2.2.2.2.2.2.2.2.2.2.1, h.2.2.2.2.2.2.2.2.2.2.2.2.1, h.2.2.2.2.2.2.2.2.2.2.2.2.2⟩
theorem MS.sI {f w u : Nat → Int32} {A : Nat → Nat → Int32} {st : Bool} {nw : Nat → Int32} {ac : Nat → Nat → Int32} {na : Nat} {ik : Nat → Bool} {im : Nat → Nat → Int32} {rp : Nat → Bool} {rl : Nat → Int32} {rs : Nat → Nat} {ri : Nat → Nat → Int32} {tp : Nat → Int32} {tn : Nat} {lf : Int32} {fd : Int32} {tr : Nat → Int32} {un : Nat} {j : Nat} (h : MS f w A (st, nw, ac, na, ik, im, rp, rl, rs, ri, tp, tn, lf, fd, tr, un)) (hj : j < 2) (hn : na ≤ 24) (hu : ∀ k, k < 36 → u k = nw k) : MS f (putT w (900 + 36 * j) u) (va_up A 2 (upd (A 2) j 1)) (st, nw, ac, na, va_up ik j true, va_up im j nw, rp, rl, rs, ri, tp, tn, lf, fd, tr, un) :=
  ⟨h.1, h.2.1, h.2.2.1, h.2.2.2.1, h.2.2.2.2.1, h.2.2.2.2.2.1, fun k hk => (putT_out (by omega)).trans (h.2.2.2.2.2.2.1 k hk), fun i hi k hk => (putT_out (by omega)).trans (h.2.2.2.2.2.2.2.1 i hi k hk), fun i hi hq k hk => by
    by_cases e : i = j
    · subst e
      rw [putT_at hk, va_up_s, hu k hk]
    · rw [va_up_n e] at hq
      rw [va_up_n e, putT_out (by omega)]
      exact h.2.2.2.2.2.2.2.2.1 i hi hq k hk, fun i hi => by
    rw [va_up_s]
    by_cases e : i = j
    · subst e; rw [upd_s, va_up_s]; rfl
    · rw [upd_n e, va_up_n e]; exact h.2.2.2.2.2.2.2.2.2.1 i hi, fun i hi => by rw [va_up_n (by omega)]; exact h.2.2.2.2.2.2.2.2.2.2.1 i hi, fun i hi hq => by rw [va_up_n (by omega), va_up_n (by omega)]; exact h.2.2.2.2.2.2.2.2.2.2.2.1 i hi hq, fun k hk => by rw [va_up_n (by omega)]; exact h.2.2.2.2.2.2.2.2.2.2.2.2.1 k hk, fun k hk => by rw [va_up_n (by omega)]; exact h.2.2.2.2.2.2.2.2.2.2.2.2.2 k hk⟩
theorem MS.cg {f w : Nat → Int32} {A : Nat → Nat → Int32} {st : Bool} {nw : Nat → Int32} {ac : Nat → Nat → Int32} {na : Nat} {ik : Nat → Bool} {im : Nat → Nat → Int32} {rp : Nat → Bool} {rl : Nat → Int32} {rs : Nat → Nat} {ri : Nat → Nat → Int32} {tp : Nat → Int32} {tn : Nat} {lf : Int32} {fd : Int32} {tr : Nat → Int32} {un : Nat} {u : Nat → Int32} (h : MS f w A (st, nw, ac, na, ik, im, rp, rl, rs, ri, tp, tn, lf, fd, tr, un)) (hu : ∀ k, k < 36 → nw k = u k) : MS f w A (st, u, ac, na, ik, im, rp, rl, rs, ri, tp, tn, lf, fd, tr, un) :=
  ⟨h.1, h.2.1, h.2.2.1, h.2.2.2.1, h.2.2.2.2.1, h.2.2.2.2.2.1, fun k hk => (h.2.2.2.2.2.2.1 k hk).trans (hu k hk), h.2.2.2.2.2.2.2⟩
theorem MS.sfe {f w : Nat → Int32} {A : Nat → Nat → Int32} {st : Bool} {nw : Nat → Int32} {ac : Nat → Nat → Int32} {na : Nat} {ik : Nat → Bool} {im : Nat → Nat → Int32} {rp : Nat → Bool} {rl : Nat → Int32} {rs : Nat → Nat} {ri : Nat → Nat → Int32} {tp : Nat → Int32} {tn : Nat} {lf : Int32} {fd : Int32} {tr : Nat → Int32} {un : Nat} {x : Int32} (h : MS f w A (st, nw, ac, na, ik, im, rp, rl, rs, ri, tp, tn, lf, fd, tr, un)) : MS (upd f 8 (nI (tn + 1))) w (va_up A 6 (upd (A 6) tn x)) (st, nw, ac, na, ik, im, rp, rl, rs, ri, upd tp tn x, tn + 1, lf, fd, tr, un) :=
  ⟨by rw [upd_n (by omega)]; exact h.1, by rw [upd_n (by omega)]; exact h.2.1, upd_s, by rw [upd_n (by omega)]; exact h.2.2.2.1, by rw [upd_n (by omega)]; exact h.2.2.2.2.1, by rw [upd_n (by omega)]; exact h.2.2.2.2.2.1, h.2.2.2.2.2.2.1, h.2.2.2.2.2.2.2.1, h.2.2.2.2.2.2.2.2.1, fun i hi => by rw [va_up_n (by omega)]; exact h.2.2.2.2.2.2.2.2.2.1 i hi, fun i hi => by rw [va_up_n (by omega)]; exact h.2.2.2.2.2.2.2.2.2.2.1 i hi, fun i hi hq => by rw [va_up_n (by omega), va_up_n (by omega)]; exact h.2.2.2.2.2.2.2.2.2.2.2.1 i hi hq, fun k hk => by
    rw [va_up_s]
    by_cases e : k = tn
    · subst e; rw [upd_s, upd_s]
    · rw [upd_n e, upd_n e]; exact h.2.2.2.2.2.2.2.2.2.2.2.2.1 k (by omega), fun k hk => by rw [va_up_n (by omega)]; exact h.2.2.2.2.2.2.2.2.2.2.2.2.2 k hk⟩
theorem c_M_days {E : gX} {S : Nat} {G : gG} {Q : Option Value → gG → Prop} {c : Nat} {f w : Nat → Int32} {A : Nat → Nat → Int32} {st : Bool} {nw : Nat → Int32} {ac : Nat → Nat → Int32} {na : Nat} {ik : Nat → Bool} {im : Nat → Nat → Int32} {rp : Nat → Bool} {rl : Nat → Int32} {rs : Nat → Nat} {ri : Nat → Nat → Int32} {tp : Nat → Int32} {tn : Nat} {lf : Int32} {fd : Int32} {tr : Nat → Int32} {un : Nat} (hM : MV G c f w A) (hS : MS f w A (st, nw, ac, na, ik, im, rp, rl, rs, ri, tp, tn, lf, fd, tr, un)) (hI : MI (st, nw, ac, na, ik, im, rp, rl, rs, ri, tp, tn, lf, fd, tr, un)) {d : Int32} (hQ : ∀ G' : gG, MR G' c (opDays (st, nw, ac, na, ik, im, rp, rl, rs, ri, tp, tn, lf, fd, tr, un) d).2 → Frm G G' c 10 → Q (some (.int (opDays (st, nw, ac, na, ik, im, rp, rl, rs, ri, tp, tn, lf, fd, tr, un) d).1)) G') : Runs E y_M_days 5 0 S [.ref c, .int d] G Q := by
  refine Runs.of "ClockPostModel" [some (.ref c), some (.int d), none] cw_M_days (by decide) (by decide +kernel) rfl (Nat.le_of_ble_eq_true rfl) rfl (fun K hK => ?_)
  obtain ⟨w0, hw0⟩ : ∃ x, w = putT x 0 nw := ⟨_, hS.t0⟩
  subst hw0
  obtain ⟨n, hV⟩ := hI.1
  have h6 := hV.1
  have hz0 : putT w0 0 nw 0 = nI n := (hS.2.2.2.2.2.2.1 0 (by omega)).trans hV.2.1
  refine r_aload_n hK d_M_days_0 rfl ?_
  refine r_get hK lf_M_130 d_M_days_1 (hM.1) rfl ?_
  rw [hS.1]
  refine r_if_ne (tgt := 10) hK d_M_days_4 rfl (fun h4 => ?_) (fun h4 => ?_)
  · skip
    have hst : st = true := bI_n0.mp h4
    rw [opDays, if_pos hst] at hQ
    refine r_iload_n hK d_M_days_10 rfl ?_
    refine r_i2l hK d_M_days_11 ?_
    refine r_lconst (v := 1) hK d_M_days_12 rfl ?_
    refine r_ldc2 hK d_M_days_13 lc_M_170 ?_
    refine r_s3 (k' := 1) hK lm_M_45 d_M_days_16 (by decide) (Nat.le_of_ble_eq_true rfl) ?_
    refine c_M_in (a := 1) (b := 24) (by decide) (by decide) (kc_s ?_)
    refine r_if_ne (tgt := 25) hK d_M_days_19 rfl (fun h19 => ?_) (fun h19 => ?_)
    · skip
      have hb := bI_n0.mp h19
      rw [if_pos hb] at hQ
      refine r_aload_n hK d_M_days_25 rfl ?_
      refine r_get hK lf_M_7 d_M_days_26 (hM.1) rfl ?_
      refine r_iconst hK d_M_days_29 kc_2 ?_
      refine g_tw (B := 0) (j := 2) hK d_M_days_30 hM ((show _ = nI (0 + 2) from rfl)) (by omega) (by omega) ?_
      refine r_iload_n hK d_M_days_31 rfl ?_
      refine r_iadd hK d_M_days_32 ?_
      refine r_sipush hK d_M_days_33 ks_999 ?_
      refine r_icmp_le (tgt := 42) hK d_M_days_36 rfl (fun h36 => ?_) (fun h36 => ?_)
      · skip
        rw [if_pos h36] at hQ
        refine r_iconst hK d_M_days_42 kc_0 ?_
        refine st_in_2_3 hK d_M_days_43 trivial ?_
        suffices L : ∀ j, j ≤ nN d → ∀ (G1 : gG) (f1 w1 v : Nat → Int32) (a1 : Nat → Nat → Int32) (n1 : Nat), MV G1 c f1 (putT w1 0 v) A → MS f1 (putT w1 0 v) A (st, v, a1, n1, ik, im, rp, rl, rs, ri, tp, tn, lf, fd, tr, un) → Vk v n → n1 ≤ 24 → Frm G G1 c 10 → dysN (nN d - j) (v, a1, n1) = dysN (nN d) (nw, ac, na) → K 44 [some (.ref c), some (.int d), some (.int (nI j))] [] S G1 from L 0 (Nat.zero_le _) _ _ _ _ _ _ hM hS hV hI.2.2.2.1 Frm.rf rfl
        clear hM hS
        refine lpN (nN d) (fun j hj ih G1 f1 w1 v a1 n1 hM hS hVv hn1 hF hE => ?_)
        have := nN_lt d
        refine r_iload_n hK d_M_days_44 rfl ?_
        refine r_iload_n hK d_M_days_45 rfl ?_
        refine r_icmp_ge (tgt := 65) hK d_M_days_46 rfl (fun h46 => ?_) (fun h46 => ?_)
        · skip
          have hq : j = nN d := by have := (ge_nN (by omega)).mp h46; omega
          rw [hq, Nat.sub_self] at hE
          rw [← hE] at hQ
          refine r_aload_n hK d_M_days_65 rfl ?_
          refine r_get hK lf_M_7 d_M_days_66 (hM.1) rfl ?_
          refine r_iconst hK d_M_days_69 kc_3 ?_
          refine g_tw (B := 0) (j := 3) hK d_M_days_70 hM ((show _ = nI (0 + 3) from rfl)) (by omega) (by omega) ?_
          refine r_iret hK rfl rfl d_M_days_71 ?_
          exact hQ _ ⟨_, _, _, hM, hS⟩ hF
        · skip
          have hq : j < nN d := (lt_nN (by omega)).mp (Int32.not_le.mp h46)
          rw [show nN d - j = (nN d - (j + 1)) + 1 by omega, dysN] at hE
          refine r_aload_n hK d_M_days_49 rfl ?_
          refine r_v0 (k' := 2) hK lm_M_172 d_M_days_50 ⟨_, hM.1⟩ (by decide) (Nat.le_of_ble_eq_true rfl) ?_
          refine c_M_keepPast hM hS hn1 (fun G50 f2 w2 hM hS f50 => kc_n ?_)
          obtain ⟨w3, hw3⟩ : ∃ x, w2 = putT x 0 v := ⟨_, hS.t0⟩
          subst hw3
          have hF := hF.tr f50
          refine r_aload_n hK d_M_days_53 rfl ?_
          refine r_iconst hK d_M_days_54 kc_0 ?_
          refine r_v1 (k' := 4) hK lm_M_167 d_M_days_55 ⟨_, hM.1⟩ (by decide) (Nat.le_of_ble_eq_true rfl) ?_
          refine c_M_pass (B := 0) hM (by omega) hVv (fun G55 hM f55 => kc_s ?_)
          have hF := hF.tr f55
          have hS := hS.sN (u := (passV v).1)
          rw [putT_2] at hS
          refine r_pop hK d_M_days_58 rfl ?_
          first | refine iN_2_3 hK d_M_days_59 trivial ?_ | refine ii_2_1_3 hK d_M_days_59 trivial ?_
          refine r_goto (tgt := 44) hK d_M_days_62 rfl ?_
          exact ih hq _ _ _ _ _ _ hM hS hVv.pass (kpA_le hn1) hF hE
      · skip
        rw [if_neg h36] at hQ
        refine r_ldc hK d_M_days_39 lc_M_76 ?_
        refine r_iret hK rfl rfl d_M_days_41 ?_
        exact hQ _ ⟨_, _, _, hM, hS⟩ Frm.rf
    · skip
      have hb := bI_0.mp h19
      rw [if_neg (by simp [hb])] at hQ
      refine r_ldc hK d_M_days_22 lc_M_55 ?_
      refine r_iret hK rfl rfl d_M_days_24 ?_
      exact hQ _ ⟨_, _, _, hM, hS⟩ Frm.rf
  · skip
    have hst : st = false := bI_0.mp h4
    rw [opDays, if_neg (by simp [hst])] at hQ
    refine r_ldc hK d_M_days_7 lc_M_137 ?_
    refine r_iret hK rfl rfl d_M_days_9 ?_
    exact hQ _ ⟨_, _, _, hM, hS⟩ Frm.rf
theorem c_M_undo {E : gX} {S : Nat} {G : gG} {Q : Option Value → gG → Prop} {c : Nat} {f w : Nat → Int32} {A : Nat → Nat → Int32} {st : Bool} {nw : Nat → Int32} {ac : Nat → Nat → Int32} {na : Nat} {ik : Nat → Bool} {im : Nat → Nat → Int32} {rp : Nat → Bool} {rl : Nat → Int32} {rs : Nat → Nat} {ri : Nat → Nat → Int32} {tp : Nat → Int32} {tn : Nat} {lf : Int32} {fd : Int32} {tr : Nat → Int32} {un : Nat} (hM : MV G c f w A) (hS : MS f w A (st, nw, ac, na, ik, im, rp, rl, rs, ri, tp, tn, lf, fd, tr, un)) (hI : MI (st, nw, ac, na, ik, im, rp, rl, rs, ri, tp, tn, lf, fd, tr, un)) (hQ : ∀ G' : gG, MR G' c (opUndo (st, nw, ac, na, ik, im, rp, rl, rs, ri, tp, tn, lf, fd, tr, un)).2 → Frm G G' c 10 → Q (some (.int (opUndo (st, nw, ac, na, ik, im, rp, rl, rs, ri, tp, tn, lf, fd, tr, un)).1)) G') : Runs E y_M_undo 2 0 S [.ref c] G Q := by
  refine Runs.of "ClockPostModel" [some (.ref c)] cw_M_undo (by decide) (by decide +kernel) rfl (Nat.le_of_ble_eq_true rfl) rfl (fun K hK => ?_)
  obtain ⟨w0, hw0⟩ : ∃ x, w = putT x 0 nw := ⟨_, hS.t0⟩
  subst hw0
  obtain ⟨n, hV⟩ := hI.1
  have h6 := hV.1
  have hz0 : putT w0 0 nw 0 = nI n := (hS.2.2.2.2.2.2.1 0 (by omega)).trans hV.2.1
  refine r_aload_n hK d_M_undo_0 rfl ?_
  refine r_get hK lf_M_134 d_M_undo_1 (hM.1) rfl ?_
  rw [hS.2.1]
  refine r_if_ne (tgt := 10) hK d_M_undo_4 rfl (fun h4 => ?_) (fun h4 => ?_)
  · skip
    have hn : 1 ≤ na := by
      have hn0 : na ≠ 0 := fun q => h4 (by rw [q]; rfl)
      omega
    rw [opUndo, if_pos hn] at hQ
    have hA0 : ∀ k, k < 36 → tw (putT w0 0 nw) (36 + 36 * (na - 1)) k = ac (na - 1) k := fun k hk => hS.2.2.2.2.2.2.2.1 (na - 1) (by omega) k hk
    refine r_aload_n hK d_M_undo_10 rfl ?_
    refine r_dup hK d_M_undo_11 rfl ?_
    refine r_get hK lf_M_134 d_M_undo_12 (hM.1) rfl ?_
    rw [hS.2.1]
    refine r_iconst hK d_M_undo_15 kc_1 ?_
    refine r_isub hK d_M_undo_16 ?_
    rw [show nI na - 1 = nI (na - 1) from pk_sub (b := 1) hn]
    refine p_M_undos hK lf_M_134 d_M_undo_17 hM (fun G17 hM f17 => ?_)
    have hF : Frm G G17 c 10 := f17
    have hS := hS.sna (m := na - 1) (by omega)
    have hna := hI.2.2.2.1
    refine r_aload_n hK d_M_undo_20 rfl ?_
    refine r_bipush hK d_M_undo_21 kb_36 ?_
    refine r_bipush hK d_M_undo_23 kb_36 ?_
    refine r_aload_n hK d_M_undo_25 rfl ?_
    refine r_get hK lf_M_134 d_M_undo_26 (hM.1) rfl ?_
    rw [upd_s]
    refine r_imul hK d_M_undo_29 ?_
    refine r_iadd hK d_M_undo_30 ?_
    rw [show (36 : Int32) + 36 * nI (na - 1) = nI (36 + 36 * (na - 1)) from ixm rfl rfl]
    refine r_iconst hK d_M_undo_31 kc_0 ?_
    refine r_v2 (k' := 1) hK lm_M_126 d_M_undo_32 ⟨_, hM.1⟩ (by decide) (Nat.le_of_ble_eq_true rfl) ?_
    refine c_M_copyTown (b := 0) hM (by omega) (by omega) (by omega) (fun G32 hM f32 => kc_n ?_)
    have hF := hF.tr f32
    have hS := (hS.sN (u := tw (putT w0 0 nw) (36 + 36 * (na - 1)))).cg (u := ac (na - 1)) (fun k hk => hA0 k hk)
    refine r_aload_n hK d_M_undo_35 rfl ?_
    refine r_get hK lf_M_134 d_M_undo_36 (hM.1) rfl ?_
    rw [upd_s]
    refine r_iret hK rfl rfl d_M_undo_39 ?_
    exact hQ _ ⟨_, _, _, hM, hS⟩ hF
  · skip
    have hn : ¬ 1 ≤ na := fun q => by
      have := hI.2.2.2.1
      have := (eqc (c := 0) (n := 0) (by decide) (by omega)).mp h4
      omega
    rw [opUndo, if_neg hn] at hQ
    refine r_ldc hK d_M_undo_7 lc_M_137 ?_
    refine r_iret hK rfl rfl d_M_undo_9 ?_
    exact hQ _ ⟨_, _, _, hM, hS⟩ Frm.rf
theorem c_M_image {E : gX} {S : Nat} {G : gG} {Q : Option Value → gG → Prop} {c : Nat} {f w : Nat → Int32} {A : Nat → Nat → Int32} {st : Bool} {nw : Nat → Int32} {ac : Nat → Nat → Int32} {na : Nat} {ik : Nat → Bool} {im : Nat → Nat → Int32} {rp : Nat → Bool} {rl : Nat → Int32} {rs : Nat → Nat} {ri : Nat → Nat → Int32} {tp : Nat → Int32} {tn : Nat} {lf : Int32} {fd : Int32} {tr : Nat → Int32} {un : Nat} (hM : MV G c f w A) (hS : MS f w A (st, nw, ac, na, ik, im, rp, rl, rs, ri, tp, tn, lf, fd, tr, un)) (hI : MI (st, nw, ac, na, ik, im, rp, rl, rs, ri, tp, tn, lf, fd, tr, un)) {k : Int32} (hQ : ∀ G' : gG, MR G' c (opImage (st, nw, ac, na, ik, im, rp, rl, rs, ri, tp, tn, lf, fd, tr, un) k).2 → Frm G G' c 10 → Q (some (.int (opImage (st, nw, ac, na, ik, im, rp, rl, rs, ri, tp, tn, lf, fd, tr, un) k).1)) G') : Runs E y_M_image 2 0 S [.ref c, .int k] G Q := by
  refine Runs.of "ClockPostModel" [some (.ref c), some (.int k)] cw_M_image (by decide) (by decide +kernel) rfl (Nat.le_of_ble_eq_true rfl) rfl (fun K hK => ?_)
  obtain ⟨w0, hw0⟩ : ∃ x, w = putT x 0 nw := ⟨_, hS.t0⟩
  subst hw0
  obtain ⟨n, hV⟩ := hI.1
  have h6 := hV.1
  have hz0 : putT w0 0 nw 0 = nI n := (hS.2.2.2.2.2.2.1 0 (by omega)).trans hV.2.1
  refine r_iload_n hK d_M_image_0 rfl ?_
  refine r_i2l hK d_M_image_1 ?_
  refine r_lconst (v := 0) hK d_M_image_2 rfl ?_
  refine r_lconst (v := 1) hK d_M_image_3 rfl ?_
  refine r_s3 (k' := 1) hK lm_M_45 d_M_image_4 (by decide) (Nat.le_of_ble_eq_true rfl) ?_
  refine c_M_in (a := 0) (b := 1) (by decide) (by decide) (kc_s ?_)
  refine r_if_ne (tgt := 13) hK d_M_image_7 rfl (fun h7 => ?_) (fun h7 => ?_)
  · skip
    have hb := bI_n0.mp h7
    rw [opImage, if_pos hb] at hQ
    obtain ⟨j, hj, rfl⟩ := inB_1 hb
    refine r_aload_n hK d_M_image_13 rfl ?_
    refine r_get hK lf_M_130 d_M_image_14 (hM.1) rfl ?_
    rw [hS.1]
    refine r_if_ne (tgt := 23) hK d_M_image_17 rfl (fun h17 => ?_) (fun h17 => ?_)
    · skip
      have hst : st = true := bI_n0.mp h17
      rw [if_pos hst, nN_nI (by omega)] at hQ
      refine r_aload_n hK d_M_image_23 rfl ?_
      refine r_iconst hK d_M_image_24 kc_0 ?_
      refine r_sipush hK d_M_image_25 ks_900 ?_
      refine r_bipush hK d_M_image_28 kb_36 ?_
      refine r_iload_n hK d_M_image_30 rfl ?_
      refine r_imul hK d_M_image_31 ?_
      refine r_iadd hK d_M_image_32 ?_
      rw [show (900 : Int32) + 36 * nI j = nI (900 + 36 * j) from ixm rfl rfl]
      refine r_v2 (k' := 1) hK lm_M_126 d_M_image_33 ⟨_, hM.1⟩ (by decide) (Nat.le_of_ble_eq_true rfl) ?_
      refine c_M_copyTown (a := 0) hM (by omega) (by omega) (by omega) (fun G33 hM f33 => kc_n ?_)
      refine r_aload_n hK d_M_image_36 rfl ?_
      refine r_get hK lf_M_13 d_M_image_37 (hM.1) rfl ?_
      refine r_iload_n hK d_M_image_40 rfl ?_
      refine r_iconst hK d_M_image_41 kc_1 ?_
      refine s_a2 (j := j) (x := 1) hK d_M_image_42 hM rfl hj rfl (fun G42 hM f42 => ?_)
      have hS := hS.sI (j := j) (u := tw (putT w0 0 nw) 0) hj hI.2.2.2.1 (fun k hk => tw_put k hk)
      refine r_iconst hK d_M_image_43 kc_1 ?_
      refine r_iret hK rfl rfl d_M_image_44 ?_
      exact hQ _ ⟨_, _, _, hM, hS⟩ (f33.tr f42)
    · skip
      have hst : st = false := bI_0.mp h17
      rw [if_neg (by simp [hst])] at hQ
      refine r_ldc hK d_M_image_20 lc_M_137 ?_
      refine r_iret hK rfl rfl d_M_image_22 ?_
      exact hQ _ ⟨_, _, _, hM, hS⟩ Frm.rf
  · skip
    have hb := bI_0.mp h7
    rw [opImage, if_neg (by simp [hb])] at hQ
    refine r_ldc hK d_M_image_10 lc_M_55 ?_
    refine r_iret hK rfl rfl d_M_image_12 ?_
    exact hQ _ ⟨_, _, _, hM, hS⟩ Frm.rf
theorem c_M_restore {E : gX} {S : Nat} {G : gG} {Q : Option Value → gG → Prop} {c : Nat} {f w : Nat → Int32} {A : Nat → Nat → Int32} {st : Bool} {nw : Nat → Int32} {ac : Nat → Nat → Int32} {na : Nat} {ik : Nat → Bool} {im : Nat → Nat → Int32} {rp : Nat → Bool} {rl : Nat → Int32} {rs : Nat → Nat} {ri : Nat → Nat → Int32} {tp : Nat → Int32} {tn : Nat} {lf : Int32} {fd : Int32} {tr : Nat → Int32} {un : Nat} (hM : MV G c f w A) (hS : MS f w A (st, nw, ac, na, ik, im, rp, rl, rs, ri, tp, tn, lf, fd, tr, un)) (hI : MI (st, nw, ac, na, ik, im, rp, rl, rs, ri, tp, tn, lf, fd, tr, un)) {k : Int32} (hQ : ∀ G' : gG, MR G' c (opRestore (st, nw, ac, na, ik, im, rp, rl, rs, ri, tp, tn, lf, fd, tr, un) k).2 → Frm G G' c 10 → Q (some (.int (opRestore (st, nw, ac, na, ik, im, rp, rl, rs, ri, tp, tn, lf, fd, tr, un) k).1)) G') : Runs E y_M_restore 2 0 S [.ref c, .int k] G Q := by
  refine Runs.of "ClockPostModel" [some (.ref c), some (.int k)] cw_M_restore (by decide) (by decide +kernel) rfl (Nat.le_of_ble_eq_true rfl) rfl (fun K hK => ?_)
  obtain ⟨w0, hw0⟩ : ∃ x, w = putT x 0 nw := ⟨_, hS.t0⟩
  subst hw0
  obtain ⟨n, hV⟩ := hI.1
  have h6 := hV.1
  have hz0 : putT w0 0 nw 0 = nI n := (hS.2.2.2.2.2.2.1 0 (by omega)).trans hV.2.1
  refine r_iload_n hK d_M_restore_0 rfl ?_
  refine r_i2l hK d_M_restore_1 ?_
  refine r_lconst (v := 0) hK d_M_restore_2 rfl ?_
  refine r_lconst (v := 1) hK d_M_restore_3 rfl ?_
  refine r_s3 (k' := 1) hK lm_M_45 d_M_restore_4 (by decide) (Nat.le_of_ble_eq_true rfl) ?_
  refine c_M_in (a := 0) (b := 1) (by decide) (by decide) (kc_s ?_)
  refine r_if_ne (tgt := 13) hK d_M_restore_7 rfl (fun h7 => ?_) (fun h7 => ?_)
  · skip
    have hb := bI_n0.mp h7
    rw [opRestore, if_pos hb] at hQ
    obtain ⟨j, hj, rfl⟩ := inB_1 hb
    rw [nN_nI (by omega)] at hQ
    refine r_aload_n hK d_M_restore_13 rfl ?_
    refine r_get hK lf_M_13 d_M_restore_14 (hM.1) rfl ?_
    refine r_iload_n hK d_M_restore_17 rfl ?_
    refine g_a2 (j := j) hK d_M_restore_18 hM rfl hj ?_
    rw [hS.2.2.2.2.2.2.2.2.2.1 j hj]
    refine r_if_ne (tgt := 25) hK d_M_restore_19 rfl (fun h19 => ?_) (fun h19 => ?_)
    · skip
      have hik : ik j = true := bI_n0.mp h19
      rw [if_pos hik] at hQ
      have hst : st = true := hI.2.2.2.2.2.2.2.2 j hj hik
      subst hst
      refine r_aload_n hK d_M_restore_25 rfl ?_
      refine r_sipush hK d_M_restore_26 ks_900 ?_
      refine r_bipush hK d_M_restore_29 kb_36 ?_
      refine r_iload_n hK d_M_restore_31 rfl ?_
      refine r_imul hK d_M_restore_32 ?_
      refine r_iadd hK d_M_restore_33 ?_
      rw [show (900 : Int32) + 36 * nI j = nI (900 + 36 * j) from ixm rfl rfl]
      refine r_iconst hK d_M_restore_34 kc_0 ?_
      refine r_v2 (k' := 1) hK lm_M_126 d_M_restore_35 ⟨_, hM.1⟩ (by decide) (Nat.le_of_ble_eq_true rfl) ?_
      refine c_M_copyTown (b := 0) hM (by omega) (by omega) (by omega) (fun G35 hM f35 => kc_n ?_)
      have hS := (hS.sN (u := tw (putT w0 0 nw) (900 + 36 * j))).cg (u := im j) (fun k hk => hS.2.2.2.2.2.2.2.2.1 j hj hik k hk)
      refine r_aload_n hK d_M_restore_38 rfl ?_
      refine r_iconst hK d_M_restore_39 kc_0 ?_
      refine p_M_undos hK lf_M_134 d_M_restore_40 hM (fun G40 hM f40 => ?_)
      have hS := hS.sna (m := 0) (by omega)
      refine r_iconst hK d_M_restore_43 kc_1 ?_
      refine r_iret hK rfl rfl d_M_restore_44 ?_
      exact hQ _ ⟨_, _, _, hM, hS⟩ (f35.tr f40)
    · skip
      have hk : ik j = false := bI_0.mp h19
      rw [if_neg (by simp [hk])] at hQ
      refine r_ldc hK d_M_restore_22 lc_M_137 ?_
      refine r_iret hK rfl rfl d_M_restore_24 ?_
      exact hQ _ ⟨_, _, _, hM, hS⟩ Frm.rf
  · skip
    have hb := bI_0.mp h7
    rw [opRestore, if_neg (by simp [hb])] at hQ
    refine r_ldc hK d_M_restore_10 lc_M_55 ?_
    refine r_iret hK rfl rfl d_M_restore_12 ?_
    exact hQ _ ⟨_, _, _, hM, hS⟩ Frm.rf
theorem c_M_feed {E : gX} {S : Nat} {G : gG} {Q : Option Value → gG → Prop} {c : Nat} {f w : Nat → Int32} {A : Nat → Nat → Int32} {st : Bool} {nw : Nat → Int32} {ac : Nat → Nat → Int32} {na : Nat} {ik : Nat → Bool} {im : Nat → Nat → Int32} {rp : Nat → Bool} {rl : Nat → Int32} {rs : Nat → Nat} {ri : Nat → Nat → Int32} {tp : Nat → Int32} {tn : Nat} {lf : Int32} {fd : Int32} {tr : Nat → Int32} {un : Nat} (hM : MV G c f w A) (hS : MS f w A (st, nw, ac, na, ik, im, rp, rl, rs, ri, tp, tn, lf, fd, tr, un)) (hI : MI (st, nw, ac, na, ik, im, rp, rl, rs, ri, tp, tn, lf, fd, tr, un)) {x : Int32} (hQ : ∀ G' : gG, MR G' c (opFeed (st, nw, ac, na, ik, im, rp, rl, rs, ri, tp, tn, lf, fd, tr, un) x).2 → Frm G G' c 10 → Q (some (.int (opFeed (st, nw, ac, na, ik, im, rp, rl, rs, ri, tp, tn, lf, fd, tr, un) x).1)) G') : Runs E y_M_feed 2 0 S [.ref c, .int x] G Q := by
  refine Runs.of "ClockPostModel" [some (.ref c), some (.int x)] cw_M_feed (by decide) (by decide +kernel) rfl (Nat.le_of_ble_eq_true rfl) rfl (fun K hK => ?_)
  obtain ⟨w0, hw0⟩ : ∃ x, w = putT x 0 nw := ⟨_, hS.t0⟩
  subst hw0
  obtain ⟨n, hV⟩ := hI.1
  have h6 := hV.1
  have hz0 : putT w0 0 nw 0 = nI n := (hS.2.2.2.2.2.2.1 0 (by omega)).trans hV.2.1
  refine r_iload_n hK d_M_feed_0 rfl ?_
  refine r_i2l hK d_M_feed_1 ?_
  refine r_lconst (v := 0) hK d_M_feed_2 rfl ?_
  refine r_ldc2 hK d_M_feed_3 lc_M_71 ?_
  refine r_s3 (k' := 1) hK lm_M_45 d_M_feed_6 (by decide) (Nat.le_of_ble_eq_true rfl) ?_
  refine c_M_in (a := 0) (b := 255) (by decide) (by decide) (kc_s ?_)
  refine r_if_ne (tgt := 15) hK d_M_feed_9 rfl (fun h9 => ?_) (fun h9 => ?_)
  · skip
    have hb := bI_n0.mp h9
    rw [opFeed, if_pos hb] at hQ
    refine r_aload_n hK d_M_feed_15 rfl ?_
    refine r_get hK lf_M_73 d_M_feed_16 (hM.1) rfl ?_
    rw [hS.2.2.1]
    refine r_bipush hK d_M_feed_19 kb_100 ?_
    refine r_icmp_ne (tgt := 27) hK d_M_feed_21 rfl (fun h21 => ?_) (fun h21 => ?_)
    · skip
      have hz : tn < 100 := by
        have hz0 : tn ≠ 100 := fun q => h21 (by rw [q]; rfl)
        have := hI.2.2.2.2.2.1
        omega
      rw [if_pos hz] at hQ
      refine r_aload_n hK d_M_feed_27 rfl ?_
      refine r_get hK lf_M_26 d_M_feed_28 (hM.1) rfl ?_
      refine r_aload_n hK d_M_feed_31 rfl ?_
      refine r_get hK lf_M_73 d_M_feed_32 (hM.1) rfl ?_
      rw [hS.2.2.1]
      refine r_iload_n hK d_M_feed_35 rfl ?_
      refine s_a6 (j := tn) hK d_M_feed_36 hM rfl hz (fun G36 hM f36 => ?_)
      refine r_aload_n hK d_M_feed_37 rfl ?_
      refine r_dup hK d_M_feed_38 rfl ?_
      refine r_get hK lf_M_73 d_M_feed_39 (hM.1) rfl ?_
      rw [hS.2.2.1]
      refine r_iconst hK d_M_feed_42 kc_1 ?_
      refine r_iadd hK d_M_feed_43 ?_
      rw [nI_1]
      refine p_M_length hK lf_M_73 d_M_feed_44 hM (fun G44 hM f44 => ?_)
      have hS := hS.sfe (x := x)
      refine r_aload_n hK d_M_feed_47 rfl ?_
      refine r_get hK lf_M_73 d_M_feed_48 (hM.1) rfl ?_
      rw [upd_s]
      refine r_iret hK rfl rfl d_M_feed_51 ?_
      exact hQ _ ⟨_, _, _, hM, hS⟩ (f36.tr f44)
    · skip
      have hz : ¬ tn < 100 := by
        have := (eqc (c := 100) (n := 100) (by decide) (by have := hI.2.2.2.2.2.1; omega)).mp h21
        omega
      rw [if_neg hz] at hQ
      refine r_ldc hK d_M_feed_24 lc_M_76 ?_
      refine r_iret hK rfl rfl d_M_feed_26 ?_
      exact hQ _ ⟨_, _, _, hM, hS⟩ Frm.rf
  · skip
    have hb := bI_0.mp h9
    rw [opFeed, if_neg (by simp [hb])] at hQ
    refine r_ldc hK d_M_feed_12 lc_M_55 ?_
    refine r_iret hK rfl rfl d_M_feed_14 ?_
    exact hQ _ ⟨_, _, _, hM, hS⟩ Frm.rf
