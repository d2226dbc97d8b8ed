def zr (g : Nat → Int32) (j t : Nat) : Nat → Int32 := fun k => if 40 * j ≤ k ∧ k < 40 * j + t then 0 else g k
theorem zr_0 {g : Nat → Int32} {j : Nat} : zr g j 0 = g := by
  funext k
  unfold zr
  rw [if_neg (by omega)]
theorem zr_s {g : Nat → Int32} {j t : Nat} : upd (zr g j t) (40 * j + t) 0 = zr g j (t + 1) := by
  funext k
  unfold upd zr
  by_cases e : k = 40 * j + t
  · rw [if_pos e, if_pos (by omega)]
  · rw [if_neg e]
    by_cases q : 40 * j ≤ k ∧ k < 40 * j + t
    · rw [if_pos q, if_pos (by omega)]
    · rw [if_neg q, if_neg (by omega)]
theorem MS.srow {f w : Nat → Int32} {A : Nat → Nat → Int32} {st : Bool} {nw : Nat → Int32} {ac : Nat → Nat → Int32} {na : Nat} {ik : Nat → Bool} {im : Nat → Nat → Int32} {rp : Nat → Bool} {rl : Nat → Int32} {rs : Nat → Nat} {ri : Nat → Nat → Int32} {tp : Nat → Int32} {tn : Nat} {lf : Int32} {fd : Int32} {tr : Nat → Int32} {un : Nat} {j z : Nat} {l : Int32} (h : MS f w A (st, nw, ac, na, ik, im, rp, rl, rs, ri, tp, tn, lf, fd, tr, un)) (hj : j < 8) : MS (upd f 10 0) w (va_up (va_up (va_up A 3 (upd (A 3) j l)) 4 (upd (A 4) j (nI z))) 5 (zr (A 5) j 40)) (st, nw, ac, na, ik, im, va_up rp j true, va_up rl j l, va_up rs j z, va_up ri j zV, tp, tn, lf, 0, tr, un) :=
  ⟨by rw [upd_n (by omega)]; exact h.1, by rw [upd_n (by omega)]; exact h.2.1, by rw [upd_n (by omega)]; exact h.2.2.1, by rw [upd_n (by omega)]; exact h.2.2.2.1, upd_s, by rw [upd_n (by omega)]; exact h.2.2.2.2.2.1, h.2.2.2.2.2.2.1, h.2.2.2.2.2.2.2.1, h.2.2.2.2.2.2.2.2.1, fun i hi => by rw [va_up_n (by omega), va_up_n (by omega), va_up_n (by omega)]; exact h.2.2.2.2.2.2.2.2.2.1 i hi, fun i hi => by
    rw [va_up_n (by omega), va_up_s]
    by_cases e : i = j
    · subst e; rw [upd_s, va_up_s, va_up_s, if_pos rfl]
    · rw [upd_n e, va_up_n e, va_up_n e]; exact h.2.2.2.2.2.2.2.2.2.2.1 i hi, fun i hi hq => by
    rw [va_up_n (show 3 ≠ 5 by omega), va_up_n (show 3 ≠ 4 by omega), va_up_s, va_up_s]
    by_cases e : i = j
    · subst e
      rw [upd_s, va_up_s, va_up_s]
      exact ⟨rfl, fun k hk => by unfold zr; rw [if_pos (by omega)]; rfl⟩
    · rw [va_up_n e] at hq
      rw [upd_n e, va_up_n e, va_up_n e]
      exact ⟨(h.2.2.2.2.2.2.2.2.2.2.2.1 i hi hq).1, fun k hk => by unfold zr; rw [if_neg (by omega)]; exact (h.2.2.2.2.2.2.2.2.2.2.2.1 i hi hq).2 k hk⟩, fun k hk => by rw [va_up_n (by omega), va_up_n (by omega), va_up_n (by omega)]; exact h.2.2.2.2.2.2.2.2.2.2.2.2.1 k hk, fun k hk => by rw [va_up_n (by omega), va_up_n (by omega), va_up_n (by omega)]; exact h.2.2.2.2.2.2.2.2.2.2.2.2.2 k hk⟩
theorem MS.sit {f w : Nat → Int32} {A : Nat → Nat → Int32} {st : Bool} {nw : Nat → Int32} {ac : Nat → Nat → Int32} {na : Nat} {ik : Nat → Bool} {im : Nat → Nat → Int32} {rp : Nat → Bool} {rl : Nat → Int32} {rs : Nat → Nat} {ri : Nat → Nat → Int32} {tp : Nat → Int32} {tn : Nat} {lf : Int32} {fd : Int32} {tr : Nat → Int32} {un : Nat} {j : Nat} {g h5 : Nat → Int32} (h : MS f w A (st, nw, ac, na, ik, im, rp, rl, rs, ri, tp, tn, lf, fd, tr, un)) (hj : j < 8) (hg : ∀ k, k < 40 → h5 (40 * j + k) = g k) (hgo : ∀ i, i < 8 → i ≠ j → ∀ k, k < 40 → h5 (40 * i + k) = A 5 (40 * i + k)) : MS f w (va_up A 5 h5) (st, nw, ac, na, ik, im, rp, rl, rs, va_up ri j g, tp, tn, lf, fd, tr, un) :=
  ⟨h.1, h.2.1, h.2.2.1, h.2.2.2.1, h.2.2.2.2.1, h.2.2.2.2.2.1, h.2.2.2.2.2.2.1, h.2.2.2.2.2.2.2.1, h.2.2.2.2.2.2.2.2.1, fun i hi => by rw [va_up_n (by omega)]; exact h.2.2.2.2.2.2.2.2.2.1 i hi, fun i hi => by rw [va_up_n (by omega)]; exact h.2.2.2.2.2.2.2.2.2.2.1 i hi, fun i hi hq => by
    rw [va_up_n (show 3 ≠ 5 by omega), va_up_s]
    by_cases e : i = j
    · subst e; rw [va_up_s]; exact ⟨(h.2.2.2.2.2.2.2.2.2.2.2.1 i hi hq).1, hg⟩
    · rw [va_up_n e]; exact ⟨(h.2.2.2.2.2.2.2.2.2.2.2.1 i hi hq).1, fun k hk => (hgo i hi e k hk).trans ((h.2.2.2.2.2.2.2.2.2.2.2.1 i hi hq).2 k hk)⟩, fun k hk => by rw [va_up_n (by omega)]; exact h.2.2.2.2.2.2.2.2.2.2.2.2.1 k hk, fun k hk => by rw [va_up_n (by omega)]; exact h.2.2.2.2.2.2.2.2.2.2.2.2.2 k hk⟩
theorem MS.sdr {f w : Nat → Int32} {A : Nat → Nat → Int32} {st : Bool} {nw : Nat → Int32} {ac : Nat → Nat → Int32} {na : Nat} {ik : Nat → Bool} {im : Nat → Nat → Int32} {rp : Nat → Bool} {rl : Nat → Int32} {rs : Nat → Nat} {ri : Nat → Nat → Int32} {tp : Nat → Int32} {tn : Nat} {lf : Int32} {fd : Int32} {tr : Nat → Int32} {un : Nat} {j : Nat} (h : MS f w A (st, nw, ac, na, ik, im, rp, rl, rs, ri, tp, tn, lf, fd, tr, un)) (hj : j < 8) : MS f w (va_up A 4 (upd (A 4) j (-1))) (st, nw, ac, na, ik, im, va_up rp j false, rl, rs, ri, tp, tn, lf, fd, tr, un) :=
  ⟨h.1, h.2.1, h.2.2.1, h.2.2.2.1, h.2.2.2.2.1, h.2.2.2.2.2.1, h.2.2.2.2.2.2.1, h.2.2.2.2.2.2.2.1, h.2.2.2.2.2.2.2.2.1, fun i hi => by rw [va_up_n (by omega)]; exact h.2.2.2.2.2.2.2.2.2.1 i hi, fun i hi => by
    rw [va_up_s]
    by_cases e : i = j
    · subst e; rw [upd_s, va_up_s, if_neg (by decide)]
    · rw [upd_n e, va_up_n e]; exact h.2.2.2.2.2.2.2.2.2.2.1 i hi, fun i hi hq => by
    by_cases e : i = j
    · subst e; rw [va_up_s] at hq; cases hq
    · rw [va_up_n e] at hq
      rw [va_up_n (by omega), va_up_n (by omega)]
      exact h.2.2.2.2.2.2.2.2.2.2.2.1 i hi hq, fun k hk => by rw [va_up_n (by omega)]; exact h.2.2.2.2.2.2.2.2.2.2.2.2.1 k hk, fun k hk => by rw [va_up_n (by omega)]; exact h.2.2.2.2.2.2.2.2.2.2.2.2.2 k hk⟩
theorem MS.sz1 {f w : Nat → Int32} {A : Nat → Nat → Int32} {st : Bool} {nw : Nat → Int32} {ac : Nat → Nat → Int32} {na : Nat} {ik : Nat → Bool} {im : Nat → Nat → Int32} {rp : Nat → Bool} {rl : Nat → Int32} {rs : Nat → Nat} {ri : Nat → Nat → Int32} {tp : Nat → Int32} {tn : Nat} {lf : Int32} {fd : Int32} {tr : Nat → Int32} {un : Nat} {j : Nat} (h : MS f w A (st, nw, ac, na, ik, im, rp, rl, rs, ri, tp, tn, lf, fd, tr, un)) (hj : j < 8) (hs : rs j ≤ 40) : (A 4 j < 0 ↔ rp j = false) ∧ (rp j = true → A 4 j = nI (rs j)) := by
  rw [h.2.2.2.2.2.2.2.2.2.2.1 j hj]
  cases e : rp j
  · exact ⟨⟨fun _ => rfl, fun _ => by rw [if_neg (by decide)]; decide⟩, fun q => by cases q⟩
  · rw [if_pos rfl]
    refine ⟨⟨fun q => ?_, fun q => by cases q⟩, fun _ => rfl⟩
    rw [i_lt, nI_toInt (by omega), ti_0] at q
    omega
theorem hp1 {z : Nat} {i : Int32} (hz : z ≤ 40) : inB i 0 (nI z - 1) = hasP (nI z) i 1 := by
  have a := nI_toInt (n := z) (by omega)
  have e : (nI z - 1).toInt = (z : Int) - 1 := by rw [sub_toI (by rw [a, ti_1]; omega), a, ti_1]
  rw [Bool.eq_iff_iff, hasP_iff hz]
  simp only [inB, Bool.and_eq_true, decide_eq_true_eq, i_le, ti_0, ti_1, e]
  omega
theorem ix40 {a b : Nat} : (40 : Int32) * nI a + nI b = nI (40 * a + b) := by rw [show (40 : Int32) = nI 40 from rfl, nI_m, nI_add]
theorem c_M_noItems {E : gX} {S : Nat} {G : gG} {Q : Option Value → gG → Prop} {c r : Nat} {f w : Nat → Int32} {A : Nat → Nat → Int32} {st : Bool} {nw : Nat → Int32} {ac : Nat → Nat → Int32} {na : Nat} {ik : Nat → Bool} {im : Nat → Nat → Int32} {rp : Nat → Bool} {rl : Nat → Int32} {rs : Nat → Nat} {ri : Nat → Nat → Int32} {tp : Nat → Int32} {tn : Nat} {lf : Int32} {fd : Int32} {tr : Nat → Int32} {un : Nat} (hM : MV G c f w A) (hS : MS f w A (st, nw, ac, na, ik, im, rp, rl, rs, ri, tp, tn, lf, fd, tr, un)) (hr : r < 8) (hs : rs r ≤ 40) {i n : Int32} (hQ : ∀ G' : gG, (if flw (rp r) (rs r) i n = 0 then G' = G else MV G' c (upd f 10 (flw (rp r) (rs r) i n)) w A ∧ Frm G G' c 10) → Q (some (.int (if flw (rp r) (rs r) i n = 0 then 0 else -1000010 - flw (rp r) (rs r) i n))) G') : Runs E y_M_noItems 2 0 S [.ref c, .int (nI r), .int i, .int n] G Q := by
  refine Runs.of "ClockPostModel" [some (.ref c), some (.int (nI r)), some (.int i), some (.int n)] cw_M_noItems (by decide) (by decide +kernel) rfl (Nat.le_of_ble_eq_true rfl) rfl (fun K hK => ?_)
  have hz := hS.sz1 hr hs
  refine r_aload_n hK d_M_noItems_0 rfl ?_
  refine r_get hK lf_M_20 d_M_noItems_1 (hM.1) rfl ?_
  refine r_iload_n hK d_M_noItems_4 rfl ?_
  refine g_a4 (j := r) hK d_M_noItems_5 hM (rfl) (by omega) ?_
  refine r_if_ge (tgt := 17) hK d_M_noItems_6 rfl (fun h6 => ?_) (fun h6 => ?_)
  · skip
    have hp : rp r = true := by
      cases e : rp r with
      | true => rfl
      | false => exact absurd (hz.1.mpr e) (Int32.not_lt.mpr h6)
    have hz2 := hz.2 hp
    refine r_aload_n hK d_M_noItems_17 rfl ?_
    refine r_iload_n hK d_M_noItems_18 rfl ?_
    refine r_iload_n hK d_M_noItems_19 rfl ?_
    refine r_iload_n hK d_M_noItems_20 rfl ?_
    refine r_v3 (k' := 1) hK lm_M_67 d_M_noItems_21 ⟨_, hM.1⟩ (by decide) (Nat.le_of_ble_eq_true rfl) ?_
    refine c_M_isSpan hM hr hz2 hs (kc_s ?_)
    refine r_if_eq (tgt := 31) hK d_M_noItems_24 rfl (fun h24 => ?_) (fun h24 => ?_)
    · skip
      have e : flw (rp r) (rs r) i n = 2 := by rw [hp, flw, if_pos rfl, bI_0.mp h24]; rfl
      rw [e] at hQ
      simp only [show ¬ (2 : Int32) = 0 by decide, if_false] at hQ
      refine r_aload_n hK d_M_noItems_31 rfl ?_
      refine r_iconst hK d_M_noItems_32 kc_2 ?_
      refine r_v1 (k' := 1) hK lm_M_56 d_M_noItems_33 ⟨_, hM.1⟩ (by decide) (Nat.le_of_ble_eq_true rfl) ?_
      refine c_M_find hM (fun G33 hM f33 => kc_s ?_)
      refine r_iret hK rfl rfl d_M_noItems_36 ?_
      first | exact hQ _ rfl | exact hQ _ ⟨hM, f11⟩ | exact hQ _ ⟨hM, f33⟩
    · skip
      have e : flw (rp r) (rs r) i n = 0 := by rw [hp, flw, if_pos rfl, if_pos (bI_n0.mp h24)]
      rw [e] at hQ
      simp only [if_true] at hQ
      refine r_iconst hK d_M_noItems_27 kc_0 ?_
      refine r_goto (tgt := 36) hK d_M_noItems_28 rfl ?_
      refine r_iret hK rfl rfl d_M_noItems_36 ?_
      first | exact hQ _ rfl | exact hQ _ ⟨hM, f11⟩ | exact hQ _ ⟨hM, f33⟩
  · skip
    have hp : rp r = false := hz.1.mp (Int32.not_le.mp h6)
    have e : flw (rp r) (rs r) i n = 1 := by rw [hp]; rfl
    rw [e] at hQ
    simp only [show ¬ (1 : Int32) = 0 by decide, if_false] at hQ
    refine r_aload_n hK d_M_noItems_9 rfl ?_
    refine r_iconst hK d_M_noItems_10 kc_1 ?_
    refine r_v1 (k' := 1) hK lm_M_56 d_M_noItems_11 ⟨_, hM.1⟩ (by decide) (Nat.le_of_ble_eq_true rfl) ?_
    refine c_M_find hM (fun G11 hM f11 => kc_s ?_)
    refine r_goto (tgt := 36) hK d_M_noItems_14 rfl ?_
    refine r_iret hK rfl rfl d_M_noItems_36 ?_
    first | exact hQ _ rfl | exact hQ _ ⟨hM, f11⟩ | exact hQ _ ⟨hM, f33⟩
theorem c_M_row {E : gX} {S : Nat} {G : gG} {Q : Option Value → gG → Prop} {c : Nat} {f w : Nat → Int32} {A : Nat → Nat → Int32} {st : Bool} {nw : Nat → Int32} {ac : Nat → Nat → Int32} {na : Nat} {ik : Nat → Bool} {im : Nat → Nat → Int32} {rp : Nat → Bool} {rl : Nat → Int32} {rs : Nat → Nat} {ri : Nat → Nat → Int32} {tp : Nat → Int32} {tn : Nat} {lf : Int32} {fd : Int32} {tr : Nat → Int32} {un : Nat} (hM : MV G c f w A) (hS : MS f w A (st, nw, ac, na, ik, im, rp, rl, rs, ri, tp, tn, lf, fd, tr, un)) (hI : MI (st, nw, ac, na, ik, im, rp, rl, rs, ri, tp, tn, lf, fd, tr, un)) {r l n : Int32} (hQ : ∀ G' : gG, MR G' c (opRow (st, nw, ac, na, ik, im, rp, rl, rs, ri, tp, tn, lf, fd, tr, un) r l n).2 → Frm G G' c 10 → Q (some (.int (opRow (st, nw, ac, na, ik, im, rp, rl, rs, ri, tp, tn, lf, fd, tr, un) r l n).1)) G') : Runs E y_M_row 3 0 S [.ref c, .int r, .int l, .int n] G Q := by
  refine Runs.of "ClockPostModel" [some (.ref c), some (.int r), some (.int l), some (.int n), none] cw_M_row (by decide) (by decide +kernel) rfl (Nat.le_of_ble_eq_true rfl) rfl (fun K hK => ?_)
  refine r_iload_n hK d_M_row_0 rfl ?_
  refine r_s1 (k' := 2) hK lm_M_49 d_M_row_1 (by decide) (Nat.le_of_ble_eq_true rfl) ?_
  refine c_M_isRow (kc_s ?_)
  refine r_if_eq (tgt := 25) hK d_M_row_4 rfl (fun h4 => ?_) (fun h4 => ?_)
  · skip
    have hb := bI_0.mp h4
    rw [opRow, if_neg (by simp [hb])] at hQ
    refine r_ldc hK d_M_row_25 lc_M_55 ?_
    refine r_iret hK rfl rfl d_M_row_27 ?_
    exact hQ _ ⟨_, _, _, hM, hS⟩ Frm.rf
  · skip
    have hb := bI_n0.mp h4
    refine r_iload_n hK d_M_row_7 rfl ?_
    refine r_i2l hK d_M_row_8 ?_
    refine r_lconst (v := 0) hK d_M_row_9 rfl ?_
    refine r_ldc2 hK d_M_row_10 lc_M_53 ?_
    refine r_s3 (k' := 1) hK lm_M_45 d_M_row_13 (by decide) (Nat.le_of_ble_eq_true rfl) ?_
    refine c_M_in (a := 0) (b := 2) (by decide) (by decide) (kc_s ?_)
    refine r_if_eq (tgt := 25) hK d_M_row_16 rfl (fun h16 => ?_) (fun h16 => ?_)
    · skip
      have hc := bI_0.mp h16
      rw [opRow, if_neg (by simp [hc])] at hQ
      refine r_ldc hK d_M_row_25 lc_M_55 ?_
      refine r_iret hK rfl rfl d_M_row_27 ?_
      exact hQ _ ⟨_, _, _, hM, hS⟩ Frm.rf
    · skip
      have hc := bI_n0.mp h16
      refine r_iload_n hK d_M_row_19 rfl ?_
      refine r_bipush hK d_M_row_20 kb_40 ?_
      refine r_icmp_le (tgt := 28) hK d_M_row_22 rfl (fun h22 => ?_) (fun h22 => ?_)
      · skip
        rw [opRow, if_pos ⟨hb, hc, h22⟩] at hQ
        obtain ⟨j, hj, rfl⟩ := inB_7 hb
        rw [nN_nI (by omega)] at hQ
        refine r_iload_n hK d_M_row_28 rfl ?_
        refine r_if_ge (tgt := 38) hK d_M_row_29 rfl (fun h29 => ?_) (fun h29 => ?_)
        · skip
          rw [if_neg (Int32.not_lt.mpr h29)] at hQ
          obtain ⟨z, hz, rfl⟩ := nI_of (Int32.not_lt.mpr h29)
          rw [nN_nI (by omega)] at hQ
          refine r_aload_n hK d_M_row_38 rfl ?_
          refine r_get hK lf_M_17 d_M_row_39 (hM.1) rfl ?_
          refine r_iload_n hK d_M_row_42 rfl ?_
          refine r_iload_n hK d_M_row_43 rfl ?_
          refine s_a3 (j := j) hK d_M_row_44 hM (rfl) (by omega) (fun G44 hM f44 => ?_)
          have hF := f44
          refine r_aload_n hK d_M_row_45 rfl ?_
          refine r_get hK lf_M_20 d_M_row_46 (hM.1) rfl ?_
          refine r_iload_n hK d_M_row_49 rfl ?_
          refine r_iload_n hK d_M_row_50 rfl ?_
          refine s_a4 (j := j) hK d_M_row_51 hM (rfl) (by omega) (fun G51 hM f51 => ?_)
          have hF := hF.tr f51
          rw [va_up_n (show 4 ≠ 3 by omega)] at hM
          refine r_iconst hK d_M_row_52 kc_0 ?_
          refine st_i_4_5 hK d_M_row_53 trivial ?_
          suffices L : ∀ t, t ≤ 40 → ∀ G1 : gG, MV G1 c f w (va_up (va_up (va_up A 3 (upd (A 3) j l)) 4 (upd (A 4) j (nI z))) 5 (zr (A 5) j t)) → Frm G G1 c 10 → K 55 [some (.ref c), some (.int (nI j)), some (.int l), some (.int (nI z)), some (.int (nI t))] [] S G1 from L 0 (Nat.zero_le _) _ (by rw [zr_0, show A 5 = (va_up (va_up A 3 (upd (A 3) j l)) 4 (upd (A 4) j (nI z))) 5 by rw [va_up_n (by omega), va_up_n (by omega)], va_up_id]; exact hM) hF
          clear hM hF
          refine lpN 40 (fun t ht ih G1 hM hF => ?_)
          refine r_iload hK d_M_row_55 rfl ?_
          refine r_bipush hK d_M_row_57 kb_40 ?_
          refine r_icmp_ge (tgt := 81) hK d_M_row_59 rfl (fun h59 => ?_) (fun h59 => ?_)
          · skip
            have hq : t = 40 := by have := (cle (n := 40) (by decide) (by omega)).mp h59; omega
            subst hq
            refine r_aload_n hK d_M_row_81 rfl ?_
            refine r_iload_n hK d_M_row_82 rfl ?_
            refine r_v1 (k' := 1) hK lm_M_60 d_M_row_83 ⟨_, hM.1⟩ (by decide) (Nat.le_of_ble_eq_true rfl) ?_
            refine c_M_well hM (fun G83 hM f83 => kc_s ?_)
            refine r_iret hK rfl rfl d_M_row_86 ?_
            exact hQ _ ⟨_, _, _, hM, hS.srow hj⟩ (hF.tr f83)
          · skip
            have hq : t < 40 := Nat.not_le.mp (fun q => h59 ((cle (n := 40) (by decide) (by omega)).mpr q))
            refine r_aload_n hK d_M_row_62 rfl ?_
            refine r_get hK lf_M_23 d_M_row_63 (hM.1) rfl ?_
            refine r_bipush hK d_M_row_66 kb_40 ?_
            refine r_iload_n hK d_M_row_68 rfl ?_
            refine r_imul hK d_M_row_69 ?_
            refine r_iload hK d_M_row_70 rfl ?_
            refine r_iadd hK d_M_row_72 ?_
            refine r_iconst hK d_M_row_73 kc_0 ?_
            refine s_a5 (j := 40 * j + t) hK d_M_row_74 hM ix40 (by omega) (fun G74 hM f74 => ?_)
            rw [va_up_s, va_up_2, zr_s] at hM
            have hF := hF.tr f74
            first | refine iN_4_5 hK d_M_row_75 trivial ?_ | refine ii_4_1_5 hK d_M_row_75 trivial ?_
            refine r_goto (tgt := 55) hK d_M_row_78 rfl ?_
            exact ih hq _ hM hF
        · skip
          rw [if_pos (Int32.not_le.mp h29)] at hQ
          refine r_aload_n hK d_M_row_32 rfl ?_
          refine r_iconst hK d_M_row_33 kc_4 ?_
          refine r_v1 (k' := 1) hK lm_M_56 d_M_row_34 ⟨_, hM.1⟩ (by decide) (Nat.le_of_ble_eq_true rfl) ?_
          refine c_M_find hM (fun G34 hM f34 => kc_s ?_)
          refine r_iret hK rfl rfl d_M_row_37 ?_
          exact hQ _ ⟨_, _, _, hM, hS.sfd⟩ f34
      · skip
        rw [opRow, if_neg (fun q => h22 q.2.2)] at hQ
        refine r_ldc hK d_M_row_25 lc_M_55 ?_
        refine r_iret hK rfl rfl d_M_row_27 ?_
        exact hQ _ ⟨_, _, _, hM, hS⟩ Frm.rf
theorem c_M_drop {E : gX} {S : Nat} {G : gG} {Q : Option Value → gG → Prop} {c : Nat} {f w : Nat → Int32} {A : Nat → Nat → Int32} {st : Bool} {nw : Nat → Int32} {ac : Nat → Nat → Int32} {na : Nat} {ik : Nat → Bool} {im : Nat → Nat → Int32} {rp : Nat → Bool} {rl : Nat → Int32} {rs : Nat → Nat} {ri : Nat → Nat → Int32} {tp : Nat → Int32} {tn : Nat} {lf : Int32} {fd : Int32} {tr : Nat → Int32} {un : Nat} (hM : MV G c f w A) (hS : MS f w A (st, nw, ac, na, ik, im, rp, rl, rs, ri, tp, tn, lf, fd, tr, un)) (hI : MI (st, nw, ac, na, ik, im, rp, rl, rs, ri, tp, tn, lf, fd, tr, un)) {r : Int32} (hQ : ∀ G' : gG, MR G' c (opDrop (st, nw, ac, na, ik, im, rp, rl, rs, ri, tp, tn, lf, fd, tr, un) r).2 → Frm G G' c 10 → Q (some (.int (opDrop (st, nw, ac, na, ik, im, rp, rl, rs, ri, tp, tn, lf, fd, tr, un) r).1)) G') : Runs E y_M_drop 3 0 S [.ref c, .int r] G Q := by
  refine Runs.of "ClockPostModel" [some (.ref c), some (.int r), none] cw_M_drop (by decide) (by decide +kernel) rfl (Nat.le_of_ble_eq_true rfl) rfl (fun K hK => ?_)
  refine r_iload_n hK d_M_drop_0 rfl ?_
  refine r_s1 (k' := 2) hK lm_M_49 d_M_drop_1 (by decide) (Nat.le_of_ble_eq_true rfl) ?_
  refine c_M_isRow (kc_s ?_)
  refine r_if_ne (tgt := 10) hK d_M_drop_4 rfl (fun h4 => ?_) (fun h4 => ?_)
  · skip
    have hb := bI_n0.mp h4
    rw [opDrop, if_pos hb] at hQ
    obtain ⟨j, hj, rfl⟩ := inB_7 hb
    have hs := hI.2.2.2.2.1 j hj
    have hz := hS.sz1 hj hs
    refine r_aload_n hK d_M_drop_10 rfl ?_
    refine r_get hK lf_M_20 d_M_drop_11 (hM.1) rfl ?_
    refine r_iload_n hK d_M_drop_14 rfl ?_
    refine g_a4 (j := j) hK d_M_drop_15 hM (rfl) (by omega) ?_
    refine r_if_ge (tgt := 25) hK d_M_drop_16 rfl (fun h16 => ?_) (fun h16 => ?_)
    · skip
      have hp : rp j = true := by
        cases e : rp j with
        | true => rfl
        | false => exact absurd (hz.1.mpr e) (Int32.not_lt.mpr h16)
      have hz2 := hz.2 hp
      rw [nN_nI (by omega), if_pos hp] at hQ
      refine r_aload_n hK d_M_drop_25 rfl ?_
      refine r_get hK lf_M_20 d_M_drop_26 (hM.1) rfl ?_
      refine r_iload_n hK d_M_drop_29 rfl ?_
      refine g_a4 (j := j) hK d_M_drop_30 hM (rfl) (by omega) ?_
      rw [hz2]
      refine st_in_2_3 hK d_M_drop_31 trivial ?_
      refine r_aload_n hK d_M_drop_32 rfl ?_
      refine r_get hK lf_M_20 d_M_drop_33 (hM.1) rfl ?_
      refine r_iload_n hK d_M_drop_36 rfl ?_
      refine r_iconst hK d_M_drop_37 kc_m1 ?_
      refine s_a4 (j := j) hK d_M_drop_38 hM (rfl) (by omega) (fun G38 hM f38 => ?_)
      have hS := hS.sdr hj
      refine r_aload_n hK d_M_drop_39 rfl ?_
      refine r_iload_n hK d_M_drop_40 rfl ?_
      refine r_v1 (k' := 1) hK lm_M_60 d_M_drop_41 ⟨_, hM.1⟩ (by decide) (Nat.le_of_ble_eq_true rfl) ?_
      refine c_M_well hM (fun G41 hM f41 => kc_s ?_)
      refine r_iret hK rfl rfl d_M_drop_44 ?_
      exact hQ _ ⟨_, _, _, hM, hS.sfd⟩ (f38.tr f41)
    · skip
      have hp : rp j = false := hz.1.mp (Int32.not_le.mp h16)
      rw [nN_nI (by omega), if_neg (by simp [hp])] at hQ
      refine r_aload_n hK d_M_drop_19 rfl ?_
      refine r_iconst hK d_M_drop_20 kc_1 ?_
      refine r_v1 (k' := 1) hK lm_M_56 d_M_drop_21 ⟨_, hM.1⟩ (by decide) (Nat.le_of_ble_eq_true rfl) ?_
      refine c_M_find hM (fun G21 hM f21 => kc_s ?_)
      refine r_iret hK rfl rfl d_M_drop_24 ?_
      exact hQ _ ⟨_, _, _, hM, hS.sfd⟩ f21
  · skip
    have hb := bI_0.mp h4
    rw [opDrop, if_neg (by simp [hb])] at hQ
    refine r_ldc hK d_M_drop_7 lc_M_55 ?_
    refine r_iret hK rfl rfl d_M_drop_9 ?_
    exact hQ _ ⟨_, _, _, hM, hS⟩ Frm.rf
theorem c_M_set {E : gX} {S : Nat} {G : gG} {Q : Option Value → gG → Prop} {c : Nat} {f w : Nat → Int32} {A : Nat → Nat → Int32} {st : Bool} {nw : Nat → Int32} {ac : Nat → Nat → Int32} {na : Nat} {ik : Nat → Bool} {im : Nat → Nat → Int32} {rp : Nat → Bool} {rl : Nat → Int32} {rs : Nat → Nat} {ri : Nat → Nat → Int32} {tp : Nat → Int32} {tn : Nat} {lf : Int32} {fd : Int32} {tr : Nat → Int32} {un : Nat} (hM : MV G c f w A) (hS : MS f w A (st, nw, ac, na, ik, im, rp, rl, rs, ri, tp, tn, lf, fd, tr, un)) (hI : MI (st, nw, ac, na, ik, im, rp, rl, rs, ri, tp, tn, lf, fd, tr, un)) {r i v : Int32} (hQ : ∀ G' : gG, MR G' c (opSet (st, nw, ac, na, ik, im, rp, rl, rs, ri, tp, tn, lf, fd, tr, un) r i v).2 → Frm G G' c 10 → Q (some (.int (opSet (st, nw, ac, na, ik, im, rp, rl, rs, ri, tp, tn, lf, fd, tr, un) r i v).1)) G') : Runs E y_M_set 3 0 S [.ref c, .int r, .int i, .int v] G Q := by
  refine Runs.of "ClockPostModel" [some (.ref c), some (.int r), some (.int i), some (.int v)] cw_M_set (by decide) (by decide +kernel) rfl (Nat.le_of_ble_eq_true rfl) rfl (fun K hK => ?_)
  refine r_iload_n hK d_M_set_0 rfl ?_
  refine r_s1 (k' := 2) hK lm_M_49 d_M_set_1 (by decide) (Nat.le_of_ble_eq_true rfl) ?_
  refine c_M_isRow (kc_s ?_)
  refine r_if_ne (tgt := 10) hK d_M_set_4 rfl (fun h4 => ?_) (fun h4 => ?_)
  · skip
    have hb := bI_n0.mp h4
    rw [opSet, if_pos hb] at hQ
    obtain ⟨j, hj, rfl⟩ := inB_7 hb
    have hs := hI.2.2.2.2.1 j hj
    have hz := hS.sz1 hj hs
    refine r_aload_n hK d_M_set_10 rfl ?_
    refine r_get hK lf_M_20 d_M_set_11 (hM.1) rfl ?_
    refine r_iload_n hK d_M_set_14 rfl ?_
    refine g_a4 (j := j) hK d_M_set_15 hM (rfl) (by omega) ?_
    refine r_if_ge (tgt := 25) hK d_M_set_16 rfl (fun h16 => ?_) (fun h16 => ?_)
    · skip
      have hp : rp j = true := by
        cases e : rp j with
        | true => rfl
        | false => exact absurd (hz.1.mpr e) (Int32.not_lt.mpr h16)
      have hz2 := hz.2 hp
      rw [nN_nI (by omega), if_pos hp] at hQ
      refine r_iload_n hK d_M_set_25 rfl ?_
      refine r_i2l hK d_M_set_26 ?_
      refine r_lconst (v := 0) hK d_M_set_27 rfl ?_
      refine r_aload_n hK d_M_set_28 rfl ?_
      refine r_get hK lf_M_20 d_M_set_29 (hM.1) rfl ?_
      refine r_iload_n hK d_M_set_32 rfl ?_
      refine g_a4 (j := j) hK d_M_set_33 hM (rfl) (by omega) ?_
      rw [hz2]
      refine r_iconst hK d_M_set_34 kc_1 ?_
      refine r_isub hK d_M_set_35 ?_
      refine r_i2l hK d_M_set_36 ?_
      refine r_s3 (k' := 1) hK lm_M_45 d_M_set_37 (by decide) (Nat.le_of_ble_eq_true rfl) ?_
      refine c_M_in (a := 0) (b := nI (rs j) - 1) (by decide) rfl (kc_s ?_)
      refine r_if_ne (tgt := 49) hK d_M_set_40 rfl (fun h40 => ?_) (fun h40 => ?_)
      · skip
        have hc := bI_n0.mp h40
        rw [hp1 hs] at hc
        rw [if_pos hc] at hQ
        obtain ⟨e, he, rfl⟩ := inB_u (by omega) ((hp1 hs).trans hc)
        rw [nN_nI (by omega)] at hQ
        refine r_aload_n hK d_M_set_49 rfl ?_
        refine r_get hK lf_M_23 d_M_set_50 (hM.1) rfl ?_
        refine r_bipush hK d_M_set_53 kb_40 ?_
        refine r_iload_n hK d_M_set_55 rfl ?_
        refine r_imul hK d_M_set_56 ?_
        refine r_iload_n hK d_M_set_57 rfl ?_
        refine r_iadd hK d_M_set_58 ?_
        refine r_iload_n hK d_M_set_59 rfl ?_
        refine r_aload_n hK d_M_set_60 rfl ?_
        refine r_get hK lf_M_17 d_M_set_61 (hM.1) rfl ?_
        refine r_iload_n hK d_M_set_64 rfl ?_
        refine g_a3 (j := j) hK d_M_set_65 hM (rfl) (by omega) ?_
        rw [(hS.2.2.2.2.2.2.2.2.2.2.2.1 j hj hp).1]
        refine r_s2 (k' := 1) hK lm_M_63 d_M_set_66 (by decide) (Nat.le_of_ble_eq_true rfl) ?_
        refine c_M_narrow (kc_s ?_)
        refine s_a5 (j := 40 * j + e) hK d_M_set_69 hM ix40 (by omega) (fun G69 hM f69 => ?_)
        have hS := hS.sit (g := upd (ri j) e (cutV (rl j) v)) (h5 := upd (A 5) (40 * j + e) (cutV (rl j) v)) hj (fun k hk => by
          by_cases q : k = e
          · subst q; rw [upd_s, upd_s]
          · rw [upd_n (by omega), upd_n q]; exact (hS.2.2.2.2.2.2.2.2.2.2.2.1 j hj hp).2 k hk) (fun i hi hij k hk => upd_n (by omega))
        refine r_aload_n hK d_M_set_70 rfl ?_
        refine r_aload_n hK d_M_set_71 rfl ?_
        refine r_get hK lf_M_23 d_M_set_72 (hM.1) rfl ?_
        refine r_bipush hK d_M_set_75 kb_40 ?_
        refine r_iload_n hK d_M_set_77 rfl ?_
        refine r_imul hK d_M_set_78 ?_
        refine r_iload_n hK d_M_set_79 rfl ?_
        refine r_iadd hK d_M_set_80 ?_
        refine g_a5 (j := 40 * j + e) hK d_M_set_81 hM ix40 (by omega) ?_
        rw [va_up_s, upd_s]
        refine r_v1 (k' := 1) hK lm_M_60 d_M_set_82 ⟨_, hM.1⟩ (by decide) (Nat.le_of_ble_eq_true rfl) ?_
        refine c_M_well hM (fun G82 hM f82 => kc_s ?_)
        refine r_iret hK rfl rfl d_M_set_85 ?_
        exact hQ _ ⟨_, _, _, hM, hS.sfd⟩ (f69.tr f82)
      · skip
        have hc := bI_0.mp h40
        rw [hp1 hs] at hc
        rw [if_neg (by simp [hc])] at hQ
        refine r_aload_n hK d_M_set_43 rfl ?_
        refine r_iconst hK d_M_set_44 kc_2 ?_
        refine r_v1 (k' := 1) hK lm_M_56 d_M_set_45 ⟨_, hM.1⟩ (by decide) (Nat.le_of_ble_eq_true rfl) ?_
        refine c_M_find hM (fun G45 hM f45 => kc_s ?_)
        refine r_iret hK rfl rfl d_M_set_48 ?_
        exact hQ _ ⟨_, _, _, hM, hS.sfd⟩ f45
    · skip
      have hp : rp j = false := hz.1.mp (Int32.not_le.mp h16)
      rw [nN_nI (by omega), if_neg (by simp [hp])] at hQ
      refine r_aload_n hK d_M_set_19 rfl ?_
      refine r_iconst hK d_M_set_20 kc_1 ?_
      refine r_v1 (k' := 1) hK lm_M_56 d_M_set_21 ⟨_, hM.1⟩ (by decide) (Nat.le_of_ble_eq_true rfl) ?_
      refine c_M_find hM (fun G21 hM f21 => kc_s ?_)
      refine r_iret hK rfl rfl d_M_set_24 ?_
      exact hQ _ ⟨_, _, _, hM, hS.sfd⟩ f21
  · skip
    have hb := bI_0.mp h4
    rw [opSet, if_neg (by simp [hb])] at hQ
    refine r_ldc hK d_M_set_7 lc_M_55 ?_
    refine r_iret hK rfl rfl d_M_set_9 ?_
    exact hQ _ ⟨_, _, _, hM, hS⟩ Frm.rf
