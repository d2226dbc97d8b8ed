theorem bitO : ∀ b, b < 64 → ∀ k, k < 6 → ∃ b', b' < 64 ∧ nI b ||| (1 <<< (nI k &&& 31)) = nI b' ∧ ∀ n, n ≤ 6 → k < n → b < 2 ^ n → b' < 2 ^ n := by
  intro b hb k hk
  refine ⟨(nI b ||| (1 <<< (nI k &&& 31))).toInt.toNat, ?_⟩
  revert b k
  decide +kernel
theorem Vk.put {v : Nat → Int32} {n k : Nat} (h : Vk v n) (hk : k < n) : Vk (putV v (nI k)) n := by
  have h6 := h.1
  unfold putV
  by_cases q : hasL v (nI k) = true ∧ behB v (nI k) = false
  · rw [if_pos q, nN_nI (by omega)]
    obtain ⟨b, hb, hb6, e⟩ := h.b64
    obtain ⟨b', l1, l2, l3⟩ := bitO b hb6 k (by omega)
    refine ⟨h.1, by rw [upd_n (by omega), upd_n (by omega)]; exact h.2.1, ⟨b', l3 n h6 hk hb, by rw [upd_n (by omega), upd_s, e, l2]⟩, fun j hj => ?_⟩
    have := h.2.2.2 j hj
    rw [upd_n (by omega), upd_n (by omega), upd_n (by omega), upd_n (by omega), upd_n (by omega), upd_n (by omega)]
    refine ⟨this.1, this.2.1, ?_⟩
    by_cases e : j = k
    · subst e; rw [upd_s]; decide
    · rw [upd_n (by omega), upd_n (by omega)]; exact this.2.2
  · rw [if_neg q]; exact h
theorem bit_I {v : Nat → Int32} {n j : Nat} (h : Vk v n) (hj : j < n) : (v 3 >>> (nI j &&& 31)) &&& 1 = bI (behB v (nI j)) := by
  obtain ⟨b, hb, hb6, e⟩ := h.b64
  have h6 := h.1
  rw [h.b hj, e, bit01 b hb6 j (by omega)]
  cases bitB (nI b) (nI j) <;> rfl
theorem c_M_answer {E : gX} {S : Nat} {G : gG} {Q : Option Value → gG → Prop} {c : Nat} {f w : Nat → Int32} {A : Nat → Nat → Int32} {st : Bool} {nw : Nat → Int32} {ac : Nat → Nat → Int32} {na : Nat} {ik : Nat → Bool} {im : Nat → Nat → Int32} {rp : Nat → Bool} {rl : Nat → Int32} {rs : Nat → Nat} {ri : Nat → Nat → Int32} {tp : Nat → Int32} {tn : Nat} {lf : Int32} {fd : Int32} {tr : Nat → Int32} {un : Nat} (hM : MV G c f w A) (hS : MS f w A (st, nw, ac, na, ik, im, rp, rl, rs, ri, tp, tn, lf, fd, tr, un)) (hI : MI (st, nw, ac, na, ik, im, rp, rl, rs, ri, tp, tn, lf, fd, tr, un)) {i : Int32} (hQ : ∀ G' : gG, MR G' c (opAnswer (st, nw, ac, na, ik, im, rp, rl, rs, ri, tp, tn, lf, fd, tr, un) i).2 → Frm G G' c 10 → Q (some (.int (opAnswer (st, nw, ac, na, ik, im, rp, rl, rs, ri, tp, tn, lf, fd, tr, un) i).1)) G') : Runs E y_M_answer 4 0 S [.ref c, .int i] G Q := by
  refine Runs.of "ClockPostModel" [some (.ref c), some (.int i)] cw_M_answer (by decide) (by decide +kernel) rfl (Nat.le_of_ble_eq_true rfl) rfl (fun K hK => ?_)
  obtain ⟨w0, hw0⟩ : ∃ x, w = putT x 0 nw := ⟨_, hS.t0⟩
  subst hw0
  obtain ⟨n, hV⟩ := hI.1
  have h6 := hV.1
  have hz0 : putT w0 0 nw 0 = nI n := (hS.2.2.2.2.2.2.1 0 (by omega)).trans hV.2.1
  refine r_aload_n hK d_M_answer_0 rfl ?_
  refine r_iload_n hK d_M_answer_1 rfl ?_
  refine r_v1 (k' := 2) hK lm_M_175 d_M_answer_2 ⟨_, hM.1⟩ (by decide) (Nat.le_of_ble_eq_true rfl) ?_
  refine c_M_isLetterThere hM hz0 h6 hV.2.1 (kc_s ?_)
  refine r_if_ne (tgt := 11) hK d_M_answer_5 rfl (fun h5 => ?_) (fun h5 => ?_)
  · skip
    have hb := bI_n0.mp h5
    rw [opAnswer, if_pos hb] at hQ
    obtain ⟨j, hj, hj6, rfl⟩ := hasL_ix hb (by rw [hV.nN]; exact h6)
    rw [hV.nN] at hj
    refine r_aload_n hK d_M_answer_11 rfl ?_
    refine r_get hK lf_M_7 d_M_answer_12 (hM.1) rfl ?_
    refine r_iconst hK d_M_answer_15 kc_3 ?_
    refine g_tw (B := 0) (j := 3) hK d_M_answer_16 hM ((show _ = nI (0 + 3) from rfl)) (by omega) (by omega) ?_
    refine r_iload_n hK d_M_answer_17 rfl ?_
    refine r_s2 (k' := 1) hK lm_M_138 d_M_answer_18 (by decide) (Nat.le_of_ble_eq_true rfl) ?_
    refine c_M_has (kc_s ?_)
    refine r_if_ne (tgt := 27) hK d_M_answer_21 rfl (fun h21 => ?_) (fun h21 => ?_)
    · skip
      have hc : behB nw (nI j) = true := by rw [hV.b hj]; exact bI_n0.mp h21
      have hae : ansV nw (nI j) = awayV nw (nI j) (nw (24 + j) / 2) := by rw [ansV, if_pos hc, nN_nI (by omega)]
      rw [if_pos hc, hae] at hQ
      refine r_aload_n hK d_M_answer_27 rfl ?_
      refine r_v0 (k' := 2) hK lm_M_172 d_M_answer_28 ⟨_, hM.1⟩ (by decide) (Nat.le_of_ble_eq_true rfl) ?_
      refine c_M_keepPast hM hS hI.2.2.2.1 (fun G28 f1 w1 hM hS f28 => kc_n ?_)
      obtain ⟨w2, hw2⟩ : ∃ x, w1 = putT x 0 nw := ⟨_, hS.t0⟩
      subst hw2
      refine r_aload_n hK d_M_answer_31 rfl ?_
      refine r_iconst hK d_M_answer_32 kc_0 ?_
      refine r_iload_n hK d_M_answer_33 rfl ?_
      refine r_v2 (k' := 3) hK lm_M_178 d_M_answer_34 ⟨_, hM.1⟩ (by decide) (Nat.le_of_ble_eq_true rfl) ?_
      refine c_M_answers (B := 0) (j := j) hM (by omega) hV hj (fun G34 hM f34 => kc_n ?_)
      have hS := hS.sN (u := awayV nw (nI j) (nw (24 + j) / 2))
      rw [putT_2] at hS
      refine r_aload_n hK d_M_answer_37 rfl ?_
      refine r_get hK lf_M_7 d_M_answer_38 (hM.1) rfl ?_
      refine r_iconst hK d_M_answer_41 kc_5 ?_
      refine g_tw (B := 0) (j := 5) hK d_M_answer_42 hM ((show _ = nI (0 + 5) from rfl)) (by omega) (by omega) ?_
      refine r_iret hK rfl rfl d_M_answer_43 ?_
      exact hQ _ ⟨_, _, _, hM, hS⟩ (f28.tr f34)
    · skip
      have hc : behB nw (nI j) = false := by rw [hV.b hj]; exact bI_0.mp h21
      rw [if_neg (by simp [hc])] at hQ
      refine r_ldc hK d_M_answer_24 lc_M_137 ?_
      refine r_iret hK rfl rfl d_M_answer_26 ?_
      exact hQ _ ⟨_, _, _, hM, hS⟩ Frm.rf
  · skip
    have hb := bI_0.mp h5
    rw [opAnswer, if_neg (by simp [hb])] at hQ
    refine r_ldc hK d_M_answer_8 lc_M_55 ?_
    refine r_iret hK rfl rfl d_M_answer_10 ?_
    exact hQ _ ⟨_, _, _, hM, hS⟩ Frm.rf
theorem c_M_post {E : gX} {S : Nat} {G : gG} {Q : Option Value → gG → Prop} {c : Nat} {f w : Nat → Int32} {A : Nat → Nat → Int32} {st : Bool} {nw : Nat → Int32} {ac : Nat → Nat → Int32} {na : Nat} {ik : Nat → Bool} {im : Nat → Nat → Int32} {rp : Nat → Bool} {rl : Nat → Int32} {rs : Nat → Nat} {ri : Nat → Nat → Int32} {tp : Nat → Int32} {tn : Nat} {lf : Int32} {fd : Int32} {tr : Nat → Int32} {un : Nat} (hM : MV G c f w A) (hS : MS f w A (st, nw, ac, na, ik, im, rp, rl, rs, ri, tp, tn, lf, fd, tr, un)) (hI : MI (st, nw, ac, na, ik, im, rp, rl, rs, ri, tp, tn, lf, fd, tr, un)) {i : Int32} (hQ : ∀ G' : gG, MR G' c (opPost (st, nw, ac, na, ik, im, rp, rl, rs, ri, tp, tn, lf, fd, tr, un) i).2 → Frm G G' c 10 → Q (some (.int (opPost (st, nw, ac, na, ik, im, rp, rl, rs, ri, tp, tn, lf, fd, tr, un) i).1)) G') : Runs E y_M_post 3 0 S [.ref c, .int i] G Q := by
  refine Runs.of "ClockPostModel" [some (.ref c), some (.int i)] cw_M_post (by decide) (by decide +kernel) rfl (Nat.le_of_ble_eq_true rfl) rfl (fun K hK => ?_)
  obtain ⟨w0, hw0⟩ : ∃ x, w = putT x 0 nw := ⟨_, hS.t0⟩
  subst hw0
  obtain ⟨n, hV⟩ := hI.1
  have h6 := hV.1
  have hz0 : putT w0 0 nw 0 = nI n := (hS.2.2.2.2.2.2.1 0 (by omega)).trans hV.2.1
  refine r_aload_n hK d_M_post_0 rfl ?_
  refine r_iload_n hK d_M_post_1 rfl ?_
  refine r_v1 (k' := 2) hK lm_M_175 d_M_post_2 ⟨_, hM.1⟩ (by decide) (Nat.le_of_ble_eq_true rfl) ?_
  refine c_M_isLetterThere hM hz0 h6 hV.2.1 (kc_s ?_)
  refine r_if_ne (tgt := 11) hK d_M_post_5 rfl (fun h5 => ?_) (fun h5 => ?_)
  · skip
    have hb := bI_n0.mp h5
    rw [opPost, if_pos hb] at hQ
    obtain ⟨j, hj, hj6, rfl⟩ := hasL_ix hb (by rw [hV.nN]; exact h6)
    rw [hV.nN] at hj
    refine r_aload_n hK d_M_post_11 rfl ?_
    refine r_get hK lf_M_7 d_M_post_12 (hM.1) rfl ?_
    refine r_iconst hK d_M_post_15 kc_3 ?_
    refine g_tw (B := 0) (j := 3) hK d_M_post_16 hM ((show _ = nI (0 + 3) from rfl)) (by omega) (by omega) ?_
    refine r_iload_n hK d_M_post_17 rfl ?_
    refine r_s2 (k' := 1) hK lm_M_138 d_M_post_18 (by decide) (Nat.le_of_ble_eq_true rfl) ?_
    refine c_M_has (kc_s ?_)
    refine r_if_eq (tgt := 27) hK d_M_post_21 rfl (fun h21 => ?_) (fun h21 => ?_)
    · skip
      have hc : behB nw (nI j) = false := by rw [hV.b hj]; exact bI_0.mp h21
      have hae : putV nw (nI j) = upd (upd nw 3 (nw 3 ||| (1 <<< (nI j &&& 31)))) (30 + j) 0 := by rw [putV, if_pos ⟨hb, hc⟩, nN_nI (by omega)]
      rw [if_neg (by simp [hc])] at hQ
      have hV2 : Vk (putV nw (nI j)) n := hV.put hj
      rw [hae] at hQ hV2
      refine r_aload_n hK d_M_post_27 rfl ?_
      refine r_v0 (k' := 2) hK lm_M_172 d_M_post_28 ⟨_, hM.1⟩ (by decide) (Nat.le_of_ble_eq_true rfl) ?_
      refine c_M_keepPast hM hS hI.2.2.2.1 (fun G28 f1 w1 hM hS f28 => kc_n ?_)
      obtain ⟨w2, hw2⟩ : ∃ x, w1 = putT x 0 nw := ⟨_, hS.t0⟩
      subst hw2
      refine r_aload_n hK d_M_post_31 rfl ?_
      refine r_iconst hK d_M_post_32 kc_0 ?_
      refine r_iload_n hK d_M_post_33 rfl ?_
      refine r_v2 (k' := 1) hK lm_M_181 d_M_post_34 ⟨_, hM.1⟩ (by decide) (Nat.le_of_ble_eq_true rfl) ?_
      refine c_M_posts (B := 0) (j := j) hM (by omega) hV hj (fun G34 hM f34 => kc_n ?_)
      have hS := hS.sN (u := upd (upd nw 3 (nw 3 ||| (1 <<< (nI j &&& 31)))) (30 + j) 0)
      rw [putT_2] at hS
      refine r_aload_n hK d_M_post_37 rfl ?_
      refine r_iconst hK d_M_post_38 kc_0 ?_
      refine r_v1 (k' := 2) hK lm_M_151 d_M_post_39 ⟨_, hM.1⟩ (by decide) (Nat.le_of_ble_eq_true rfl) ?_
      refine c_M_thickness (B := 0) hM (by omega) hV2 (kc_s ?_)
      refine r_iret hK rfl rfl d_M_post_42 ?_
      exact hQ _ ⟨_, _, _, hM, hS⟩ (f28.tr f34)
    · skip
      have hc : behB nw (nI j) = true := by rw [hV.b hj]; exact bI_n0.mp h21
      rw [if_pos hc] at hQ
      refine r_ldc hK d_M_post_24 lc_M_137 ?_
      refine r_iret hK rfl rfl d_M_post_26 ?_
      exact hQ _ ⟨_, _, _, hM, hS⟩ Frm.rf
  · skip
    have hb := bI_0.mp h5
    rw [opPost, if_neg (by simp [hb])] at hQ
    refine r_ldc hK d_M_post_8 lc_M_55 ?_
    refine r_iret hK rfl rfl d_M_post_10 ?_
    exact hQ _ ⟨_, _, _, hM, hS⟩ Frm.rf
theorem c_M_dread {E : gX} {S : Nat} {G : gG} {Q : Option Value → gG → Prop} {c : Nat} {f w : Nat → Int32} {A : Nat → Nat → Int32} {st : Bool} {nw : Nat → Int32} {ac : Nat → Nat → Int32} {na : Nat} {ik : Nat → Bool} {im : Nat → Nat → Int32} {rp : Nat → Bool} {rl : Nat → Int32} {rs : Nat → Nat} {ri : Nat → Nat → Int32} {tp : Nat → Int32} {tn : Nat} {lf : Int32} {fd : Int32} {tr : Nat → Int32} {un : Nat} (hM : MV G c f w A) (hS : MS f w A (st, nw, ac, na, ik, im, rp, rl, rs, ri, tp, tn, lf, fd, tr, un)) (hI : MI (st, nw, ac, na, ik, im, rp, rl, rs, ri, tp, tn, lf, fd, tr, un)) {i v : Int32} (hQ : ∀ G' : gG, MR G' c (opDread (st, nw, ac, na, ik, im, rp, rl, rs, ri, tp, tn, lf, fd, tr, un) i v).2 → Frm G G' c 10 → Q (some (.int (opDread (st, nw, ac, na, ik, im, rp, rl, rs, ri, tp, tn, lf, fd, tr, un) i v).1)) G') : Runs E y_M_dread 3 0 S [.ref c, .int i, .int v] G Q := by
  refine Runs.of "ClockPostModel" [some (.ref c), some (.int i), some (.int v), none] cw_M_dread (by decide) (by decide +kernel) rfl (Nat.le_of_ble_eq_true rfl) rfl (fun K hK => ?_)
  obtain ⟨w0, hw0⟩ : ∃ x, w = putT x 0 nw := ⟨_, hS.t0⟩
  subst hw0
  obtain ⟨n, hV⟩ := hI.1
  have h6 := hV.1
  have hz0 : putT w0 0 nw 0 = nI n := (hS.2.2.2.2.2.2.1 0 (by omega)).trans hV.2.1
  refine r_aload_n hK d_M_dread_0 rfl ?_
  refine r_iload_n hK d_M_dread_1 rfl ?_
  refine r_v1 (k' := 2) hK lm_M_175 d_M_dread_2 ⟨_, hM.1⟩ (by decide) (Nat.le_of_ble_eq_true rfl) ?_
  refine c_M_isLetterThere hM hz0 h6 hV.2.1 (kc_s ?_)
  refine r_if_eq (tgt := 20) hK d_M_dread_5 rfl (fun h5 => ?_) (fun h5 => ?_)
  · skip
    have hb := bI_0.mp h5
    rw [opDread, if_neg (by simp [hb])] at hQ
    refine r_ldc hK d_M_dread_20 lc_M_55 ?_
    refine r_iret hK rfl rfl d_M_dread_22 ?_
    exact hQ _ ⟨_, _, _, hM, hS⟩ Frm.rf
  · skip
    have hb := bI_n0.mp h5
    obtain ⟨j, hj, hj6, rfl⟩ := hasL_ix hb (by rw [hV.nN]; exact h6)
    rw [hV.nN] at hj
    refine r_iload_n hK d_M_dread_8 rfl ?_
    refine r_i2l hK d_M_dread_9 ?_
    refine r_lconst (v := 0) hK d_M_dread_10 rfl ?_
    refine r_ldc2 hK d_M_dread_11 lc_M_184 ?_
    refine r_s3 (k' := 1) hK lm_M_45 d_M_dread_14 (by decide) (Nat.le_of_ble_eq_true rfl) ?_
    refine c_M_in (a := 0) (b := 9) (by decide) (by decide) (kc_s ?_)
    refine r_if_ne (tgt := 23) hK d_M_dread_17 rfl (fun h17 => ?_) (fun h17 => ?_)
    · skip
      have hc := bI_n0.mp h17
      rw [opDread, if_pos ⟨hb, hc⟩, nN_nI (by omega)] at hQ
      refine r_aload_n hK d_M_dread_23 rfl ?_
      refine r_v0 (k' := 2) hK lm_M_172 d_M_dread_24 ⟨_, hM.1⟩ (by decide) (Nat.le_of_ble_eq_true rfl) ?_
      refine c_M_keepPast hM hS hI.2.2.2.1 (fun G24 f1 w1 hM hS f24 => kc_n ?_)
      obtain ⟨w2, hw2⟩ : ∃ x, w1 = putT x 0 nw := ⟨_, hS.t0⟩
      subst hw2
      refine r_aload_n hK d_M_dread_27 rfl ?_
      refine r_get hK lf_M_7 d_M_dread_28 (hM.1) rfl ?_
      refine r_bipush hK d_M_dread_31 kb_12 ?_
      refine r_iload_n hK d_M_dread_33 rfl ?_
      refine r_iadd hK d_M_dread_34 ?_
      refine g_tw (B := 0) (j := 12 + j) hK d_M_dread_35 hM (Eq.trans (ix0 (c := 12) rfl) (congrArg nI (by omega))) (by omega) (by omega) ?_
      refine st_in_3_4 hK d_M_dread_36 trivial ?_
      refine r_aload_n hK d_M_dread_37 rfl ?_
      refine r_get hK lf_M_7 d_M_dread_38 (hM.1) rfl ?_
      refine r_bipush hK d_M_dread_41 kb_12 ?_
      refine r_iload_n hK d_M_dread_43 rfl ?_
      refine r_iadd hK d_M_dread_44 ?_
      refine r_iload_n hK d_M_dread_45 rfl ?_
      refine s_tw (B := 0) (j := 12 + j) hK d_M_dread_46 hM (Eq.trans (ix0 (c := 12) rfl) (congrArg nI (by omega))) (by omega) (by omega) (fun G46 hM f46 => ?_)
      have hS := hS.sN (u := upd nw (12 + j) v)
      rw [putT_2] at hS
      refine r_iload_n hK d_M_dread_47 rfl ?_
      refine r_iret hK rfl rfl d_M_dread_48 ?_
      exact hQ _ ⟨_, _, _, hM, hS⟩ (f24.tr f46)
    · skip
      have hc := bI_0.mp h17
      rw [opDread, if_neg (by simp [hc])] at hQ
      refine r_ldc hK d_M_dread_20 lc_M_55 ?_
      refine r_iret hK rfl rfl d_M_dread_22 ?_
      exact hQ _ ⟨_, _, _, hM, hS⟩ Frm.rf
theorem c_M_letter {E : gX} {S : Nat} {G : gG} {Q : Option Value → gG → Prop} {c : Nat} {f w : Nat → Int32} {A : Nat → Nat → Int32} {st : Bool} {nw : Nat → Int32} {ac : Nat → Nat → Int32} {na : Nat} {ik : Nat → Bool} {im : Nat → Nat → Int32} {rp : Nat → Bool} {rl : Nat → Int32} {rs : Nat → Nat} {ri : Nat → Nat → Int32} {tp : Nat → Int32} {tn : Nat} {lf : Int32} {fd : Int32} {tr : Nat → Int32} {un : Nat} (hM : MV G c f w A) (hS : MS f w A (st, nw, ac, na, ik, im, rp, rl, rs, ri, tp, tn, lf, fd, tr, un)) (hI : MI (st, nw, ac, na, ik, im, rp, rl, rs, ri, tp, tn, lf, fd, tr, un)) {i q : Int32} (hQ : ∀ G' : gG, MR G' c (opLetter (st, nw, ac, na, ik, im, rp, rl, rs, ri, tp, tn, lf, fd, tr, un) i q).2 → Frm G G' c 10 → Q (some (.int (opLetter (st, nw, ac, na, ik, im, rp, rl, rs, ri, tp, tn, lf, fd, tr, un) i q).1)) G') : Runs E y_M_letter 3 0 S [.ref c, .int i, .int q] G Q := by
  refine Runs.of "ClockPostModel" [some (.ref c), some (.int i), some (.int q)] cw_M_letter (by decide) (by decide +kernel) rfl (Nat.le_of_ble_eq_true rfl) rfl (fun K hK => ?_)
  obtain ⟨w0, hw0⟩ : ∃ x, w = putT x 0 nw := ⟨_, hS.t0⟩
  subst hw0
  obtain ⟨n, hV⟩ := hI.1
  have h6 := hV.1
  have hz0 : putT w0 0 nw 0 = nI n := (hS.2.2.2.2.2.2.1 0 (by omega)).trans hV.2.1
  refine r_aload_n hK d_M_letter_0 rfl ?_
  refine r_iload_n hK d_M_letter_1 rfl ?_
  refine r_v1 (k' := 2) hK lm_M_175 d_M_letter_2 ⟨_, hM.1⟩ (by decide) (Nat.le_of_ble_eq_true rfl) ?_
  refine c_M_isLetterThere hM hz0 h6 hV.2.1 (kc_s ?_)
  refine r_if_ne (tgt := 11) hK d_M_letter_5 rfl (fun h5 => ?_) (fun h5 => ?_)
  · skip
    have hb := bI_n0.mp h5
    rw [opLetter, if_pos hb] at hQ
    obtain ⟨j, hj, hj6, rfl⟩ := hasL_ix hb (by rw [hV.nN]; exact h6)
    rw [hV.nN] at hj
    rw [nN_nI (by omega)] at hQ
    refine r_iload_n hK d_M_letter_11 rfl ?_
    refine r_table (td := 110) hK d_M_letter_12 (by decide +kernel) rfl (fun h12 => ?_) ⟨fun h12 => ?_, fun h12 => ?_, fun h12 => ?_, fun h12 => ?_, fun h12 => ?_, fun h12 => ?_, trivial⟩
    · skip
      have hd0 : ¬ q = 0 := fun e => by rw [e] at h12; revert h12; decide
      have hd1 : ¬ q = 1 := fun e => by rw [e] at h12; revert h12; decide
      have hd2 : ¬ q = 2 := fun e => by rw [e] at h12; revert h12; decide
      have hd3 : ¬ q = 3 := fun e => by rw [e] at h12; revert h12; decide
      have hd4 : ¬ q = 4 := fun e => by rw [e] at h12; revert h12; decide
      have hd5 : ¬ q = 5 := fun e => by rw [e] at h12; revert h12; decide
      rw [if_neg hd0, if_neg hd1, if_neg hd2, if_neg hd3, if_neg hd4, if_neg hd5] at hQ
      refine r_ldc hK d_M_letter_110 lc_M_55 ?_
      refine r_iret hK rfl rfl d_M_letter_112 ?_
      exact hQ _ ⟨_, _, _, hM, hS⟩ Frm.rf
    · skip
      show K 52 _ _ _ _
      have hw : q = 0 := toI h12
      subst hw
      simp only [show ¬ (0 : Int32) = 1 by decide, show ¬ (0 : Int32) = 2 by decide, show ¬ (0 : Int32) = 3 by decide, show ¬ (0 : Int32) = 4 by decide, if_false, if_true] at hQ
      refine r_aload_n hK d_M_letter_52 rfl ?_
      refine r_get hK lf_M_7 d_M_letter_53 (hM.1) rfl ?_
      refine r_bipush hK d_M_letter_56 kb_12 ?_
      refine r_iload_n hK d_M_letter_58 rfl ?_
      refine r_iadd hK d_M_letter_59 ?_
      refine g_tw (B := 0) (j := 12 + j) hK d_M_letter_60 hM (Eq.trans (ix0 (c := 12) rfl) (congrArg nI (by omega))) (by omega) (by omega) ?_
      refine r_iret hK rfl rfl d_M_letter_61 ?_
      exact hQ _ ⟨_, _, _, hM, hS⟩ Frm.rf
    · skip
      show K 62 _ _ _ _
      have hw : q = 1 := toI h12
      subst hw
      simp only [show ¬ (1 : Int32) = 0 by decide, show ¬ (1 : Int32) = 2 by decide, show ¬ (1 : Int32) = 3 by decide, show ¬ (1 : Int32) = 4 by decide, if_false, if_true] at hQ
      refine r_aload_n hK d_M_letter_62 rfl ?_
      refine r_get hK lf_M_7 d_M_letter_63 (hM.1) rfl ?_
      refine r_bipush hK d_M_letter_66 kb_18 ?_
      refine r_iload_n hK d_M_letter_68 rfl ?_
      refine r_iadd hK d_M_letter_69 ?_
      refine g_tw (B := 0) (j := 18 + j) hK d_M_letter_70 hM (Eq.trans (ix0 (c := 18) rfl) (congrArg nI (by omega))) (by omega) (by omega) ?_
      refine r_iret hK rfl rfl d_M_letter_71 ?_
      exact hQ _ ⟨_, _, _, hM, hS⟩ Frm.rf
    · skip
      show K 72 _ _ _ _
      have hw : q = 2 := toI h12
      subst hw
      simp only [show ¬ (2 : Int32) = 0 by decide, show ¬ (2 : Int32) = 1 by decide, show ¬ (2 : Int32) = 3 by decide, show ¬ (2 : Int32) = 4 by decide, if_false, if_true] at hQ
      refine r_aload_n hK d_M_letter_72 rfl ?_
      refine r_get hK lf_M_7 d_M_letter_73 (hM.1) rfl ?_
      refine r_bipush hK d_M_letter_76 kb_24 ?_
      refine r_iload_n hK d_M_letter_78 rfl ?_
      refine r_iadd hK d_M_letter_79 ?_
      refine g_tw (B := 0) (j := 24 + j) hK d_M_letter_80 hM (Eq.trans (ix0 (c := 24) rfl) (congrArg nI (by omega))) (by omega) (by omega) ?_
      refine r_iret hK rfl rfl d_M_letter_81 ?_
      exact hQ _ ⟨_, _, _, hM, hS⟩ Frm.rf
    · skip
      show K 82 _ _ _ _
      have hw : q = 3 := toI h12
      subst hw
      simp only [show ¬ (3 : Int32) = 0 by decide, show ¬ (3 : Int32) = 1 by decide, show ¬ (3 : Int32) = 2 by decide, show ¬ (3 : Int32) = 4 by decide, if_false, if_true] at hQ
      refine r_aload_n hK d_M_letter_82 rfl ?_
      refine r_get hK lf_M_7 d_M_letter_83 (hM.1) rfl ?_
      refine r_iconst hK d_M_letter_86 kc_3 ?_
      refine g_tw (B := 0) (j := 3) hK d_M_letter_87 hM ((show _ = nI (0 + 3) from rfl)) (by omega) (by omega) ?_
      refine r_iload_n hK d_M_letter_88 rfl ?_
      refine r_ishr hK d_M_letter_89 ?_
      refine r_iconst hK d_M_letter_90 kc_1 ?_
      refine r_iand hK d_M_letter_91 ?_
      refine r_iret hK rfl rfl d_M_letter_92 ?_
      have eb := bit_I hV hj
      rw [← eb] at hQ
      exact hQ _ ⟨_, _, _, hM, hS⟩ Frm.rf
    · skip
      show K 93 _ _ _ _
      have hw : q = 4 := toI h12
      subst hw
      simp only [show ¬ (4 : Int32) = 0 by decide, show ¬ (4 : Int32) = 1 by decide, show ¬ (4 : Int32) = 2 by decide, show ¬ (4 : Int32) = 3 by decide, if_false, if_true] at hQ
      refine r_aload_n hK d_M_letter_93 rfl ?_
      refine r_get hK lf_M_7 d_M_letter_94 (hM.1) rfl ?_
      refine r_bipush hK d_M_letter_97 kb_30 ?_
      refine r_iload_n hK d_M_letter_99 rfl ?_
      refine r_iadd hK d_M_letter_100 ?_
      refine g_tw (B := 0) (j := 30 + j) hK d_M_letter_101 hM (Eq.trans (ix0 (c := 30) rfl) (congrArg nI (by omega))) (by omega) (by omega) ?_
      refine r_iret hK rfl rfl d_M_letter_102 ?_
      exact hQ _ ⟨_, _, _, hM, hS⟩ Frm.rf
    · skip
      show K 103 _ _ _ _
      have hw : q = 5 := toI h12
      subst hw
      simp only [show ¬ (5 : Int32) = 0 by decide, show ¬ (5 : Int32) = 1 by decide, show ¬ (5 : Int32) = 2 by decide, show ¬ (5 : Int32) = 3 by decide, show ¬ (5 : Int32) = 4 by decide, if_false, if_true] at hQ
      refine r_aload_n hK d_M_letter_103 rfl ?_
      refine r_iconst hK d_M_letter_104 kc_0 ?_
      refine r_iload_n hK d_M_letter_105 rfl ?_
      refine r_v2 (k' := 2) hK lm_M_144 d_M_letter_106 ⟨_, hM.1⟩ (by decide) (Nat.le_of_ble_eq_true rfl) ?_
      refine c_M_weighs (B := 0) (j := j) hM (by omega) hV hj (kc_s ?_)
      refine r_iret hK rfl rfl d_M_letter_109 ?_
      exact hQ _ ⟨_, _, _, hM, hS⟩ Frm.rf
  · skip
    have hb := bI_0.mp h5
    rw [opLetter, if_neg (by simp [hb])] at hQ
    refine r_ldc hK d_M_letter_8 lc_M_55 ?_
    refine r_iret hK rfl rfl d_M_letter_10 ?_
    exact hQ _ ⟨_, _, _, hM, hS⟩ Frm.rf
theorem c_M_kind {E : gX} {S : Nat} {G : gG} {Q : Option Value → gG → Prop} {c : Nat} {f w : Nat → Int32} {A : Nat → Nat → Int32} {st : Bool} {nw : Nat → Int32} {ac : Nat → Nat → Int32} {na : Nat} {ik : Nat → Bool} {im : Nat → Nat → Int32} {rp : Nat → Bool} {rl : Nat → Int32} {rs : Nat → Nat} {ri : Nat → Nat → Int32} {tp : Nat → Int32} {tn : Nat} {lf : Int32} {fd : Int32} {tr : Nat → Int32} {un : Nat} (hM : MV G c f w A) (hS : MS f w A (st, nw, ac, na, ik, im, rp, rl, rs, ri, tp, tn, lf, fd, tr, un)) (hI : MI (st, nw, ac, na, ik, im, rp, rl, rs, ri, tp, tn, lf, fd, tr, un)) {i : Int32} (hQ : ∀ G' : gG, MR G' c (opKind (st, nw, ac, na, ik, im, rp, rl, rs, ri, tp, tn, lf, fd, tr, un) i).2 → Frm G G' c 10 → Q (some (.int (opKind (st, nw, ac, na, ik, im, rp, rl, rs, ri, tp, tn, lf, fd, tr, un) i).1)) G') : Runs E y_M_kind 3 0 S [.ref c, .int i] G Q := by
  refine Runs.of "ClockPostModel" [some (.ref c), some (.int i)] cw_M_kind (by decide) (by decide +kernel) rfl (Nat.le_of_ble_eq_true rfl) rfl (fun K hK => ?_)
  obtain ⟨w0, hw0⟩ : ∃ x, w = putT x 0 nw := ⟨_, hS.t0⟩
  subst hw0
  obtain ⟨n, hV⟩ := hI.1
  have h6 := hV.1
  have hz0 : putT w0 0 nw 0 = nI n := (hS.2.2.2.2.2.2.1 0 (by omega)).trans hV.2.1
  refine r_aload_n hK d_M_kind_0 rfl ?_
  refine r_iload_n hK d_M_kind_1 rfl ?_
  refine r_v1 (k' := 2) hK lm_M_175 d_M_kind_2 ⟨_, hM.1⟩ (by decide) (Nat.le_of_ble_eq_true rfl) ?_
  refine c_M_isLetterThere hM hz0 h6 hV.2.1 (kc_s ?_)
  refine r_if_eq (tgt := 20) hK d_M_kind_5 rfl (fun h5 => ?_) (fun h5 => ?_)
  · skip
    have hb := bI_0.mp h5
    rw [opKind, if_neg (by simp [hb])] at hQ
    refine r_ldc hK d_M_kind_20 lc_M_55 ?_
    refine r_iret hK rfl rfl d_M_kind_22 ?_
    exact hQ _ ⟨_, _, _, hM, hS⟩ Frm.rf
  · skip
    have hb := bI_n0.mp h5
    rw [opKind, if_pos hb] at hQ
    obtain ⟨j, hj, hj6, rfl⟩ := hasL_ix hb (by rw [hV.nN]; exact h6)
    rw [hV.nN] at hj
    rw [nN_nI (by omega)] at hQ
    refine r_aload_n hK d_M_kind_8 rfl ?_
    refine r_get hK lf_M_7 d_M_kind_9 (hM.1) rfl ?_
    refine r_bipush hK d_M_kind_12 kb_6 ?_
    refine r_iload_n hK d_M_kind_14 rfl ?_
    refine r_iadd hK d_M_kind_15 ?_
    refine g_tw (B := 0) (j := 6 + j) hK d_M_kind_16 hM (Eq.trans (ix0 (c := 6) rfl) (congrArg nI (by omega))) (by omega) (by omega) ?_
    refine r_goto (tgt := 22) hK d_M_kind_17 rfl ?_
    refine r_iret hK rfl rfl d_M_kind_22 ?_
    exact hQ _ ⟨_, _, _, hM, hS⟩ Frm.rf
theorem c_M_status {E : gX} {S : Nat} {G : gG} {Q : Option Value → gG → Prop} {c : Nat} {f w : Nat → Int32} {A : Nat → Nat → Int32} {st : Bool} {nw : Nat → Int32} {ac : Nat → Nat → Int32} {na : Nat} {ik : Nat → Bool} {im : Nat → Nat → Int32} {rp : Nat → Bool} {rl : Nat → Int32} {rs : Nat → Nat} {ri : Nat → Nat → Int32} {tp : Nat → Int32} {tn : Nat} {lf : Int32} {fd : Int32} {tr : Nat → Int32} {un : Nat} (hM : MV G c f w A) (hS : MS f w A (st, nw, ac, na, ik, im, rp, rl, rs, ri, tp, tn, lf, fd, tr, un)) (hI : MI (st, nw, ac, na, ik, im, rp, rl, rs, ri, tp, tn, lf, fd, tr, un)) (hQ : ∀ G' : gG, MR G' c (opStatus (st, nw, ac, na, ik, im, rp, rl, rs, ri, tp, tn, lf, fd, tr, un)).2 → Frm G G' c 10 → Q (some (.int (opStatus (st, nw, ac, na, ik, im, rp, rl, rs, ri, tp, tn, lf, fd, tr, un)).1)) G') : Runs E y_M_status 1 0 S [.ref c] G Q := by
  refine Runs.of "ClockPostModel" [some (.ref c)] cw_M_status (by decide) (by decide +kernel) rfl (Nat.le_of_ble_eq_true rfl) rfl (fun K hK => ?_)
  obtain ⟨w0, hw0⟩ : ∃ x, w = putT x 0 nw := ⟨_, hS.t0⟩
  subst hw0
  obtain ⟨n, hV⟩ := hI.1
  have h6 := hV.1
  have hz0 : putT w0 0 nw 0 = nI n := (hS.2.2.2.2.2.2.1 0 (by omega)).trans hV.2.1
  refine r_aload_n hK d_M_status_0 rfl ?_
  refine r_get hK lf_M_38 d_M_status_1 (hM.1) rfl ?_
  rw [hS.2.2.2.2.1]
  refine r_iret hK rfl rfl d_M_status_4 ?_
  exact hQ _ ⟨_, _, _, hM, hS⟩ Frm.rf
theorem c_M_fault {E : gX} {S : Nat} {G : gG} {Q : Option Value → gG → Prop} {c : Nat} {f w : Nat → Int32} {A : Nat → Nat → Int32} {st : Bool} {nw : Nat → Int32} {ac : Nat → Nat → Int32} {na : Nat} {ik : Nat → Bool} {im : Nat → Nat → Int32} {rp : Nat → Bool} {rl : Nat → Int32} {rs : Nat → Nat} {ri : Nat → Nat → Int32} {tp : Nat → Int32} {tn : Nat} {lf : Int32} {fd : Int32} {tr : Nat → Int32} {un : Nat} (hM : MV G c f w A) (hS : MS f w A (st, nw, ac, na, ik, im, rp, rl, rs, ri, tp, tn, lf, fd, tr, un)) (hI : MI (st, nw, ac, na, ik, im, rp, rl, rs, ri, tp, tn, lf, fd, tr, un)) (hQ : ∀ G' : gG, MR G' c (opFault (st, nw, ac, na, ik, im, rp, rl, rs, ri, tp, tn, lf, fd, tr, un)).2 → Frm G G' c 10 → Q (some (.int (opFault (st, nw, ac, na, ik, im, rp, rl, rs, ri, tp, tn, lf, fd, tr, un)).1)) G') : Runs E y_M_fault 1 0 S [.ref c] G Q := by
  refine Runs.of "ClockPostModel" [some (.ref c)] cw_M_fault (by decide) (by decide +kernel) rfl (Nat.le_of_ble_eq_true rfl) rfl (fun K hK => ?_)
  obtain ⟨w0, hw0⟩ : ∃ x, w = putT x 0 nw := ⟨_, hS.t0⟩
  subst hw0
  obtain ⟨n, hV⟩ := hI.1
  have h6 := hV.1
  have hz0 : putT w0 0 nw 0 = nI n := (hS.2.2.2.2.2.2.1 0 (by omega)).trans hV.2.1
  refine r_aload_n hK d_M_fault_0 rfl ?_
  refine r_get hK lf_M_122 d_M_fault_1 (hM.1) rfl ?_
  rw [hS.2.2.2.1]
  refine r_iret hK rfl rfl d_M_fault_4 ?_
  exact hQ _ ⟨_, _, _, hM, hS⟩ Frm.rf
