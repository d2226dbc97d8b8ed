def opHold : gS → Int32 → Int32 → Int32 × gS
  | (st, nw, ac, na, ik, im, rp, rl, rs, ri, tp, tn, lf, fd, tr, un), d, w => (if rfu st (inB d 1 60 && inB w 0 1) = 0 then (if w = 0 then bitc (hdL (fun t f => smP (nw 3) (nI t) f && noF (nN d) (wtV nw (nI t))) 64 0 (nw 3)) else hdL (fun t f => smP (nw 3) (nI t) f && noF (nN d) (wtV nw (nI t))) 64 0 (nw 3)) else rfu st (inB d 1 60 && inB w 0 1), (st, nw, ac, na, ik, im, rp, rl, rs, ri, tp, tn, lf, fd, tr, un))
def opEase : gS → Int32 → Int32 → Int32 → Int32 × gS
  | (st, nw, ac, na, ik, im, rp, rl, rs, ri, tp, tn, lf, fd, tr, un), d, q, w => (if rfu st (inB d 1 60 && inB q 0 300 && inB w 0 1) = 0 then (if w = 0 then bitc (hdL (fun t f => smP (nw 3) (nI t) f && sEz q (nN d) (wtV nw (nI t))) 64 0 (nw 3)) else hdL (fun t f => smP (nw 3) (nI t) f && sEz q (nN d) (wtV nw (nI t))) 64 0 (nw 3)) else rfu st (inB d 1 60 && inB q 0 300 && inB w 0 1), (st, nw, ac, na, ik, im, rp, rl, rs, ri, tp, tn, lf, fd, tr, un))
def opDrawn : gS → Int32 → Int32 → Int32 → Int32 × gS
  | (st, nw, ac, na, ik, im, rp, rl, rs, ri, tp, tn, lf, fd, tr, un), n, s, w => (if rfu st (inB n 0 60 && inB s 1 999999 && inB w 0 1) = 0 then (if w = 0 then drN (nN n) s.toInt64 nw 4 else drN (nN n) s.toInt64 nw 5) else rfu st (inB n 0 60 && inB s 1 999999 && inB w 0 1), (st, nw, ac, na, ik, im, rp, rl, rs, ri, tp, tn, lf, fd, tr, un))
theorem c_X_hold {E : gX} {S : Nat} {G : gG} {Q : Option Value → gG → Prop} {b : Nat} {st : Bool} {nw : Nat → Int32} {ac : Nat → Nat → Int32} {na : Nat} {ik : Nat → Bool} {im : Nat → Nat → Int32} {rp : Nat → Bool} {rl : Nat → Int32} {rs : Nat → Nat} {ri : Nat → Nat → Int32} {tp : Nat → Int32} {tn : Nat} {lf : Int32} {fd : Int32} {tr : Nat → Int32} {un : Nat} (hX : XV G b (st, nw, ac, na, ik, im, rp, rl, rs, ri, tp, tn, lf, fd, tr, un)) (hI : XPI (st, nw, ac, na, ik, im, rp, rl, rs, ri, tp, tn, lf, fd, tr, un)) {d w : Int32} (hQ : ∀ G' : gG, XV G' b (opHold (st, nw, ac, na, ik, im, rp, rl, rs, ri, tp, tn, lf, fd, tr, un) d w).2 → Frm G G' b 309 → Q (some (.int (opHold (st, nw, ac, na, ik, im, rp, rl, rs, ri, tp, tn, lf, fd, tr, un) d w).1)) G') : Runs E y_X_hold 7 0 S [.ref b, .int d, .int w] G Q := by
  refine Runs.of "ClockPost" [some (.ref b), some (.int d), some (.int w), none, none, none] cw_X_hold (by decide) (by decide +kernel) rfl (Nat.le_of_ble_eq_true rfl) rfl (fun K hK => ?_)
  have J : ∀ x : Int32, x = bI (inB d 1 60 && inB w 0 1) → K 25 [some (.ref b), some (.int d), some (.int w), none, none, none] [.int x, .ref b] S G := by
    intro x ex
    subst ex
    refine r_v1 (k' := 1) hK lm_X_198 d_X_hold_25 ⟨_, hX.1.1⟩ (by decide) (Nat.le_of_ble_eq_true rfl) ?_
    refine c_X_refusalOf (z := inB d 1 60 && inB w 0 1) hX (kc_s ?_)
    refine st_in_3_6 hK d_X_hold_28 trivial ?_
    refine r_iload_n hK d_X_hold_29 rfl ?_
    refine r_if_eq (tgt := 35) hK d_X_hold_30 rfl (fun h30 => ?_) (fun h30 => ?_)
    · skip
      obtain ⟨hst, hz⟩ := rfu_0.mp h30
      simp only [opHold, if_pos h30] at hQ
      refine r_aload_n hK d_X_hold_35 rfl ?_
      refine r_get hK lf_X_25 d_X_hold_36 (hX.1.1) rfl ?_
      refine r_get hK lf_X_149 d_X_hold_39 (hX.now.o) rfl ?_
      refine st_i_4_6 hK d_X_hold_42 trivial ?_
      refine r_iconst hK d_X_hold_44 kc_0 ?_
      refine st_i_5_6 hK d_X_hold_45 trivial ?_
      suffices L : ∀ j, j ≤ 64 → ∀ (G1 : gG) (f : Int32), XV G1 b (st, nw, ac, na, ik, im, rp, rl, rs, ri, tp, tn, lf, fd, tr, un) → Frm G G1 b 309 →  hdL (fun t f => smP (nw 3) (nI t) f && noF (nN d) (wtV nw (nI t))) (64 - j) j f = hdL (fun t f => smP (nw 3) (nI t) f && noF (nN d) (wtV nw (nI t))) 64 0 (nw 3) → K 47 [some (.ref b), some (.int d), some (.int w), some (.int (rfu st (inB d 1 60 && inB w 0 1))), some (.int f), some (.int (nI j))] [] S G1 from L 0 (Nat.zero_le _) _ _ hX Frm.rf rfl
      refine lpN 64 (fun j hj ih G1 f hX hF hE => ?_)
      refine r_iload hK d_X_hold_47 rfl ?_
      refine r_bipush hK d_X_hold_49 kb_64 ?_
      refine r_icmp_ge (tgt := 85) hK d_X_hold_51 rfl (fun h51 => ?_) (fun h51 => ?_)
      · skip
        have hq : j = 64 := by have := (cle (n := 64) (by decide) (by omega)).mp h51; omega
        rw [hq, Nat.sub_self] at hE
        rw [← hE] at hQ
        refine r_iload_n hK d_X_hold_85 rfl ?_
        refine r_if_ne (tgt := 97) hK d_X_hold_86 rfl (fun h86 => ?_) (fun h86 => ?_)
        · skip
          rw [if_neg h86] at hQ
          refine r_iload hK d_X_hold_97 rfl ?_
          refine r_iret hK rfl rfl d_X_hold_99 ?_
          exact hQ _ hX hF
        · skip
          rw [if_pos h86] at hQ
          refine r_iload hK d_X_hold_89 rfl ?_
          refine r_s1 (k' := 1) hK lm_X_213 d_X_hold_91 (by decide) (Nat.le_of_ble_eq_true rfl) ?_
          refine c_JI_bitCount (kc_s ?_)
          refine r_goto (tgt := 99) hK d_X_hold_94 rfl ?_
          refine r_iret hK rfl rfl d_X_hold_99 ?_
          exact hQ _ hX hF
      · skip
        have hq : j < 64 := Nat.not_le.mp (fun q => h51 ((cle (n := 64) (by decide) (by omega)).mpr q))
        rw [show 64 - j = (64 - (j + 1)) + 1 by omega, hdL] at hE
        refine r_aload_n hK d_X_hold_54 rfl ?_
        refine r_iload hK d_X_hold_55 rfl ?_
        refine r_iload hK d_X_hold_57 rfl ?_
        refine r_v2 (k' := 2) hK lm_X_228 d_X_hold_59 ⟨_, hX.1.1⟩ (by decide) (Nat.le_of_ble_eq_true rfl) ?_
        refine c_X_isSmallerPart hX hI (kc_s ?_)
        refine r_if_eq (tgt := 79) hK d_X_hold_62 rfl (fun h62 => ?_) (fun h62 => ?_)
        · skip
          have h1 := bI_0.mp h62
          rw [if_neg (by simp [h1])] at hE
          first | refine iN_5_6 hK d_X_hold_79 trivial ?_ | refine ii_5_1_6 hK d_X_hold_79 trivial ?_
          refine r_goto (tgt := 47) hK d_X_hold_82 rfl ?_
          exact ih hq _ _ hX hF hE
        · skip
          have h1 := bI_n0.mp h62
          refine r_aload_n hK d_X_hold_65 rfl ?_
          refine r_iload hK d_X_hold_66 rfl ?_
          refine r_iload_n hK d_X_hold_68 rfl ?_
          refine r_v2 (k' := 6) hK lm_X_231 d_X_hold_69 ⟨_, hX.1.1⟩ (by decide) (Nat.le_of_ble_eq_true rfl) ?_
          refine c_X_nothingFallsWithout hX hI (fun G69 hX f69 => kc_s ?_)
          have hF := hF.tr f69
          refine r_if_eq (tgt := 79) hK d_X_hold_72 rfl (fun h72 => ?_) (fun h72 => ?_)
          · skip
            have h2 := bI_0.mp h72
            rw [if_neg (by simp [h1, h2])] at hE
            first | refine iN_5_6 hK d_X_hold_79 trivial ?_ | refine ii_5_1_6 hK d_X_hold_79 trivial ?_
            refine r_goto (tgt := 47) hK d_X_hold_82 rfl ?_
            exact ih hq _ _ hX hF hE
          · skip
            have h2 := bI_n0.mp h72
            rw [if_pos (by simp [h1, h2])] at hE
            refine r_iload hK d_X_hold_75 rfl ?_
            refine st_i_4_6 hK d_X_hold_77 trivial ?_
            first | refine iN_5_6 hK d_X_hold_79 trivial ?_ | refine ii_5_1_6 hK d_X_hold_79 trivial ?_
            refine r_goto (tgt := 47) hK d_X_hold_82 rfl ?_
            exact ih hq _ _ hX hF hE
    · skip
      simp only [opHold, if_neg h30] at hQ
      refine r_iload_n hK d_X_hold_33 rfl ?_
      refine r_iret hK rfl rfl d_X_hold_34 ?_
      exact hQ _ hX Frm.rf
  refine r_aload_n hK d_X_hold_0 rfl ?_
  refine r_iload_n hK d_X_hold_1 rfl ?_
  refine r_iconst hK d_X_hold_2 kc_1 ?_
  refine r_bipush hK d_X_hold_3 kb_60 ?_
  refine r_s3 (k' := 1) hK lm_X_62 d_X_hold_5 (by decide) (Nat.le_of_ble_eq_true rfl) ?_
  refine c_X_isWithin (kc_s ?_)
  refine r_if_eq (tgt := 24) hK d_X_hold_8 rfl (fun h8 => ?_) (fun h8 => ?_)
  · skip
    have hb := bI_0.mp h8
    refine r_iconst hK d_X_hold_24 kc_0 ?_
    exact J _ (by first | (simp [hb, hc, bI]; done) | (simp [*, bI]; done))
  · skip
    have hb := bI_n0.mp h8
    refine r_iload_n hK d_X_hold_11 rfl ?_
    refine r_iconst hK d_X_hold_12 kc_0 ?_
    refine r_iconst hK d_X_hold_13 kc_1 ?_
    refine r_s3 (k' := 1) hK lm_X_62 d_X_hold_14 (by decide) (Nat.le_of_ble_eq_true rfl) ?_
    refine c_X_isWithin (kc_s ?_)
    refine r_if_eq (tgt := 24) hK d_X_hold_17 rfl (fun h17 => ?_) (fun h17 => ?_)
    · skip
      have hc := bI_0.mp h17
      refine r_iconst hK d_X_hold_24 kc_0 ?_
      exact J _ (by first | (simp [hb, hc, bI]; done) | (simp [*, bI]; done))
    · skip
      have hc := bI_n0.mp h17
      refine r_iconst hK d_X_hold_20 kc_1 ?_
      refine r_goto (tgt := 25) hK d_X_hold_21 rfl ?_
      exact J _ (by first | (simp [hb, hc, bI]; done) | (simp [*, bI]; done))
theorem c_X_ease {E : gX} {S : Nat} {G : gG} {Q : Option Value → gG → Prop} {b : Nat} {st : Bool} {nw : Nat → Int32} {ac : Nat → Nat → Int32} {na : Nat} {ik : Nat → Bool} {im : Nat → Nat → Int32} {rp : Nat → Bool} {rl : Nat → Int32} {rs : Nat → Nat} {ri : Nat → Nat → Int32} {tp : Nat → Int32} {tn : Nat} {lf : Int32} {fd : Int32} {tr : Nat → Int32} {un : Nat} (hX : XV G b (st, nw, ac, na, ik, im, rp, rl, rs, ri, tp, tn, lf, fd, tr, un)) (hI : XPI (st, nw, ac, na, ik, im, rp, rl, rs, ri, tp, tn, lf, fd, tr, un)) {d q w : Int32} (hQ : ∀ G' : gG, XV G' b (opEase (st, nw, ac, na, ik, im, rp, rl, rs, ri, tp, tn, lf, fd, tr, un) d q w).2 → Frm G G' b 309 → Q (some (.int (opEase (st, nw, ac, na, ik, im, rp, rl, rs, ri, tp, tn, lf, fd, tr, un) d q w).1)) G') : Runs E y_X_ease 7 0 S [.ref b, .int d, .int q, .int w] G Q := by
  refine Runs.of "ClockPost" [some (.ref b), some (.int d), some (.int q), some (.int w), none, none, none] cw_X_ease (by decide) (by decide +kernel) rfl (Nat.le_of_ble_eq_true rfl) rfl (fun K hK => ?_)
  have J : ∀ x : Int32, x = bI (inB d 1 60 && inB q 0 300 && inB w 0 1) → K 36 [some (.ref b), some (.int d), some (.int q), some (.int w), none, none, none] [.int x, .ref b] S G := by
    intro x ex
    subst ex
    refine r_v1 (k' := 1) hK lm_X_198 d_X_ease_36 ⟨_, hX.1.1⟩ (by decide) (Nat.le_of_ble_eq_true rfl) ?_
    refine c_X_refusalOf (z := inB d 1 60 && inB q 0 300 && inB w 0 1) hX (kc_s ?_)
    refine st_i_4_7 hK d_X_ease_39 trivial ?_
    refine r_iload hK d_X_ease_41 rfl ?_
    refine r_if_eq (tgt := 49) hK d_X_ease_43 rfl (fun h43 => ?_) (fun h43 => ?_)
    · skip
      obtain ⟨hst, hz⟩ := rfu_0.mp h43
      simp only [opEase, if_pos h43] at hQ
      refine r_aload_n hK d_X_ease_49 rfl ?_
      refine r_get hK lf_X_25 d_X_ease_50 (hX.1.1) rfl ?_
      refine r_get hK lf_X_149 d_X_ease_53 (hX.now.o) rfl ?_
      refine st_i_5_7 hK d_X_ease_56 trivial ?_
      refine r_iconst hK d_X_ease_58 kc_0 ?_
      refine st_i_6_7 hK d_X_ease_59 trivial ?_
      suffices L : ∀ j, j ≤ 64 → ∀ (G1 : gG) (f : Int32), XV G1 b (st, nw, ac, na, ik, im, rp, rl, rs, ri, tp, tn, lf, fd, tr, un) → Frm G G1 b 309 →  hdL (fun t f => smP (nw 3) (nI t) f && sEz q (nN d) (wtV nw (nI t))) (64 - j) j f = hdL (fun t f => smP (nw 3) (nI t) f && sEz q (nN d) (wtV nw (nI t))) 64 0 (nw 3) → K 61 [some (.ref b), some (.int d), some (.int q), some (.int w), some (.int (rfu st (inB d 1 60 && inB q 0 300 && inB w 0 1))), some (.int f), some (.int (nI j))] [] S G1 from L 0 (Nat.zero_le _) _ _ hX Frm.rf rfl
      refine lpN 64 (fun j hj ih G1 f hX hF hE => ?_)
      refine r_iload hK d_X_ease_61 rfl ?_
      refine r_bipush hK d_X_ease_63 kb_64 ?_
      refine r_icmp_ge (tgt := 100) hK d_X_ease_65 rfl (fun h65 => ?_) (fun h65 => ?_)
      · skip
        have hq : j = 64 := by have := (cle (n := 64) (by decide) (by omega)).mp h65; omega
        rw [hq, Nat.sub_self] at hE
        rw [← hE] at hQ
        refine r_iload_n hK d_X_ease_100 rfl ?_
        refine r_if_ne (tgt := 112) hK d_X_ease_101 rfl (fun h101 => ?_) (fun h101 => ?_)
        · skip
          rw [if_neg h101] at hQ
          refine r_iload hK d_X_ease_112 rfl ?_
          refine r_iret hK rfl rfl d_X_ease_114 ?_
          exact hQ _ hX hF
        · skip
          rw [if_pos h101] at hQ
          refine r_iload hK d_X_ease_104 rfl ?_
          refine r_s1 (k' := 1) hK lm_X_213 d_X_ease_106 (by decide) (Nat.le_of_ble_eq_true rfl) ?_
          refine c_JI_bitCount (kc_s ?_)
          refine r_goto (tgt := 114) hK d_X_ease_109 rfl ?_
          refine r_iret hK rfl rfl d_X_ease_114 ?_
          exact hQ _ hX hF
      · skip
        have hq : j < 64 := Nat.not_le.mp (fun q => h65 ((cle (n := 64) (by decide) (by omega)).mpr q))
        rw [show 64 - j = (64 - (j + 1)) + 1 by omega, hdL] at hE
        refine r_aload_n hK d_X_ease_68 rfl ?_
        refine r_iload hK d_X_ease_69 rfl ?_
        refine r_iload hK d_X_ease_71 rfl ?_
        refine r_v2 (k' := 2) hK lm_X_228 d_X_ease_73 ⟨_, hX.1.1⟩ (by decide) (Nat.le_of_ble_eq_true rfl) ?_
        refine c_X_isSmallerPart hX hI (kc_s ?_)
        refine r_if_eq (tgt := 94) hK d_X_ease_76 rfl (fun h76 => ?_) (fun h76 => ?_)
        · skip
          have h1 := bI_0.mp h76
          rw [if_neg (by simp [h1])] at hE
          first | refine iN_6_7 hK d_X_ease_94 trivial ?_ | refine ii_6_1_7 hK d_X_ease_94 trivial ?_
          refine r_goto (tgt := 61) hK d_X_ease_97 rfl ?_
          exact ih hq _ _ hX hF hE
        · skip
          have h1 := bI_n0.mp h76
          refine r_aload_n hK d_X_ease_79 rfl ?_
          refine r_iload hK d_X_ease_80 rfl ?_
          refine r_iload_n hK d_X_ease_82 rfl ?_
          refine r_iload_n hK d_X_ease_83 rfl ?_
          refine r_v3 (k' := 6) hK lm_X_234 d_X_ease_84 ⟨_, hX.1.1⟩ (by decide) (Nat.le_of_ble_eq_true rfl) ?_
          refine c_X_staysEasyWithout hX hI (fun G84 hX f84 => kc_s ?_)
          have hF := hF.tr f84
          refine r_if_eq (tgt := 94) hK d_X_ease_87 rfl (fun h87 => ?_) (fun h87 => ?_)
          · skip
            have h2 := bI_0.mp h87
            rw [if_neg (by simp [h1, h2])] at hE
            first | refine iN_6_7 hK d_X_ease_94 trivial ?_ | refine ii_6_1_7 hK d_X_ease_94 trivial ?_
            refine r_goto (tgt := 61) hK d_X_ease_97 rfl ?_
            exact ih hq _ _ hX hF hE
          · skip
            have h2 := bI_n0.mp h87
            rw [if_pos (by simp [h1, h2])] at hE
            refine r_iload hK d_X_ease_90 rfl ?_
            refine st_i_5_7 hK d_X_ease_92 trivial ?_
            first | refine iN_6_7 hK d_X_ease_94 trivial ?_ | refine ii_6_1_7 hK d_X_ease_94 trivial ?_
            refine r_goto (tgt := 61) hK d_X_ease_97 rfl ?_
            exact ih hq _ _ hX hF hE
    · skip
      simp only [opEase, if_neg h43] at hQ
      refine r_iload hK d_X_ease_46 rfl ?_
      refine r_iret hK rfl rfl d_X_ease_48 ?_
      exact hQ _ hX Frm.rf
  refine r_aload_n hK d_X_ease_0 rfl ?_
  refine r_iload_n hK d_X_ease_1 rfl ?_
  refine r_iconst hK d_X_ease_2 kc_1 ?_
  refine r_bipush hK d_X_ease_3 kb_60 ?_
  refine r_s3 (k' := 1) hK lm_X_62 d_X_ease_5 (by decide) (Nat.le_of_ble_eq_true rfl) ?_
  refine c_X_isWithin (kc_s ?_)
  refine r_if_eq (tgt := 35) hK d_X_ease_8 rfl (fun h8 => ?_) (fun h8 => ?_)
  · skip
    have hb := bI_0.mp h8
    refine r_iconst hK d_X_ease_35 kc_0 ?_
    exact J _ (by first | (simp [hb, hc, hd, bI]; done) | (simp [*, bI]; done))
  · skip
    have hb := bI_n0.mp h8
    refine r_iload_n hK d_X_ease_11 rfl ?_
    refine r_iconst hK d_X_ease_12 kc_0 ?_
    refine r_sipush hK d_X_ease_13 ks_300 ?_
    refine r_s3 (k' := 1) hK lm_X_62 d_X_ease_16 (by decide) (Nat.le_of_ble_eq_true rfl) ?_
    refine c_X_isWithin (kc_s ?_)
    refine r_if_eq (tgt := 35) hK d_X_ease_19 rfl (fun h19 => ?_) (fun h19 => ?_)
    · skip
      have hc := bI_0.mp h19
      refine r_iconst hK d_X_ease_35 kc_0 ?_
      exact J _ (by first | (simp [hb, hc, hd, bI]; done) | (simp [*, bI]; done))
    · skip
      have hc := bI_n0.mp h19
      refine r_iload_n hK d_X_ease_22 rfl ?_
      refine r_iconst hK d_X_ease_23 kc_0 ?_
      refine r_iconst hK d_X_ease_24 kc_1 ?_
      refine r_s3 (k' := 1) hK lm_X_62 d_X_ease_25 (by decide) (Nat.le_of_ble_eq_true rfl) ?_
      refine c_X_isWithin (kc_s ?_)
      refine r_if_eq (tgt := 35) hK d_X_ease_28 rfl (fun h28 => ?_) (fun h28 => ?_)
      · skip
        have hd := bI_0.mp h28
        refine r_iconst hK d_X_ease_35 kc_0 ?_
        exact J _ (by first | (simp [hb, hc, hd, bI]; done) | (simp [*, bI]; done))
      · skip
        have hd := bI_n0.mp h28
        refine r_iconst hK d_X_ease_31 kc_1 ?_
        refine r_goto (tgt := 36) hK d_X_ease_32 rfl ?_
        exact J _ (by first | (simp [hb, hc, hd, bI]; done) | (simp [*, bI]; done))
theorem c_X_drawn {E : gX} {S : Nat} {G : gG} {Q : Option Value → gG → Prop} {b : Nat} {st : Bool} {nw : Nat → Int32} {ac : Nat → Nat → Int32} {na : Nat} {ik : Nat → Bool} {im : Nat → Nat → Int32} {rp : Nat → Bool} {rl : Nat → Int32} {rs : Nat → Nat} {ri : Nat → Nat → Int32} {tp : Nat → Int32} {tn : Nat} {lf : Int32} {fd : Int32} {tr : Nat → Int32} {un : Nat} (hX : XV G b (st, nw, ac, na, ik, im, rp, rl, rs, ri, tp, tn, lf, fd, tr, un)) (hI : XPI (st, nw, ac, na, ik, im, rp, rl, rs, ri, tp, tn, lf, fd, tr, un)) {n s w : Int32} (hQ : ∀ G' : gG, XV G' b (opDrawn (st, nw, ac, na, ik, im, rp, rl, rs, ri, tp, tn, lf, fd, tr, un) n s w).2 → Frm G G' b 309 → Q (some (.int (opDrawn (st, nw, ac, na, ik, im, rp, rl, rs, ri, tp, tn, lf, fd, tr, un) n s w).1)) G') : Runs E y_X_drawn 6 0 S [.ref b, .int n, .int s, .int w] G Q := by
  refine Runs.of "ClockPost" [some (.ref b), some (.int n), some (.int s), some (.int w), none, none, none, none] cw_X_drawn (by decide) (by decide +kernel) rfl (Nat.le_of_ble_eq_true rfl) rfl (fun K hK => ?_)
  have J : ∀ x : Int32, x = bI (inB n 0 60 && inB s 1 999999 && inB w 0 1) → K 36 [some (.ref b), some (.int n), some (.int s), some (.int w), none, none, none, none] [.int x, .ref b] S G := by
    intro x ex
    subst ex
    refine r_v1 (k' := 1) hK lm_X_198 d_X_drawn_36 ⟨_, hX.1.1⟩ (by decide) (Nat.le_of_ble_eq_true rfl) ?_
    refine c_X_refusalOf (z := inB n 0 60 && inB s 1 999999 && inB w 0 1) hX (kc_s ?_)
    refine st_i_4_8 hK d_X_drawn_39 trivial ?_
    refine r_iload hK d_X_drawn_41 rfl ?_
    refine r_if_eq (tgt := 49) hK d_X_drawn_43 rfl (fun h43 => ?_) (fun h43 => ?_)
    · skip
      obtain ⟨hst, hz⟩ := rfu_0.mp h43
      simp only [opDrawn, if_pos h43] at hQ
      refine r_aload_n hK d_X_drawn_49 rfl ?_
      refine r_get hK lf_X_29 d_X_drawn_50 (hX.1.1) rfl ?_
      refine r_aload_n hK d_X_drawn_53 rfl ?_
      refine r_get hK lf_X_25 d_X_drawn_54 (hX.1.1) rfl ?_
      obtain ⟨s0, u0, hT⟩ := hX.fore
      refine r_v1 (k' := 2) hK lm_X_122 d_X_drawn_57 ⟨_, hT.o⟩ (by decide) (Nat.le_of_ble_eq_true rfl) ?_
      refine e_H_become hT hX.now hI.1 (by omega) (fun G57 hT f57 => kc_n ?_)
      have hX := hX.sF f57 hT.j
      have hF : Frm G G57 b 309 := f57.mono (by omega) (by omega)
      refine r_iload_n hK d_X_drawn_60 rfl ?_
      refine r_i2l hK d_X_drawn_61 ?_
      refine st_l_5_8 hK d_X_drawn_62 trivial ?_
      refine r_iconst hK d_X_drawn_64 kc_0 ?_
      refine st_i_7_8 hK d_X_drawn_65 trivial ?_
      suffices L : ∀ j, j ≤ nN n → ∀ x : Int64, ∀ (G1 : gG) (v : Nat → Int32), XV G1 b (st, nw, ac, na, ik, im, rp, rl, rs, ri, tp, tn, lf, fd, tr, un) → HE G1 (b + 12) (bI st) v → Frm G G1 b 309 → nN (v 0) ≤ 6 →  drN (nN n - j) x v = drN (nN n) s.toInt64 nw → K 67 [some (.ref b), some (.int n), some (.int s), some (.int w), some (.int (rfu st (inB n 0 60 && inB s 1 999999 && inB w 0 1))), some (.long x), none, some (.int (nI j))] [] S G1 from L 0 (Nat.zero_le _) _ _ _ hX hT hF hI.1 rfl
      refine lpN (nN n) (fun j hj ih x G1 v hX hT hF hn hE => ?_)
      have := nN_lt n
      refine r_iload hK d_X_drawn_67 rfl ?_
      refine r_iload_n hK d_X_drawn_69 rfl ?_
      refine r_icmp_ge (tgt := 108) hK d_X_drawn_70 rfl (fun h70 => ?_) (fun h70 => ?_)
      · skip
        have hq : j = nN n := by have := (ge_nN (by omega)).mp h70; omega
        rw [hq, Nat.sub_self] at hE
        have hE : v = drN (nN n) s.toInt64 nw := hE
        refine r_iload_n hK d_X_drawn_108 rfl ?_
        refine r_if_ne (tgt := 122) hK d_X_drawn_109 rfl (fun h109 => ?_) (fun h109 => ?_)
        · skip
          rw [if_neg h109, ← hE] at hQ
          refine r_aload_n hK d_X_drawn_122 rfl ?_
          refine r_get hK lf_X_29 d_X_drawn_123 (hX.1.1) rfl ?_
          refine r_get hK lf_X_162 d_X_drawn_126 (hT.o) rfl ?_
          refine r_iret hK rfl rfl d_X_drawn_129 ?_
          exact hQ _ hX hF
        · skip
          rw [if_pos h109, ← hE] at hQ
          refine r_aload_n hK d_X_drawn_112 rfl ?_
          refine r_get hK lf_X_29 d_X_drawn_113 (hX.1.1) rfl ?_
          refine r_get hK lf_X_209 d_X_drawn_116 (hT.o) rfl ?_
          refine r_goto (tgt := 129) hK d_X_drawn_119 rfl ?_
          refine r_iret hK rfl rfl d_X_drawn_129 ?_
          exact hQ _ hX hF
      · skip
        have hq : j < nN n := (lt_nN (by omega)).mp (Int32.not_le.mp h70)
        rw [show nN n - j = (nN n - (j + 1)) + 1 by omega, drN] at hE
        refine r_lload hK d_X_drawn_73 rfl ?_
        refine r_ldc2 hK d_X_drawn_75 lc_X_269 ?_
        refine r_lmul hK d_X_drawn_78 ?_
        refine r_ldc2 hK d_X_drawn_79 lc_X_271 ?_
        refine r_lrem hK d_X_drawn_82 (by decide) ?_
        refine st_l_5_8 hK d_X_drawn_83 trivial ?_
        refine r_aload_n hK d_X_drawn_85 rfl ?_
        refine r_get hK lf_X_29 d_X_drawn_86 (hX.1.1) rfl ?_
        refine r_lload hK d_X_drawn_89 rfl ?_
        refine r_v1 (k' := 4) hK lm_X_273 d_X_drawn_91 ⟨_, hT.o⟩ (by decide) (Nat.le_of_ble_eq_true rfl) ?_
        refine e_H_takeDraw hT hn (fun G91 hT f91 => kc_n ?_)
        have hX := hX.sF f91 hT.j
        have hF := hF.tr (f91.mono (by omega) (by omega))
        refine r_aload_n hK d_X_drawn_94 rfl ?_
        refine r_get hK lf_X_29 d_X_drawn_95 (hX.1.1) rfl ?_
        refine r_v0 (k' := 5) hK lm_X_145 d_X_drawn_98 ⟨_, hT.o⟩ (by decide) (Nat.le_of_ble_eq_true rfl) ?_
        refine e_H_passDay hT (by rw [drawV_0]; exact hn) (fun G98 hT f98 => kc_s ?_)
        have hX := hX.sF f98 hT.j
        have hF := hF.tr (f98.mono (by omega) (by omega))
        refine r_pop hK d_X_drawn_101 rfl ?_
        first | refine iN_7_8 hK d_X_drawn_102 trivial ?_ | refine ii_7_1_8 hK d_X_drawn_102 trivial ?_
        refine r_goto (tgt := 67) hK d_X_drawn_105 rfl ?_
        exact ih hq _ _ _ hX hT hF (by rw [passV_0, drawV_0]; exact hn) hE
    · skip
      simp only [opDrawn, if_neg h43] at hQ
      refine r_iload hK d_X_drawn_46 rfl ?_
      refine r_iret hK rfl rfl d_X_drawn_48 ?_
      exact hQ _ hX Frm.rf
  refine r_aload_n hK d_X_drawn_0 rfl ?_
  refine r_iload_n hK d_X_drawn_1 rfl ?_
  refine r_iconst hK d_X_drawn_2 kc_0 ?_
  refine r_bipush hK d_X_drawn_3 kb_60 ?_
  refine r_s3 (k' := 1) hK lm_X_62 d_X_drawn_5 (by decide) (Nat.le_of_ble_eq_true rfl) ?_
  refine c_X_isWithin (kc_s ?_)
  refine r_if_eq (tgt := 35) hK d_X_drawn_8 rfl (fun h8 => ?_) (fun h8 => ?_)
  · skip
    have hb := bI_0.mp h8
    refine r_iconst hK d_X_drawn_35 kc_0 ?_
    exact J _ (by first | (simp [hb, hc, hd, bI]; done) | (simp [*, bI]; done))
  · skip
    have hb := bI_n0.mp h8
    refine r_iload_n hK d_X_drawn_11 rfl ?_
    refine r_iconst hK d_X_drawn_12 kc_1 ?_
    refine r_ldcw hK d_X_drawn_13 lc_X_268 ?_
    refine r_s3 (k' := 1) hK lm_X_62 d_X_drawn_16 (by decide) (Nat.le_of_ble_eq_true rfl) ?_
    refine c_X_isWithin (kc_s ?_)
    refine r_if_eq (tgt := 35) hK d_X_drawn_19 rfl (fun h19 => ?_) (fun h19 => ?_)
    · skip
      have hc := bI_0.mp h19
      refine r_iconst hK d_X_drawn_35 kc_0 ?_
      exact J _ (by first | (simp [hb, hc, hd, bI]; done) | (simp [*, bI]; done))
    · skip
      have hc := bI_n0.mp h19
      refine r_iload_n hK d_X_drawn_22 rfl ?_
      refine r_iconst hK d_X_drawn_23 kc_0 ?_
      refine r_iconst hK d_X_drawn_24 kc_1 ?_
      refine r_s3 (k' := 1) hK lm_X_62 d_X_drawn_25 (by decide) (Nat.le_of_ble_eq_true rfl) ?_
      refine c_X_isWithin (kc_s ?_)
      refine r_if_eq (tgt := 35) hK d_X_drawn_28 rfl (fun h28 => ?_) (fun h28 => ?_)
      · skip
        have hd := bI_0.mp h28
        refine r_iconst hK d_X_drawn_35 kc_0 ?_
        exact J _ (by first | (simp [hb, hc, hd, bI]; done) | (simp [*, bI]; done))
      · skip
        have hd := bI_n0.mp h28
        refine r_iconst hK d_X_drawn_31 kc_1 ?_
        refine r_goto (tgt := 36) hK d_X_drawn_32 rfl ?_
        exact J _ (by first | (simp [hb, hc, hd, bI]; done) | (simp [*, bI]; done))
