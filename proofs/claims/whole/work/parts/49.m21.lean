def plN (w : Int32) : Nat := if w = 0 then 12 else if w = 1 then 30 else 6
theorem chg_e {v : Nat → Int32} {w x : Int32} {j : Nat} : upd v (plN w + j) x = chgV v w j x := by
  unfold chgV plN
  repeat' split
  all_goals rfl
theorem plN_30 {w : Int32} : plN w ≤ 30 := by
  unfold plN
  repeat' split
  all_goals omega
theorem Vk.chg {v : Nat → Int32} {n j t : Nat} {w : Int32} (hw : w = 0 ∨ w = 1 ∨ w = 2) (h : Vk v n) (hj : j < n) (h1 : fsT w ≤ t) (h2 : t ≤ lsT w) : Vk (chgV v w j (nI t)) n := by
  obtain ⟨h6, h0, ⟨b, hb, e⟩, hA⟩ := h
  have h20 := lsT_20 (w := w)
  have et := nI_toInt (n := t) (by omega)
  rcases hw with rfl | rfl | rfl
  · have z2 : lsT 0 = 9 := rfl
    refine ⟨h6, by rw [chgV_0]; exact h0, ⟨b, hb, (upd_n (by omega)).trans e⟩, fun k hk => ?_⟩
    have := hA k hk
    rw [show chgV v 0 j (nI t) = upd v (12 + j) (nI t) from rfl, upd_n (show 6 + k ≠ 12 + j by omega), upd_n (show 18 + k ≠ 12 + j by omega), upd_n (show 30 + k ≠ 12 + j by omega)]
    refine ⟨⟨?_, this.1.2⟩, this.2⟩
    by_cases z : k = j
    · subst z; rw [upd_s, et]; omega
    · rw [upd_n (by omega)]; exact this.1.1
  · have z2 : lsT 1 = 20 := rfl
    refine ⟨h6, by rw [chgV_0]; exact h0, ⟨b, hb, (upd_n (by omega)).trans e⟩, fun k hk => ?_⟩
    have := hA k hk
    rw [show chgV v 1 j (nI t) = upd v (30 + j) (nI t) from rfl, upd_n (show 6 + k ≠ 30 + j by omega), upd_n (show 18 + k ≠ 30 + j by omega), upd_n (show 12 + k ≠ 30 + j by omega)]
    refine ⟨this.1, this.2.1, ?_⟩
    by_cases z : k = j
    · subst z; rw [upd_s, et]; omega
    · rw [upd_n (by omega)]; exact this.2.2
  · have z2 : lsT 2 = 5 := rfl
    have z1 : fsT 2 = 1 := rfl
    refine ⟨h6, by rw [chgV_0]; exact h0, ⟨b, hb, (upd_n (by omega)).trans e⟩, fun k hk => ?_⟩
    have := hA k hk
    rw [show chgV v 2 j (nI t) = upd v (6 + j) (nI t) from rfl, upd_n (show 12 + k ≠ 6 + j by omega), upd_n (show 18 + k ≠ 6 + j by omega), upd_n (show 30 + k ≠ 6 + j by omega)]
    refine ⟨⟨this.1.1, ?_⟩, this.2⟩
    by_cases z : k = j
    · subst z; rw [upd_s, et]; omega
    · rw [upd_n (by omega)]; exact this.1.2
theorem fr_fits0 {E : gX} {S : Nat} {G0 G : gG} {Q : Option Value → gG → Prop} {ini : Bool} {K : Nat → List (Option Value) → List Value → Nat → gG → Prop} (hK : Cl E "ClockPostModel" b_M_fits (Option.some Jvm.ClassFile.FieldType.int) 11 6 0 S ini G0 Q K) {a0 a2 a3 a4 : Option Value} {i x6 : Int32} (kk : K 129 [a0, some (.int i), a2, a3, a4, some (.int 0), some (.int x6), some (.int (12 + i)), some (.int 9), some (.int 0), some (.int 0)] [] S G) : K 62 [a0, some (.int i), a2, a3, a4, some (.int 0), some (.int x6), none, none, none, none] [] S G := by
  refine r_iload hK d_M_fits_62 rfl ?_
  refine r_if_ne (tgt := 72) hK d_M_fits_64 rfl (fun h64 => ?_) (fun h64 => ?_)
  · skip
    exact absurd rfl h64
  · skip
    refine r_bipush hK d_M_fits_67 kb_12 ?_
    refine r_goto (tgt := 85) hK d_M_fits_69 rfl ?_
    refine r_iload_n hK d_M_fits_85 rfl ?_
    refine r_iadd hK d_M_fits_86 ?_
    refine st_i_7_11 hK d_M_fits_87 trivial ?_
    refine r_iload hK d_M_fits_89 rfl ?_
    refine r_if_ne (tgt := 99) hK d_M_fits_91 rfl (fun h91 => ?_) (fun h91 => ?_)
    · skip
      exact absurd rfl h91
    · skip
      refine r_bipush hK d_M_fits_94 kb_9 ?_
      refine r_goto (tgt := 111) hK d_M_fits_96 rfl ?_
      refine st_i_8_11 hK d_M_fits_111 trivial ?_
      refine r_iconst hK d_M_fits_113 kc_0 ?_
      refine st_i_9_11 hK d_M_fits_114 trivial ?_
      refine r_iload hK d_M_fits_116 rfl ?_
      refine r_iconst hK d_M_fits_118 kc_2 ?_
      refine r_icmp_ne (tgt := 126) hK d_M_fits_119 rfl (fun h119 => ?_) (fun h119 => ?_)
      · skip
        refine r_iconst hK d_M_fits_126 kc_0 ?_
        refine st_i_10_11 hK d_M_fits_127 trivial ?_
        exact kk
      · skip
        exact absurd h119 (by decide)
theorem fr_fits1 {E : gX} {S : Nat} {G0 G : gG} {Q : Option Value → gG → Prop} {ini : Bool} {K : Nat → List (Option Value) → List Value → Nat → gG → Prop} (hK : Cl E "ClockPostModel" b_M_fits (Option.some Jvm.ClassFile.FieldType.int) 11 6 0 S ini G0 Q K) {a0 a2 a3 a4 : Option Value} {i x6 : Int32} (kk : K 129 [a0, some (.int i), a2, a3, a4, some (.int 1), some (.int x6), some (.int (30 + i)), some (.int 20), some (.int 0), some (.int 0)] [] S G) : K 62 [a0, some (.int i), a2, a3, a4, some (.int 1), some (.int x6), none, none, none, none] [] S G := by
  refine r_iload hK d_M_fits_62 rfl ?_
  refine r_if_ne (tgt := 72) hK d_M_fits_64 rfl (fun h64 => ?_) (fun h64 => ?_)
  · skip
    refine r_iload hK d_M_fits_72 rfl ?_
    refine r_iconst hK d_M_fits_74 kc_1 ?_
    refine r_icmp_ne (tgt := 83) hK d_M_fits_75 rfl (fun h75 => ?_) (fun h75 => ?_)
    · skip
      exact absurd rfl h75
    · skip
      refine r_bipush hK d_M_fits_78 kb_30 ?_
      refine r_goto (tgt := 85) hK d_M_fits_80 rfl ?_
      refine r_iload_n hK d_M_fits_85 rfl ?_
      refine r_iadd hK d_M_fits_86 ?_
      refine st_i_7_11 hK d_M_fits_87 trivial ?_
      refine r_iload hK d_M_fits_89 rfl ?_
      refine r_if_ne (tgt := 99) hK d_M_fits_91 rfl (fun h91 => ?_) (fun h91 => ?_)
      · skip
        refine r_iload hK d_M_fits_99 rfl ?_
        refine r_iconst hK d_M_fits_101 kc_1 ?_
        refine r_icmp_ne (tgt := 110) hK d_M_fits_102 rfl (fun h102 => ?_) (fun h102 => ?_)
        · skip
          exact absurd rfl h102
        · skip
          refine r_bipush hK d_M_fits_105 kb_20 ?_
          refine r_goto (tgt := 111) hK d_M_fits_107 rfl ?_
          refine st_i_8_11 hK d_M_fits_111 trivial ?_
          refine r_iconst hK d_M_fits_113 kc_0 ?_
          refine st_i_9_11 hK d_M_fits_114 trivial ?_
          refine r_iload hK d_M_fits_116 rfl ?_
          refine r_iconst hK d_M_fits_118 kc_2 ?_
          refine r_icmp_ne (tgt := 126) hK d_M_fits_119 rfl (fun h119 => ?_) (fun h119 => ?_)
          · skip
            refine r_iconst hK d_M_fits_126 kc_0 ?_
            refine st_i_10_11 hK d_M_fits_127 trivial ?_
            exact kk
          · skip
            exact absurd h119 (by decide)
      · skip
        exact absurd h91 (by decide)
  · skip
    exact absurd h64 (by decide)
theorem fr_fits2 {E : gX} {S : Nat} {G0 G : gG} {Q : Option Value → gG → Prop} {ini : Bool} {K : Nat → List (Option Value) → List Value → Nat → gG → Prop} (hK : Cl E "ClockPostModel" b_M_fits (Option.some Jvm.ClassFile.FieldType.int) 11 6 0 S ini G0 Q K) {a0 a2 a3 a4 : Option Value} {i x6 : Int32} (kk : K 129 [a0, some (.int i), a2, a3, a4, some (.int 2), some (.int x6), some (.int (6 + i)), some (.int 5), some (.int 0), some (.int 1)] [] S G) : K 62 [a0, some (.int i), a2, a3, a4, some (.int 2), some (.int x6), none, none, none, none] [] S G := by
  refine r_iload hK d_M_fits_62 rfl ?_
  refine r_if_ne (tgt := 72) hK d_M_fits_64 rfl (fun h64 => ?_) (fun h64 => ?_)
  · skip
    refine r_iload hK d_M_fits_72 rfl ?_
    refine r_iconst hK d_M_fits_74 kc_1 ?_
    refine r_icmp_ne (tgt := 83) hK d_M_fits_75 rfl (fun h75 => ?_) (fun h75 => ?_)
    · skip
      refine r_bipush hK d_M_fits_83 kb_6 ?_
      refine r_iload_n hK d_M_fits_85 rfl ?_
      refine r_iadd hK d_M_fits_86 ?_
      refine st_i_7_11 hK d_M_fits_87 trivial ?_
      refine r_iload hK d_M_fits_89 rfl ?_
      refine r_if_ne (tgt := 99) hK d_M_fits_91 rfl (fun h91 => ?_) (fun h91 => ?_)
      · skip
        refine r_iload hK d_M_fits_99 rfl ?_
        refine r_iconst hK d_M_fits_101 kc_1 ?_
        refine r_icmp_ne (tgt := 110) hK d_M_fits_102 rfl (fun h102 => ?_) (fun h102 => ?_)
        · skip
          refine r_iconst hK d_M_fits_110 kc_5 ?_
          refine st_i_8_11 hK d_M_fits_111 trivial ?_
          refine r_iconst hK d_M_fits_113 kc_0 ?_
          refine st_i_9_11 hK d_M_fits_114 trivial ?_
          refine r_iload hK d_M_fits_116 rfl ?_
          refine r_iconst hK d_M_fits_118 kc_2 ?_
          refine r_icmp_ne (tgt := 126) hK d_M_fits_119 rfl (fun h119 => ?_) (fun h119 => ?_)
          · skip
            exact absurd rfl h119
          · skip
            refine r_iconst hK d_M_fits_122 kc_1 ?_
            refine r_goto (tgt := 127) hK d_M_fits_123 rfl ?_
            refine st_i_10_11 hK d_M_fits_127 trivial ?_
            exact kk
        · skip
          exact absurd h102 (by decide)
      · skip
        exact absurd h91 (by decide)
    · skip
      exact absurd h75 (by decide)
  · skip
    exact absurd h64 (by decide)
theorem fr_fits {E : gX} {S : Nat} {G0 G : gG} {Q : Option Value → gG → Prop} {ini : Bool} {K : Nat → List (Option Value) → List Value → Nat → gG → Prop} (hK : Cl E "ClockPostModel" b_M_fits (Option.some Jvm.ClassFile.FieldType.int) 11 6 0 S ini G0 Q K) {a0 a2 a3 a4 : Option Value} {i x6 w : Int32} (hw : w = 0 ∨ w = 1 ∨ w = 2) (kk : K 129 [a0, some (.int i), a2, a3, a4, some (.int w), some (.int x6), some (.int (nI (plN w) + i)), some (.int (nI (lsT w))), some (.int 0), some (.int (nI (fsT w)))] [] S G) : K 62 [a0, some (.int i), a2, a3, a4, some (.int w), some (.int x6), none, none, none, none] [] S G := by
  rcases hw with rfl | rfl | rfl
  · exact fr_fits0 hK kk
  · exact fr_fits1 hK kk
  · exact fr_fits2 hK kk
theorem c_M_fits {E : gX} {S : Nat} {G : gG} {Q : Option Value → gG → Prop} {c : Nat} {f w : Nat → Int32} {A : Nat → Nat → Int32} {st : Bool} {nw : Nat → Int32} {ac : Nat → Nat → Int32} {na : Nat} {ik : Nat → Bool} {im : Nat → Nat → Int32} {rp : Nat → Bool} {rl : Nat → Int32} {rs : Nat → Nat} {ri : Nat → Nat → Int32} {tp : Nat → Int32} {tn : Nat} {lf : Int32} {fd : Int32} {tr : Nat → Int32} {un : Nat} (hM : MV G c f w A) (hS : MS f w A (st, nw, ac, na, ik, im, rp, rl, rs, ri, tp, tn, lf, fd, tr, un)) (hI : MI (st, nw, ac, na, ik, im, rp, rl, rs, ri, tp, tn, lf, fd, tr, un)) {i r s m wq : Int32} (hQ : ∀ G' : gG, MR G' c (opFits (st, nw, ac, na, ik, im, rp, rl, rs, ri, tp, tn, lf, fd, tr, un) i r s m wq).2 → Frm G G' c 10 → Q (some (.int (opFits (st, nw, ac, na, ik, im, rp, rl, rs, ri, tp, tn, lf, fd, tr, un) i r s m wq).1)) G') : Runs E y_M_fits 6 0 S [.ref c, .int i, .int r, .int s, .int m, .int wq] G Q := by
  refine Runs.of "ClockPostModel" [some (.ref c), some (.int i), some (.int r), some (.int s), some (.int m), some (.int wq), none, none, none, none, none] cw_M_fits (by decide) (by decide +kernel) rfl (Nat.le_of_ble_eq_true rfl) rfl (fun K hK => ?_)
  obtain ⟨w0, hw0⟩ : ∃ x, w = putT x 0 nw := ⟨_, hS.t0⟩
  subst hw0
  obtain ⟨n, hV⟩ := hI.1
  have h6 := hV.1
  have hz0 : putT w0 0 nw 0 = nI n := (hS.2.2.2.2.2.2.1 0 (by omega)).trans hV.2.1
  have hM0 := hM
  obtain ⟨w1, hw1⟩ : ∃ x, putT w0 0 nw = putT (putT w0 0 nw) 972 x := ⟨_, putT_id⟩
  rw [hw1] at hM
  refine r_aload_n hK d_M_fits_0 rfl ?_
  refine r_iload_n hK d_M_fits_1 rfl ?_
  refine r_v1 (k' := 2) hK lm_M_175 d_M_fits_2 ⟨_, hM.1⟩ (by decide) (Nat.le_of_ble_eq_true rfl) ?_
  refine c_M_isLetterThere hM hz0 h6 hV.2.1 (kc_s ?_)
  refine r_if_eq (tgt := 41) hK d_M_fits_5 rfl (fun h5 => ?_) (fun h5 => ?_)
  · skip
    have hb := bI_0.mp h5
    rw [opFits, if_neg (by simp [hb])] at hQ
    refine r_ldc hK d_M_fits_41 lc_M_55 ?_
    refine r_iret hK rfl rfl d_M_fits_43 ?_
    exact hQ _ ⟨_, _, _, hM0, hS⟩ Frm.rf
  · skip
    have hb := bI_n0.mp h5
    refine r_iload_n hK d_M_fits_8 rfl ?_
    refine r_s1 (k' := 2) hK lm_M_49 d_M_fits_9 (by decide) (Nat.le_of_ble_eq_true rfl) ?_
    refine c_M_isRow (kc_s ?_)
    refine r_if_eq (tgt := 41) hK d_M_fits_12 rfl (fun h12 => ?_) (fun h12 => ?_)
    · skip
      have hb2 := bI_0.mp h12
      rw [opFits, if_neg (by simp [hb2])] at hQ
      refine r_ldc hK d_M_fits_41 lc_M_55 ?_
      refine r_iret hK rfl rfl d_M_fits_43 ?_
      exact hQ _ ⟨_, _, _, hM0, hS⟩ Frm.rf
    · skip
      have hb2 := bI_n0.mp h12
      refine r_iload hK d_M_fits_15 rfl ?_
      refine r_i2l hK d_M_fits_17 ?_
      refine r_lconst (v := 1) hK d_M_fits_18 rfl ?_
      refine r_ldc2 hK d_M_fits_19 lc_M_225 ?_
      refine r_s3 (k' := 1) hK lm_M_45 d_M_fits_22 (by decide) (Nat.le_of_ble_eq_true rfl) ?_
      refine c_M_in (a := 1) (b := 16) (by decide) (by decide) (kc_s ?_)
      refine r_if_eq (tgt := 41) hK d_M_fits_25 rfl (fun h25 => ?_) (fun h25 => ?_)
      · skip
        have hb3 := bI_0.mp h25
        rw [opFits, if_neg (by simp [hb3])] at hQ
        refine r_ldc hK d_M_fits_41 lc_M_55 ?_
        refine r_iret hK rfl rfl d_M_fits_43 ?_
        exact hQ _ ⟨_, _, _, hM0, hS⟩ Frm.rf
      · skip
        have hb3 := bI_n0.mp h25
        refine r_iload hK d_M_fits_28 rfl ?_
        refine r_i2l hK d_M_fits_30 ?_
        refine r_lconst (v := 0) hK d_M_fits_31 rfl ?_
        refine r_ldc2 hK d_M_fits_32 lc_M_53 ?_
        refine r_s3 (k' := 1) hK lm_M_45 d_M_fits_35 (by decide) (Nat.le_of_ble_eq_true rfl) ?_
        refine c_M_in (a := 0) (b := 2) (by decide) (by decide) (kc_s ?_)
        refine r_if_ne (tgt := 44) hK d_M_fits_38 rfl (fun h38 => ?_) (fun h38 => ?_)
        · skip
          have hb4 := bI_n0.mp h38
          rw [opFits, if_pos ⟨hb, hb2, hb3, hb4⟩] at hQ
          obtain ⟨x, hx, hx6, rfl⟩ := hasL_ix hb (by rw [hV.nN]; exact h6)
          rw [hV.nN] at hx
          obtain ⟨j, hj, rfl⟩ := inB_7 hb2
          have hs := hI.2.2.2.2.1 j hj
          rw [nN_nI (j := j) (by omega), nN_nI (j := x) (by omega)] at hQ
          refine r_aload_n hK d_M_fits_44 rfl ?_
          refine r_iload_n hK d_M_fits_45 rfl ?_
          refine r_iload_n hK d_M_fits_46 rfl ?_
          refine r_iload hK d_M_fits_47 rfl ?_
          refine r_v3 (k' := 2) hK lm_M_227 d_M_fits_49 ⟨_, hM.1⟩ (by decide) (Nat.le_of_ble_eq_true rfl) ?_
          refine c_M_noItems hM0 hS hj hs (fun G49 h49 => kc_s ?_)
          refine st_i_6_11 hK d_M_fits_52 trivial ?_
          refine r_iload hK d_M_fits_54 rfl ?_
          refine r_if_eq (tgt := 62) hK d_M_fits_56 rfl (fun h56 => ?_) (fun h56 => ?_)
          · skip
            have hf : flw (rp j) (rs j) s m = 0 := by
              rcases flw_c (p := rp j) (z := rs j) (i := s) (n := m) with e | e | e
              · exact e
              · rw [e] at h56; exact absurd h56 (by decide)
              · rw [e] at h56; exact absurd h56 (by decide)
            rw [if_pos hf] at h49 hQ ⊢
            subst h49
            obtain ⟨hp, hP⟩ := flw_0 hf
            have hP := (hasP_iff hs).mp hP
            obtain ⟨e, he, rfl⟩ := nI_of (x := s) (by rw [i_lt, ti_0]; omega)
            obtain ⟨q, hq, rfl⟩ := nI_of (x := m) (by rw [i_lt, ti_0]; omega)
            rw [nI_toInt he, nI_toInt hq] at hP
            rw [nN_nI hq] at hQ
            have hg := (hS.2.2.2.2.2.2.2.2.2.2.2.1 j hj hp).2
            have hw : wq = 0 ∨ wq = 1 ∨ wq = 2 := by
              simp only [inB, Bool.and_eq_true, decide_eq_true_eq] at hb4
              obtain ⟨y, hy, rfl⟩ := nI_of (Int32.not_lt.mpr hb4.1)
              have := (lec (n := 2) (by decide) hy).mp hb4.2
              rcases (show y = 0 ∨ y = 1 ∨ y = 2 by omega) with rfl | rfl | rfl
              · exact Or.inl rfl
              · exact Or.inr (Or.inl rfl)
              · exact Or.inr (Or.inr rfl)
            refine fr_fits hK hw ?_
            have h20 := lsT_20 (w := wq)
            have hf1 := fsT_1 (w := wq)
            suffices L : ∀ t, t ≤ lsT wq + 1 → fsT wq ≤ t → ∀ (G1 : gG) (u : Nat → Int32) (acc : Int32), MV G1 c f (putT (putT w0 0 nw) 972 u) A → Frm G49 G1 c 10 → ftL (fun t => tld (ri j) (rs j) (nI e) q 0 (chgV nw wq x (nI t))) (lsT wq + 1 - t) t acc = ftL (fun t => tld (ri j) (rs j) (nI e) q 0 (chgV nw wq x (nI t))) (lsT wq + 1 - fsT wq) (fsT wq) 0 → K 129 [some (.ref c), some (.int (nI x)), some (.int (nI j)), some (.int (nI e)), some (.int (nI q)), some (.int wq), some (.int 0), some (.int (nI (plN wq) + nI x)), some (.int (nI (lsT wq))), some (.int acc), some (.int (nI t))] [] S G1 from L (fsT wq) (by omega) (Nat.le_refl _) _ _ _ hM Frm.rf rfl
            clear hM
            refine lpN (lsT wq + 1) (fun t ht ih ht1 G1 u acc hM hF hE => ?_)
            refine r_iload hK d_M_fits_129 rfl ?_
            refine r_iload hK d_M_fits_131 rfl ?_
            refine r_icmp_gt (tgt := 183) hK d_M_fits_133 rfl (fun h133 => ?_) (fun h133 => ?_)
            · skip
              have hq7 : t = lsT wq + 1 := by have := (nI_ltI (by omega) (by omega)).mp h133; omega
              subst hq7
              rw [Nat.sub_self, ftL] at hE
              refine r_aload_n hK d_M_fits_183 rfl ?_
              refine r_iload hK d_M_fits_184 rfl ?_
              rw [← hE] at hQ
              refine r_v1 (k' := 1) hK lm_M_60 d_M_fits_186 ⟨_, hM.1⟩ (by decide) (Nat.le_of_ble_eq_true rfl) ?_
              refine c_M_well hM (fun G186 hM f186 => kc_s ?_)
              refine r_iret hK rfl rfl d_M_fits_189 ?_
              exact hQ _ ⟨_, _, _, hM, (hS.sT hI.2.2.2.1).sfd⟩ (hF.tr f186)
            · skip
              have hq7 : t < lsT wq + 1 := Nat.not_le.mp (fun q => h133 ((nI_ltI (by omega) (by omega)).mpr (by omega)))
              rw [show lsT wq + 1 - t = (lsT wq + 1 - (t + 1)) + 1 by omega, ftL] at hE
              refine r_aload_n hK d_M_fits_136 rfl ?_
              refine r_v0 (k' := 2) hK lm_M_188 d_M_fits_137 ⟨_, hM.1⟩ (by decide) (Nat.le_of_ble_eq_true rfl) ?_
              refine l_trd hM (fun G137 hM f137 => kc_n ?_)
              have hF := hF.tr f137
              refine r_aload_n hK d_M_fits_140 rfl ?_
              refine r_get hK lf_M_7 d_M_fits_141 (hM.1) rfl ?_
              refine r_sipush hK d_M_fits_144 ks_972 ?_
              refine r_iload hK d_M_fits_147 rfl ?_
              refine r_iadd hK d_M_fits_149 ?_
              refine r_iload hK d_M_fits_150 rfl ?_
              refine s_tw (B := 972) (j := plN wq + x) hK d_M_fits_152 hM (by rw [nI_add]; exact ix0 (c := 972) rfl) (by have := plN_30 (w := wq); omega) (by omega) (fun G152 hM f152 => ?_)
              have hF := hF.tr f152
              rw [chg_e] at hM
              refine r_iload hK d_M_fits_153 rfl ?_
              refine r_aload_n hK d_M_fits_155 rfl ?_
              refine r_iload_n hK d_M_fits_156 rfl ?_
              refine r_iload_n hK d_M_fits_157 rfl ?_
              refine r_iload hK d_M_fits_158 rfl ?_
              refine r_v3 (k' := 5) hK lm_M_231 d_M_fits_160 ⟨_, hM.1⟩ (by decide) (Nat.le_of_ble_eq_true rfl) ?_
              refine c_M_isSo hM (Vk.chg hw hV hx ht1 (by omega)) hj hs (by omega) hg (fun G160 u160 hM f160 => kc_s ?_)
              have hF := hF.tr f160
              refine r_if_eq (tgt := 173) hK d_M_fits_163 rfl (fun h163 => ?_) (fun h163 => ?_)
              · skip
                rw [if_neg (by rw [bI_0.mp h163]; decide)] at hE
                refine r_iconst hK d_M_fits_173 kc_0 ?_
                refine r_ior hK d_M_fits_174 ?_
                try rw [Int32.or_zero]
                refine st_i_9_11 hK d_M_fits_175 trivial ?_
                first | refine iN_10_11 hK d_M_fits_177 trivial ?_ | refine ii_10_1_11 hK d_M_fits_177 trivial ?_
                refine r_goto (tgt := 129) hK d_M_fits_180 rfl ?_
                exact ih hq7 (by omega) _ _ _ hM hF hE
              · skip
                rw [if_pos (bI_n0.mp h163)] at hE
                refine r_iconst hK d_M_fits_166 kc_1 ?_
                refine r_iload hK d_M_fits_167 rfl ?_
                refine r_ishl hK d_M_fits_169 ?_
                refine r_goto (tgt := 174) hK d_M_fits_170 rfl ?_
                refine r_ior hK d_M_fits_174 ?_
                try rw [Int32.or_zero]
                refine st_i_9_11 hK d_M_fits_175 trivial ?_
                first | refine iN_10_11 hK d_M_fits_177 trivial ?_ | refine ii_10_1_11 hK d_M_fits_177 trivial ?_
                refine r_goto (tgt := 129) hK d_M_fits_180 rfl ?_
                exact ih hq7 (by omega) _ _ _ hM hF hE
          · skip
            have hf : ¬ flw (rp j) (rs j) s m = 0 := fun e => h56 (by rw [if_pos e])
            rw [if_neg hf] at h49 hQ ⊢
            refine r_iload hK d_M_fits_59 rfl ?_
            refine r_iret hK rfl rfl d_M_fits_61 ?_
            exact hQ _ ⟨_, _, _, h49.1, hS.sfd⟩ h49.2
        · skip
          have hb4 := bI_0.mp h38
          rw [opFits, if_neg (by simp [hb4])] at hQ
          refine r_ldc hK d_M_fits_41 lc_M_55 ?_
          refine r_iret hK rfl rfl d_M_fits_43 ?_
          exact hQ _ ⟨_, _, _, hM0, hS⟩ Frm.rf
