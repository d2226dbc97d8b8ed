theorem law_loop {E : gX} {sz0 sz L b x c : Nat} {xs : Nat → Int32} {G0 : gG} {K : Nat → List (Option Value) → List Value → Nat → gG → Prop} (hK : Cw E "ClockPostLaw" code ret 4 sz0 G0 b L xs K) (hd : x + 309 ≤ c ∨ c + 10 ≤ x) (hz : sz ≤ sz0 + 6000) (hL : L ≤ 384) (hend : ∀ (Ls : List (Option Value)) (G : gG), K 1139 Ls [.int 1] sz G) : ∀ t, t ≤ 64 → ∀ (G : gG) (s : gS), XV G x s → MR G c s → JI s → K 18 [some (.ref b), some (.ref x), some (.ref c), some (.int (nI (6 * t)))] [] sz G := by
  refine lpN 64 (fun t ht ih G s hX hM hJ => ?_)
  refine w_iload_n hK d_W_law_18 rfl ?_
  refine w_aload_n hK d_W_law_19 rfl ?_
  refine w_slen hK d_W_law_20 ?_
  refine w_bipush hK d_W_law_21 kb_6 ?_
  refine w_isub hK d_W_law_23 ?_
  refine w_icmp_gt (tgt := 1138) hK d_W_law_24 rfl (fun h => ?_) (fun h => ?_)
  · refine w_iconst hK d_W_law_1138 kc_1 ?_
    exact hend _ _
  · have hLt : (nI L).toInt = (L : Int) := nI_toInt (by omega)
    have hi : 6 * t + 5 < L := by
      rw [i_lt, sub_toI (by rw [hLt, ti_6]; omega), hLt, ti_6, nI_toInt (by omega)] at h
      omega
    have kk : ∀ (G' : gG) (s' : gS), XV G' x s' → MR G' c s' → JI s' → K 1132 [some (.ref b), some (.ref x), some (.ref c), some (.int (nI (6 * t)))] [] sz G' := fun G' s' hX hM hJ => by
      refine w_iinc (v := nI (6 * (t + 1))) hK d_W_law_1132 rfl ((ix1 (c := 6) (by decide)).trans (congrArg nI (by omega))) trivial ?_
      refine w_goto (tgt := 18) hK d_W_law_1135 rfl ?_
      exact ih (by omega) _ _ hX hM hJ
    refine w_aload_n hK d_W_law_27 rfl ?_
    refine w_iload_n hK d_W_law_28 rfl ?_
    refine w_sld hK (by omega) (by omega) d_W_law_29 ?_
    refine w_bipush hK d_W_law_30 kb_31 ?_
    refine w_iand hK d_W_law_32 ?_
    obtain ⟨st, nw, ac, na, ik, im, rp, rl, rs, ri, tp, tn, lf, fd, tr, un⟩ := s
    refine w_table (td := 1132) hK d_W_law_33 (by decide +kernel) rfl (fun _ => kk _ _ hX hM hJ) ⟨fun _ => ?_, fun _ => ?_, fun _ => ?_, fun _ => ?_, fun _ => ?_, fun _ => ?_, fun _ => ?_, fun _ => ?_, fun _ => ?_, fun _ => ?_, fun _ => ?_, fun _ => ?_, fun _ => ?_, fun _ => ?_, fun _ => ?_, fun _ => ?_, fun _ => ?_, fun _ => ?_, fun _ => ?_, fun _ => ?_, fun _ => ?_, fun _ => ?_, fun _ => ?_, fun _ => ?_, fun _ => ?_, fun _ => ?_, fun _ => ?_, fun _ => ?_, fun _ => ?_, fun _ => ?_, fun _ => ?_, fun _ => ?_, trivial⟩
    · show K 176 _ _ _ _
      exact lawc_0 hK hX hM hJ hd hz hi hL kk
    · show K 219 _ _ _ _
      exact lawc_1 hK hX hM hJ hd hz hi hL kk
    · show K 262 _ _ _ _
      exact lawc_2 hK hX hM hJ hd hz hi hL kk
    · show K 325 _ _ _ _
      exact lawc_3 hK hX hM hJ hd hz hi hL kk
    · show K 348 _ _ _ _
      exact lawc_4 hK hX hM hJ hd hz hi hL kk
    · show K 371 _ _ _ _
      exact lawc_5 hK hX hM hJ hd hz hi hL kk
    · show K 384 _ _ _ _
      exact lawc_6 hK hX hM hJ hd hz hi hL kk
    · show K 397 _ _ _ _
      exact lawc_7 hK hX hM hJ hd hz hi hL kk
    · show K 420 _ _ _ _
      exact lawc_8 hK hX hM hJ hd hz hi hL kk
    · show K 443 _ _ _ _
      exact lawc_9 hK hX hM hJ hd hz hi hL kk
    · show K 466 _ _ _ _
      exact lawc_10 hK hX hM hJ hd hz hi hL kk
    · show K 499 _ _ _ _
      exact lawc_11 hK hX hM hJ hd hz hi hL kk
    · show K 512 _ _ _ _
      exact lawc_12 hK hX hM hJ hd hz hi hL kk
    · show K 545 _ _ _ _
      exact lawc_13 hK hX hM hJ hd hz hi hL kk
    · show K 568 _ _ _ _
      exact lawc_14 hK hX hM hJ hd hz hi hL kk
    · show K 591 _ _ _ _
      exact lawc_15 hK hX hM hJ hd hz hi hL kk
    · show K 614 _ _ _ _
      exact lawc_16 hK hX hM hJ hd hz hi hL kk
    · show K 637 _ _ _ _
      exact lawc_17 hK hX hM hJ hd hz hi hL kk
    · show K 670 _ _ _ _
      exact lawc_18 hK hX hM hJ hd hz hi hL kk
    · show K 703 _ _ _ _
      exact lawc_19 hK hX hM hJ hd hz hi hL kk
    · show K 746 _ _ _ _
      exact lawc_20 hK hX hM hJ hd hz hi hL kk
    · show K 809 _ _ _ _
      exact lawc_21 hK hX hM hJ hd hz hi hL kk
    · show K 852 _ _ _ _
      exact lawc_22 hK hX hM hJ hd hz hi hL kk
    · show K 895 _ _ _ _
      exact lawc_23 hK hX hM hJ hd hz hi hL kk
    · show K 938 _ _ _ _
      exact lawc_24 hK hX hM hJ hd hz hi hL kk
    · show K 961 _ _ _ _
      exact lawc_25 hK hX hM hJ hd hz hi hL kk
    · show K 984 _ _ _ _
      exact lawc_26 hK hX hM hJ hd hz hi hL kk
    · show K 1007 _ _ _ _
      exact lawc_27 hK hX hM hJ hd hz hi hL kk
    · show K 1040 _ _ _ _
      exact lawc_28 hK hX hM hJ hd hz hi hL kk
    · show K 1073 _ _ _ _
      exact lawc_29 hK hX hM hJ hd hz hi hL kk
    · show K 1096 _ _ _ _
      exact lawc_30 hK hX hM hJ hd hz hi hL kk
    · show K 1119 _ _ _ _
      exact lawc_31 hK hX hM hJ hd hz hi hL kk
theorem mA0_4 : ∀ i, i < 8 → mA0 4 i = -1 := by decide
theorem MS_z : MS (fun _ => 0) (fun _ => 0) mA0 st0 :=
  ⟨rfl, rfl, rfl, rfl, rfl, rfl, fun _ _ => rfl, fun i hi => absurd hi (by omega), (fun i _ h => by cases h), fun i _ => rfl, fun i hi => mA0_4 i hi, (fun i _ h => by cases h), fun k hk => absurd hk (by omega), fun k hk => absurd hk (by omega)⟩
theorem law_body {E : gX} {sz0 L b : Nat} {xs : Nat → Int32} {G0 : gG} {K : Nat → List (Option Value) → List Value → Nat → gG → Prop} (hK : Cw E "ClockPostLaw" code ret 4 sz0 G0 b L xs K) (hL : L ≤ 384) (hend : ∀ (Ls : List (Option Value)) (G : gG), K 1139 Ls [.int 1] (sz0 + 319) G) : K 0 [some (.ref b), none, none, none] [] sz0 G0 := by
  refine w_new hK cl_X wl_W_7 wi_X wz_X nf_X (by decide) (by omega) d_W_law_0 ?_
  refine w_dup hK d_W_law_3 rfl ?_
  refine w_in (k' := 5) (mc' := 308) hK lm_W_9 d_W_law_4 (by decide) (by omega) (Nat.le_of_ble_eq_true rfl) ?_
  refine c_X_init gup_s (fun G1 hX f1 => kc_n ?_)
  refine w_astore_n (x := sz0) hK d_W_law_7 (by show 1 < 4; omega) trivial ?_
  refine w_new hK cl_M wl_W_10 wi_M wz_M nf_M (by decide) (by omega) d_W_law_8 ?_
  refine w_dup hK d_W_law_11 rfl ?_
  refine w_in (k' := 2) (mc' := 9) hK lm_W_12 d_W_law_12 (by decide) (by omega) (Nat.le_of_ble_eq_true rfl) ?_
  refine c_M_init gup_s (fun G2 hM f2 => kc_n ?_)
  refine w_astore_n (x := sz0 + 1 + 308) hK d_W_law_15 (by show 2 < 4; omega) trivial ?_
  refine w_iconst hK d_W_law_16 kc_0 ?_
  refine w_istore_n hK d_W_law_17 (by show 3 < 4; omega) trivial ?_
  have hX2 : XV G2 sz0 st0 := (hX.fr (Frm.up (a := sz0 + 1 + 308) (n := 1) (Nat.le_refl _) (by omega)) (by omega)).fr f2 (by omega)
  exact law_loop (x := sz0) (c := sz0 + 1 + 308) hK (by omega) (by omega) hL hend 0 (by omega) G2 st0 hX2 ⟨_, _, _, hM, MS_z⟩ JI.z
