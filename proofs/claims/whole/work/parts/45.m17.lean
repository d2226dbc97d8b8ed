theorem itA_e {g : Nat → Int32} {z x : Nat} (hz : z ≤ 40) (h : x < z) : itA g z (nI x) = g x := by
  have e := nI_toInt (n := x) (by omega)
  rw [itA, if_pos ((hasP_iff hz).mpr (by rw [e, ti_1]; omega)), nN_nI (by omega)]
theorem c_M_isSo {E : gX} {S : Nat} {G : gG} {Q : Option Value → gG → Prop} {c r e q z n : Nat} {f w u g : Nat → Int32} {A : Nat → Nat → Int32} (hM : MV G c f (putT w 972 u) A) (hV : Vk u n) (hr : r < 8) (hz : z ≤ 40) (heq : e + q ≤ z) (hg : ∀ k, k < 40 → A 5 (40 * r + k) = g k) (hQ : ∀ (G' : gG) (u' : Nat → Int32), MV G' c f (putT w 972 u') A → Frm G G' c 10 → Q (some (.int (bI (tld g z (nI e) q 0 u)))) G') : Runs E y_M_isSo 5 0 S [.ref c, .int (nI r), .int (nI e), .int (nI q)] G Q := by
  refine Runs.of "ClockPostModel" [some (.ref c), some (.int (nI r)), some (.int (nI e)), some (.int (nI q)), none] cw_M_isSo (by decide) (by decide +kernel) rfl (Nat.le_of_ble_eq_true rfl) rfl (fun K hK => ?_)
  refine r_iconst hK d_M_isSo_0 kc_0 ?_
  refine st_i_4_5 hK d_M_isSo_1 trivial ?_
  suffices L : ∀ j, j ≤ q → ∀ (G1 : gG) (u1 : Nat → Int32), MV G1 c f (putT w 972 u1) A → Vk u1 n → tld g z (nI e) (q - j) j u1 = tld g z (nI e) q 0 u → Frm G G1 c 10 → K 3 [some (.ref c), some (.int (nI r)), some (.int (nI e)), some (.int (nI q)), some (.int (nI j))] [] S G1 from L 0 (Nat.zero_le _) _ _ hM hV rfl Frm.rf
  clear hM
  refine lpN q (fun j hj ih G1 u1 hM hU hE hF => ?_)
  refine r_iload hK d_M_isSo_3 rfl ?_
  refine r_iload_n hK d_M_isSo_5 rfl ?_
  refine r_icmp_ge (tgt := 49) hK d_M_isSo_6 rfl (fun h6 => ?_) (fun h6 => ?_)
  · skip
    have hq : j = q := by have := (nI_leI (by omega) (by omega)).mp h6; omega
    rw [hq, Nat.sub_self, tld] at hE
    rw [← hE] at hQ
    refine r_iconst hK d_M_isSo_49 kc_1 ?_
    refine r_zret hK rfl (rfl) rfl d_M_isSo_50 ?_
    exact hQ _ _ hM hF
  · skip
    have hq : j < q := Nat.not_le.mp (fun z => h6 ((nI_leI (by omega) (by omega)).mpr z))
    rw [show q - j = (q - (j + 1)) + 1 by omega, tld, nI_add, itA_e hz (by omega), ← hg _ (by omega)] at hE
    refine r_aload_n hK d_M_isSo_9 rfl ?_
    refine r_sipush hK d_M_isSo_10 ks_972 ?_
    refine r_v1 (k' := 3) hK lm_M_157 d_M_isSo_13 ⟨_, hM.1⟩ (by decide) (Nat.le_of_ble_eq_true rfl) ?_
    refine c_M_burdenAt (B := 972) hM (by omega) hU (kc_s ?_)
    refine r_aload_n hK d_M_isSo_16 rfl ?_
    refine r_get hK lf_M_23 d_M_isSo_17 (hM.1) rfl ?_
    refine r_bipush hK d_M_isSo_20 kb_40 ?_
    refine r_iload_n hK d_M_isSo_22 rfl ?_
    refine r_imul hK d_M_isSo_23 ?_
    refine r_iload_n hK d_M_isSo_24 rfl ?_
    refine r_iadd hK d_M_isSo_25 ?_
    refine r_iload hK d_M_isSo_26 rfl ?_
    refine r_iadd hK d_M_isSo_28 ?_
    refine g_a5 (j := 40 * r + (e + j)) hK d_M_isSo_29 hM (ix41.trans (congrArg nI (by omega))) (by omega) ?_
    refine r_icmp_eq (tgt := 35) hK d_M_isSo_30 rfl (fun h30 => ?_) (fun h30 => ?_)
    · skip
      rw [if_pos h30] at hE
      refine r_aload_n hK d_M_isSo_35 rfl ?_
      refine r_sipush hK d_M_isSo_36 ks_972 ?_
      refine r_v1 (k' := 4) hK lm_M_167 d_M_isSo_39 ⟨_, hM.1⟩ (by decide) (Nat.le_of_ble_eq_true rfl) ?_
      refine c_M_pass (B := 972) hM (by omega) hU (fun G39 hM f39 => kc_s ?_)
      have hF := hF.tr f39
      refine r_pop hK d_M_isSo_42 rfl ?_
      first | refine iN_4_5 hK d_M_isSo_43 trivial ?_ | refine ii_4_1_5 hK d_M_isSo_43 trivial ?_
      refine r_goto (tgt := 3) hK d_M_isSo_46 rfl ?_
      exact ih hq _ _ hM hU.pass hE hF
    · skip
      rw [if_neg h30] at hE
      rw [← hE] at hQ
      refine r_iconst hK d_M_isSo_33 kc_0 ?_
      refine r_zret hK rfl (rfl) rfl d_M_isSo_34 ?_
      exact hQ _ _ hM hF
