theorem bitN : ∀ n, n ≤ 6 → ∀ b, b < 2 ^ n → ∀ t, t < 6 → n ≤ t → bitB (nI b) (nI t) = false := by decide +kernel
theorem Vk.b2 {v : Nat → Int32} {n t : Nat} (h : Vk v n) (ht : t < 6) : behB v (nI t) = bitB (v 3) (nI t) := by
  by_cases q : t < n
  · exact h.b q
  · obtain ⟨h6, h0, ⟨b, hb, e⟩, -⟩ := h
    rw [e, bitN n h6 b hb t ht (by omega)]
    cases z : behB v (nI t)
    · rfl
    · have := behB_has z
      simp only [hasL, Bool.and_eq_true, decide_eq_true_eq, h0] at this
      rw [nI_ltI (by omega) (by omega)] at this
      omega
theorem mS_c {R R' : Nat → Bool} : ∀ m, (∀ t, t < m → R t = R' t) → mS R m = mS R' m
  | 0, _ => rfl
  | m + 1, h => by
    show mS R m ||| (if R m = true then 1 <<< (nI m &&& 31) else 0) = mS R' m ||| (if R' m = true then 1 <<< (nI m &&& 31) else 0)
    rw [mS_c m (fun t ht => h t (by omega)), h m (by omega)]
theorem Vk.bo {v : Nat → Int32} {n t : Nat} (h : Vk v n) (ht : n ≤ t) (h6 : t < 6) : behB v (nI t) = false := by
  cases z : behB v (nI t)
  · rfl
  · have := behB_has z
    have hn := h.1
    simp only [hasL, Bool.and_eq_true, decide_eq_true_eq, h.2.1] at this
    rw [nI_ltI (by omega) (by omega)] at this
    omega
theorem st_fin {nw : Nat → Int32} {n : Nat} (hV : Vk nw n) {f : Nat → Int32} {z q : Nat} {i : Int32} {R : Nat → Bool} (hR : ∀ t, R t = ((decide (t = 6) || behB nw (nI t)) && tld f z i q 0 (wtV nw (1 <<< (nI t &&& 31))))) : stL (fun t => if behB nw (nI t) = true then some (tld f z i q 0 (wtV nw (1 <<< (nI t &&& 31)))) else none) n 0 (if tld f z i q 0 nw = true then 64 else 0) = mS R 7 := by
  have h6 := hV.1
  rw [stL_m (R := fun t => behB nw (nI t) && tld f z i q 0 (wtV nw (1 <<< (nI t &&& 31)))) (fun t => by
    show (behB nw (nI t) && _) = true ↔ (if behB nw (nI t) = true then _ else _) = some true
    cases behB nw (nI t) <;> simp)]
  have e2 : R 6 = tld f z i q 0 nw := by rw [hR, wt6 hV]; simp
  have e3 : mS R 6 = mS R n := by
    have := mS_k (R := R) (n := n) (6 - n) (fun t h1 h2 => by rw [hR, hV.bo h1 (by omega), decide_eq_false (by omega)]; rfl)
    rw [show n + (6 - n) = 6 by omega] at this
    exact this
  rw [mS_c (R' := R) n (fun t ht => by rw [hR, decide_eq_false (by omega), Bool.false_or]), Int32.or_comm, ← e3, ← e2]
  rfl
theorem fr_stealth {E : gX} {S : Nat} {G0 G : gG} {Q : Option Value → gG → Prop} {ini : Bool} {K : Nat → List (Option Value) → List Value → Nat → gG → Prop} (hK : Cl E "ClockPostModel" b_M_stealth (Option.some Jvm.ClassFile.FieldType.int) 8 6 0 S ini G0 Q K) {a0 a1 a2 a3 a4 : Option Value} {acc x : Int32} {t : Nat} {R : Bool} {a7 : Option Value} (hx : x = bI R) (kk : K 55 [a0, a1, a2, a3, a4, some (.int (acc ||| (if R = true then 1 <<< (nI t &&& 31) else 0))), some (.int (nI (t + 1))), some (.int x)] [] S G) (h4 : okc a4) : K 119 [a0, a1, a2, a3, a4, some (.int acc), some (.int (nI t)), a7] [.int x] S G := by
  refine st_i_7_8 hK d_M_stealth_119 trivial ?_
  refine r_iload hK d_M_stealth_121 rfl ?_
  refine r_iload hK d_M_stealth_123 rfl ?_
  refine r_if_eq (tgt := 135) hK d_M_stealth_125 rfl (fun h125 => ?_) (fun h125 => ?_)
  · skip
    have hR : R = false := by rw [hx] at h125; exact bI_0.mp h125
    rw [hR, if_neg (by decide)] at kk
    refine r_iconst hK d_M_stealth_135 kc_0 ?_
    refine r_ior hK d_M_stealth_136 ?_
    refine st_i_5_8 hK d_M_stealth_137 h4 ?_
    first | refine iN_6_8 hK d_M_stealth_139 trivial ?_ | refine ii_6_1_8 hK d_M_stealth_139 trivial ?_
    refine r_goto (tgt := 55) hK d_M_stealth_142 rfl ?_
    exact kk
  · skip
    have hR : R = true := by rw [hx] at h125; exact bI_n0.mp h125
    rw [hR, if_pos rfl] at kk
    refine r_iconst hK d_M_stealth_128 kc_1 ?_
    refine r_iload hK d_M_stealth_129 rfl ?_
    refine r_ishl hK d_M_stealth_131 ?_
    refine r_goto (tgt := 136) hK d_M_stealth_132 rfl ?_
    refine r_ior hK d_M_stealth_136 ?_
    refine st_i_5_8 hK d_M_stealth_137 h4 ?_
    first | refine iN_6_8 hK d_M_stealth_139 trivial ?_ | refine ii_6_1_8 hK d_M_stealth_139 trivial ?_
    refine r_goto (tgt := 55) hK d_M_stealth_142 rfl ?_
    exact kk
theorem c_M_stealth {E : gX} {S : Nat} {G : gG} {Q : Option Value → gG → Prop} {c : Nat} {f w : Nat → Int32} {A : Nat → Nat → Int32} {st : Bool} {nw : Nat → Int32} {ac : Nat → Nat → Int32} {na : Nat} {ik : Nat → Bool} {im : Nat → Nat → Int32} {rp : Nat → Bool} {rl : Nat → Int32} {rs : Nat → Nat} {ri : Nat → Nat → Int32} {tp : Nat → Int32} {tn : Nat} {lf : Int32} {fd : Int32} {tr : Nat → Int32} {un : Nat} (hM : MV G c f w A) (hS : MS f w A (st, nw, ac, na, ik, im, rp, rl, rs, ri, tp, tn, lf, fd, tr, un)) (hI : MI (st, nw, ac, na, ik, im, rp, rl, rs, ri, tp, tn, lf, fd, tr, un)) {r i m : Int32} (hQ : ∀ G' : gG, MR G' c (opStealth (st, nw, ac, na, ik, im, rp, rl, rs, ri, tp, tn, lf, fd, tr, un) r i m).2 → Frm G G' c 10 → Q (some (.int (opStealth (st, nw, ac, na, ik, im, rp, rl, rs, ri, tp, tn, lf, fd, tr, un) r i m).1)) G') : Runs E y_M_stealth 6 0 S [.ref c, .int r, .int i, .int m] G Q := by
  refine Runs.of "ClockPostModel" [some (.ref c), some (.int r), some (.int i), some (.int m), none, none, none, none] cw_M_stealth (by decide) (by decide +kernel) rfl (Nat.le_of_ble_eq_true rfl) rfl (fun K hK => ?_)
  obtain ⟨w0, hw0⟩ : ∃ x, w = putT x 0 nw := ⟨_, hS.t0⟩
  subst hw0
  obtain ⟨n, hV⟩ := hI.1
  have h6 := hV.1
  have hz0 : putT w0 0 nw 0 = nI n := (hS.2.2.2.2.2.2.1 0 (by omega)).trans hV.2.1
  have hM0 := hM
  obtain ⟨w1, hw1⟩ : ∃ x, putT w0 0 nw = putT (putT w0 0 nw) 972 x := ⟨_, putT_id⟩
  rw [hw1] at hM
  refine r_aload_n hK d_M_stealth_0 rfl ?_
  refine r_get hK lf_M_130 d_M_stealth_1 (hM.1) rfl ?_
  rw [hS.1]
  refine r_if_ne (tgt := 10) hK d_M_stealth_4 rfl (fun h4 => ?_) (fun h4 => ?_)
  · skip
    have hst : st = true := bI_n0.mp h4
    subst hst
    refine r_iload_n hK d_M_stealth_10 rfl ?_
    refine r_s1 (k' := 2) hK lm_M_49 d_M_stealth_11 (by decide) (Nat.le_of_ble_eq_true rfl) ?_
    refine c_M_isRow (kc_s ?_)
    refine r_if_eq (tgt := 29) hK d_M_stealth_14 rfl (fun h14 => ?_) (fun h14 => ?_)
    · skip
      have hb := bI_0.mp h14
      rw [opStealth, hb, Bool.false_and, if_neg (by decide)] at hQ
      refine r_ldc hK d_M_stealth_29 lc_M_55 ?_
      refine r_iret hK rfl rfl d_M_stealth_31 ?_
      exact hQ _ ⟨_, _, _, hM0, hS⟩ Frm.rf
    · skip
      have hb := bI_n0.mp h14
      refine r_iload_n hK d_M_stealth_17 rfl ?_
      refine r_i2l hK d_M_stealth_18 ?_
      refine r_lconst (v := 1) hK d_M_stealth_19 rfl ?_
      refine r_ldc2 hK d_M_stealth_20 lc_M_225 ?_
      refine r_s3 (k' := 1) hK lm_M_45 d_M_stealth_23 (by decide) (Nat.le_of_ble_eq_true rfl) ?_
      refine c_M_in (a := 1) (b := 16) (by decide) (by decide) (kc_s ?_)
      refine r_if_ne (tgt := 32) hK d_M_stealth_26 rfl (fun h26 => ?_) (fun h26 => ?_)
      · skip
        have hc := bI_n0.mp h26
        rw [opStealth, hb, hc, if_pos (by decide)] at hQ
        obtain ⟨j, hj, rfl⟩ := inB_7 hb
        have hs := hI.2.2.2.2.1 j hj
        rw [nN_nI (by omega)] at hQ
        refine r_aload_n hK d_M_stealth_32 rfl ?_
        refine r_iload_n hK d_M_stealth_33 rfl ?_
        refine r_iload_n hK d_M_stealth_34 rfl ?_
        refine r_iload_n hK d_M_stealth_35 rfl ?_
        refine r_v3 (k' := 2) hK lm_M_227 d_M_stealth_36 ⟨_, hM.1⟩ (by decide) (Nat.le_of_ble_eq_true rfl) ?_
        refine c_M_noItems hM0 hS hj hs (fun G36 h36 => kc_s ?_)
        refine st_i_4_8 hK d_M_stealth_39 trivial ?_
        refine r_iload hK d_M_stealth_41 rfl ?_
        refine r_if_eq (tgt := 49) hK d_M_stealth_43 rfl (fun h43 => ?_) (fun h43 => ?_)
        · skip
          have hf : flw (rp j) (rs j) i m = 0 := by
            rcases flw_c (p := rp j) (z := rs j) (i := i) (n := m) with e | e | e
            · exact e
            · rw [e] at h43; exact absurd h43 (by decide)
            · rw [e] at h43; exact absurd h43 (by decide)
          rw [if_pos hf] at h36 hQ ⊢
          subst h36
          obtain ⟨hp, hP⟩ := flw_0 hf
          have hP := (hasP_iff hs).mp hP
          obtain ⟨e, he, rfl⟩ := nI_of (x := i) (by rw [i_lt, ti_0]; omega)
          obtain ⟨q, hq, rfl⟩ := nI_of (x := m) (by rw [i_lt, ti_0]; omega)
          rw [nI_toInt he, nI_toInt hq] at hP
          rw [nN_nI hq] at hQ
          have hg := (hS.2.2.2.2.2.2.2.2.2.2.2.1 j hj hp).2
          refine r_iconst hK d_M_stealth_49 kc_0 ?_
          refine st_i_5_8 hK d_M_stealth_50 trivial ?_
          refine r_iconst hK d_M_stealth_52 kc_0 ?_
          refine st_i_6_8 hK d_M_stealth_53 trivial ?_
          obtain ⟨R, hR⟩ : ∃ R : Nat → Bool, ∀ t, R t = ((decide (t = 6) || behB nw (nI t)) && tld (ri j) (rs j) (nI e) q 0 (wtV nw (1 <<< (nI t &&& 31)))) := ⟨_, fun _ => rfl⟩
          rw [hV.nN, st_fin hV hR] at hQ
          suffices L : ∀ t, t ≤ 7 → ∀ (G1 : gG) (u : Nat → Int32) (a7 : Option Value), MV G1 c f (putT (putT w0 0 nw) 972 u) A → Frm G36 G1 c 10 → K 55 [some (.ref c), some (.int (nI j)), some (.int (nI e)), some (.int (nI q)), some (.int 0), some (.int (mS R t)), some (.int (nI t)), a7] [] S G1 from L 0 (by omega) _ _ _ hM Frm.rf
          clear hM
          refine lpN 7 (fun t ht ih G1 u a7 hM hF => ?_)
          refine r_iload hK d_M_stealth_55 rfl ?_
          refine r_bipush hK d_M_stealth_57 kb_7 ?_
          refine r_icmp_ge (tgt := 145) hK d_M_stealth_59 rfl (fun h59 => ?_) (fun h59 => ?_)
          · skip
            have hq7 : t = 7 := by have := (cle (n := 7) (by decide) (by omega)).mp h59; omega
            subst hq7
            refine r_aload_n hK d_M_stealth_145 rfl ?_
            refine r_iload hK d_M_stealth_146 rfl ?_
            refine r_v1 (k' := 1) hK lm_M_60 d_M_stealth_148 ⟨_, hM.1⟩ (by decide) (Nat.le_of_ble_eq_true rfl) ?_
            refine c_M_well hM (fun G148 hM f148 => kc_s ?_)
            refine r_iret hK rfl rfl d_M_stealth_151 ?_
            exact hQ _ ⟨_, _, _, hM, (hS.sT hI.2.2.2.1).sfd⟩ (hF.tr f148)
          · skip
            have hq7 : t < 7 := Nat.not_le.mp (fun q => h59 ((cle (n := 7) (by decide) (by omega)).mpr q))
            refine r_aload_n hK d_M_stealth_62 rfl ?_
            refine r_v0 (k' := 2) hK lm_M_188 d_M_stealth_63 ⟨_, hM.1⟩ (by decide) (Nat.le_of_ble_eq_true rfl) ?_
            refine l_trd hM (fun G63 hM f63 => kc_n ?_)
            have hF := hF.tr f63
            refine r_aload_n hK d_M_stealth_66 rfl ?_
            refine r_get hK lf_M_7 d_M_stealth_67 (hM.1) rfl ?_
            refine r_sipush hK d_M_stealth_70 ks_975 ?_
            refine r_dup2 hK d_M_stealth_73 rfl rfl ?_
            refine g_tw (B := 972) (j := 3) hK d_M_stealth_74 hM ((show _ = nI (972 + 3) from rfl)) (by omega) (by omega) ?_
            refine r_iconst hK d_M_stealth_75 kc_1 ?_
            refine r_iload hK d_M_stealth_76 rfl ?_
            refine r_ishl hK d_M_stealth_78 ?_
            refine r_iconst hK d_M_stealth_79 kc_m1 ?_
            refine r_ixor hK d_M_stealth_80 ?_
            refine r_iand hK d_M_stealth_81 ?_
            refine s_tw (B := 972) (j := 3) hK d_M_stealth_82 hM ((show _ = nI (972 + 3) from rfl)) (by omega) (by omega) (fun G82 hM f82 => ?_)
            have hF := hF.tr f82
            rw [← wt_aw] at hM
            refine r_iload hK d_M_stealth_83 rfl ?_
            refine r_bipush hK d_M_stealth_85 kb_6 ?_
            refine r_icmp_eq (tgt := 104) hK d_M_stealth_87 rfl (fun h87 => ?_) (fun h87 => ?_)
            · skip
              have h6t : t = 6 := (eqc (n := 6) (by decide) (by omega)).mp h87
              have hor : (decide (t = 6) || behB nw (nI t)) = true := by simp [h6t]
              refine r_aload_n hK d_M_stealth_104 rfl ?_
              refine r_iload_n hK d_M_stealth_105 rfl ?_
              refine r_iload_n hK d_M_stealth_106 rfl ?_
              refine r_iload_n hK d_M_stealth_107 rfl ?_
              refine r_v3 (k' := 5) hK lm_M_231 d_M_stealth_108 ⟨_, hM.1⟩ (by decide) (Nat.le_of_ble_eq_true rfl) ?_
              refine c_M_isSo hM (hV.wt hq7) hj hs (by omega) hg (fun G108 u108 hM f108 => kc_s ?_)
              have hF := hF.tr f108
              refine r_if_eq (tgt := 118) hK d_M_stealth_111 rfl (fun h111 => ?_) (fun h111 => ?_)
              · skip
                have hx : (0 : Int32) = bI (R t) := by rw [hR, bI_0.mp h111, Bool.and_false]; rfl
                refine r_iconst hK d_M_stealth_118 kc_0 ?_
                exact fr_stealth hK hx (ih hq7 _ _ _ hM hF) trivial
              · skip
                have hx : (1 : Int32) = bI (R t) := by rw [hR, bI_n0.mp h111, Bool.and_true, hor]; rfl
                refine r_iconst hK d_M_stealth_114 kc_1 ?_
                refine r_goto (tgt := 119) hK d_M_stealth_115 rfl ?_
                exact fr_stealth hK hx (ih hq7 _ _ _ hM hF) trivial
            · skip
              have h6t : ¬ t = 6 := fun z => h87 ((eqc (n := 6) (by decide) (by omega)).mpr z)
              refine r_aload_n hK d_M_stealth_90 rfl ?_
              refine r_get hK lf_M_7 d_M_stealth_91 (hM.1) rfl ?_
              refine r_iconst hK d_M_stealth_94 kc_3 ?_
              refine g_lo (j := 3) hK d_M_stealth_95 hM (rfl) (by omega) (by omega) ?_
              rw [hS.2.2.2.2.2.2.1 3 (by omega)]
              refine r_iload hK d_M_stealth_96 rfl ?_
              refine r_s2 (k' := 1) hK lm_M_138 d_M_stealth_98 (by decide) (Nat.le_of_ble_eq_true rfl) ?_
              refine c_M_has (kc_s ?_)
              refine r_if_eq (tgt := 118) hK d_M_stealth_101 rfl (fun h101 => ?_) (fun h101 => ?_)
              · skip
                have hx : (0 : Int32) = bI (R t) := by rw [hR, decide_eq_false h6t, Bool.false_or, hV.b2 (by omega), bI_0.mp h101]; rfl
                refine r_iconst hK d_M_stealth_118 kc_0 ?_
                exact fr_stealth hK hx (ih hq7 _ _ _ hM hF) trivial
              · skip
                have hor : (decide (t = 6) || behB nw (nI t)) = true := by rw [hV.b2 (by omega), bI_n0.mp h101, Bool.or_true]
                refine r_aload_n hK d_M_stealth_104 rfl ?_
                refine r_iload_n hK d_M_stealth_105 rfl ?_
                refine r_iload_n hK d_M_stealth_106 rfl ?_
                refine r_iload_n hK d_M_stealth_107 rfl ?_
                refine r_v3 (k' := 5) hK lm_M_231 d_M_stealth_108 ⟨_, hM.1⟩ (by decide) (Nat.le_of_ble_eq_true rfl) ?_
                refine c_M_isSo hM (hV.wt hq7) hj hs (by omega) hg (fun G108 u108 hM f108 => kc_s ?_)
                have hF := hF.tr f108
                refine r_if_eq (tgt := 118) hK d_M_stealth_111 rfl (fun h111 => ?_) (fun h111 => ?_)
                · skip
                  have hx : (0 : Int32) = bI (R t) := by rw [hR, bI_0.mp h111, Bool.and_false]; rfl
                  refine r_iconst hK d_M_stealth_118 kc_0 ?_
                  exact fr_stealth hK hx (ih hq7 _ _ _ hM hF) trivial
                · skip
                  have hx : (1 : Int32) = bI (R t) := by rw [hR, bI_n0.mp h111, Bool.and_true, hor]; rfl
                  refine r_iconst hK d_M_stealth_114 kc_1 ?_
                  refine r_goto (tgt := 119) hK d_M_stealth_115 rfl ?_
                  exact fr_stealth hK hx (ih hq7 _ _ _ hM hF) trivial
        · skip
          have hf : ¬ flw (rp j) (rs j) i m = 0 := fun e => h43 (by rw [if_pos e])
          rw [if_neg hf] at h36 hQ ⊢
          refine r_iload hK d_M_stealth_46 rfl ?_
          refine r_iret hK rfl rfl d_M_stealth_48 ?_
          exact hQ _ ⟨_, _, _, h36.1, hS.sfd⟩ h36.2
      · skip
        have hc := bI_0.mp h26
        rw [opStealth, hc, Bool.and_false, if_neg (by decide)] at hQ
        refine r_ldc hK d_M_stealth_29 lc_M_55 ?_
        refine r_iret hK rfl rfl d_M_stealth_31 ?_
        exact hQ _ ⟨_, _, _, hM0, hS⟩ Frm.rf
  · skip
    have hst : st = false := bI_0.mp h4
    subst hst
    rw [opStealth, if_neg (by cases inB r 0 7 <;> cases inB m 1 16 <;> decide)] at hQ
    refine r_ldc hK d_M_stealth_7 lc_M_137 ?_
    refine r_iret hK rfl rfl d_M_stealth_9 ?_
    exact hQ _ ⟨_, _, _, hM0, hS⟩ Frm.rf
