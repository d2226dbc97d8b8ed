def RL (u v : Nat → Int32) (n : Nat) : Prop := n ≤ 6 ∧ u 0 = nI n ∧ v 0 = nI n ∧ (∀ k, k < 36 → k ≠ 3 → u k = v k) ∧ (∀ j, j < 6 → u (30 + j) = 0) ∧ v 3 = nI (2 ^ n - 1) ∧ Vk v n
theorem rNum_in {f : Nat → Int32} {m p : Nat} {lo hi : Int32} (h : (rNum f m lo hi p).1 = 0) : inB (rNum f m lo hi p).2.2 lo hi = true := by
  unfold rNum at h ⊢
  split at h
  · rename_i a
    rw [if_pos a]
    split at h
    · rename_i b; rw [if_pos b]; exact b
    · exact absurd (show (2 : Int32) = 0 from h) (by decide)
  · exact absurd (show (1 : Int32) = 0 from h) (by decide)
theorem knd_b {x : Int32} (h : ¬ knd x = 0) : (knd x).toInt ≤ 5 ∧ 1 ≤ (knd x).toInt := by
  unfold knd at h ⊢
  repeat' split at h
  all_goals first
    | (simp only [*, if_true, if_false]; decide)
    | exact absurd rfl h
theorem bit_s : ∀ n, n < 6 → nI (2 ^ n - 1) ||| (1 <<< (nI n &&& 31)) = nI (2 ^ (n + 1) - 1) := by decide +kernel
theorem pw_lt : ∀ n, n ≤ 6 → 2 ^ n - 1 < 2 ^ n := by decide
theorem RL.add {u v : Nat → Int32} {n : Nat} {k a b c : Int32} (h : RL u v n) (hn : n < 6) (hk : k.toInt ≤ 5 ∧ 1 ≤ k.toInt) (ha : inB a 0 9 = true) (hb : inB b 1 9 = true) : RL (upd (upd (upd (upd (upd u (6 + n) k) (12 + n) a) (18 + n) b) (24 + n) c) 0 (nI (n + 1))) (addL v k a b c) (n + 1) := by
  obtain ⟨h6, hu, hv, he, hz, h3', hV⟩ := h
  have hnn : nN (v 0) = n := by rw [hv]; exact nN_nI (by omega)
  refine ⟨by omega, upd_s, by show v 0 + 1 = _; rw [hv]; exact nI_1 n, fun q hq h3 => ?_, fun j hj => ?_, by show v 3 ||| (1 <<< (v 0 &&& 31)) = _; rw [h3', hv]; exact bit_s n hn, by omega, by show v 0 + 1 = _; rw [hv]; exact nI_1 n, ⟨2 ^ (n + 1) - 1, pw_lt _ (by omega), by show v 3 ||| (1 <<< (v 0 &&& 31)) = _; rw [h3', hv]; exact bit_s n hn⟩, fun j hj => ?_⟩
  · unfold addL
    rw [hnn]
    by_cases z0 : q = 0
    · subst z0; rw [upd_s, upd_s, hv]; exact (nI_1 n).symm
    rw [upd_n z0, upd_n z0, upd_n h3]
    by_cases z1 : q = 24 + n
    · subst z1; rw [upd_s, upd_s]
    rw [upd_n z1, upd_n z1]
    by_cases z2 : q = 18 + n
    · subst z2; rw [upd_s, upd_s]
    rw [upd_n z2, upd_n z2]
    by_cases z3 : q = 12 + n
    · subst z3; rw [upd_s, upd_s]
    rw [upd_n z3, upd_n z3]
    by_cases z4 : q = 30 + n
    · subst z4; rw [upd_s, upd_n (by omega)]; exact hz n hn
    rw [upd_n z4]
    by_cases z5 : q = 6 + n
    · subst z5; rw [upd_s, upd_s]
    rw [upd_n z5, upd_n z5]
    exact he q hq h3
  · rw [upd_n (by omega), upd_n (by omega), upd_n (by omega), upd_n (by omega), upd_n (by omega)]
    exact hz j hj
  · simp only [inB, Bool.and_eq_true, decide_eq_true_eq, i_le, ti_0, ti_1, ti_9] at ha hb
    unfold addL
    rw [hnn]
    by_cases e : j = n
    · subst e
      have e1 : ∀ x y, upd (upd (upd (upd (upd (upd (upd v (6 + j) k) (30 + j) 0) (12 + j) a) (18 + j) b) (24 + j) c) 3 x) 0 y (12 + j) = a := fun x y => by rw [upd_n (by omega), upd_n (by omega), upd_n (by omega), upd_n (by omega), upd_s]
      have e2 : ∀ x y, upd (upd (upd (upd (upd (upd (upd v (6 + j) k) (30 + j) 0) (12 + j) a) (18 + j) b) (24 + j) c) 3 x) 0 y (6 + j) = k := fun x y => by rw [upd_n (by omega), upd_n (by omega), upd_n (by omega), upd_n (by omega), upd_n (by omega), upd_n (by omega), upd_s]
      have e3 : ∀ x y, upd (upd (upd (upd (upd (upd (upd v (6 + j) k) (30 + j) 0) (12 + j) a) (18 + j) b) (24 + j) c) 3 x) 0 y (18 + j) = b := fun x y => by rw [upd_n (by omega), upd_n (by omega), upd_n (by omega), upd_s]
      have e4 : ∀ x y, upd (upd (upd (upd (upd (upd (upd v (6 + j) k) (30 + j) 0) (12 + j) a) (18 + j) b) (24 + j) c) 3 x) 0 y (30 + j) = 0 := fun x y => by rw [upd_n (by omega), upd_n (by omega), upd_n (by omega), upd_n (by omega), upd_n (by omega), upd_s]
      rw [e1, e2, e3, e4]
      exact ⟨⟨⟨by omega, by omega⟩, hk⟩, ⟨by omega, by omega⟩, by decide, by decide⟩
    · have e5 : ∀ x y q, (q = 12 + j ∨ q = 6 + j ∨ q = 18 + j ∨ q = 30 + j) → upd (upd (upd (upd (upd (upd (upd v (6 + n) k) (30 + n) 0) (12 + n) a) (18 + n) b) (24 + n) c) 3 x) 0 y q = v q := fun x y q hq => by rw [upd_n (by omega), upd_n (by omega), upd_n (by omega), upd_n (by omega), upd_n (by omega), upd_n (by omega), upd_n (by omega)]
      rw [e5 _ _ (12 + j) (by omega), e5 _ _ (6 + j) (by omega), e5 _ _ (18 + j) (by omega), e5 _ _ (30 + j) (by omega)]
      exact hV.2.2.2 j (by omega)
theorem c_M_readsLetter {E : gX} {S : Nat} {G : gG} {Q : Option Value → gG → Prop} {c m p n : Nat} {f w u v tp : Nat → Int32} {A : Nat → Nat → Int32} (hP : PM G c f (putT w 972 u) A tp m p) (hRL : RL u v n) (hk : ¬ knd (bt tp m p) = 0) (hQ : ∀ (G' : gG) (f' u' : Nat → Int32), PM G' c f' (putT w 972 u') A tp m ((rLet tp m p v).2.1) → fE f f' → (¬ (rLet tp m p v).1 = 0 → f' 14 = (rLet tp m p v).1) → ((rLet tp m p v).1 = 0 → RL u' (rLet tp m p v).2.2 (n + 1)) → Frm G G' c 10 → Q (some (.int (bI (zB ((rLet tp m p v).1))))) G') : Runs E y_M_readsLetter 4 0 S [.ref c] G Q := by
  refine Runs.of "ClockPostModel" [some (.ref c), none] cw_M_readsLetter (by decide) (by decide +kernel) rfl (Nat.le_of_ble_eq_true rfl) rfl (fun K hK => ?_)
  have hn := hRL.1
  have hu0 := hRL.2.1
  have hv0 := hRL.2.2.1
  have hpm : p < m := Classical.byContradiction fun q => hk (by rw [bt_ge q]; decide)
  refine r_aload_n hK d_M_readsLetter_0 rfl ?_
  obtain ⟨hM, h8l, h13, hp, hm, hT, hTb⟩ := hP
  refine r_get hK lf_M_7 d_M_readsLetter_1 (hM.1) rfl ?_
  refine r_sipush hK d_M_readsLetter_4 ks_972 ?_
  refine g_tw (B := 972) (j := 0) hK d_M_readsLetter_7 hM ((show _ = nI (972 + 0) from rfl)) (by omega) (by omega) ?_
  rw [hu0]
  refine st_in_1_2 hK d_M_readsLetter_8 trivial ?_
  refine r_iload_n hK d_M_readsLetter_9 rfl ?_
  refine r_bipush hK d_M_readsLetter_10 kb_6 ?_
  refine r_icmp_ne (tgt := 21) hK d_M_readsLetter_12 rfl (fun h12 => ?_) (fun h12 => ?_)
  · skip
    have hn6 : n < 6 := by
      have : n ≠ 6 := fun q => h12 (by rw [q]; rfl)
      omega
    obtain ⟨R, hRe⟩ : ∃ R, R = rFig tp m (p + 1) := ⟨_, rfl⟩
    have hL : rLet tp m p v = if ¬ R.1 = 0 then (R.1, R.2.1, v) else (0, R.2.1, addL v (knd (bt tp m p)) R.2.2.1 R.2.2.2.1 R.2.2.2.2) := by
      rw [rLet, if_neg hk, if_neg (by rw [hv0, cle (n := 6) (by decide) (by omega)]; omega), ← hRe]
    rw [rFig] at hRe
    refine r_aload_n hK d_M_readsLetter_21 rfl ?_
    refine r_get hK lf_M_7 d_M_readsLetter_22 (hM.1) rfl ?_
    refine r_sipush hK d_M_readsLetter_25 ks_978 ?_
    refine r_iload_n hK d_M_readsLetter_28 rfl ?_
    refine r_iadd hK d_M_readsLetter_29 ?_
    refine r_aload_n hK d_M_readsLetter_30 rfl ?_
    refine r_get hK lf_M_26 d_M_readsLetter_31 (hM.1) rfl ?_
    refine r_aload_n hK d_M_readsLetter_34 rfl ?_
    refine r_get hK lf_M_77 d_M_readsLetter_35 (hM.1) rfl ?_
    rw [h13]
    refine g_a6 (j := p) hK d_M_readsLetter_38 hM rfl (by omega) ?_
    rw [hT p hpm, ← bt_lt (tp := tp) hpm]
    refine r_s1 (k' := 1) hK lm_M_106 d_M_readsLetter_39 (by decide) (Nat.le_of_ble_eq_true rfl) ?_
    refine c_M_kindOfLetter (kc_s ?_)
    refine s_tw (B := 972) (j := 6 + n) hK d_M_readsLetter_42 hM (Eq.trans (ix0 (c := 978) rfl) (congrArg nI (by omega))) (by omega) (by omega) (fun G42 hM f42 => ?_)
    have hF : Frm G G42 c 10 := f42
    refine r_aload_n hK d_M_readsLetter_43 rfl ?_
    refine r_dup hK d_M_readsLetter_44 rfl ?_
    refine r_get hK lf_M_77 d_M_readsLetter_45 (hM.1) rfl ?_
    rw [h13]
    refine r_iconst hK d_M_readsLetter_48 kc_1 ?_
    refine r_iadd hK d_M_readsLetter_49 ?_
    rw [nI_1]
    refine p_M_at hK lf_M_77 d_M_readsLetter_50 hM (fun G50 hM f50 => ?_)
    have hF := hF.tr f50
    have hE : fE f (upd f 13 (nI (p + 1))) := fE.up (by omega)
    have hP := (⟨hM, by rw [upd_n (by omega)]; exact h8l, upd_s, by omega, hm, hT, hTb⟩ : PM G50 c (upd f 13 (nI (p + 1))) (putT w 972 (upd u (6 + n) (knd (bt tp m p)))) A tp m (p + 1))
    clear hM
    refine r_aload_n hK d_M_readsLetter_53 rfl ?_
    refine r_iconst hK d_M_readsLetter_54 kc_0 ?_
    refine r_bipush hK d_M_readsLetter_55 kb_9 ?_
    refine r_v2 (k' := 3) hK lm_M_102 d_M_readsLetter_57 ⟨_, hP.1.1⟩ (by decide) (Nat.le_of_ble_eq_true rfl) ?_
    refine c_M_readsNumber (lo := 0) (hi := 9) hP (fun G57 f57 hP e57 w57 n57 g57 => kc_s ?_)
    have hE := hE.tr e57
    have hF := hF.tr g57
    refine r_if_ne (tgt := 65) hK d_M_readsLetter_60 rfl (fun h60 => ?_) (fun h60 => ?_)
    · skip
      have z60 : (rNum tp m 0 9 (p + 1)).1 = 0 := zB_t.mp (bI_n0.mp h60)
      rw [if_neg (fun q => q z60)] at hRe
      refine r_aload_n hK d_M_readsLetter_65 rfl ?_
      obtain ⟨hM, h8l, h13, hp, hm, hT, hTb⟩ := hP
      refine r_get hK lf_M_7 d_M_readsLetter_66 (hM.1) rfl ?_
      refine r_sipush hK d_M_readsLetter_69 ks_984 ?_
      refine r_iload_n hK d_M_readsLetter_72 rfl ?_
      refine r_iadd hK d_M_readsLetter_73 ?_
      refine r_aload_n hK d_M_readsLetter_74 rfl ?_
      refine r_get hK lf_M_96 d_M_readsLetter_75 (hM.1) rfl ?_
      rw [n57 z60]
      refine s_tw (B := 972) (j := 12 + n) hK d_M_readsLetter_78 hM (Eq.trans (ix0 (c := 984) rfl) (congrArg nI (by omega))) (by omega) (by omega) (fun G78 hM f78 => ?_)
      have hF := hF.tr f78
      have hP := (⟨hM, h8l, h13, hp, hm, hT, hTb⟩ : PM G78 c f57 (putT w 972 (upd (upd u (6 + n) (knd (bt tp m p))) (12 + n) (rNum tp m 0 9 (p + 1)).2.2)) A tp m _)
      refine r_aload_n hK d_M_readsLetter_79 rfl ?_
      refine r_bipush hK d_M_readsLetter_80 kb_44 ?_
      refine r_v1 (k' := 2) hK lm_M_99 d_M_readsLetter_82 ⟨_, hP.1.1⟩ (by decide) (Nat.le_of_ble_eq_true rfl) ?_
      refine c_M_sign (x := 44) hP (by decide) (fun G82 f82 hP e82 w82 g82 => kc_s ?_)
      have hE := hE.tr e82
      have hF := hF.tr g82
      refine r_if_eq (tgt := 98) hK d_M_readsLetter_85 rfl (fun h85 => ?_) (fun h85 => ?_)
      · skip
        have z85 : ¬ (rSign tp m 44 (rNum tp m 0 9 (p + 1)).2.1).1 = 0 := zB_f.mp (bI_0.mp h85)
        rw [if_pos z85] at hRe
        have e : rLet tp m p v = ((rSign tp m 44 (rNum tp m 0 9 (p + 1)).2.1).1, (rSign tp m 44 (rNum tp m 0 9 (p + 1)).2.1).2, v) := by rw [hL, hRe]; exact if_pos z85
        rw [e] at hQ
        refine r_iconst hK d_M_readsLetter_98 kc_0 ?_
        refine r_zret hK rfl (rfl) rfl d_M_readsLetter_99 ?_
        first | exact rc (hQ _ _ _ hP hE (fun _ => w82 z85) (fun q => absurd q z85) hF) (zB_0 z85) | exact rc (hQ _ _ _ hP hE (fun _ => w92 z95) (fun q => absurd q z95) hF) (zB_0 z95)
      · skip
        have z85 : (rSign tp m 44 (rNum tp m 0 9 (p + 1)).2.1).1 = 0 := zB_t.mp (bI_n0.mp h85)
        rw [if_neg (fun q => q z85)] at hRe
        refine r_aload_n hK d_M_readsLetter_88 rfl ?_
        refine r_iconst hK d_M_readsLetter_89 kc_1 ?_
        refine r_bipush hK d_M_readsLetter_90 kb_9 ?_
        refine r_v2 (k' := 3) hK lm_M_102 d_M_readsLetter_92 ⟨_, hP.1.1⟩ (by decide) (Nat.le_of_ble_eq_true rfl) ?_
        refine c_M_readsNumber (lo := 1) (hi := 9) hP (fun G92 f92 hP e92 w92 n92 g92 => kc_s ?_)
        have hE := hE.tr e92
        have hF := hF.tr g92
        refine r_if_ne (tgt := 100) hK d_M_readsLetter_95 rfl (fun h95 => ?_) (fun h95 => ?_)
        · skip
          have z95 : (rNum tp m 1 9 (rSign tp m 44 (rNum tp m 0 9 (p + 1)).2.1).2).1 = 0 := zB_t.mp (bI_n0.mp h95)
          rw [if_neg (fun q => q z95)] at hRe
          refine r_aload_n hK d_M_readsLetter_100 rfl ?_
          obtain ⟨hM, h8l, h13, hp, hm, hT, hTb⟩ := hP
          refine r_get hK lf_M_7 d_M_readsLetter_101 (hM.1) rfl ?_
          refine r_sipush hK d_M_readsLetter_104 ks_990 ?_
          refine r_iload_n hK d_M_readsLetter_107 rfl ?_
          refine r_iadd hK d_M_readsLetter_108 ?_
          refine r_aload_n hK d_M_readsLetter_109 rfl ?_
          refine r_get hK lf_M_96 d_M_readsLetter_110 (hM.1) rfl ?_
          rw [n92 z95]
          refine s_tw (B := 972) (j := 18 + n) hK d_M_readsLetter_113 hM (Eq.trans (ix0 (c := 990) rfl) (congrArg nI (by omega))) (by omega) (by omega) (fun G113 hM f113 => ?_)
          have hF := hF.tr f113
          have hP := (⟨hM, h8l, h13, hp, hm, hT, hTb⟩ : PM G113 c f92 (putT w 972 (upd (upd (upd u (6 + n) (knd (bt tp m p))) (12 + n) (rNum tp m 0 9 (p + 1)).2.2) (18 + n) (rNum tp m 1 9 (rSign tp m 44 (rNum tp m 0 9 (p + 1)).2.1).2).2.2)) A tp m _)
          refine r_aload_n hK d_M_readsLetter_114 rfl ?_
          refine r_bipush hK d_M_readsLetter_115 kb_44 ?_
          refine r_v1 (k' := 2) hK lm_M_99 d_M_readsLetter_117 ⟨_, hP.1.1⟩ (by decide) (Nat.le_of_ble_eq_true rfl) ?_
          refine c_M_sign (x := 44) hP (by decide) (fun G117 f117 hP e117 w117 g117 => kc_s ?_)
          have hE := hE.tr e117
          have hF := hF.tr g117
          refine r_if_eq (tgt := 133) hK d_M_readsLetter_120 rfl (fun h120 => ?_) (fun h120 => ?_)
          · skip
            have z120 : ¬ (rSign tp m 44 (rNum tp m 1 9 (rSign tp m 44 (rNum tp m 0 9 (p + 1)).2.1).2).2.1).1 = 0 := zB_f.mp (bI_0.mp h120)
            rw [if_pos z120] at hRe
            have e : rLet tp m p v = ((rSign tp m 44 (rNum tp m 1 9 (rSign tp m 44 (rNum tp m 0 9 (p + 1)).2.1).2).2.1).1, (rSign tp m 44 (rNum tp m 1 9 (rSign tp m 44 (rNum tp m 0 9 (p + 1)).2.1).2).2.1).2, v) := by rw [hL, hRe]; exact if_pos z120
            rw [e] at hQ
            refine r_iconst hK d_M_readsLetter_133 kc_0 ?_
            refine r_zret hK rfl (rfl) rfl d_M_readsLetter_134 ?_
            first | exact rc (hQ _ _ _ hP hE (fun _ => w117 z120) (fun q => absurd q z120) hF) (zB_0 z120) | exact rc (hQ _ _ _ hP hE (fun _ => w127 z130) (fun q => absurd q z130) hF) (zB_0 z130)
          · skip
            have z120 : (rSign tp m 44 (rNum tp m 1 9 (rSign tp m 44 (rNum tp m 0 9 (p + 1)).2.1).2).2.1).1 = 0 := zB_t.mp (bI_n0.mp h120)
            rw [if_neg (fun q => q z120)] at hRe
            refine r_aload_n hK d_M_readsLetter_123 rfl ?_
            refine r_iconst hK d_M_readsLetter_124 kc_0 ?_
            refine r_bipush hK d_M_readsLetter_125 kb_9 ?_
            refine r_v2 (k' := 3) hK lm_M_102 d_M_readsLetter_127 ⟨_, hP.1.1⟩ (by decide) (Nat.le_of_ble_eq_true rfl) ?_
            refine c_M_readsNumber (lo := 0) (hi := 9) hP (fun G127 f127 hP e127 w127 n127 g127 => kc_s ?_)
            have hE := hE.tr e127
            have hF := hF.tr g127
            refine r_if_ne (tgt := 135) hK d_M_readsLetter_130 rfl (fun h130 => ?_) (fun h130 => ?_)
            · skip
              have z130 : (rNum tp m 0 9 (rSign tp m 44 (rNum tp m 1 9 (rSign tp m 44 (rNum tp m 0 9 (p + 1)).2.1).2).2.1).2).1 = 0 := zB_t.mp (bI_n0.mp h130)
              rw [if_neg (fun q => q z130)] at hRe
              refine r_aload_n hK d_M_readsLetter_135 rfl ?_
              obtain ⟨hM, h8l, h13, hp, hm, hT, hTb⟩ := hP
              refine r_get hK lf_M_7 d_M_readsLetter_136 (hM.1) rfl ?_
              refine r_sipush hK d_M_readsLetter_139 ks_996 ?_
              refine r_iload_n hK d_M_readsLetter_142 rfl ?_
              refine r_iadd hK d_M_readsLetter_143 ?_
              refine r_aload_n hK d_M_readsLetter_144 rfl ?_
              refine r_get hK lf_M_96 d_M_readsLetter_145 (hM.1) rfl ?_
              rw [n127 z130]
              refine s_tw (B := 972) (j := 24 + n) hK d_M_readsLetter_148 hM (Eq.trans (ix0 (c := 996) rfl) (congrArg nI (by omega))) (by omega) (by omega) (fun G148 hM f148 => ?_)
              have hF := hF.tr f148
              refine r_aload_n hK d_M_readsLetter_149 rfl ?_
              refine r_get hK lf_M_7 d_M_readsLetter_150 (hM.1) rfl ?_
              refine r_sipush hK d_M_readsLetter_153 ks_972 ?_
              refine r_dup2 hK d_M_readsLetter_156 rfl rfl ?_
              refine g_tw (B := 972) (j := 0) hK d_M_readsLetter_157 hM ((show _ = nI (972 + 0) from rfl)) (by omega) (by omega) ?_
              refine r_iconst hK d_M_readsLetter_158 kc_1 ?_
              refine r_iadd hK d_M_readsLetter_159 ?_
              rw [show (upd (upd (upd (upd u (6 + n) (knd (bt tp m p))) (12 + n) (rNum tp m 0 9 (p + 1)).2.2) (18 + n) (rNum tp m 1 9 (rSign tp m 44 (rNum tp m 0 9 (p + 1)).2.1).2).2.2) (24 + n) (rNum tp m 0 9 (rSign tp m 44 (rNum tp m 1 9 (rSign tp m 44 (rNum tp m 0 9 (p + 1)).2.1).2).2.1).2).2.2) 0 = nI n by rw [upd_n (by omega), upd_n (by omega), upd_n (by omega), upd_n (by omega)]; exact hu0, nI_1]
              refine s_tw (B := 972) (j := 0) hK d_M_readsLetter_160 hM ((show _ = nI (972 + 0) from rfl)) (by omega) (by omega) (fun G160 hM f160 => ?_)
              have hF := hF.tr f160
              have hP := (⟨hM, h8l, h13, hp, hm, hT, hTb⟩ : PM G160 c f127 (putT w 972 (upd (upd (upd (upd (upd u (6 + n) (knd (bt tp m p))) (12 + n) (rNum tp m 0 9 (p + 1)).2.2) (18 + n) (rNum tp m 1 9 (rSign tp m 44 (rNum tp m 0 9 (p + 1)).2.1).2).2.2) (24 + n) (rNum tp m 0 9 (rSign tp m 44 (rNum tp m 1 9 (rSign tp m 44 (rNum tp m 0 9 (p + 1)).2.1).2).2.1).2).2.2) 0 (nI (n + 1)))) A tp m _)
              refine r_aload_n hK d_M_readsLetter_161 rfl ?_
              refine r_bipush hK d_M_readsLetter_162 kb_59 ?_
              refine r_v1 (k' := 2) hK lm_M_99 d_M_readsLetter_164 ⟨_, hP.1.1⟩ (by decide) (Nat.le_of_ble_eq_true rfl) ?_
              refine c_M_sign (x := 59) hP (by decide) (fun G164 f164 hP e164 w164 g164 => kc_s ?_)
              have hE := hE.tr e164
              have hF := hF.tr g164
              refine r_zret hK rfl (bI_nar _) rfl d_M_readsLetter_167 ?_
              by_cases z : (rSign tp m 59 (rNum tp m 0 9 (rSign tp m 44 (rNum tp m 1 9 (rSign tp m 44 (rNum tp m 0 9 (p + 1)).2.1).2).2.1).2).2.1).1 = 0
              · have e : rLet tp m p v = (0, (rSign tp m 59 (rNum tp m 0 9 (rSign tp m 44 (rNum tp m 1 9 (rSign tp m 44 (rNum tp m 0 9 (p + 1)).2.1).2).2.1).2).2.1).2, addL v (knd (bt tp m p)) (rNum tp m 0 9 (p + 1)).2.2 (rNum tp m 1 9 (rSign tp m 44 (rNum tp m 0 9 (p + 1)).2.1).2).2.2 (rNum tp m 0 9 (rSign tp m 44 (rNum tp m 1 9 (rSign tp m 44 (rNum tp m 0 9 (p + 1)).2.1).2).2.1).2).2.2) := by rw [hL, hRe]; exact if_neg (fun q => q z)
                rw [e] at hQ
                rw [z]
                exact hQ _ _ _ hP hE (fun q => absurd rfl q) (fun _ => hRL.add hn6 (knd_b hk) (rNum_in z60) (rNum_in z95)) hF
              · have e : rLet tp m p v = ((rSign tp m 59 (rNum tp m 0 9 (rSign tp m 44 (rNum tp m 1 9 (rSign tp m 44 (rNum tp m 0 9 (p + 1)).2.1).2).2.1).2).2.1).1, (rSign tp m 59 (rNum tp m 0 9 (rSign tp m 44 (rNum tp m 1 9 (rSign tp m 44 (rNum tp m 0 9 (p + 1)).2.1).2).2.1).2).2.1).2, v) := by rw [hL, hRe]; exact if_pos z
                rw [e] at hQ
                exact hQ _ _ _ hP hE w164 (fun q => absurd q z) hF
            · skip
              have z130 : ¬ (rNum tp m 0 9 (rSign tp m 44 (rNum tp m 1 9 (rSign tp m 44 (rNum tp m 0 9 (p + 1)).2.1).2).2.1).2).1 = 0 := zB_f.mp (bI_0.mp h130)
              rw [if_pos z130] at hRe
              have e : rLet tp m p v = ((rNum tp m 0 9 (rSign tp m 44 (rNum tp m 1 9 (rSign tp m 44 (rNum tp m 0 9 (p + 1)).2.1).2).2.1).2).1, (rNum tp m 0 9 (rSign tp m 44 (rNum tp m 1 9 (rSign tp m 44 (rNum tp m 0 9 (p + 1)).2.1).2).2.1).2).2.1, v) := by rw [hL, hRe]; exact if_pos z130
              rw [e] at hQ
              refine r_iconst hK d_M_readsLetter_133 kc_0 ?_
              refine r_zret hK rfl (rfl) rfl d_M_readsLetter_134 ?_
              first | exact rc (hQ _ _ _ hP hE (fun _ => w117 z120) (fun q => absurd q z120) hF) (zB_0 z120) | exact rc (hQ _ _ _ hP hE (fun _ => w127 z130) (fun q => absurd q z130) hF) (zB_0 z130)
        · skip
          have z95 : ¬ (rNum tp m 1 9 (rSign tp m 44 (rNum tp m 0 9 (p + 1)).2.1).2).1 = 0 := zB_f.mp (bI_0.mp h95)
          rw [if_pos z95] at hRe
          have e : rLet tp m p v = ((rNum tp m 1 9 (rSign tp m 44 (rNum tp m 0 9 (p + 1)).2.1).2).1, (rNum tp m 1 9 (rSign tp m 44 (rNum tp m 0 9 (p + 1)).2.1).2).2.1, v) := by rw [hL, hRe]; exact if_pos z95
          rw [e] at hQ
          refine r_iconst hK d_M_readsLetter_98 kc_0 ?_
          refine r_zret hK rfl (rfl) rfl d_M_readsLetter_99 ?_
          first | exact rc (hQ _ _ _ hP hE (fun _ => w82 z85) (fun q => absurd q z85) hF) (zB_0 z85) | exact rc (hQ _ _ _ hP hE (fun _ => w92 z95) (fun q => absurd q z95) hF) (zB_0 z95)
    · skip
      have z60 : ¬ (rNum tp m 0 9 (p + 1)).1 = 0 := zB_f.mp (bI_0.mp h60)
      rw [if_pos z60] at hRe
      have e : rLet tp m p v = ((rNum tp m 0 9 (p + 1)).1, (rNum tp m 0 9 (p + 1)).2.1, v) := by rw [hL, hRe]; exact if_pos z60
      rw [e] at hQ
      refine r_iconst hK d_M_readsLetter_63 kc_0 ?_
      refine r_zret hK rfl (rfl) rfl d_M_readsLetter_64 ?_
      exact rc (hQ _ _ _ hP hE (fun _ => w57 z60) (fun q => absurd q z60) hF) (zB_0 z60)
  · skip
    have hn6 : n = 6 := (eqc (n := 6) (by decide) (by omega)).mp h12
    have e : rLet tp m p v = (3, p, v) := by rw [rLet, if_neg hk, if_pos (by rw [hv0, hn6]; decide)]
    rw [e] at hQ
    refine r_aload_n hK d_M_readsLetter_15 rfl ?_
    refine r_iconst hK d_M_readsLetter_16 kc_3 ?_
    refine r_v1 (k' := 1) hK lm_M_90 d_M_readsLetter_17 ⟨_, hM.1⟩ (by decide) (Nat.le_of_ble_eq_true rfl) ?_
    refine c_M_refuse hM (fun G17 hM f17 => kc_s ?_)
    refine r_zret hK rfl (rfl) rfl d_M_readsLetter_20 ?_
    exact hQ _ _ _ ⟨hM, by rw [upd_n (by omega)]; exact h8l, by rw [upd_n (by omega)]; exact h13, hp, hm, hT, hTb⟩ (fE.up (by omega)) (fun _ => upd_s) (fun q => absurd (show (3 : Int32) = 0 from q) (by decide)) f17
