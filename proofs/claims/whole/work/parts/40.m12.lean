theorem vv1 {f : Nat → Int32} {m p : Nat} : vvF f m p 1 = bt f m p - 48 := by
  show 0 * 10 + bt f m (p + 0) - 48 = _
  rw [Int32.zero_mul, Int32.zero_add, Nat.add_zero]
theorem vv2 {f : Nat → Int32} {m p : Nat} : vvF f m p 2 = 10 * (bt f m p - 48) + bt f m (p + 1) - 48 := by
  show vvF f m p 1 * 10 + bt f m (p + 1) - 48 = _
  rw [vv1, Int32.mul_comm]
theorem nFg_12 {f : Nat → Int32} {m p n : Nat} (hn : n = nFg f m p) (h : n = 1 ∨ n = 2) : (isFg (bt f m (p + 1)) = true → n = 2) ∧ (isFg (bt f m (p + 1)) = false → n = 1) := by
  unfold nFg at hn
  constructor
  · intro q
    rw [q] at hn
    simp only [if_true] at hn
    repeat' split at hn
    all_goals omega
  · intro q
    rw [q] at hn
    simp only [Bool.false_eq_true, if_false] at hn
    split at hn <;> omega
theorem c_M_readsNumber {E : gX} {S : Nat} {G : gG} {Q : Option Value → gG → Prop} {c m p : Nat} {f w tp : Nat → Int32} {A : Nat → Nat → Int32} (hP : PM G c f w A tp m p) {lo hi : Int32} (hQ : ∀ (G' : gG) (f' : Nat → Int32), PM G' c f' w A tp m ((rNum tp m lo hi p).2.1) → fE f f' → (¬ (rNum tp m lo hi p).1 = 0 → f' 14 = (rNum tp m lo hi p).1) → ((rNum tp m lo hi p).1 = 0 → f' 15 = (rNum tp m lo hi p).2.2) → Frm G G' c 10 → Q (some (.int (bI (zB ((rNum tp m lo hi p).1))))) G') : Runs E y_M_readsNumber 3 0 S [.ref c, .int lo, .int hi] G Q := by
  refine Runs.of "ClockPostModel" [some (.ref c), some (.int lo), some (.int hi), none] cw_M_readsNumber (by decide) (by decide +kernel) rfl (Nat.le_of_ble_eq_true rfl) rfl (fun K hK => ?_)
  obtain ⟨hM, h8l, h13, hp, hm, hT, hTb⟩ := id hP
  have J77 : ∀ (n : Nat) (G1 : gG), n = nFg tp m p → (n = 1 ∨ n = 2) → p < m → MV G1 c (upd f 15 (bt tp m p - 48)) w A → Frm G G1 c 10 → K 77 [some (.ref c), some (.int lo), some (.int hi), none] [.int (nI n)] S G1 := by
    intro n G1 hn hn12 hpm hM hF
    have hR : rNum tp m lo hi p = if inB (vvF tp m p n) lo hi = true then (0, p + n, vvF tp m p n) else (2, p, 0) := by rw [rNum, ← hn, if_pos hn12]
    have hnm := nFg_le (f := tp) hp
    rw [← hn] at hnm
    refine st_in_3_4 hK d_M_readsNumber_77 trivial ?_
    refine r_aload_n hK d_M_readsNumber_78 rfl ?_
    refine r_iload_n hK d_M_readsNumber_79 rfl ?_
    refine r_iconst hK d_M_readsNumber_80 kc_2 ?_
    refine r_icmp_ne (tgt := 109) hK d_M_readsNumber_81 rfl (fun h81 => ?_) (fun h81 => ?_)
    · skip
      have e1 : n = 1 := by
        rcases hn12 with e | e
        · exact e
        · exact absurd (by rw [e]; rfl) h81
      have hv : vvF tp m p n = bt tp m p - 48 := by rw [e1, vv1]
      refine r_aload_n hK d_M_readsNumber_109 rfl ?_
      refine r_get hK lf_M_96 d_M_readsNumber_110 (hM.1) rfl ?_
      rw [upd_s, ← hv]
      refine p_M_number hK lf_M_96 d_M_readsNumber_113 hM (fun G113 hM f113 => ?_)
      have hF := hF.tr f113
      rw [upd_2] at hM
      refine r_aload_n hK d_M_readsNumber_116 rfl ?_
      refine r_get hK lf_M_96 d_M_readsNumber_117 (hM.1) rfl ?_
      rw [upd_s]
      refine r_i2l hK d_M_readsNumber_120 ?_
      refine r_iload_n hK d_M_readsNumber_121 rfl ?_
      refine r_i2l hK d_M_readsNumber_122 ?_
      refine r_iload_n hK d_M_readsNumber_123 rfl ?_
      refine r_i2l hK d_M_readsNumber_124 ?_
      refine r_s3 (k' := 1) hK lm_M_45 d_M_readsNumber_125 (by decide) (Nat.le_of_ble_eq_true rfl) ?_
      refine c_M_in (a := lo) (b := hi) rfl rfl (kc_s ?_)
      refine r_if_ne (tgt := 137) hK d_M_readsNumber_128 rfl (fun h128 => ?_) (fun h128 => ?_)
      · skip
        have hi2 := bI_n0.mp h128
        rw [if_pos hi2] at hR
        rw [hR] at hQ
        refine r_aload_n hK d_M_readsNumber_137 rfl ?_
        refine r_dup hK d_M_readsNumber_138 rfl ?_
        refine r_get hK lf_M_77 d_M_readsNumber_139 (hM.1) rfl ?_
        rw [upd_n (by omega), h13]
        refine r_iload_n hK d_M_readsNumber_142 rfl ?_
        refine r_iadd hK d_M_readsNumber_143 ?_
        rw [nI_add]
        refine p_M_at hK lf_M_77 d_M_readsNumber_144 hM (fun G144 hM f144 => ?_)
        have hF := hF.tr f144
        refine r_iconst hK d_M_readsNumber_147 kc_1 ?_
        refine r_zret hK rfl (rfl) rfl d_M_readsNumber_148 ?_
        exact hQ _ _ ⟨hM, by rw [upd_n (by omega), upd_n (by omega)]; exact h8l, upd_s, hnm, hm, hT, hTb⟩ ((fE.up (by omega)).tr (fE.up (by omega))) (fun q => absurd rfl q) (fun _ => by rw [upd_n (by omega), upd_s]) hF
      · skip
        have hi2 := bI_0.mp h128
        rw [if_neg (by simp [hi2])] at hR
        rw [hR] at hQ
        refine r_aload_n hK d_M_readsNumber_131 rfl ?_
        refine r_iconst hK d_M_readsNumber_132 kc_2 ?_
        refine r_v1 (k' := 1) hK lm_M_90 d_M_readsNumber_133 ⟨_, hM.1⟩ (by decide) (Nat.le_of_ble_eq_true rfl) ?_
        refine c_M_refuse hM (fun G133 hM f133 => kc_s ?_)
        refine r_zret hK rfl (rfl) rfl d_M_readsNumber_136 ?_
        exact hQ _ _ ⟨hM, by rw [upd_n (by omega), upd_n (by omega)]; exact h8l, by rw [upd_n (by omega), upd_n (by omega)]; exact h13, hp, hm, hT, hTb⟩ ((fE.up (by omega)).tr (fE.up (by omega))) (fun _ => upd_s) (fun q => absurd (show (2 : Int32) = 0 from q) (by decide)) (hF.tr f133)
    · skip
      have e2 : n = 2 := (eqc (n := 2) (by decide) (by omega)).mp h81
      have hv : vvF tp m p n = 10 * (bt tp m p - 48) + bt tp m (p + 1) - 48 := by rw [e2, vv2]
      refine r_bipush hK d_M_readsNumber_84 kb_10 ?_
      refine r_aload_n hK d_M_readsNumber_86 rfl ?_
      refine r_get hK lf_M_96 d_M_readsNumber_87 (hM.1) rfl ?_
      rw [upd_s]
      refine r_imul hK d_M_readsNumber_90 ?_
      refine r_aload_n hK d_M_readsNumber_91 rfl ?_
      refine r_get hK lf_M_26 d_M_readsNumber_92 (hM.1) rfl ?_
      refine r_aload_n hK d_M_readsNumber_95 rfl ?_
      refine r_get hK lf_M_77 d_M_readsNumber_96 (hM.1) rfl ?_
      rw [upd_n (by omega), h13]
      refine r_iconst hK d_M_readsNumber_99 kc_1 ?_
      refine r_iadd hK d_M_readsNumber_100 ?_
      rw [nI_1]
      refine g_a6 (j := p + 1) hK d_M_readsNumber_101 hM rfl (by omega) ?_
      rw [hT (p + 1) (by omega), ← bt_lt (tp := tp) (show p + 1 < m by omega)]
      refine r_iadd hK d_M_readsNumber_102 ?_
      refine r_bipush hK d_M_readsNumber_103 kb_48 ?_
      refine r_isub hK d_M_readsNumber_105 ?_
      rw [← hv]
      refine r_goto (tgt := 113) hK d_M_readsNumber_106 rfl ?_
      refine p_M_number hK lf_M_96 d_M_readsNumber_113 hM (fun G113 hM f113 => ?_)
      have hF := hF.tr f113
      rw [upd_2] at hM
      refine r_aload_n hK d_M_readsNumber_116 rfl ?_
      refine r_get hK lf_M_96 d_M_readsNumber_117 (hM.1) rfl ?_
      rw [upd_s]
      refine r_i2l hK d_M_readsNumber_120 ?_
      refine r_iload_n hK d_M_readsNumber_121 rfl ?_
      refine r_i2l hK d_M_readsNumber_122 ?_
      refine r_iload_n hK d_M_readsNumber_123 rfl ?_
      refine r_i2l hK d_M_readsNumber_124 ?_
      refine r_s3 (k' := 1) hK lm_M_45 d_M_readsNumber_125 (by decide) (Nat.le_of_ble_eq_true rfl) ?_
      refine c_M_in (a := lo) (b := hi) rfl rfl (kc_s ?_)
      refine r_if_ne (tgt := 137) hK d_M_readsNumber_128 rfl (fun h128 => ?_) (fun h128 => ?_)
      · skip
        have hi2 := bI_n0.mp h128
        rw [if_pos hi2] at hR
        rw [hR] at hQ
        refine r_aload_n hK d_M_readsNumber_137 rfl ?_
        refine r_dup hK d_M_readsNumber_138 rfl ?_
        refine r_get hK lf_M_77 d_M_readsNumber_139 (hM.1) rfl ?_
        rw [upd_n (by omega), h13]
        refine r_iload_n hK d_M_readsNumber_142 rfl ?_
        refine r_iadd hK d_M_readsNumber_143 ?_
        rw [nI_add]
        refine p_M_at hK lf_M_77 d_M_readsNumber_144 hM (fun G144 hM f144 => ?_)
        have hF := hF.tr f144
        refine r_iconst hK d_M_readsNumber_147 kc_1 ?_
        refine r_zret hK rfl (rfl) rfl d_M_readsNumber_148 ?_
        exact hQ _ _ ⟨hM, by rw [upd_n (by omega), upd_n (by omega)]; exact h8l, upd_s, hnm, hm, hT, hTb⟩ ((fE.up (by omega)).tr (fE.up (by omega))) (fun q => absurd rfl q) (fun _ => by rw [upd_n (by omega), upd_s]) hF
      · skip
        have hi2 := bI_0.mp h128
        rw [if_neg (by simp [hi2])] at hR
        rw [hR] at hQ
        refine r_aload_n hK d_M_readsNumber_131 rfl ?_
        refine r_iconst hK d_M_readsNumber_132 kc_2 ?_
        refine r_v1 (k' := 1) hK lm_M_90 d_M_readsNumber_133 ⟨_, hM.1⟩ (by decide) (Nat.le_of_ble_eq_true rfl) ?_
        refine c_M_refuse hM (fun G133 hM f133 => kc_s ?_)
        refine r_zret hK rfl (rfl) rfl d_M_readsNumber_136 ?_
        exact hQ _ _ ⟨hM, by rw [upd_n (by omega), upd_n (by omega)]; exact h8l, by rw [upd_n (by omega), upd_n (by omega)]; exact h13, hp, hm, hT, hTb⟩ ((fE.up (by omega)).tr (fE.up (by omega))) (fun _ => upd_s) (fun q => absurd (show (2 : Int32) = 0 from q) (by decide)) (hF.tr f133)
  have J43 : ∀ n, n = nFg tp m p → (n = 1 ∨ n = 2) → p < m → K 43 [some (.ref c), some (.int lo), some (.int hi), none] [] S G := by
    intro n hn hn12 hpm
    refine r_aload_n hK d_M_readsNumber_43 rfl ?_
    refine r_aload_n hK d_M_readsNumber_44 rfl ?_
    refine r_get hK lf_M_26 d_M_readsNumber_45 (hM.1) rfl ?_
    refine r_aload_n hK d_M_readsNumber_48 rfl ?_
    refine r_get hK lf_M_77 d_M_readsNumber_49 (hM.1) rfl ?_
    rw [h13]
    refine g_a6 (j := p) hK d_M_readsNumber_52 hM rfl (by omega) ?_
    rw [hT p hpm, ← bt_lt (tp := tp) hpm]
    refine r_bipush hK d_M_readsNumber_53 kb_48 ?_
    refine r_isub hK d_M_readsNumber_55 ?_
    refine p_M_number hK lf_M_96 d_M_readsNumber_56 hM (fun G56 hM f56 => ?_)
    have hF : Frm G G56 c 10 := f56
    refine r_aload_n hK d_M_readsNumber_59 rfl ?_
    refine r_aload_n hK d_M_readsNumber_60 rfl ?_
    refine r_get hK lf_M_77 d_M_readsNumber_61 (hM.1) rfl ?_
    rw [upd_n (by omega), h13]
    refine r_iconst hK d_M_readsNumber_64 kc_1 ?_
    refine r_iadd hK d_M_readsNumber_65 ?_
    rw [nI_1]
    refine r_v1 (k' := 2) hK lm_M_93 d_M_readsNumber_66 ⟨_, hM.1⟩ (by decide) (Nat.le_of_ble_eq_true rfl) ?_
    refine c_M_isFigure (p := p + 1) hM (by rw [upd_n (by omega)]; exact h8l) hm hT (by omega) (kc_s ?_)
    refine r_if_eq (tgt := 76) hK d_M_readsNumber_69 rfl (fun h69 => ?_) (fun h69 => ?_)
    · skip
      have e1 := (nFg_12 hn hn12).2 (bI_0.mp h69)
      refine r_iconst hK d_M_readsNumber_76 kc_1 ?_
      first | exact J77 1 _ (e1 ▸ hn) (Or.inl rfl) hpm hM hF | exact J77 2 _ (e2 ▸ hn) (Or.inr rfl) hpm hM hF
    · skip
      have e2 := (nFg_12 hn hn12).1 (bI_n0.mp h69)
      refine r_iconst hK d_M_readsNumber_72 kc_2 ?_
      refine r_goto (tgt := 77) hK d_M_readsNumber_73 rfl ?_
      first | exact J77 1 _ (e1 ▸ hn) (Or.inl rfl) hpm hM hF | exact J77 2 _ (e2 ▸ hn) (Or.inr rfl) hpm hM hF
  refine r_aload_n hK d_M_readsNumber_0 rfl ?_
  refine r_aload_n hK d_M_readsNumber_1 rfl ?_
  refine r_get hK lf_M_77 d_M_readsNumber_2 (hM.1) rfl ?_
  rw [h13]
  refine r_v1 (k' := 2) hK lm_M_93 d_M_readsNumber_5 ⟨_, hM.1⟩ (by decide) (Nat.le_of_ble_eq_true rfl) ?_
  refine c_M_isFigure (p := p) hM h8l hm hT (by omega) (kc_s ?_)
  refine r_if_eq (tgt := 37) hK d_M_readsNumber_8 rfl (fun h8 => ?_) (fun h8 => ?_)
  · skip
    have hb : isFg (bt tp m p) = false := bI_0.mp h8
    have hR : rNum tp m lo hi p = (1, p, 0) := by rw [rNum, show nFg tp m p = 0 by rw [nFg, if_neg (by rw [hb]; decide)], if_neg (by omega)]
    rw [hR] at hQ
    refine r_aload_n hK d_M_readsNumber_37 rfl ?_
    refine r_iconst hK d_M_readsNumber_38 kc_1 ?_
    refine r_v1 (k' := 1) hK lm_M_90 d_M_readsNumber_39 ⟨_, hM.1⟩ (by decide) (Nat.le_of_ble_eq_true rfl) ?_
    refine c_M_refuse hM (fun G39 hM f39 => kc_s ?_)
    refine r_zret hK rfl (rfl) rfl d_M_readsNumber_42 ?_
    exact hQ _ _ ⟨hM, by rw [upd_n (by omega)]; exact h8l, by rw [upd_n (by omega)]; exact h13, hp, hm, hT, hTb⟩ (fE.up (by omega)) (fun _ => upd_s) (fun q => absurd (show (1 : Int32) = 0 from q) (by decide)) f39
  · skip
    have hb : isFg (bt tp m p) = true := bI_n0.mp h8
    have hpm := isFg_lt hb
    refine r_aload_n hK d_M_readsNumber_11 rfl ?_
    refine r_aload_n hK d_M_readsNumber_12 rfl ?_
    refine r_get hK lf_M_77 d_M_readsNumber_13 (hM.1) rfl ?_
    rw [h13]
    refine r_iconst hK d_M_readsNumber_16 kc_1 ?_
    refine r_iadd hK d_M_readsNumber_17 ?_
    rw [nI_1]
    refine r_v1 (k' := 2) hK lm_M_93 d_M_readsNumber_18 ⟨_, hM.1⟩ (by decide) (Nat.le_of_ble_eq_true rfl) ?_
    refine c_M_isFigure (p := p + 1) hM h8l hm hT (by omega) (kc_s ?_)
    refine r_if_eq (tgt := 43) hK d_M_readsNumber_21 rfl (fun h21 => ?_) (fun h21 => ?_)
    · skip
      have hc : isFg (bt tp m (p + 1)) = false := bI_0.mp h21
      have hn : nFg tp m p = 1 := by rw [nFg, if_pos hb, if_neg (by rw [hc]; decide)]
      first | exact J43 1 hn.symm (Or.inl rfl) hpm | exact J43 2 hn.symm (Or.inr rfl) hpm
    · skip
      have hc : isFg (bt tp m (p + 1)) = true := bI_n0.mp h21
      refine r_aload_n hK d_M_readsNumber_24 rfl ?_
      refine r_aload_n hK d_M_readsNumber_25 rfl ?_
      refine r_get hK lf_M_77 d_M_readsNumber_26 (hM.1) rfl ?_
      rw [h13]
      refine r_iconst hK d_M_readsNumber_29 kc_2 ?_
      refine r_iadd hK d_M_readsNumber_30 ?_
      rw [show nI p + 2 = nI (p + 2) from nI_add p 2]
      refine r_v1 (k' := 2) hK lm_M_93 d_M_readsNumber_31 ⟨_, hM.1⟩ (by decide) (Nat.le_of_ble_eq_true rfl) ?_
      refine c_M_isFigure (p := p + 2) hM h8l hm hT (by omega) (kc_s ?_)
      refine r_if_eq (tgt := 43) hK d_M_readsNumber_34 rfl (fun h34 => ?_) (fun h34 => ?_)
      · skip
        have hd : isFg (bt tp m (p + 2)) = false := bI_0.mp h34
        have hn : nFg tp m p = 2 := by rw [nFg, if_pos hb, if_pos hc, if_neg (by rw [hd]; decide)]
        first | exact J43 1 hn.symm (Or.inl rfl) hpm | exact J43 2 hn.symm (Or.inr rfl) hpm
      · skip
        have hd : isFg (bt tp m (p + 2)) = true := bI_n0.mp h34
        have hR : rNum tp m lo hi p = (1, p, 0) := by rw [rNum, show nFg tp m p = 3 by rw [nFg, if_pos hb, if_pos hc, if_pos hd], if_neg (by omega)]
        rw [hR] at hQ
        refine r_aload_n hK d_M_readsNumber_37 rfl ?_
        refine r_iconst hK d_M_readsNumber_38 kc_1 ?_
        refine r_v1 (k' := 1) hK lm_M_90 d_M_readsNumber_39 ⟨_, hM.1⟩ (by decide) (Nat.le_of_ble_eq_true rfl) ?_
        refine c_M_refuse hM (fun G39 hM f39 => kc_s ?_)
        refine r_zret hK rfl (rfl) rfl d_M_readsNumber_42 ?_
        exact hQ _ _ ⟨hM, by rw [upd_n (by omega)]; exact h8l, by rw [upd_n (by omega)]; exact h13, hp, hm, hT, hTb⟩ (fE.up (by omega)) (fun _ => upd_s) (fun q => absurd (show (1 : Int32) = 0 from q) (by decide)) f39
