def fE (f f' : Nat → Int32) : Prop := ∀ k, k ≠ 13 → k ≠ 14 → k ≠ 15 → f' k = f k
theorem fE.rf {f : Nat → Int32} : fE f f := fun _ _ _ _ => rfl
theorem fE.tr {f g h : Nat → Int32} (a : fE f g) (b : fE g h) : fE f h := fun k h1 h2 h3 => (b k h1 h2 h3).trans (a k h1 h2 h3)
theorem fE.up {f : Nat → Int32} {k : Nat} {x : Int32} (hk : k = 13 ∨ k = 14 ∨ k = 15) : fE f (upd f k x) := fun q h1 h2 h3 => upd_n (by omega)
-- the tape as it is read: m bytes, at the place p
def PM (G : gG) (c : Nat) (f w : Nat → Int32) (A : Nat → Nat → Int32) (tp : Nat → Int32) (m p : Nat) : Prop := MV G c f w A ∧ f 8 = nI m ∧ f 13 = nI p ∧ p ≤ m ∧ m ≤ 100 ∧ (∀ k, k < m → A 6 k = tp k) ∧ ∀ k, k < m → 0 ≤ (tp k).toInt ∧ (tp k).toInt ≤ 255
theorem bt_lt {tp : Nat → Int32} {m p : Nat} (h : p < m) : bt tp m p = tp p := if_pos h
theorem bt_ge {tp : Nat → Int32} {m p : Nat} (h : ¬ p < m) : bt tp m p = -1 := if_neg h
theorem knd_le {x : Int32} (h : knd x ≤ 0) : knd x = 0 := by
  unfold knd at h ⊢
  repeat' split at h
  all_goals first
    | (exact absurd h (by decide))
    | skip
  rename_i h1 h2 h3 h4 h5
  rw [if_neg h1, if_neg h2, if_neg h3, if_neg h4, if_neg h5]
theorem c_M_isLetter {E : gX} {S : Nat} {G : gG} {Q : Option Value → gG → Prop} {c m p : Nat} {f w tp : Nat → Int32} {A : Nat → Nat → Int32} (hP : PM G c f w A tp m p) {x : Int32} (hx : ¬ x = -1) (hQ : Q (some (.int (bI (decide (bt tp m p = x))))) G) : Runs E y_M_isLetter 1 0 S [.ref c, .int x] G Q := by
  refine Runs.of "ClockPostModel" [some (.ref c), some (.int x)] cw_M_isLetter (by decide) (by decide +kernel) rfl (Nat.le_of_ble_eq_true rfl) rfl (fun K hK => ?_)
  obtain ⟨hM, h8l, h13, hp, hm, hT, hTb⟩ := hP
  refine r_aload_n hK d_M_isLetter_0 rfl ?_
  refine r_get hK lf_M_77 d_M_isLetter_1 (hM.1) rfl ?_
  rw [h13]
  refine r_aload_n hK d_M_isLetter_4 rfl ?_
  refine r_get hK lf_M_73 d_M_isLetter_5 (hM.1) rfl ?_
  rw [h8l]
  refine r_icmp_ge (tgt := 28) hK d_M_isLetter_8 rfl (fun h8 => ?_) (fun h8 => ?_)
  · skip
    have hq : ¬ p < m := by have := (nI_leI (by omega) (by omega)).mp h8; omega
    refine r_iconst hK d_M_isLetter_28 kc_0 ?_
    refine r_zret hK rfl (rfl) rfl d_M_isLetter_29 ?_
    first | exact rc hQ (bI_t (decide_eq_true h21)) | exact rc hQ (bI_f (by rw [bt_ge hq]; simp only [decide_eq_true_eq]; exact fun e => hx e.symm)) | exact rc hQ (bI_f (fun e => h21 (of_decide_eq_true e)))
  · skip
    have hq : p < m := Nat.not_le.mp (fun q => h8 ((nI_leI (by omega) (by omega)).mpr q))
    refine r_aload_n hK d_M_isLetter_11 rfl ?_
    refine r_get hK lf_M_26 d_M_isLetter_12 (hM.1) rfl ?_
    refine r_aload_n hK d_M_isLetter_15 rfl ?_
    refine r_get hK lf_M_77 d_M_isLetter_16 (hM.1) rfl ?_
    rw [h13]
    refine g_a6 (j := p) hK d_M_isLetter_19 hM rfl (by omega) ?_
    rw [hT p hq, ← bt_lt (tp := tp) hq]
    refine r_iload_n hK d_M_isLetter_20 rfl ?_
    refine r_icmp_ne (tgt := 28) hK d_M_isLetter_21 rfl (fun h21 => ?_) (fun h21 => ?_)
    · skip
      refine r_iconst hK d_M_isLetter_28 kc_0 ?_
      refine r_zret hK rfl (rfl) rfl d_M_isLetter_29 ?_
      first | exact rc hQ (bI_t (decide_eq_true h21)) | exact rc hQ (bI_f (by rw [bt_ge hq]; simp only [decide_eq_true_eq]; exact fun e => hx e.symm)) | exact rc hQ (bI_f (fun e => h21 (of_decide_eq_true e)))
    · skip
      refine r_iconst hK d_M_isLetter_24 kc_1 ?_
      refine r_goto (tgt := 29) hK d_M_isLetter_25 rfl ?_
      refine r_zret hK rfl (rfl) rfl d_M_isLetter_29 ?_
      first | exact rc hQ (bI_t (decide_eq_true h21)) | exact rc hQ (bI_f (by rw [bt_ge hq]; simp only [decide_eq_true_eq]; exact fun e => hx e.symm)) | exact rc hQ (bI_f (fun e => h21 (of_decide_eq_true e)))
theorem c_M_isFigure {E : gX} {S : Nat} {G : gG} {Q : Option Value → gG → Prop} {c m p : Nat} {f w tp : Nat → Int32} {A : Nat → Nat → Int32} (hM : MV G c f w A) (h8l : f 8 = nI m) (hm : m ≤ 100) (hT : ∀ k, k < m → A 6 k = tp k) (hp : p ≤ m + 2) (hQ : Q (some (.int (bI (isFg (bt tp m p))))) G) : Runs E y_M_isFigure 2 0 S [.ref c, .int (nI p)] G Q := by
  refine Runs.of "ClockPostModel" [some (.ref c), some (.int (nI p))] cw_M_isFigure (by decide) (by decide +kernel) rfl (Nat.le_of_ble_eq_true rfl) rfl (fun K hK => ?_)
  refine r_iload_n hK d_M_isFigure_0 rfl ?_
  refine r_aload_n hK d_M_isFigure_1 rfl ?_
  refine r_get hK lf_M_73 d_M_isFigure_2 (hM.1) rfl ?_
  rw [h8l]
  refine r_icmp_ge (tgt := 31) hK d_M_isFigure_5 rfl (fun h5 => ?_) (fun h5 => ?_)
  · skip
    have hq : ¬ p < m := by have := (nI_leI (by omega) (by omega)).mp h5; omega
    refine r_iconst hK d_M_isFigure_31 kc_0 ?_
    refine r_zret hK rfl (rfl) rfl d_M_isFigure_32 ?_
    first | exact hQ | exact rc hQ (by rw [bt_ge hq]; decide)
  · skip
    have hq : p < m := Nat.not_le.mp (fun q => h5 ((nI_leI (by omega) (by omega)).mpr q))
    refine r_aload_n hK d_M_isFigure_8 rfl ?_
    refine r_get hK lf_M_26 d_M_isFigure_9 (hM.1) rfl ?_
    refine r_iload_n hK d_M_isFigure_12 rfl ?_
    refine g_a6 (j := p) hK d_M_isFigure_13 hM rfl (by omega) ?_
    rw [hT p hq, ← bt_lt (tp := tp) hq]
    refine r_i2l hK d_M_isFigure_14 ?_
    refine r_ldc2 hK d_M_isFigure_15 lc_M_80 ?_
    refine r_ldc2 hK d_M_isFigure_18 lc_M_82 ?_
    refine r_s3 (k' := 1) hK lm_M_45 d_M_isFigure_21 (by decide) (Nat.le_of_ble_eq_true rfl) ?_
    refine c_M_in (a := 48) (b := 57) (by decide) (by decide) (kc_s ?_)
    refine r_if_eq (tgt := 31) hK d_M_isFigure_24 rfl (fun h24 => ?_) (fun h24 => ?_)
    · skip
      have hb : isFg (bt tp m p) = false := bI_0.mp h24
      rw [hb] at hQ
      refine r_iconst hK d_M_isFigure_31 kc_0 ?_
      refine r_zret hK rfl (rfl) rfl d_M_isFigure_32 ?_
      first | exact hQ | exact rc hQ (by rw [bt_ge hq]; decide)
    · skip
      have hb : isFg (bt tp m p) = true := bI_n0.mp h24
      rw [hb] at hQ
      refine r_iconst hK d_M_isFigure_27 kc_1 ?_
      refine r_goto (tgt := 32) hK d_M_isFigure_28 rfl ?_
      refine r_zret hK rfl (rfl) rfl d_M_isFigure_32 ?_
      first | exact hQ | exact rc hQ (by rw [bt_ge hq]; decide)
theorem c_M_refuse {E : gX} {S : Nat} {G : gG} {Q : Option Value → gG → Prop} {c : Nat} {f w : Nat → Int32} {A : Nat → Nat → Int32} (hM : MV G c f w A) {x : Int32} (hQ : ∀ G' : gG, MV G' c (upd f 14 x) w A → Frm G G' c 10 → Q (some (.int 0)) G') : Runs E y_M_refuse 1 0 S [.ref c, .int x] G Q := by
  refine Runs.of "ClockPostModel" [some (.ref c), some (.int x)] cw_M_refuse (by decide) (by decide +kernel) rfl (Nat.le_of_ble_eq_true rfl) rfl (fun K hK => ?_)
  refine r_aload_n hK d_M_refuse_0 rfl ?_
  refine r_iload_n hK d_M_refuse_1 rfl ?_
  refine p_M_wrong hK lf_M_84 d_M_refuse_2 hM (fun G2 hM f2 => ?_)
  refine r_iconst hK d_M_refuse_5 kc_0 ?_
  refine r_zret hK rfl (rfl) rfl d_M_refuse_6 ?_
  exact hQ _ hM f2
theorem c_M_sign {E : gX} {S : Nat} {G : gG} {Q : Option Value → gG → Prop} {c m p : Nat} {f w tp : Nat → Int32} {A : Nat → Nat → Int32} (hP : PM G c f w A tp m p) {x : Int32} (hx : ¬ x = -1) (hQ : ∀ (G' : gG) (f' : Nat → Int32), PM G' c f' w A tp m ((rSign tp m x p).2) → fE f f' → (¬ (rSign tp m x p).1 = 0 → f' 14 = (rSign tp m x p).1) → Frm G G' c 10 → Q (some (.int (bI (zB ((rSign tp m x p).1))))) G') : Runs E y_M_sign 2 0 S [.ref c, .int x] G Q := by
  refine Runs.of "ClockPostModel" [some (.ref c), some (.int x)] cw_M_sign (by decide) (by decide +kernel) rfl (Nat.le_of_ble_eq_true rfl) rfl (fun K hK => ?_)
  obtain ⟨hM, h8l, h13, hp, hm, hT, hTb⟩ := id hP
  refine r_aload_n hK d_M_sign_0 rfl ?_
  refine r_iload_n hK d_M_sign_1 rfl ?_
  refine r_v1 (k' := 1) hK lm_M_87 d_M_sign_2 ⟨_, hM.1⟩ (by decide) (Nat.le_of_ble_eq_true rfl) ?_
  refine c_M_isLetter (p := p) hP hx (kc_s ?_)
  refine r_if_ne (tgt := 14) hK d_M_sign_5 rfl (fun h5 => ?_) (fun h5 => ?_)
  · skip
    have hb : bt tp m p = x := of_decide_eq_true (bI_n0.mp h5)
    have e : rSign tp m x p = (0, p + 1) := by rw [rSign, if_pos hb]
    rw [e] at hQ
    have hpm : p < m := Classical.byContradiction fun q => by rw [bt_ge q] at hb; exact hx hb.symm
    refine r_aload_n hK d_M_sign_14 rfl ?_
    refine r_dup hK d_M_sign_15 rfl ?_
    refine r_get hK lf_M_77 d_M_sign_16 (hM.1) rfl ?_
    rw [h13]
    refine r_iconst hK d_M_sign_19 kc_1 ?_
    refine r_iadd hK d_M_sign_20 ?_
    rw [nI_1]
    refine p_M_at hK lf_M_77 d_M_sign_21 hM (fun G21 hM f21 => ?_)
    refine r_iconst hK d_M_sign_24 kc_1 ?_
    refine r_zret hK rfl (rfl) rfl d_M_sign_25 ?_
    exact hQ _ _ ⟨hM, by rw [upd_n (by omega)]; exact h8l, upd_s, by omega, hm, hT, hTb⟩ (fE.up (by omega)) (fun q => absurd rfl q) f21
  · skip
    have hb : ¬ bt tp m p = x := of_decide_eq_false (bI_0.mp h5)
    have e : rSign tp m x p = (1, p) := by rw [rSign, if_neg hb]
    rw [e] at hQ
    refine r_aload_n hK d_M_sign_8 rfl ?_
    refine r_iconst hK d_M_sign_9 kc_1 ?_
    refine r_v1 (k' := 1) hK lm_M_90 d_M_sign_10 ⟨_, hM.1⟩ (by decide) (Nat.le_of_ble_eq_true rfl) ?_
    refine c_M_refuse hM (fun G10 hM f10 => kc_s ?_)
    refine r_zret hK rfl (rfl) rfl d_M_sign_13 ?_
    exact hQ _ _ ⟨hM, by rw [upd_n (by omega)]; exact h8l, by rw [upd_n (by omega)]; exact h13, hp, hm, hT, hTb⟩ (fE.up (by omega)) (fun _ => upd_s) f10
theorem c_M_kindOfLetter {E : gX} {S : Nat} {G : gG} {Q : Option Value → gG → Prop} {x : Int32} (hQ : Q (some (.int (knd x))) G) : Runs E y_M_kindOfLetter 1 0 S [.int x] G Q := by
  refine Runs.of "ClockPostModel" [some (.int x)] cw_M_kindOfLetter (by decide) (by decide +kernel) rfl (Nat.le_of_ble_eq_true rfl) rfl (fun K hK => ?_)
  refine r_iload_n hK d_M_kindOfLetter_0 rfl ?_
  refine r_bipush hK d_M_kindOfLetter_1 kb_98 ?_
  refine r_icmp_ne (tgt := 10) hK d_M_kindOfLetter_3 rfl (fun h3 => ?_) (fun h3 => ?_)
  · skip
    refine r_iload_n hK d_M_kindOfLetter_10 rfl ?_
    refine r_bipush hK d_M_kindOfLetter_11 kb_100 ?_
    refine r_icmp_ne (tgt := 20) hK d_M_kindOfLetter_13 rfl (fun h13 => ?_) (fun h13 => ?_)
    · skip
      refine r_iload_n hK d_M_kindOfLetter_20 rfl ?_
      refine r_bipush hK d_M_kindOfLetter_21 kb_115 ?_
      refine r_icmp_ne (tgt := 30) hK d_M_kindOfLetter_23 rfl (fun h23 => ?_) (fun h23 => ?_)
      · skip
        refine r_iload_n hK d_M_kindOfLetter_30 rfl ?_
        refine r_bipush hK d_M_kindOfLetter_31 kb_110 ?_
        refine r_icmp_ne (tgt := 40) hK d_M_kindOfLetter_33 rfl (fun h33 => ?_) (fun h33 => ?_)
        · skip
          refine r_iload_n hK d_M_kindOfLetter_40 rfl ?_
          refine r_bipush hK d_M_kindOfLetter_41 kb_101 ?_
          refine r_icmp_ne (tgt := 50) hK d_M_kindOfLetter_43 rfl (fun h43 => ?_) (fun h43 => ?_)
          · skip
            refine r_iconst hK d_M_kindOfLetter_50 kc_0 ?_
            refine r_iret hK rfl rfl d_M_kindOfLetter_51 ?_
            first | (refine rc hQ ?_; simp [knd, *]; done) | (refine rc hQ ?_; simp_all [knd]; done)
          · skip
            refine r_iconst hK d_M_kindOfLetter_46 kc_5 ?_
            refine r_goto (tgt := 51) hK d_M_kindOfLetter_47 rfl ?_
            refine r_iret hK rfl rfl d_M_kindOfLetter_51 ?_
            first | (refine rc hQ ?_; simp [knd, *]; done) | (refine rc hQ ?_; simp_all [knd]; done)
        · skip
          refine r_iconst hK d_M_kindOfLetter_36 kc_4 ?_
          refine r_goto (tgt := 51) hK d_M_kindOfLetter_37 rfl ?_
          refine r_iret hK rfl rfl d_M_kindOfLetter_51 ?_
          first | (refine rc hQ ?_; simp [knd, *]; done) | (refine rc hQ ?_; simp_all [knd]; done)
      · skip
        refine r_iconst hK d_M_kindOfLetter_26 kc_3 ?_
        refine r_goto (tgt := 51) hK d_M_kindOfLetter_27 rfl ?_
        refine r_iret hK rfl rfl d_M_kindOfLetter_51 ?_
        first | (refine rc hQ ?_; simp [knd, *]; done) | (refine rc hQ ?_; simp_all [knd]; done)
    · skip
      refine r_iconst hK d_M_kindOfLetter_16 kc_2 ?_
      refine r_goto (tgt := 51) hK d_M_kindOfLetter_17 rfl ?_
      refine r_iret hK rfl rfl d_M_kindOfLetter_51 ?_
      first | (refine rc hQ ?_; simp [knd, *]; done) | (refine rc hQ ?_; simp_all [knd]; done)
  · skip
    refine r_iconst hK d_M_kindOfLetter_6 kc_1 ?_
    refine r_goto (tgt := 51) hK d_M_kindOfLetter_7 rfl ?_
    refine r_iret hK rfl rfl d_M_kindOfLetter_51 ?_
    first | (refine rc hQ ?_; simp [knd, *]; done) | (refine rc hQ ?_; simp_all [knd]; done)
theorem c_M_isSort {E : gX} {S : Nat} {G : gG} {Q : Option Value → gG → Prop} {c m p : Nat} {f w tp : Nat → Int32} {A : Nat → Nat → Int32} (hP : PM G c f w A tp m p) (hQ : Q (some (.int (bI (decide (¬ knd (bt tp m p) = 0))))) G) : Runs E y_M_isSort 2 0 S [.ref c] G Q := by
  refine Runs.of "ClockPostModel" [some (.ref c)] cw_M_isSort (by decide) (by decide +kernel) rfl (Nat.le_of_ble_eq_true rfl) rfl (fun K hK => ?_)
  obtain ⟨hM, h8l, h13, hp, hm, hT, hTb⟩ := id hP
  refine r_aload_n hK d_M_isSort_0 rfl ?_
  refine r_get hK lf_M_77 d_M_isSort_1 (hM.1) rfl ?_
  rw [h13]
  refine r_aload_n hK d_M_isSort_4 rfl ?_
  refine r_get hK lf_M_73 d_M_isSort_5 (hM.1) rfl ?_
  rw [h8l]
  refine r_icmp_ge (tgt := 30) hK d_M_isSort_8 rfl (fun h8 => ?_) (fun h8 => ?_)
  · skip
    have hq : ¬ p < m := by have := (nI_leI (by omega) (by omega)).mp h8; omega
    refine r_iconst hK d_M_isSort_30 kc_0 ?_
    refine r_zret hK rfl (rfl) rfl d_M_isSort_31 ?_
    first | exact rc hQ (bI_t (decide_eq_true hk)) | exact rc hQ (bI_f (fun q => (of_decide_eq_true q) hk)) | exact rc hQ (bI_f (fun q => (of_decide_eq_true q) (by rw [bt_ge hq]; decide)))
  · skip
    have hq : p < m := Nat.not_le.mp (fun q => h8 ((nI_leI (by omega) (by omega)).mpr q))
    refine r_aload_n hK d_M_isSort_11 rfl ?_
    refine r_get hK lf_M_26 d_M_isSort_12 (hM.1) rfl ?_
    refine r_aload_n hK d_M_isSort_15 rfl ?_
    refine r_get hK lf_M_77 d_M_isSort_16 (hM.1) rfl ?_
    rw [h13]
    refine g_a6 (j := p) hK d_M_isSort_19 hM rfl (by omega) ?_
    rw [hT p hq, ← bt_lt (tp := tp) hq]
    refine r_s1 (k' := 1) hK lm_M_106 d_M_isSort_20 (by decide) (Nat.le_of_ble_eq_true rfl) ?_
    refine c_M_kindOfLetter (kc_s ?_)
    refine r_if_le (tgt := 30) hK d_M_isSort_23 rfl (fun h23 => ?_) (fun h23 => ?_)
    · skip
      have hk : knd (bt tp m p) = 0 := knd_le h23
      refine r_iconst hK d_M_isSort_30 kc_0 ?_
      refine r_zret hK rfl (rfl) rfl d_M_isSort_31 ?_
      first | exact rc hQ (bI_t (decide_eq_true hk)) | exact rc hQ (bI_f (fun q => (of_decide_eq_true q) hk)) | exact rc hQ (bI_f (fun q => (of_decide_eq_true q) (by rw [bt_ge hq]; decide)))
    · skip
      have hk : ¬ knd (bt tp m p) = 0 := fun q => h23 (by rw [q]; decide)
      refine r_iconst hK d_M_isSort_26 kc_1 ?_
      refine r_goto (tgt := 31) hK d_M_isSort_27 rfl ?_
      refine r_zret hK rfl (rfl) rfl d_M_isSort_31 ?_
      first | exact rc hQ (bI_t (decide_eq_true hk)) | exact rc hQ (bI_f (fun q => (of_decide_eq_true q) hk)) | exact rc hQ (bI_f (fun q => (of_decide_eq_true q) (by rw [bt_ge hq]; decide)))
