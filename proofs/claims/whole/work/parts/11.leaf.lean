def hasP (size i n : Int32) : Bool := decide (0 ≤ i) && decide (0 ≤ n) && decide (n ≤ size - i)
def fillV (f : Nat → Int32) (x : Int32) (j : Nat) : Nat → Int32 := fun i => if i < j then x else f i
theorem fillV_0 {f : Nat → Int32} {x : Int32} : fillV f x 0 = f := by funext i; simp [fillV]
theorem fillV_s {f : Nat → Int32} {x : Int32} {j : Nat} : upd (fillV f x j) j x = fillV f x (j + 1) := by
  funext i
  by_cases h : i = j
  · subst h; simp [upd, fillV]
  · by_cases h2 : i < j
    · simp [upd, fillV, h, h2, Nat.lt_succ_of_lt h2]
    · simp [upd, fillV, h, h2, show ¬ i < j + 1 by omega]
def cutV (lane v : Int32) : Int32 := if lane = 0 then v.toInt8.toInt32 else if lane = 1 then v.toInt16.toInt32 else v
theorem sub_toI {a b : Int32} (h : -2147483648 ≤ a.toInt - b.toInt ∧ a.toInt - b.toInt < 2147483648) : (a - b).toInt = a.toInt - b.toInt := by
  rw [Int32.toInt_sub, Int.bmod_eq_of_le (by omega) (by omega)]
theorem hasP_iff {z : Nat} {i n : Int32} (hs : z ≤ 40) : hasP (nI z) i n = true ↔ 0 ≤ i.toInt ∧ 0 ≤ n.toInt ∧ i.toInt + n.toInt ≤ z := by
  have hz : (nI z).toInt = z := nI_toInt (by omega)
  simp only [hasP, Bool.and_eq_true, decide_eq_true_eq, i_le, ti_0]
  have h1 := i.toInt_lt
  constructor
  · rintro ⟨⟨h1, h2⟩, h3⟩
    rw [sub_toI (by omega), hz] at h3
    omega
  · rintro ⟨h1, h2, h3⟩
    rw [sub_toI (by omega), hz]
    omega
theorem hasP_in {z : Nat} {i : Int32} (hs : z ≤ 40) (h : hasP (nI z) i 1 = true) : 0 ≤ i.toInt ∧ i.toInt < (40 : Nat) := by
  have := (hasP_iff hs).mp h
  rw [ti_1] at this
  omega
theorem c_X_isWithin {E : gX} {S : Nat} {G : gG} {Q : Option Value → gG → Prop} {x a b : Int32} (hQ : Q (some (.int (bI (inB x a b)))) G) : Runs E y_X_isWithin 1 0 S [.int x, .int a, .int b] G Q := by
  refine Runs.of "ClockPost" [some (.int x), some (.int a), some (.int b)] cw_X_isWithin (by decide) (by decide +kernel) rfl (Nat.le_of_ble_eq_true rfl) rfl (fun K hK => ?_)
  refine r_iload_n hK d_X_isWithin_0 rfl ?_
  refine r_iload_n hK d_X_isWithin_1 rfl ?_
  refine r_icmp_lt (tgt := 14) hK d_X_isWithin_2 rfl (fun h2 => ?_) (fun h2 => ?_)
  · skip
    refine r_iconst hK d_X_isWithin_14 kc_0 ?_
    refine r_zret hK rfl (rfl) rfl d_X_isWithin_15 ?_
    first | exact rc hQ (bI_t (by clear hK hQ; simp only [inB, Bool.and_eq_true, Bool.or_eq_true, Bool.not_eq_true', decide_eq_true_eq, decide_eq_false_iff_not, i_lt, i_le, i_eq, ti_0, ti_1, ti_2, ti_3, ti_4, ti_5, ti_6, ti_7, ti_8, ti_9, ti_10, ti_11, ti_12, ti_13, ti_14, ti_16, ti_20, ti_21, ti_22, ti_23, ti_24, ti_30, ti_31, ti_36, ti_40, ti_44, ti_48, ti_57, ti_59, ti_60, ti_61, ti_63, ti_64, ti_98, ti_99, ti_100, ti_101, ti_110, ti_115, ti_128, ti_255, ti_300, ti_900, ti_972, ti_999, ti_1000, ti_9999, ti_m1] at *; omega)) | exact rc hQ (bI_f (by intro hq; clear hK hQ; simp only [inB, Bool.and_eq_true, Bool.or_eq_true, Bool.not_eq_true', decide_eq_true_eq, decide_eq_false_iff_not, i_lt, i_le, i_eq, ti_0, ti_1, ti_2, ti_3, ti_4, ti_5, ti_6, ti_7, ti_8, ti_9, ti_10, ti_11, ti_12, ti_13, ti_14, ti_16, ti_20, ti_21, ti_22, ti_23, ti_24, ti_30, ti_31, ti_36, ti_40, ti_44, ti_48, ti_57, ti_59, ti_60, ti_61, ti_63, ti_64, ti_98, ti_99, ti_100, ti_101, ti_110, ti_115, ti_128, ti_255, ti_300, ti_900, ti_972, ti_999, ti_1000, ti_9999, ti_m1] at *; omega))
  · skip
    refine r_iload_n hK d_X_isWithin_5 rfl ?_
    refine r_iload_n hK d_X_isWithin_6 rfl ?_
    refine r_icmp_gt (tgt := 14) hK d_X_isWithin_7 rfl (fun h7 => ?_) (fun h7 => ?_)
    · skip
      refine r_iconst hK d_X_isWithin_14 kc_0 ?_
      refine r_zret hK rfl (rfl) rfl d_X_isWithin_15 ?_
      first | exact rc hQ (bI_t (by clear hK hQ; simp only [inB, Bool.and_eq_true, Bool.or_eq_true, Bool.not_eq_true', decide_eq_true_eq, decide_eq_false_iff_not, i_lt, i_le, i_eq, ti_0, ti_1, ti_2, ti_3, ti_4, ti_5, ti_6, ti_7, ti_8, ti_9, ti_10, ti_11, ti_12, ti_13, ti_14, ti_16, ti_20, ti_21, ti_22, ti_23, ti_24, ti_30, ti_31, ti_36, ti_40, ti_44, ti_48, ti_57, ti_59, ti_60, ti_61, ti_63, ti_64, ti_98, ti_99, ti_100, ti_101, ti_110, ti_115, ti_128, ti_255, ti_300, ti_900, ti_972, ti_999, ti_1000, ti_9999, ti_m1] at *; omega)) | exact rc hQ (bI_f (by intro hq; clear hK hQ; simp only [inB, Bool.and_eq_true, Bool.or_eq_true, Bool.not_eq_true', decide_eq_true_eq, decide_eq_false_iff_not, i_lt, i_le, i_eq, ti_0, ti_1, ti_2, ti_3, ti_4, ti_5, ti_6, ti_7, ti_8, ti_9, ti_10, ti_11, ti_12, ti_13, ti_14, ti_16, ti_20, ti_21, ti_22, ti_23, ti_24, ti_30, ti_31, ti_36, ti_40, ti_44, ti_48, ti_57, ti_59, ti_60, ti_61, ti_63, ti_64, ti_98, ti_99, ti_100, ti_101, ti_110, ti_115, ti_128, ti_255, ti_300, ti_900, ti_972, ti_999, ti_1000, ti_9999, ti_m1] at *; omega))
    · skip
      refine r_iconst hK d_X_isWithin_10 kc_1 ?_
      refine r_goto (tgt := 15) hK d_X_isWithin_11 rfl ?_
      refine r_zret hK rfl (rfl) rfl d_X_isWithin_15 ?_
      first | exact rc hQ (bI_t (by clear hK hQ; simp only [inB, Bool.and_eq_true, Bool.or_eq_true, Bool.not_eq_true', decide_eq_true_eq, decide_eq_false_iff_not, i_lt, i_le, i_eq, ti_0, ti_1, ti_2, ti_3, ti_4, ti_5, ti_6, ti_7, ti_8, ti_9, ti_10, ti_11, ti_12, ti_13, ti_14, ti_16, ti_20, ti_21, ti_22, ti_23, ti_24, ti_30, ti_31, ti_36, ti_40, ti_44, ti_48, ti_57, ti_59, ti_60, ti_61, ti_63, ti_64, ti_98, ti_99, ti_100, ti_101, ti_110, ti_115, ti_128, ti_255, ti_300, ti_900, ti_972, ti_999, ti_1000, ti_9999, ti_m1] at *; omega)) | exact rc hQ (bI_f (by intro hq; clear hK hQ; simp only [inB, Bool.and_eq_true, Bool.or_eq_true, Bool.not_eq_true', decide_eq_true_eq, decide_eq_false_iff_not, i_lt, i_le, i_eq, ti_0, ti_1, ti_2, ti_3, ti_4, ti_5, ti_6, ti_7, ti_8, ti_9, ti_10, ti_11, ti_12, ti_13, ti_14, ti_16, ti_20, ti_21, ti_22, ti_23, ti_24, ti_30, ti_31, ti_36, ti_40, ti_44, ti_48, ti_57, ti_59, ti_60, ti_61, ti_63, ti_64, ti_98, ti_99, ti_100, ti_101, ti_110, ti_115, ti_128, ti_255, ti_300, ti_900, ti_972, ti_999, ti_1000, ti_9999, ti_m1] at *; omega))
theorem c_X_isRow {E : gX} {S : Nat} {G : gG} {Q : Option Value → gG → Prop} {x : Int32} (hQ : Q (some (.int (bI (inB x 0 7)))) G) : Runs E y_X_isRow 2 0 S [.int x] G Q := by
  refine Runs.of "ClockPost" [some (.int x)] cw_X_isRow (by decide) (by decide +kernel) rfl (Nat.le_of_ble_eq_true rfl) rfl (fun K hK => ?_)
  refine r_iload_n hK d_X_isRow_0 rfl ?_
  refine r_iconst hK d_X_isRow_1 kc_0 ?_
  refine r_bipush hK d_X_isRow_2 kb_7 ?_
  refine r_s3 (k' := 1) hK lm_X_62 d_X_isRow_4 (by decide) (Nat.le_of_ble_eq_true rfl) ?_
  refine c_X_isWithin (kc_s ?_)
  refine r_zret hK rfl (bI_nar _) rfl d_X_isRow_7 ?_
  exact hQ
theorem c_L_become {E : gX} {S : Nat} {G : gG} {Q : Option Value → gG → Prop} {a b : Nat} {a0 a1 a2 a3 a4 : Value} {x0 x1 x2 x3 x4 : Int32} (hL : LX G a [a0, a1, a2, a3, a4]) (hL2 : LX G b [.int x0, .int x1, .int x2, .int x3, .int x4]) (hd : a ≠ b) (hQ : ∀ G' : gG, LX G' a [.int x0, .int x1, .int x2, .int x3, .int x4] → Frm G G' a 1 → Q none G') : Runs E y_L_become 1 0 S [.ref a, .ref b] G Q := by
  refine Runs.of "ClockPost$Letter" [some (.ref a), some (.ref b)] cw_L_become (by decide) (by decide +kernel) rfl (Nat.le_of_ble_eq_true rfl) rfl (fun K hK => ?_)
  have hF : Frm G G a 1 := Frm.rf
  refine r_aload_n hK d_L_become_0 rfl ?_
  refine r_aload_n hK d_L_become_1 rfl ?_
  refine r_get hK lf_L_9 d_L_become_2 (hL2) rfl ?_
  refine p_L_kind hK lf_L_9 d_L_become_5 hL (fun G5 hL f5 => ?_)
  have hF := hF.tr f5
  have hL2 := hL2.frm f5 (by omega)
  refine r_aload_n hK d_L_become_8 rfl ?_
  refine r_aload_n hK d_L_become_9 rfl ?_
  refine r_get hK lf_L_15 d_L_become_10 (hL2) rfl ?_
  refine p_L_fear hK lf_L_15 d_L_become_13 hL (fun G13 hL f13 => ?_)
  have hF := hF.tr f13
  have hL2 := hL2.frm f13 (by omega)
  refine r_aload_n hK d_L_become_16 rfl ?_
  refine r_aload_n hK d_L_become_17 rfl ?_
  refine r_get hK lf_L_18 d_L_become_18 (hL2) rfl ?_
  refine p_L_thick hK lf_L_18 d_L_become_21 hL (fun G21 hL f21 => ?_)
  have hF := hF.tr f21
  have hL2 := hL2.frm f21 (by omega)
  refine r_aload_n hK d_L_become_24 rfl ?_
  refine r_aload_n hK d_L_become_25 rfl ?_
  refine r_get hK lf_L_21 d_L_become_26 (hL2) rfl ?_
  refine p_L_holds hK lf_L_21 d_L_become_29 hL (fun G29 hL f29 => ?_)
  have hF := hF.tr f29
  have hL2 := hL2.frm f29 (by omega)
  refine r_aload_n hK d_L_become_32 rfl ?_
  refine r_aload_n hK d_L_become_33 rfl ?_
  refine r_get hK lf_L_24 d_L_become_34 (hL2) rfl ?_
  refine p_L_age hK lf_L_24 d_L_become_37 hL (fun G37 hL f37 => ?_)
  have hF := hF.tr f37
  have hL2 := hL2.frm f37 (by omega)
  refine r_vret hK rfl rfl d_L_become_40 ?_
  exact hQ _ hL hF
theorem c_L_change {E : gX} {S : Nat} {G : gG} {Q : Option Value → gG → Prop} {a : Nat} {x0 x1 x2 x3 x4 w x : Int32} (hL : LX G a [.int x0, .int x1, .int x2, .int x3, .int x4]) (hQ : ∀ G' : gG, LX G' a (if w = 0 then [.int x0, .int x, .int x2, .int x3, .int x4] else if w = 1 then [.int x0, .int x1, .int x2, .int x3, .int x] else [.int x, .int x1, .int x2, .int x3, .int x4]) → Frm G G' a 1 → Q none G') : Runs E y_L_change 1 0 S [.ref a, .int w, .int x] G Q := by
  refine Runs.of "ClockPost$Letter" [some (.ref a), some (.int w), some (.int x)] cw_L_change (by decide) (by decide +kernel) rfl (Nat.le_of_ble_eq_true rfl) rfl (fun K hK => ?_)
  refine r_iload_n hK d_L_change_0 rfl ?_
  refine r_lookup hK d_L_change_1 (by decide +kernel) (by decide +kernel) ⟨fun h1 => ?_, fun n1_0 => ⟨fun h1 => ?_, fun n1_1 => ?_⟩⟩
  · skip
    show K 28 _ _ _ _
    have hw : w = 0 := toI h1
    refine r_aload_n hK d_L_change_28 rfl ?_
    refine r_iload_n hK d_L_change_29 rfl ?_
    refine p_L_fear hK lf_L_15 d_L_change_30 hL (fun G30 hL f30 => ?_)
    have hF := f30
    refine r_goto (tgt := 49) hK d_L_change_33 rfl ?_
    refine r_vret hK rfl rfl d_L_change_49 ?_
    exact hQ _ (by simp only [*] at hL ⊢; simp at *; first | exact hL | assumption) hF
  · skip
    show K 36 _ _ _ _
    have hw : w = 1 := toI h1
    refine r_aload_n hK d_L_change_36 rfl ?_
    refine r_iload_n hK d_L_change_37 rfl ?_
    refine p_L_age hK lf_L_24 d_L_change_38 hL (fun G38 hL f38 => ?_)
    have hF := f38
    refine r_goto (tgt := 49) hK d_L_change_41 rfl ?_
    refine r_vret hK rfl rfl d_L_change_49 ?_
    exact hQ _ (by simp only [*] at hL ⊢; simp at *; first | exact hL | assumption) hF
  · skip
    show K 44 _ _ _ _
    have hw0 : ¬ w = 0 := fun q => n1_0 (by rw [q]; rfl)
    have hw1 : ¬ w = 1 := fun q => n1_1 (by rw [q]; rfl)
    refine r_aload_n hK d_L_change_44 rfl ?_
    refine r_iload_n hK d_L_change_45 rfl ?_
    refine p_L_kind hK lf_L_9 d_L_change_46 hL (fun G46 hL f46 => ?_)
    have hF := f46
    refine r_vret hK rfl rfl d_L_change_49 ?_
    exact hQ _ (by simp only [*] at hL ⊢; simp at *; first | exact hL | assumption) hF
theorem c_L_weighAmong {E : gX} {S : Nat} {G : gG} {Q : Option Value → gG → Prop} {a : Nat} {x0 x1 x2 x3 x4 o : Int32} (hL : LX G a [.int x0, .int x1, .int x2, .int x3, .int x4]) (hQ : Q (some (.int (wgh x0 x1 x4 o))) G) : Runs E y_L_weighAmong 1 0 S [.ref a, .int o] G Q := by
  refine Runs.of "ClockPost$Letter" [some (.ref a), some (.int o)] cw_L_weighAmong (by decide) (by decide +kernel) rfl (Nat.le_of_ble_eq_true rfl) rfl (fun K hK => ?_)
  refine r_aload_n hK d_L_weighAmong_0 rfl ?_
  refine r_get hK lf_L_9 d_L_weighAmong_1 (hL) rfl ?_
  refine r_table (td := 83) hK d_L_weighAmong_4 (by decide +kernel) rfl (fun h4 => ?_) ⟨fun h4 => ?_, fun h4 => ?_, fun h4 => ?_, fun h4 => ?_, trivial⟩
  · skip
    have hw2 : ¬ x0 = 2 := fun q => by rw [q] at h4; revert h4; decide
    have hw3 : ¬ x0 = 3 := fun q => by rw [q] at h4; revert h4; decide
    have hw4 : ¬ x0 = 4 := fun q => by rw [q] at h4; revert h4; decide
    have hw5 : ¬ x0 = 5 := fun q => by rw [q] at h4; revert h4; decide
    refine r_aload_n hK d_L_weighAmong_83 rfl ?_
    refine r_get hK lf_L_15 d_L_weighAmong_84 (hL) rfl ?_
    refine r_aload_n hK d_L_weighAmong_87 rfl ?_
    refine r_get hK lf_L_24 d_L_weighAmong_88 (hL) rfl ?_
    refine r_iadd hK d_L_weighAmong_91 ?_
    refine r_iret hK rfl rfl d_L_weighAmong_92 ?_
    exact rc hQ (by simp [wgh, hw2, hw3, hw4, hw5])
  · skip
    show K 36 _ _ _ _
    have hw : x0 = 2 := toI h4
    refine r_iconst hK d_L_weighAmong_36 kc_2 ?_
    refine r_aload_n hK d_L_weighAmong_37 rfl ?_
    refine r_get hK lf_L_15 d_L_weighAmong_38 (hL) rfl ?_
    refine r_aload_n hK d_L_weighAmong_41 rfl ?_
    refine r_get hK lf_L_24 d_L_weighAmong_42 (hL) rfl ?_
    refine r_iadd hK d_L_weighAmong_45 ?_
    refine r_imul hK d_L_weighAmong_46 ?_
    refine r_iret hK rfl rfl d_L_weighAmong_47 ?_
    exact rc hQ (by simp [wgh, hw])
  · skip
    show K 48 _ _ _ _
    have hw : x0 = 3 := toI h4
    refine r_aload_n hK d_L_weighAmong_48 rfl ?_
    refine r_get hK lf_L_24 d_L_weighAmong_49 (hL) rfl ?_
    refine r_bipush hK d_L_weighAmong_52 kb_9 ?_
    refine r_icmp_ge (tgt := 69) hK d_L_weighAmong_54 rfl (fun h54 => ?_) (fun h54 => ?_)
    · skip
      refine r_iconst hK d_L_weighAmong_69 kc_0 ?_
      refine r_iret hK rfl rfl d_L_weighAmong_70 ?_
      exact rc hQ (by first | (simp [wgh, hw, Int32.not_lt.mpr h54]; done) | (simp [wgh, hw, Int32.not_le.mp h54]; done))
    · skip
      refine r_aload_n hK d_L_weighAmong_57 rfl ?_
      refine r_get hK lf_L_15 d_L_weighAmong_58 (hL) rfl ?_
      refine r_aload_n hK d_L_weighAmong_61 rfl ?_
      refine r_get hK lf_L_24 d_L_weighAmong_62 (hL) rfl ?_
      refine r_iadd hK d_L_weighAmong_65 ?_
      refine r_goto (tgt := 70) hK d_L_weighAmong_66 rfl ?_
      refine r_iret hK rfl rfl d_L_weighAmong_70 ?_
      exact rc hQ (by first | (simp [wgh, hw, Int32.not_lt.mpr h54]; done) | (simp [wgh, hw, Int32.not_le.mp h54]; done))
  · skip
    show K 71 _ _ _ _
    have hw : x0 = 4 := toI h4
    refine r_aload_n hK d_L_weighAmong_71 rfl ?_
    refine r_get hK lf_L_15 d_L_weighAmong_72 (hL) rfl ?_
    refine r_iret hK rfl rfl d_L_weighAmong_75 ?_
    exact rc hQ (by simp [wgh, hw])
  · skip
    show K 76 _ _ _ _
    have hw : x0 = 5 := toI h4
    refine r_aload_n hK d_L_weighAmong_76 rfl ?_
    refine r_get hK lf_L_15 d_L_weighAmong_77 (hL) rfl ?_
    refine r_iload_n hK d_L_weighAmong_80 rfl ?_
    refine r_iadd hK d_L_weighAmong_81 ?_
    refine r_iret hK rfl rfl d_L_weighAmong_82 ?_
    exact rc hQ (by simp [wgh, hw])
theorem c_L_fallsAheadOf {E : gX} {S : Nat} {G : gG} {Q : Option Value → gG → Prop} {a b : Nat} {x0 x1 x2 x3 x4 y0 y1 y2 y3 y4 : Int32} (hL : LX G a [.int x0, .int x1, .int x2, .int x3, .int x4]) (hL2 : LX G b [.int y0, .int y1, .int y2, .int y3, .int y4]) (hQ : Q (some (.int (bI (decide (y2 < x2) || (decide (x2 = y2) && decide (y4 < x4)))))) G) : Runs E y_L_fallsAheadOf 1 0 S [.ref a, .ref b] G Q := by
  refine Runs.of "ClockPost$Letter" [some (.ref a), some (.ref b)] cw_L_fallsAheadOf (by decide) (by decide +kernel) rfl (Nat.le_of_ble_eq_true rfl) rfl (fun K hK => ?_)
  refine r_aload_n hK d_L_fallsAheadOf_0 rfl ?_
  refine r_get hK lf_L_18 d_L_fallsAheadOf_1 (hL) rfl ?_
  refine r_aload_n hK d_L_fallsAheadOf_4 rfl ?_
  refine r_get hK lf_L_18 d_L_fallsAheadOf_5 (hL2) rfl ?_
  refine r_icmp_gt (tgt := 33) hK d_L_fallsAheadOf_8 rfl (fun h8 => ?_) (fun h8 => ?_)
  · skip
    refine r_iconst hK d_L_fallsAheadOf_33 kc_1 ?_
    refine r_goto (tgt := 38) hK d_L_fallsAheadOf_34 rfl ?_
    refine r_zret hK rfl (rfl) rfl d_L_fallsAheadOf_38 ?_
    first | exact rc hQ (bI_t (by clear hK hQ; simp only [i_lt, Bool.and_eq_true, Bool.or_eq_true, Bool.not_eq_true', decide_eq_true_eq, decide_eq_false_iff_not, i_lt, i_le, i_eq, ti_0, ti_1, ti_2, ti_3, ti_4, ti_5, ti_6, ti_7, ti_8, ti_9, ti_10, ti_11, ti_12, ti_13, ti_14, ti_16, ti_20, ti_21, ti_22, ti_23, ti_24, ti_30, ti_31, ti_36, ti_40, ti_44, ti_48, ti_57, ti_59, ti_60, ti_61, ti_63, ti_64, ti_98, ti_99, ti_100, ti_101, ti_110, ti_115, ti_128, ti_255, ti_300, ti_900, ti_972, ti_999, ti_1000, ti_9999, ti_m1] at *; omega)) | exact rc hQ (bI_f (by intro hq; clear hK hQ; simp only [i_lt, Bool.and_eq_true, Bool.or_eq_true, Bool.not_eq_true', decide_eq_true_eq, decide_eq_false_iff_not, i_lt, i_le, i_eq, ti_0, ti_1, ti_2, ti_3, ti_4, ti_5, ti_6, ti_7, ti_8, ti_9, ti_10, ti_11, ti_12, ti_13, ti_14, ti_16, ti_20, ti_21, ti_22, ti_23, ti_24, ti_30, ti_31, ti_36, ti_40, ti_44, ti_48, ti_57, ti_59, ti_60, ti_61, ti_63, ti_64, ti_98, ti_99, ti_100, ti_101, ti_110, ti_115, ti_128, ti_255, ti_300, ti_900, ti_972, ti_999, ti_1000, ti_9999, ti_m1] at *; omega))
  · skip
    refine r_aload_n hK d_L_fallsAheadOf_11 rfl ?_
    refine r_get hK lf_L_18 d_L_fallsAheadOf_12 (hL) rfl ?_
    refine r_aload_n hK d_L_fallsAheadOf_15 rfl ?_
    refine r_get hK lf_L_18 d_L_fallsAheadOf_16 (hL2) rfl ?_
    refine r_icmp_ne (tgt := 37) hK d_L_fallsAheadOf_19 rfl (fun h19 => ?_) (fun h19 => ?_)
    · skip
      refine r_iconst hK d_L_fallsAheadOf_37 kc_0 ?_
      refine r_zret hK rfl (rfl) rfl d_L_fallsAheadOf_38 ?_
      first | exact rc hQ (bI_t (by clear hK hQ; simp only [i_lt, Bool.and_eq_true, Bool.or_eq_true, Bool.not_eq_true', decide_eq_true_eq, decide_eq_false_iff_not, i_lt, i_le, i_eq, ti_0, ti_1, ti_2, ti_3, ti_4, ti_5, ti_6, ti_7, ti_8, ti_9, ti_10, ti_11, ti_12, ti_13, ti_14, ti_16, ti_20, ti_21, ti_22, ti_23, ti_24, ti_30, ti_31, ti_36, ti_40, ti_44, ti_48, ti_57, ti_59, ti_60, ti_61, ti_63, ti_64, ti_98, ti_99, ti_100, ti_101, ti_110, ti_115, ti_128, ti_255, ti_300, ti_900, ti_972, ti_999, ti_1000, ti_9999, ti_m1] at *; omega)) | exact rc hQ (bI_f (by intro hq; clear hK hQ; simp only [i_lt, Bool.and_eq_true, Bool.or_eq_true, Bool.not_eq_true', decide_eq_true_eq, decide_eq_false_iff_not, i_lt, i_le, i_eq, ti_0, ti_1, ti_2, ti_3, ti_4, ti_5, ti_6, ti_7, ti_8, ti_9, ti_10, ti_11, ti_12, ti_13, ti_14, ti_16, ti_20, ti_21, ti_22, ti_23, ti_24, ti_30, ti_31, ti_36, ti_40, ti_44, ti_48, ti_57, ti_59, ti_60, ti_61, ti_63, ti_64, ti_98, ti_99, ti_100, ti_101, ti_110, ti_115, ti_128, ti_255, ti_300, ti_900, ti_972, ti_999, ti_1000, ti_9999, ti_m1] at *; omega))
    · skip
      refine r_aload_n hK d_L_fallsAheadOf_22 rfl ?_
      refine r_get hK lf_L_24 d_L_fallsAheadOf_23 (hL) rfl ?_
      refine r_aload_n hK d_L_fallsAheadOf_26 rfl ?_
      refine r_get hK lf_L_24 d_L_fallsAheadOf_27 (hL2) rfl ?_
      refine r_icmp_le (tgt := 37) hK d_L_fallsAheadOf_30 rfl (fun h30 => ?_) (fun h30 => ?_)
      · skip
        refine r_iconst hK d_L_fallsAheadOf_37 kc_0 ?_
        refine r_zret hK rfl (rfl) rfl d_L_fallsAheadOf_38 ?_
        first | exact rc hQ (bI_t (by clear hK hQ; simp only [i_lt, Bool.and_eq_true, Bool.or_eq_true, Bool.not_eq_true', decide_eq_true_eq, decide_eq_false_iff_not, i_lt, i_le, i_eq, ti_0, ti_1, ti_2, ti_3, ti_4, ti_5, ti_6, ti_7, ti_8, ti_9, ti_10, ti_11, ti_12, ti_13, ti_14, ti_16, ti_20, ti_21, ti_22, ti_23, ti_24, ti_30, ti_31, ti_36, ti_40, ti_44, ti_48, ti_57, ti_59, ti_60, ti_61, ti_63, ti_64, ti_98, ti_99, ti_100, ti_101, ti_110, ti_115, ti_128, ti_255, ti_300, ti_900, ti_972, ti_999, ti_1000, ti_9999, ti_m1] at *; omega)) | exact rc hQ (bI_f (by intro hq; clear hK hQ; simp only [i_lt, Bool.and_eq_true, Bool.or_eq_true, Bool.not_eq_true', decide_eq_true_eq, decide_eq_false_iff_not, i_lt, i_le, i_eq, ti_0, ti_1, ti_2, ti_3, ti_4, ti_5, ti_6, ti_7, ti_8, ti_9, ti_10, ti_11, ti_12, ti_13, ti_14, ti_16, ti_20, ti_21, ti_22, ti_23, ti_24, ti_30, ti_31, ti_36, ti_40, ti_44, ti_48, ti_57, ti_59, ti_60, ti_61, ti_63, ti_64, ti_98, ti_99, ti_100, ti_101, ti_110, ti_115, ti_128, ti_255, ti_300, ti_900, ti_972, ti_999, ti_1000, ti_9999, ti_m1] at *; omega))
      · skip
        refine r_iconst hK d_L_fallsAheadOf_33 kc_1 ?_
        refine r_goto (tgt := 38) hK d_L_fallsAheadOf_34 rfl ?_
        refine r_zret hK rfl (rfl) rfl d_L_fallsAheadOf_38 ?_
        first | exact rc hQ (bI_t (by clear hK hQ; simp only [i_lt, Bool.and_eq_true, Bool.or_eq_true, Bool.not_eq_true', decide_eq_true_eq, decide_eq_false_iff_not, i_lt, i_le, i_eq, ti_0, ti_1, ti_2, ti_3, ti_4, ti_5, ti_6, ti_7, ti_8, ti_9, ti_10, ti_11, ti_12, ti_13, ti_14, ti_16, ti_20, ti_21, ti_22, ti_23, ti_24, ti_30, ti_31, ti_36, ti_40, ti_44, ti_48, ti_57, ti_59, ti_60, ti_61, ti_63, ti_64, ti_98, ti_99, ti_100, ti_101, ti_110, ti_115, ti_128, ti_255, ti_300, ti_900, ti_972, ti_999, ti_1000, ti_9999, ti_m1] at *; omega)) | exact rc hQ (bI_f (by intro hq; clear hK hQ; simp only [i_lt, Bool.and_eq_true, Bool.or_eq_true, Bool.not_eq_true', decide_eq_true_eq, decide_eq_false_iff_not, i_lt, i_le, i_eq, ti_0, ti_1, ti_2, ti_3, ti_4, ti_5, ti_6, ti_7, ti_8, ti_9, ti_10, ti_11, ti_12, ti_13, ti_14, ti_16, ti_20, ti_21, ti_22, ti_23, ti_24, ti_30, ti_31, ti_36, ti_40, ti_44, ti_48, ti_57, ti_59, ti_60, ti_61, ti_63, ti_64, ti_98, ti_99, ti_100, ti_101, ti_110, ti_115, ti_128, ti_255, ti_300, ti_900, ti_972, ti_999, ti_1000, ti_9999, ti_m1] at *; omega))
theorem c_R_hasPlaces {E : gX} {S : Nat} {G : gG} {Q : Option Value → gG → Prop} {r : Nat} {ms lane size i n : Int32} {f : Nat → Int32} (hR : RX G r ms lane size f) (hQ : Q (some (.int (bI (hasP size i n)))) G) : Runs E y_R_hasPlaces 1 0 S [.ref r, .int i, .int n] G Q := by
  refine Runs.of "ClockPost$Row" [some (.ref r), some (.int i), some (.int n)] cw_R_hasPlaces (by decide) (by decide +kernel) rfl (Nat.le_of_ble_eq_true rfl) rfl (fun K hK => ?_)
  refine r_iload_n hK d_R_hasPlaces_0 rfl ?_
  refine r_if_lt (tgt := 22) hK d_R_hasPlaces_1 rfl (fun h1 => ?_) (fun h1 => ?_)
  · skip
    refine r_iconst hK d_R_hasPlaces_22 kc_0 ?_
    refine r_zret hK rfl (rfl) rfl d_R_hasPlaces_23 ?_
    first | exact rc hQ (bI_t (by clear hK hQ; simp only [hasP, Bool.and_eq_true, Bool.or_eq_true, Bool.not_eq_true', decide_eq_true_eq, decide_eq_false_iff_not, i_lt, i_le, i_eq, ti_0, ti_1, ti_2, ti_3, ti_4, ti_5, ti_6, ti_7, ti_8, ti_9, ti_10, ti_11, ti_12, ti_13, ti_14, ti_16, ti_20, ti_21, ti_22, ti_23, ti_24, ti_30, ti_31, ti_36, ti_40, ti_44, ti_48, ti_57, ti_59, ti_60, ti_61, ti_63, ti_64, ti_98, ti_99, ti_100, ti_101, ti_110, ti_115, ti_128, ti_255, ti_300, ti_900, ti_972, ti_999, ti_1000, ti_9999, ti_m1] at *; omega)) | exact rc hQ (bI_f (by intro hq; clear hK hQ; simp only [hasP, Bool.and_eq_true, Bool.or_eq_true, Bool.not_eq_true', decide_eq_true_eq, decide_eq_false_iff_not, i_lt, i_le, i_eq, ti_0, ti_1, ti_2, ti_3, ti_4, ti_5, ti_6, ti_7, ti_8, ti_9, ti_10, ti_11, ti_12, ti_13, ti_14, ti_16, ti_20, ti_21, ti_22, ti_23, ti_24, ti_30, ti_31, ti_36, ti_40, ti_44, ti_48, ti_57, ti_59, ti_60, ti_61, ti_63, ti_64, ti_98, ti_99, ti_100, ti_101, ti_110, ti_115, ti_128, ti_255, ti_300, ti_900, ti_972, ti_999, ti_1000, ti_9999, ti_m1] at *; omega))
  · skip
    refine r_iload_n hK d_R_hasPlaces_4 rfl ?_
    refine r_if_lt (tgt := 22) hK d_R_hasPlaces_5 rfl (fun h5 => ?_) (fun h5 => ?_)
    · skip
      refine r_iconst hK d_R_hasPlaces_22 kc_0 ?_
      refine r_zret hK rfl (rfl) rfl d_R_hasPlaces_23 ?_
      first | exact rc hQ (bI_t (by clear hK hQ; simp only [hasP, Bool.and_eq_true, Bool.or_eq_true, Bool.not_eq_true', decide_eq_true_eq, decide_eq_false_iff_not, i_lt, i_le, i_eq, ti_0, ti_1, ti_2, ti_3, ti_4, ti_5, ti_6, ti_7, ti_8, ti_9, ti_10, ti_11, ti_12, ti_13, ti_14, ti_16, ti_20, ti_21, ti_22, ti_23, ti_24, ti_30, ti_31, ti_36, ti_40, ti_44, ti_48, ti_57, ti_59, ti_60, ti_61, ti_63, ti_64, ti_98, ti_99, ti_100, ti_101, ti_110, ti_115, ti_128, ti_255, ti_300, ti_900, ti_972, ti_999, ti_1000, ti_9999, ti_m1] at *; omega)) | exact rc hQ (bI_f (by intro hq; clear hK hQ; simp only [hasP, Bool.and_eq_true, Bool.or_eq_true, Bool.not_eq_true', decide_eq_true_eq, decide_eq_false_iff_not, i_lt, i_le, i_eq, ti_0, ti_1, ti_2, ti_3, ti_4, ti_5, ti_6, ti_7, ti_8, ti_9, ti_10, ti_11, ti_12, ti_13, ti_14, ti_16, ti_20, ti_21, ti_22, ti_23, ti_24, ti_30, ti_31, ti_36, ti_40, ti_44, ti_48, ti_57, ti_59, ti_60, ti_61, ti_63, ti_64, ti_98, ti_99, ti_100, ti_101, ti_110, ti_115, ti_128, ti_255, ti_300, ti_900, ti_972, ti_999, ti_1000, ti_9999, ti_m1] at *; omega))
    · skip
      refine r_iload_n hK d_R_hasPlaces_8 rfl ?_
      refine r_aload_n hK d_R_hasPlaces_9 rfl ?_
      refine r_get hK lf_R_29 d_R_hasPlaces_10 (hR.1) rfl ?_
      refine r_iload_n hK d_R_hasPlaces_13 rfl ?_
      refine r_isub hK d_R_hasPlaces_14 ?_
      refine r_icmp_gt (tgt := 22) hK d_R_hasPlaces_15 rfl (fun h15 => ?_) (fun h15 => ?_)
      · skip
        refine r_iconst hK d_R_hasPlaces_22 kc_0 ?_
        refine r_zret hK rfl (rfl) rfl d_R_hasPlaces_23 ?_
        first | exact rc hQ (bI_t (by clear hK hQ; simp only [hasP, Bool.and_eq_true, Bool.or_eq_true, Bool.not_eq_true', decide_eq_true_eq, decide_eq_false_iff_not, i_lt, i_le, i_eq, ti_0, ti_1, ti_2, ti_3, ti_4, ti_5, ti_6, ti_7, ti_8, ti_9, ti_10, ti_11, ti_12, ti_13, ti_14, ti_16, ti_20, ti_21, ti_22, ti_23, ti_24, ti_30, ti_31, ti_36, ti_40, ti_44, ti_48, ti_57, ti_59, ti_60, ti_61, ti_63, ti_64, ti_98, ti_99, ti_100, ti_101, ti_110, ti_115, ti_128, ti_255, ti_300, ti_900, ti_972, ti_999, ti_1000, ti_9999, ti_m1] at *; omega)) | exact rc hQ (bI_f (by intro hq; clear hK hQ; simp only [hasP, Bool.and_eq_true, Bool.or_eq_true, Bool.not_eq_true', decide_eq_true_eq, decide_eq_false_iff_not, i_lt, i_le, i_eq, ti_0, ti_1, ti_2, ti_3, ti_4, ti_5, ti_6, ti_7, ti_8, ti_9, ti_10, ti_11, ti_12, ti_13, ti_14, ti_16, ti_20, ti_21, ti_22, ti_23, ti_24, ti_30, ti_31, ti_36, ti_40, ti_44, ti_48, ti_57, ti_59, ti_60, ti_61, ti_63, ti_64, ti_98, ti_99, ti_100, ti_101, ti_110, ti_115, ti_128, ti_255, ti_300, ti_900, ti_972, ti_999, ti_1000, ti_9999, ti_m1] at *; omega))
      · skip
        refine r_iconst hK d_R_hasPlaces_18 kc_1 ?_
        refine r_goto (tgt := 23) hK d_R_hasPlaces_19 rfl ?_
        refine r_zret hK rfl (rfl) rfl d_R_hasPlaces_23 ?_
        first | exact rc hQ (bI_t (by clear hK hQ; simp only [hasP, Bool.and_eq_true, Bool.or_eq_true, Bool.not_eq_true', decide_eq_true_eq, decide_eq_false_iff_not, i_lt, i_le, i_eq, ti_0, ti_1, ti_2, ti_3, ti_4, ti_5, ti_6, ti_7, ti_8, ti_9, ti_10, ti_11, ti_12, ti_13, ti_14, ti_16, ti_20, ti_21, ti_22, ti_23, ti_24, ti_30, ti_31, ti_36, ti_40, ti_44, ti_48, ti_57, ti_59, ti_60, ti_61, ti_63, ti_64, ti_98, ti_99, ti_100, ti_101, ti_110, ti_115, ti_128, ti_255, ti_300, ti_900, ti_972, ti_999, ti_1000, ti_9999, ti_m1] at *; omega)) | exact rc hQ (bI_f (by intro hq; clear hK hQ; simp only [hasP, Bool.and_eq_true, Bool.or_eq_true, Bool.not_eq_true', decide_eq_true_eq, decide_eq_false_iff_not, i_lt, i_le, i_eq, ti_0, ti_1, ti_2, ti_3, ti_4, ti_5, ti_6, ti_7, ti_8, ti_9, ti_10, ti_11, ti_12, ti_13, ti_14, ti_16, ti_20, ti_21, ti_22, ti_23, ti_24, ti_30, ti_31, ti_36, ti_40, ti_44, ti_48, ti_57, ti_59, ti_60, ti_61, ti_63, ti_64, ti_98, ti_99, ti_100, ti_101, ti_110, ti_115, ti_128, ti_255, ti_300, ti_900, ti_972, ti_999, ti_1000, ti_9999, ti_m1] at *; omega))
theorem c_JI_bitCount {E : gX} {S : Nat} {G : gG} {Q : Option Value → gG → Prop} {x : Int32} (hQ : Q (some (.int (bitc x))) G) : Runs E y_JI_bitCount 1 0 S [.int x] G Q := by
  refine Runs.of "java/lang/Integer" [some (.int x)] cw_JI_bitCount (by decide) (by decide +kernel) rfl (Nat.le_of_ble_eq_true rfl) rfl (fun K hK => ?_)
  refine r_iload_n hK d_JI_bitCount_0 rfl ?_
  refine r_iload_n hK d_JI_bitCount_1 rfl ?_
  refine r_iconst hK d_JI_bitCount_2 kc_1 ?_
  refine r_iushr hK d_JI_bitCount_3 ?_
  refine r_ldcw hK d_JI_bitCount_4 lc_JI_265 ?_
  refine r_iand hK d_JI_bitCount_7 ?_
  refine r_isub hK d_JI_bitCount_8 ?_
  refine st_in_0_1 hK d_JI_bitCount_9 ?_
  refine r_iload_n hK d_JI_bitCount_10 rfl ?_
  refine r_ldcw hK d_JI_bitCount_11 lc_JI_266 ?_
  refine r_iand hK d_JI_bitCount_14 ?_
  refine r_iload_n hK d_JI_bitCount_15 rfl ?_
  refine r_iconst hK d_JI_bitCount_16 kc_2 ?_
  refine r_iushr hK d_JI_bitCount_17 ?_
  refine r_ldcw hK d_JI_bitCount_18 lc_JI_266 ?_
  refine r_iand hK d_JI_bitCount_21 ?_
  refine r_iadd hK d_JI_bitCount_22 ?_
  refine st_in_0_1 hK d_JI_bitCount_23 ?_
  refine r_iload_n hK d_JI_bitCount_24 rfl ?_
  refine r_iload_n hK d_JI_bitCount_25 rfl ?_
  refine r_iconst hK d_JI_bitCount_26 kc_4 ?_
  refine r_iushr hK d_JI_bitCount_27 ?_
  refine r_iadd hK d_JI_bitCount_28 ?_
  refine r_ldcw hK d_JI_bitCount_29 lc_JI_267 ?_
  refine r_iand hK d_JI_bitCount_32 ?_
  refine st_in_0_1 hK d_JI_bitCount_33 ?_
  refine r_iload_n hK d_JI_bitCount_34 rfl ?_
  refine r_iload_n hK d_JI_bitCount_35 rfl ?_
  refine r_bipush hK d_JI_bitCount_36 kb_8 ?_
  refine r_iushr hK d_JI_bitCount_38 ?_
  refine r_iadd hK d_JI_bitCount_39 ?_
  refine st_in_0_1 hK d_JI_bitCount_40 ?_
  refine r_iload_n hK d_JI_bitCount_41 rfl ?_
  refine r_iload_n hK d_JI_bitCount_42 rfl ?_
  refine r_bipush hK d_JI_bitCount_43 kb_16 ?_
  refine r_iushr hK d_JI_bitCount_45 ?_
  refine r_iadd hK d_JI_bitCount_46 ?_
  refine st_in_0_1 hK d_JI_bitCount_47 ?_
  refine r_iload_n hK d_JI_bitCount_48 rfl ?_
  refine r_bipush hK d_JI_bitCount_49 kb_63 ?_
  refine r_iand hK d_JI_bitCount_51 ?_
  refine r_iret hK rfl rfl d_JI_bitCount_52 ?_
  exact hQ
theorem c_JA_fill {E : gX} {S : Nat} {G : gG} {Q : Option Value → gG → Prop} {a n : Nat} {f : Nat → Int32} {x : Int32} (hG : G a = some (.inl (0, n, .inl f))) (hn : n < 2 ^ 31) (hQ : ∀ G' : gG, G' a = some (.inl (0, n, .inl (fillV f x n))) → Frm G G' a 1 → Q none G') : Runs E y_JA_fill 1 0 S [.ref a, .int x] G Q := by
  refine Runs.of "java/util/Arrays" [some (.ref a), some (.int x), none, none] cw_JA_fill (by decide) (by decide +kernel) rfl (Nat.le_of_ble_eq_true rfl) rfl (fun K hK => ?_)
  refine r_iconst hK d_JA_fill_0 kc_0 ?_
  refine st_in_2_4 hK d_JA_fill_1 trivial ?_
  refine r_aload_n hK d_JA_fill_2 rfl ?_
  refine r_alen (v := nI n) hK d_JA_fill_3 hG (by decide) rfl ?_
  refine st_in_3_4 hK d_JA_fill_4 trivial ?_
  suffices L : ∀ j, j ≤ n → ∀ G1 : gG, G1 a = some (.inl (0, n, .inl (fillV f x j))) → Frm G G1 a 1 → K 5 [some (.ref a), some (.int x), some (.int (nI j)), some (.int (nI n))] [] S G1 from L 0 (Nat.zero_le _) G (by rw [fillV_0]; exact hG) Frm.rf
  refine lpN n (fun j hj ih G1 h1 hF => ?_)
  refine r_iload_n hK d_JA_fill_5 rfl ?_
  refine r_iload_n hK d_JA_fill_6 rfl ?_
  refine r_icmp_ge (tgt := 20) hK d_JA_fill_7 rfl (fun h7 => ?_) (fun h7 => ?_)
  · skip
    have hjn : j = n := by have := (nI_leI hn (by omega)).mp h7; omega
    subst hjn
    refine r_vret hK rfl rfl d_JA_fill_20 ?_
    exact hQ _ h1 hF
  · skip
    have hjn : j < n := Nat.not_le.mp (fun q => h7 ((nI_leI hn (by omega)).mpr q))
    refine r_aload_n hK d_JA_fill_10 rfl ?_
    refine r_iload_n hK d_JA_fill_11 rfl ?_
    refine r_iload_n hK d_JA_fill_12 rfl ?_
    refine r_iast hK d_JA_fill_13 h1 (vp_in_nI hjn hn) ?_
    rw [nI_clamp (by omega)]
    first | refine iN_2_4 hK d_JA_fill_14 trivial ?_ | refine ii_2_1_4 hK d_JA_fill_14 trivial ?_
    refine r_goto (tgt := 5) hK d_JA_fill_17 rfl ?_
    exact ih hjn _ (by rw [gup_s, fillV_s]) (hF.tr (Frm.up (by omega) (by omega)))
theorem c_R_lay {E : gX} {S : Nat} {G : gG} {Q : Option Value → gG → Prop} {r : Nat} {ms lane size l n : Int32} {f : Nat → Int32} (hR : RX G r ms lane size f) (hQ : ∀ G' : gG, RX G' r 0 l n (fillV f 0 40) → Frm G G' r 2 → Q none G') : Runs E y_R_lay 2 0 S [.ref r, .int l, .int n] G Q := by
  refine Runs.of "ClockPost$Row" [some (.ref r), some (.int l), some (.int n)] cw_R_lay (by decide) (by decide +kernel) rfl (Nat.le_of_ble_eq_true rfl) rfl (fun K hK => ?_)
  refine r_aload_n hK d_R_lay_0 rfl ?_
  refine r_get hK lf_R_9 d_R_lay_1 (hR.1) rfl ?_
  refine r_iconst hK d_R_lay_4 kc_0 ?_
  refine r_s2 (k' := 1) hK lm_R_19 d_R_lay_5 (by decide) (Nat.le_of_ble_eq_true rfl) ?_
  refine c_JA_fill hR.2 (by decide) (fun G5 h5 f5 => kc_n ?_)
  have hF : Frm G G5 r 2 := f5.mono (by omega) (by omega)
  have hR : RX G5 r ms lane size (fillV f 0 40) := ⟨(f5 _ (by omega)).trans hR.1, h5⟩
  refine r_aload_n hK d_R_lay_8 rfl ?_
  refine r_iconst hK d_R_lay_9 kc_0 ?_
  refine p_R_missing hK lf_R_15 d_R_lay_10 hR rfl rfl (fun G10 hR f10 => ?_)
  have hF := hF.tr f10
  refine r_aload_n hK d_R_lay_13 rfl ?_
  refine r_iload_n hK d_R_lay_14 rfl ?_
  refine p_R_lane hK lf_R_25 d_R_lay_15 hR (fun G15 hR f15 => ?_)
  have hF := hF.tr f15
  refine r_aload_n hK d_R_lay_18 rfl ?_
  refine r_iload_n hK d_R_lay_19 rfl ?_
  refine p_R_size hK lf_R_29 d_R_lay_20 hR (fun G20 hR f20 => ?_)
  have hF := hF.tr f20
  refine r_vret hK rfl rfl d_R_lay_23 ?_
  exact hQ _ hR hF
theorem c_R_put {E : gX} {S : Nat} {G : gG} {Q : Option Value → gG → Prop} {r z : Nat} {ms lane i v : Int32} {f : Nat → Int32} (hR : RX G r ms lane (nI z) f) (hs : z ≤ 40) (hQ : ∀ G' : gG, RX G' r ms lane (nI z) (if hasP (nI z) i 1 = true then upd f (nN i) (cutV lane v) else f) → Frm G G' r 2 → Q (some (.int (cutV lane v))) G') : Runs E y_R_put 2 0 S [.ref r, .int i, .int v] G Q := by
  refine Runs.of "ClockPost$Row" [some (.ref r), some (.int i), some (.int v), none] cw_R_put (by decide) (by decide +kernel) rfl (Nat.le_of_ble_eq_true rfl) rfl (fun K hK => ?_)
  have J : K 26 [some (.ref r), some (.int i), some (.int v), none] [.int (cutV lane v)] S G := by
    refine st_in_3_4 hK d_R_put_26 trivial ?_
    refine r_aload_n hK d_R_put_27 rfl ?_
    refine r_iload_n hK d_R_put_28 rfl ?_
    refine r_iconst hK d_R_put_29 kc_1 ?_
    refine r_v2 (k' := 1) hK lm_R_32 d_R_put_30 ⟨_, hR.1⟩ (by decide) (Nat.le_of_ble_eq_true rfl) ?_
    refine c_R_hasPlaces hR (kc_s ?_)
    refine r_if_eq (tgt := 43) hK d_R_put_33 rfl (fun h33 => ?_) (fun h33 => ?_)
    · skip
      have hb := bI_0.mp h33
      refine r_iload_n hK d_R_put_43 rfl ?_
      refine r_iret hK rfl rfl d_R_put_44 ?_
      first | exact hQ _ hR hF | (rw [if_neg (by simp [hb])] at hQ; exact hQ _ hR Frm.rf)
    · skip
      have hb := bI_n0.mp h33
      refine r_aload_n hK d_R_put_36 rfl ?_
      refine r_get hK lf_R_9 d_R_put_37 (hR.1) rfl ?_
      refine r_iload_n hK d_R_put_40 rfl ?_
      refine r_iload_n hK d_R_put_41 rfl ?_
      refine r_iast hK d_R_put_42 hR.2 (vp_in_iff.mpr (hasP_in hs hb)) ?_
      have hF : Frm G (gup G (r + 1) (.inl (0, 40, .inl (upd f (nN i) (cutV lane v))))) r 2 := Frm.up (by omega) (by omega)
      have hR : RX (gup G (r + 1) (.inl (0, 40, .inl (upd f (nN i) (cutV lane v))))) r ms lane (nI z) (upd f (nN i) (cutV lane v)) := ⟨(gup_n (by omega)).trans hR.1, gup_s⟩
      rw [if_pos hb] at hQ
      refine r_iload_n hK d_R_put_43 rfl ?_
      refine r_iret hK rfl rfl d_R_put_44 ?_
      first | exact hQ _ hR hF | (rw [if_neg (by simp [hb])] at hQ; exact hQ _ hR Frm.rf)
  have e26 : ∀ x : Int32, x = cutV lane v → K 26 [some (.ref r), some (.int i), some (.int v), none] [.int x] S G := fun x e => by rw [e]; exact J
  refine r_aload_n hK d_R_put_0 rfl ?_
  refine r_get hK lf_R_25 d_R_put_1 (hR.1) rfl ?_
  refine r_if_ne (tgt := 12) hK d_R_put_4 rfl (fun h4 => ?_) (fun h4 => ?_)
  · skip
    refine r_aload_n hK d_R_put_12 rfl ?_
    refine r_get hK lf_R_25 d_R_put_13 (hR.1) rfl ?_
    refine r_iconst hK d_R_put_16 kc_1 ?_
    refine r_icmp_ne (tgt := 25) hK d_R_put_17 rfl (fun h17 => ?_) (fun h17 => ?_)
    · skip
      refine r_iload_n hK d_R_put_25 rfl ?_
      exact e26 _ (by first | simp [cutV, *] | (simp only [cutV]; simp_all))
    · skip
      refine r_iload_n hK d_R_put_20 rfl ?_
      refine r_i2s hK d_R_put_21 ?_
      refine r_goto (tgt := 26) hK d_R_put_22 rfl ?_
      exact e26 _ (by first | simp [cutV, *] | (simp only [cutV]; simp_all))
  · skip
    refine r_iload_n hK d_R_put_7 rfl ?_
    refine r_i2b hK d_R_put_8 ?_
    refine r_goto (tgt := 26) hK d_R_put_9 rfl ?_
    exact e26 _ (by first | simp [cutV, *] | (simp only [cutV]; simp_all))
theorem c_R_itemAt {E : gX} {S : Nat} {G : gG} {Q : Option Value → gG → Prop} {r z : Nat} {ms lane i : Int32} {f : Nat → Int32} (hR : RX G r ms lane (nI z) f) (hs : z ≤ 40) (hQ : Q (some (.int (if hasP (nI z) i 1 = true then f (nN i) else 0))) G) : Runs E y_R_itemAt 2 0 S [.ref r, .int i] G Q := by
  refine Runs.of "ClockPost$Row" [some (.ref r), some (.int i)] cw_R_itemAt (by decide) (by decide +kernel) rfl (Nat.le_of_ble_eq_true rfl) rfl (fun K hK => ?_)
  refine r_aload_n hK d_R_itemAt_0 rfl ?_
  refine r_iload_n hK d_R_itemAt_1 rfl ?_
  refine r_iconst hK d_R_itemAt_2 kc_1 ?_
  refine r_v2 (k' := 1) hK lm_R_32 d_R_itemAt_3 ⟨_, hR.1⟩ (by decide) (Nat.le_of_ble_eq_true rfl) ?_
  refine c_R_hasPlaces hR (kc_s ?_)
  refine r_if_eq (tgt := 18) hK d_R_itemAt_6 rfl (fun h6 => ?_) (fun h6 => ?_)
  · skip
    have hb := bI_0.mp h6
    refine r_iconst hK d_R_itemAt_18 kc_0 ?_
    refine r_iret hK rfl rfl d_R_itemAt_19 ?_
    first | exact rc hQ (by rw [if_pos hb]; rfl) | exact rc hQ (by rw [if_neg (by simp [hb])])
  · skip
    have hb := bI_n0.mp h6
    refine r_aload_n hK d_R_itemAt_9 rfl ?_
    refine r_get hK lf_R_9 d_R_itemAt_10 (hR.1) rfl ?_
    refine r_iload_n hK d_R_itemAt_13 rfl ?_
    refine r_iald hK d_R_itemAt_14 hR.2 (vp_in_iff.mpr (hasP_in hs hb)) ?_
    refine r_goto (tgt := 19) hK d_R_itemAt_15 rfl ?_
    refine r_iret hK rfl rfl d_R_itemAt_19 ?_
    first | exact rc hQ (by rw [if_pos hb]; rfl) | exact rc hQ (by rw [if_neg (by simp [hb])])
theorem c_T_leave {E : gX} {S : Nat} {G : gG} {Q : Option Value → gG → Prop} {a m : Nat} {x : Int32} {f : Nat → Int32} (hT : TX G a f (nI m)) (hm : m ≤ 16) (hQ : ∀ G' : gG, TX G' a (if m < 16 then upd f m x else f) (nI (if m < 16 then m + 1 else m)) → Frm G G' a 2 → Q none G') : Runs E y_T_leave 1 0 S [.ref a, .int x] G Q := by
  refine Runs.of "ClockPost$Trace" [some (.ref a), some (.int x)] cw_T_leave (by decide) (by decide +kernel) rfl (Nat.le_of_ble_eq_true rfl) rfl (fun K hK => ?_)
  refine r_aload_n hK d_T_leave_0 rfl ?_
  refine r_get hK lf_T_15 d_T_leave_1 (hT.1) rfl ?_
  refine r_aload_n hK d_T_leave_4 rfl ?_
  refine r_get hK lf_T_9 d_T_leave_5 (hT.1) rfl ?_
  refine r_alen (v := nI 16) hK d_T_leave_8 hT.2 (by decide) rfl ?_
  refine r_icmp_ge (tgt := 32) hK d_T_leave_9 rfl (fun h9 => ?_) (fun h9 => ?_)
  · skip
    have hq : ¬ m < 16 := by have := (nI_leI (by decide) (by omega)).mp h9; omega
    refine r_vret hK rfl rfl d_T_leave_32 ?_
    first | exact hQ _ hT hF | (rw [if_neg hq, if_neg hq] at hQ; exact hQ _ hT Frm.rf)
  · skip
    have hq : m < 16 := Nat.not_le.mp (fun q => h9 ((nI_leI (by decide) (by omega)).mpr q))
    rw [if_pos hq, if_pos hq] at hQ
    refine r_aload_n hK d_T_leave_12 rfl ?_
    refine r_get hK lf_T_9 d_T_leave_13 (hT.1) rfl ?_
    refine r_aload_n hK d_T_leave_16 rfl ?_
    refine r_get hK lf_T_15 d_T_leave_17 (hT.1) rfl ?_
    refine r_iload_n hK d_T_leave_20 rfl ?_
    refine r_iast hK d_T_leave_21 hT.2 (vp_in_nI hq (by omega)) ?_
    rw [nI_clamp (by omega)]
    have hF : Frm G (gup G (a + 1) _) a 2 := Frm.up (e := .inl (0, 16, .inl (upd f m x))) (by omega) (by omega)
    have hT : TX (gup G (a + 1) (.inl (0, 16, .inl (upd f m x)))) a (upd f m x) (nI m) := ⟨(gup_n (by omega)).trans hT.1, gup_s⟩
    refine r_aload_n hK d_T_leave_22 rfl ?_
    refine r_dup hK d_T_leave_23 rfl ?_
    refine r_get hK lf_T_15 d_T_leave_24 (hT.1) rfl ?_
    refine r_iconst hK d_T_leave_27 kc_1 ?_
    refine r_iadd hK d_T_leave_28 ?_
    rw [nI_1]
    refine p_T_length hK lf_T_15 d_T_leave_29 hT (fun G29 hT f29 => ?_)
    have hF := hF.tr f29
    refine r_vret hK rfl rfl d_T_leave_32 ?_
    first | exact hQ _ hT hF | (rw [if_neg hq, if_neg hq] at hQ; exact hQ _ hT Frm.rf)
