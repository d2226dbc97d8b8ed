theorem lfC_0 {lf c : Int32} (h : c = 0) : lfC lf c = lf := if_pos h
theorem HX.setL3 {G G' : gG} {h j r : Nat} {s : Int32} {v : Nat → Int32} {y1 y2 y3 : Int32} (hH : HX G h s v) (hj : j < 6) (hL : LX G' (h + 2 + j) [.int (v (6 + j)), .int y1, .int y2, .int y3, .int (v (30 + j))]) (hF : Frm2 G G' r 2 (h + 2 + j) 1) (hd : h + 8 ≤ r ∨ r + 2 ≤ h) : HX G' h s (upd (upd (upd v (12 + j) y1) (18 + j) y2) (24 + j) y3) := by
  refine ⟨?_, (hF _ (by omega) (by omega)).trans hH.2.1, fun i hi => ?_⟩
  · rw [hF _ (by omega) (by omega)]
    simp only [upd_n (show 0 ≠ 24 + j by omega), upd_n (show 0 ≠ 18 + j by omega), upd_n (show 0 ≠ 12 + j by omega), upd_n (show 1 ≠ 24 + j by omega), upd_n (show 1 ≠ 18 + j by omega), upd_n (show 1 ≠ 12 + j by omega), upd_n (show 2 ≠ 24 + j by omega), upd_n (show 2 ≠ 18 + j by omega), upd_n (show 2 ≠ 12 + j by omega), upd_n (show 3 ≠ 24 + j by omega), upd_n (show 3 ≠ 18 + j by omega), upd_n (show 3 ≠ 12 + j by omega), upd_n (show 4 ≠ 24 + j by omega), upd_n (show 4 ≠ 18 + j by omega), upd_n (show 4 ≠ 12 + j by omega), upd_n (show 5 ≠ 24 + j by omega), upd_n (show 5 ≠ 18 + j by omega), upd_n (show 5 ≠ 12 + j by omega)]
    exact hH.1
  · by_cases e : i = j
    · subst e
      unfold letL
      rw [upd_n (show 6 + i ≠ 24 + i by omega), upd_n (show 6 + i ≠ 18 + i by omega), upd_n (show 6 + i ≠ 12 + i by omega), upd_n (show 12 + i ≠ 24 + i by omega), upd_n (show 12 + i ≠ 18 + i by omega), upd_s, upd_n (show 18 + i ≠ 24 + i by omega), upd_s, upd_s, upd_n (show 30 + i ≠ 24 + i by omega), upd_n (show 30 + i ≠ 18 + i by omega), upd_n (show 30 + i ≠ 12 + i by omega)]
      exact hL
    · unfold LX
      rw [hF _ (by omega) (by omega)]
      have := hH.2.2 i hi
      unfold letL at this ⊢
      rw [upd_n (show 6 + i ≠ 24 + j by omega), upd_n (show 6 + i ≠ 18 + j by omega), upd_n (show 6 + i ≠ 12 + j by omega), upd_n (show 12 + i ≠ 24 + j by omega), upd_n (show 12 + i ≠ 18 + j by omega), upd_n (show 12 + i ≠ 12 + j by omega), upd_n (show 18 + i ≠ 24 + j by omega), upd_n (show 18 + i ≠ 18 + j by omega), upd_n (show 18 + i ≠ 12 + j by omega), upd_n (show 24 + i ≠ 24 + j by omega), upd_n (show 24 + i ≠ 18 + j by omega), upd_n (show 24 + i ≠ 12 + j by omega), upd_n (show 30 + i ≠ 24 + j by omega), upd_n (show 30 + i ≠ 18 + j by omega), upd_n (show 30 + i ≠ 12 + j by omega)]
      exact this
theorem c_P_readFigures {E : gX} {S : Nat} {G : gG} {Q : Option Value → gG → Prop} {r m p : Nat} {lf nb : Int32} {f : Nat → Int32} (hP : PX G r f (nI m) lf (nI p) nb) (hm : m ≤ 100) (hp : p ≤ m) {a : Nat} {k0 g0 : Value} {f0 t0 h0 : Int32} (hL : LX G a [k0, .int f0, .int t0, .int h0, g0]) (hd : a < r ∨ r + 2 ≤ a) (hQ : ∀ (G' : gG) (nb' x1 x2 x3 : Int32), PX G' r f (nI m) (lfC lf (rFig f m p).1) (nI (rFig f m p).2.1) nb' → LX G' a [k0, .int x1, .int x2, .int x3, g0] → ((rFig f m p).1 = 0 → x1 = (rFig f m p).2.2.1 ∧ x2 = (rFig f m p).2.2.2.1 ∧ x3 = (rFig f m p).2.2.2.2) → Frm2 G G' r 2 a 1 → Q (some (.int (bI (zB (rFig f m p).1)))) G') : Runs E y_P_readFigures 3 0 S [.ref r, .ref a] G Q := by
  refine Runs.of "ClockPost$Tape" [some (.ref r), some (.ref a)] cw_P_readFigures (by decide) (by decide +kernel) rfl (Nat.le_of_ble_eq_true rfl) rfl (fun K hK => ?_)
  have hF : Frm2 G G r 2 a 1 := Frm2.rf
  refine r_aload_n hK d_P_readFigures_0 rfl ?_
  refine r_iconst hK d_P_readFigures_1 kc_0 ?_
  refine r_bipush hK d_P_readFigures_2 kb_9 ?_
  refine r_v2 (k' := 2) hK lm_P_42 d_P_readFigures_4 ⟨_, hP.1⟩ (by decide) (Nat.le_of_ble_eq_true rfl) ?_
  refine c_P_readNumber hP hm hp (fun G4 nb4 hP e4 f4 => kc_s ?_)
  have hL := hL.frm f4 (by omega)
  have hF := hF.tr f4.l
  refine r_if_ne (tgt := 12) hK d_P_readFigures_7 rfl (fun h7 => ?_) (fun h7 => ?_)
  · skip
    have cn1 := zB_t.mp (bI_n0.mp h7)
    rw [lfC_0 cn1] at hP
    refine r_aload_n hK d_P_readFigures_12 rfl ?_
    refine r_aload_n hK d_P_readFigures_13 rfl ?_
    refine r_get hK lf_P_46 d_P_readFigures_14 (hP.1) rfl ?_
    refine p_L_fear hK lf_P_88 d_P_readFigures_17 hL (fun G17 hL f17 => ?_)
    have hP := hP.frm f17 (by omega)
    have hF := hF.tr f17.r
    refine r_aload_n hK d_P_readFigures_20 rfl ?_
    refine r_bipush hK d_P_readFigures_21 kb_44 ?_
    refine r_v1 (k' := 2) hK lm_P_38 d_P_readFigures_23 ⟨_, hP.1⟩ (by decide) (Nat.le_of_ble_eq_true rfl) ?_
    refine c_P_readSign hP hm (rNum_le hp) (fun G23 hP f23 => kc_s ?_)
    have hL := hL.frm f23 (by omega)
    have hF := hF.tr f23.l
    refine r_if_eq (tgt := 39) hK d_P_readFigures_26 rfl (fun h26 => ?_) (fun h26 => ?_)
    · skip
      have cs1 := zB_f.mp (bI_0.mp h26)
      rw [rFig, if_neg (fun q => q cn1), if_pos cs1] at hQ
      rw [zB_0 cs1] at hQ
      refine r_iconst hK d_P_readFigures_39 kc_0 ?_
      refine r_zret hK rfl (rfl) rfl d_P_readFigures_40 ?_
      first | exact hQ _ _ _ _ _ hP hL (fun q => absurd q cn2) hF | exact hQ _ _ _ _ _ hP hL (fun q => absurd q cs1) hF
    · skip
      have cs1 := zB_t.mp (bI_n0.mp h26)
      rw [lfC_0 cs1] at hP
      refine r_aload_n hK d_P_readFigures_29 rfl ?_
      refine r_iconst hK d_P_readFigures_30 kc_1 ?_
      refine r_bipush hK d_P_readFigures_31 kb_9 ?_
      refine r_v2 (k' := 2) hK lm_P_42 d_P_readFigures_33 ⟨_, hP.1⟩ (by decide) (Nat.le_of_ble_eq_true rfl) ?_
      refine c_P_readNumber hP hm (rSign_le (by decide) (rNum_le hp)) (fun G33 nb33 hP e33 f33 => kc_s ?_)
      have hL := hL.frm f33 (by omega)
      have hF := hF.tr f33.l
      refine r_if_ne (tgt := 41) hK d_P_readFigures_36 rfl (fun h36 => ?_) (fun h36 => ?_)
      · skip
        have cn2 := zB_t.mp (bI_n0.mp h36)
        rw [lfC_0 cn2] at hP
        refine r_aload_n hK d_P_readFigures_41 rfl ?_
        refine r_aload_n hK d_P_readFigures_42 rfl ?_
        refine r_get hK lf_P_46 d_P_readFigures_43 (hP.1) rfl ?_
        refine p_L_thick hK lf_P_91 d_P_readFigures_46 hL (fun G46 hL f46 => ?_)
        have hP := hP.frm f46 (by omega)
        have hF := hF.tr f46.r
        refine r_aload_n hK d_P_readFigures_49 rfl ?_
        refine r_bipush hK d_P_readFigures_50 kb_44 ?_
        refine r_v1 (k' := 2) hK lm_P_38 d_P_readFigures_52 ⟨_, hP.1⟩ (by decide) (Nat.le_of_ble_eq_true rfl) ?_
        refine c_P_readSign hP hm (rNum_le (rSign_le (by decide) (rNum_le hp))) (fun G52 hP f52 => kc_s ?_)
        have hL := hL.frm f52 (by omega)
        have hF := hF.tr f52.l
        refine r_if_eq (tgt := 68) hK d_P_readFigures_55 rfl (fun h55 => ?_) (fun h55 => ?_)
        · skip
          have cs2 := zB_f.mp (bI_0.mp h55)
          rw [rFig, if_neg (fun q => q cn1), if_neg (fun q => q cs1), if_neg (fun q => q cn2), if_pos cs2] at hQ
          rw [zB_0 cs2] at hQ
          refine r_iconst hK d_P_readFigures_68 kc_0 ?_
          refine r_zret hK rfl (rfl) rfl d_P_readFigures_69 ?_
          first | exact hQ _ _ _ _ _ hP hL (fun q => absurd q cn3) hF | exact hQ _ _ _ _ _ hP hL (fun q => absurd q cs2) hF
        · skip
          have cs2 := zB_t.mp (bI_n0.mp h55)
          rw [lfC_0 cs2] at hP
          refine r_aload_n hK d_P_readFigures_58 rfl ?_
          refine r_iconst hK d_P_readFigures_59 kc_0 ?_
          refine r_bipush hK d_P_readFigures_60 kb_9 ?_
          refine r_v2 (k' := 2) hK lm_P_42 d_P_readFigures_62 ⟨_, hP.1⟩ (by decide) (Nat.le_of_ble_eq_true rfl) ?_
          refine c_P_readNumber hP hm (rSign_le (by decide) (rNum_le (rSign_le (by decide) (rNum_le hp)))) (fun G62 nb62 hP e62 f62 => kc_s ?_)
          have hL := hL.frm f62 (by omega)
          have hF := hF.tr f62.l
          refine r_if_ne (tgt := 70) hK d_P_readFigures_65 rfl (fun h65 => ?_) (fun h65 => ?_)
          · skip
            have cn3 := zB_t.mp (bI_n0.mp h65)
            rw [lfC_0 cn3] at hP
            refine r_aload_n hK d_P_readFigures_70 rfl ?_
            refine r_aload_n hK d_P_readFigures_71 rfl ?_
            refine r_get hK lf_P_46 d_P_readFigures_72 (hP.1) rfl ?_
            refine p_L_holds hK lf_P_94 d_P_readFigures_75 hL (fun G75 hL f75 => ?_)
            have hP := hP.frm f75 (by omega)
            have hF := hF.tr f75.r
            refine r_aload_n hK d_P_readFigures_78 rfl ?_
            refine r_bipush hK d_P_readFigures_79 kb_59 ?_
            refine r_v1 (k' := 2) hK lm_P_38 d_P_readFigures_81 ⟨_, hP.1⟩ (by decide) (Nat.le_of_ble_eq_true rfl) ?_
            refine c_P_readSign hP hm (rNum_le (rSign_le (by decide) (rNum_le (rSign_le (by decide) (rNum_le hp))))) (fun G81 hP f81 => kc_s ?_)
            have hL := hL.frm f81 (by omega)
            have hF := hF.tr f81.l
            refine r_zret hK rfl (bI_nar _) rfl d_P_readFigures_84 ?_
            rw [rFig, if_neg (fun q => q cn1), if_neg (fun q => q cs1), if_neg (fun q => q cn2), if_neg (fun q => q cs2), if_neg (fun q => q cn3)] at hQ
            exact hQ _ _ _ _ _ hP hL (fun _ => ⟨e4 cn1, e33 cn2, e62 cn3⟩) hF
          · skip
            have cn3 := zB_f.mp (bI_0.mp h65)
            rw [rFig, if_neg (fun q => q cn1), if_neg (fun q => q cs1), if_neg (fun q => q cn2), if_neg (fun q => q cs2), if_pos cn3] at hQ
            rw [zB_0 cn3] at hQ
            refine r_iconst hK d_P_readFigures_68 kc_0 ?_
            refine r_zret hK rfl (rfl) rfl d_P_readFigures_69 ?_
            first | exact hQ _ _ _ _ _ hP hL (fun q => absurd q cn3) hF | exact hQ _ _ _ _ _ hP hL (fun q => absurd q cs2) hF
      · skip
        have cn2 := zB_f.mp (bI_0.mp h36)
        rw [rFig, if_neg (fun q => q cn1), if_neg (fun q => q cs1), if_pos cn2] at hQ
        rw [zB_0 cn2] at hQ
        refine r_iconst hK d_P_readFigures_39 kc_0 ?_
        refine r_zret hK rfl (rfl) rfl d_P_readFigures_40 ?_
        first | exact hQ _ _ _ _ _ hP hL (fun q => absurd q cn2) hF | exact hQ _ _ _ _ _ hP hL (fun q => absurd q cs1) hF
  · skip
    have cn1 := zB_f.mp (bI_0.mp h7)
    rw [rFig, if_pos cn1] at hQ
    rw [zB_0 cn1] at hQ
    refine r_iconst hK d_P_readFigures_10 kc_0 ?_
    refine r_zret hK rfl (rfl) rfl d_P_readFigures_11 ?_
    exact hQ _ _ _ _ _ hP hL (fun q => absurd q cn1) hF
theorem c_P_readLaw {E : gX} {S : Nat} {G : gG} {Q : Option Value → gG → Prop} {r m p : Nat} {lf nb : Int32} {f : Nat → Int32} (hP : PX G r f (nI m) lf (nI p) nb) (hm : m ≤ 100) (hp : p ≤ m) {h : Nat} {s : Int32} {v : Nat → Int32} (hH : HX G h s v) (hd : h + 8 ≤ r ∨ r + 2 ≤ h) (hQ : ∀ (G' : gG) (nb' : Int32), PX G' r f (nI m) (lfC lf (rLaw f m p v).1) (nI (rLaw f m p v).2.1) nb' → (∀ (_ : (rLaw f m p v).1 = 0), HX G' h s (rLaw f m p v).2.2) → (∃ x, HX G' h s (upd v 1 x)) → Frm2 G G' r 2 h 8 → Q (some (.int (bI (zB (rLaw f m p v).1)))) G') : Runs E y_P_readLaw 3 0 S [.ref r, .ref h] G Q := by
  refine Runs.of "ClockPost$Tape" [some (.ref r), some (.ref h)] cw_P_readLaw (by decide) (by decide +kernel) rfl (Nat.le_of_ble_eq_true rfl) rfl (fun K hK => ?_)
  have hF : Frm2 G G r 2 h 8 := Frm2.rf
  refine r_aload_n hK d_P_readLaw_0 rfl ?_
  refine r_bipush hK d_P_readLaw_1 kb_99 ?_
  refine r_v1 (k' := 2) hK lm_P_38 d_P_readLaw_3 ⟨_, hP.1⟩ (by decide) (Nat.le_of_ble_eq_true rfl) ?_
  refine c_P_readSign hP hm hp (fun G3 hP f3 => kc_s ?_)
  have hH := hH.frm f3 (by omega)
  have hF := hF.tr f3.l
  refine r_if_eq (tgt := 19) hK d_P_readLaw_6 rfl (fun h6 => ?_) (fun h6 => ?_)
  · skip
    have c1 := zB_f.mp (bI_0.mp h6)
    rw [rLaw, if_pos c1, zB_0 c1] at hQ
    have cz := c1
    have hx : ∃ x, HX G3 h s (upd v 1 x) := ⟨v 1, hH.cast (fun k _ => by unfold upd; split <;> simp_all)⟩
    refine r_iconst hK d_P_readLaw_19 kc_0 ?_
    refine r_zret hK rfl (rfl) rfl d_P_readLaw_20 ?_
    exact hQ _ _ hP (fun q => absurd q cz) hx hF
  · skip
    have c1 := zB_t.mp (bI_n0.mp h6)
    rw [lfC_0 c1] at hP
    refine r_aload_n hK d_P_readLaw_9 rfl ?_
    refine r_iconst hK d_P_readLaw_10 kc_1 ?_
    refine r_bipush hK d_P_readLaw_11 kb_30 ?_
    refine r_v2 (k' := 2) hK lm_P_42 d_P_readLaw_13 ⟨_, hP.1⟩ (by decide) (Nat.le_of_ble_eq_true rfl) ?_
    refine c_P_readNumber hP hm (rSign_le (by decide) hp) (fun G13 nb13 hP e13 f13 => kc_s ?_)
    have hH := hH.frm f13 (by omega)
    have hF := hF.tr f13.l
    refine r_if_ne (tgt := 21) hK d_P_readLaw_16 rfl (fun h16 => ?_) (fun h16 => ?_)
    · skip
      have c2 := zB_t.mp (bI_n0.mp h16)
      rw [lfC_0 c2] at hP
      refine r_aload_n hK d_P_readLaw_21 rfl ?_
      refine r_aload_n hK d_P_readLaw_22 rfl ?_
      refine r_get hK lf_P_46 d_P_readLaw_23 (hP.1) rfl ?_
      refine p_H_gap hK lf_P_49 d_P_readLaw_26 hH (fun G26 hH f26 => ?_)
      have hP := hP.frm f26 (by omega)
      have hF := hF.tr f26.r
      refine r_aload_n hK d_P_readLaw_29 rfl ?_
      refine r_bipush hK d_P_readLaw_30 kb_59 ?_
      refine r_v1 (k' := 2) hK lm_P_38 d_P_readLaw_32 ⟨_, hP.1⟩ (by decide) (Nat.le_of_ble_eq_true rfl) ?_
      refine c_P_readSign hP hm (rNum_le (rSign_le (by decide) hp)) (fun G32 hP f32 => kc_s ?_)
      have hH := hH.frm f32 (by omega)
      have hF := hF.tr f32.l
      refine r_zret hK rfl (bI_nar _) rfl d_P_readLaw_35 ?_
      rw [rLaw, if_neg (fun q => q c1), if_neg (fun q => q c2)] at hQ
      rw [e13 c2] at hH
      exact hQ _ _ hP (fun _ => hH) ⟨_, hH⟩ hF
    · skip
      have c2 := zB_f.mp (bI_0.mp h16)
      rw [rLaw, if_neg (fun q => q c1), if_pos c2, zB_0 c2] at hQ
      have cz := c2
      have hx : ∃ x, HX G13 h s (upd v 1 x) := ⟨v 1, hH.cast (fun k _ => by unfold upd; split <;> simp_all)⟩
      refine r_iconst hK d_P_readLaw_19 kc_0 ?_
      refine r_zret hK rfl (rfl) rfl d_P_readLaw_20 ?_
      exact hQ _ _ hP (fun q => absurd q cz) hx hF
theorem c_P_readLetter {E : gX} {S : Nat} {G : gG} {Q : Option Value → gG → Prop} {r m p : Nat} {lf nb : Int32} {f : Nat → Int32} (hP : PX G r f (nI m) lf (nI p) nb) (hm : m ≤ 100) (hp : p ≤ m) (hpm : p < m) {h : Nat} {s : Int32} {v : Nat → Int32} (hH : HX G h s v) (hn : nN (v 0) ≤ 6) (hv0 : 0 ≤ v 0) (hd : h + 8 ≤ r ∨ r + 2 ≤ h) (hQ : ∀ (G' : gG) (nb' : Int32) (v' : Nat → Int32), PX G' r f (nI m) (lfC lf (rLet f m p v).1) (nI (rLet f m p v).2.1) nb' → HX G' h s v' → nN (v' 0) ≤ 6 → (∀ (_ : (rLet f m p v).1 = 0), ∀ k, k < 36 → v' k = (rLet f m p v).2.2 k) → Frm2 G G' r 2 h 8 → Q (some (.int (bI (zB (rLet f m p v).1)))) G') : Runs E y_P_readLetter 4 0 S [.ref r, .ref h] G Q := by
  refine Runs.of "ClockPost$Tape" [some (.ref r), some (.ref h), none, none] cw_P_readLetter (by decide) (by decide +kernel) rfl (Nat.le_of_ble_eq_true rfl) rfl (fun K hK => ?_)
  have hF : Frm2 G G r 2 h 8 := Frm2.rf
  refine r_aload_n hK d_P_readLetter_0 rfl ?_
  refine r_aload_n hK d_P_readLetter_1 rfl ?_
  refine r_get hK lf_P_19 d_P_readLetter_2 (hP.1) rfl ?_
  refine r_v1 (k' := 1) hK lm_P_55 d_P_readLetter_5 ⟨_, hP.1⟩ (by decide) (Nat.le_of_ble_eq_true rfl) ?_
  refine c_P_byteAt hP hm (by omega) (kc_s ?_)
  refine r_s1 (k' := 1) hK lm_P_59 d_P_readLetter_8 (by decide) (Nat.le_of_ble_eq_true rfl) ?_
  refine c_P_kindToldBy (kc_s ?_)
  refine st_in_2_4 hK d_P_readLetter_11 trivial ?_
  refine r_iload_n hK d_P_readLetter_12 rfl ?_
  refine r_if_ne (tgt := 22) hK d_P_readLetter_13 rfl (fun h13 => ?_) (fun h13 => ?_)
  · skip
    rw [rLet, if_neg h13] at hQ
    refine r_aload_n hK d_P_readLetter_22 rfl ?_
    refine r_get hK lf_P_66 d_P_readLetter_23 (hH.1) rfl ?_
    refine r_bipush hK d_P_readLetter_26 kb_6 ?_
    refine r_icmp_lt (tgt := 37) hK d_P_readLetter_28 rfl (fun h28 => ?_) (fun h28 => ?_)
    · skip
      rw [if_neg (Int32.not_le.mpr h28)] at hQ
      obtain ⟨j, hj, hj0⟩ : ∃ j : Nat, j < 6 ∧ v 0 = nI j := by
        obtain ⟨j, hj, e⟩ := nI_of (Int32.not_lt.mpr hv0)
        rw [e] at h28
        exact ⟨j, (ltc (n := 6) (by decide) hj).mp h28, e⟩
      have hjn : nN (v 0) = j := by rw [hj0]; exact nN_nI (by omega)
      refine r_aload_n hK d_P_readLetter_37 rfl ?_
      refine r_dup hK d_P_readLetter_38 rfl ?_
      refine r_get hK lf_P_19 d_P_readLetter_39 (hP.1) rfl ?_
      refine r_iconst hK d_P_readLetter_42 kc_1 ?_
      refine r_iadd hK d_P_readLetter_43 ?_
      rw [nI_1]
      refine p_P_place hK lf_P_19 d_P_readLetter_44 hP (fun G44 hP f44 => ?_)
      have hH := hH.frm f44 (by omega)
      have hF := hF.tr f44.l
      refine r_aload_n hK d_P_readLetter_47 rfl ?_
      refine r_get hK lf_P_69 d_P_readLetter_48 (hH.1) rfl ?_
      refine r_aload_n hK d_P_readLetter_51 rfl ?_
      refine r_get hK lf_P_66 d_P_readLetter_52 (hH.1) rfl ?_
      rw [hj0]
      refine g_let hK d_P_readLetter_55 hH hj ?_
      refine st_an_3_4 hK d_P_readLetter_56 trivial ?_
      refine r_aload_n hK d_P_readLetter_57 rfl ?_
      refine r_iload_n hK d_P_readLetter_58 rfl ?_
      refine ph_L_kind hK lf_P_73 d_P_readLetter_59 hH hj (fun G59 hH f59 => ?_)
      have hP := hP.frm f59 (by omega)
      have hF := hF.tr f59.r
      refine r_aload_n hK d_P_readLetter_62 rfl ?_
      refine r_iconst hK d_P_readLetter_63 kc_0 ?_
      refine ph_L_age hK lf_P_78 d_P_readLetter_64 hH hj (fun G64 hH f64 => ?_)
      have hP := hP.frm f64 (by omega)
      have hF := hF.tr f64.r
      refine r_aload_n hK d_P_readLetter_67 rfl ?_
      refine r_aload_n hK d_P_readLetter_68 rfl ?_
      refine r_v1 (k' := 3) hK lm_P_81 d_P_readLetter_69 ⟨_, hP.1⟩ (by decide) (Nat.le_of_ble_eq_true rfl) ?_
      refine c_P_readFigures hP hm (by omega) (hH.2.2 j hj) (by omega) (fun G69 nb69 x1 x2 x3 hP hL e69 f69 => kc_s ?_)
      have hF := hF.tr (f69.mono (by omega) (by omega))
      have hH := hH.setL3 hj hL f69 hd
      refine r_if_ne (tgt := 77) hK d_P_readLetter_72 rfl (fun h72 => ?_) (fun h72 => ?_)
      · skip
        have c1 := zB_t.mp (bI_n0.mp h72)
        rw [if_neg (fun q => q c1)] at hQ
        rw [lfC_0 c1] at hP
        refine r_aload_n hK d_P_readLetter_77 rfl ?_
        refine r_dup hK d_P_readLetter_78 rfl ?_
        refine r_get hK lf_P_85 d_P_readLetter_79 (hH.1) rfl ?_
        refine r_iconst hK d_P_readLetter_82 kc_1 ?_
        refine r_aload_n hK d_P_readLetter_83 rfl ?_
        refine r_get hK lf_P_66 d_P_readLetter_84 (hH.1) rfl ?_
        refine r_ishl hK d_P_readLetter_87 ?_
        refine r_ior hK d_P_readLetter_88 ?_
        refine p_H_behindBits hK lf_P_85 d_P_readLetter_89 hH (fun G89 hH f89 => ?_)
        have hP := hP.frm f89 (by omega)
        have hF := hF.tr f89.r
        refine r_aload_n hK d_P_readLetter_92 rfl ?_
        refine r_dup hK d_P_readLetter_93 rfl ?_
        refine r_get hK lf_P_66 d_P_readLetter_94 (hH.1) rfl ?_
        refine r_iconst hK d_P_readLetter_97 kc_1 ?_
        refine r_iadd hK d_P_readLetter_98 ?_
        refine p_H_letterCount hK lf_P_66 d_P_readLetter_99 hH (fun G99 hH f99 => ?_)
        have hP := hP.frm f99 (by omega)
        have hF := hF.tr f99.r
        refine r_iconst hK d_P_readLetter_102 kc_1 ?_
        refine r_zret hK rfl (rfl) rfl d_P_readLetter_103 ?_
        obtain ⟨z1, z2, z3⟩ := e69 c1
        refine hQ _ _ _ hP hH ?_ (fun _ k hk => ?_) hF
        · skip
          rw [upd_s]
          simp only [upd_n (show (0 : Nat) ≠ 3 by decide), upd_n (show 0 ≠ 24 + j by omega), upd_n (show 0 ≠ 18 + j by omega), upd_n (show 0 ≠ 12 + j by omega), upd_n (show 0 ≠ 30 + j by omega), upd_n (show 0 ≠ 6 + j by omega)]
          rw [hj0, nI_1, nN_nI (by omega)]
          omega
        · skip
          subst z1; subst z2; subst z3
          show _ = addL v _ _ _ _ k
          unfold addL
          rw [hjn]
          simp only [upd_n (show (0 : Nat) ≠ 3 by decide), upd_n (show 0 ≠ 24 + j by omega), upd_n (show 0 ≠ 18 + j by omega), upd_n (show 0 ≠ 12 + j by omega), upd_n (show 0 ≠ 30 + j by omega), upd_n (show 0 ≠ 6 + j by omega), upd_n (show 3 ≠ 24 + j by omega), upd_n (show 3 ≠ 18 + j by omega), upd_n (show 3 ≠ 12 + j by omega), upd_n (show 3 ≠ 30 + j by omega), upd_n (show 3 ≠ 6 + j by omega)]
      · skip
        have c1 := zB_f.mp (bI_0.mp h72)
        rw [if_pos c1, zB_0 c1] at hQ
        refine r_iconst hK d_P_readLetter_75 kc_0 ?_
        refine r_zret hK rfl (rfl) rfl d_P_readLetter_76 ?_
        exact hQ _ _ _ hP hH (by rw [upd_n (by omega), upd_n (by omega), upd_n (by omega), upd_n (by omega), upd_n (by omega)]; exact hn) (fun q => absurd q c1) hF
    · skip
      rw [if_pos (Int32.not_lt.mp h28)] at hQ
      refine r_aload_n hK d_P_readLetter_31 rfl ?_
      refine r_iconst hK d_P_readLetter_32 kc_3 ?_
      refine r_v1 (k' := 1) hK lm_P_62 d_P_readLetter_33 ⟨_, hP.1⟩ (by decide) (Nat.le_of_ble_eq_true rfl) ?_
      refine c_P_fail hP (fun G33 hP f33 => kc_s ?_)
      have hH := hH.frm f33 (by omega)
      refine r_zret hK rfl (rfl) rfl d_P_readLetter_36 ?_
      exact hQ _ _ _ hP hH hn (fun q => absurd q (show ¬ (3 : Int32) = 0 by decide)) f33.l
  · skip
    rw [rLet, if_pos h13] at hQ
    refine r_aload_n hK d_P_readLetter_16 rfl ?_
    refine r_iconst hK d_P_readLetter_17 kc_1 ?_
    refine r_v1 (k' := 1) hK lm_P_62 d_P_readLetter_18 ⟨_, hP.1⟩ (by decide) (Nat.le_of_ble_eq_true rfl) ?_
    refine c_P_fail hP (fun G18 hP f18 => kc_s ?_)
    have hH := hH.frm f18 (by omega)
    refine r_zret hK rfl (rfl) rfl d_P_readLetter_21 ?_
    exact hQ _ _ _ hP hH hn (fun q => absurd q (show ¬ (1 : Int32) = 0 by decide)) f18.l
