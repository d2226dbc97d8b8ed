theorem Frm.sm {G G' : gG} {a n : Nat} (h : Frm G G' a n) : Frm G' G a n := fun q hq => (h q hq).symm
theorem Frm2.sp {G G' : gG} {a n b m : Nat} (h : Frm2 G G' a n b m) : ∃ G1 : gG, Frm G G1 a n ∧ Frm G1 G' b m := by
  refine ⟨fun q => if a ≤ q ∧ q < a + n then G' q else G q, fun q hq => ?_, fun q hq => ?_⟩
  · show (if a ≤ q ∧ q < a + n then G' q else G q) = G q
    rw [if_neg (by omega)]
  · show G' q = (if a ≤ q ∧ q < a + n then G' q else G q)
    by_cases e : a ≤ q ∧ q < a + n
    · rw [if_pos e]
    · rw [if_neg e]; exact h q (by omega) hq
theorem nN_lt6 {v : Nat → Int32} (h0 : 0 ≤ v 0) (h : ¬ 6 ≤ v 0) : ∃ n : Nat, n < 6 ∧ v 0 = nI n ∧ nN (v 0) = n := by
  obtain ⟨n, hn, e⟩ := nI_of (Int32.not_lt.mpr h0)
  rw [e] at h ⊢
  rw [cle (n := 6) (by decide) hn] at h
  exact ⟨n, by omega, rfl, nN_nI hn⟩
theorem eqv.add {v w : Nat → Int32} (h : eqv v w) {k a b c : Int32} (h0 : 0 ≤ w 0) (h6 : ¬ 6 ≤ w 0) : eqv (addL v k a b c) (addL w k a b c) := by
  obtain ⟨n, hn, e, en⟩ := nN_lt6 h0 h6
  have e2 : v 0 = nI n := (h.1 0 (by omega)).trans e
  have en2 : nN (v 0) = n := by rw [e2]; exact nN_nI (by omega)
  have e3 := h.1 3 (by omega)
  refine ⟨fun q hq => ?_, fun q h1 h2 h3 => ?_⟩
  · unfold addL
    rw [en, en2, e, e2, e3]
    unfold upd
    have := h.1 q hq
    repeat' split
    all_goals first | rfl | exact this
  · have h3' : (q - 6) % 6 < n + 1 := by
      have e4 : addL w k a b c 0 = nI (n + 1) := by show w 0 + 1 = _; rw [e]; exact nI_1 n
      rw [e4, nN_nI (by omega)] at h3
      exact h3
    unfold addL
    rw [en, en2, e, e2, e3]
    unfold upd
    by_cases z : (q - 6) % 6 = n
    · rcases (show q = 6 + n ∨ q = 12 + n ∨ q = 18 + n ∨ q = 24 + n ∨ q = 30 + n by omega) with rfl | rfl | rfl | rfl | rfl
      all_goals (repeat' split)
      all_goals first | rfl | (exfalso; omega)
    · have := h.2 q h1 h2 (by rw [en]; omega)
      repeat' split
      all_goals first | rfl | exact this
theorem rLet_e {f : Nat → Int32} {m p : Nat} {v w : Nat → Int32} (h : eqv v w) (h0 : 0 ≤ w 0) : (rLet f m p v).1 = (rLet f m p w).1 ∧ (rLet f m p v).2.1 = (rLet f m p w).2.1 ∧ eqv (rLet f m p v).2.2 (rLet f m p w).2.2 := by
  unfold rLet
  rw [h.1 0 (by omega)]
  by_cases k0 : knd (bt f m p) = 0
  · simp only [if_pos k0]; exact ⟨trivial, trivial, h⟩
  · simp only [if_neg k0]
    by_cases k1 : 6 ≤ w 0
    · simp only [if_pos k1]; exact ⟨trivial, trivial, h⟩
    · simp only [if_neg k1]
      by_cases k2 : ¬ (rFig f m (p + 1)).1 = 0
      · simp only [if_pos k2]; exact ⟨trivial, trivial, h⟩
      · simp only [if_neg k2]; exact ⟨trivial, trivial, h.add h0 k1⟩
theorem rLets_e {f : Nat → Int32} {m : Nat} : ∀ (n p : Nat) {v w : Nat → Int32}, eqv v w → 0 ≤ w 0 → (rLets f m n p v).1 = (rLets f m n p w).1 ∧ (rLets f m n p v).2.1 = (rLets f m n p w).2.1 ∧ eqv (rLets f m n p v).2.2 (rLets f m n p w).2.2
  | 0, _, _, _, h, _ => ⟨rfl, rfl, h⟩
  | n + 1, p, v, w, h, h0 => by
    simp only [rLets]
    obtain ⟨a, b, c⟩ := rLet_e (f := f) (m := m) (p := p) h h0
    by_cases q : p < m
    · rw [if_pos q, if_pos q, a]
      by_cases z : (rLet f m p w).1 = 0
      · rw [if_pos z, if_pos z, b]
        exact rLets_e n _ c (rLet_v0 h0 z)
      · rw [if_neg z, if_neg z]
        exact ⟨a, b, c⟩
    · rw [if_neg q, if_neg q]
      exact ⟨rfl, rfl, h⟩
theorem clrV_e {v w : Nat → Int32} : eqv (clrV v) (clrV w) := by
  refine ⟨fun k hk => ?_, fun k h1 h2 h3 => ?_⟩
  · unfold clrV upd
    rcases (show k = 0 ∨ k = 1 ∨ k = 2 ∨ k = 3 ∨ k = 4 ∨ k = 5 by omega) with rfl | rfl | rfl | rfl | rfl | rfl <;> rfl
  · have : nN (clrV w 0) = 0 := by show nN 0 = 0; decide
    omega
theorem rLaw_e {f : Nat → Int32} {m p : Nat} {v w : Nat → Int32} (h : eqv v w) : (rLaw f m p v).1 = (rLaw f m p w).1 ∧ (rLaw f m p v).2.1 = (rLaw f m p w).2.1 ∧ eqv (rLaw f m p v).2.2 (rLaw f m p w).2.2 := by
  unfold rLaw
  by_cases k0 : ¬ (rSign f m 99 p).1 = 0
  · simp only [if_pos k0]; exact ⟨trivial, trivial, h⟩
  · simp only [if_neg k0]
    by_cases k1 : ¬ (rNum f m 1 30 (rSign f m 99 p).2).1 = 0
    · simp only [if_pos k1]; exact ⟨trivial, trivial, h⟩
    · simp only [if_neg k1]; exact ⟨trivial, trivial, h.up (by omega) rfl⟩
theorem rAll_e {f : Nat → Int32} {m : Nat} {v w : Nat → Int32} : (rAll f m v).1 = (rAll f m w).1 ∧ (rAll f m v).2.1 = (rAll f m w).2.1 ∧ eqv (rAll f m v).2.2 (rAll f m w).2.2 := by
  unfold rAll
  obtain ⟨a, b, c⟩ := rLaw_e (f := f) (m := m) (p := 0) (clrV_e (v := v) (w := w))
  rw [a]
  by_cases k : (rLaw f m 0 (clrV w)).1 = 0
  · rw [if_pos k, if_pos k, b]
    exact rLets_e 7 _ c (by rw [rLaw_v0 k]; decide)
  · rw [if_neg k, if_neg k]
    exact ⟨a, b, c⟩
def opFault : gS → Int32 × gS
  | (st, nw, ac, na, ik, im, rp, rl, rs, ri, tp, tn, lf, fd, tr, un) => (lf, (st, nw, ac, na, ik, im, rp, rl, rs, ri, tp, tn, lf, fd, tr, un))
def opStatus : gS → Int32 × gS
  | (st, nw, ac, na, ik, im, rp, rl, rs, ri, tp, tn, lf, fd, tr, un) => (fd, (st, nw, ac, na, ik, im, rp, rl, rs, ri, tp, tn, lf, fd, tr, un))
theorem kpA_le {ac : Nat → Nat → Int32} {na : Nat} {v : Nat → Int32} (h : na ≤ 24) : (kpA ac na v).2 ≤ 24 := by
  unfold kpA
  split
  · show na + 1 ≤ 24
    omega
  · exact Nat.le_refl _
section PXL
variable {E : gX} {own : String} {cc : ByteArray} {ret : Option FieldType} {nL k mc sz0 : Nat} {ini : Bool} {G0 : gG} {Q : Option Value → gG → Prop} {K : Nat → List (Option Value) → List Value → Nat → gG → Prop}
variable {pc sz idx : Nat} {stk : List Value} {G : gG} {Ls : List (Option Value)}
theorem px_L_fear (hK : Cl E own cc ret nL k mc sz0 ini G0 Q K) {h j : Nat} {s : Int32} {v : Nat → Int32} {x : Int32} (hl : LkF own idx 0 1 .int false) (hd : decode cc pc = .ok (.putfield idx, 3)) (hV : HE G h s v) (hj : j < 6) (kk : ∀ G' : gG, HE G' h s (upd v (12 + j) x) → Frm G G' h 8 → K (pc + 3) Ls stk sz G') : K pc Ls (.int x :: .ref (h + 2 + j) :: stk) sz G := by
  obtain ⟨w, q, e⟩ := hV
  exact ph_L_fear hK hl hd q hj (fun G' h1 h2 => kk G' ⟨_, h1, e.up (by omega) rfl⟩ h2)
end PXL
theorem c_X_feed {E : gX} {S : Nat} {G : gG} {Q : Option Value → gG → Prop} {b : Nat} {st : Bool} {nw : Nat → Int32} {ac : Nat → Nat → Int32} {na : Nat} {ik : Nat → Bool} {im : Nat → Nat → Int32} {rp : Nat → Bool} {rl : Nat → Int32} {rs : Nat → Nat} {ri : Nat → Nat → Int32} {tp : Nat → Int32} {tn : Nat} {lf : Int32} {fd : Int32} {tr : Nat → Int32} {un : Nat} (hX : XV G b (st, nw, ac, na, ik, im, rp, rl, rs, ri, tp, tn, lf, fd, tr, un)) (hI : XPI (st, nw, ac, na, ik, im, rp, rl, rs, ri, tp, tn, lf, fd, tr, un)) {x : Int32} (hQ : ∀ G' : gG, XV G' b (opFeed (st, nw, ac, na, ik, im, rp, rl, rs, ri, tp, tn, lf, fd, tr, un) x).2 → Frm G G' b 309 → Q (some (.int (opFeed (st, nw, ac, na, ik, im, rp, rl, rs, ri, tp, tn, lf, fd, tr, un) x).1)) G') : Runs E y_X_feed 2 0 S [.ref b, .int x] G Q := by
  refine Runs.of "ClockPost" [some (.ref b), some (.int x)] cw_X_feed (by decide) (by decide +kernel) rfl (Nat.le_of_ble_eq_true rfl) rfl (fun K hK => ?_)
  refine r_iload_n hK d_X_feed_0 rfl ?_
  refine r_iconst hK d_X_feed_1 kc_0 ?_
  refine r_sipush hK d_X_feed_2 ks_255 ?_
  refine r_s3 (k' := 1) hK lm_X_62 d_X_feed_5 (by decide) (Nat.le_of_ble_eq_true rfl) ?_
  refine c_X_isWithin (kc_s ?_)
  refine r_if_ne (tgt := 14) hK d_X_feed_8 rfl (fun h8 => ?_) (fun h8 => ?_)
  · skip
    have hb := bI_n0.mp h8
    rw [opFeed, if_pos hb] at hQ
    obtain ⟨pl, nb, hP⟩ := hX.tape
    refine r_aload_n hK d_X_feed_14 rfl ?_
    refine r_get hK lf_X_18 d_X_feed_15 (hX.1.1) rfl ?_
    refine r_iload_n hK d_X_feed_18 rfl ?_
    refine r_v1 (k' := 1) hK lm_X_107 d_X_feed_19 ⟨_, hP.1⟩ (by decide) (Nat.le_of_ble_eq_true rfl) ?_
    refine c_P_add hP (hI.2.2.2.2.2.2.2.2.1) (fun G19 hP f19 => kc_s ?_)
    have hX := hX.sT f19 ⟨_, _, hP⟩
    refine r_if_eq (tgt := 35) hK d_X_feed_22 rfl (fun h22 => ?_) (fun h22 => ?_)
    · skip
      have hz : ¬ tn < 100 := by simpa using bI_0.mp h22
      simp only [if_neg hz] at hQ hX
      refine r_ldc hK d_X_feed_35 lc_X_113 ?_
      refine r_iret hK rfl rfl d_X_feed_37 ?_
      exact hQ _ hX (f19.mono (by omega) (by omega))
    · skip
      have hz : tn < 100 := by simpa using bI_n0.mp h22
      simp only [if_pos hz] at hQ hX hP
      refine r_aload_n hK d_X_feed_25 rfl ?_
      refine r_get hK lf_X_18 d_X_feed_26 (hX.1.1) rfl ?_
      refine r_get hK lf_X_110 d_X_feed_29 (hP.1) rfl ?_
      refine r_goto (tgt := 37) hK d_X_feed_32 rfl ?_
      refine r_iret hK rfl rfl d_X_feed_37 ?_
      exact hQ _ hX (f19.mono (by omega) (by omega))
  · skip
    have hb := bI_0.mp h8
    rw [opFeed, if_neg (by simp [hb])] at hQ
    refine r_ldc hK d_X_feed_11 lc_X_66 ?_
    refine r_iret hK rfl rfl d_X_feed_13 ?_
    exact hQ _ hX Frm.rf
theorem c_X_fault {E : gX} {S : Nat} {G : gG} {Q : Option Value → gG → Prop} {b : Nat} {st : Bool} {nw : Nat → Int32} {ac : Nat → Nat → Int32} {na : Nat} {ik : Nat → Bool} {im : Nat → Nat → Int32} {rp : Nat → Bool} {rl : Nat → Int32} {rs : Nat → Nat} {ri : Nat → Nat → Int32} {tp : Nat → Int32} {tn : Nat} {lf : Int32} {fd : Int32} {tr : Nat → Int32} {un : Nat} (hX : XV G b (st, nw, ac, na, ik, im, rp, rl, rs, ri, tp, tn, lf, fd, tr, un)) (hI : XPI (st, nw, ac, na, ik, im, rp, rl, rs, ri, tp, tn, lf, fd, tr, un)) (hQ : ∀ G' : gG, XV G' b (opFault (st, nw, ac, na, ik, im, rp, rl, rs, ri, tp, tn, lf, fd, tr, un)).2 → Frm G G' b 309 → Q (some (.int (opFault (st, nw, ac, na, ik, im, rp, rl, rs, ri, tp, tn, lf, fd, tr, un)).1)) G') : Runs E y_X_fault 1 0 S [.ref b] G Q := by
  refine Runs.of "ClockPost" [some (.ref b)] cw_X_fault (by decide) (by decide +kernel) rfl (Nat.le_of_ble_eq_true rfl) rfl (fun K hK => ?_)
  obtain ⟨pl, nb, hP⟩ := hX.tape
  refine r_aload_n hK d_X_fault_0 rfl ?_
  refine r_get hK lf_X_18 d_X_fault_1 (hX.1.1) rfl ?_
  refine r_get hK lf_X_132 d_X_fault_4 (hP.1) rfl ?_
  refine r_iret hK rfl rfl d_X_fault_7 ?_
  exact hQ _ hX Frm.rf
theorem c_X_status {E : gX} {S : Nat} {G : gG} {Q : Option Value → gG → Prop} {b : Nat} {st : Bool} {nw : Nat → Int32} {ac : Nat → Nat → Int32} {na : Nat} {ik : Nat → Bool} {im : Nat → Nat → Int32} {rp : Nat → Bool} {rl : Nat → Int32} {rs : Nat → Nat} {ri : Nat → Nat → Int32} {tp : Nat → Int32} {tn : Nat} {lf : Int32} {fd : Int32} {tr : Nat → Int32} {un : Nat} (hX : XV G b (st, nw, ac, na, ik, im, rp, rl, rs, ri, tp, tn, lf, fd, tr, un)) (hI : XPI (st, nw, ac, na, ik, im, rp, rl, rs, ri, tp, tn, lf, fd, tr, un)) (hQ : ∀ G' : gG, XV G' b (opStatus (st, nw, ac, na, ik, im, rp, rl, rs, ri, tp, tn, lf, fd, tr, un)).2 → Frm G G' b 309 → Q (some (.int (opStatus (st, nw, ac, na, ik, im, rp, rl, rs, ri, tp, tn, lf, fd, tr, un)).1)) G') : Runs E y_X_status 1 0 S [.ref b] G Q := by
  refine Runs.of "ClockPost" [some (.ref b)] cw_X_status (by decide) (by decide +kernel) rfl (Nat.le_of_ble_eq_true rfl) rfl (fun K hK => ?_)
  refine r_aload_n hK d_X_status_0 rfl ?_
  refine r_get hK lf_X_300 d_X_status_1 (hX.1.1) rfl ?_
  refine r_iret hK rfl rfl d_X_status_4 ?_
  exact hQ _ hX Frm.rf
theorem c_X_house {E : gX} {S : Nat} {G : gG} {Q : Option Value → gG → Prop} {b : Nat} {st : Bool} {nw : Nat → Int32} {ac : Nat → Nat → Int32} {na : Nat} {ik : Nat → Bool} {im : Nat → Nat → Int32} {rp : Nat → Bool} {rl : Nat → Int32} {rs : Nat → Nat} {ri : Nat → Nat → Int32} {tp : Nat → Int32} {tn : Nat} {lf : Int32} {fd : Int32} {tr : Nat → Int32} {un : Nat} (hX : XV G b (st, nw, ac, na, ik, im, rp, rl, rs, ri, tp, tn, lf, fd, tr, un)) (hI : XPI (st, nw, ac, na, ik, im, rp, rl, rs, ri, tp, tn, lf, fd, tr, un)) (hQ : ∀ G' : gG, XV G' b (opHouse (st, nw, ac, na, ik, im, rp, rl, rs, ri, tp, tn, lf, fd, tr, un)).2 → Frm G G' b 309 → Q (some (.int (opHouse (st, nw, ac, na, ik, im, rp, rl, rs, ri, tp, tn, lf, fd, tr, un)).1)) G') : Runs E y_X_house 7 0 S [.ref b] G Q := by
  refine Runs.of "ClockPost" [some (.ref b), none] cw_X_house (by decide) (by decide +kernel) rfl (Nat.le_of_ble_eq_true rfl) rfl (fun K hK => ?_)
  obtain ⟨pl, nb, hP⟩ := hX.tape
  obtain ⟨s0, u0, w0, hH, e0⟩ := hX.fore
  obtain ⟨ea, eb, ec⟩ := rAll_e (f := tp) (m := tn) (v := w0) (w := zV)
  refine r_aload_n hK d_X_house_0 rfl ?_
  refine r_get hK lf_X_18 d_X_house_1 (hX.1.1) rfl ?_
  refine r_aload_n hK d_X_house_4 rfl ?_
  refine r_get hK lf_X_29 d_X_house_5 (hX.1.1) rfl ?_
  refine r_v1 (k' := 6) hK lm_X_114 d_X_house_8 ⟨_, hP.1⟩ (by decide) (Nat.le_of_ble_eq_true rfl) ?_
  refine c_P_readInto hP (hI.2.2.2.2.2.2.2.2.1) hH (by omega) (fun G8 nb8 v8 hP hH hn8 e8 f8 => kc_s ?_)
  obtain ⟨G1, g1, g2⟩ := f8.sp
  have hX := hX.sT (tp' := tp) (tn' := tn) g1 ⟨_, _, hP.frm g2.sm (by omega)⟩
  have hX := hX.sF g2 hH.e.j
  have hF : Frm G G8 b 309 := f8.f (by omega) (by omega) (by omega) (by omega)
  rw [ea] at hP hX hH e8 ⊢
  rw [eb] at hP
  refine st_in_1_2 hK d_X_house_11 trivial ?_
  refine r_aload_n hK d_X_house_12 rfl ?_
  refine r_get hK lf_X_18 d_X_house_13 (hX.1.1) rfl ?_
  refine r_iconst hK d_X_house_16 kc_0 ?_
  refine p_P_length (x := nI 0) hK lf_X_110 d_X_house_17 hP (fun G17 hP f17 => ?_)
  have hX := hX.sT (tp' := tp) (tn' := 0) f17 ⟨_, _, hP⟩
  have hH := hH.frm f17 (by omega)
  have hF := hF.tr (f17.mono (by omega) (by omega))
  refine r_iload_n hK d_X_house_20 rfl ?_
  refine r_if_ne (tgt := 35) hK d_X_house_21 rfl (fun h21 => ?_) (fun h21 => ?_)
  · skip
    have hc := zB_t.mp (bI_n0.mp h21)
    rw [opHouse, if_pos hc] at hQ
    rw [lfC_0 hc] at hX
    have hS : HE G17 (b + 12) (bI true) (rAll tp tn zV).2.2 := by
      have := (hH.e).ev ((eqv.of (e8 hc)).tr ec)
      rw [zB_t.mpr hc] at this
      exact this
    have hn : nN ((rAll tp tn zV).2.2 0) ≤ 6 := by rw [← ec.1 0 (by omega), ← e8 hc 0 (by omega)]; exact hn8
    refine r_aload_n hK d_X_house_35 rfl ?_
    refine r_get hK lf_X_25 d_X_house_36 (hX.1.1) rfl ?_
    refine r_aload_n hK d_X_house_39 rfl ?_
    refine r_get hK lf_X_29 d_X_house_40 (hX.1.1) rfl ?_
    refine r_v1 (k' := 2) hK lm_X_122 d_X_house_43 ⟨_, hX.now.o⟩ (by decide) (Nat.le_of_ble_eq_true rfl) ?_
    refine e_H_become hX.now hS hn (by omega) (fun G43 hH43 f43 => kc_n ?_)
    have hX := hX.sN f43 hH43
    have hF := hF.tr (f43.mono (by omega) (by omega))
    obtain ⟨o, ho, hA, hAJ, hAH⟩ := hX.acts
    refine r_aload_n hK d_X_house_46 rfl ?_
    refine r_get hK lf_X_39 d_X_house_47 (hX.1.1) rfl ?_
    refine r_v0 (k' := 1) hK lm_X_126 d_X_house_50 ⟨_, hA.1⟩ (by decide) (Nat.le_of_ble_eq_true rfl) ?_
    refine c_A_forgetAll hA (fun G50 hA f50 => kc_n ?_)
    have hX := hX.sA (ac' := ac) (na' := 0) (f50.mono (by omega) (by omega)) ⟨o, ho, hA, fun i hi => (hAJ i hi).frm f50 (by omega), fun i hi => absurd hi (by omega)⟩
    have hF := hF.tr (f50.mono (by omega) (by omega))
    refine r_aload_n hK d_X_house_53 rfl ?_
    refine r_get hK lf_X_25 d_X_house_54 (hX.1.1) rfl ?_
    refine r_get hK lf_X_129 d_X_house_57 (hX.now.o) rfl ?_
    refine r_iret hK rfl rfl d_X_house_60 ?_
    exact hQ _ hX hF
  · skip
    have hc := zB_f.mp (bI_0.mp h21)
    rw [opHouse, if_neg hc] at hQ
    rw [show lfC lf (rAll tp tn zV).1 = (rAll tp tn zV).1 from if_neg hc] at hX
    refine r_ldc hK d_X_house_24 lc_X_118 ?_
    refine r_aload_n hK d_X_house_26 rfl ?_
    refine r_get hK lf_X_18 d_X_house_27 (hX.1.1) rfl ?_
    refine r_get hK lf_X_119 d_X_house_30 (hP.1) rfl ?_
    refine r_isub hK d_X_house_33 ?_
    refine r_iret hK rfl rfl d_X_house_34 ?_
    exact hQ _ hX hF
theorem c_X_days {E : gX} {S : Nat} {G : gG} {Q : Option Value → gG → Prop} {b : Nat} {st : Bool} {nw : Nat → Int32} {ac : Nat → Nat → Int32} {na : Nat} {ik : Nat → Bool} {im : Nat → Nat → Int32} {rp : Nat → Bool} {rl : Nat → Int32} {rs : Nat → Nat} {ri : Nat → Nat → Int32} {tp : Nat → Int32} {tn : Nat} {lf : Int32} {fd : Int32} {tr : Nat → Int32} {un : Nat} (hX : XV G b (st, nw, ac, na, ik, im, rp, rl, rs, ri, tp, tn, lf, fd, tr, un)) (hI : XPI (st, nw, ac, na, ik, im, rp, rl, rs, ri, tp, tn, lf, fd, tr, un)) {n : Int32} (hQ : ∀ G' : gG, XV G' b (opDays (st, nw, ac, na, ik, im, rp, rl, rs, ri, tp, tn, lf, fd, tr, un) n).2 → Frm G G' b 309 → Q (some (.int (opDays (st, nw, ac, na, ik, im, rp, rl, rs, ri, tp, tn, lf, fd, tr, un) n).1)) G') : Runs E y_X_days 6 0 S [.ref b, .int n] G Q := by
  refine Runs.of "ClockPost" [some (.ref b), some (.int n), none] cw_X_days (by decide) (by decide +kernel) rfl (Nat.le_of_ble_eq_true rfl) rfl (fun K hK => ?_)
  refine r_aload_n hK d_X_days_0 rfl ?_
  refine r_get hK lf_X_25 d_X_days_1 (hX.1.1) rfl ?_
  refine r_get hK lf_X_135 d_X_days_4 (hX.now.o) rfl ?_
  refine r_if_ne (tgt := 13) hK d_X_days_7 rfl (fun h7 => ?_) (fun h7 => ?_)
  · skip
    have hb := bI_n0.mp h7
    rw [opDays, if_pos hb] at hQ
    refine r_iload_n hK d_X_days_13 rfl ?_
    refine r_iconst hK d_X_days_14 kc_1 ?_
    refine r_bipush hK d_X_days_15 kb_24 ?_
    refine r_s3 (k' := 1) hK lm_X_62 d_X_days_17 (by decide) (Nat.le_of_ble_eq_true rfl) ?_
    refine c_X_isWithin (kc_s ?_)
    refine r_if_ne (tgt := 26) hK d_X_days_20 rfl (fun h20 => ?_) (fun h20 => ?_)
    · skip
      have hc := bI_n0.mp h20
      rw [if_pos hc] at hQ
      refine r_aload_n hK d_X_days_26 rfl ?_
      refine r_get hK lf_X_25 d_X_days_27 (hX.1.1) rfl ?_
      refine r_get hK lf_X_139 d_X_days_30 (hX.now.o) rfl ?_
      refine r_iload_n hK d_X_days_33 rfl ?_
      refine r_iadd hK d_X_days_34 ?_
      refine r_sipush hK d_X_days_35 ks_999 ?_
      refine r_icmp_le (tgt := 44) hK d_X_days_38 rfl (fun h38 => ?_) (fun h38 => ?_)
      · skip
        rw [if_pos h38] at hQ
        refine r_iconst hK d_X_days_44 kc_0 ?_
        refine st_in_2_3 hK d_X_days_45 trivial ?_
        suffices L : ∀ j, j ≤ nN n → ∀ (G1 : gG) (v : Nat → Int32) (a1 : Nat → Nat → Int32) (n1 : Nat), XV G1 b (st, v, a1, n1, ik, im, rp, rl, rs, ri, tp, tn, lf, fd, tr, un) → Frm G G1 b 309 → nN (v 0) ≤ 6 → n1 ≤ 24 → dysN (nN n - j) (v, a1, n1) = dysN (nN n) (nw, ac, na) → K 46 [some (.ref b), some (.int n), some (.int (nI j))] [] S G1 from L 0 (Nat.zero_le _) _ _ _ _ hX Frm.rf hI.1 hI.2.2.2.1 rfl
        refine lpN (nN n) (fun j hj ih G1 v a1 n1 hX hF hn hna hE => ?_)
        have := nN_lt n
        refine r_iload_n hK d_X_days_46 rfl ?_
        refine r_iload_n hK d_X_days_47 rfl ?_
        refine r_icmp_ge (tgt := 76) hK d_X_days_48 rfl (fun h48 => ?_) (fun h48 => ?_)
        · skip
          have hq : j = nN n := by have := (ge_nN (by omega)).mp h48; omega
          rw [hq, Nat.sub_self] at hE
          rw [← hE] at hQ
          refine r_aload_n hK d_X_days_76 rfl ?_
          refine r_get hK lf_X_25 d_X_days_77 (hX.1.1) rfl ?_
          refine r_get hK lf_X_149 d_X_days_80 (hX.now.o) rfl ?_
          refine r_iret hK rfl rfl d_X_days_83 ?_
          exact hQ _ hX hF
        · skip
          have hq : j < nN n := (lt_nN (by omega)).mp (Int32.not_le.mp h48)
          rw [show nN n - j = (nN n - (j + 1)) + 1 by omega, dysN] at hE
          obtain ⟨o, ho, hA, -⟩ := hX.acts
          refine r_aload_n hK d_X_days_51 rfl ?_
          refine r_get hK lf_X_39 d_X_days_52 (hX.1.1) rfl ?_
          refine r_aload_n hK d_X_days_55 rfl ?_
          refine r_get hK lf_X_25 d_X_days_56 (hX.1.1) rfl ?_
          refine r_v1 (k' := 3) hK lm_X_142 d_X_days_59 ⟨_, hA.1⟩ (by decide) (Nat.le_of_ble_eq_true rfl) ?_
          refine x_keep hX hb hn hna (fun G59 hX f59 => kc_n ?_)
          have hF := hF.tr f59
          refine r_aload_n hK d_X_days_62 rfl ?_
          refine r_get hK lf_X_25 d_X_days_63 (hX.1.1) rfl ?_
          refine r_v0 (k' := 5) hK lm_X_145 d_X_days_66 ⟨_, hX.now.o⟩ (by decide) (Nat.le_of_ble_eq_true rfl) ?_
          refine e_H_passDay hX.now hn (fun G66 hH f66 => kc_s ?_)
          have hX := hX.sN f66 hH
          have hF := hF.tr (f66.mono (by omega) (by omega))
          refine r_pop hK d_X_days_69 rfl ?_
          first | refine iN_2_3 hK d_X_days_70 trivial ?_ | refine ii_2_1_3 hK d_X_days_70 trivial ?_
          refine r_goto (tgt := 46) hK d_X_days_73 rfl ?_
          exact ih hq _ _ _ _ hX hF (by rw [passV_0]; exact hn) (kpA_le hna) hE
      · skip
        rw [if_neg h38] at hQ
        refine r_ldc hK d_X_days_41 lc_X_113 ?_
        refine r_iret hK rfl rfl d_X_days_43 ?_
        exact hQ _ hX Frm.rf
    · skip
      have hc := bI_0.mp h20
      rw [if_neg (by simp [hc])] at hQ
      refine r_ldc hK d_X_days_23 lc_X_66 ?_
      refine r_iret hK rfl rfl d_X_days_25 ?_
      exact hQ _ hX Frm.rf
  · skip
    have hb := bI_0.mp h7
    rw [opDays, if_neg (by simp [hb])] at hQ
    refine r_ldc hK d_X_days_10 lc_X_138 ?_
    refine r_iret hK rfl rfl d_X_days_12 ?_
    exact hQ _ hX Frm.rf
theorem c_X_answer {E : gX} {S : Nat} {G : gG} {Q : Option Value → gG → Prop} {b : Nat} {st : Bool} {nw : Nat → Int32} {ac : Nat → Nat → Int32} {na : Nat} {ik : Nat → Bool} {im : Nat → Nat → Int32} {rp : Nat → Bool} {rl : Nat → Int32} {rs : Nat → Nat} {ri : Nat → Nat → Int32} {tp : Nat → Int32} {tn : Nat} {lf : Int32} {fd : Int32} {tr : Nat → Int32} {un : Nat} (hX : XV G b (st, nw, ac, na, ik, im, rp, rl, rs, ri, tp, tn, lf, fd, tr, un)) (hI : XPI (st, nw, ac, na, ik, im, rp, rl, rs, ri, tp, tn, lf, fd, tr, un)) {i : Int32} (hQ : ∀ G' : gG, XV G' b (opAnswer (st, nw, ac, na, ik, im, rp, rl, rs, ri, tp, tn, lf, fd, tr, un) i).2 → Frm G G' b 309 → Q (some (.int (opAnswer (st, nw, ac, na, ik, im, rp, rl, rs, ri, tp, tn, lf, fd, tr, un) i).1)) G') : Runs E y_X_answer 4 0 S [.ref b, .int i] G Q := by
  refine Runs.of "ClockPost" [some (.ref b), some (.int i)] cw_X_answer (by decide) (by decide +kernel) rfl (Nat.le_of_ble_eq_true rfl) rfl (fun K hK => ?_)
  refine r_aload_n hK d_X_answer_0 rfl ?_
  refine r_get hK lf_X_25 d_X_answer_1 (hX.1.1) rfl ?_
  refine r_iload_n hK d_X_answer_4 rfl ?_
  refine r_v1 (k' := 1) hK lm_X_152 d_X_answer_5 ⟨_, hX.now.o⟩ (by decide) (Nat.le_of_ble_eq_true rfl) ?_
  refine e_H_hasLetter hX.now (kc_s ?_)
  refine r_if_ne (tgt := 14) hK d_X_answer_8 rfl (fun h8 => ?_) (fun h8 => ?_)
  · skip
    have hb := bI_n0.mp h8
    refine r_aload_n hK d_X_answer_14 rfl ?_
    refine r_get hK lf_X_25 d_X_answer_15 (hX.1.1) rfl ?_
    refine r_iload_n hK d_X_answer_18 rfl ?_
    refine r_v1 (k' := 2) hK lm_X_155 d_X_answer_19 ⟨_, hX.now.o⟩ (by decide) (Nat.le_of_ble_eq_true rfl) ?_
    refine e_H_isBehind hX.now (kc_s ?_)
    refine r_if_ne (tgt := 28) hK d_X_answer_22 rfl (fun h22 => ?_) (fun h22 => ?_)
    · skip
      have hc := bI_n0.mp h22
      rw [opAnswer, if_pos hb, if_pos hc] at hQ
      obtain ⟨o, ho, hA, -⟩ := hX.acts
      refine r_aload_n hK d_X_answer_28 rfl ?_
      refine r_get hK lf_X_39 d_X_answer_29 (hX.1.1) rfl ?_
      refine r_aload_n hK d_X_answer_32 rfl ?_
      refine r_get hK lf_X_25 d_X_answer_33 (hX.1.1) rfl ?_
      refine r_v1 (k' := 3) hK lm_X_142 d_X_answer_36 ⟨_, hA.1⟩ (by decide) (Nat.le_of_ble_eq_true rfl) ?_
      refine x_keep hX (hasL_st hI hb) hI.1 hI.2.2.2.1 (fun G36 hX f36 => kc_n ?_)
      refine r_aload_n hK d_X_answer_39 rfl ?_
      refine r_get hK lf_X_25 d_X_answer_40 (hX.1.1) rfl ?_
      refine r_iload_n hK d_X_answer_43 rfl ?_
      refine r_v1 (k' := 3) hK lm_X_158 d_X_answer_44 ⟨_, hX.now.o⟩ (by decide) (Nat.le_of_ble_eq_true rfl) ?_
      refine e_H_answerOne hX.now hI.1 (fun G44 hH f44 => kc_n ?_)
      have hX := hX.sN f44 hH
      refine r_aload_n hK d_X_answer_47 rfl ?_
      refine r_get hK lf_X_25 d_X_answer_48 (hX.1.1) rfl ?_
      refine r_get hK lf_X_162 d_X_answer_51 (hX.now.o) rfl ?_
      refine r_iret hK rfl rfl d_X_answer_54 ?_
      exact hQ _ hX (f36.tr (f44.mono (by omega) (by omega)))
    · skip
      have hc := bI_0.mp h22
      rw [opAnswer, if_pos hb, if_neg (by simp [hc])] at hQ
      refine r_ldc hK d_X_answer_25 lc_X_138 ?_
      refine r_iret hK rfl rfl d_X_answer_27 ?_
      exact hQ _ hX Frm.rf
  · skip
    have hb := bI_0.mp h8
    rw [opAnswer, if_neg (by simp [hb])] at hQ
    refine r_ldc hK d_X_answer_11 lc_X_66 ?_
    refine r_iret hK rfl rfl d_X_answer_13 ?_
    exact hQ _ hX Frm.rf
theorem c_X_post {E : gX} {S : Nat} {G : gG} {Q : Option Value → gG → Prop} {b : Nat} {st : Bool} {nw : Nat → Int32} {ac : Nat → Nat → Int32} {na : Nat} {ik : Nat → Bool} {im : Nat → Nat → Int32} {rp : Nat → Bool} {rl : Nat → Int32} {rs : Nat → Nat} {ri : Nat → Nat → Int32} {tp : Nat → Int32} {tn : Nat} {lf : Int32} {fd : Int32} {tr : Nat → Int32} {un : Nat} (hX : XV G b (st, nw, ac, na, ik, im, rp, rl, rs, ri, tp, tn, lf, fd, tr, un)) (hI : XPI (st, nw, ac, na, ik, im, rp, rl, rs, ri, tp, tn, lf, fd, tr, un)) {i : Int32} (hQ : ∀ G' : gG, XV G' b (opPost (st, nw, ac, na, ik, im, rp, rl, rs, ri, tp, tn, lf, fd, tr, un) i).2 → Frm G G' b 309 → Q (some (.int (opPost (st, nw, ac, na, ik, im, rp, rl, rs, ri, tp, tn, lf, fd, tr, un) i).1)) G') : Runs E y_X_post 4 0 S [.ref b, .int i] G Q := by
  refine Runs.of "ClockPost" [some (.ref b), some (.int i)] cw_X_post (by decide) (by decide +kernel) rfl (Nat.le_of_ble_eq_true rfl) rfl (fun K hK => ?_)
  refine r_aload_n hK d_X_post_0 rfl ?_
  refine r_get hK lf_X_25 d_X_post_1 (hX.1.1) rfl ?_
  refine r_iload_n hK d_X_post_4 rfl ?_
  refine r_v1 (k' := 1) hK lm_X_152 d_X_post_5 ⟨_, hX.now.o⟩ (by decide) (Nat.le_of_ble_eq_true rfl) ?_
  refine e_H_hasLetter hX.now (kc_s ?_)
  refine r_if_ne (tgt := 14) hK d_X_post_8 rfl (fun h8 => ?_) (fun h8 => ?_)
  · skip
    have hb := bI_n0.mp h8
    refine r_aload_n hK d_X_post_14 rfl ?_
    refine r_get hK lf_X_25 d_X_post_15 (hX.1.1) rfl ?_
    refine r_iload_n hK d_X_post_18 rfl ?_
    refine r_v1 (k' := 2) hK lm_X_155 d_X_post_19 ⟨_, hX.now.o⟩ (by decide) (Nat.le_of_ble_eq_true rfl) ?_
    refine e_H_isBehind hX.now (kc_s ?_)
    refine r_if_eq (tgt := 28) hK d_X_post_22 rfl (fun h22 => ?_) (fun h22 => ?_)
    · skip
      have hc := bI_0.mp h22
      rw [opPost, if_pos hb, if_neg (by simp [hc])] at hQ
      obtain ⟨o, ho, hA, -⟩ := hX.acts
      refine r_aload_n hK d_X_post_28 rfl ?_
      refine r_get hK lf_X_39 d_X_post_29 (hX.1.1) rfl ?_
      refine r_aload_n hK d_X_post_32 rfl ?_
      refine r_get hK lf_X_25 d_X_post_33 (hX.1.1) rfl ?_
      refine r_v1 (k' := 3) hK lm_X_142 d_X_post_36 ⟨_, hA.1⟩ (by decide) (Nat.le_of_ble_eq_true rfl) ?_
      refine x_keep hX (hasL_st hI hb) hI.1 hI.2.2.2.1 (fun G36 hX f36 => kc_n ?_)
      refine r_aload_n hK d_X_post_39 rfl ?_
      refine r_get hK lf_X_25 d_X_post_40 (hX.1.1) rfl ?_
      refine r_iload_n hK d_X_post_43 rfl ?_
      refine r_v1 (k' := 3) hK lm_X_165 d_X_post_44 ⟨_, hX.now.o⟩ (by decide) (Nat.le_of_ble_eq_true rfl) ?_
      refine e_H_putBehind hX.now hI.1 (fun G44 hH f44 => kc_n ?_)
      have hX := hX.sN f44 hH
      refine r_aload_n hK d_X_post_47 rfl ?_
      refine r_get hK lf_X_25 d_X_post_48 (hX.1.1) rfl ?_
      refine r_v0 (k' := 3) hK lm_X_168 d_X_post_51 ⟨_, hX.now.o⟩ (by decide) (Nat.le_of_ble_eq_true rfl) ?_
      refine e_H_thickness hX.now (by rw [putV_0]; exact hI.1) (kc_s ?_)
      refine r_iret hK rfl rfl d_X_post_54 ?_
      exact hQ _ hX (f36.tr (f44.mono (by omega) (by omega)))
    · skip
      have hc := bI_n0.mp h22
      rw [opPost, if_pos hb, if_pos hc] at hQ
      refine r_ldc hK d_X_post_25 lc_X_138 ?_
      refine r_iret hK rfl rfl d_X_post_27 ?_
      exact hQ _ hX Frm.rf
  · skip
    have hb := bI_0.mp h8
    rw [opPost, if_neg (by simp [hb])] at hQ
    refine r_ldc hK d_X_post_11 lc_X_66 ?_
    refine r_iret hK rfl rfl d_X_post_13 ?_
    exact hQ _ hX Frm.rf
theorem c_X_dread {E : gX} {S : Nat} {G : gG} {Q : Option Value → gG → Prop} {b : Nat} {st : Bool} {nw : Nat → Int32} {ac : Nat → Nat → Int32} {na : Nat} {ik : Nat → Bool} {im : Nat → Nat → Int32} {rp : Nat → Bool} {rl : Nat → Int32} {rs : Nat → Nat} {ri : Nat → Nat → Int32} {tp : Nat → Int32} {tn : Nat} {lf : Int32} {fd : Int32} {tr : Nat → Int32} {un : Nat} (hX : XV G b (st, nw, ac, na, ik, im, rp, rl, rs, ri, tp, tn, lf, fd, tr, un)) (hI : XPI (st, nw, ac, na, ik, im, rp, rl, rs, ri, tp, tn, lf, fd, tr, un)) {i v : Int32} (hQ : ∀ G' : gG, XV G' b (opDread (st, nw, ac, na, ik, im, rp, rl, rs, ri, tp, tn, lf, fd, tr, un) i v).2 → Frm G G' b 309 → Q (some (.int (opDread (st, nw, ac, na, ik, im, rp, rl, rs, ri, tp, tn, lf, fd, tr, un) i v).1)) G') : Runs E y_X_dread 4 0 S [.ref b, .int i, .int v] G Q := by
  refine Runs.of "ClockPost" [some (.ref b), some (.int i), some (.int v), none] cw_X_dread (by decide) (by decide +kernel) rfl (Nat.le_of_ble_eq_true rfl) rfl (fun K hK => ?_)
  refine r_aload_n hK d_X_dread_0 rfl ?_
  refine r_get hK lf_X_25 d_X_dread_1 (hX.1.1) rfl ?_
  refine r_iload_n hK d_X_dread_4 rfl ?_
  refine r_v1 (k' := 1) hK lm_X_152 d_X_dread_5 ⟨_, hX.now.o⟩ (by decide) (Nat.le_of_ble_eq_true rfl) ?_
  refine e_H_hasLetter hX.now (kc_s ?_)
  refine r_if_eq (tgt := 21) hK d_X_dread_8 rfl (fun h8 => ?_) (fun h8 => ?_)
  · skip
    have hb := bI_0.mp h8
    rw [opDread, if_neg (by simp [hb])] at hQ
    refine r_ldc hK d_X_dread_21 lc_X_66 ?_
    refine r_iret hK rfl rfl d_X_dread_23 ?_
    exact hQ _ hX Frm.rf
  · skip
    have hb := bI_n0.mp h8
    refine r_iload_n hK d_X_dread_11 rfl ?_
    refine r_iconst hK d_X_dread_12 kc_0 ?_
    refine r_bipush hK d_X_dread_13 kb_9 ?_
    refine r_s3 (k' := 1) hK lm_X_62 d_X_dread_15 (by decide) (Nat.le_of_ble_eq_true rfl) ?_
    refine c_X_isWithin (kc_s ?_)
    refine r_if_ne (tgt := 24) hK d_X_dread_18 rfl (fun h18 => ?_) (fun h18 => ?_)
    · skip
      have hc := bI_n0.mp h18
      rw [opDread, if_pos ⟨hb, hc⟩] at hQ
      obtain ⟨o, ho, hA, -⟩ := hX.acts
      obtain ⟨j, hj, hj6, hij⟩ := hasL_ix hb hI.1
      refine r_aload_n hK d_X_dread_24 rfl ?_
      refine r_get hK lf_X_39 d_X_dread_25 (hX.1.1) rfl ?_
      refine r_aload_n hK d_X_dread_28 rfl ?_
      refine r_get hK lf_X_25 d_X_dread_29 (hX.1.1) rfl ?_
      refine r_v1 (k' := 3) hK lm_X_142 d_X_dread_32 ⟨_, hA.1⟩ (by decide) (Nat.le_of_ble_eq_true rfl) ?_
      refine x_keep hX (hasL_st hI hb) hI.1 hI.2.2.2.1 (fun G32 hX f32 => kc_n ?_)
      subst hij
      rw [nN_nI (by omega)] at hQ
      refine r_aload_n hK d_X_dread_35 rfl ?_
      refine r_get hK lf_X_25 d_X_dread_36 (hX.1.1) rfl ?_
      refine r_get hK lf_X_171 d_X_dread_39 (hX.now.o) rfl ?_
      refine r_iload_n hK d_X_dread_42 rfl ?_
      refine g_let2 hK d_X_dread_43 hX.now hj6 ?_
      refine r_get hK lf_X_175 d_X_dread_44 (hX.now.l hI.1 hj) rfl ?_
      refine st_in_3_4 hK d_X_dread_47 trivial ?_
      refine r_aload_n hK d_X_dread_48 rfl ?_
      refine r_get hK lf_X_25 d_X_dread_49 (hX.1.1) rfl ?_
      refine r_get hK lf_X_171 d_X_dread_52 (hX.now.o) rfl ?_
      refine r_iload_n hK d_X_dread_55 rfl ?_
      refine g_let2 hK d_X_dread_56 hX.now hj6 ?_
      refine r_iload_n hK d_X_dread_57 rfl ?_
      refine px_L_fear hK lf_X_175 d_X_dread_58 hX.now hj6 (fun G58 hH f58 => ?_)
      have hX := hX.sN f58 hH
      refine r_iload_n hK d_X_dread_61 rfl ?_
      refine r_iret hK rfl rfl d_X_dread_62 ?_
      exact hQ _ hX (f32.tr (f58.mono (by omega) (by omega)))
    · skip
      have hc := bI_0.mp h18
      rw [opDread, if_neg (by simp [hc])] at hQ
      refine r_ldc hK d_X_dread_21 lc_X_66 ?_
      refine r_iret hK rfl rfl d_X_dread_23 ?_
      exact hQ _ hX Frm.rf
