def flw (p : Bool) (z : Nat) (i n : Int32) : Int32 := if p = true then (if hasP (nI z) i n = true then 0 else 2) else 1
theorem flw_e {p : Bool} {z : Nat} {i n : Int32} : (if bI (!p) = 0 then (if hasP (nI z) i n = true then (0 : Int32) else 2) else 1) = flw p z i n := by
  unfold flw
  cases p
  · rfl
  · rfl
def lsT (w : Int32) : Nat := if w = 0 then 9 else if w = 1 then 20 else 5
def fsT (w : Int32) : Nat := if w = 2 then 1 else 0
theorem lsT_e {w : Int32} : (if w = 0 then (9 : Int32) else if w = 1 then 20 else 5) = nI (lsT w) := by
  unfold lsT
  repeat' split
  all_goals rfl
theorem fsT_e {w : Int32} : (if w = 2 then (1 : Int32) else 0) = nI (fsT w) := by
  unfold fsT
  split <;> rfl
theorem lsT_20 {w : Int32} : 5 ≤ lsT w ∧ lsT w ≤ 20 := by
  unfold lsT
  repeat' split
  all_goals omega
theorem fsT_1 {w : Int32} : fsT w ≤ 1 := by unfold fsT; split <;> omega
theorem chgV_0 {v : Nat → Int32} {w x : Int32} {j : Nat} : chgV v w j x 0 = v 0 := by
  unfold chgV
  repeat' split
  all_goals rw [upd_n (by omega)]
theorem eqv.chg {u v : Nat → Int32} (h : eqv u v) {w x : Int32} {j : Nat} : eqv (chgV u w j x) (chgV v w j x) := by
  unfold chgV
  repeat' split
  all_goals exact h.up (by omega) rfl
theorem HE.chg {G G' : gG} {h j : Nat} {s : Int32} {v : Nat → Int32} {w x : Int32} (hH : HE G h s v) (hn : nN (v 0) ≤ 6) (hj : j < nN (v 0)) (hL : LX G' (h + 2 + j) (if w = 0 then [.int (v (6 + j)), .int x, .int (v (18 + j)), .int (v (24 + j)), .int (v (30 + j))] else if w = 1 then [.int (v (6 + j)), .int (v (12 + j)), .int (v (18 + j)), .int (v (24 + j)), .int x] else [.int x, .int (v (12 + j)), .int (v (18 + j)), .int (v (24 + j)), .int (v (30 + j))])) (hF : Frm G G' (h + 2 + j) 1) : HE G' h s (chgV v w j x) := by
  obtain ⟨u, q, e⟩ := hH
  obtain ⟨a, b, c, d, f⟩ := e.k hj hn
  refine ⟨chgV u w j x, q.setL2 (by omega) ?_ hF (fun k hk hne => ?_), e.chg⟩
  · unfold letL chgV
    by_cases h0 : w = 0
    · simp only [if_pos h0] at hL ⊢
      rw [upd_n (by omega), upd_s, upd_n (by omega), upd_n (by omega), upd_n (by omega), a, c, d, f]
      exact hL
    · by_cases h1 : w = 1
      · simp only [if_neg h0, if_pos h1] at hL ⊢
        rw [upd_n (by omega), upd_n (by omega), upd_n (by omega), upd_n (by omega), upd_s, a, b, c, d]
        exact hL
      · simp only [if_neg h0, if_neg h1] at hL ⊢
        rw [upd_s, upd_n (by omega), upd_n (by omega), upd_n (by omega), upd_n (by omega), b, c, d, f]
        exact hL
  · unfold chgV
    repeat' split
    all_goals exact upd_n (by omega)
theorem mx1_n0 {g : Int32} : ¬ (if (1 : Int32) < g then g else 1) = 0 := by
  split
  · rename_i h
    intro q
    rw [q] at h
    revert h
    decide
  · decide
def ordA (tr bst nw : Nat → Int32) (ls k : Int32) : Int32 := if k < bitc ls then (if 0 ≤ k then (ext 6 nw ls 0 (tr, bst, 1000000)).2.1 (nN k) else (ext 6 nw ls 0 (tr, bst, 1000000)).2.2) else -1000000
def opFits : gS → Int32 → Int32 → Int32 → Int32 → Int32 → Int32 × gS
  | (st, nw, ac, na, ik, im, rp, rl, rs, ri, tp, tn, lf, fd, tr, un), i, r, s, n, w => if hasL nw i = true ∧ inB r 0 7 = true ∧ inB n 1 16 = true ∧ inB w 0 2 = true then (if flw (rp (nN r)) (rs (nN r)) s n = 0 then (ftL (fun t => tld (ri (nN r)) (rs (nN r)) s (nN n) 0 (chgV nw w (nN i) (nI t))) (lsT w + 1 - fsT w) (fsT w) 0, (st, nw, ac, na, ik, im, rp, rl, rs, ri, tp, tn, lf, 0, tr, un)) else (-1000010 - flw (rp (nN r)) (rs (nN r)) s n, (st, nw, ac, na, ik, im, rp, rl, rs, ri, tp, tn, lf, flw (rp (nN r)) (rs (nN r)) s n, tr, un))) else (-1000001, (st, nw, ac, na, ik, im, rp, rl, rs, ri, tp, tn, lf, fd, tr, un))
def opStealth : gS → Int32 → Int32 → Int32 → Int32 × gS
  | (st, nw, ac, na, ik, im, rp, rl, rs, ri, tp, tn, lf, fd, tr, un), r, s, n => if rfu st (inB r 0 7 && inB n 1 16) = 0 then (if flw (rp (nN r)) (rs (nN r)) s n = 0 then (stL (fun t => if behB nw (nI t) = true then some (tld (ri (nN r)) (rs (nN r)) s (nN n) 0 (wtV nw (1 <<< (nI t &&& 31)))) else none) (nN (nw 0)) 0 (if tld (ri (nN r)) (rs (nN r)) s (nN n) 0 nw = true then 64 else 0), (st, nw, ac, na, ik, im, rp, rl, rs, ri, tp, tn, lf, 0, tr, un)) else (-1000010 - flw (rp (nN r)) (rs (nN r)) s n, (st, nw, ac, na, ik, im, rp, rl, rs, ri, tp, tn, lf, flw (rp (nN r)) (rs (nN r)) s n, tr, un))) else (rfu st (inB r 0 7 && inB n 1 16), (st, nw, ac, na, ik, im, rp, rl, rs, ri, tp, tn, lf, fd, tr, un))
def opLost : gS → Int32 → Int32 → Int32 → Int32 × gS
  | (st, nw, ac, na, ik, im, rp, rl, rs, ri, tp, tn, lf, fd, tr, un), q, c, w => (if rfu st (inB q 0 300 && inB c 0 10 && inB w 0 1) = 0 then (if w = 0 then ltL (fun t => if nI t &&& (nw 3 ^^^ (-1)) = 0 then some (if wght (wtV nw (nI t)) ≤ q then pwI c (nN (bitc (nI t))) * pwI (10 - c) (nN (bitc (wtV nw (nI t) 3))) else 0) else none) 64 0 0 / (if (1 : Int32) < gsI 32 (ltL (fun t => if nI t &&& (nw 3 ^^^ (-1)) = 0 then some (if wght (wtV nw (nI t)) ≤ q then pwI c (nN (bitc (nI t))) * pwI (10 - c) (nN (bitc (wtV nw (nI t) 3))) else 0) else none) 64 0 0) (pwI 10 (nN (bitc (nw 3)))) then gsI 32 (ltL (fun t => if nI t &&& (nw 3 ^^^ (-1)) = 0 then some (if wght (wtV nw (nI t)) ≤ q then pwI c (nN (bitc (nI t))) * pwI (10 - c) (nN (bitc (wtV nw (nI t) 3))) else 0) else none) 64 0 0) (pwI 10 (nN (bitc (nw 3)))) else 1) else pwI 10 (nN (bitc (nw 3))) / (if (1 : Int32) < gsI 32 (ltL (fun t => if nI t &&& (nw 3 ^^^ (-1)) = 0 then some (if wght (wtV nw (nI t)) ≤ q then pwI c (nN (bitc (nI t))) * pwI (10 - c) (nN (bitc (wtV nw (nI t) 3))) else 0) else none) 64 0 0) (pwI 10 (nN (bitc (nw 3)))) then gsI 32 (ltL (fun t => if nI t &&& (nw 3 ^^^ (-1)) = 0 then some (if wght (wtV nw (nI t)) ≤ q then pwI c (nN (bitc (nI t))) * pwI (10 - c) (nN (bitc (wtV nw (nI t) 3))) else 0) else none) 64 0 0) (pwI 10 (nN (bitc (nw 3)))) else 1)) else rfu st (inB q 0 300 && inB c 0 10 && inB w 0 1), (st, nw, ac, na, ik, im, rp, rl, rs, ri, tp, tn, lf, fd, tr, un))
theorem c_X_fits {E : gX} {S : Nat} {G : gG} {Q : Option Value → gG → Prop} {b : Nat} {st : Bool} {nw : Nat → Int32} {ac : Nat → Nat → Int32} {na : Nat} {ik : Nat → Bool} {im : Nat → Nat → Int32} {rp : Nat → Bool} {rl : Nat → Int32} {rs : Nat → Nat} {ri : Nat → Nat → Int32} {tp : Nat → Int32} {tn : Nat} {lf : Int32} {fd : Int32} {tr : Nat → Int32} {un : Nat} (hX : XV G b (st, nw, ac, na, ik, im, rp, rl, rs, ri, tp, tn, lf, fd, tr, un)) (hI : XPI (st, nw, ac, na, ik, im, rp, rl, rs, ri, tp, tn, lf, fd, tr, un)) {i r s n w : Int32} (hQ : ∀ G' : gG, XV G' b (opFits (st, nw, ac, na, ik, im, rp, rl, rs, ri, tp, tn, lf, fd, tr, un) i r s n w).2 → Frm G G' b 309 → Q (some (.int (opFits (st, nw, ac, na, ik, im, rp, rl, rs, ri, tp, tn, lf, fd, tr, un) i r s n w).1)) G') : Runs E y_X_fits 7 0 S [.ref b, .int i, .int r, .int s, .int n, .int w] G Q := by
  refine Runs.of "ClockPost" [some (.ref b), some (.int i), some (.int r), some (.int s), some (.int n), some (.int w), none, none, none] cw_X_fits (by decide) (by decide +kernel) rfl (Nat.le_of_ble_eq_true rfl) rfl (fun K hK => ?_)
  refine r_aload_n hK d_X_fits_0 rfl ?_
  refine r_get hK lf_X_25 d_X_fits_1 (hX.1.1) rfl ?_
  refine r_iload_n hK d_X_fits_4 rfl ?_
  refine r_v1 (k' := 1) hK lm_X_152 d_X_fits_5 ⟨_, hX.now.o⟩ (by decide) (Nat.le_of_ble_eq_true rfl) ?_
  refine e_H_hasLetter hX.now (kc_s ?_)
  refine r_if_eq (tgt := 39) hK d_X_fits_8 rfl (fun h8 => ?_) (fun h8 => ?_)
  · skip
    have hb := bI_0.mp h8
    rw [opFits, if_neg (by simp [hb])] at hQ
    refine r_ldc hK d_X_fits_39 lc_X_66 ?_
    refine r_iret hK rfl rfl d_X_fits_41 ?_
    exact hQ _ hX Frm.rf
  · skip
    have hb := bI_n0.mp h8
    refine r_iload_n hK d_X_fits_11 rfl ?_
    refine r_s1 (k' := 2) hK lm_X_58 d_X_fits_12 (by decide) (Nat.le_of_ble_eq_true rfl) ?_
    refine c_X_isRow (kc_s ?_)
    refine r_if_eq (tgt := 39) hK d_X_fits_15 rfl (fun h15 => ?_) (fun h15 => ?_)
    · skip
      have hc := bI_0.mp h15
      rw [opFits, if_neg (by simp [hc])] at hQ
      refine r_ldc hK d_X_fits_39 lc_X_66 ?_
      refine r_iret hK rfl rfl d_X_fits_41 ?_
      exact hQ _ hX Frm.rf
    · skip
      have hc := bI_n0.mp h15
      refine r_iload hK d_X_fits_18 rfl ?_
      refine r_iconst hK d_X_fits_20 kc_1 ?_
      refine r_bipush hK d_X_fits_21 kb_16 ?_
      refine r_s3 (k' := 1) hK lm_X_62 d_X_fits_23 (by decide) (Nat.le_of_ble_eq_true rfl) ?_
      refine c_X_isWithin (kc_s ?_)
      refine r_if_eq (tgt := 39) hK d_X_fits_26 rfl (fun h26 => ?_) (fun h26 => ?_)
      · skip
        have hd := bI_0.mp h26
        rw [opFits, if_neg (by simp [hd])] at hQ
        refine r_ldc hK d_X_fits_39 lc_X_66 ?_
        refine r_iret hK rfl rfl d_X_fits_41 ?_
        exact hQ _ hX Frm.rf
      · skip
        have hd := bI_n0.mp h26
        refine r_iload hK d_X_fits_29 rfl ?_
        refine r_iconst hK d_X_fits_31 kc_0 ?_
        refine r_iconst hK d_X_fits_32 kc_2 ?_
        refine r_s3 (k' := 1) hK lm_X_62 d_X_fits_33 (by decide) (Nat.le_of_ble_eq_true rfl) ?_
        refine c_X_isWithin (kc_s ?_)
        refine r_if_ne (tgt := 42) hK d_X_fits_36 rfl (fun h36 => ?_) (fun h36 => ?_)
        · skip
          have he := bI_n0.mp h36
          rw [opFits, if_pos ⟨hb, hc, hd, he⟩] at hQ
          obtain ⟨j, hj, hj6, rfl⟩ := hasL_ix hb hI.1
          obtain ⟨y, hy, rfl⟩ := inB_7 hc
          rw [nN_nI (by omega)] at hQ
          simp only [nN_nI (show j < 2 ^ 31 by omega)] at hQ
          obtain ⟨g0, hR, hg0⟩ := hX.rows y hy
          refine r_aload_n hK d_X_fits_42 rfl ?_
          refine r_get hK lf_X_11 d_X_fits_43 (hX.1.1) rfl ?_
          refine r_iload_n hK d_X_fits_46 rfl ?_
          refine g_row hK d_X_fits_47 hX.1 hy ?_
          refine r_iload_n hK d_X_fits_48 rfl ?_
          refine r_iload hK d_X_fits_49 rfl ?_
          refine r_s3 (k' := 2) hK lm_X_237 d_X_fits_51 (by decide) (Nat.le_of_ble_eq_true rfl) ?_
          refine c_X_flawOf hR (kc_s ?_)
          rw [flw_e]
          refine st_i_6_9 hK d_X_fits_54 trivial ?_
          refine r_iload hK d_X_fits_56 rfl ?_
          refine r_if_eq (tgt := 68) hK d_X_fits_58 rfl (fun h58 => ?_) (fun h58 => ?_)
          · skip
            rw [if_pos h58] at hQ
            refine r_iconst hK d_X_fits_68 kc_0 ?_
            refine st_i_7_9 hK d_X_fits_69 trivial ?_
            refine r_iload hK d_X_fits_71 rfl ?_
            refine r_s1 (k' := 1) hK lm_X_241 d_X_fits_73 (by decide) (Nat.le_of_ble_eq_true rfl) ?_
            refine c_X_leastTried (kc_s ?_)
            rw [fsT_e]
            refine st_i_8_9 hK d_X_fits_76 trivial ?_
            suffices L : ∀ t, t ≤ lsT w + 1 → ∀ (G1 : gG) (a : Int32), XV G1 b (st, nw, ac, na, ik, im, rp, rl, rs, ri, tp, tn, lf, fd, tr, un) → Frm G G1 b 309 → ftL (fun t => tld (ri y) (rs y) s (nN n) 0 (chgV nw w j (nI t))) (lsT w + 1 - t) t a = ftL (fun t => tld (ri y) (rs y) s (nN n) 0 (chgV nw w j (nI t))) (lsT w + 1 - fsT w) (fsT w) 0 → K 78 [some (.ref b), some (.int (nI j)), some (.int (nI y)), some (.int s), some (.int n), some (.int w), some (.int (flw (rp y) (rs y) s n)), some (.int a), some (.int (nI t))] [] S G1 from L (fsT w) (by have := fsT_1 (w := w); have := (lsT_20 (w := w)).1; omega) _ _ hX Frm.rf rfl
            refine lpN (lsT w + 1) (fun t ht ih G1 a hX hF hE => ?_)
            have := (lsT_20 (w := w)).2
            refine r_iload hK d_X_fits_78 rfl ?_
            refine r_iload hK d_X_fits_80 rfl ?_
            refine r_s1 (k' := 1) hK lm_X_244 d_X_fits_82 (by decide) (Nat.le_of_ble_eq_true rfl) ?_
            refine c_X_mostTried (kc_s ?_)
            rw [lsT_e]
            refine r_icmp_gt (tgt := 146) hK d_X_fits_85 rfl (fun h85 => ?_) (fun h85 => ?_)
            · skip
              have hq : t = lsT w + 1 := by have := (nI_ltI (by omega) (by omega)).mp h85; omega
              rw [hq, Nat.sub_self] at hE
              rw [← hE] at hQ
              refine r_aload_n hK d_X_fits_146 rfl ?_
              refine r_iload hK d_X_fits_147 rfl ?_
              refine r_v1 (k' := 1) hK lm_X_75 d_X_fits_149 ⟨_, hX.1.1⟩ (by decide) (Nat.le_of_ble_eq_true rfl) ?_
              refine c_X_foundNothing hX (fun G149 hX f149 => kc_s ?_)
              refine r_iret hK rfl rfl d_X_fits_152 ?_
              exact hQ _ hX (hF.tr f149)
            · skip
              have hq : t < lsT w + 1 := Nat.not_le.mp (fun q => h85 ((nI_ltI (by omega) (by omega)).mpr q))
              rw [show lsT w + 1 - t = (lsT w + 1 - (t + 1)) + 1 by omega, ftL] at hE
              refine r_aload_n hK d_X_fits_88 rfl ?_
              refine r_get hK lf_X_29 d_X_fits_89 (hX.1.1) rfl ?_
              refine r_aload_n hK d_X_fits_92 rfl ?_
              refine r_get hK lf_X_25 d_X_fits_93 (hX.1.1) rfl ?_
              obtain ⟨s0, u0, hT⟩ := hX.fore
              refine r_v1 (k' := 2) hK lm_X_122 d_X_fits_96 ⟨_, hT.o⟩ (by decide) (Nat.le_of_ble_eq_true rfl) ?_
              refine e_H_become hT hX.now hI.1 (by omega) (fun G96 hT f96 => kc_n ?_)
              have hX := hX.sF f96 hT.j
              have hF := hF.tr (f96.mono (by omega) (by omega))
              refine r_aload_n hK d_X_fits_99 rfl ?_
              refine r_get hK lf_X_29 d_X_fits_100 (hX.1.1) rfl ?_
              refine r_get hK lf_X_171 d_X_fits_103 (hT.o) rfl ?_
              refine r_iload_n hK d_X_fits_106 rfl ?_
              refine g_let2 hK d_X_fits_107 hT hj6 ?_
              refine r_iload hK d_X_fits_108 rfl ?_
              refine r_iload hK d_X_fits_110 rfl ?_
              refine r_v2 (k' := 1) hK lm_X_247 d_X_fits_112 ⟨_, hT.l hI.1 hj⟩ (by decide) (Nat.le_of_ble_eq_true rfl) ?_
              refine c_L_change (hT.l hI.1 hj) (fun G112 hL f112 => kc_n ?_)
              have hT := hT.chg hI.1 hj hL f112
              have hX := hX.sF (f112.mono (by omega) (by omega)) hT.j
              have hF := hF.tr (f112.mono (by omega) (by omega))
              refine r_aload_n hK d_X_fits_115 rfl ?_
              refine r_aload_n hK d_X_fits_116 rfl ?_
              refine r_get hK lf_X_11 d_X_fits_117 (hX.1.1) rfl ?_
              refine r_iload_n hK d_X_fits_120 rfl ?_
              refine g_row hK d_X_fits_121 hX.1 hy ?_
              refine r_iload_n hK d_X_fits_122 rfl ?_
              refine r_iload hK d_X_fits_123 rfl ?_
              refine r_v3 (k' := 6) hK lm_X_250 d_X_fits_125 ⟨_, hX.1.1⟩ (by decide) (Nat.le_of_ble_eq_true rfl) ?_
              refine c_X_isToldBy hX hI hT (by rw [chgV_0]; exact hI.1) hy (fun G125 hX f125 => kc_s ?_)
              have hF := hF.tr f125
              refine r_if_eq (tgt := 140) hK d_X_fits_128 rfl (fun h128 => ?_) (fun h128 => ?_)
              · skip
                have hp := bI_0.mp h128
                rw [if_neg (by simp [hp])] at hE
                first | refine iN_8_9 hK d_X_fits_140 trivial ?_ | refine ii_8_1_9 hK d_X_fits_140 trivial ?_
                refine r_goto (tgt := 78) hK d_X_fits_143 rfl ?_
                exact ih hq _ _ hX hF hE
              · skip
                have hp := bI_n0.mp h128
                rw [if_pos hp] at hE
                refine r_iload hK d_X_fits_131 rfl ?_
                refine r_iconst hK d_X_fits_133 kc_1 ?_
                refine r_iload hK d_X_fits_134 rfl ?_
                refine r_ishl hK d_X_fits_136 ?_
                refine r_ior hK d_X_fits_137 ?_
                refine st_i_7_9 hK d_X_fits_138 trivial ?_
                first | refine iN_8_9 hK d_X_fits_140 trivial ?_ | refine ii_8_1_9 hK d_X_fits_140 trivial ?_
                refine r_goto (tgt := 78) hK d_X_fits_143 rfl ?_
                exact ih hq _ _ hX hF hE
          · skip
            rw [if_neg h58] at hQ
            refine r_aload_n hK d_X_fits_61 rfl ?_
            refine r_iload hK d_X_fits_62 rfl ?_
            refine r_v1 (k' := 1) hK lm_X_67 d_X_fits_64 ⟨_, hX.1.1⟩ (by decide) (Nat.le_of_ble_eq_true rfl) ?_
            refine c_X_found hX (fun G64 hX f64 => kc_s ?_)
            refine r_iret hK rfl rfl d_X_fits_67 ?_
            exact hQ _ hX f64
        · skip
          have he := bI_0.mp h36
          rw [opFits, if_neg (by simp [he])] at hQ
          refine r_ldc hK d_X_fits_39 lc_X_66 ?_
          refine r_iret hK rfl rfl d_X_fits_41 ?_
          exact hQ _ hX Frm.rf
theorem c_X_stealth {E : gX} {S : Nat} {G : gG} {Q : Option Value → gG → Prop} {b : Nat} {st : Bool} {nw : Nat → Int32} {ac : Nat → Nat → Int32} {na : Nat} {ik : Nat → Bool} {im : Nat → Nat → Int32} {rp : Nat → Bool} {rl : Nat → Int32} {rs : Nat → Nat} {ri : Nat → Nat → Int32} {tp : Nat → Int32} {tn : Nat} {lf : Int32} {fd : Int32} {tr : Nat → Int32} {un : Nat} (hX : XV G b (st, nw, ac, na, ik, im, rp, rl, rs, ri, tp, tn, lf, fd, tr, un)) (hI : XPI (st, nw, ac, na, ik, im, rp, rl, rs, ri, tp, tn, lf, fd, tr, un)) {r s n : Int32} (hQ : ∀ G' : gG, XV G' b (opStealth (st, nw, ac, na, ik, im, rp, rl, rs, ri, tp, tn, lf, fd, tr, un) r s n).2 → Frm G G' b 309 → Q (some (.int (opStealth (st, nw, ac, na, ik, im, rp, rl, rs, ri, tp, tn, lf, fd, tr, un) r s n).1)) G') : Runs E y_X_stealth 7 0 S [.ref b, .int r, .int s, .int n] G Q := by
  refine Runs.of "ClockPost" [some (.ref b), some (.int r), some (.int s), some (.int n), none, none, none, none] cw_X_stealth (by decide) (by decide +kernel) rfl (Nat.le_of_ble_eq_true rfl) rfl (fun K hK => ?_)
  have J : ∀ x : Int32, x = bI (inB r 0 7 && inB n 1 16) → K 23 [some (.ref b), some (.int r), some (.int s), some (.int n), none, none, none, none] [.int x, .ref b] S G := by
    intro x ex
    subst ex
    refine r_v1 (k' := 1) hK lm_X_198 d_X_stealth_23 ⟨_, hX.1.1⟩ (by decide) (Nat.le_of_ble_eq_true rfl) ?_
    refine c_X_refusalOf (z := inB r 0 7 && inB n 1 16) hX (kc_s ?_)
    refine st_i_4_8 hK d_X_stealth_26 trivial ?_
    refine r_iload hK d_X_stealth_28 rfl ?_
    refine r_if_eq (tgt := 36) hK d_X_stealth_30 rfl (fun h30 => ?_) (fun h30 => ?_)
    · skip
      obtain ⟨hst, hz⟩ := rfu_0.mp h30
      rw [opStealth, if_pos h30] at hQ
      obtain ⟨y, hy, rfl⟩ := inB_7 (by simp only [Bool.and_eq_true] at hz; exact hz.1)
      rw [nN_nI (by omega)] at hQ
      obtain ⟨g0, hR, hg0⟩ := hX.rows y hy
      refine r_aload_n hK d_X_stealth_36 rfl ?_
      refine r_get hK lf_X_11 d_X_stealth_37 (hX.1.1) rfl ?_
      refine r_iload_n hK d_X_stealth_40 rfl ?_
      refine g_row hK d_X_stealth_41 hX.1 hy ?_
      refine r_iload_n hK d_X_stealth_42 rfl ?_
      refine r_iload_n hK d_X_stealth_43 rfl ?_
      refine r_s3 (k' := 2) hK lm_X_237 d_X_stealth_44 (by decide) (Nat.le_of_ble_eq_true rfl) ?_
      refine c_X_flawOf hR (kc_s ?_)
      rw [flw_e]
      refine st_i_5_8 hK d_X_stealth_47 trivial ?_
      refine r_iload hK d_X_stealth_49 rfl ?_
      refine r_if_eq (tgt := 61) hK d_X_stealth_51 rfl (fun h51 => ?_) (fun h51 => ?_)
      · skip
        rw [if_pos h51] at hQ
        refine r_aload_n hK d_X_stealth_61 rfl ?_
        refine r_get hK lf_X_29 d_X_stealth_62 (hX.1.1) rfl ?_
        refine r_aload_n hK d_X_stealth_65 rfl ?_
        refine r_get hK lf_X_25 d_X_stealth_66 (hX.1.1) rfl ?_
        obtain ⟨s0, u0, hT⟩ := hX.fore
        refine r_v1 (k' := 2) hK lm_X_122 d_X_stealth_69 ⟨_, hT.o⟩ (by decide) (Nat.le_of_ble_eq_true rfl) ?_
        refine e_H_become hT hX.now hI.1 (by omega) (fun G69 hT f69 => kc_n ?_)
        have hX := hX.sF f69 hT.j
        have hF : Frm G G69 b 309 := f69.mono (by omega) (by omega)
        refine r_aload_n hK d_X_stealth_72 rfl ?_
        refine r_aload_n hK d_X_stealth_73 rfl ?_
        refine r_get hK lf_X_11 d_X_stealth_74 (hX.1.1) rfl ?_
        refine r_iload_n hK d_X_stealth_77 rfl ?_
        refine g_row hK d_X_stealth_78 hX.1 hy ?_
        refine r_iload_n hK d_X_stealth_79 rfl ?_
        refine r_iload_n hK d_X_stealth_80 rfl ?_
        refine r_v3 (k' := 6) hK lm_X_250 d_X_stealth_81 ⟨_, hX.1.1⟩ (by decide) (Nat.le_of_ble_eq_true rfl) ?_
        refine c_X_isToldBy hX hI hT hI.1 hy (fun G81 hX f81 => kc_s ?_)
        have hF := hF.tr f81
        have J2 : ∀ x : Int32, x = (if tld (ri y) (rs y) s (nN n) 0 nw = true then 64 else 0) → K 93 [some (.ref b), some (.int (nI y)), some (.int s), some (.int n), some (.int (rfu st (inB (nI y) 0 7 && inB n 1 16))), some (.int (flw (rp y) (rs y) s n)), none, none] [.int x] S G81 := by
          intro x ex
          subst ex
          refine st_i_6_8 hK d_X_stealth_93 trivial ?_
          refine r_iconst hK d_X_stealth_95 kc_0 ?_
          refine st_i_7_8 hK d_X_stealth_96 trivial ?_
          suffices L : ∀ t, t ≤ nN (nw 0) → ∀ (G1 : gG) (a : Int32), XV G1 b (st, nw, ac, na, ik, im, rp, rl, rs, ri, tp, tn, lf, fd, tr, un) → Frm G G1 b 309 → stL (fun t => if behB nw (nI t) = true then some (tld (ri y) (rs y) s (nN n) 0 (wtV nw (1 <<< (nI t &&& 31)))) else none) (nN (nw 0) - t) t a = stL (fun t => if behB nw (nI t) = true then some (tld (ri y) (rs y) s (nN n) 0 (wtV nw (1 <<< (nI t &&& 31)))) else none) (nN (nw 0)) 0 (if tld (ri y) (rs y) s (nN n) 0 nw = true then 64 else 0) → K 98 [some (.ref b), some (.int (nI y)), some (.int s), some (.int n), some (.int (rfu st (inB (nI y) 0 7 && inB n 1 16))), some (.int (flw (rp y) (rs y) s n)), some (.int a), some (.int (nI t))] [] S G1 from L 0 (Nat.zero_le _) _ _ hX hF rfl
          refine lpN (nN (nw 0)) (fun t ht ih G1 a hX hF hE => ?_)
          have hn6 := hI.1
          refine r_iload hK d_X_stealth_98 rfl ?_
          refine r_aload_n hK d_X_stealth_100 rfl ?_
          refine r_get hK lf_X_25 d_X_stealth_101 (hX.1.1) rfl ?_
          refine r_get hK lf_X_129 d_X_stealth_104 (hX.now.o) rfl ?_
          refine r_icmp_ge (tgt := 164) hK d_X_stealth_107 rfl (fun h107 => ?_) (fun h107 => ?_)
          · skip
            have hq : t = nN (nw 0) := by have := (ge_nN (by omega)).mp h107; omega
            rw [hq, Nat.sub_self] at hE
            rw [← hE] at hQ
            refine r_aload_n hK d_X_stealth_164 rfl ?_
            refine r_iload hK d_X_stealth_165 rfl ?_
            refine r_v1 (k' := 1) hK lm_X_75 d_X_stealth_167 ⟨_, hX.1.1⟩ (by decide) (Nat.le_of_ble_eq_true rfl) ?_
            refine c_X_foundNothing hX (fun G167 hX f167 => kc_s ?_)
            refine r_iret hK rfl rfl d_X_stealth_170 ?_
            exact hQ _ hX (hF.tr f167)
          · skip
            have hq : t < nN (nw 0) := (lt_nN (by omega)).mp (Int32.not_le.mp h107)
            rw [show nN (nw 0) - t = (nN (nw 0) - (t + 1)) + 1 by omega, stL] at hE
            refine r_aload_n hK d_X_stealth_110 rfl ?_
            refine r_get hK lf_X_25 d_X_stealth_111 (hX.1.1) rfl ?_
            refine r_iload hK d_X_stealth_114 rfl ?_
            refine r_v1 (k' := 2) hK lm_X_155 d_X_stealth_116 ⟨_, hX.now.o⟩ (by decide) (Nat.le_of_ble_eq_true rfl) ?_
            refine e_H_isBehind hX.now (kc_s ?_)
            refine r_if_eq (tgt := 158) hK d_X_stealth_119 rfl (fun h119 => ?_) (fun h119 => ?_)
            · skip
              have hp := bI_0.mp h119
              simp only [if_neg (show ¬ behB nw (nI t) = true by simp [hp])] at hE
              first | refine iN_7_8 hK d_X_stealth_158 trivial ?_ | refine ii_7_1_8 hK d_X_stealth_158 trivial ?_
              refine r_goto (tgt := 98) hK d_X_stealth_161 rfl ?_
              exact ih hq _ _ hX hF hE
            · skip
              have hp := bI_n0.mp h119
              simp only [if_pos hp] at hE
              refine r_aload_n hK d_X_stealth_122 rfl ?_
              refine r_iconst hK d_X_stealth_123 kc_1 ?_
              refine r_iload hK d_X_stealth_124 rfl ?_
              refine r_ishl hK d_X_stealth_126 ?_
              refine r_v1 (k' := 3) hK lm_X_254 d_X_stealth_127 ⟨_, hX.1.1⟩ (by decide) (Nat.le_of_ble_eq_true rfl) ?_
              refine c_X_foretellWithout hX hI (fun G127 hX hT f127 => kc_n ?_)
              have hF := hF.tr f127
              refine r_iload hK d_X_stealth_130 rfl ?_
              refine r_aload_n hK d_X_stealth_132 rfl ?_
              refine r_aload_n hK d_X_stealth_133 rfl ?_
              refine r_get hK lf_X_11 d_X_stealth_134 (hX.1.1) rfl ?_
              refine r_iload_n hK d_X_stealth_137 rfl ?_
              refine g_row hK d_X_stealth_138 hX.1 hy ?_
              refine r_iload_n hK d_X_stealth_139 rfl ?_
              refine r_iload_n hK d_X_stealth_140 rfl ?_
              refine r_v3 (k' := 6) hK lm_X_250 d_X_stealth_141 ⟨_, hX.1.1⟩ (by decide) (Nat.le_of_ble_eq_true rfl) ?_
              refine c_X_isToldBy hX hI hT (by rw [wtV_0]; exact hI.1) hy (fun G141 hX f141 => kc_s ?_)
              have hF := hF.tr f141
              refine r_if_eq (tgt := 154) hK d_X_stealth_144 rfl (fun h144 => ?_) (fun h144 => ?_)
              · skip
                have hp2 := bI_0.mp h144
                simp only [if_neg (show ¬ tld (ri y) (rs y) s (nN n) 0 (wtV nw (1 <<< (nI t &&& 31))) = true by simp [hp2])] at hE
                refine r_iconst hK d_X_stealth_154 kc_0 ?_
                refine r_ior hK d_X_stealth_155 ?_
                refine st_i_6_8 hK d_X_stealth_156 trivial ?_
                first | refine iN_7_8 hK d_X_stealth_158 trivial ?_ | refine ii_7_1_8 hK d_X_stealth_158 trivial ?_
                refine r_goto (tgt := 98) hK d_X_stealth_161 rfl ?_
                exact ih hq _ _ hX hF hE
              · skip
                have hp2 := bI_n0.mp h144
                simp only [if_pos hp2] at hE
                refine r_iconst hK d_X_stealth_147 kc_1 ?_
                refine r_iload hK d_X_stealth_148 rfl ?_
                refine r_ishl hK d_X_stealth_150 ?_
                refine r_goto (tgt := 155) hK d_X_stealth_151 rfl ?_
                refine r_ior hK d_X_stealth_155 ?_
                refine st_i_6_8 hK d_X_stealth_156 trivial ?_
                first | refine iN_7_8 hK d_X_stealth_158 trivial ?_ | refine ii_7_1_8 hK d_X_stealth_158 trivial ?_
                refine r_goto (tgt := 98) hK d_X_stealth_161 rfl ?_
                exact ih hq _ _ hX hF hE
        refine r_if_eq (tgt := 92) hK d_X_stealth_84 rfl (fun h84 => ?_) (fun h84 => ?_)
        · skip
          have hp := bI_0.mp h84
          refine r_iconst hK d_X_stealth_92 kc_0 ?_
          exact J2 _ (by simp [hp])
        · skip
          have hp := bI_n0.mp h84
          refine r_bipush hK d_X_stealth_87 kb_64 ?_
          refine r_goto (tgt := 93) hK d_X_stealth_89 rfl ?_
          exact J2 _ (by simp [hp])
      · skip
        rw [if_neg h51] at hQ
        refine r_aload_n hK d_X_stealth_54 rfl ?_
        refine r_iload hK d_X_stealth_55 rfl ?_
        refine r_v1 (k' := 1) hK lm_X_67 d_X_stealth_57 ⟨_, hX.1.1⟩ (by decide) (Nat.le_of_ble_eq_true rfl) ?_
        refine c_X_found hX (fun G57 hX f57 => kc_s ?_)
        refine r_iret hK rfl rfl d_X_stealth_60 ?_
        exact hQ _ hX f57
    · skip
      rw [opStealth, if_neg h30] at hQ
      refine r_iload hK d_X_stealth_33 rfl ?_
      refine r_iret hK rfl rfl d_X_stealth_35 ?_
      exact hQ _ hX Frm.rf
  refine r_aload_n hK d_X_stealth_0 rfl ?_
  refine r_iload_n hK d_X_stealth_1 rfl ?_
  refine r_s1 (k' := 2) hK lm_X_58 d_X_stealth_2 (by decide) (Nat.le_of_ble_eq_true rfl) ?_
  refine c_X_isRow (kc_s ?_)
  refine r_if_eq (tgt := 22) hK d_X_stealth_5 rfl (fun h5 => ?_) (fun h5 => ?_)
  · skip
    have hb := bI_0.mp h5
    refine r_iconst hK d_X_stealth_22 kc_0 ?_
    exact J _ (by first | (simp [hb, hc, bI]; done) | (simp [*, bI]; done))
  · skip
    have hb := bI_n0.mp h5
    refine r_iload_n hK d_X_stealth_8 rfl ?_
    refine r_iconst hK d_X_stealth_9 kc_1 ?_
    refine r_bipush hK d_X_stealth_10 kb_16 ?_
    refine r_s3 (k' := 1) hK lm_X_62 d_X_stealth_12 (by decide) (Nat.le_of_ble_eq_true rfl) ?_
    refine c_X_isWithin (kc_s ?_)
    refine r_if_eq (tgt := 22) hK d_X_stealth_15 rfl (fun h15 => ?_) (fun h15 => ?_)
    · skip
      have hc := bI_0.mp h15
      refine r_iconst hK d_X_stealth_22 kc_0 ?_
      exact J _ (by first | (simp [hb, hc, bI]; done) | (simp [*, bI]; done))
    · skip
      have hc := bI_n0.mp h15
      refine r_iconst hK d_X_stealth_18 kc_1 ?_
      refine r_goto (tgt := 23) hK d_X_stealth_19 rfl ?_
      exact J _ (by first | (simp [hb, hc, bI]; done) | (simp [*, bI]; done))
theorem c_X_lost {E : gX} {S : Nat} {G : gG} {Q : Option Value → gG → Prop} {b : Nat} {st : Bool} {nw : Nat → Int32} {ac : Nat → Nat → Int32} {na : Nat} {ik : Nat → Bool} {im : Nat → Nat → Int32} {rp : Nat → Bool} {rl : Nat → Int32} {rs : Nat → Nat} {ri : Nat → Nat → Int32} {tp : Nat → Int32} {tn : Nat} {lf : Int32} {fd : Int32} {tr : Nat → Int32} {un : Nat} (hX : XV G b (st, nw, ac, na, ik, im, rp, rl, rs, ri, tp, tn, lf, fd, tr, un)) (hI : XPI (st, nw, ac, na, ik, im, rp, rl, rs, ri, tp, tn, lf, fd, tr, un)) {q c w : Int32} (hQ : ∀ G' : gG, XV G' b (opLost (st, nw, ac, na, ik, im, rp, rl, rs, ri, tp, tn, lf, fd, tr, un) q c w).2 → Frm G G' b 309 → Q (some (.int (opLost (st, nw, ac, na, ik, im, rp, rl, rs, ri, tp, tn, lf, fd, tr, un) q c w).1)) G') : Runs E y_X_lost 5 0 S [.ref b, .int q, .int c, .int w] G Q := by
  refine Runs.of "ClockPost" [some (.ref b), some (.int q), some (.int c), some (.int w), none, none, none, none, none] cw_X_lost (by decide) (by decide +kernel) rfl (Nat.le_of_ble_eq_true rfl) rfl (fun K hK => ?_)
  have J : ∀ x : Int32, x = bI (inB q 0 300 && inB c 0 10 && inB w 0 1) → K 36 [some (.ref b), some (.int q), some (.int c), some (.int w), none, none, none, none, none] [.int x, .ref b] S G := by
    intro x ex
    subst ex
    refine r_v1 (k' := 1) hK lm_X_198 d_X_lost_36 ⟨_, hX.1.1⟩ (by decide) (Nat.le_of_ble_eq_true rfl) ?_
    refine c_X_refusalOf (z := inB q 0 300 && inB c 0 10 && inB w 0 1) hX (kc_s ?_)
    refine st_i_4_9 hK d_X_lost_39 trivial ?_
    refine r_iload hK d_X_lost_41 rfl ?_
    refine r_if_eq (tgt := 49) hK d_X_lost_43 rfl (fun h43 => ?_) (fun h43 => ?_)
    · skip
      obtain ⟨hst, hz⟩ := rfu_0.mp h43
      simp only [opLost, if_pos h43] at hQ
      refine r_iconst hK d_X_lost_49 kc_0 ?_
      refine st_i_5_9 hK d_X_lost_50 trivial ?_
      refine r_iconst hK d_X_lost_52 kc_0 ?_
      refine st_i_6_9 hK d_X_lost_53 trivial ?_
      suffices L : ∀ j, j ≤ 64 → ∀ (G1 : gG) (a : Int32) (a7 a8 : Option Value), okc a7 → XV G1 b (st, nw, ac, na, ik, im, rp, rl, rs, ri, tp, tn, lf, fd, tr, un) → Frm G G1 b 309 → ltL (fun t => if nI t &&& (nw 3 ^^^ (-1)) = 0 then some (if wght (wtV nw (nI t)) ≤ q then pwI c (nN (bitc (nI t))) * pwI (10 - c) (nN (bitc (wtV nw (nI t) 3))) else 0) else none) (64 - j) j a = ltL (fun t => if nI t &&& (nw 3 ^^^ (-1)) = 0 then some (if wght (wtV nw (nI t)) ≤ q then pwI c (nN (bitc (nI t))) * pwI (10 - c) (nN (bitc (wtV nw (nI t) 3))) else 0) else none) 64 0 0 → K 55 [some (.ref b), some (.int q), some (.int c), some (.int w), some (.int (rfu st (inB q 0 300 && inB c 0 10 && inB w 0 1))), some (.int a), some (.int (nI j)), a7, a8] [] S G1 from L 0 (Nat.zero_le _) _ _ _ _ trivial hX Frm.rf rfl
      refine lpN 64 (fun j hj ih G1 a a7 a8 ho7 hX hF hE => ?_)
      refine r_iload hK d_X_lost_55 rfl ?_
      refine r_bipush hK d_X_lost_57 kb_64 ?_
      refine r_icmp_ge (tgt := 152) hK d_X_lost_59 rfl (fun h59 => ?_) (fun h59 => ?_)
      · skip
        have hq : j = 64 := by have := (cle (n := 64) (by decide) (by omega)).mp h59; omega
        rw [hq, Nat.sub_self] at hE
        have hE : a = ltL (fun t => if nI t &&& (nw 3 ^^^ (-1)) = 0 then some (if wght (wtV nw (nI t)) ≤ q then pwI c (nN (bitc (nI t))) * pwI (10 - c) (nN (bitc (wtV nw (nI t) 3))) else 0) else none) 64 0 0 := hE
        refine r_bipush hK d_X_lost_152 kb_10 ?_
        refine r_aload_n hK d_X_lost_154 rfl ?_
        refine r_get hK lf_X_25 d_X_lost_155 (hX.1.1) rfl ?_
        refine r_get hK lf_X_149 d_X_lost_158 (hX.now.o) rfl ?_
        refine r_s1 (k' := 1) hK lm_X_213 d_X_lost_161 (by decide) (Nat.le_of_ble_eq_true rfl) ?_
        refine c_JI_bitCount (kc_s ?_)
        refine r_s2 (k' := 1) hK lm_X_257 d_X_lost_164 (by decide) (Nat.le_of_ble_eq_true rfl) ?_
        refine c_X_power (kc_s ?_)
        refine st_i_6_9 hK d_X_lost_167 trivial ?_
        refine r_iconst hK d_X_lost_169 kc_1 ?_
        refine r_iload hK d_X_lost_170 rfl ?_
        refine r_iload hK d_X_lost_172 rfl ?_
        refine r_s2 (k' := 1) hK lm_X_260 d_X_lost_174 (by decide) (Nat.le_of_ble_eq_true rfl) ?_
        refine c_X_greatestShared (kc_s ?_)
        refine r_mmax hK wo_X_263 (by decide) (Nat.le_of_ble_eq_true rfl) (Nat.le_refl _) d_X_lost_177 ?_
        refine st_i_7_9 hK d_X_lost_180 trivial ?_
        refine r_iload_n hK d_X_lost_182 rfl ?_
        refine r_if_ne (tgt := 194) hK d_X_lost_183 rfl (fun h183 => ?_) (fun h183 => ?_)
        · skip
          rw [if_neg h183, ← hE] at hQ
          refine r_iload hK d_X_lost_194 rfl ?_
          refine r_iload hK d_X_lost_196 rfl ?_
          refine r_idiv hK d_X_lost_198 (mx1_n0) ?_
          refine r_iret hK rfl rfl d_X_lost_199 ?_
          exact hQ _ hX hF
        · skip
          rw [if_pos h183, ← hE] at hQ
          refine r_iload hK d_X_lost_186 rfl ?_
          refine r_iload hK d_X_lost_188 rfl ?_
          refine r_idiv hK d_X_lost_190 (mx1_n0) ?_
          refine r_goto (tgt := 199) hK d_X_lost_191 rfl ?_
          refine r_iret hK rfl rfl d_X_lost_199 ?_
          exact hQ _ hX hF
      · skip
        have hq : j < 64 := Nat.not_le.mp (fun q => h59 ((cle (n := 64) (by decide) (by omega)).mpr q))
        rw [show 64 - j = (64 - (j + 1)) + 1 by omega, ltL] at hE
        refine r_iload hK d_X_lost_62 rfl ?_
        refine r_aload_n hK d_X_lost_64 rfl ?_
        refine r_get hK lf_X_25 d_X_lost_65 (hX.1.1) rfl ?_
        refine r_get hK lf_X_149 d_X_lost_68 (hX.now.o) rfl ?_
        refine r_iconst hK d_X_lost_71 kc_m1 ?_
        refine r_ixor hK d_X_lost_72 ?_
        refine r_iand hK d_X_lost_73 ?_
        refine r_if_ne (tgt := 146) hK d_X_lost_74 rfl (fun h74 => ?_) (fun h74 => ?_)
        · skip
          simp only [if_neg h74] at hE
          first | refine iN_6_9 hK d_X_lost_146 trivial ?_ | refine ii_6_1_9 hK d_X_lost_146 trivial ?_
          refine r_goto (tgt := 55) hK d_X_lost_149 rfl ?_
          first | exact ih hq _ _ _ _ ho7 hX hF hE | exact ih hq _ _ _ _ trivial hX hF hE | exact absurd h117 (by decide) | exact absurd rfl h117
        · skip
          simp only [if_pos h74] at hE
          refine r_aload_n hK d_X_lost_77 rfl ?_
          refine r_iload hK d_X_lost_78 rfl ?_
          refine r_v1 (k' := 3) hK lm_X_254 d_X_lost_80 ⟨_, hX.1.1⟩ (by decide) (Nat.le_of_ble_eq_true rfl) ?_
          refine c_X_foretellWithout hX hI (fun G80 hX hT f80 => kc_n ?_)
          have hF := hF.tr f80
          refine r_aload_n hK d_X_lost_83 rfl ?_
          refine r_get hK lf_X_29 d_X_lost_84 (hX.1.1) rfl ?_
          refine r_get hK lf_X_149 d_X_lost_87 (hT.o) rfl ?_
          refine r_s1 (k' := 1) hK lm_X_213 d_X_lost_90 (by decide) (Nat.le_of_ble_eq_true rfl) ?_
          refine c_JI_bitCount (kc_s ?_)
          refine st_i_7_9 hK d_X_lost_93 trivial ?_
          refine r_aload_n hK d_X_lost_95 rfl ?_
          refine r_get hK lf_X_29 d_X_lost_96 (hX.1.1) rfl ?_
          refine r_v0 (k' := 4) hK lm_X_206 d_X_lost_99 ⟨_, hT.o⟩ (by decide) (Nat.le_of_ble_eq_true rfl) ?_
          refine e_H_weight hT (by rw [wtV_0]; exact hI.1) (kc_s ?_)
          refine r_iload_n hK d_X_lost_102 rfl ?_
          refine r_icmp_gt (tgt := 110) hK d_X_lost_103 rfl (fun h103 => ?_) (fun h103 => ?_)
          · skip
            rw [if_neg (fun z => absurd z (Int32.not_le.mpr h103))] at hE
            refine r_iconst hK d_X_lost_110 kc_0 ?_
            refine st_i_8_9 hK d_X_lost_111 trivial ?_
            refine r_iload hK d_X_lost_113 rfl ?_
            refine r_iload hK d_X_lost_115 rfl ?_
            refine r_if_eq (tgt := 142) hK d_X_lost_117 rfl (fun h117 => ?_) (fun h117 => ?_)
            · skip
              refine r_iconst hK d_X_lost_142 kc_0 ?_
              refine r_iadd hK d_X_lost_143 ?_
              refine st_i_5_9 hK d_X_lost_144 trivial ?_
              first | refine iN_6_9 hK d_X_lost_146 trivial ?_ | refine ii_6_1_9 hK d_X_lost_146 trivial ?_
              refine r_goto (tgt := 55) hK d_X_lost_149 rfl ?_
              first | exact ih hq _ _ _ _ ho7 hX hF hE | exact ih hq _ _ _ _ trivial hX hF hE | exact absurd h117 (by decide) | exact absurd rfl h117
            · skip
              refine r_iload_n hK d_X_lost_120 rfl ?_
              refine r_iload hK d_X_lost_121 rfl ?_
              refine r_s1 (k' := 1) hK lm_X_213 d_X_lost_123 (by decide) (Nat.le_of_ble_eq_true rfl) ?_
              refine c_JI_bitCount (kc_s ?_)
              refine r_s2 (k' := 1) hK lm_X_257 d_X_lost_126 (by decide) (Nat.le_of_ble_eq_true rfl) ?_
              refine c_X_power (kc_s ?_)
              refine r_bipush hK d_X_lost_129 kb_10 ?_
              refine r_iload_n hK d_X_lost_131 rfl ?_
              refine r_isub hK d_X_lost_132 ?_
              refine r_iload hK d_X_lost_133 rfl ?_
              refine r_s2 (k' := 1) hK lm_X_257 d_X_lost_135 (by decide) (Nat.le_of_ble_eq_true rfl) ?_
              refine c_X_power (kc_s ?_)
              refine r_imul hK d_X_lost_138 ?_
              refine r_goto (tgt := 143) hK d_X_lost_139 rfl ?_
              refine r_iadd hK d_X_lost_143 ?_
              refine st_i_5_9 hK d_X_lost_144 trivial ?_
              first | refine iN_6_9 hK d_X_lost_146 trivial ?_ | refine ii_6_1_9 hK d_X_lost_146 trivial ?_
              refine r_goto (tgt := 55) hK d_X_lost_149 rfl ?_
              first | exact ih hq _ _ _ _ ho7 hX hF hE | exact ih hq _ _ _ _ trivial hX hF hE | exact absurd h117 (by decide) | exact absurd rfl h117
          · skip
            rw [if_pos (Int32.not_lt.mp h103)] at hE
            refine r_iconst hK d_X_lost_106 kc_1 ?_
            refine r_goto (tgt := 111) hK d_X_lost_107 rfl ?_
            refine st_i_8_9 hK d_X_lost_111 trivial ?_
            refine r_iload hK d_X_lost_113 rfl ?_
            refine r_iload hK d_X_lost_115 rfl ?_
            refine r_if_eq (tgt := 142) hK d_X_lost_117 rfl (fun h117 => ?_) (fun h117 => ?_)
            · skip
              refine r_iconst hK d_X_lost_142 kc_0 ?_
              refine r_iadd hK d_X_lost_143 ?_
              refine st_i_5_9 hK d_X_lost_144 trivial ?_
              first | refine iN_6_9 hK d_X_lost_146 trivial ?_ | refine ii_6_1_9 hK d_X_lost_146 trivial ?_
              refine r_goto (tgt := 55) hK d_X_lost_149 rfl ?_
              first | exact ih hq _ _ _ _ ho7 hX hF hE | exact ih hq _ _ _ _ trivial hX hF hE | exact absurd h117 (by decide) | exact absurd rfl h117
            · skip
              refine r_iload_n hK d_X_lost_120 rfl ?_
              refine r_iload hK d_X_lost_121 rfl ?_
              refine r_s1 (k' := 1) hK lm_X_213 d_X_lost_123 (by decide) (Nat.le_of_ble_eq_true rfl) ?_
              refine c_JI_bitCount (kc_s ?_)
              refine r_s2 (k' := 1) hK lm_X_257 d_X_lost_126 (by decide) (Nat.le_of_ble_eq_true rfl) ?_
              refine c_X_power (kc_s ?_)
              refine r_bipush hK d_X_lost_129 kb_10 ?_
              refine r_iload_n hK d_X_lost_131 rfl ?_
              refine r_isub hK d_X_lost_132 ?_
              refine r_iload hK d_X_lost_133 rfl ?_
              refine r_s2 (k' := 1) hK lm_X_257 d_X_lost_135 (by decide) (Nat.le_of_ble_eq_true rfl) ?_
              refine c_X_power (kc_s ?_)
              refine r_imul hK d_X_lost_138 ?_
              refine r_goto (tgt := 143) hK d_X_lost_139 rfl ?_
              refine r_iadd hK d_X_lost_143 ?_
              refine st_i_5_9 hK d_X_lost_144 trivial ?_
              first | refine iN_6_9 hK d_X_lost_146 trivial ?_ | refine ii_6_1_9 hK d_X_lost_146 trivial ?_
              refine r_goto (tgt := 55) hK d_X_lost_149 rfl ?_
              first | exact ih hq _ _ _ _ ho7 hX hF hE | exact ih hq _ _ _ _ trivial hX hF hE | exact absurd h117 (by decide) | exact absurd rfl h117
    · skip
      simp only [opLost, if_neg h43] at hQ
      refine r_iload hK d_X_lost_46 rfl ?_
      refine r_iret hK rfl rfl d_X_lost_48 ?_
      exact hQ _ hX Frm.rf
  refine r_aload_n hK d_X_lost_0 rfl ?_
  refine r_iload_n hK d_X_lost_1 rfl ?_
  refine r_iconst hK d_X_lost_2 kc_0 ?_
  refine r_sipush hK d_X_lost_3 ks_300 ?_
  refine r_s3 (k' := 1) hK lm_X_62 d_X_lost_6 (by decide) (Nat.le_of_ble_eq_true rfl) ?_
  refine c_X_isWithin (kc_s ?_)
  refine r_if_eq (tgt := 35) hK d_X_lost_9 rfl (fun h9 => ?_) (fun h9 => ?_)
  · skip
    have hb := bI_0.mp h9
    refine r_iconst hK d_X_lost_35 kc_0 ?_
    exact J _ (by first | (simp [hb, hc, hd, bI]; done) | (simp [*, bI]; done))
  · skip
    have hb := bI_n0.mp h9
    refine r_iload_n hK d_X_lost_12 rfl ?_
    refine r_iconst hK d_X_lost_13 kc_0 ?_
    refine r_bipush hK d_X_lost_14 kb_10 ?_
    refine r_s3 (k' := 1) hK lm_X_62 d_X_lost_16 (by decide) (Nat.le_of_ble_eq_true rfl) ?_
    refine c_X_isWithin (kc_s ?_)
    refine r_if_eq (tgt := 35) hK d_X_lost_19 rfl (fun h19 => ?_) (fun h19 => ?_)
    · skip
      have hc := bI_0.mp h19
      refine r_iconst hK d_X_lost_35 kc_0 ?_
      exact J _ (by first | (simp [hb, hc, hd, bI]; done) | (simp [*, bI]; done))
    · skip
      have hc := bI_n0.mp h19
      refine r_iload_n hK d_X_lost_22 rfl ?_
      refine r_iconst hK d_X_lost_23 kc_0 ?_
      refine r_iconst hK d_X_lost_24 kc_1 ?_
      refine r_s3 (k' := 1) hK lm_X_62 d_X_lost_25 (by decide) (Nat.le_of_ble_eq_true rfl) ?_
      refine c_X_isWithin (kc_s ?_)
      refine r_if_eq (tgt := 35) hK d_X_lost_28 rfl (fun h28 => ?_) (fun h28 => ?_)
      · skip
        have hd := bI_0.mp h28
        refine r_iconst hK d_X_lost_35 kc_0 ?_
        exact J _ (by first | (simp [hb, hc, hd, bI]; done) | (simp [*, bI]; done))
      · skip
        have hd := bI_n0.mp h28
        refine r_iconst hK d_X_lost_31 kc_1 ?_
        refine r_goto (tgt := 36) hK d_X_lost_32 rfl ?_
        exact J _ (by first | (simp [hb, hc, hd, bI]; done) | (simp [*, bI]; done))
theorem c_X_order {E : gX} {S : Nat} {G : gG} {Q : Option Value → gG → Prop} {b : Nat} {st : Bool} {nw : Nat → Int32} {ac : Nat → Nat → Int32} {na : Nat} {ik : Nat → Bool} {im : Nat → Nat → Int32} {rp : Nat → Bool} {rl : Nat → Int32} {rs : Nat → Nat} {ri : Nat → Nat → Int32} {tp : Nat → Int32} {tn : Nat} {lf : Int32} {fd : Int32} {tr : Nat → Int32} {un : Nat} (hX : XV G b (st, nw, ac, na, ik, im, rp, rl, rs, ri, tp, tn, lf, fd, tr, un)) (hI : XPI (st, nw, ac, na, ik, im, rp, rl, rs, ri, tp, tn, lf, fd, tr, un)) {ls k : Int32} (hQ : ∀ (G' : gG) (tr0 bst0 : Nat → Int32), XV G' b (st, nw, ac, na, ik, im, rp, rl, rs, ri, tp, tn, lf, fd, tr, un) → Frm G G' b 309 → Q (some (.int (if rfu st (decide (ls &&& (nw 3 ^^^ (-1)) = 0) && inB k (-1) 5) = 0 then ordA tr0 bst0 nw ls k else rfu st (decide (ls &&& (nw 3 ^^^ (-1)) = 0) && inB k (-1) 5)))) G') : Runs E y_X_order 32 0 S [.ref b, .int ls, .int k] G Q := by
  refine Runs.of "ClockPost" [some (.ref b), some (.int ls), some (.int k), none, none] cw_X_order (by decide) (by decide +kernel) rfl (Nat.le_of_ble_eq_true rfl) rfl (fun K hK => ?_)
  obtain ⟨z1, hz1⟩ : ∃ z : Bool, z = decide (ls &&& (nw 3 ^^^ (-1)) = 0) := ⟨_, rfl⟩
  rw [← hz1] at hQ
  have J19 : ∀ x : Int32, x = bI z1 → K 19 [some (.ref b), some (.int ls), some (.int k), none, none] [.int x] S G := by
    intro x ex
    subst ex
    have J : ∀ x : Int32, x = bI (z1 && inB k (-1) 5) → K 39 [some (.ref b), some (.int ls), some (.int k), some (.int (bI z1)), none] [.int x, .ref b] S G := by
      intro x ex
      subst ex
      refine r_v1 (k' := 1) hK lm_X_198 d_X_order_39 ⟨_, hX.1.1⟩ (by decide) (Nat.le_of_ble_eq_true rfl) ?_
      refine c_X_refusalOf (z := z1 && inB k (-1) 5) hX (kc_s ?_)
      refine st_i_4_5 hK d_X_order_42 trivial ?_
      refine r_iload hK d_X_order_44 rfl ?_
      refine r_if_eq (tgt := 52) hK d_X_order_46 rfl (fun h46 => ?_) (fun h46 => ?_)
      · skip
        obtain ⟨hst, hz⟩ := rfu_0.mp h46
        simp only [if_pos h46] at hQ
        refine r_iload_n hK d_X_order_52 rfl ?_
        refine r_iload_n hK d_X_order_53 rfl ?_
        refine r_s1 (k' := 1) hK lm_X_213 d_X_order_54 (by decide) (Nat.le_of_ble_eq_true rfl) ?_
        refine c_JI_bitCount (kc_s ?_)
        refine r_icmp_lt (tgt := 63) hK d_X_order_57 rfl (fun h57 => ?_) (fun h57 => ?_)
        · skip
          obtain ⟨t0, b0, l0, hO, hJ⟩ := hX.ords
          have hk6 : 0 ≤ k → vp_in k 6 := fun q => by
            simp only [Bool.and_eq_true, inB, decide_eq_true_eq, i_le, ti_5] at hz
            simp only [i_le, ti_0] at q
            exact vp_in_iff.mpr (by omega)
          refine r_aload_n hK d_X_order_63 rfl ?_
          refine r_get hK lf_X_46 d_X_order_64 (hX.1.1) rfl ?_
          refine r_aload_n hK d_X_order_67 rfl ?_
          refine r_get hK lf_X_25 d_X_order_68 (hX.1.1) rfl ?_
          refine r_iload_n hK d_X_order_71 rfl ?_
          refine r_v2 (k' := 31) hK lm_X_218 d_X_order_72 ⟨_, hO.1⟩ (by decide) (Nat.le_of_ble_eq_true rfl) ?_
          refine c_O_search hO hJ hX.now hI.1 (by omega) (fun G72 hO hJ f72 => kc_n ?_)
          have hX := hX.sJ f72 ⟨_, _, _, hO, hJ⟩
          have hF : Frm G G72 b 309 := f72.mono (by omega) (by omega)
          have hQ2 := hQ _ t0 b0 hX hF
          rw [ordA, if_pos h57] at hQ2
          refine r_iload_n hK d_X_order_75 rfl ?_
          refine r_if_ge (tgt := 89) hK d_X_order_76 rfl (fun h76 => ?_) (fun h76 => ?_)
          · skip
            rw [if_pos h76] at hQ2
            refine r_aload_n hK d_X_order_89 rfl ?_
            refine r_get hK lf_X_46 d_X_order_90 (hX.1.1) rfl ?_
            refine r_get hK lf_X_225 d_X_order_93 (hO.1) rfl ?_
            refine r_iload_n hK d_X_order_96 rfl ?_
            refine r_iald hK d_X_order_97 hO.2.2.2 (hk6 h76) ?_
            refine r_iret hK rfl rfl d_X_order_98 ?_
            exact hQ2
          · skip
            rw [if_neg h76] at hQ2
            refine r_aload_n hK d_X_order_79 rfl ?_
            refine r_get hK lf_X_46 d_X_order_80 (hX.1.1) rfl ?_
            refine r_get hK lf_X_222 d_X_order_83 (hO.1) rfl ?_
            refine r_goto (tgt := 98) hK d_X_order_86 rfl ?_
            refine r_iret hK rfl rfl d_X_order_98 ?_
            exact hQ2
        · skip
          have hQ2 := hQ _ zV zV hX Frm.rf
          rw [ordA, if_neg h57] at hQ2
          refine r_ldc hK d_X_order_60 lc_X_212 ?_
          refine r_iret hK rfl rfl d_X_order_62 ?_
          exact hQ2
      · skip
        simp only [if_neg h46] at hQ
        refine r_iload hK d_X_order_49 rfl ?_
        refine r_iret hK rfl rfl d_X_order_51 ?_
        exact hQ _ zV zV hX Frm.rf
    refine st_in_3_5 hK d_X_order_19 trivial ?_
    refine r_aload_n hK d_X_order_20 rfl ?_
    refine r_iload_n hK d_X_order_21 rfl ?_
    refine r_if_eq (tgt := 38) hK d_X_order_22 rfl (fun h22 => ?_) (fun h22 => ?_)
    · skip
      have hb := bI_0.mp h22
      refine r_iconst hK d_X_order_38 kc_0 ?_
      exact J _ (by simp [hb, *, bI])
    · skip
      have hb := bI_n0.mp h22
      refine r_iload_n hK d_X_order_25 rfl ?_
      refine r_iconst hK d_X_order_26 kc_m1 ?_
      refine r_iconst hK d_X_order_27 kc_5 ?_
      refine r_s3 (k' := 1) hK lm_X_62 d_X_order_28 (by decide) (Nat.le_of_ble_eq_true rfl) ?_
      refine c_X_isWithin (kc_s ?_)
      refine r_if_eq (tgt := 38) hK d_X_order_31 rfl (fun h31 => ?_) (fun h31 => ?_)
      · skip
        have hc := bI_0.mp h31
        refine r_iconst hK d_X_order_38 kc_0 ?_
        exact J _ (by simp [hb, *, bI])
      · skip
        have hc := bI_n0.mp h31
        refine r_iconst hK d_X_order_34 kc_1 ?_
        refine r_goto (tgt := 39) hK d_X_order_35 rfl ?_
        exact J _ (by simp [hb, *, bI])
  refine r_iload_n hK d_X_order_0 rfl ?_
  refine r_aload_n hK d_X_order_1 rfl ?_
  refine r_get hK lf_X_25 d_X_order_2 (hX.1.1) rfl ?_
  refine r_get hK lf_X_149 d_X_order_5 (hX.now.o) rfl ?_
  refine r_iconst hK d_X_order_8 kc_m1 ?_
  refine r_ixor hK d_X_order_9 ?_
  refine r_iand hK d_X_order_10 ?_
  refine r_if_ne (tgt := 18) hK d_X_order_11 rfl (fun h11 => ?_) (fun h11 => ?_)
  · skip
    have h1 : decide (ls &&& (nw 3 ^^^ (-1)) = 0) = false := decide_eq_false h11
    refine r_iconst hK d_X_order_18 kc_0 ?_
    exact J19 _ (by rw [hz1, h1]; rfl)
  · skip
    have h1 : decide (ls &&& (nw 3 ^^^ (-1)) = 0) = true := decide_eq_true h11
    refine r_iconst hK d_X_order_14 kc_1 ?_
    refine r_goto (tgt := 19) hK d_X_order_15 rfl ?_
    exact J19 _ (by rw [hz1, h1]; rfl)
