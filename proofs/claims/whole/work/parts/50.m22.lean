theorem rem64 {x y : Int64} (hx : 0 ≤ x.toInt) (hx2 : x.toInt < 2 ^ 62) (hy : 0 < y.toInt) : (x - x / y * y).toInt = x.toInt % y.toInt := by
  have hd0 : 0 ≤ x.toInt / y.toInt := Int.ediv_nonneg hx (by omega)
  have hd1 : x.toInt / y.toInt * y.toInt ≤ x.toInt := Int.ediv_mul_le _ (by omega)
  have hd2 : x.toInt / y.toInt ≤ x.toInt := Int.ediv_le_self _ hx
  have hm := Int.emod_add_mul_ediv x.toInt y.toInt
  have e1 : (x / y).toInt = x.toInt / y.toInt := by
    rw [Int64.toInt_div, Int.tdiv_eq_ediv_of_nonneg hx, Int.bmod_eq_of_le (by omega) (by omega)]
  have hp : 0 ≤ x.toInt / y.toInt * y.toInt := Int.mul_nonneg hd0 (by omega)
  have e2 : (x / y * y).toInt = x.toInt / y.toInt * y.toInt := by
    rw [Int64.toInt_mul, e1, Int.bmod_eq_of_le (by omega) (by omega)]
  have hm2 := Int.emod_nonneg x.toInt (show y.toInt ≠ 0 by omega)
  rw [Int64.toInt_sub, e2, Int.bmod_eq_of_le (by omega) (by omega)]
  rw [Int.mul_comm] at hm
  omega
def dr1 (x : Int64) : Int64 := x * 16807 - x * 16807 / 2147483647 * 2147483647
theorem dr1_b {x : Int64} (h : 0 ≤ x.toInt ∧ x.toInt < 2147483647) : 0 ≤ (dr1 x).toInt ∧ (dr1 x).toInt < 2147483647 := by
  have e : (x * 16807).toInt = x.toInt * 16807 := by
    rw [Int64.toInt_mul, show (16807 : Int64).toInt = 16807 by decide, Int.bmod_eq_of_le (by omega) (by omega)]
  unfold dr1
  rw [rem64 (by rw [e]; omega) (by rw [e]; omega) (by decide), show (2147483647 : Int64).toInt = 2147483647 by decide]
  omega
theorem dr_q {x : Int64} {n : Nat} (h : 0 ≤ x.toInt ∧ x.toInt < 2147483647) (h0 : 0 < n) (h6 : n ≤ 6) : ∃ k : Nat, k < n ∧ (x - x / (nI n).toInt64 * (nI n).toInt64).toInt32 = nI k := by
  have en : ((nI n).toInt64).toInt = (n : Int) := by rw [Int32.toInt_toInt64, nI_toInt (by omega)]
  have e := rem64 (x := x) (y := (nI n).toInt64) h.1 (by omega) (by omega)
  rw [en] at e
  have b1 := Int.emod_nonneg x.toInt (show (n : Int) ≠ 0 by omega)
  have b2 := Int.emod_lt_of_pos x.toInt (show (0 : Int) < n by omega)
  refine ⟨(x.toInt % (n : Int)).toNat, by omega, ?_⟩
  apply Int32.toInt_inj.mp
  rw [nI_toInt (by omega), Int64.toInt_toInt32, e, Int.bmod_eq_of_le (by omega) (by omega)]
  omega
theorem Vk.ans {v : Nat → Int32} {n : Nat} (h : Vk v n) (i : Int32) : Vk (ansV v i) n := by
  unfold ansV
  split
  · rename_i hb
    obtain ⟨j, hj, hj6, rfl⟩ := hasL_ix (behB_has hb) (by rw [h.nN]; exact h.1)
    exact (h.away (by rw [h.nN] at hj; exact hj)).1
  · exact h
theorem Vk.putI {v : Nat → Int32} {n : Nat} (h : Vk v n) (i : Int32) : Vk (putV v i) n := by
  by_cases q : hasL v i = true
  · obtain ⟨j, hj, hj6, rfl⟩ := hasL_ix q (by rw [h.nN]; exact h.1)
    exact h.put (by rw [h.nN] at hj; exact hj)
  · unfold putV
    rw [if_neg (fun z => q z.1)]
    exact h
theorem Vk.draw {v : Nat → Int32} {n : Nat} (h : Vk v n) (x : Int64) : Vk (drawV v x) n := by
  unfold drawV
  repeat' split
  all_goals first | exact h | exact h.ans _ | exact h.putI _
theorem drN_s {k : Nat} {x : Int64} {v : Nat → Int32} : drN (k + 1) x v = drN k (dr1 x) (passV (drawV v (dr1 x))).1 := rfl
theorem dr_a {v : Nat → Int32} {n k : Nat} {x : Int64} (h : Vk v n) (hk : k < n) (hq : (x - x / (nI n).toInt64 * (nI n).toInt64).toInt32 = nI k) (hz : x - x / 3 * 3 = 0) (hb : behB v (nI k) = true) : drawV v x = awayV v (nI k) (v (24 + k) / 2) := by
  have h6 := h.1
  rw [drawV, h.2.1, if_neg (fun z => by have := (ltc (n := 1) (by decide) (by omega)).mp z; omega), if_pos hz, hq, ansV, if_pos hb, nN_nI (by omega)]
theorem dr_p {v : Nat → Int32} {n k : Nat} {x : Int64} (h : Vk v n) (hk : k < n) (hq : (x - x / (nI n).toInt64 * (nI n).toInt64).toInt32 = nI k) (hz : x - x / 3 * 3 = 1) (hb : behB v (nI k) = false) : drawV v x = upd (upd v 3 (v 3 ||| (1 <<< (nI k &&& 31)))) (30 + k) 0 := by
  have h6 := h.1
  have hl : hasL v (nI k) = true := by
    simp only [hasL, Bool.and_eq_true, decide_eq_true_eq, h.2.1]
    exact ⟨(cle (n := 0) (by decide) (by omega)).mpr (by omega), (nI_ltI (by omega) (by omega)).mpr hk⟩
  rw [drawV, h.2.1, if_neg (fun z => by have := (ltc (n := 1) (by decide) (by omega)).mp z; omega), if_neg (by rw [hz]; decide), if_pos hz, hq, putV, if_pos ⟨hl, hb⟩, nN_nI (by omega)]
theorem dr_0 {v : Nat → Int32} {x : Int64} (h : Vk v 0) : drawV v x = v := by
  rw [drawV, h.2.1, if_pos (by decide)]
theorem dr_n {v : Nat → Int32} {n k : Nat} {x : Int64} (h : Vk v n) (hq : 0 < n → (x - x / (nI n).toInt64 * (nI n).toInt64).toInt32 = nI k) (hz : (¬ x - x / 3 * 3 = 0 ∧ ¬ x - x / 3 * 3 = 1) ∨ (x - x / 3 * 3 = 0 ∧ behB v (nI k) = false) ∨ (x - x / 3 * 3 = 1 ∧ behB v (nI k) = true)) : drawV v x = v := by
  unfold drawV
  by_cases z : v 0 < 1
  · rw [if_pos z]
  · have h6 := h.1
    have hn : 0 < n := Nat.pos_of_ne_zero (fun q => z (by rw [h.2.1, q]; decide))
    rw [if_neg z, h.2.1, hq hn]
    rcases hz with ⟨a, b⟩ | ⟨a, b⟩ | ⟨a, b⟩
    · rw [if_neg a, if_neg b]
    · rw [if_pos a, ansV, if_neg (by simp [b])]
    · rw [if_neg (by rw [a]; decide), if_pos a, putV, if_neg (by simp [b])]
theorem fr_dr {E : gX} {S : Nat} {G0 G : gG} {Q : Option Value → gG → Prop} {ini : Bool} {K : Nat → List (Option Value) → List Value → Nat → gG → Prop} (hK : Cl E "ClockPostModel" b_M_drawn (Option.some Jvm.ClassFile.FieldType.int) 9 5 0 S ini G0 Q K) {c n t : Nat} {f w u : Nat → Int32} {A : Nat → Nat → Int32} {a1 a2 a3 a4 a5 a7 a8 : Option Value} (hM : MV G c f (putT w 972 u) A) (hV : Vk u n) (kk : ∀ G' : gG, MV G' c f (putT w 972 (passV u).1) A → Frm G G' c 10 → K 58 [some (.ref c), a1, a2, a3, a4, a5, some (.int (nI (t + 1))), a7, a8] [] S G') (h5 : okc a5) : K 179 [some (.ref c), a1, a2, a3, a4, a5, some (.int (nI t)), a7, a8] [] S G := by
  refine r_aload_n hK d_M_drawn_179 rfl ?_
  refine r_sipush hK d_M_drawn_180 ks_972 ?_
  refine r_v1 (k' := 4) hK lm_M_167 d_M_drawn_183 ⟨_, hM.1⟩ (by decide) (Nat.le_of_ble_eq_true rfl) ?_
  refine c_M_pass (B := 972) hM (by omega) hV (fun G183 hM f183 => kc_s ?_)
  refine r_pop hK d_M_drawn_186 rfl ?_
  refine iN_6_9 hK d_M_drawn_187 h5 ?_
  refine r_goto (tgt := 58) hK d_M_drawn_190 rfl ?_
  exact kk _ hM f183
theorem fr_dr2 {E : gX} {S : Nat} {G0 G : gG} {Q : Option Value → gG → Prop} {ini : Bool} {K : Nat → List (Option Value) → List Value → Nat → gG → Prop} (hK : Cl E "ClockPostModel" b_M_drawn (Option.some Jvm.ClassFile.FieldType.int) 9 5 0 S ini G0 Q K) {c n t k : Nat} {f w0 nw u : Nat → Int32} {A : Nat → Nat → Int32} {a1 a2 a3 a8 : Option Value} {x : Int64} (hM : MV G c f (putT (putT w0 0 nw) 972 u) A) (hV : Vk u n) (h00 : putT w0 0 nw 0 = nI n) (hk : k < 6) (hkn : 0 < n → k < n) (hq : 0 < n → (x - x / (nI n).toInt64 * (nI n).toInt64).toInt32 = nI k) (kk : ∀ (G' : gG) (a8 : Option Value) (u' : Nat → Int32), drawV u x = u' → MV G' c f (putT (putT w0 0 nw) 972 u') A → Frm G G' c 10 → K 179 [some (.ref c), a1, a2, a3, some (.long x), none, some (.int (nI t)), some (.int (nI k)), a8] [] S G') : K 102 [some (.ref c), a1, a2, a3, some (.long x), none, some (.int (nI t)), some (.int (nI k)), a8] [] S G := by
  have hF : Frm G G c 10 := Frm.rf
  refine r_aload_n hK d_M_drawn_102 rfl ?_
  refine r_get hK lf_M_7 d_M_drawn_103 (hM.1) rfl ?_
  refine r_sipush hK d_M_drawn_106 ks_975 ?_
  refine g_tw (B := 972) (j := 3) hK d_M_drawn_109 hM ((show _ = nI (972 + 3) from rfl)) (by omega) (by omega) ?_
  refine r_iload hK d_M_drawn_110 rfl ?_
  refine r_s2 (k' := 1) hK lm_M_138 d_M_drawn_112 (by decide) (Nat.le_of_ble_eq_true rfl) ?_
  refine c_M_has (kc_s ?_)
  refine st_i_8_9 hK d_M_drawn_115 trivial ?_
  refine r_lload hK d_M_drawn_117 rfl ?_
  refine r_ldc2 hK d_M_drawn_119 lc_M_242 ?_
  refine r_lrem hK d_M_drawn_122 (by decide) ?_
  refine r_lconst (v := 0) hK d_M_drawn_123 rfl ?_
  refine r_lcmp hK d_M_drawn_124 ?_
  refine r_if_ne (tgt := 145) hK d_M_drawn_125 rfl (fun h125 => ?_) (fun h125 => ?_)
  · skip
    have hz : ¬ x - x / 3 * 3 = 0 := fun q => h125 ((lg_cmp_eq _ _).mpr q)
    refine r_lload hK d_M_drawn_145 rfl ?_
    refine r_ldc2 hK d_M_drawn_147 lc_M_242 ?_
    refine r_lrem hK d_M_drawn_150 (by decide) ?_
    refine r_lconst (v := 1) hK d_M_drawn_151 rfl ?_
    refine r_lcmp hK d_M_drawn_152 ?_
    refine r_if_ne (tgt := 179) hK d_M_drawn_153 rfl (fun h153 => ?_) (fun h153 => ?_)
    · skip
      have hz1 : ¬ x - x / 3 * 3 = 1 := fun q => h153 ((lg_cmp_eq _ _).mpr q)
      have hd : drawV u x = u := by first | exact dr_n hV hq (Or.inl ⟨hz, hz1⟩) | exact dr_n hV hq (Or.inr (Or.inl ⟨hz, hb⟩))
      exact kk _ _ _ hd hM hF
    · skip
      have hz1 : x - x / 3 * 3 = 1 := (lg_cmp_eq _ _).mp h153
      refine r_iload hK d_M_drawn_156 rfl ?_
      refine r_if_ne (tgt := 179) hK d_M_drawn_158 rfl (fun h158 => ?_) (fun h158 => ?_)
      · skip
        have hb1 : behB u (nI k) = true := by rw [hV.b2 hk]; exact bI_n0.mp h158
        have hd : drawV u x = u := dr_n hV hq (Or.inr (Or.inr ⟨hz1, hb1⟩))
        exact kk _ _ _ hd hM hF
      · skip
        have hb1 : behB u (nI k) = false := by rw [hV.b2 hk]; exact bI_0.mp h158
        refine r_aload_n hK d_M_drawn_161 rfl ?_
        refine r_get hK lf_M_7 d_M_drawn_162 (hM.1) rfl ?_
        refine r_iconst hK d_M_drawn_165 kc_0 ?_
        refine g_lo (j := 0) hK d_M_drawn_166 hM (rfl) (by omega) (by omega) ?_
        rw [h00]
        refine r_if_le (tgt := 179) hK d_M_drawn_167 rfl (fun h167 => ?_) (fun h167 => ?_)
        · skip
          have hn0 : n = 0 := by have := (lec (n := 0) (by decide) (by have := hV.1; omega)).mp h167; omega
          subst hn0
          have hd : drawV u x = u := dr_0 hV
          exact kk _ _ _ hd hM hF
        · skip
          have hn0 : 0 < n := Nat.not_le.mp (fun z => h167 ((lec (n := 0) (by decide) (by have := hV.1; omega)).mpr z))
          refine r_aload_n hK d_M_drawn_170 rfl ?_
          refine r_sipush hK d_M_drawn_171 ks_972 ?_
          refine r_iload hK d_M_drawn_174 rfl ?_
          refine r_v2 (k' := 1) hK lm_M_181 d_M_drawn_176 ⟨_, hM.1⟩ (by decide) (Nat.le_of_ble_eq_true rfl) ?_
          refine c_M_posts (B := 972) (j := k) hM (by omega) hV (hkn hn0) (fun G176 hM f176 => kc_n ?_)
          have hd := dr_p hV (hkn hn0) (hq hn0) hz1 hb1
          have hF := hF.tr f176
          exact kk _ _ _ hd hM hF
  · skip
    have hz : x - x / 3 * 3 = 0 := (lg_cmp_eq _ _).mp h125
    refine r_iload hK d_M_drawn_128 rfl ?_
    refine r_if_eq (tgt := 145) hK d_M_drawn_130 rfl (fun h130 => ?_) (fun h130 => ?_)
    · skip
      have hb : behB u (nI k) = false := by rw [hV.b2 hk]; exact bI_0.mp h130
      refine r_lload hK d_M_drawn_145 rfl ?_
      refine r_ldc2 hK d_M_drawn_147 lc_M_242 ?_
      refine r_lrem hK d_M_drawn_150 (by decide) ?_
      refine r_lconst (v := 1) hK d_M_drawn_151 rfl ?_
      refine r_lcmp hK d_M_drawn_152 ?_
      refine r_if_ne (tgt := 179) hK d_M_drawn_153 rfl (fun h153 => ?_) (fun h153 => ?_)
      · skip
        have hz1 : ¬ x - x / 3 * 3 = 1 := fun q => h153 ((lg_cmp_eq _ _).mpr q)
        have hd : drawV u x = u := by first | exact dr_n hV hq (Or.inl ⟨hz, hz1⟩) | exact dr_n hV hq (Or.inr (Or.inl ⟨hz, hb⟩))
        exact kk _ _ _ hd hM hF
      · skip
        have hz1 : x - x / 3 * 3 = 1 := (lg_cmp_eq _ _).mp h153
        refine r_iload hK d_M_drawn_156 rfl ?_
        refine r_if_ne (tgt := 179) hK d_M_drawn_158 rfl (fun h158 => ?_) (fun h158 => ?_)
        · skip
          have hb1 : behB u (nI k) = true := by rw [hV.b2 hk]; exact bI_n0.mp h158
          have hd : drawV u x = u := dr_n hV hq (Or.inr (Or.inr ⟨hz1, hb1⟩))
          exact kk _ _ _ hd hM hF
        · skip
          have hb1 : behB u (nI k) = false := by rw [hV.b2 hk]; exact bI_0.mp h158
          refine r_aload_n hK d_M_drawn_161 rfl ?_
          refine r_get hK lf_M_7 d_M_drawn_162 (hM.1) rfl ?_
          refine r_iconst hK d_M_drawn_165 kc_0 ?_
          refine g_lo (j := 0) hK d_M_drawn_166 hM (rfl) (by omega) (by omega) ?_
          rw [h00]
          refine r_if_le (tgt := 179) hK d_M_drawn_167 rfl (fun h167 => ?_) (fun h167 => ?_)
          · skip
            have hn0 : n = 0 := by have := (lec (n := 0) (by decide) (by have := hV.1; omega)).mp h167; omega
            subst hn0
            have hd : drawV u x = u := dr_0 hV
            exact kk _ _ _ hd hM hF
          · skip
            have hn0 : 0 < n := Nat.not_le.mp (fun z => h167 ((lec (n := 0) (by decide) (by have := hV.1; omega)).mpr z))
            refine r_aload_n hK d_M_drawn_170 rfl ?_
            refine r_sipush hK d_M_drawn_171 ks_972 ?_
            refine r_iload hK d_M_drawn_174 rfl ?_
            refine r_v2 (k' := 1) hK lm_M_181 d_M_drawn_176 ⟨_, hM.1⟩ (by decide) (Nat.le_of_ble_eq_true rfl) ?_
            refine c_M_posts (B := 972) (j := k) hM (by omega) hV (hkn hn0) (fun G176 hM f176 => kc_n ?_)
            have hd := dr_p hV (hkn hn0) (hq hn0) hz1 hb1
            have hF := hF.tr f176
            exact kk _ _ _ hd hM hF
    · skip
      have hb : behB u (nI k) = true := by rw [hV.b2 hk]; exact bI_n0.mp h130
      have hkn : k < n := Nat.not_le.mp (fun z => by rw [hV.bo z hk] at hb; cases hb)
      refine r_aload_n hK d_M_drawn_133 rfl ?_
      refine r_sipush hK d_M_drawn_134 ks_972 ?_
      refine r_iload hK d_M_drawn_137 rfl ?_
      refine r_v2 (k' := 3) hK lm_M_178 d_M_drawn_139 ⟨_, hM.1⟩ (by decide) (Nat.le_of_ble_eq_true rfl) ?_
      refine c_M_answers (B := 972) (j := k) hM (by omega) hV hkn (fun G139 hM f139 => kc_n ?_)
      have hd := dr_a hV hkn (hq (by omega)) hz hb
      have hF := hF.tr f139
      refine r_goto (tgt := 179) hK d_M_drawn_142 rfl ?_
      exact kk _ _ _ hd hM hF
theorem c_M_drawn {E : gX} {S : Nat} {G : gG} {Q : Option Value → gG → Prop} {c : Nat} {f w : Nat → Int32} {A : Nat → Nat → Int32} {st : Bool} {nw : Nat → Int32} {ac : Nat → Nat → Int32} {na : Nat} {ik : Nat → Bool} {im : Nat → Nat → Int32} {rp : Nat → Bool} {rl : Nat → Int32} {rs : Nat → Nat} {ri : Nat → Nat → Int32} {tp : Nat → Int32} {tn : Nat} {lf : Int32} {fd : Int32} {tr : Nat → Int32} {un : Nat} (hM : MV G c f w A) (hS : MS f w A (st, nw, ac, na, ik, im, rp, rl, rs, ri, tp, tn, lf, fd, tr, un)) (hI : MI (st, nw, ac, na, ik, im, rp, rl, rs, ri, tp, tn, lf, fd, tr, un)) {m s q : Int32} (hQ : ∀ G' : gG, MR G' c (opDrawn (st, nw, ac, na, ik, im, rp, rl, rs, ri, tp, tn, lf, fd, tr, un) m s q).2 → Frm G G' c 10 → Q (some (.int (opDrawn (st, nw, ac, na, ik, im, rp, rl, rs, ri, tp, tn, lf, fd, tr, un) m s q).1)) G') : Runs E y_M_drawn 5 0 S [.ref c, .int m, .int s, .int q] G Q := by
  refine Runs.of "ClockPostModel" [some (.ref c), some (.int m), some (.int s), some (.int q), none, none, none, none, none] cw_M_drawn (by decide) (by decide +kernel) rfl (Nat.le_of_ble_eq_true rfl) rfl (fun K hK => ?_)
  obtain ⟨w0, hw0⟩ : ∃ x, w = putT x 0 nw := ⟨_, hS.t0⟩
  subst hw0
  obtain ⟨n, hV⟩ := hI.1
  have h6 := hV.1
  have hz0 : putT w0 0 nw 0 = nI n := (hS.2.2.2.2.2.2.1 0 (by omega)).trans hV.2.1
  have hM0 := hM
  obtain ⟨w1, hw1⟩ : ∃ x, putT w0 0 nw = putT (putT w0 0 nw) 972 x := ⟨_, putT_id⟩
  rw [hw1] at hM
  refine r_aload_n hK d_M_drawn_0 rfl ?_
  refine r_get hK lf_M_130 d_M_drawn_1 (hM.1) rfl ?_
  rw [hS.1]
  refine r_if_ne (tgt := 10) hK d_M_drawn_4 rfl (fun h4 => ?_) (fun h4 => ?_)
  · skip
    have hst : st = true := bI_n0.mp h4
    subst hst
    refine r_iload_n hK d_M_drawn_10 rfl ?_
    refine r_i2l hK d_M_drawn_11 ?_
    refine r_lconst (v := 0) hK d_M_drawn_12 rfl ?_
    refine r_ldc2 hK d_M_drawn_13 lc_M_186 ?_
    refine r_s3 (k' := 1) hK lm_M_45 d_M_drawn_16 (by decide) (Nat.le_of_ble_eq_true rfl) ?_
    refine c_M_in (a := 0) (b := 60) (by decide) (by decide) (kc_s ?_)
    refine r_if_eq (tgt := 44) hK d_M_drawn_19 rfl (fun h19 => ?_) (fun h19 => ?_)
    · skip
      have hb := bI_0.mp h19
      rw [opDrawn, hb, Bool.false_and, Bool.false_and, if_neg (by decide)] at hQ
      refine r_ldc hK d_M_drawn_44 lc_M_55 ?_
      refine r_iret hK rfl rfl d_M_drawn_46 ?_
      exact hQ _ ⟨_, _, _, hM0, hS⟩ Frm.rf
    · skip
      have hb := bI_n0.mp h19
      refine r_iload_n hK d_M_drawn_22 rfl ?_
      refine r_i2l hK d_M_drawn_23 ?_
      refine r_lconst (v := 1) hK d_M_drawn_24 rfl ?_
      refine r_ldc2 hK d_M_drawn_25 lc_M_236 ?_
      refine r_s3 (k' := 1) hK lm_M_45 d_M_drawn_28 (by decide) (Nat.le_of_ble_eq_true rfl) ?_
      refine c_M_in (a := 1) (b := 999999) (by decide) (by decide) (kc_s ?_)
      refine r_if_eq (tgt := 44) hK d_M_drawn_31 rfl (fun h31 => ?_) (fun h31 => ?_)
      · skip
        have hc := bI_0.mp h31
        rw [opDrawn, hc, Bool.and_false, Bool.false_and, if_neg (by decide)] at hQ
        refine r_ldc hK d_M_drawn_44 lc_M_55 ?_
        refine r_iret hK rfl rfl d_M_drawn_46 ?_
        exact hQ _ ⟨_, _, _, hM0, hS⟩ Frm.rf
      · skip
        have hc := bI_n0.mp h31
        refine r_iload_n hK d_M_drawn_34 rfl ?_
        refine r_i2l hK d_M_drawn_35 ?_
        refine r_lconst (v := 0) hK d_M_drawn_36 rfl ?_
        refine r_lconst (v := 1) hK d_M_drawn_37 rfl ?_
        refine r_s3 (k' := 1) hK lm_M_45 d_M_drawn_38 (by decide) (Nat.le_of_ble_eq_true rfl) ?_
        refine c_M_in (a := 0) (b := 1) (by decide) (by decide) (kc_s ?_)
        refine r_if_ne (tgt := 47) hK d_M_drawn_41 rfl (fun h41 => ?_) (fun h41 => ?_)
        · skip
          have hd := bI_n0.mp h41
          rw [opDrawn, hb, hc, hd, if_pos (by decide)] at hQ
          obtain ⟨e, he, rfl⟩ := inB_d hb
          rw [nN_nI (by omega)] at hQ
          have hx0 : 0 ≤ (s.toInt64).toInt ∧ (s.toInt64).toInt < 2147483647 := by
            simp only [inB, Bool.and_eq_true, decide_eq_true_eq, i_le, ti_1, show (999999 : Int32).toInt = 999999 by decide] at hc
            rw [Int32.toInt_toInt64]
            omega
          refine r_aload_n hK d_M_drawn_47 rfl ?_
          refine r_v0 (k' := 2) hK lm_M_188 d_M_drawn_48 ⟨_, hM.1⟩ (by decide) (Nat.le_of_ble_eq_true rfl) ?_
          refine l_trd hM (fun G48 hM f48 => kc_n ?_)
          refine r_iload_n hK d_M_drawn_51 rfl ?_
          refine r_i2l hK d_M_drawn_52 ?_
          refine st_l_4_9 hK d_M_drawn_53 trivial ?_
          refine r_iconst hK d_M_drawn_55 kc_0 ?_
          refine st_i_6_9 hK d_M_drawn_56 trivial ?_
          suffices L : ∀ t, t ≤ e → ∀ (G1 : gG) (u : Nat → Int32) (x : Int64) (a7 a8 : Option Value), MV G1 c f (putT (putT w0 0 nw) 972 u) A → Vk u n → 0 ≤ x.toInt ∧ x.toInt < 2147483647 → drN (e - t) x u = drN e s.toInt64 nw → Frm G G1 c 10 → K 58 [some (.ref c), some (.int (nI e)), some (.int s), some (.int q), some (.long x), none, some (.int (nI t)), a7, a8] [] S G1 from L 0 (by omega) _ _ _ _ _ hM hV hx0 rfl f48
          clear hM
          refine lpN e (fun t ht ih G1 u x a7 a8 hM hU hx hE hF => ?_)
          refine r_iload hK d_M_drawn_58 rfl ?_
          refine r_iload_n hK d_M_drawn_60 rfl ?_
          refine r_icmp_ge (tgt := 193) hK d_M_drawn_61 rfl (fun h61 => ?_) (fun h61 => ?_)
          · skip
            have hq7 : t = e := by have := (nI_leI (by omega) (by omega)).mp h61; omega
            subst hq7
            rw [Nat.sub_self, drN] at hE
            rw [← hE] at hQ
            refine r_aload_n hK d_M_drawn_193 rfl ?_
            refine r_get hK lf_M_7 d_M_drawn_194 (hM.1) rfl ?_
            refine r_sipush hK d_M_drawn_197 ks_972 ?_
            refine r_iload_n hK d_M_drawn_200 rfl ?_
            refine r_if_ne (tgt := 208) hK d_M_drawn_201 rfl (fun h201 => ?_) (fun h201 => ?_)
            · skip
              rw [if_neg h201] at hQ
              refine r_iconst hK d_M_drawn_208 kc_5 ?_
              refine r_iadd hK d_M_drawn_209 ?_
              first | refine g_tw (B := 972) (j := 4) hK d_M_drawn_210 hM (by decide) (by omega) (by omega) ?_ | refine g_tw (B := 972) (j := 5) hK d_M_drawn_210 hM (by decide) (by omega) (by omega) ?_
              refine r_iret hK rfl rfl d_M_drawn_211 ?_
              exact hQ _ ⟨_, _, _, hM, hS.sT hI.2.2.2.1⟩ hF
            · skip
              rw [if_pos h201] at hQ
              refine r_iconst hK d_M_drawn_204 kc_4 ?_
              refine r_goto (tgt := 209) hK d_M_drawn_205 rfl ?_
              refine r_iadd hK d_M_drawn_209 ?_
              first | refine g_tw (B := 972) (j := 4) hK d_M_drawn_210 hM (by decide) (by omega) (by omega) ?_ | refine g_tw (B := 972) (j := 5) hK d_M_drawn_210 hM (by decide) (by omega) (by omega) ?_
              refine r_iret hK rfl rfl d_M_drawn_211 ?_
              exact hQ _ ⟨_, _, _, hM, hS.sT hI.2.2.2.1⟩ hF
          · skip
            have hq7 : t < e := Nat.not_le.mp (fun z => h61 ((nI_leI (by omega) (by omega)).mpr z))
            rw [show e - t = (e - (t + 1)) + 1 by omega, drN_s] at hE
            have hx := dr1_b hx
            unfold dr1 at hx hE
            refine r_lload hK d_M_drawn_64 rfl ?_
            refine r_ldc2 hK d_M_drawn_66 lc_M_238 ?_
            refine r_lmul hK d_M_drawn_69 ?_
            refine r_ldc2 hK d_M_drawn_70 lc_M_240 ?_
            refine r_lrem hK d_M_drawn_73 (by decide) ?_
            generalize x * 16807 - x * 16807 / 2147483647 * 2147483647 = x1 at hx hE ⊢
            refine st_l_4_9 hK d_M_drawn_74 trivial ?_
            refine r_aload_n hK d_M_drawn_76 rfl ?_
            refine r_get hK lf_M_7 d_M_drawn_77 (hM.1) rfl ?_
            refine r_iconst hK d_M_drawn_80 kc_0 ?_
            refine g_lo (j := 0) hK d_M_drawn_81 hM (rfl) (by omega) (by omega) ?_
            rw [hz0]
            refine r_if_ne (tgt := 89) hK d_M_drawn_82 rfl (fun h82 => ?_) (fun h82 => ?_)
            · skip
              have hn0 : 0 < n := Nat.pos_of_ne_zero (fun z => h82 (by rw [z]; rfl))
              obtain ⟨k, hkn, hqe⟩ := dr_q (n := n) hx hn0 h6
              refine r_lload hK d_M_drawn_89 rfl ?_
              refine r_aload_n hK d_M_drawn_91 rfl ?_
              refine r_get hK lf_M_7 d_M_drawn_92 (hM.1) rfl ?_
              refine r_iconst hK d_M_drawn_95 kc_0 ?_
              refine g_lo (j := 0) hK d_M_drawn_96 hM (rfl) (by omega) (by omega) ?_
              rw [hz0]
              refine r_i2l hK d_M_drawn_97 ?_
              refine r_lrem hK d_M_drawn_98 (by intro z; have z2 := congrArg Int64.toInt z; rw [Int32.toInt_toInt64, nI_toInt (by omega)] at z2; have : (0 : Int64).toInt = 0 := (by decide); omega) ?_
              refine r_l2i hK d_M_drawn_99 ?_
              rw [hqe]
              refine st_i_7_9 hK d_M_drawn_100 trivial ?_
              first | exact fr_dr2 (k := k) hK hM hU hz0 (by omega) (fun _ => hkn) (fun _ => hqe) (fun G2 a8 u2 hd hM f2 => fr_dr hK hM (hd ▸ hU.draw x1) (fun G3 hM f3 => ih hq7 _ _ _ _ _ hM (hd ▸ (hU.draw x1).pass) hx (hd ▸ hE) ((hF.tr f2).tr f3)) trivial) | exact fr_dr2 (k := 0) hK hM hU hz0 (by omega) (fun z => absurd z (by omega)) (fun z => absurd z (by omega)) (fun G2 a8 u2 hd hM f2 => fr_dr hK hM (hd ▸ hU.draw x1) (fun G3 hM f3 => ih hq7 _ _ _ _ _ hM (hd ▸ (hU.draw x1).pass) hx (hd ▸ hE) ((hF.tr f2).tr f3)) trivial)
            · skip
              have hn0 : n = 0 := (eqc (n := 0) (by decide) (by omega)).mp h82
              subst hn0
              refine r_iconst hK d_M_drawn_85 kc_0 ?_
              refine r_goto (tgt := 100) hK d_M_drawn_86 rfl ?_
              refine st_i_7_9 hK d_M_drawn_100 trivial ?_
              first | exact fr_dr2 (k := k) hK hM hU hz0 (by omega) (fun _ => hkn) (fun _ => hqe) (fun G2 a8 u2 hd hM f2 => fr_dr hK hM (hd ▸ hU.draw x1) (fun G3 hM f3 => ih hq7 _ _ _ _ _ hM (hd ▸ (hU.draw x1).pass) hx (hd ▸ hE) ((hF.tr f2).tr f3)) trivial) | exact fr_dr2 (k := 0) hK hM hU hz0 (by omega) (fun z => absurd z (by omega)) (fun z => absurd z (by omega)) (fun G2 a8 u2 hd hM f2 => fr_dr hK hM (hd ▸ hU.draw x1) (fun G3 hM f3 => ih hq7 _ _ _ _ _ hM (hd ▸ (hU.draw x1).pass) hx (hd ▸ hE) ((hF.tr f2).tr f3)) trivial)
        · skip
          have hd := bI_0.mp h41
          rw [opDrawn, hd, Bool.and_false, if_neg (by decide)] at hQ
          refine r_ldc hK d_M_drawn_44 lc_M_55 ?_
          refine r_iret hK rfl rfl d_M_drawn_46 ?_
          exact hQ _ ⟨_, _, _, hM0, hS⟩ Frm.rf
  · skip
    have hst : st = false := bI_0.mp h4
    subst hst
    rw [opDrawn, if_neg (by cases inB m 0 60 <;> cases inB s 1 999999 <;> cases inB q 0 1 <;> decide)] at hQ
    refine r_ldc hK d_M_drawn_7 lc_M_137 ?_
    refine r_iret hK rfl rfl d_M_drawn_9 ?_
    exact hQ _ ⟨_, _, _, hM0, hS⟩ Frm.rf
