def MS (f w : Nat → Int32) (A : Nat → Nat → Int32) : gS → Prop
  | (st, nw, ac, na, ik, im, rp, rl, rs, ri, tp, tn, lf, fd, tr, un) => f 1 = bI st ∧ f 2 = nI na ∧ f 8 = nI tn ∧ f 9 = lf ∧ f 10 = fd ∧ f 12 = nI un ∧ (∀ k, k < 36 → w k = nw k) ∧ (∀ i, i < na → ∀ k, k < 36 → w (36 + 36 * i + k) = ac i k) ∧ (∀ i, i < 2 → ik i = true → ∀ k, k < 36 → w (900 + 36 * i + k) = im i k) ∧ (∀ i, i < 2 → A 2 i = bI (ik i)) ∧ (∀ i, i < 8 → A 4 i = if rp i = true then nI (rs i) else -1) ∧ (∀ i, i < 8 → rp i = true → A 3 i = rl i ∧ ∀ k, k < 40 → A 5 (40 * i + k) = ri i k) ∧ (∀ k, k < tn → A 6 k = tp k) ∧ ∀ k, k < un → A 7 k = tr k
def MR (G : gG) (c : Nat) (s : gS) : Prop := ∃ (f w : Nat → Int32) (A : Nat → Nat → Int32), MV G c f w A ∧ MS f w A s
def MI : gS → Prop
  | (st, nw, ac, na, ik, im, rp, rl, rs, ri, tp, tn, lf, fd, tr, un) => (∃ n, Vk nw n) ∧ (∀ i, i < na → ∃ n, Vk (ac i) n) ∧ (∀ i, i < 2 → ik i = true → ∃ n, Vk (im i) n) ∧ na ≤ 24 ∧ (∀ i, i < 8 → rs i ≤ 40) ∧ tn ≤ 100 ∧ un ≤ 16 ∧ (∀ k, k < tn → 0 ≤ (tp k).toInt ∧ (tp k).toInt ≤ 255) ∧ ∀ i, i < 2 → ik i = true → st = true
theorem MS.t0 {f w : Nat → Int32} {A : Nat → Nat → Int32} {st : Bool} {nw : Nat → Int32} {ac : Nat → Nat → Int32} {na : Nat} {ik : Nat → Bool} {im : Nat → Nat → Int32} {rp : Nat → Bool} {rl : Nat → Int32} {rs : Nat → Nat} {ri : Nat → Nat → Int32} {tp : Nat → Int32} {tn : Nat} {lf : Int32} {fd : Int32} {tr : Nat → Int32} {un : Nat} (h : MS f w A (st, nw, ac, na, ik, im, rp, rl, rs, ri, tp, tn, lf, fd, tr, un)) : w = putT w 0 nw := by
  have e : putT w 0 nw = putT w 0 (tw w 0) := putT_cg (fun k hk => by rw [tw, Nat.zero_add]; exact (h.2.2.2.2.2.2.1 k hk).symm)
  rw [e, putT_tw]
theorem MS.sN {f w u : Nat → Int32} {A : Nat → Nat → Int32} {st : Bool} {nw : Nat → Int32} {ac : Nat → Nat → Int32} {na : Nat} {ik : Nat → Bool} {im : Nat → Nat → Int32} {rp : Nat → Bool} {rl : Nat → Int32} {rs : Nat → Nat} {ri : Nat → Nat → Int32} {tp : Nat → Int32} {tn : Nat} {lf : Int32} {fd : Int32} {tr : Nat → Int32} {un : Nat} (h : MS f w A (st, nw, ac, na, ik, im, rp, rl, rs, ri, tp, tn, lf, fd, tr, un)) : MS f (putT w 0 u) A (st, u, ac, na, ik, im, rp, rl, rs, ri, tp, tn, lf, fd, tr, un) :=
  ⟨h.1, h.2.1, h.2.2.1, h.2.2.2.1, h.2.2.2.2.1, h.2.2.2.2.2.1, fun k hk => by
    have := putT_at (w := w) (v := u) (B := 0) hk
    rw [Nat.zero_add] at this
    exact this, fun i hi k hk => (putT_out (by omega)).trans (h.2.2.2.2.2.2.2.1 i hi k hk), fun i hi hq k hk => (putT_out (by omega)).trans (h.2.2.2.2.2.2.2.2.1 i hi hq k hk), h.2.2.2.2.2.2.2.2.2⟩
theorem MS.sT {f w u : Nat → Int32} {A : Nat → Nat → Int32} {st : Bool} {nw : Nat → Int32} {ac : Nat → Nat → Int32} {na : Nat} {ik : Nat → Bool} {im : Nat → Nat → Int32} {rp : Nat → Bool} {rl : Nat → Int32} {rs : Nat → Nat} {ri : Nat → Nat → Int32} {tp : Nat → Int32} {tn : Nat} {lf : Int32} {fd : Int32} {tr : Nat → Int32} {un : Nat} (h : MS f w A (st, nw, ac, na, ik, im, rp, rl, rs, ri, tp, tn, lf, fd, tr, un)) (hn : na ≤ 24) : MS f (putT w 972 u) A (st, nw, ac, na, ik, im, rp, rl, rs, ri, tp, tn, lf, fd, tr, un) :=
  ⟨h.1, h.2.1, h.2.2.1, h.2.2.2.1, h.2.2.2.2.1, h.2.2.2.2.2.1, fun k hk => (putT_out (by omega)).trans (h.2.2.2.2.2.2.1 k hk), fun i hi k hk => (putT_out (by omega)).trans (h.2.2.2.2.2.2.2.1 i hi k hk), fun i hi hq k hk => (putT_out (by omega)).trans (h.2.2.2.2.2.2.2.2.1 i hi hq k hk), h.2.2.2.2.2.2.2.2.2⟩
theorem MS.sfd {f w : Nat → Int32} {A : Nat → Nat → Int32} {st : Bool} {nw : Nat → Int32} {ac : Nat → Nat → Int32} {na : Nat} {ik : Nat → Bool} {im : Nat → Nat → Int32} {rp : Nat → Bool} {rl : Nat → Int32} {rs : Nat → Nat} {ri : Nat → Nat → Int32} {tp : Nat → Int32} {tn : Nat} {lf : Int32} {fd : Int32} {tr : Nat → Int32} {un : Nat} {x : Int32} (h : MS f w A (st, nw, ac, na, ik, im, rp, rl, rs, ri, tp, tn, lf, fd, tr, un)) : MS (upd f 10 x) w A (st, nw, ac, na, ik, im, rp, rl, rs, ri, tp, tn, lf, x, tr, un) :=
  ⟨by rw [upd_n (by omega)]; exact h.1, by rw [upd_n (by omega)]; exact h.2.1, by rw [upd_n (by omega)]; exact h.2.2.1, by rw [upd_n (by omega)]; exact h.2.2.2.1, upd_s, by rw [upd_n (by omega)]; exact h.2.2.2.2.2.1, h.2.2.2.2.2.2⟩
def shW (w : Nat → Int32) (j : Nat) : Nat → Int32 := fun k => if 36 ≤ k ∧ k < 36 + j then w (k + 36) else w k
theorem shW_0 {w : Nat → Int32} : shW w 0 = w := by
  funext k
  unfold shW
  rw [if_neg (by omega)]
theorem shW_s {w : Nat → Int32} {j : Nat} : upd (shW w j) (36 + j) (shW w j (72 + j)) = shW w (j + 1) := by
  funext k
  unfold upd shW
  by_cases e : k = 36 + j
  · subst e
    rw [if_pos rfl, if_neg (by omega), if_pos (by omega), show 36 + j + 36 = 72 + j by omega]
  · rw [if_neg e]
    by_cases q : 36 ≤ k ∧ k < 36 + j
    · rw [if_pos q, if_pos (by omega)]
    · rw [if_neg q, if_neg (by omega)]
theorem nI_m (a b : Nat) : nI a * nI b = nI (a * b) := (Int32.ofNat_mul a b).symm
theorem ixm {a b c : Nat} {x y : Int32} (h : x = nI a) (h2 : y = nI c) : x + y * nI b = nI (a + c * b) := by rw [h, h2, nI_m, nI_add]
theorem kp_MS {f w w1 : Nat → Int32} {A : Nat → Nat → Int32} {st : Bool} {nw : Nat → Int32} {ac : Nat → Nat → Int32} {na : Nat} {ik : Nat → Bool} {im : Nat → Nat → Int32} {rp : Nat → Bool} {rl : Nat → Int32} {rs : Nat → Nat} {ri : Nat → Nat → Int32} {tp : Nat → Int32} {tn : Nat} {lf : Int32} {fd : Int32} {tr : Nat → Int32} {un : Nat} (h : MS f w A (st, nw, ac, na, ik, im, rp, rl, rs, ri, tp, tn, lf, fd, tr, un)) (hn : na ≤ 24) {m : Nat} (hm : m = if na = 24 then 23 else na) (h1 : na = 24 → w1 = shW w 828) (h2 : na ≠ 24 → w1 = w) {x y : Int32} (hy : y = nI (m + 1)) : MS (upd (upd f 2 x) 2 y) (putT w1 (36 + 36 * m) (tw w1 0)) A (st, nw, (kpA ac na nw).1, (kpA ac na nw).2, ik, im, rp, rl, rs, ri, tp, tn, lf, fd, tr, un) := by
  have hlo : ∀ k, k < 36 → w1 k = w k := fun k hk => by
    by_cases e : na = 24
    · rw [h1 e]
      unfold shW
      rw [if_neg (by omega)]
    · rw [h2 e]
  have hhi : ∀ k, 900 ≤ k → w1 k = w k := fun k hk => by
    by_cases e : na = 24
    · rw [h1 e]
      unfold shW
      rw [if_neg (by omega)]
    · rw [h2 e]
  have hm2 : m ≤ 23 := by rw [hm]; split <;> omega
  have hk2 : (kpA ac na nw).2 = m + 1 := by
    unfold kpA
    rw [hm]
    by_cases e : na = 24
    · rw [if_neg (by omega), if_pos e]
    · rw [if_pos (by omega), if_neg e]
  refine ⟨by rw [upd_n (by omega), upd_n (by omega)]; exact h.1, by rw [upd_s, hy, hk2], by rw [upd_n (by omega), upd_n (by omega)]; exact h.2.2.1, by rw [upd_n (by omega), upd_n (by omega)]; exact h.2.2.2.1, by rw [upd_n (by omega), upd_n (by omega)]; exact h.2.2.2.2.1, by rw [upd_n (by omega), upd_n (by omega)]; exact h.2.2.2.2.2.1, fun k hk => by rw [putT_out (by omega), hlo k hk]; exact h.2.2.2.2.2.2.1 k hk, fun i hi k hk => ?_, fun i hi hq k hk => by rw [putT_out (by omega), hhi _ (by omega)]; exact h.2.2.2.2.2.2.2.2.1 i hi hq k hk, h.2.2.2.2.2.2.2.2.2⟩
  rw [hk2] at hi
  by_cases e : i = m
  · subst e
    rw [putT_at hk, tw, Nat.zero_add, hlo k hk, h.2.2.2.2.2.2.1 k hk]
    unfold kpA
    by_cases q : na = 24
    · rw [if_neg (by omega)]
      rw [if_pos q] at hm
      subst hm
      rfl
    · rw [if_pos (by omega)]
      rw [if_neg q] at hm
      subst hm
      simp only [va_up_s]
  · rw [putT_out (by omega)]
    unfold kpA
    by_cases q : na = 24
    · rw [if_neg (by omega), h1 q]
      rw [if_pos q] at hm
      unfold shW
      rw [if_pos (by omega)]
      show _ = (if i = 23 then nw else ac (i + 1)) k
      rw [if_neg (by omega), ← h.2.2.2.2.2.2.2.1 (i + 1) (by omega) k hk]
      exact congrArg w (by omega)
    · rw [if_pos (by omega), h2 q]
      rw [if_neg q] at hm
      show _ = va_up ac na nw i k
      rw [va_up_n (by omega)]
      exact h.2.2.2.2.2.2.2.1 i (by omega) k hk
theorem il_e {n : Nat} {i : Int32} (h : n ≤ 6) : inB i 0 (nI n - 1) = (decide (0 ≤ i) && decide (i < nI n)) := by
  have e : (nI n - 1).toInt = (n : Int) - 1 := by
    have a := nI_toInt (n := n) (by omega)
    rw [sub_toI (by rw [a, ti_1]; omega), a, ti_1]
  unfold inB
  congr 1
  rw [decide_eq_decide, i_le, i_lt, e, nI_toInt (by omega)]
  omega
theorem c_M_answers {E : gX} {S : Nat} {G : gG} {Q : Option Value → gG → Prop} {c B n : Nat} {f w v : Nat → Int32} {A : Nat → Nat → Int32} (hM : MV G c f (putT w B v) A) (hB : B ≤ 972) (hV : Vk v n) {j : Nat} (hj : j < n) (hQ : ∀ G' : gG, MV G' c f (putT w B (awayV v (nI j) (v (24 + j) / 2))) A → Frm G G' c 10 → Q none G') : Runs E y_M_answers 3 0 S [.ref c, .int (nI B), .int (nI j)] G Q := by
  refine Runs.of "ClockPostModel" [some (.ref c), some (.int (nI B)), some (.int (nI j))] cw_M_answers (by decide) (by decide +kernel) rfl (Nat.le_of_ble_eq_true rfl) rfl (fun K hK => ?_)
  have h6 := hV.1
  have h0 := hV.2.1
  refine r_aload_n hK d_M_answers_0 rfl ?_
  refine r_iload_n hK d_M_answers_1 rfl ?_
  refine r_iload_n hK d_M_answers_2 rfl ?_
  refine r_aload_n hK d_M_answers_3 rfl ?_
  refine r_get hK lf_M_7 d_M_answers_4 (hM.1) rfl ?_
  refine r_iload_n hK d_M_answers_7 rfl ?_
  refine r_bipush hK d_M_answers_8 kb_24 ?_
  refine r_iadd hK d_M_answers_10 ?_
  refine r_iload_n hK d_M_answers_11 rfl ?_
  refine r_iadd hK d_M_answers_12 ?_
  refine g_tw (B := B) (j := 24 + j) hK d_M_answers_13 hM (ix2 (c := 24) rfl) (by omega) (by omega) ?_
  refine r_iconst hK d_M_answers_14 kc_2 ?_
  refine r_idiv hK d_M_answers_15 (by decide) ?_
  refine r_v3 (k' := 2) hK lm_M_163 d_M_answers_16 ⟨_, hM.1⟩ (by decide) (Nat.le_of_ble_eq_true rfl) ?_
  refine c_M_away hM hB (fun G16 hM f16 => kc_n ?_)
  refine r_vret hK rfl rfl d_M_answers_19 ?_
  exact hQ _ hM f16
theorem c_M_posts {E : gX} {S : Nat} {G : gG} {Q : Option Value → gG → Prop} {c B n : Nat} {f w v : Nat → Int32} {A : Nat → Nat → Int32} (hM : MV G c f (putT w B v) A) (hB : B ≤ 972) (hV : Vk v n) {j : Nat} (hj : j < n) (hQ : ∀ G' : gG, MV G' c f (putT w B (upd (upd v 3 (v 3 ||| (1 <<< (nI j &&& 31)))) (30 + j) 0)) A → Frm G G' c 10 → Q none G') : Runs E y_M_posts 1 0 S [.ref c, .int (nI B), .int (nI j)] G Q := by
  refine Runs.of "ClockPostModel" [some (.ref c), some (.int (nI B)), some (.int (nI j))] cw_M_posts (by decide) (by decide +kernel) rfl (Nat.le_of_ble_eq_true rfl) rfl (fun K hK => ?_)
  have h6 := hV.1
  have h0 := hV.2.1
  refine r_aload_n hK d_M_posts_0 rfl ?_
  refine r_get hK lf_M_7 d_M_posts_1 (hM.1) rfl ?_
  refine r_iload_n hK d_M_posts_4 rfl ?_
  refine r_iconst hK d_M_posts_5 kc_3 ?_
  refine r_iadd hK d_M_posts_6 ?_
  refine r_dup2 hK d_M_posts_7 rfl rfl ?_
  refine g_tw (B := B) (j := 3) hK d_M_posts_8 hM (ix1 (c := 3) rfl) (by omega) (by omega) ?_
  refine r_iconst hK d_M_posts_9 kc_1 ?_
  refine r_iload_n hK d_M_posts_10 rfl ?_
  refine r_ishl hK d_M_posts_11 ?_
  refine r_ior hK d_M_posts_12 ?_
  refine s_tw (B := B) (j := 3) hK d_M_posts_13 hM (ix1 (c := 3) rfl) (by omega) (by omega) (fun G13 hM f13 => ?_)
  have hF := f13
  refine r_aload_n hK d_M_posts_14 rfl ?_
  refine r_get hK lf_M_7 d_M_posts_15 (hM.1) rfl ?_
  refine r_iload_n hK d_M_posts_18 rfl ?_
  refine r_bipush hK d_M_posts_19 kb_30 ?_
  refine r_iadd hK d_M_posts_21 ?_
  refine r_iload_n hK d_M_posts_22 rfl ?_
  refine r_iadd hK d_M_posts_23 ?_
  refine r_iconst hK d_M_posts_24 kc_0 ?_
  refine s_tw (B := B) (j := 30 + j) hK d_M_posts_25 hM (ix2 (c := 30) rfl) (by omega) (by omega) (fun G25 hM f25 => ?_)
  have hF := hF.tr f25
  refine r_vret hK rfl rfl d_M_posts_26 ?_
  exact hQ _ hM hF
theorem c_M_isLetterThere {E : gX} {S : Nat} {G : gG} {Q : Option Value → gG → Prop} {c n : Nat} {f w : Nat → Int32} {A : Nat → Nat → Int32} (hM : MV G c f w A) (h0 : w 0 = nI n) (h6 : n ≤ 6) {v : Nat → Int32} (hv : v 0 = nI n) {i : Int32} (hQ : Q (some (.int (bI (hasL v i)))) G) : Runs E y_M_isLetterThere 2 0 S [.ref c, .int i] G Q := by
  refine Runs.of "ClockPostModel" [some (.ref c), some (.int i)] cw_M_isLetterThere (by decide) (by decide +kernel) rfl (Nat.le_of_ble_eq_true rfl) rfl (fun K hK => ?_)
  refine r_iload_n hK d_M_isLetterThere_0 rfl ?_
  refine r_i2l hK d_M_isLetterThere_1 ?_
  refine r_lconst (v := 0) hK d_M_isLetterThere_2 rfl ?_
  refine r_aload_n hK d_M_isLetterThere_3 rfl ?_
  refine r_get hK lf_M_7 d_M_isLetterThere_4 (hM.1) rfl ?_
  refine r_iconst hK d_M_isLetterThere_7 kc_0 ?_
  refine g_rw (j := 0) hK d_M_isLetterThere_8 hM rfl (by omega) ?_
  rw [h0]
  refine r_iconst hK d_M_isLetterThere_9 kc_1 ?_
  refine r_isub hK d_M_isLetterThere_10 ?_
  refine r_i2l hK d_M_isLetterThere_11 ?_
  refine r_s3 (k' := 1) hK lm_M_45 d_M_isLetterThere_12 (by decide) (Nat.le_of_ble_eq_true rfl) ?_
  refine c_M_in (a := 0) (b := nI n - 1) (by decide) rfl (kc_s ?_)
  refine r_zret hK rfl (bI_nar _) rfl d_M_isLetterThere_15 ?_
  exact rc hQ (by rw [il_e h6, hasL, hv])
theorem c_M_keepPast {E : gX} {S : Nat} {G : gG} {Q : Option Value → gG → Prop} {c : Nat} {f w : Nat → Int32} {A : Nat → Nat → Int32} {st : Bool} {nw : Nat → Int32} {ac : Nat → Nat → Int32} {na : Nat} {ik : Nat → Bool} {im : Nat → Nat → Int32} {rp : Nat → Bool} {rl : Nat → Int32} {rs : Nat → Nat} {ri : Nat → Nat → Int32} {tp : Nat → Int32} {tn : Nat} {lf : Int32} {fd : Int32} {tr : Nat → Int32} {un : Nat} (hM : MV G c f w A) (hS : MS f w A (st, nw, ac, na, ik, im, rp, rl, rs, ri, tp, tn, lf, fd, tr, un)) (hn : na ≤ 24) (hQ : ∀ (G' : gG) (f' w' : Nat → Int32), MV G' c f' w' A → MS f' w' A (st, nw, (kpA ac na nw).1, (kpA ac na nw).2, ik, im, rp, rl, rs, ri, tp, tn, lf, fd, tr, un) → Frm G G' c 10 → Q none G') : Runs E y_M_keepPast 2 0 S [.ref c] G Q := by
  refine Runs.of "ClockPostModel" [some (.ref c), none] cw_M_keepPast (by decide) (by decide +kernel) rfl (Nat.le_of_ble_eq_true rfl) rfl (fun K hK => ?_)
  refine r_iconst hK d_M_keepPast_0 kc_0 ?_
  refine st_in_1_2 hK d_M_keepPast_1 trivial ?_
  suffices L : ∀ j, j ≤ 828 → ∀ G1 : gG, (na ≠ 24 → j = 0) → MV G1 c f (shW w j) A → Frm G G1 c 10 → K 2 [some (.ref c), some (.int (nI j))] [] S G1 from L 0 (Nat.zero_le _) G (fun _ => rfl) (by rw [shW_0]; exact hM) Frm.rf
  clear hM
  refine lpN 828 (fun j hj ih G1 hz hM hF => ?_)
  refine r_iload_n hK d_M_keepPast_2 rfl ?_
  refine r_sipush hK d_M_keepPast_3 ks_828 ?_
  refine r_icmp_ge (tgt := 42) hK d_M_keepPast_6 rfl (fun h6 => ?_) (fun h6 => ?_)
  · skip
    have hj2 : j = 828 := by have := (cle (n := 828) (by decide) (by omega)).mp h6; omega
    have h24 : na = 24 := Classical.byContradiction fun q => by have := hz q; omega
    obtain ⟨w1, hw1⟩ : ∃ x, x = shW w j := ⟨_, rfl⟩
    rw [← hw1] at hM
    have k1 : na = 24 → w1 = shW w 828 := fun _ => by rw [hw1, hj2]
    have k2 : na ≠ 24 → w1 = w := fun q => absurd h24 q
    refine r_aload_n hK d_M_keepPast_42 rfl ?_
    refine r_dup hK d_M_keepPast_43 rfl ?_
    refine r_get hK lf_M_134 d_M_keepPast_44 (hM.1) rfl ?_
    rw [hS.2.1]
    refine r_aload_n hK d_M_keepPast_47 rfl ?_
    refine r_get hK lf_M_134 d_M_keepPast_48 (hM.1) rfl ?_
    rw [hS.2.1]
    refine r_bipush hK d_M_keepPast_51 kb_24 ?_
    refine r_icmp_ne (tgt := 60) hK d_M_keepPast_53 rfl (fun h53 => ?_) (fun h53 => ?_)
    · skip
      have g24 : na ≠ 24 := fun q => h53 (by rw [q]; rfl)
      obtain ⟨m, hm⟩ : ∃ m, m = if na = 24 then 23 else na := ⟨_, rfl⟩
      have hmv : nI na - 0 = nI m := by rw [hm, if_neg g24, Int32.sub_zero]
      refine r_iconst hK d_M_keepPast_60 kc_0 ?_
      refine r_isub hK d_M_keepPast_61 ?_
      rw [hmv]
      refine p_M_undos hK lf_M_134 d_M_keepPast_62 hM (fun G62 hM f62 => ?_)
      have hF := hF.tr f62
      have hm2 : m ≤ 23 := by rw [hm]; split <;> omega
      refine r_aload_n hK d_M_keepPast_65 rfl ?_
      refine r_iconst hK d_M_keepPast_66 kc_0 ?_
      refine r_bipush hK d_M_keepPast_67 kb_36 ?_
      refine r_bipush hK d_M_keepPast_69 kb_36 ?_
      refine r_aload_n hK d_M_keepPast_71 rfl ?_
      refine r_get hK lf_M_134 d_M_keepPast_72 (hM.1) rfl ?_
      rw [upd_s]
      refine r_imul hK d_M_keepPast_75 ?_
      refine r_iadd hK d_M_keepPast_76 ?_
      rw [show (36 : Int32) + 36 * nI m = nI (36 + 36 * m) from ixm rfl rfl]
      refine r_v2 (k' := 1) hK lm_M_126 d_M_keepPast_77 ⟨_, hM.1⟩ (by decide) (Nat.le_of_ble_eq_true rfl) ?_
      refine c_M_copyTown (a := 0) hM (by omega) (by omega) (by omega) (fun G77 hM f77 => kc_n ?_)
      have hF := hF.tr f77
      refine r_aload_n hK d_M_keepPast_80 rfl ?_
      refine r_dup hK d_M_keepPast_81 rfl ?_
      refine r_get hK lf_M_134 d_M_keepPast_82 (hM.1) rfl ?_
      rw [upd_s]
      refine r_iconst hK d_M_keepPast_85 kc_1 ?_
      refine r_iadd hK d_M_keepPast_86 ?_
      rw [nI_1]
      refine p_M_undos hK lf_M_134 d_M_keepPast_87 hM (fun G87 hM f87 => ?_)
      have hF := hF.tr f87
      refine r_vret hK rfl rfl d_M_keepPast_90 ?_
      exact hQ _ _ _ hM (kp_MS hS hn hm k1 k2 rfl) hF
    · skip
      have g24 : na = 24 := (eqc (n := 24) (by decide) (by omega)).mp h53
      obtain ⟨m, hm⟩ : ∃ m, m = if na = 24 then 23 else na := ⟨_, rfl⟩
      have hmv : nI na - 1 = nI m := by rw [hm, if_pos g24, g24]; rfl
      refine r_iconst hK d_M_keepPast_56 kc_1 ?_
      refine r_goto (tgt := 61) hK d_M_keepPast_57 rfl ?_
      refine r_isub hK d_M_keepPast_61 ?_
      rw [hmv]
      refine p_M_undos hK lf_M_134 d_M_keepPast_62 hM (fun G62 hM f62 => ?_)
      have hF := hF.tr f62
      have hm2 : m ≤ 23 := by rw [hm]; split <;> omega
      refine r_aload_n hK d_M_keepPast_65 rfl ?_
      refine r_iconst hK d_M_keepPast_66 kc_0 ?_
      refine r_bipush hK d_M_keepPast_67 kb_36 ?_
      refine r_bipush hK d_M_keepPast_69 kb_36 ?_
      refine r_aload_n hK d_M_keepPast_71 rfl ?_
      refine r_get hK lf_M_134 d_M_keepPast_72 (hM.1) rfl ?_
      rw [upd_s]
      refine r_imul hK d_M_keepPast_75 ?_
      refine r_iadd hK d_M_keepPast_76 ?_
      rw [show (36 : Int32) + 36 * nI m = nI (36 + 36 * m) from ixm rfl rfl]
      refine r_v2 (k' := 1) hK lm_M_126 d_M_keepPast_77 ⟨_, hM.1⟩ (by decide) (Nat.le_of_ble_eq_true rfl) ?_
      refine c_M_copyTown (a := 0) hM (by omega) (by omega) (by omega) (fun G77 hM f77 => kc_n ?_)
      have hF := hF.tr f77
      refine r_aload_n hK d_M_keepPast_80 rfl ?_
      refine r_dup hK d_M_keepPast_81 rfl ?_
      refine r_get hK lf_M_134 d_M_keepPast_82 (hM.1) rfl ?_
      rw [upd_s]
      refine r_iconst hK d_M_keepPast_85 kc_1 ?_
      refine r_iadd hK d_M_keepPast_86 ?_
      rw [nI_1]
      refine p_M_undos hK lf_M_134 d_M_keepPast_87 hM (fun G87 hM f87 => ?_)
      have hF := hF.tr f87
      refine r_vret hK rfl rfl d_M_keepPast_90 ?_
      exact hQ _ _ _ hM (kp_MS hS hn hm k1 k2 rfl) hF
  · skip
    have hq : j < 828 := Nat.not_le.mp (fun q => h6 ((cle (n := 828) (by decide) (by omega)).mpr q))
    refine r_aload_n hK d_M_keepPast_9 rfl ?_
    refine r_get hK lf_M_134 d_M_keepPast_10 (hM.1) rfl ?_
    rw [hS.2.1]
    refine r_bipush hK d_M_keepPast_13 kb_24 ?_
    refine r_icmp_ne (tgt := 42) hK d_M_keepPast_15 rfl (fun h15 => ?_) (fun h15 => ?_)
    · skip
      have h24 : na ≠ 24 := fun q => h15 (by rw [q]; rfl)
      have hj0 := hz h24
      obtain ⟨w1, hw1⟩ : ∃ x, x = shW w j := ⟨_, rfl⟩
      rw [← hw1] at hM
      have k1 : na = 24 → w1 = shW w 828 := fun q => absurd q h24
      have k2 : na ≠ 24 → w1 = w := fun q => by rw [hw1, hj0, shW_0]
      refine r_aload_n hK d_M_keepPast_42 rfl ?_
      refine r_dup hK d_M_keepPast_43 rfl ?_
      refine r_get hK lf_M_134 d_M_keepPast_44 (hM.1) rfl ?_
      rw [hS.2.1]
      refine r_aload_n hK d_M_keepPast_47 rfl ?_
      refine r_get hK lf_M_134 d_M_keepPast_48 (hM.1) rfl ?_
      rw [hS.2.1]
      refine r_bipush hK d_M_keepPast_51 kb_24 ?_
      refine r_icmp_ne (tgt := 60) hK d_M_keepPast_53 rfl (fun h53 => ?_) (fun h53 => ?_)
      · skip
        have g24 : na ≠ 24 := fun q => h53 (by rw [q]; rfl)
        obtain ⟨m, hm⟩ : ∃ m, m = if na = 24 then 23 else na := ⟨_, rfl⟩
        have hmv : nI na - 0 = nI m := by rw [hm, if_neg g24, Int32.sub_zero]
        refine r_iconst hK d_M_keepPast_60 kc_0 ?_
        refine r_isub hK d_M_keepPast_61 ?_
        rw [hmv]
        refine p_M_undos hK lf_M_134 d_M_keepPast_62 hM (fun G62 hM f62 => ?_)
        have hF := hF.tr f62
        have hm2 : m ≤ 23 := by rw [hm]; split <;> omega
        refine r_aload_n hK d_M_keepPast_65 rfl ?_
        refine r_iconst hK d_M_keepPast_66 kc_0 ?_
        refine r_bipush hK d_M_keepPast_67 kb_36 ?_
        refine r_bipush hK d_M_keepPast_69 kb_36 ?_
        refine r_aload_n hK d_M_keepPast_71 rfl ?_
        refine r_get hK lf_M_134 d_M_keepPast_72 (hM.1) rfl ?_
        rw [upd_s]
        refine r_imul hK d_M_keepPast_75 ?_
        refine r_iadd hK d_M_keepPast_76 ?_
        rw [show (36 : Int32) + 36 * nI m = nI (36 + 36 * m) from ixm rfl rfl]
        refine r_v2 (k' := 1) hK lm_M_126 d_M_keepPast_77 ⟨_, hM.1⟩ (by decide) (Nat.le_of_ble_eq_true rfl) ?_
        refine c_M_copyTown (a := 0) hM (by omega) (by omega) (by omega) (fun G77 hM f77 => kc_n ?_)
        have hF := hF.tr f77
        refine r_aload_n hK d_M_keepPast_80 rfl ?_
        refine r_dup hK d_M_keepPast_81 rfl ?_
        refine r_get hK lf_M_134 d_M_keepPast_82 (hM.1) rfl ?_
        rw [upd_s]
        refine r_iconst hK d_M_keepPast_85 kc_1 ?_
        refine r_iadd hK d_M_keepPast_86 ?_
        rw [nI_1]
        refine p_M_undos hK lf_M_134 d_M_keepPast_87 hM (fun G87 hM f87 => ?_)
        have hF := hF.tr f87
        refine r_vret hK rfl rfl d_M_keepPast_90 ?_
        exact hQ _ _ _ hM (kp_MS hS hn hm k1 k2 rfl) hF
      · skip
        have g24 : na = 24 := (eqc (n := 24) (by decide) (by omega)).mp h53
        obtain ⟨m, hm⟩ : ∃ m, m = if na = 24 then 23 else na := ⟨_, rfl⟩
        have hmv : nI na - 1 = nI m := by rw [hm, if_pos g24, g24]; rfl
        refine r_iconst hK d_M_keepPast_56 kc_1 ?_
        refine r_goto (tgt := 61) hK d_M_keepPast_57 rfl ?_
        refine r_isub hK d_M_keepPast_61 ?_
        rw [hmv]
        refine p_M_undos hK lf_M_134 d_M_keepPast_62 hM (fun G62 hM f62 => ?_)
        have hF := hF.tr f62
        have hm2 : m ≤ 23 := by rw [hm]; split <;> omega
        refine r_aload_n hK d_M_keepPast_65 rfl ?_
        refine r_iconst hK d_M_keepPast_66 kc_0 ?_
        refine r_bipush hK d_M_keepPast_67 kb_36 ?_
        refine r_bipush hK d_M_keepPast_69 kb_36 ?_
        refine r_aload_n hK d_M_keepPast_71 rfl ?_
        refine r_get hK lf_M_134 d_M_keepPast_72 (hM.1) rfl ?_
        rw [upd_s]
        refine r_imul hK d_M_keepPast_75 ?_
        refine r_iadd hK d_M_keepPast_76 ?_
        rw [show (36 : Int32) + 36 * nI m = nI (36 + 36 * m) from ixm rfl rfl]
        refine r_v2 (k' := 1) hK lm_M_126 d_M_keepPast_77 ⟨_, hM.1⟩ (by decide) (Nat.le_of_ble_eq_true rfl) ?_
        refine c_M_copyTown (a := 0) hM (by omega) (by omega) (by omega) (fun G77 hM f77 => kc_n ?_)
        have hF := hF.tr f77
        refine r_aload_n hK d_M_keepPast_80 rfl ?_
        refine r_dup hK d_M_keepPast_81 rfl ?_
        refine r_get hK lf_M_134 d_M_keepPast_82 (hM.1) rfl ?_
        rw [upd_s]
        refine r_iconst hK d_M_keepPast_85 kc_1 ?_
        refine r_iadd hK d_M_keepPast_86 ?_
        rw [nI_1]
        refine p_M_undos hK lf_M_134 d_M_keepPast_87 hM (fun G87 hM f87 => ?_)
        have hF := hF.tr f87
        refine r_vret hK rfl rfl d_M_keepPast_90 ?_
        exact hQ _ _ _ hM (kp_MS hS hn hm k1 k2 rfl) hF
    · skip
      have h24 : na = 24 := (eqc (n := 24) (by decide) (by omega)).mp h15
      refine r_aload_n hK d_M_keepPast_18 rfl ?_
      refine r_get hK lf_M_7 d_M_keepPast_19 (hM.1) rfl ?_
      refine r_bipush hK d_M_keepPast_22 kb_36 ?_
      refine r_iload_n hK d_M_keepPast_24 rfl ?_
      refine r_iadd hK d_M_keepPast_25 ?_
      refine r_aload_n hK d_M_keepPast_26 rfl ?_
      refine r_get hK lf_M_7 d_M_keepPast_27 (hM.1) rfl ?_
      refine r_bipush hK d_M_keepPast_30 kb_72 ?_
      refine r_iload_n hK d_M_keepPast_32 rfl ?_
      refine r_iadd hK d_M_keepPast_33 ?_
      refine g_rw (j := 72 + j) hK d_M_keepPast_34 hM (ix0 (c := 72) rfl) (by omega) ?_
      refine s_rw (j := 36 + j) hK d_M_keepPast_35 hM (ix0 (c := 36) rfl) (by omega) (fun G35 hM f35 => ?_)
      have hF := hF.tr f35
      first | refine iN_1_2 hK d_M_keepPast_36 trivial ?_ | refine ii_1_1_2 hK d_M_keepPast_36 trivial ?_
      refine r_goto (tgt := 2) hK d_M_keepPast_39 rfl ?_
      exact ih hq _ (fun q => absurd h24 q) (by rw [← shW_s]; exact hM) hF
