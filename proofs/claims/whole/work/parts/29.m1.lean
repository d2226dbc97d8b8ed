theorem lg_lt {x y : Int64} : lg_cmp x y < 0 ↔ x < y := by
  unfold lg_cmp
  by_cases h : x > y
  · rw [if_pos h]
    constructor
    · intro q; exact absurd q (by decide)
    · intro q; exact absurd q (Int64.not_lt.mpr (Int64.le_of_lt h))
  · rw [if_neg h]
    by_cases e : x = y
    · rw [if_pos e, e]
      constructor
      · intro q; exact absurd q (by decide)
      · intro q; exact absurd q (by simp)
    · rw [if_neg e]
      constructor
      · intro _
        have h := Int64.not_lt.mp h
        exact Int64.lt_of_le_of_ne h e
      · intro _; decide
theorem lg_gt {x y : Int64} : 0 < lg_cmp x y ↔ y < x := by
  unfold lg_cmp
  by_cases h : x > y
  · rw [if_pos h]; exact ⟨fun _ => h, fun _ => by decide⟩
  · rw [if_neg h]
    by_cases e : x = y
    · rw [if_pos e]; exact ⟨fun q => absurd q (by decide), fun q => absurd q h⟩
    · rw [if_neg e]; exact ⟨fun q => absurd q (by decide), fun q => absurd q h⟩
theorem l_lt {x y : Int32} : x.toInt64 < y.toInt64 ↔ x < y := by
  rw [Int64.lt_iff_toInt_lt, Int32.toInt_toInt64, Int32.toInt_toInt64, i_lt]
theorem lcl {x a : Int32} {A : Int64} (hA : A = a.toInt64) : lg_cmp x.toInt64 A < 0 ↔ x < a := by rw [hA, lg_lt, l_lt]
theorem lcg {x a : Int32} {A : Int64} (hA : A = a.toInt64) : 0 < lg_cmp x.toInt64 A ↔ a < x := by rw [hA, lg_gt, l_lt]
def bitS (x : Int32) : Nat → Int32
  | 0 => 0
  | j + 1 => bitS x j + ((x >>> (nI j &&& 31)) &&& 1)
theorem l_add {x y s : Int32} : s.toInt64 < x.toInt64 + y.toInt64 ↔ s.toInt < x.toInt + y.toInt := by
  have e : (x.toInt64 + y.toInt64).toInt = x.toInt + y.toInt := by
    have h1 := x.toInt_lt; have h2 := x.le_toInt; have h3 := y.toInt_lt; have h4 := y.le_toInt
    rw [Int64.toInt_add, Int32.toInt_toInt64, Int32.toInt_toInt64]
    exact Int.bmod_eq_of_le (by omega) (by omega)
  rw [Int64.lt_iff_toInt_lt, e, Int32.toInt_toInt64]
theorem sp_no {z : Nat} {i n : Int32} (hz : z ≤ 40) (h : 0 < lg_cmp (i.toInt64 + n.toInt64) (nI z).toInt64) : ¬ hasP (nI z) i n = true := by
  intro hq
  have h := l_add.mp (lg_gt.mp h)
  have := (hasP_iff hz).mp hq
  rw [nI_toInt (by omega)] at h
  omega
theorem sp_yes {z : Nat} {i n : Int32} (hz : z ≤ 40) (h1 : ¬ i < 0) (h2 : ¬ n < 0) (h : ¬ 0 < lg_cmp (i.toInt64 + n.toInt64) (nI z).toInt64) : hasP (nI z) i n = true := by
  have h : ¬ (nI z).toInt < i.toInt + n.toInt := fun q => h (lg_gt.mpr (l_add.mpr q))
  rw [i_lt, ti_0] at h1 h2
  rw [nI_toInt (by omega)] at h
  exact (hasP_iff hz).mpr (by omega)
def cpT (w : Nat → Int32) (a b j : Nat) : Nat → Int32 := fun k => if b ≤ k ∧ k < b + j then w (a + (k - b)) else w k
theorem cpT_0 {w : Nat → Int32} {a b : Nat} : cpT w a b 0 = w := by
  funext k
  unfold cpT
  rw [if_neg (by omega)]
theorem cpT_36 {w : Nat → Int32} {a b : Nat} : cpT w a b 36 = putT w b (tw w a) := rfl
theorem cpT_s {w : Nat → Int32} {a b j : Nat} (h : a + 36 ≤ b ∨ b + 36 ≤ a) (hj : j < 36) : upd (cpT w a b j) (b + j) (cpT w a b j (a + j)) = cpT w a b (j + 1) := by
  funext k
  unfold upd cpT
  by_cases e : k = b + j
  · subst e
    rw [if_pos rfl, if_neg (by omega), if_pos (by omega), show a + (b + j - b) = a + j by omega]
  · rw [if_neg e]
    by_cases q : b ≤ k ∧ k < b + j
    · rw [if_pos q, if_pos (by omega)]
    · rw [if_neg q, if_neg (by omega)]
theorem c_M_in {E : gX} {S : Nat} {G : gG} {Q : Option Value → gG → Prop} {x a b : Int32} {A B : Int64} (hA : A = a.toInt64) (hB : B = b.toInt64) (hQ : Q (some (.int (bI (inB x a b)))) G) : Runs E y_M_in 1 0 S [.long x.toInt64, .long A, .long B] G Q := by
  refine Runs.of "ClockPostModel" [some (.long x.toInt64), none, some (.long A), none, some (.long B), none] cw_M_in (by decide) (by decide +kernel) rfl (Nat.le_of_ble_eq_true rfl) rfl (fun K hK => ?_)
  refine r_lload_n hK d_M_in_0 rfl ?_
  refine r_lload_n hK d_M_in_1 rfl ?_
  refine r_lcmp hK d_M_in_2 ?_
  refine r_if_lt (tgt := 17) hK d_M_in_3 rfl (fun h3 => ?_) (fun h3 => ?_)
  · skip
    have q1 : x < a := (lcl hA).mp h3
    refine r_iconst hK d_M_in_17 kc_0 ?_
    refine r_zret hK rfl (rfl) rfl d_M_in_18 ?_
    first | exact rc hQ (bI_f (by intro hq; clear hK hQ; simp only [inB, Bool.and_eq_true, decide_eq_true_eq, i_lt, i_le] at *; omega)) | exact rc hQ (bI_t (by
      have q1 : ¬ x < a := fun q => h3 ((lcl hA).mpr q)
      have q2 : ¬ b < x := fun q => h10 ((lcg hB).mpr q)
      clear hK hQ
      simp only [inB, Bool.and_eq_true, decide_eq_true_eq, i_lt, i_le] at *
      omega))
  · skip
    refine r_lload_n hK d_M_in_6 rfl ?_
    refine r_lload hK d_M_in_7 rfl ?_
    refine r_lcmp hK d_M_in_9 ?_
    refine r_if_gt (tgt := 17) hK d_M_in_10 rfl (fun h10 => ?_) (fun h10 => ?_)
    · skip
      have q2 : b < x := (lcg hB).mp h10
      refine r_iconst hK d_M_in_17 kc_0 ?_
      refine r_zret hK rfl (rfl) rfl d_M_in_18 ?_
      first | exact rc hQ (bI_f (by intro hq; clear hK hQ; simp only [inB, Bool.and_eq_true, decide_eq_true_eq, i_lt, i_le] at *; omega)) | exact rc hQ (bI_t (by
        have q1 : ¬ x < a := fun q => h3 ((lcl hA).mpr q)
        have q2 : ¬ b < x := fun q => h10 ((lcg hB).mpr q)
        clear hK hQ
        simp only [inB, Bool.and_eq_true, decide_eq_true_eq, i_lt, i_le] at *
        omega))
    · skip
      refine r_iconst hK d_M_in_13 kc_1 ?_
      refine r_goto (tgt := 18) hK d_M_in_14 rfl ?_
      refine r_zret hK rfl (rfl) rfl d_M_in_18 ?_
      first | exact rc hQ (bI_f (by intro hq; clear hK hQ; simp only [inB, Bool.and_eq_true, decide_eq_true_eq, i_lt, i_le] at *; omega)) | exact rc hQ (bI_t (by
        have q1 : ¬ x < a := fun q => h3 ((lcl hA).mpr q)
        have q2 : ¬ b < x := fun q => h10 ((lcg hB).mpr q)
        clear hK hQ
        simp only [inB, Bool.and_eq_true, decide_eq_true_eq, i_lt, i_le] at *
        omega))
theorem c_M_has {E : gX} {S : Nat} {G : gG} {Q : Option Value → gG → Prop} {x i : Int32} (hQ : Q (some (.int (bI (bitB x i)))) G) : Runs E y_M_has 1 0 S [.int x, .int i] G Q := by
  refine Runs.of "ClockPostModel" [some (.int x), some (.int i)] cw_M_has (by decide) (by decide +kernel) rfl (Nat.le_of_ble_eq_true rfl) rfl (fun K hK => ?_)
  refine r_iload_n hK d_M_has_0 rfl ?_
  refine r_iload_n hK d_M_has_1 rfl ?_
  refine r_ishr hK d_M_has_2 ?_
  refine r_iconst hK d_M_has_3 kc_1 ?_
  refine r_iand hK d_M_has_4 ?_
  refine r_iconst hK d_M_has_5 kc_1 ?_
  refine r_icmp_ne (tgt := 13) hK d_M_has_6 rfl (fun h6 => ?_) (fun h6 => ?_)
  · skip
    refine r_iconst hK d_M_has_13 kc_0 ?_
    refine r_zret hK rfl (rfl) rfl d_M_has_14 ?_
    first | exact rc hQ (bI_t (decide_eq_true h6)) | exact rc hQ (bI_f (fun q => h6 (of_decide_eq_true q)))
  · skip
    refine r_iconst hK d_M_has_9 kc_1 ?_
    refine r_goto (tgt := 14) hK d_M_has_10 rfl ?_
    refine r_zret hK rfl (rfl) rfl d_M_has_14 ?_
    first | exact rc hQ (bI_t (decide_eq_true h6)) | exact rc hQ (bI_f (fun q => h6 (of_decide_eq_true q)))
theorem c_M_bits {E : gX} {S : Nat} {G : gG} {Q : Option Value → gG → Prop} {x : Int32} (hQ : Q (some (.int (bitS x 6))) G) : Runs E y_M_bits 1 0 S [.int x] G Q := by
  refine Runs.of "ClockPostModel" [some (.int x), none, none] cw_M_bits (by decide) (by decide +kernel) rfl (Nat.le_of_ble_eq_true rfl) rfl (fun K hK => ?_)
  refine r_iconst hK d_M_bits_0 kc_0 ?_
  refine st_in_1_3 hK d_M_bits_1 trivial ?_
  refine r_iconst hK d_M_bits_2 kc_0 ?_
  refine st_in_2_3 hK d_M_bits_3 trivial ?_
  suffices L : ∀ j, j ≤ 6 → K 4 [some (.int x), some (.int (bitS x j)), some (.int (nI j))] [] S G from L 0 (Nat.zero_le _)
  refine lpN 6 (fun j hj ih => ?_)
  refine r_iload_n hK d_M_bits_4 rfl ?_
  refine r_bipush hK d_M_bits_5 kb_6 ?_
  refine r_icmp_ge (tgt := 24) hK d_M_bits_7 rfl (fun h7 => ?_) (fun h7 => ?_)
  · skip
    have hq : j = 6 := by have := (cle (n := 6) (by decide) (by omega)).mp h7; omega
    subst hq
    refine r_iload_n hK d_M_bits_24 rfl ?_
    refine r_iret hK rfl rfl d_M_bits_25 ?_
    exact hQ
  · skip
    have hq : j < 6 := Nat.not_le.mp (fun q => h7 ((cle (n := 6) (by decide) (by omega)).mpr q))
    refine r_iload_n hK d_M_bits_10 rfl ?_
    refine r_iload_n hK d_M_bits_11 rfl ?_
    refine r_iload_n hK d_M_bits_12 rfl ?_
    refine r_ishr hK d_M_bits_13 ?_
    refine r_iconst hK d_M_bits_14 kc_1 ?_
    refine r_iand hK d_M_bits_15 ?_
    refine r_iadd hK d_M_bits_16 ?_
    refine st_in_1_3 hK d_M_bits_17 trivial ?_
    first | refine iN_2_3 hK d_M_bits_18 trivial ?_ | refine ii_2_1_3 hK d_M_bits_18 trivial ?_
    refine r_goto (tgt := 4) hK d_M_bits_21 rfl ?_
    exact ih hq
theorem c_M_atMost {E : gX} {S : Nat} {G : gG} {Q : Option Value → gG → Prop} {x y : Int32} (hQ : Q (some (.int (if y < x then y else x))) G) : Runs E y_M_atMost 1 0 S [.int x, .int y] G Q := by
  refine Runs.of "ClockPostModel" [some (.int x), some (.int y)] cw_M_atMost (by decide) (by decide +kernel) rfl (Nat.le_of_ble_eq_true rfl) rfl (fun K hK => ?_)
  refine r_iload_n hK d_M_atMost_0 rfl ?_
  refine r_iload_n hK d_M_atMost_1 rfl ?_
  refine r_icmp_le (tgt := 9) hK d_M_atMost_2 rfl (fun h2 => ?_) (fun h2 => ?_)
  · skip
    refine r_iload_n hK d_M_atMost_9 rfl ?_
    refine r_iret hK rfl rfl d_M_atMost_10 ?_
    first | (rw [if_pos (Int32.not_le.mp h2)] at hQ; exact hQ) | (rw [if_neg (Int32.not_lt.mpr h2)] at hQ; exact hQ)
  · skip
    refine r_iload_n hK d_M_atMost_5 rfl ?_
    refine r_goto (tgt := 10) hK d_M_atMost_6 rfl ?_
    refine r_iret hK rfl rfl d_M_atMost_10 ?_
    first | (rw [if_pos (Int32.not_le.mp h2)] at hQ; exact hQ) | (rw [if_neg (Int32.not_lt.mpr h2)] at hQ; exact hQ)
theorem c_M_find {E : gX} {S : Nat} {G : gG} {Q : Option Value → gG → Prop} {c : Nat} {f w : Nat → Int32} {A : Nat → Nat → Int32} (hM : MV G c f w A) {x : Int32} (hQ : ∀ G' : gG, MV G' c (upd f 10 x) w A → Frm G G' c 10 → Q (some (.int (-1000010 - x))) G') : Runs E y_M_find 1 0 S [.ref c, .int x] G Q := by
  refine Runs.of "ClockPostModel" [some (.ref c), some (.int x)] cw_M_find (by decide) (by decide +kernel) rfl (Nat.le_of_ble_eq_true rfl) rfl (fun K hK => ?_)
  refine r_aload_n hK d_M_find_0 rfl ?_
  refine r_iload_n hK d_M_find_1 rfl ?_
  refine p_M_status hK lf_M_38 d_M_find_2 hM (fun G2 hM f2 => ?_)
  refine r_ldc hK d_M_find_5 lc_M_42 ?_
  refine r_iload_n hK d_M_find_7 rfl ?_
  refine r_isub hK d_M_find_8 ?_
  refine r_iret hK rfl rfl d_M_find_9 ?_
  exact hQ _ hM f2
theorem c_M_well {E : gX} {S : Nat} {G : gG} {Q : Option Value → gG → Prop} {c : Nat} {f w : Nat → Int32} {A : Nat → Nat → Int32} (hM : MV G c f w A) {x : Int32} (hQ : ∀ G' : gG, MV G' c (upd f 10 0) w A → Frm G G' c 10 → Q (some (.int x)) G') : Runs E y_M_well 1 0 S [.ref c, .int x] G Q := by
  refine Runs.of "ClockPostModel" [some (.ref c), some (.int x)] cw_M_well (by decide) (by decide +kernel) rfl (Nat.le_of_ble_eq_true rfl) rfl (fun K hK => ?_)
  refine r_aload_n hK d_M_well_0 rfl ?_
  refine r_iconst hK d_M_well_1 kc_0 ?_
  refine p_M_status hK lf_M_38 d_M_well_2 hM (fun G2 hM f2 => ?_)
  refine r_iload_n hK d_M_well_5 rfl ?_
  refine r_iret hK rfl rfl d_M_well_6 ?_
  exact hQ _ hM f2
theorem c_M_isRow {E : gX} {S : Nat} {G : gG} {Q : Option Value → gG → Prop} {x : Int32} (hQ : Q (some (.int (bI (inB x 0 7)))) G) : Runs E y_M_isRow 2 0 S [.int x] G Q := by
  refine Runs.of "ClockPostModel" [some (.int x)] cw_M_isRow (by decide) (by decide +kernel) rfl (Nat.le_of_ble_eq_true rfl) rfl (fun K hK => ?_)
  refine r_iload_n hK d_M_isRow_0 rfl ?_
  refine r_i2l hK d_M_isRow_1 ?_
  refine r_lconst (v := 0) hK d_M_isRow_2 rfl ?_
  refine r_ldc2 hK d_M_isRow_3 lc_M_43 ?_
  refine r_s3 (k' := 1) hK lm_M_45 d_M_isRow_6 (by decide) (Nat.le_of_ble_eq_true rfl) ?_
  refine c_M_in (a := 0) (b := 7) (by decide) (by decide) (kc_s ?_)
  refine r_zret hK rfl (bI_nar _) rfl d_M_isRow_9 ?_
  exact hQ
theorem c_M_narrow {E : gX} {S : Nat} {G : gG} {Q : Option Value → gG → Prop} {x l : Int32} (hQ : Q (some (.int (cutV l x))) G) : Runs E y_M_narrow 1 0 S [.int x, .int l] G Q := by
  refine Runs.of "ClockPostModel" [some (.int x), some (.int l)] cw_M_narrow (by decide) (by decide +kernel) rfl (Nat.le_of_ble_eq_true rfl) rfl (fun K hK => ?_)
  refine r_iload_n hK d_M_narrow_0 rfl ?_
  refine r_if_ne (tgt := 9) hK d_M_narrow_1 rfl (fun h1 => ?_) (fun h1 => ?_)
  · skip
    refine r_iload_n hK d_M_narrow_9 rfl ?_
    refine r_iconst hK d_M_narrow_10 kc_1 ?_
    refine r_icmp_ne (tgt := 19) hK d_M_narrow_11 rfl (fun h11 => ?_) (fun h11 => ?_)
    · skip
      refine r_iload_n hK d_M_narrow_19 rfl ?_
      refine r_iret hK rfl rfl d_M_narrow_20 ?_
      first | (refine rc hQ ?_; simp [cutV, hl]; done) | (refine rc hQ ?_; simp [cutV, h1, h11])
    · skip
      have hl : l = 1 := h11
      refine r_iload_n hK d_M_narrow_14 rfl ?_
      refine r_i2s hK d_M_narrow_15 ?_
      refine r_goto (tgt := 20) hK d_M_narrow_16 rfl ?_
      refine r_iret hK rfl rfl d_M_narrow_20 ?_
      first | (refine rc hQ ?_; simp [cutV, hl]; done) | (refine rc hQ ?_; simp [cutV, h1, h11])
  · skip
    have hl : l = 0 := h1
    refine r_iload_n hK d_M_narrow_4 rfl ?_
    refine r_i2b hK d_M_narrow_5 ?_
    refine r_goto (tgt := 20) hK d_M_narrow_6 rfl ?_
    refine r_iret hK rfl rfl d_M_narrow_20 ?_
    first | (refine rc hQ ?_; simp [cutV, hl]; done) | (refine rc hQ ?_; simp [cutV, h1, h11])
theorem c_M_isSpan {E : gX} {S : Nat} {G : gG} {Q : Option Value → gG → Prop} {c : Nat} {f w : Nat → Int32} {A : Nat → Nat → Int32} (hM : MV G c f w A) {r : Nat} {i n : Int32} {z : Nat} (hr : r < 8) (hs : A 4 r = nI z) (hz : z ≤ 40) (hQ : Q (some (.int (bI (hasP (nI z) i n)))) G) : Runs E y_M_isSpan 1 0 S [.ref c, .int (nI r), .int i, .int n] G Q := by
  refine Runs.of "ClockPostModel" [some (.ref c), some (.int (nI r)), some (.int i), some (.int n)] cw_M_isSpan (by decide) (by decide +kernel) rfl (Nat.le_of_ble_eq_true rfl) rfl (fun K hK => ?_)
  refine r_iload_n hK d_M_isSpan_0 rfl ?_
  refine r_if_lt (tgt := 28) hK d_M_isSpan_1 rfl (fun h1 => ?_) (fun h1 => ?_)
  · skip
    refine r_iconst hK d_M_isSpan_28 kc_0 ?_
    refine r_zret hK rfl (rfl) rfl d_M_isSpan_29 ?_
    first | exact rc hQ (bI_f (by intro hq; have := (hasP_iff hz).mp hq; clear hK hQ; simp only [i_lt, i_le, ti_0] at *; omega)) | exact rc hQ (bI_f (sp_no hz h21)) | exact rc hQ (bI_t (sp_yes hz h1 h5 h21))
  · skip
    refine r_iload_n hK d_M_isSpan_4 rfl ?_
    refine r_if_lt (tgt := 28) hK d_M_isSpan_5 rfl (fun h5 => ?_) (fun h5 => ?_)
    · skip
      refine r_iconst hK d_M_isSpan_28 kc_0 ?_
      refine r_zret hK rfl (rfl) rfl d_M_isSpan_29 ?_
      first | exact rc hQ (bI_f (by intro hq; have := (hasP_iff hz).mp hq; clear hK hQ; simp only [i_lt, i_le, ti_0] at *; omega)) | exact rc hQ (bI_f (sp_no hz h21)) | exact rc hQ (bI_t (sp_yes hz h1 h5 h21))
    · skip
      refine r_iload_n hK d_M_isSpan_8 rfl ?_
      refine r_i2l hK d_M_isSpan_9 ?_
      refine r_iload_n hK d_M_isSpan_10 rfl ?_
      refine r_i2l hK d_M_isSpan_11 ?_
      refine r_ladd hK d_M_isSpan_12 ?_
      refine r_aload_n hK d_M_isSpan_13 rfl ?_
      refine r_get hK lf_M_20 d_M_isSpan_14 (hM.1) rfl ?_
      refine r_iload_n hK d_M_isSpan_17 rfl ?_
      refine g_a4 (j := r) hK d_M_isSpan_18 hM (rfl) (by omega) ?_
      rw [hs]
      refine r_i2l hK d_M_isSpan_19 ?_
      refine r_lcmp hK d_M_isSpan_20 ?_
      refine r_if_gt (tgt := 28) hK d_M_isSpan_21 rfl (fun h21 => ?_) (fun h21 => ?_)
      · skip
        refine r_iconst hK d_M_isSpan_28 kc_0 ?_
        refine r_zret hK rfl (rfl) rfl d_M_isSpan_29 ?_
        first | exact rc hQ (bI_f (by intro hq; have := (hasP_iff hz).mp hq; clear hK hQ; simp only [i_lt, i_le, ti_0] at *; omega)) | exact rc hQ (bI_f (sp_no hz h21)) | exact rc hQ (bI_t (sp_yes hz h1 h5 h21))
      · skip
        refine r_iconst hK d_M_isSpan_24 kc_1 ?_
        refine r_goto (tgt := 29) hK d_M_isSpan_25 rfl ?_
        refine r_zret hK rfl (rfl) rfl d_M_isSpan_29 ?_
        first | exact rc hQ (bI_f (by intro hq; have := (hasP_iff hz).mp hq; clear hK hQ; simp only [i_lt, i_le, ti_0] at *; omega)) | exact rc hQ (bI_f (sp_no hz h21)) | exact rc hQ (bI_t (sp_yes hz h1 h5 h21))
theorem c_M_copyTown {E : gX} {S : Nat} {G : gG} {Q : Option Value → gG → Prop} {c a b : Nat} {f w : Nat → Int32} {A : Nat → Nat → Int32} (hM : MV G c f w A) (ha : a ≤ 972) (hb : b ≤ 972) (hab : a + 36 ≤ b ∨ b + 36 ≤ a) (hQ : ∀ G' : gG, MV G' c f (putT w b (tw w a)) A → Frm G G' c 10 → Q none G') : Runs E y_M_copyTown 1 0 S [.ref c, .int (nI a), .int (nI b)] G Q := by
  refine Runs.of "ClockPostModel" [some (.ref c), some (.int (nI a)), some (.int (nI b)), none] cw_M_copyTown (by decide) (by decide +kernel) rfl (Nat.le_of_ble_eq_true rfl) rfl (fun K hK => ?_)
  refine r_iconst hK d_M_copyTown_0 kc_0 ?_
  refine st_in_3_4 hK d_M_copyTown_1 trivial ?_
  suffices L : ∀ j, j ≤ 36 → ∀ G1 : gG, MV G1 c f (cpT w a b j) A → Frm G G1 c 10 → K 2 [some (.ref c), some (.int (nI a)), some (.int (nI b)), some (.int (nI j))] [] S G1 from L 0 (Nat.zero_le _) G (by rw [cpT_0]; exact hM) Frm.rf
  refine lpN 36 (fun j hj ih G1 hM hF => ?_)
  refine r_iload_n hK d_M_copyTown_2 rfl ?_
  refine r_bipush hK d_M_copyTown_3 kb_36 ?_
  refine r_icmp_ge (tgt := 30) hK d_M_copyTown_5 rfl (fun h5 => ?_) (fun h5 => ?_)
  · skip
    have hq : j = 36 := by have := (cle (n := 36) (by decide) (by omega)).mp h5; omega
    subst hq
    refine r_vret hK rfl rfl d_M_copyTown_30 ?_
    exact hQ _ (by rw [← cpT_36]; exact hM) hF
  · skip
    have hq : j < 36 := Nat.not_le.mp (fun q => h5 ((cle (n := 36) (by decide) (by omega)).mpr q))
    refine r_aload_n hK d_M_copyTown_8 rfl ?_
    refine r_get hK lf_M_7 d_M_copyTown_9 (hM.1) rfl ?_
    refine r_iload_n hK d_M_copyTown_12 rfl ?_
    refine r_iload_n hK d_M_copyTown_13 rfl ?_
    refine r_iadd hK d_M_copyTown_14 ?_
    refine r_aload_n hK d_M_copyTown_15 rfl ?_
    refine r_get hK lf_M_7 d_M_copyTown_16 (hM.1) rfl ?_
    refine r_iload_n hK d_M_copyTown_19 rfl ?_
    refine r_iload_n hK d_M_copyTown_20 rfl ?_
    refine r_iadd hK d_M_copyTown_21 ?_
    refine g_rw (j := a + j) hK d_M_copyTown_22 hM (nI_add _ _) (by omega) ?_
    refine s_rw (j := b + j) hK d_M_copyTown_23 hM (nI_add _ _) (by omega) (fun G23 hM f23 => ?_)
    have hF := hF.tr f23
    first | refine iN_3_4 hK d_M_copyTown_24 trivial ?_ | refine ii_3_1_4 hK d_M_copyTown_24 trivial ?_
    refine r_goto (tgt := 2) hK d_M_copyTown_27 rfl ?_
    exact ih hq _ (by rw [← cpT_s hab hq]; exact hM) hF
