def Vk (v : Nat → Int32) (n : Nat) : Prop := n ≤ 6 ∧ v 0 = nI n ∧ (∃ b : Nat, b < 2 ^ n ∧ v 3 = nI b) ∧ ∀ j, j < n → (((v (12 + j)).toInt ≤ 9 ∧ 0 ≤ (v (12 + j)).toInt) ∧ ((v (6 + j)).toInt ≤ 5 ∧ 1 ≤ (v (6 + j)).toInt)) ∧ ((v (18 + j)).toInt ≤ 9 ∧ 0 ≤ (v (18 + j)).toInt) ∧ ((v (30 + j)).toInt ≤ 99 ∧ 0 ≤ (v (30 + j)).toInt)
theorem Vk.nN {v : Nat → Int32} {n : Nat} (h : Vk v n) : nN (v 0) = n := by rw [h.2.1]; have := h.1; exact nN_nI (by omega)
theorem Vk.b {v : Nat → Int32} {n j : Nat} (h : Vk v n) (hj : j < n) : behB v (nI j) = bitB (v 3) (nI j) := by
  unfold behB
  rw [hasL_nI (by rw [h.nN]; exact hj), Bool.true_and]
theorem bits_e : ∀ b, b < 64 → bitS (nI b) 6 = bitc (nI b) := by decide +kernel
theorem Vk.b64 {v : Nat → Int32} {n : Nat} (h : Vk v n) : ∃ b : Nat, b < 2 ^ n ∧ b < 64 ∧ v 3 = nI b := by
  obtain ⟨h6, -, ⟨b, hb, e⟩, -⟩ := h
  refine ⟨b, hb, ?_, e⟩
  have : 2 ^ n ≤ 2 ^ 6 := Nat.pow_le_pow_right (by omega) h6
  omega
theorem Vk.bits {v : Nat → Int32} {n : Nat} (h : Vk v n) : bitS (v 3) 6 = bitc (v 3) := by
  obtain ⟨b, -, hb, e⟩ := h.b64
  rw [e]
  exact bits_e b hb
theorem a_s1 (x y : Int32) : x + y - 1 = x + (y - 1) := by rw [Int32.sub_eq_add_neg, Int32.sub_eq_add_neg, Int32.add_assoc]
theorem mn9_e (x : Int32) : (if 9999 < x then 9999 else x) = mn9 x := by
  unfold mn9
  by_cases h : x < 9999
  · rw [if_pos h, if_neg (by rw [i_lt, ti_9999] at *; omega)]
  · rw [if_neg h]
    by_cases q : 9999 < x
    · rw [if_pos q]
    · rw [if_neg q]
      rw [i_lt, ti_9999] at *
      exact toI (by rw [ti_9999]; omega)
theorem fAh_m {v : Nat → Int32} {n j k : Nat} (h : Vk v n) (hj : j < n) (hk : k < n) : (0 < v (18 + j) - v (18 + k) ↔ v (18 + k) < v (18 + j)) ∧ (v (18 + j) - v (18 + k) = 0 ↔ v (18 + j) = v (18 + k)) := by
  have a := (h.2.2.2 j hj).2.1
  have b := (h.2.2.2 k hk).2.1
  have e := sub_toI (a := v (18 + j)) (b := v (18 + k)) (by omega)
  constructor
  · rw [i_lt, e, i_lt, ti_0]; omega
  · rw [i_eq, e, i_eq, ti_0]; omega
def nxt (v : Nat → Int32) (n : Nat) : Option Nat := if v 1 < thck v then ntf v n else none
theorem Vk.th {v : Nat → Int32} {n : Nat} (h : Vk v n) : thck v = tSum v n := by unfold thck; rw [h.nN]
theorem Vk.wg {v : Nat → Int32} {n : Nat} (h : Vk v n) : wght v = wSum v n := by unfold wght; rw [h.nN]
theorem bit01 : ∀ b, b < 64 → ∀ j, j < 6 → (nI b >>> (nI j &&& 31)) &&& 1 = if bitB (nI b) (nI j) then 1 else 0 := by decide +kernel
theorem bitA : ∀ b, b < 64 → ∀ k, k < 6 → ∃ b', b' ≤ b ∧ b' < 64 ∧ nI b &&& ((1 <<< (nI k &&& 31)) ^^^ (-1)) = nI b' ∧ ∀ j, j < 6 → bitB (nI b') (nI j) = (bitB (nI b) (nI j) && decide (j ≠ k)) := by
  intro b hb k hk
  refine ⟨(nI b &&& ((1 <<< (nI k &&& 31)) ^^^ (-1))).toInt.toNat, ?_⟩
  revert b k
  decide +kernel
theorem Vk.away {v : Nat → Int32} {n k : Nat} {g : Int32} (h : Vk v n) (hk : k < n) : Vk (awayV v (nI k) g) n ∧ ∀ j, j < n → behB (awayV v (nI k) g) (nI j) = (behB v (nI j) && decide (j ≠ k)) := by
  obtain ⟨b, hb, hb6, e⟩ := h.b64
  have h6 := h.1
  obtain ⟨b', l1, l2, l3, l4⟩ := bitA b hb6 k (by omega)
  have e3 : awayV v (nI k) g 3 = nI b' := by
    unfold awayV
    rw [upd_n (by omega), upd_s, e, l3]
  have q : ∀ i, i ≠ 3 → i ≠ 5 → awayV v (nI k) g i = v i := fun i h1 h2 => by
    unfold awayV
    rw [upd_n h2, upd_n h1]
  have hV : Vk (awayV v (nI k) g) n := ⟨h.1, by rw [q 0 (by omega) (by omega)]; exact h.2.1, ⟨b', by omega, e3⟩, fun j hj => by
    rw [q (12 + j) (by omega) (by omega), q (6 + j) (by omega) (by omega), q (18 + j) (by omega) (by omega), q (30 + j) (by omega) (by omega)]
    exact h.2.2.2 j hj⟩
  refine ⟨hV, fun j hj => ?_⟩
  rw [hV.b hj, h.b hj, e3, e]
  exact l4 j (by omega)
def cnB (v : Nat → Int32) : Nat → Nat
  | 0 => 0
  | j + 1 => cnB v j + if behB v (nI j) = true then 1 else 0
theorem cnB_le {v : Nat → Int32} : ∀ j, cnB v j ≤ j
  | 0 => Nat.le_refl _
  | j + 1 => by
    have := cnB_le (v := v) j
    show cnB v j + (if behB v (nI j) = true then 1 else 0) ≤ j + 1
    split <;> omega
theorem cnB_pos {v : Nat → Int32} {k : Nat} (hb : behB v (nI k) = true) : ∀ j, k < j → 1 ≤ cnB v j
  | 0, h => by omega
  | j + 1, h => by
    show 1 ≤ cnB v j + (if behB v (nI j) = true then 1 else 0)
    by_cases e : k = j
    · subst e; rw [if_pos hb]; omega
    · have := cnB_pos hb j (by omega)
      omega
theorem cnB_aw {u v : Nat → Int32} {n k : Nat} (hb : behB v (nI k) = true) (h : ∀ j, j < n → behB u (nI j) = (behB v (nI j) && decide (j ≠ k))) : ∀ j, j ≤ n → cnB u j + (if k < j then 1 else 0) = cnB v j
  | 0, _ => by simp [cnB]
  | j + 1, hj => by
    have ih := cnB_aw hb h j (by omega)
    show cnB u j + (if behB u (nI j) = true then 1 else 0) + _ = cnB v j + (if behB v (nI j) = true then 1 else 0)
    rw [h j (by omega)]
    by_cases e : j = k
    · subst e
      rw [hb]
      simp at ih ⊢
      omega
    · have e1 : (decide (j ≠ k)) = true := by simp [e]
      have e2 : (if k < j + 1 then 1 else 0) = (if k < j then 1 else 0 : Nat) := by
        by_cases q : k < j
        · rw [if_pos q, if_pos (by omega)]
        · rw [if_neg q, if_neg (by omega)]
      rw [e1, Bool.and_true, e2, ← ih]
      omega
theorem nxt_lt {v : Nat → Int32} {n k : Nat} (h : nxt v n = some k) : k < n ∧ behB v (nI k) = true ∧ v 1 < thck v ∧ ntf v n = some k := by
  unfold nxt at h
  split at h
  · rename_i q
    exact ⟨(ntf_lt h).1, (ntf_lt h).2, q, h⟩
  · cases h
theorem fallV_no {n : Nat} : ∀ (m : Nat) (v : Nat → Int32) (f : Option Nat), nN (v 0) = n → nxt v n = none → fallV m v f = (v, f)
  | 0, _, _, _, _ => rfl
  | m + 1, v, f, hn, h => by
    unfold fallV
    unfold nxt at h
    by_cases q : v 1 < thck v
    · rw [if_pos q] at h ⊢
      rw [hn, h]
      exact fallV_no m v f hn (by unfold nxt; rw [if_pos q]; exact h)
    · rw [if_neg q]
theorem fallV_go {n m k : Nat} {v : Nat → Int32} {f : Option Nat} (hn : nN (v 0) = n) (h : nxt v n = some k) : fallV (m + 1) v f = fallV m (awayV v (nI k) (v (24 + k))) (if f = none then some k else f) := by
  have h4 := nxt_lt h
  rw [fallV, if_pos h4.2.2.1, hn, h4.2.2.2]
theorem fallV_2 : ∀ (m : Nat) (v : Nat → Int32) (k : Nat), (fallV m v (some k)).2 = some k
  | 0, _, _ => rfl
  | m + 1, v, k => by
    unfold fallV
    by_cases q : v 1 < thck v
    · rw [if_pos q]
      cases ntf v (nN (v 0)) with
      | none => exact fallV_2 m v k
      | some j => simp only [reduceCtorEq, if_false]; exact fallV_2 m _ k
    · rw [if_neg q]
theorem fallV_f {n m : Nat} {v : Nat → Int32} (hV : Vk v n) (hc : cnB v n ≤ m) : (fallV m v none).2 = nxt v n := by
  cases h : nxt v n with
  | none => rw [fallV_no m v none hV.nN h]
  | some k =>
    have h4 := nxt_lt h
    have := cnB_pos h4.2.1 n h4.1
    obtain ⟨q, rfl⟩ : ∃ q, m = q + 1 := ⟨m - 1, by omega⟩
    rw [fallV_go hV.nN h, if_pos rfl]
    exact fallV_2 _ _ _
theorem indN {P : Nat → Prop} (h : ∀ m, (∀ q, q + 1 = m → P q) → P m) : ∀ m, P m
  | 0 => h 0 (fun q e => absurd e (by omega))
  | m + 1 => h (m + 1) (fun q e => by cases e; exact indN h m)
theorem mn99_e (x : Int32) : (if 99 < x then 99 else x) = mn99 x := by
  unfold mn99
  by_cases h : x < 99
  · rw [if_pos h, if_neg (by rw [i_lt, ti_99] at *; omega)]
  · rw [if_neg h]
    by_cases q : 99 < x
    · rw [if_pos q]
    · rw [if_neg q]
      rw [i_lt, ti_99] at *
      exact toI (by rw [ti_99]; omega)
theorem Vk.sum {v : Nat → Int32} {n : Nat} (h : Vk v n) : Vk (sumV v) n := by
  refine ⟨h.1, ?_, ?_, fun j hj => ?_⟩ <;> unfold sumV
  · rw [upd_n (by omega)]; exact h.2.1
  · rw [upd_n (by omega)]; exact h.2.2.1
  · rw [upd_n (by omega), upd_n (by omega), upd_n (by omega), upd_n (by omega)]; exact h.2.2.2 j hj
theorem age_st {u : Nat → Int32} {n j : Nat} (h : Vk u n) (hj : j < n) : ∀ k, k < 36 → upd (ageV u j) (30 + j) (mn99 (ageV u j (30 + j) + ((ageV u j 3 >>> (nI j &&& 31)) &&& 1))) k = ageV u (j + 1) k := by
  obtain ⟨b, -, hb6, e⟩ := h.b64
  have h6 := h.1
  rw [ageV_at, ageV_n (k := 3) (by omega), e, bit01 b hb6 j (by omega), ← e, ← h.b hj]
  intro k hk
  by_cases hq : behB u (nI j) = true
  · rw [if_pos hq]
    exact ageV_t hq k hk
  · rw [if_neg hq, ← ageV_f hq k hk]
    have a := (h.2.2.2 j hj).2.2
    by_cases q : k = 30 + j
    · subst q
      rw [upd_s, ageV_at, Int32.add_zero]
      unfold mn99
      split
      · rfl
      · rename_i z
        rw [i_lt, ti_99] at z
        exact toI (by rw [ti_99]; omega)
    · rw [upd_n q]
theorem mn99_b {x : Int32} (h : 0 ≤ x.toInt ∧ x.toInt ≤ 99) : (mn99 (x + 1)).toInt ≤ 99 ∧ 0 ≤ (mn99 (x + 1)).toInt := by
  have e : (x + 1).toInt = x.toInt + 1 := by rw [Int32.toInt_add, ti_1]; exact Int.bmod_eq_of_le (by omega) (by omega)
  unfold mn99
  split
  · rename_i z
    rw [i_lt, ti_99] at z
    omega
  · rw [ti_99]; omega
theorem Vk.day {v : Nat → Int32} {n : Nat} (h : Vk v n) : Vk (dayV v) n := by
  have hs := h.sum
  have q : ∀ k, k < 30 → k ≠ 2 → dayV v k = sumV v k := fun k h1 h2 => by
    unfold dayV
    rw [upd_n h2, ageV_n h1]
  refine ⟨h.1, by rw [q 0 (by omega) (by omega)]; exact hs.2.1, by rw [q 3 (by omega) (by omega)]; exact hs.2.2.1, fun j hj => ?_⟩
  have h6 := h.1
  have := hs.2.2.2 j hj
  rw [q (12 + j) (by omega) (by omega), q (6 + j) (by omega) (by omega), q (18 + j) (by omega) (by omega)]
  refine ⟨this.1, this.2.1, ?_⟩
  unfold dayV
  rw [upd_n (by omega)]
  unfold ageV
  split
  · exact mn99_b ⟨this.2.2.2, this.2.2.1⟩
  · exact this.2.2
theorem Vk.fall {n : Nat} : ∀ (m : Nat) (v : Nat → Int32) (f : Option Nat), Vk v n → Vk (fallV m v f).1 n
  | 0, _, _, h => h
  | m + 1, v, f, h => by
    cases hx : nxt v n with
    | none => rw [fallV_no _ v f h.nN hx]; exact h
    | some k =>
      rw [fallV_go h.nN hx]
      exact Vk.fall m _ _ (h.away (nxt_lt hx).1).1
theorem Vk.pass {v : Nat → Int32} {n : Nat} (h : Vk v n) : Vk (passV v).1 n := Vk.fall _ _ _ h.day
theorem psN_s : ∀ (j : Nat) (v : Nat → Int32), psN (j + 1) v = (passV (psN j v)).1
  | 0, _ => rfl
  | j + 1, v => psN_s j (passV v).1
theorem Vk.ps {n : Nat} : ∀ (j : Nat) (v : Nat → Int32), Vk v n → Vk (psN j v) n
  | 0, _, h => h
  | j + 1, v, h => Vk.ps j _ h.pass
theorem c_M_weighs {E : gX} {S : Nat} {G : gG} {Q : Option Value → gG → Prop} {c B n : Nat} {f w v : Nat → Int32} {A : Nat → Nat → Int32} (hM : MV G c f (putT w B v) A) (hB : B ≤ 972) (hV : Vk v n) {j : Nat} (hj : j < n) (hQ : Q (some (.int (wOf v j))) G) : Runs E y_M_weighs 2 0 S [.ref c, .int (nI B), .int (nI j)] G Q := by
  refine Runs.of "ClockPostModel" [some (.ref c), some (.int (nI B)), some (.int (nI j)), none] cw_M_weighs (by decide) (by decide +kernel) rfl (Nat.le_of_ble_eq_true rfl) rfl (fun K hK => ?_)
  have h6 := hV.1
  have h0 := hV.2.1
  refine r_aload_n hK d_M_weighs_0 rfl ?_
  refine r_get hK lf_M_7 d_M_weighs_1 (hM.1) rfl ?_
  refine r_iload_n hK d_M_weighs_4 rfl ?_
  refine r_iconst hK d_M_weighs_5 kc_3 ?_
  refine r_iadd hK d_M_weighs_6 ?_
  refine g_tw (B := B) (j := 3) hK d_M_weighs_7 hM (ix1 (c := 3) rfl) (by omega) (by omega) ?_
  refine r_iload_n hK d_M_weighs_8 rfl ?_
  refine r_s2 (k' := 1) hK lm_M_138 d_M_weighs_9 (by decide) (Nat.le_of_ble_eq_true rfl) ?_
  refine c_M_has (kc_s ?_)
  refine r_if_ne (tgt := 17) hK d_M_weighs_12 rfl (fun h12 => ?_) (fun h12 => ?_)
  · skip
    have hb : behB v (nI j) = true := by rw [hV.b hj]; exact bI_n0.mp h12
    unfold wOf at hQ
    rw [if_pos hb] at hQ
    refine r_aload_n hK d_M_weighs_17 rfl ?_
    refine r_get hK lf_M_7 d_M_weighs_18 (hM.1) rfl ?_
    refine r_iload_n hK d_M_weighs_21 rfl ?_
    refine r_bipush hK d_M_weighs_22 kb_12 ?_
    refine r_iadd hK d_M_weighs_24 ?_
    refine r_iload_n hK d_M_weighs_25 rfl ?_
    refine r_iadd hK d_M_weighs_26 ?_
    refine g_tw (B := B) (j := 12 + j) hK d_M_weighs_27 hM (ix2 (c := 12) rfl) (by omega) (by omega) ?_
    refine r_aload_n hK d_M_weighs_28 rfl ?_
    refine r_get hK lf_M_7 d_M_weighs_29 (hM.1) rfl ?_
    refine r_iload_n hK d_M_weighs_32 rfl ?_
    refine r_bipush hK d_M_weighs_33 kb_30 ?_
    refine r_iadd hK d_M_weighs_35 ?_
    refine r_iload_n hK d_M_weighs_36 rfl ?_
    refine r_iadd hK d_M_weighs_37 ?_
    refine g_tw (B := B) (j := 30 + j) hK d_M_weighs_38 hM (ix2 (c := 30) rfl) (by omega) (by omega) ?_
    refine r_iadd hK d_M_weighs_39 ?_
    refine st_in_3_4 hK d_M_weighs_40 trivial ?_
    refine r_aload_n hK d_M_weighs_41 rfl ?_
    refine r_get hK lf_M_7 d_M_weighs_42 (hM.1) rfl ?_
    refine r_iload_n hK d_M_weighs_45 rfl ?_
    refine r_bipush hK d_M_weighs_46 kb_6 ?_
    refine r_iadd hK d_M_weighs_48 ?_
    refine r_iload_n hK d_M_weighs_49 rfl ?_
    refine r_iadd hK d_M_weighs_50 ?_
    refine g_tw (B := B) (j := 6 + j) hK d_M_weighs_51 hM (ix2 (c := 6) rfl) (by omega) (by omega) ?_
    refine r_table (td := 148) hK d_M_weighs_52 (by decide +kernel) rfl (fun h52 => ?_) ⟨fun h52 => ?_, fun h52 => ?_, fun h52 => ?_, fun h52 => ?_, trivial⟩
    · skip
      have hw2 : ¬ v (6 + j) = 2 := fun q => by rw [q] at h52; revert h52; decide
      have hw3 : ¬ v (6 + j) = 3 := fun q => by rw [q] at h52; revert h52; decide
      have hw4 : ¬ v (6 + j) = 4 := fun q => by rw [q] at h52; revert h52; decide
      have hw5 : ¬ v (6 + j) = 5 := fun q => by rw [q] at h52; revert h52; decide
      refine r_iload_n hK d_M_weighs_148 rfl ?_
      refine r_iret hK rfl rfl d_M_weighs_149 ?_
      exact rc hQ (by simp [wgh, hw2, hw3, hw4, hw5])
    · skip
      show K 84 _ _ _ _
      have hw : v (6 + j) = 2 := toI h52
      refine r_iconst hK d_M_weighs_84 kc_2 ?_
      refine r_iload_n hK d_M_weighs_85 rfl ?_
      refine r_imul hK d_M_weighs_86 ?_
      refine r_iret hK rfl rfl d_M_weighs_87 ?_
      exact rc hQ (by simp [wgh, hw])
    · skip
      show K 88 _ _ _ _
      have hw : v (6 + j) = 3 := toI h52
      refine r_aload_n hK d_M_weighs_88 rfl ?_
      refine r_get hK lf_M_7 d_M_weighs_89 (hM.1) rfl ?_
      refine r_iload_n hK d_M_weighs_92 rfl ?_
      refine r_bipush hK d_M_weighs_93 kb_30 ?_
      refine r_iadd hK d_M_weighs_95 ?_
      refine r_iload_n hK d_M_weighs_96 rfl ?_
      refine r_iadd hK d_M_weighs_97 ?_
      refine g_tw (B := B) (j := 30 + j) hK d_M_weighs_98 hM (ix2 (c := 30) rfl) (by omega) (by omega) ?_
      refine r_bipush hK d_M_weighs_99 kb_8 ?_
      refine r_icmp_le (tgt := 108) hK d_M_weighs_101 rfl (fun h101 => ?_) (fun h101 => ?_)
      · skip
        refine r_iload_n hK d_M_weighs_108 rfl ?_
        refine r_iret hK rfl rfl d_M_weighs_109 ?_
        first | exact rc hQ (by rw [hw, wgh, if_neg (by decide), if_pos rfl, if_pos (by simp only [i_lt, i_le, ti_8, ti_9] at *; omega)]) | exact rc hQ (by rw [hw, wgh, if_neg (by decide), if_pos rfl, if_neg (by simp only [i_lt, i_le, ti_8, ti_9] at *; omega)])
      · skip
        refine r_iconst hK d_M_weighs_104 kc_0 ?_
        refine r_goto (tgt := 109) hK d_M_weighs_105 rfl ?_
        refine r_iret hK rfl rfl d_M_weighs_109 ?_
        first | exact rc hQ (by rw [hw, wgh, if_neg (by decide), if_pos rfl, if_pos (by simp only [i_lt, i_le, ti_8, ti_9] at *; omega)]) | exact rc hQ (by rw [hw, wgh, if_neg (by decide), if_pos rfl, if_neg (by simp only [i_lt, i_le, ti_8, ti_9] at *; omega)])
    · skip
      show K 110 _ _ _ _
      have hw : v (6 + j) = 4 := toI h52
      refine r_aload_n hK d_M_weighs_110 rfl ?_
      refine r_get hK lf_M_7 d_M_weighs_111 (hM.1) rfl ?_
      refine r_iload_n hK d_M_weighs_114 rfl ?_
      refine r_bipush hK d_M_weighs_115 kb_12 ?_
      refine r_iadd hK d_M_weighs_117 ?_
      refine r_iload_n hK d_M_weighs_118 rfl ?_
      refine r_iadd hK d_M_weighs_119 ?_
      refine g_tw (B := B) (j := 12 + j) hK d_M_weighs_120 hM (ix2 (c := 12) rfl) (by omega) (by omega) ?_
      refine r_iret hK rfl rfl d_M_weighs_121 ?_
      exact rc hQ (by simp [wgh, hw])
    · skip
      show K 122 _ _ _ _
      have hw : v (6 + j) = 5 := toI h52
      refine r_aload_n hK d_M_weighs_122 rfl ?_
      refine r_get hK lf_M_7 d_M_weighs_123 (hM.1) rfl ?_
      refine r_iload_n hK d_M_weighs_126 rfl ?_
      refine r_bipush hK d_M_weighs_127 kb_12 ?_
      refine r_iadd hK d_M_weighs_129 ?_
      refine r_iload_n hK d_M_weighs_130 rfl ?_
      refine r_iadd hK d_M_weighs_131 ?_
      refine g_tw (B := B) (j := 12 + j) hK d_M_weighs_132 hM (ix2 (c := 12) rfl) (by omega) (by omega) ?_
      refine r_aload_n hK d_M_weighs_133 rfl ?_
      refine r_get hK lf_M_7 d_M_weighs_134 (hM.1) rfl ?_
      refine r_iload_n hK d_M_weighs_137 rfl ?_
      refine r_iconst hK d_M_weighs_138 kc_3 ?_
      refine r_iadd hK d_M_weighs_139 ?_
      refine g_tw (B := B) (j := 3) hK d_M_weighs_140 hM (ix1 (c := 3) rfl) (by omega) (by omega) ?_
      refine r_s1 (k' := 1) hK lm_M_141 d_M_weighs_141 (by decide) (Nat.le_of_ble_eq_true rfl) ?_
      refine c_M_bits (kc_s ?_)
      refine r_iadd hK d_M_weighs_144 ?_
      refine r_iconst hK d_M_weighs_145 kc_1 ?_
      refine r_isub hK d_M_weighs_146 ?_
      refine r_iret hK rfl rfl d_M_weighs_147 ?_
      exact rc hQ (by rw [hV.bits, a_s1]; simp [wgh, hw])
  · skip
    have hb : ¬ behB v (nI j) = true := by rw [hV.b hj, bI_0.mp h12]; decide
    unfold wOf at hQ
    rw [if_neg hb] at hQ
    refine r_iconst hK d_M_weighs_15 kc_0 ?_
    refine r_iret hK rfl rfl d_M_weighs_16 ?_
    exact hQ
theorem c_M_burdenAt {E : gX} {S : Nat} {G : gG} {Q : Option Value → gG → Prop} {c B n : Nat} {f w v : Nat → Int32} {A : Nat → Nat → Int32} (hM : MV G c f (putT w B v) A) (hB : B ≤ 972) (hV : Vk v n) (hQ : Q (some (.int (wght v))) G) : Runs E y_M_burdenAt 3 0 S [.ref c, .int (nI B)] G Q := by
  refine Runs.of "ClockPostModel" [some (.ref c), some (.int (nI B)), none, none] cw_M_burdenAt (by decide) (by decide +kernel) rfl (Nat.le_of_ble_eq_true rfl) rfl (fun K hK => ?_)
  have h6 := hV.1
  have h0 := hV.2.1
  refine r_iconst hK d_M_burdenAt_0 kc_0 ?_
  refine st_in_2_4 hK d_M_burdenAt_1 trivial ?_
  refine r_iconst hK d_M_burdenAt_2 kc_0 ?_
  refine st_in_3_4 hK d_M_burdenAt_3 trivial ?_
  rw [hV.wg] at hQ
  suffices L : ∀ j, j ≤ n → K 4 [some (.ref c), some (.int (nI B)), some (.int (wSum v j)), some (.int (nI j))] [] S G from L 0 (Nat.zero_le _)
  refine lpN n (fun j hj ih => ?_)
  refine r_iload_n hK d_M_burdenAt_4 rfl ?_
  refine r_aload_n hK d_M_burdenAt_5 rfl ?_
  refine r_get hK lf_M_7 d_M_burdenAt_6 (hM.1) rfl ?_
  refine r_iload_n hK d_M_burdenAt_9 rfl ?_
  refine r_iconst hK d_M_burdenAt_10 kc_0 ?_
  refine r_iadd hK d_M_burdenAt_11 ?_
  refine g_tw (B := B) (j := 0) hK d_M_burdenAt_12 hM (ix1 (c := 0) rfl) (by omega) (by omega) ?_
  rw [h0]
  refine r_icmp_ge (tgt := 31) hK d_M_burdenAt_13 rfl (fun h13 => ?_) (fun h13 => ?_)
  · skip
    have hq : j = n := by have := (nI_leI (by omega) (by omega)).mp h13; omega
    subst hq
    refine r_iload_n hK d_M_burdenAt_31 rfl ?_
    refine r_iret hK rfl rfl d_M_burdenAt_32 ?_
    exact hQ
  · skip
    have hq : j < n := Nat.not_le.mp (fun q => h13 ((nI_leI (by omega) (by omega)).mpr q))
    refine r_iload_n hK d_M_burdenAt_16 rfl ?_
    refine r_aload_n hK d_M_burdenAt_17 rfl ?_
    refine r_iload_n hK d_M_burdenAt_18 rfl ?_
    refine r_iload_n hK d_M_burdenAt_19 rfl ?_
    refine r_v2 (k' := 2) hK lm_M_144 d_M_burdenAt_20 ⟨_, hM.1⟩ (by decide) (Nat.le_of_ble_eq_true rfl) ?_
    refine c_M_weighs hM hB hV hq (kc_s ?_)
    refine r_iadd hK d_M_burdenAt_23 ?_
    refine st_in_2_4 hK d_M_burdenAt_24 trivial ?_
    first | refine iN_3_4 hK d_M_burdenAt_25 trivial ?_ | refine ii_3_1_4 hK d_M_burdenAt_25 trivial ?_
    refine r_goto (tgt := 4) hK d_M_burdenAt_28 rfl ?_
    exact ih hq
theorem c_M_thickness {E : gX} {S : Nat} {G : gG} {Q : Option Value → gG → Prop} {c B n : Nat} {f w v : Nat → Int32} {A : Nat → Nat → Int32} (hM : MV G c f (putT w B v) A) (hB : B ≤ 972) (hV : Vk v n) (hQ : Q (some (.int (thck v))) G) : Runs E y_M_thickness 2 0 S [.ref c, .int (nI B)] G Q := by
  refine Runs.of "ClockPostModel" [some (.ref c), some (.int (nI B)), none, none] cw_M_thickness (by decide) (by decide +kernel) rfl (Nat.le_of_ble_eq_true rfl) rfl (fun K hK => ?_)
  have h6 := hV.1
  have h0 := hV.2.1
  refine r_iconst hK d_M_thickness_0 kc_0 ?_
  refine st_in_2_4 hK d_M_thickness_1 trivial ?_
  refine r_iconst hK d_M_thickness_2 kc_0 ?_
  refine st_in_3_4 hK d_M_thickness_3 trivial ?_
  rw [hV.th] at hQ
  suffices L : ∀ j, j ≤ n → K 4 [some (.ref c), some (.int (nI B)), some (.int (tSum v j)), some (.int (nI j))] [] S G from L 0 (Nat.zero_le _)
  refine lpN n (fun j hj ih => ?_)
  refine r_iload_n hK d_M_thickness_4 rfl ?_
  refine r_aload_n hK d_M_thickness_5 rfl ?_
  refine r_get hK lf_M_7 d_M_thickness_6 (hM.1) rfl ?_
  refine r_iload_n hK d_M_thickness_9 rfl ?_
  refine r_iconst hK d_M_thickness_10 kc_0 ?_
  refine r_iadd hK d_M_thickness_11 ?_
  refine g_tw (B := B) (j := 0) hK d_M_thickness_12 hM (ix1 (c := 0) rfl) (by omega) (by omega) ?_
  rw [h0]
  refine r_icmp_ge (tgt := 55) hK d_M_thickness_13 rfl (fun h13 => ?_) (fun h13 => ?_)
  · skip
    have hq : j = n := by have := (nI_leI (by omega) (by omega)).mp h13; omega
    subst hq
    refine r_iload_n hK d_M_thickness_55 rfl ?_
    refine r_iret hK rfl rfl d_M_thickness_56 ?_
    exact hQ
  · skip
    have hq : j < n := Nat.not_le.mp (fun q => h13 ((nI_leI (by omega) (by omega)).mpr q))
    refine r_iload_n hK d_M_thickness_16 rfl ?_
    refine r_aload_n hK d_M_thickness_17 rfl ?_
    refine r_get hK lf_M_7 d_M_thickness_18 (hM.1) rfl ?_
    refine r_iload_n hK d_M_thickness_21 rfl ?_
    refine r_iconst hK d_M_thickness_22 kc_3 ?_
    refine r_iadd hK d_M_thickness_23 ?_
    refine g_tw (B := B) (j := 3) hK d_M_thickness_24 hM (ix1 (c := 3) rfl) (by omega) (by omega) ?_
    refine r_iload_n hK d_M_thickness_25 rfl ?_
    refine r_s2 (k' := 1) hK lm_M_138 d_M_thickness_26 (by decide) (Nat.le_of_ble_eq_true rfl) ?_
    refine c_M_has (kc_s ?_)
    refine r_if_eq (tgt := 46) hK d_M_thickness_29 rfl (fun h29 => ?_) (fun h29 => ?_)
    · skip
      have hb : ¬ behB v (nI j) = true := by rw [hV.b hq, bI_0.mp h29]; decide
      have e : tSum v (j + 1) = tSum v j + 0 := by rw [tSum, if_neg hb]
      rw [e] at ih
      refine r_iconst hK d_M_thickness_46 kc_0 ?_
      refine r_iadd hK d_M_thickness_47 ?_
      refine st_in_2_4 hK d_M_thickness_48 trivial ?_
      first | refine iN_3_4 hK d_M_thickness_49 trivial ?_ | refine ii_3_1_4 hK d_M_thickness_49 trivial ?_
      refine r_goto (tgt := 4) hK d_M_thickness_52 rfl ?_
      exact ih hq
    · skip
      have hb : behB v (nI j) = true := by rw [hV.b hq]; exact bI_n0.mp h29
      have e : tSum v (j + 1) = tSum v j + v (18 + j) := by rw [tSum, if_pos hb]
      rw [e] at ih
      refine r_aload_n hK d_M_thickness_32 rfl ?_
      refine r_get hK lf_M_7 d_M_thickness_33 (hM.1) rfl ?_
      refine r_iload_n hK d_M_thickness_36 rfl ?_
      refine r_bipush hK d_M_thickness_37 kb_18 ?_
      refine r_iadd hK d_M_thickness_39 ?_
      refine r_iload_n hK d_M_thickness_40 rfl ?_
      refine r_iadd hK d_M_thickness_41 ?_
      refine g_tw (B := B) (j := 18 + j) hK d_M_thickness_42 hM (ix2 (c := 18) rfl) (by omega) (by omega) ?_
      refine r_goto (tgt := 47) hK d_M_thickness_43 rfl ?_
      refine r_iadd hK d_M_thickness_47 ?_
      refine st_in_2_4 hK d_M_thickness_48 trivial ?_
      first | refine iN_3_4 hK d_M_thickness_49 trivial ?_ | refine ii_3_1_4 hK d_M_thickness_49 trivial ?_
      refine r_goto (tgt := 4) hK d_M_thickness_52 rfl ?_
      exact ih hq
theorem c_M_fallsAhead {E : gX} {S : Nat} {G : gG} {Q : Option Value → gG → Prop} {c B n : Nat} {f w v : Nat → Int32} {A : Nat → Nat → Int32} (hM : MV G c f (putT w B v) A) (hB : B ≤ 972) (hV : Vk v n) {j k : Nat} (hj : j < n) (hk : k < n) (hQ : Q (some (.int (bI (fAh v j k)))) G) : Runs E y_M_fallsAhead 1 0 S [.ref c, .int (nI B), .int (nI j), .int (nI k)] G Q := by
  refine Runs.of "ClockPostModel" [some (.ref c), some (.int (nI B)), some (.int (nI j)), some (.int (nI k)), none] cw_M_fallsAhead (by decide) (by decide +kernel) rfl (Nat.le_of_ble_eq_true rfl) rfl (fun K hK => ?_)
  have h6 := hV.1
  have h0 := hV.2.1
  have hf := fAh_m hV hj hk
  refine r_aload_n hK d_M_fallsAhead_0 rfl ?_
  refine r_get hK lf_M_7 d_M_fallsAhead_1 (hM.1) rfl ?_
  refine r_iload_n hK d_M_fallsAhead_4 rfl ?_
  refine r_bipush hK d_M_fallsAhead_5 kb_18 ?_
  refine r_iadd hK d_M_fallsAhead_7 ?_
  refine r_iload_n hK d_M_fallsAhead_8 rfl ?_
  refine r_iadd hK d_M_fallsAhead_9 ?_
  refine g_tw (B := B) (j := 18 + j) hK d_M_fallsAhead_10 hM (ix2 (c := 18) rfl) (by omega) (by omega) ?_
  refine r_aload_n hK d_M_fallsAhead_11 rfl ?_
  refine r_get hK lf_M_7 d_M_fallsAhead_12 (hM.1) rfl ?_
  refine r_iload_n hK d_M_fallsAhead_15 rfl ?_
  refine r_bipush hK d_M_fallsAhead_16 kb_18 ?_
  refine r_iadd hK d_M_fallsAhead_18 ?_
  refine r_iload_n hK d_M_fallsAhead_19 rfl ?_
  refine r_iadd hK d_M_fallsAhead_20 ?_
  refine g_tw (B := B) (j := 18 + k) hK d_M_fallsAhead_21 hM (ix2 (c := 18) rfl) (by omega) (by omega) ?_
  refine r_isub hK d_M_fallsAhead_22 ?_
  refine st_i_4_5 hK d_M_fallsAhead_23 trivial ?_
  refine r_iload hK d_M_fallsAhead_25 rfl ?_
  refine r_if_gt (tgt := 60) hK d_M_fallsAhead_27 rfl (fun h27 => ?_) (fun h27 => ?_)
  · skip
    have e : fAh v j k = true := by rw [fAh, decide_eq_true (hf.1.mp h27), Bool.true_or]
    rw [e] at hQ
    refine r_iconst hK d_M_fallsAhead_60 kc_1 ?_
    refine r_goto (tgt := 65) hK d_M_fallsAhead_61 rfl ?_
    refine r_zret hK rfl (rfl) rfl d_M_fallsAhead_65 ?_
    exact hQ
  · skip
    have e1 : ¬ v (18 + k) < v (18 + j) := fun q => h27 (hf.1.mpr q)
    refine r_iload hK d_M_fallsAhead_30 rfl ?_
    refine r_if_ne (tgt := 64) hK d_M_fallsAhead_32 rfl (fun h32 => ?_) (fun h32 => ?_)
    · skip
      have e : fAh v j k = false := by rw [fAh, decide_eq_false e1, decide_eq_false (fun q => h32 (hf.2.mpr q)), Bool.false_and, Bool.or_false]
      rw [e] at hQ
      refine r_iconst hK d_M_fallsAhead_64 kc_0 ?_
      refine r_zret hK rfl (rfl) rfl d_M_fallsAhead_65 ?_
      exact hQ
    · skip
      have e2 : v (18 + j) = v (18 + k) := hf.2.mp h32
      refine r_aload_n hK d_M_fallsAhead_35 rfl ?_
      refine r_get hK lf_M_7 d_M_fallsAhead_36 (hM.1) rfl ?_
      refine r_iload_n hK d_M_fallsAhead_39 rfl ?_
      refine r_bipush hK d_M_fallsAhead_40 kb_30 ?_
      refine r_iadd hK d_M_fallsAhead_42 ?_
      refine r_iload_n hK d_M_fallsAhead_43 rfl ?_
      refine r_iadd hK d_M_fallsAhead_44 ?_
      refine g_tw (B := B) (j := 30 + j) hK d_M_fallsAhead_45 hM (ix2 (c := 30) rfl) (by omega) (by omega) ?_
      refine r_aload_n hK d_M_fallsAhead_46 rfl ?_
      refine r_get hK lf_M_7 d_M_fallsAhead_47 (hM.1) rfl ?_
      refine r_iload_n hK d_M_fallsAhead_50 rfl ?_
      refine r_bipush hK d_M_fallsAhead_51 kb_30 ?_
      refine r_iadd hK d_M_fallsAhead_53 ?_
      refine r_iload_n hK d_M_fallsAhead_54 rfl ?_
      refine r_iadd hK d_M_fallsAhead_55 ?_
      refine g_tw (B := B) (j := 30 + k) hK d_M_fallsAhead_56 hM (ix2 (c := 30) rfl) (by omega) (by omega) ?_
      refine r_icmp_le (tgt := 64) hK d_M_fallsAhead_57 rfl (fun h57 => ?_) (fun h57 => ?_)
      · skip
        have e : fAh v j k = false := by rw [fAh, decide_eq_false e1, decide_eq_false (Int32.not_lt.mpr h57), Bool.and_false, Bool.or_false]
        rw [e] at hQ
        refine r_iconst hK d_M_fallsAhead_64 kc_0 ?_
        refine r_zret hK rfl (rfl) rfl d_M_fallsAhead_65 ?_
        exact hQ
      · skip
        have e : fAh v j k = true := by rw [fAh, decide_eq_true e2, decide_eq_true (Int32.not_le.mp h57), Bool.and_true, Bool.or_true]
        rw [e] at hQ
        refine r_iconst hK d_M_fallsAhead_60 kc_1 ?_
        refine r_goto (tgt := 65) hK d_M_fallsAhead_61 rfl ?_
        refine r_zret hK rfl (rfl) rfl d_M_fallsAhead_65 ?_
        exact hQ
theorem c_M_nextToFall {E : gX} {S : Nat} {G : gG} {Q : Option Value → gG → Prop} {c B n : Nat} {f w v : Nat → Int32} {A : Nat → Nat → Int32} (hM : MV G c f (putT w B v) A) (hB : B ≤ 972) (hV : Vk v n) (hQ : Q (some (.int (oI (nxt v n)))) G) : Runs E y_M_nextToFall 3 0 S [.ref c, .int (nI B)] G Q := by
  refine Runs.of "ClockPostModel" [some (.ref c), some (.int (nI B)), none, none] cw_M_nextToFall (by decide) (by decide +kernel) rfl (Nat.le_of_ble_eq_true rfl) rfl (fun K hK => ?_)
  have h6 := hV.1
  have h0 := hV.2.1
  refine r_ldc hK d_M_nextToFall_0 lc_M_147 ?_
  refine st_in_2_4 hK d_M_nextToFall_2 trivial ?_
  refine r_iconst hK d_M_nextToFall_3 kc_0 ?_
  refine st_in_3_4 hK d_M_nextToFall_4 trivial ?_
  suffices L : ∀ j, j ≤ n → K 5 [some (.ref c), some (.int (nI B)), some (.int (oI (ntf v j))), some (.int (nI j))] [] S G from L 0 (Nat.zero_le _)
  refine lpN n (fun j hj ih => ?_)
  refine r_iload_n hK d_M_nextToFall_5 rfl ?_
  refine r_aload_n hK d_M_nextToFall_6 rfl ?_
  refine r_get hK lf_M_7 d_M_nextToFall_7 (hM.1) rfl ?_
  refine r_iload_n hK d_M_nextToFall_10 rfl ?_
  refine r_iconst hK d_M_nextToFall_11 kc_0 ?_
  refine r_iadd hK d_M_nextToFall_12 ?_
  refine g_tw (B := B) (j := 0) hK d_M_nextToFall_13 hM (ix1 (c := 0) rfl) (by omega) (by omega) ?_
  rw [h0]
  refine r_icmp_ge (tgt := 60) hK d_M_nextToFall_14 rfl (fun h14 => ?_) (fun h14 => ?_)
  · skip
    have hq : j = n := by have := (nI_leI (by omega) (by omega)).mp h14; omega
    subst hq
    refine r_aload_n hK d_M_nextToFall_60 rfl ?_
    refine r_iload_n hK d_M_nextToFall_61 rfl ?_
    refine r_v1 (k' := 2) hK lm_M_151 d_M_nextToFall_62 ⟨_, hM.1⟩ (by decide) (Nat.le_of_ble_eq_true rfl) ?_
    refine c_M_thickness hM hB hV (kc_s ?_)
    refine r_aload_n hK d_M_nextToFall_65 rfl ?_
    refine r_get hK lf_M_7 d_M_nextToFall_66 (hM.1) rfl ?_
    refine r_iload_n hK d_M_nextToFall_69 rfl ?_
    refine r_iconst hK d_M_nextToFall_70 kc_1 ?_
    refine r_iadd hK d_M_nextToFall_71 ?_
    refine g_tw (B := B) (j := 1) hK d_M_nextToFall_72 hM (ix1 (c := 1) rfl) (by omega) (by omega) ?_
    refine r_icmp_le (tgt := 80) hK d_M_nextToFall_73 rfl (fun h73 => ?_) (fun h73 => ?_)
    · skip
      have e : nxt v j = none := by rw [nxt, if_neg (Int32.not_lt.mpr h73)]
      rw [e] at hQ
      refine r_ldc hK d_M_nextToFall_80 lc_M_147 ?_
      refine r_iret hK rfl rfl d_M_nextToFall_82 ?_
      exact hQ
    · skip
      have e : nxt v j = ntf v j := by rw [nxt, if_pos (Int32.not_le.mp h73)]
      rw [e] at hQ
      refine r_iload_n hK d_M_nextToFall_76 rfl ?_
      refine r_goto (tgt := 82) hK d_M_nextToFall_77 rfl ?_
      refine r_iret hK rfl rfl d_M_nextToFall_82 ?_
      exact hQ
  · skip
    have hq : j < n := Nat.not_le.mp (fun q => h14 ((nI_leI (by omega) (by omega)).mpr q))
    refine r_aload_n hK d_M_nextToFall_17 rfl ?_
    refine r_get hK lf_M_7 d_M_nextToFall_18 (hM.1) rfl ?_
    refine r_iload_n hK d_M_nextToFall_21 rfl ?_
    refine r_iconst hK d_M_nextToFall_22 kc_3 ?_
    refine r_iadd hK d_M_nextToFall_23 ?_
    refine g_tw (B := B) (j := 3) hK d_M_nextToFall_24 hM (ix1 (c := 3) rfl) (by omega) (by omega) ?_
    refine r_iload_n hK d_M_nextToFall_25 rfl ?_
    refine r_s2 (k' := 1) hK lm_M_138 d_M_nextToFall_26 (by decide) (Nat.le_of_ble_eq_true rfl) ?_
    refine c_M_has (kc_s ?_)
    refine r_if_eq (tgt := 52) hK d_M_nextToFall_29 rfl (fun h29 => ?_) (fun h29 => ?_)
    · skip
      have hb : ¬ behB v (nI j) = true := by rw [hV.b hq, bI_0.mp h29]; decide
      have e : ntf v (j + 1) = ntf v j := by rw [ntf, if_neg (fun q => hb q.1)]
      rw [e] at ih
      refine r_iload_n hK d_M_nextToFall_52 rfl ?_
      refine st_in_2_4 hK d_M_nextToFall_53 trivial ?_
      first | refine iN_3_4 hK d_M_nextToFall_54 trivial ?_ | refine ii_3_1_4 hK d_M_nextToFall_54 trivial ?_
      refine r_goto (tgt := 5) hK d_M_nextToFall_57 rfl ?_
      exact ih hq
    · skip
      have hb : behB v (nI j) = true := by rw [hV.b hq]; exact bI_n0.mp h29
      refine r_iload_n hK d_M_nextToFall_32 rfl ?_
      refine r_ldc hK d_M_nextToFall_33 lc_M_147 ?_
      refine r_icmp_eq (tgt := 48) hK d_M_nextToFall_35 rfl (fun h35 => ?_) (fun h35 => ?_)
      · skip
        have hn : ntf v j = none := (oI_n (fun k h => by have := (ntf_lt h).1; omega)).mp h35
        have e : ntf v (j + 1) = some j := by rw [ntf, if_pos ⟨hb, fun k hk => by rw [hn] at hk; cases hk⟩]
        rw [e] at ih
        refine r_iload_n hK d_M_nextToFall_48 rfl ?_
        refine r_goto (tgt := 53) hK d_M_nextToFall_49 rfl ?_
        refine st_in_2_4 hK d_M_nextToFall_53 trivial ?_
        first | refine iN_3_4 hK d_M_nextToFall_54 trivial ?_ | refine ii_3_1_4 hK d_M_nextToFall_54 trivial ?_
        refine r_goto (tgt := 5) hK d_M_nextToFall_57 rfl ?_
        exact ih hq
      · skip
        obtain ⟨k, hk⟩ : ∃ k, ntf v j = some k := by
          cases hn : ntf v j with
          | none => exact absurd (by rw [hn]; rfl) h35
          | some k => exact ⟨k, rfl⟩
        have hkj := (ntf_lt hk).1
        rw [hk]
        refine r_aload_n hK d_M_nextToFall_38 rfl ?_
        refine r_iload_n hK d_M_nextToFall_39 rfl ?_
        refine r_iload_n hK d_M_nextToFall_40 rfl ?_
        refine r_iload_n hK d_M_nextToFall_41 rfl ?_
        refine r_v3 (k' := 1) hK lm_M_148 d_M_nextToFall_42 ⟨_, hM.1⟩ (by decide) (Nat.le_of_ble_eq_true rfl) ?_
        refine c_M_fallsAhead (j := j) (k := k) hM hB hV hq (by omega) (kc_s ?_)
        refine r_if_eq (tgt := 52) hK d_M_nextToFall_45 rfl (fun h45 => ?_) (fun h45 => ?_)
        · skip
          have e : ntf v (j + 1) = some k := by rw [ntf, if_neg (fun q => by have := q.2 k hk; rw [bI_0.mp h45] at this; cases this), hk]
          rw [e] at ih
          refine r_iload_n hK d_M_nextToFall_52 rfl ?_
          refine st_in_2_4 hK d_M_nextToFall_53 trivial ?_
          first | refine iN_3_4 hK d_M_nextToFall_54 trivial ?_ | refine ii_3_1_4 hK d_M_nextToFall_54 trivial ?_
          refine r_goto (tgt := 5) hK d_M_nextToFall_57 rfl ?_
          exact ih hq
        · skip
          have e : ntf v (j + 1) = some j := by rw [ntf, if_pos ⟨hb, fun k2 hk2 => by rw [hk] at hk2; cases hk2; exact bI_n0.mp h45⟩]
          rw [e] at ih
          refine r_iload_n hK d_M_nextToFall_48 rfl ?_
          refine r_goto (tgt := 53) hK d_M_nextToFall_49 rfl ?_
          refine st_in_2_4 hK d_M_nextToFall_53 trivial ?_
          first | refine iN_3_4 hK d_M_nextToFall_54 trivial ?_ | refine ii_3_1_4 hK d_M_nextToFall_54 trivial ?_
          refine r_goto (tgt := 5) hK d_M_nextToFall_57 rfl ?_
          exact ih hq
theorem c_M_away {E : gX} {S : Nat} {G : gG} {Q : Option Value → gG → Prop} {c B : Nat} {f w v : Nat → Int32} {A : Nat → Nat → Int32} (hM : MV G c f (putT w B v) A) (hB : B ≤ 972) {j : Nat} {g : Int32} (hQ : ∀ G' : gG, MV G' c f (putT w B (awayV v (nI j) g)) A → Frm G G' c 10 → Q none G') : Runs E y_M_away 2 0 S [.ref c, .int (nI B), .int (nI j), .int g] G Q := by
  refine Runs.of "ClockPostModel" [some (.ref c), some (.int (nI B)), some (.int (nI j)), some (.int g)] cw_M_away (by decide) (by decide +kernel) rfl (Nat.le_of_ble_eq_true rfl) rfl (fun K hK => ?_)
  refine r_aload_n hK d_M_away_0 rfl ?_
  refine r_get hK lf_M_7 d_M_away_1 (hM.1) rfl ?_
  refine r_iload_n hK d_M_away_4 rfl ?_
  refine r_iconst hK d_M_away_5 kc_3 ?_
  refine r_iadd hK d_M_away_6 ?_
  refine r_dup2 hK d_M_away_7 rfl rfl ?_
  refine g_tw (B := B) (j := 3) hK d_M_away_8 hM (ix1 (c := 3) rfl) (by omega) (by omega) ?_
  refine r_iconst hK d_M_away_9 kc_1 ?_
  refine r_iload_n hK d_M_away_10 rfl ?_
  refine r_ishl hK d_M_away_11 ?_
  refine r_iconst hK d_M_away_12 kc_m1 ?_
  refine r_ixor hK d_M_away_13 ?_
  refine r_iand hK d_M_away_14 ?_
  refine s_tw (B := B) (j := 3) hK d_M_away_15 hM (ix1 (c := 3) rfl) (by omega) (by omega) (fun G15 hM f15 => ?_)
  have hF := f15
  refine r_aload_n hK d_M_away_16 rfl ?_
  refine r_get hK lf_M_7 d_M_away_17 (hM.1) rfl ?_
  refine r_iload_n hK d_M_away_20 rfl ?_
  refine r_iconst hK d_M_away_21 kc_5 ?_
  refine r_iadd hK d_M_away_22 ?_
  refine r_aload_n hK d_M_away_23 rfl ?_
  refine r_get hK lf_M_7 d_M_away_24 (hM.1) rfl ?_
  refine r_iload_n hK d_M_away_27 rfl ?_
  refine r_iconst hK d_M_away_28 kc_5 ?_
  refine r_iadd hK d_M_away_29 ?_
  refine g_tw (B := B) (j := 5) hK d_M_away_30 hM (ix1 (c := 5) rfl) (by omega) (by omega) ?_
  refine r_iload_n hK d_M_away_31 rfl ?_
  refine r_iadd hK d_M_away_32 ?_
  refine r_sipush hK d_M_away_33 ks_9999 ?_
  refine r_s2 (k' := 1) hK lm_M_154 d_M_away_36 (by decide) (Nat.le_of_ble_eq_true rfl) ?_
  refine c_M_atMost (kc_s ?_)
  rw [mn9_e, upd_n (show 5 ≠ 3 by decide)]
  refine s_tw (B := B) (j := 5) hK d_M_away_39 hM (ix1 (c := 5) rfl) (by omega) (by omega) (fun G39 hM f39 => ?_)
  have hF := hF.tr f39
  refine r_vret hK rfl rfl d_M_away_40 ?_
  exact hQ _ hM hF
theorem c_M_pass {E : gX} {S : Nat} {G : gG} {Q : Option Value → gG → Prop} {c B n : Nat} {f w v : Nat → Int32} {A : Nat → Nat → Int32} (hM : MV G c f (putT w B v) A) (hB : B ≤ 972) (hV : Vk v n) (hQ : ∀ G' : gG, MV G' c f (putT w B ((passV v).1)) A → Frm G G' c 10 → Q (some (.int (oI (passV v).2))) G') : Runs E y_M_pass 4 0 S [.ref c, .int (nI B)] G Q := by
  refine Runs.of "ClockPostModel" [some (.ref c), some (.int (nI B)), none, none] cw_M_pass (by decide) (by decide +kernel) rfl (Nat.le_of_ble_eq_true rfl) rfl (fun K hK => ?_)
  have h6 := hV.1
  have h0 := hV.2.1
  refine r_aload_n hK d_M_pass_0 rfl ?_
  refine r_get hK lf_M_7 d_M_pass_1 (hM.1) rfl ?_
  refine r_iload_n hK d_M_pass_4 rfl ?_
  refine r_iconst hK d_M_pass_5 kc_4 ?_
  refine r_iadd hK d_M_pass_6 ?_
  refine r_aload_n hK d_M_pass_7 rfl ?_
  refine r_get hK lf_M_7 d_M_pass_8 (hM.1) rfl ?_
  refine r_iload_n hK d_M_pass_11 rfl ?_
  refine r_iconst hK d_M_pass_12 kc_4 ?_
  refine r_iadd hK d_M_pass_13 ?_
  refine g_tw (B := B) (j := 4) hK d_M_pass_14 hM (ix1 (c := 4) rfl) (by omega) (by omega) ?_
  refine r_aload_n hK d_M_pass_15 rfl ?_
  refine r_iload_n hK d_M_pass_16 rfl ?_
  refine r_v1 (k' := 3) hK lm_M_157 d_M_pass_17 ⟨_, hM.1⟩ (by decide) (Nat.le_of_ble_eq_true rfl) ?_
  refine c_M_burdenAt hM hB hV (kc_s ?_)
  refine r_iadd hK d_M_pass_20 ?_
  refine r_sipush hK d_M_pass_21 ks_9999 ?_
  refine r_s2 (k' := 1) hK lm_M_154 d_M_pass_24 (by decide) (Nat.le_of_ble_eq_true rfl) ?_
  refine c_M_atMost (kc_s ?_)
  rw [mn9_e]
  refine s_tw (B := B) (j := 4) hK d_M_pass_27 hM (ix1 (c := 4) rfl) (by omega) (by omega) (fun G27 hM f27 => ?_)
  have hF := f27
  have hS := hV.sum
  have hs0 := hS.2.1
  refine r_iconst hK d_M_pass_28 kc_0 ?_
  refine st_in_2_4 hK d_M_pass_29 trivial ?_
  suffices L : ∀ j, j ≤ n → ∀ G1 : gG, MV G1 c f (putT w B (ageV (sumV v) j)) A → Frm G G1 c 10 → K 30 [some (.ref c), some (.int (nI B)), some (.int (nI j)), none] [] S G1 from L 0 (Nat.zero_le _) _ (by rw [← putT_cg (ageV_0 (v := sumV v))]; exact hM) hF
  clear hM hF
  refine lpN n (fun j hj ih G1 hM hF => ?_)
  refine r_iload_n hK d_M_pass_30 rfl ?_
  refine r_aload_n hK d_M_pass_31 rfl ?_
  refine r_get hK lf_M_7 d_M_pass_32 (hM.1) rfl ?_
  refine r_iload_n hK d_M_pass_35 rfl ?_
  refine r_iconst hK d_M_pass_36 kc_0 ?_
  refine r_iadd hK d_M_pass_37 ?_
  refine g_tw (B := B) (j := 0) hK d_M_pass_38 hM (ix1 (c := 0) rfl) (by omega) (by omega) ?_
  rw [show ageV (sumV v) j 0 = nI n by rw [ageV_n (by omega)]; exact hs0]
  refine r_icmp_ge (tgt := 88) hK d_M_pass_39 rfl (fun h39 => ?_) (fun h39 => ?_)
  · skip
    have hq : j = n := by have := (nI_leI (by omega) (by omega)).mp h39; omega
    subst hq
    refine r_aload_n hK d_M_pass_88 rfl ?_
    refine r_get hK lf_M_7 d_M_pass_89 (hM.1) rfl ?_
    refine r_iload_n hK d_M_pass_92 rfl ?_
    refine r_iconst hK d_M_pass_93 kc_2 ?_
    refine r_iadd hK d_M_pass_94 ?_
    refine r_dup2 hK d_M_pass_95 rfl rfl ?_
    refine g_tw (B := B) (j := 2) hK d_M_pass_96 hM (ix1 (c := 2) rfl) (by omega) (by omega) ?_
    refine r_iconst hK d_M_pass_97 kc_1 ?_
    refine r_iadd hK d_M_pass_98 ?_
    refine s_tw (B := B) (j := 2) hK d_M_pass_99 hM (ix1 (c := 2) rfl) (by omega) (by omega) (fun G99 hM f99 => ?_)
    have hF := hF.tr f99
    have hM : MV G99 c f (putT w B (dayV v)) A := by
      rw [show dayV v = upd (ageV (sumV v) j) 2 (ageV (sumV v) j 2 + 1) by rw [dayV, hV.nN, ageV_n (by omega)]; unfold sumV; rw [upd_n (by omega)]]
      exact hM
    have hD := hV.day
    have hpV : passV v = fallV j (dayV v) none := by rw [passV, hV.nN]
    have h2 : (passV v).2 = nxt (dayV v) j := by rw [hpV]; exact fallV_f hD (cnB_le _)
    rw [h2, hpV] at hQ
    refine r_aload_n hK d_M_pass_100 rfl ?_
    refine r_iload_n hK d_M_pass_101 rfl ?_
    refine r_v1 (k' := 3) hK lm_M_160 d_M_pass_102 ⟨_, hM.1⟩ (by decide) (Nat.le_of_ble_eq_true rfl) ?_
    refine c_M_nextToFall hM hB hD (kc_s ?_)
    refine st_in_2_4 hK d_M_pass_105 trivial ?_
    refine r_iload_n hK d_M_pass_106 rfl ?_
    refine st_in_3_4 hK d_M_pass_107 trivial ?_
    suffices L : ∀ m, ∀ (u : Nat → Int32) (f0 : Option Nat) (G1 : gG), Vk u j → cnB u j ≤ m → (fallV m u f0).1 = (fallV j (dayV v) none).1 → MV G1 c f (putT w B u) A → Frm G G1 c 10 → K 108 [some (.ref c), some (.int (nI B)), some (.int (oI (nxt (dayV v) j))), some (.int (oI (nxt u j)))] [] S G1 from L j _ none _ hD (cnB_le _) rfl hM hF
    clear hM hF ih
    refine indN (fun m ih u f0 G1 hU hc hE hM hF => ?_)
    refine r_iload_n hK d_M_pass_108 rfl ?_
    refine r_ldc hK d_M_pass_109 lc_M_147 ?_
    refine r_icmp_eq (tgt := 140) hK d_M_pass_111 rfl (fun h111 => ?_) (fun h111 => ?_)
    · skip
      have hn : nxt u j = none := (oI_n (fun k h => by have := (nxt_lt h).1; omega)).mp h111
      rw [fallV_no _ _ _ hU.nN hn] at hE
      refine r_iload_n hK d_M_pass_140 rfl ?_
      refine r_iret hK rfl rfl d_M_pass_141 ?_
      rw [← hE] at hQ
      exact hQ _ hM hF
    · skip
      obtain ⟨i, hk⟩ : ∃ k, nxt u j = some k := by
        cases hn : nxt u j with
        | none => exact absurd (by rw [hn]; rfl) h111
        | some k => exact ⟨k, rfl⟩
      have hi := (nxt_lt hk).1
      have hb := (nxt_lt hk).2.1
      have hcp := cnB_pos hb j hi
      obtain ⟨m, rfl⟩ : ∃ q, m = q + 1 := ⟨m - 1, by omega⟩
      rw [fallV_go hU.nN hk] at hE
      have ha := hU.away hi (g := u (24 + i))
      have hca := cnB_aw hb ha.2 j (Nat.le_refl _)
      rw [if_pos hi] at hca
      rw [hk]
      refine r_aload_n hK d_M_pass_114 rfl ?_
      refine r_iload_n hK d_M_pass_115 rfl ?_
      refine r_iload_n hK d_M_pass_116 rfl ?_
      refine r_aload_n hK d_M_pass_117 rfl ?_
      refine r_get hK lf_M_7 d_M_pass_118 (hM.1) rfl ?_
      refine r_iload_n hK d_M_pass_121 rfl ?_
      refine r_bipush hK d_M_pass_122 kb_24 ?_
      refine r_iadd hK d_M_pass_124 ?_
      refine r_iload_n hK d_M_pass_125 rfl ?_
      refine r_iadd hK d_M_pass_126 ?_
      refine g_tw (B := B) (j := 24 + i) hK d_M_pass_127 hM (ix2 (c := 24) rfl) (by omega) (by omega) ?_
      refine r_v3 (k' := 2) hK lm_M_163 d_M_pass_128 ⟨_, hM.1⟩ (by decide) (Nat.le_of_ble_eq_true rfl) ?_
      refine c_M_away (j := i) hM hB (fun G128 hM f128 => kc_n ?_)
      have hF := hF.tr f128
      refine r_aload_n hK d_M_pass_131 rfl ?_
      refine r_iload_n hK d_M_pass_132 rfl ?_
      refine r_v1 (k' := 3) hK lm_M_160 d_M_pass_133 ⟨_, hM.1⟩ (by decide) (Nat.le_of_ble_eq_true rfl) ?_
      refine c_M_nextToFall hM hB ha.1 (kc_s ?_)
      refine st_in_3_4 hK d_M_pass_136 trivial ?_
      refine r_goto (tgt := 108) hK d_M_pass_137 rfl ?_
      exact ih m rfl _ _ _ ha.1 (by omega) hE hM hF
  · skip
    have hq : j < n := Nat.not_le.mp (fun q => h39 ((nI_leI (by omega) (by omega)).mpr q))
    refine r_aload_n hK d_M_pass_42 rfl ?_
    refine r_get hK lf_M_7 d_M_pass_43 (hM.1) rfl ?_
    refine r_iload_n hK d_M_pass_46 rfl ?_
    refine r_bipush hK d_M_pass_47 kb_30 ?_
    refine r_iadd hK d_M_pass_49 ?_
    refine r_iload_n hK d_M_pass_50 rfl ?_
    refine r_iadd hK d_M_pass_51 ?_
    refine r_aload_n hK d_M_pass_52 rfl ?_
    refine r_get hK lf_M_7 d_M_pass_53 (hM.1) rfl ?_
    refine r_iload_n hK d_M_pass_56 rfl ?_
    refine r_bipush hK d_M_pass_57 kb_30 ?_
    refine r_iadd hK d_M_pass_59 ?_
    refine r_iload_n hK d_M_pass_60 rfl ?_
    refine r_iadd hK d_M_pass_61 ?_
    refine g_tw (B := B) (j := 30 + j) hK d_M_pass_62 hM (ix2 (c := 30) rfl) (by omega) (by omega) ?_
    refine r_aload_n hK d_M_pass_63 rfl ?_
    refine r_get hK lf_M_7 d_M_pass_64 (hM.1) rfl ?_
    refine r_iload_n hK d_M_pass_67 rfl ?_
    refine r_iconst hK d_M_pass_68 kc_3 ?_
    refine r_iadd hK d_M_pass_69 ?_
    refine g_tw (B := B) (j := 3) hK d_M_pass_70 hM (ix1 (c := 3) rfl) (by omega) (by omega) ?_
    refine r_iload_n hK d_M_pass_71 rfl ?_
    refine r_ishr hK d_M_pass_72 ?_
    refine r_iconst hK d_M_pass_73 kc_1 ?_
    refine r_iand hK d_M_pass_74 ?_
    refine r_iadd hK d_M_pass_75 ?_
    refine r_bipush hK d_M_pass_76 kb_99 ?_
    refine r_s2 (k' := 1) hK lm_M_154 d_M_pass_78 (by decide) (Nat.le_of_ble_eq_true rfl) ?_
    refine c_M_atMost (kc_s ?_)
    rw [mn99_e]
    refine s_tw (B := B) (j := 30 + j) hK d_M_pass_81 hM (ix2 (c := 30) rfl) (by omega) (by omega) (fun G81 hM f81 => ?_)
    have hF := hF.tr f81
    rw [putT_cg (age_st hS hq)] at hM
    first | refine iN_2_4 hK d_M_pass_82 trivial ?_ | refine ii_2_1_4 hK d_M_pass_82 trivial ?_
    refine r_goto (tgt := 30) hK d_M_pass_85 rfl ?_
    exact ih hq _ hM hF
theorem c_M_passes {E : gX} {S : Nat} {G : gG} {Q : Option Value → gG → Prop} {c B n : Nat} {f w v : Nat → Int32} {A : Nat → Nat → Int32} (hM : MV G c f (putT w B v) A) (hB : B ≤ 972) (hV : Vk v n) {d : Nat} (hd : d < 2 ^ 31) (hQ : ∀ G' : gG, MV G' c f (putT w B (psN d v)) A → Frm G G' c 10 → Q none G') : Runs E y_M_passes 5 0 S [.ref c, .int (nI B), .int (nI d)] G Q := by
  refine Runs.of "ClockPostModel" [some (.ref c), some (.int (nI B)), some (.int (nI d)), none] cw_M_passes (by decide) (by decide +kernel) rfl (Nat.le_of_ble_eq_true rfl) rfl (fun K hK => ?_)
  have h6 := hV.1
  have h0 := hV.2.1
  refine r_iconst hK d_M_passes_0 kc_0 ?_
  refine st_in_3_4 hK d_M_passes_1 trivial ?_
  suffices L : ∀ j, j ≤ d → ∀ G1 : gG, Vk (psN j v) n → MV G1 c f (putT w B (psN j v)) A → Frm G G1 c 10 → K 2 [some (.ref c), some (.int (nI B)), some (.int (nI d)), some (.int (nI j))] [] S G1 from L 0 (Nat.zero_le _) _ hV hM Frm.rf
  clear hM
  refine lpN d (fun j hj ih G1 hU hM hF => ?_)
  refine r_iload_n hK d_M_passes_2 rfl ?_
  refine r_iload_n hK d_M_passes_3 rfl ?_
  refine r_icmp_ge (tgt := 19) hK d_M_passes_4 rfl (fun h4 => ?_) (fun h4 => ?_)
  · skip
    have hq : j = d := by have := (nI_leI hd (by omega)).mp h4; omega
    subst hq
    refine r_vret hK rfl rfl d_M_passes_19 ?_
    exact hQ _ hM hF
  · skip
    have hq : j < d := Nat.not_le.mp (fun q => h4 ((nI_leI hd (by omega)).mpr q))
    refine r_aload_n hK d_M_passes_7 rfl ?_
    refine r_iload_n hK d_M_passes_8 rfl ?_
    refine r_v1 (k' := 4) hK lm_M_167 d_M_passes_9 ⟨_, hM.1⟩ (by decide) (Nat.le_of_ble_eq_true rfl) ?_
    refine c_M_pass hM hB hU (fun G9 hM f9 => kc_s ?_)
    have hF := hF.tr f9
    refine r_pop hK d_M_passes_12 rfl ?_
    first | refine iN_3_4 hK d_M_passes_13 trivial ?_ | refine ii_3_1_4 hK d_M_passes_13 trivial ?_
    refine r_goto (tgt := 2) hK d_M_passes_16 rfl ?_
    exact ih hq _ (by rw [psN_s]; exact hU.pass) (by rw [psN_s]; exact hM) hF
