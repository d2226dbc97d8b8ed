def becV (v w : Nat → Int32) (m : Nat) : Nat → Int32 := fun k => if k < 6 then w k else if (k - 6) % 6 < m then w k else v k
def ntf (v : Nat → Int32) : Nat → Option Nat
  | 0 => none
  | j + 1 => if behB v (nI j) = true ∧ (∀ k, ntf v j = some k → fAh v j k = true) then some j else ntf v j
def oI : Option Nat → Int32
  | none => -1000000
  | some k => nI k
def mn99 (x : Int32) : Int32 := if x < 99 then x else 99
def ageV (v : Nat → Int32) (m : Nat) : Nat → Int32 := fun k => if 30 ≤ k ∧ k < 30 + m ∧ behB v (nI (k - 30)) = true then mn99 (v k + 1) else v k
def fallV : Nat → (Nat → Int32) → Option Nat → (Nat → Int32) × Option Nat
  | 0, v, f => (v, f)
  | m + 1, v, f => if v 1 < thck v then (match ntf v (nN (v 0)) with
    | none => fallV m v f
    | some k => fallV m (awayV v (nI k) (v (24 + k))) (if f = none then some k else f)) else (v, f)
def sumV (v : Nat → Int32) : Nat → Int32 := upd v 4 (mn9 (v 4 + wght v))
def dayV (v : Nat → Int32) : Nat → Int32 := upd (ageV (sumV v) (nN (v 0))) 2 (v 2 + 1)
def passV (v : Nat → Int32) : (Nat → Int32) × Option Nat := fallV (nN (v 0)) (dayV v) none
def ansV (v : Nat → Int32) (i : Int32) : Nat → Int32 := if behB v i = true then awayV v i (v (24 + nN i) / 2) else v
def putV (v : Nat → Int32) (i : Int32) : Nat → Int32 := if hasL v i = true ∧ behB v i = false then upd (upd v 3 (v 3 ||| (1 <<< (i &&& 31)))) (30 + nN i) 0 else v
def drawV (v : Nat → Int32) (x : Int64) : Nat → Int32 := if v 0 < 1 then v else if x - x / 3 * 3 = 0 then ansV v (x - x / (v 0).toInt64 * (v 0).toInt64).toInt32 else if x - x / 3 * 3 = 1 then putV v (x - x / (v 0).toInt64 * (v 0).toInt64).toInt32 else v
theorem ntf_lt {v : Nat → Int32} : ∀ {j k : Nat}, ntf v j = some k → k < j ∧ behB v (nI k) = true
  | 0, _, h => by simp [ntf] at h
  | j + 1, k, h => by
    simp only [ntf] at h
    split at h
    · rename_i hc
      cases h
      exact ⟨by omega, hc.1⟩
    · have := ntf_lt h
      exact ⟨by omega, this.2⟩
theorem behB_c {v w : Nat → Int32} (h0 : w 0 = v 0) (h3 : w 3 = v 3) (i : Int32) : behB w i = behB v i := by unfold behB hasL; rw [h0, h3]
theorem hasL_c {v w : Nat → Int32} (h0 : w 0 = v 0) (i : Int32) : hasL w i = hasL v i := by unfold hasL; rw [h0]
theorem hasL_nI {v : Nat → Int32} {j : Nat} (hj : j < nN (v 0)) : hasL v (nI j) = true := by
  have := nN_lt (v 0)
  simp only [hasL, Bool.and_eq_true, decide_eq_true_eq]
  exact ⟨nI_pos' (by omega), (lt_nN (by omega)).mpr hj⟩
theorem hasL_ix {v : Nat → Int32} {i : Int32} (h : hasL v i = true) (h6 : nN (v 0) ≤ 6) : ∃ j : Nat, j < nN (v 0) ∧ j < 6 ∧ i = nI j := by
  simp only [hasL, Bool.and_eq_true, decide_eq_true_eq] at h
  exact has_ix h.1 h.2 h6
theorem behB_has {v : Nat → Int32} {i : Int32} (h : behB v i = true) : hasL v i = true := by
  simp only [behB, Bool.and_eq_true] at h
  exact h.1
theorem hasL_m {v : Nat → Int32} : hasL v (-1000000) = false := by
  simp [hasL]
theorem oI_n {f : Option Nat} (h : ∀ k, f = some k → k < 6) : oI f = -1000000 ↔ f = none := by
  cases f with
  | none => simp [oI]
  | some k =>
    have := h k rfl
    simp only [oI]
    constructor
    · intro q
      have q2 := congrArg Int32.toInt q
      rw [nI_toInt (by omega), show (-1000000 : Int32).toInt = -1000000 by decide] at q2
      omega
    · intro q; cases q
theorem HX.setL2 {G G' : gG} {h j : Nat} {s : Int32} {v w : Nat → Int32} (hH : HX G h s v) (hj : j < 6) (hL : LX G' (h + 2 + j) (letL w j)) (hF : Frm G G' (h + 2 + j) 1) (hw : ∀ k, k < 36 → (k ≠ 6 + j ∧ k ≠ 12 + j ∧ k ≠ 18 + j ∧ k ≠ 24 + j ∧ k ≠ 30 + j) → w k = v k) : HX G' h s w := by
  refine ⟨?_, (hF _ (by omega)).trans hH.2.1, fun i hi => ?_⟩
  · rw [hF _ (by omega), hw 0 (by omega) (by omega), hw 1 (by omega) (by omega), hw 2 (by omega) (by omega), hw 3 (by omega) (by omega), hw 4 (by omega) (by omega), hw 5 (by omega) (by omega)]
    exact hH.1
  · by_cases e : i = j
    · subst e; exact hL
    · have := (hH.2.2 i hi).frm hF (by omega)
      unfold letL at this ⊢
      rw [hw (6 + i) (by omega) (by omega), hw (12 + i) (by omega) (by omega), hw (18 + i) (by omega) (by omega), hw (24 + i) (by omega) (by omega), hw (30 + i) (by omega) (by omega)]
      exact this
theorem becV_0 {v w : Nat → Int32} : ∀ k, k < 36 → upd (upd (upd (upd (upd (upd v 0 (w 0)) 1 (w 1)) 3 (w 3)) 2 (w 2)) 4 (w 4)) 5 (w 5) k = becV v w 0 k := by
  intro k hk
  unfold becV upd
  rcases (show k = 0 ∨ k = 1 ∨ k = 2 ∨ k = 3 ∨ k = 4 ∨ k = 5 ∨ 6 ≤ k by omega) with rfl | rfl | rfl | rfl | rfl | rfl | h <;> first | rfl | skip
  rw [if_neg (by omega), if_neg (by omega), if_neg (by omega), if_neg (by omega), if_neg (by omega), if_neg (by omega), if_neg (by omega), if_neg (by omega)]
theorem becV_s {v w : Nat → Int32} {j : Nat} (hj : j < 6) : ∀ k, k < 36 → (k ≠ 6 + j ∧ k ≠ 12 + j ∧ k ≠ 18 + j ∧ k ≠ 24 + j ∧ k ≠ 30 + j) → becV v w (j + 1) k = becV v w j k := by
  intro k hk hne
  unfold becV
  by_cases h6 : k < 6
  · rw [if_pos h6, if_pos h6]
  · rw [if_neg h6, if_neg h6]
    by_cases hq : (k - 6) % 6 < j
    · rw [if_pos (by omega), if_pos hq]
    · rw [if_neg (by omega), if_neg hq]
theorem becV_l {v w : Nat → Int32} {j m : Nat} (hj : j < 6) (hm : j < m) : letL (becV v w m) j = letL w j := by
  unfold letL becV
  rw [if_neg (by omega), if_pos (by omega), if_neg (by omega), if_pos (by omega), if_neg (by omega), if_pos (by omega), if_neg (by omega), if_pos (by omega), if_neg (by omega), if_pos (by omega)]
theorem ageV_n {v : Nat → Int32} {m k : Nat} (h : k < 30) : ageV v m k = v k := by
  unfold ageV
  rw [if_neg (by omega)]
theorem ageV_0 {v : Nat → Int32} : ∀ k, k < 36 → v k = ageV v 0 k := by
  intro k _
  unfold ageV
  rw [if_neg (by omega)]
theorem ageV_t {v : Nat → Int32} {j : Nat} (hb : behB v (nI j) = true) : ∀ k, k < 36 → upd (ageV v j) (30 + j) (mn99 (v (30 + j) + 1)) k = ageV v (j + 1) k := by
  intro k _
  unfold ageV upd
  by_cases h : k = 30 + j
  · subst h
    rw [if_pos rfl, if_pos ⟨by omega, by omega, by rw [show 30 + j - 30 = j by omega]; exact hb⟩]
  · rw [if_neg h]
    show (if 30 ≤ k ∧ k < 30 + j ∧ behB v (nI (k - 30)) = true then mn99 (v k + 1) else v k) = _
    by_cases q : 30 ≤ k ∧ k < 30 + j ∧ behB v (nI (k - 30)) = true
    · rw [if_pos q, if_pos ⟨q.1, by omega, q.2.2⟩]
    · rw [if_neg q, if_neg (fun z => q ⟨z.1, by omega, z.2.2⟩)]
theorem ageV_f {v : Nat → Int32} {j : Nat} (hb : ¬ behB v (nI j) = true) : ∀ k, k < 36 → ageV v j k = ageV v (j + 1) k := by
  intro k _
  unfold ageV
  by_cases q : 30 ≤ k ∧ k < 30 + j ∧ behB v (nI (k - 30)) = true
  · rw [if_pos q, if_pos ⟨q.1, by omega, q.2.2⟩]
  · rw [if_neg q, if_neg (fun z => q ⟨z.1, by
      by_cases e : k = 30 + j
      · subst e
        rw [show 30 + j - 30 = j by omega] at z
        exact absurd z.2.2 hb
      · omega, z.2.2⟩)]
theorem ageV_at {v : Nat → Int32} {j : Nat} : ageV v j (30 + j) = v (30 + j) := by
  unfold ageV
  rw [if_neg (by omega)]
theorem dayV_n {v : Nat → Int32} {k : Nat} (h : k < 30) (h2 : k ≠ 2) (h4 : k ≠ 4) : dayV v k = v k := by
  unfold dayV sumV
  rw [upd_n h2, ageV_n h, upd_n h4]
theorem c_H_clear {E : gX} {S : Nat} {G : gG} {Q : Option Value → gG → Prop} {h : Nat} {s : Int32} {v : Nat → Int32} (hH : HX G h s v) (hQ : ∀ G' : gG, HX G' h 0 (upd (upd (upd (upd (upd (upd v 0 0) 1 0) 3 0) 2 0) 4 0) 5 0) → Frm G G' h 8 → Q none G') : Runs E y_H_clear 1 0 S [.ref h] G Q := by
  refine Runs.of "ClockPost$House" [some (.ref h)] cw_H_clear (by decide) (by decide +kernel) rfl (Nat.le_of_ble_eq_true rfl) rfl (fun K hK => ?_)
  have hF : Frm G G h 8 := Frm.rf
  refine r_aload_n hK d_H_clear_0 rfl ?_
  refine r_iconst hK d_H_clear_1 kc_0 ?_
  refine p_H_stands hK lf_H_18 d_H_clear_2 hH rfl rfl (fun G2 hH f2 => ?_)
  have hF := hF.tr f2
  refine r_aload_n hK d_H_clear_5 rfl ?_
  refine r_iconst hK d_H_clear_6 kc_0 ?_
  refine p_H_letterCount hK lf_H_22 d_H_clear_7 hH (fun G7 hH f7 => ?_)
  have hF := hF.tr f7
  refine r_aload_n hK d_H_clear_10 rfl ?_
  refine r_iconst hK d_H_clear_11 kc_0 ?_
  refine p_H_gap hK lf_H_26 d_H_clear_12 hH (fun G12 hH f12 => ?_)
  have hF := hF.tr f12
  refine r_aload_n hK d_H_clear_15 rfl ?_
  refine r_iconst hK d_H_clear_16 kc_0 ?_
  refine p_H_behindBits hK lf_H_29 d_H_clear_17 hH (fun G17 hH f17 => ?_)
  have hF := hF.tr f17
  refine r_aload_n hK d_H_clear_20 rfl ?_
  refine r_iconst hK d_H_clear_21 kc_0 ?_
  refine p_H_day hK lf_H_32 d_H_clear_22 hH (fun G22 hH f22 => ?_)
  have hF := hF.tr f22
  refine r_aload_n hK d_H_clear_25 rfl ?_
  refine r_iconst hK d_H_clear_26 kc_0 ?_
  refine p_H_sum hK lf_H_35 d_H_clear_27 hH (fun G27 hH f27 => ?_)
  have hF := hF.tr f27
  refine r_aload_n hK d_H_clear_30 rfl ?_
  refine r_iconst hK d_H_clear_31 kc_0 ?_
  refine p_H_sorrow hK lf_H_38 d_H_clear_32 hH (fun G32 hH f32 => ?_)
  have hF := hF.tr f32
  refine r_vret hK rfl rfl d_H_clear_35 ?_
  exact hQ _ hH hF
theorem c_H_hasLetter {E : gX} {S : Nat} {G : gG} {Q : Option Value → gG → Prop} {h : Nat} {s : Int32} {v : Nat → Int32} (hH : HX G h s v) {i : Int32} (hQ : Q (some (.int (bI (hasL v i)))) G) : Runs E y_H_hasLetter 1 0 S [.ref h, .int i] G Q := by
  refine Runs.of "ClockPost$House" [some (.ref h), some (.int i)] cw_H_hasLetter (by decide) (by decide +kernel) rfl (Nat.le_of_ble_eq_true rfl) rfl (fun K hK => ?_)
  refine r_iload_n hK d_H_hasLetter_0 rfl ?_
  refine r_if_lt (tgt := 16) hK d_H_hasLetter_1 rfl (fun h1 => ?_) (fun h1 => ?_)
  · skip
    refine r_iconst hK d_H_hasLetter_16 kc_0 ?_
    refine r_zret hK rfl (rfl) rfl d_H_hasLetter_17 ?_
    first | exact rc hQ (bI_t (by clear hK hQ; simp only [hasL, Bool.and_eq_true, Bool.or_eq_true, Bool.not_eq_true', decide_eq_true_eq, decide_eq_false_iff_not, i_lt, i_le, i_eq, ti_0, ti_1, ti_2, ti_3, ti_4, ti_5, ti_6, ti_7, ti_8, ti_9, ti_10, ti_11, ti_12, ti_13, ti_14, ti_16, ti_20, ti_21, ti_22, ti_23, ti_24, ti_30, ti_31, ti_36, ti_40, ti_44, ti_48, ti_57, ti_59, ti_60, ti_61, ti_63, ti_64, ti_98, ti_99, ti_100, ti_101, ti_110, ti_115, ti_128, ti_255, ti_300, ti_900, ti_972, ti_999, ti_1000, ti_9999, ti_m1] at *; omega)) | exact rc hQ (bI_f (by intro hq; clear hK hQ; simp only [hasL, Bool.and_eq_true, Bool.or_eq_true, Bool.not_eq_true', decide_eq_true_eq, decide_eq_false_iff_not, i_lt, i_le, i_eq, ti_0, ti_1, ti_2, ti_3, ti_4, ti_5, ti_6, ti_7, ti_8, ti_9, ti_10, ti_11, ti_12, ti_13, ti_14, ti_16, ti_20, ti_21, ti_22, ti_23, ti_24, ti_30, ti_31, ti_36, ti_40, ti_44, ti_48, ti_57, ti_59, ti_60, ti_61, ti_63, ti_64, ti_98, ti_99, ti_100, ti_101, ti_110, ti_115, ti_128, ti_255, ti_300, ti_900, ti_972, ti_999, ti_1000, ti_9999, ti_m1] at *; omega))
  · skip
    refine r_iload_n hK d_H_hasLetter_4 rfl ?_
    refine r_aload_n hK d_H_hasLetter_5 rfl ?_
    refine r_get hK lf_H_22 d_H_hasLetter_6 (hH.1) rfl ?_
    refine r_icmp_ge (tgt := 16) hK d_H_hasLetter_9 rfl (fun h9 => ?_) (fun h9 => ?_)
    · skip
      refine r_iconst hK d_H_hasLetter_16 kc_0 ?_
      refine r_zret hK rfl (rfl) rfl d_H_hasLetter_17 ?_
      first | exact rc hQ (bI_t (by clear hK hQ; simp only [hasL, Bool.and_eq_true, Bool.or_eq_true, Bool.not_eq_true', decide_eq_true_eq, decide_eq_false_iff_not, i_lt, i_le, i_eq, ti_0, ti_1, ti_2, ti_3, ti_4, ti_5, ti_6, ti_7, ti_8, ti_9, ti_10, ti_11, ti_12, ti_13, ti_14, ti_16, ti_20, ti_21, ti_22, ti_23, ti_24, ti_30, ti_31, ti_36, ti_40, ti_44, ti_48, ti_57, ti_59, ti_60, ti_61, ti_63, ti_64, ti_98, ti_99, ti_100, ti_101, ti_110, ti_115, ti_128, ti_255, ti_300, ti_900, ti_972, ti_999, ti_1000, ti_9999, ti_m1] at *; omega)) | exact rc hQ (bI_f (by intro hq; clear hK hQ; simp only [hasL, Bool.and_eq_true, Bool.or_eq_true, Bool.not_eq_true', decide_eq_true_eq, decide_eq_false_iff_not, i_lt, i_le, i_eq, ti_0, ti_1, ti_2, ti_3, ti_4, ti_5, ti_6, ti_7, ti_8, ti_9, ti_10, ti_11, ti_12, ti_13, ti_14, ti_16, ti_20, ti_21, ti_22, ti_23, ti_24, ti_30, ti_31, ti_36, ti_40, ti_44, ti_48, ti_57, ti_59, ti_60, ti_61, ti_63, ti_64, ti_98, ti_99, ti_100, ti_101, ti_110, ti_115, ti_128, ti_255, ti_300, ti_900, ti_972, ti_999, ti_1000, ti_9999, ti_m1] at *; omega))
    · skip
      refine r_iconst hK d_H_hasLetter_12 kc_1 ?_
      refine r_goto (tgt := 17) hK d_H_hasLetter_13 rfl ?_
      refine r_zret hK rfl (rfl) rfl d_H_hasLetter_17 ?_
      first | exact rc hQ (bI_t (by clear hK hQ; simp only [hasL, Bool.and_eq_true, Bool.or_eq_true, Bool.not_eq_true', decide_eq_true_eq, decide_eq_false_iff_not, i_lt, i_le, i_eq, ti_0, ti_1, ti_2, ti_3, ti_4, ti_5, ti_6, ti_7, ti_8, ti_9, ti_10, ti_11, ti_12, ti_13, ti_14, ti_16, ti_20, ti_21, ti_22, ti_23, ti_24, ti_30, ti_31, ti_36, ti_40, ti_44, ti_48, ti_57, ti_59, ti_60, ti_61, ti_63, ti_64, ti_98, ti_99, ti_100, ti_101, ti_110, ti_115, ti_128, ti_255, ti_300, ti_900, ti_972, ti_999, ti_1000, ti_9999, ti_m1] at *; omega)) | exact rc hQ (bI_f (by intro hq; clear hK hQ; simp only [hasL, Bool.and_eq_true, Bool.or_eq_true, Bool.not_eq_true', decide_eq_true_eq, decide_eq_false_iff_not, i_lt, i_le, i_eq, ti_0, ti_1, ti_2, ti_3, ti_4, ti_5, ti_6, ti_7, ti_8, ti_9, ti_10, ti_11, ti_12, ti_13, ti_14, ti_16, ti_20, ti_21, ti_22, ti_23, ti_24, ti_30, ti_31, ti_36, ti_40, ti_44, ti_48, ti_57, ti_59, ti_60, ti_61, ti_63, ti_64, ti_98, ti_99, ti_100, ti_101, ti_110, ti_115, ti_128, ti_255, ti_300, ti_900, ti_972, ti_999, ti_1000, ti_9999, ti_m1] at *; omega))
theorem c_H_isBehind {E : gX} {S : Nat} {G : gG} {Q : Option Value → gG → Prop} {h : Nat} {s : Int32} {v : Nat → Int32} (hH : HX G h s v) {i : Int32} (hQ : Q (some (.int (bI (behB v i)))) G) : Runs E y_H_isBehind 2 0 S [.ref h, .int i] G Q := by
  refine Runs.of "ClockPost$House" [some (.ref h), some (.int i)] cw_H_isBehind (by decide) (by decide +kernel) rfl (Nat.le_of_ble_eq_true rfl) rfl (fun K hK => ?_)
  refine r_aload_n hK d_H_isBehind_0 rfl ?_
  refine r_iload_n hK d_H_isBehind_1 rfl ?_
  refine r_v1 (k' := 1) hK lm_H_45 d_H_isBehind_2 ⟨_, hH.1⟩ (by decide) (Nat.le_of_ble_eq_true rfl) ?_
  refine c_H_hasLetter hH (kc_s ?_)
  refine r_if_eq (tgt := 24) hK d_H_isBehind_5 rfl (fun h5 => ?_) (fun h5 => ?_)
  · skip
    have hb := bI_0.mp h5
    refine r_iconst hK d_H_isBehind_24 kc_0 ?_
    refine r_zret hK rfl (rfl) rfl d_H_isBehind_25 ?_
    first | exact rc hQ (bI_t (by simp [behB, hb, bitB, *])) | exact rc hQ (bI_f (by simp [behB, hb, bitB, *]))
  · skip
    have hb := bI_n0.mp h5
    refine r_aload_n hK d_H_isBehind_8 rfl ?_
    refine r_get hK lf_H_29 d_H_isBehind_9 (hH.1) rfl ?_
    refine r_iload_n hK d_H_isBehind_12 rfl ?_
    refine r_ishr hK d_H_isBehind_13 ?_
    refine r_iconst hK d_H_isBehind_14 kc_1 ?_
    refine r_iand hK d_H_isBehind_15 ?_
    refine r_iconst hK d_H_isBehind_16 kc_1 ?_
    refine r_icmp_ne (tgt := 24) hK d_H_isBehind_17 rfl (fun h17 => ?_) (fun h17 => ?_)
    · skip
      refine r_iconst hK d_H_isBehind_24 kc_0 ?_
      refine r_zret hK rfl (rfl) rfl d_H_isBehind_25 ?_
      first | exact rc hQ (bI_t (by simp [behB, hb, bitB, *])) | exact rc hQ (bI_f (by simp [behB, hb, bitB, *]))
    · skip
      refine r_iconst hK d_H_isBehind_20 kc_1 ?_
      refine r_goto (tgt := 25) hK d_H_isBehind_21 rfl ?_
      refine r_zret hK rfl (rfl) rfl d_H_isBehind_25 ?_
      first | exact rc hQ (bI_t (by simp [behB, hb, bitB, *])) | exact rc hQ (bI_f (by simp [behB, hb, bitB, *]))
theorem c_H_become {E : gX} {S : Nat} {G : gG} {Q : Option Value → gG → Prop} {h o : Nat} {s : Int32} {b : Bool} {v w : Nat → Int32} (hH : HX G h s v) (hO : HX G o (bI b) w) (hn : nN (w 0) ≤ 6) (hd : h + 8 ≤ o ∨ o + 8 ≤ h) (hQ : ∀ G' : gG, HX G' h (bI b) (becV v w (nN (w 0))) → Frm G G' h 8 → Q none G') : Runs E y_H_become 2 0 S [.ref h, .ref o] G Q := by
  refine Runs.of "ClockPost$House" [some (.ref h), some (.ref o), none] cw_H_become (by decide) (by decide +kernel) rfl (Nat.le_of_ble_eq_true rfl) rfl (fun K hK => ?_)
  have hF : Frm G G h 8 := Frm.rf
  refine r_aload_n hK d_H_become_0 rfl ?_
  refine r_aload_n hK d_H_become_1 rfl ?_
  refine r_get hK lf_H_18 d_H_become_2 (hO.1) rfl ?_
  refine p_H_stands hK lf_H_18 d_H_become_5 hH (bI_nar b) (bI_fit b) (fun G5 hH f5 => ?_)
  have hF := hF.tr f5
  have hO := hO.frm f5 (by omega)
  refine r_aload_n hK d_H_become_8 rfl ?_
  refine r_aload_n hK d_H_become_9 rfl ?_
  refine r_get hK lf_H_22 d_H_become_10 (hO.1) rfl ?_
  refine p_H_letterCount hK lf_H_22 d_H_become_13 hH (fun G13 hH f13 => ?_)
  have hF := hF.tr f13
  have hO := hO.frm f13 (by omega)
  refine r_aload_n hK d_H_become_16 rfl ?_
  refine r_aload_n hK d_H_become_17 rfl ?_
  refine r_get hK lf_H_26 d_H_become_18 (hO.1) rfl ?_
  refine p_H_gap hK lf_H_26 d_H_become_21 hH (fun G21 hH f21 => ?_)
  have hF := hF.tr f21
  have hO := hO.frm f21 (by omega)
  refine r_aload_n hK d_H_become_24 rfl ?_
  refine r_aload_n hK d_H_become_25 rfl ?_
  refine r_get hK lf_H_29 d_H_become_26 (hO.1) rfl ?_
  refine p_H_behindBits hK lf_H_29 d_H_become_29 hH (fun G29 hH f29 => ?_)
  have hF := hF.tr f29
  have hO := hO.frm f29 (by omega)
  refine r_aload_n hK d_H_become_32 rfl ?_
  refine r_aload_n hK d_H_become_33 rfl ?_
  refine r_get hK lf_H_32 d_H_become_34 (hO.1) rfl ?_
  refine p_H_day hK lf_H_32 d_H_become_37 hH (fun G37 hH f37 => ?_)
  have hF := hF.tr f37
  have hO := hO.frm f37 (by omega)
  refine r_aload_n hK d_H_become_40 rfl ?_
  refine r_aload_n hK d_H_become_41 rfl ?_
  refine r_get hK lf_H_35 d_H_become_42 (hO.1) rfl ?_
  refine p_H_sum hK lf_H_35 d_H_become_45 hH (fun G45 hH f45 => ?_)
  have hF := hF.tr f45
  have hO := hO.frm f45 (by omega)
  refine r_aload_n hK d_H_become_48 rfl ?_
  refine r_aload_n hK d_H_become_49 rfl ?_
  refine r_get hK lf_H_38 d_H_become_50 (hO.1) rfl ?_
  refine p_H_sorrow hK lf_H_38 d_H_become_53 hH (fun G53 hH f53 => ?_)
  have hF := hF.tr f53
  have hO := hO.frm f53 (by omega)
  have hH := hH.cast becV_0
  refine r_iconst hK d_H_become_56 kc_0 ?_
  refine st_in_2_3 hK d_H_become_57 trivial ?_
  suffices L : ∀ j, j ≤ nN (w 0) → ∀ G1 : gG, HX G1 h (bI b) (becV v w j) → HX G1 o (bI b) w → Frm G G1 h 8 → K 58 [some (.ref h), some (.ref o), some (.int (nI j))] [] S G1 from L 0 (Nat.zero_le _) _ hH hO hF
  refine lpN (nN (w 0)) (fun j hj ih G1 hH hO hF => ?_)
  have e0 : becV v w j 0 = w 0 := rfl
  refine r_iload_n hK d_H_become_58 rfl ?_
  refine r_aload_n hK d_H_become_59 rfl ?_
  refine r_get hK lf_H_22 d_H_become_60 (hH.1) rfl ?_
  refine r_icmp_ge (tgt := 87) hK d_H_become_63 rfl (fun h63 => ?_) (fun h63 => ?_)
  · skip
    have hq : j = nN (w 0) := by have := (ge_nN (by omega)).mp h63; rw [e0] at this; omega
    refine r_vret hK rfl rfl d_H_become_87 ?_
    exact hQ _ (hq ▸ hH) hF
  · skip
    have hq : j < nN (w 0) := (lt_nN (by omega)).mp (Int32.not_le.mp (by rw [← e0]; exact h63))
    have hj6 : j < 6 := by omega
    refine r_aload_n hK d_H_become_66 rfl ?_
    refine r_get hK lf_H_11 d_H_become_67 (hH.1) rfl ?_
    refine r_iload_n hK d_H_become_70 rfl ?_
    refine g_let hK d_H_become_71 hH hj6 ?_
    refine r_aload_n hK d_H_become_72 rfl ?_
    refine r_get hK lf_H_11 d_H_become_73 (hO.1) rfl ?_
    refine r_iload_n hK d_H_become_76 rfl ?_
    refine g_let hK d_H_become_77 hO hj6 ?_
    refine r_v1 (k' := 1) hK lm_H_41 d_H_become_78 ⟨_, hH.2.2 j hj6⟩ (by decide) (Nat.le_of_ble_eq_true rfl) ?_
    refine c_L_become (hH.2.2 j hj6) (hO.2.2 j hj6) (by omega) (fun G78 hL f78 => kc_n ?_)
    have hO := hO.frm f78 (by omega)
    have hH := hH.setL2 hj6 ((becV_l (m := j + 1) hj6 (by omega)).symm ▸ hL : LX G78 _ (letL (becV v w (j + 1)) j)) f78 (becV_s hj6)
    have hF := hF.tr (f78.mono (by omega) (by omega))
    first | refine iN_2_3 hK d_H_become_81 trivial ?_ | refine ii_2_1_3 hK d_H_become_81 trivial ?_
    refine r_goto (tgt := 58) hK d_H_become_84 rfl ?_
    exact ih hq _ hH hO hF
theorem c_H_weightOf {E : gX} {S : Nat} {G : gG} {Q : Option Value → gG → Prop} {h : Nat} {s : Int32} {v : Nat → Int32} (hH : HX G h s v) {j : Nat} (hj : j < 6) (hQ : Q (some (.int (wOf v j))) G) : Runs E y_H_weightOf 3 0 S [.ref h, .int (nI j)] G Q := by
  refine Runs.of "ClockPost$House" [some (.ref h), some (.int (nI j))] cw_H_weightOf (by decide) (by decide +kernel) rfl (Nat.le_of_ble_eq_true rfl) rfl (fun K hK => ?_)
  refine r_aload_n hK d_H_weightOf_0 rfl ?_
  refine r_iload_n hK d_H_weightOf_1 rfl ?_
  refine r_v1 (k' := 2) hK lm_H_49 d_H_weightOf_2 ⟨_, hH.1⟩ (by decide) (Nat.le_of_ble_eq_true rfl) ?_
  refine c_H_isBehind hH (kc_s ?_)
  refine r_if_eq (tgt := 29) hK d_H_weightOf_5 rfl (fun h5 => ?_) (fun h5 => ?_)
  · skip
    have hb := bI_0.mp h5
    refine r_iconst hK d_H_weightOf_29 kc_0 ?_
    refine r_iret hK rfl rfl d_H_weightOf_30 ?_
    first | exact rc hQ (by rw [wOf, if_pos hb]) | exact rc hQ (by rw [wOf, if_neg (by simp [hb])])
  · skip
    have hb := bI_n0.mp h5
    refine r_aload_n hK d_H_weightOf_8 rfl ?_
    refine r_get hK lf_H_11 d_H_weightOf_9 (hH.1) rfl ?_
    refine r_iload_n hK d_H_weightOf_12 rfl ?_
    refine g_let hK d_H_weightOf_13 hH hj ?_
    refine r_aload_n hK d_H_weightOf_14 rfl ?_
    refine r_get hK lf_H_29 d_H_weightOf_15 (hH.1) rfl ?_
    refine r_s1 (k' := 1) hK lm_H_52 d_H_weightOf_18 (by decide) (Nat.le_of_ble_eq_true rfl) ?_
    refine c_JI_bitCount (kc_s ?_)
    refine r_iconst hK d_H_weightOf_21 kc_1 ?_
    refine r_isub hK d_H_weightOf_22 ?_
    refine r_v1 (k' := 1) hK lm_H_58 d_H_weightOf_23 ⟨_, hH.2.2 j hj⟩ (by decide) (Nat.le_of_ble_eq_true rfl) ?_
    refine c_L_weighAmong (hH.2.2 j hj) (kc_s ?_)
    refine r_goto (tgt := 30) hK d_H_weightOf_26 rfl ?_
    refine r_iret hK rfl rfl d_H_weightOf_30 ?_
    first | exact rc hQ (by rw [wOf, if_pos hb]) | exact rc hQ (by rw [wOf, if_neg (by simp [hb])])
theorem c_H_weight {E : gX} {S : Nat} {G : gG} {Q : Option Value → gG → Prop} {h : Nat} {s : Int32} {v : Nat → Int32} (hH : HX G h s v) (hn : nN (v 0) ≤ 6) (hQ : Q (some (.int (wght v))) G) : Runs E y_H_weight 4 0 S [.ref h] G Q := by
  refine Runs.of "ClockPost$House" [some (.ref h), none, none] cw_H_weight (by decide) (by decide +kernel) rfl (Nat.le_of_ble_eq_true rfl) rfl (fun K hK => ?_)
  refine r_iconst hK d_H_weight_0 kc_0 ?_
  refine st_in_1_3 hK d_H_weight_1 trivial ?_
  refine r_iconst hK d_H_weight_2 kc_0 ?_
  refine st_in_2_3 hK d_H_weight_3 trivial ?_
  suffices L : ∀ j, j ≤ nN (v 0) → K 4 [some (.ref h), some (.int (wSum v j)), some (.int (nI j))] [] S G from L 0 (Nat.zero_le _)
  refine lpN (nN (v 0)) (fun j hj ih => ?_)
  refine r_iload_n hK d_H_weight_4 rfl ?_
  refine r_aload_n hK d_H_weight_5 rfl ?_
  refine r_get hK lf_H_22 d_H_weight_6 (hH.1) rfl ?_
  refine r_icmp_ge (tgt := 26) hK d_H_weight_9 rfl (fun h9 => ?_) (fun h9 => ?_)
  · skip
    have hq : j = nN (v 0) := by have := (ge_nN (by omega)).mp h9; omega
    refine r_iload_n hK d_H_weight_26 rfl ?_
    refine r_iret hK rfl rfl d_H_weight_27 ?_
    exact rc hQ (by rw [wght, hq])
  · skip
    have hq : j < nN (v 0) := (lt_nN (by omega)).mp (Int32.not_le.mp h9)
    refine r_iload_n hK d_H_weight_12 rfl ?_
    refine r_aload_n hK d_H_weight_13 rfl ?_
    refine r_iload_n hK d_H_weight_14 rfl ?_
    refine r_v1 (k' := 3) hK lm_H_61 d_H_weight_15 ⟨_, hH.1⟩ (by decide) (Nat.le_of_ble_eq_true rfl) ?_
    refine c_H_weightOf hH (by omega) (kc_s ?_)
    refine r_iadd hK d_H_weight_18 ?_
    refine st_in_1_3 hK d_H_weight_19 trivial ?_
    first | refine iN_2_3 hK d_H_weight_20 trivial ?_ | refine ii_2_1_3 hK d_H_weight_20 trivial ?_
    refine r_goto (tgt := 4) hK d_H_weight_23 rfl ?_
    exact ih hq
theorem c_H_thickness {E : gX} {S : Nat} {G : gG} {Q : Option Value → gG → Prop} {h : Nat} {s : Int32} {v : Nat → Int32} (hH : HX G h s v) (hn : nN (v 0) ≤ 6) (hQ : Q (some (.int (thck v))) G) : Runs E y_H_thickness 3 0 S [.ref h] G Q := by
  refine Runs.of "ClockPost$House" [some (.ref h), none, none] cw_H_thickness (by decide) (by decide +kernel) rfl (Nat.le_of_ble_eq_true rfl) rfl (fun K hK => ?_)
  refine r_iconst hK d_H_thickness_0 kc_0 ?_
  refine st_in_1_3 hK d_H_thickness_1 trivial ?_
  refine r_iconst hK d_H_thickness_2 kc_0 ?_
  refine st_in_2_3 hK d_H_thickness_3 trivial ?_
  suffices L : ∀ j, j ≤ nN (v 0) → K 4 [some (.ref h), some (.int (tSum v j)), some (.int (nI j))] [] S G from L 0 (Nat.zero_le _)
  refine lpN (nN (v 0)) (fun j hj ih => ?_)
  refine r_iload_n hK d_H_thickness_4 rfl ?_
  refine r_aload_n hK d_H_thickness_5 rfl ?_
  refine r_get hK lf_H_22 d_H_thickness_6 (hH.1) rfl ?_
  refine r_icmp_ge (tgt := 42) hK d_H_thickness_9 rfl (fun h9 => ?_) (fun h9 => ?_)
  · skip
    have hq : j = nN (v 0) := by have := (ge_nN (by omega)).mp h9; omega
    refine r_iload_n hK d_H_thickness_42 rfl ?_
    refine r_iret hK rfl rfl d_H_thickness_43 ?_
    exact rc hQ (by rw [thck, hq])
  · skip
    have hq : j < nN (v 0) := (lt_nN (by omega)).mp (Int32.not_le.mp h9)
    refine r_iload_n hK d_H_thickness_12 rfl ?_
    refine r_aload_n hK d_H_thickness_13 rfl ?_
    refine r_iload_n hK d_H_thickness_14 rfl ?_
    refine r_v1 (k' := 2) hK lm_H_49 d_H_thickness_15 ⟨_, hH.1⟩ (by decide) (Nat.le_of_ble_eq_true rfl) ?_
    refine c_H_isBehind hH (kc_s ?_)
    refine r_if_eq (tgt := 33) hK d_H_thickness_18 rfl (fun h18 => ?_) (fun h18 => ?_)
    · skip
      have hb := bI_0.mp h18
      have e : tSum v (j + 1) = tSum v j + 0 := by rw [tSum, if_neg (by simp [hb])]
      refine r_iconst hK d_H_thickness_33 kc_0 ?_
      refine r_iadd hK d_H_thickness_34 ?_
      refine st_in_1_3 hK d_H_thickness_35 trivial ?_
      first | refine iN_2_3 hK d_H_thickness_36 trivial ?_ | refine ii_2_1_3 hK d_H_thickness_36 trivial ?_
      refine r_goto (tgt := 4) hK d_H_thickness_39 rfl ?_
      exact e ▸ ih hq
    · skip
      have hb := bI_n0.mp h18
      have e : tSum v (j + 1) = tSum v j + v (18 + j) := by rw [tSum, if_pos hb]
      refine r_aload_n hK d_H_thickness_21 rfl ?_
      refine r_get hK lf_H_11 d_H_thickness_22 (hH.1) rfl ?_
      refine r_iload_n hK d_H_thickness_25 rfl ?_
      refine g_let hK d_H_thickness_26 hH (show j < 6 by omega) ?_
      refine r_get hK lf_H_64 d_H_thickness_27 (hH.2.2 j (by omega)) rfl ?_
      refine r_goto (tgt := 34) hK d_H_thickness_30 rfl ?_
      refine r_iadd hK d_H_thickness_34 ?_
      refine st_in_1_3 hK d_H_thickness_35 trivial ?_
      first | refine iN_2_3 hK d_H_thickness_36 trivial ?_ | refine ii_2_1_3 hK d_H_thickness_36 trivial ?_
      refine r_goto (tgt := 4) hK d_H_thickness_39 rfl ?_
      exact e ▸ ih hq
theorem c_H_takeAway {E : gX} {S : Nat} {G : gG} {Q : Option Value → gG → Prop} {h : Nat} {s : Int32} {v : Nat → Int32} (hH : HX G h s v) {i g : Int32} (hQ : ∀ G' : gG, HX G' h s (awayV v i g) → Frm G G' h 8 → Q none G') : Runs E y_H_takeAway 2 0 S [.ref h, .int i, .int g] G Q := by
  refine Runs.of "ClockPost$House" [some (.ref h), some (.int i), some (.int g)] cw_H_takeAway (by decide) (by decide +kernel) rfl (Nat.le_of_ble_eq_true rfl) rfl (fun K hK => ?_)
  have hF : Frm G G h 8 := Frm.rf
  refine r_aload_n hK d_H_takeAway_0 rfl ?_
  refine r_dup hK d_H_takeAway_1 rfl ?_
  refine r_get hK lf_H_29 d_H_takeAway_2 (hH.1) rfl ?_
  refine r_iconst hK d_H_takeAway_5 kc_1 ?_
  refine r_iload_n hK d_H_takeAway_6 rfl ?_
  refine r_ishl hK d_H_takeAway_7 ?_
  refine r_iconst hK d_H_takeAway_8 kc_m1 ?_
  refine r_ixor hK d_H_takeAway_9 ?_
  refine r_iand hK d_H_takeAway_10 ?_
  refine p_H_behindBits hK lf_H_29 d_H_takeAway_11 hH (fun G11 hH f11 => ?_)
  have hF := hF.tr f11
  refine r_aload_n hK d_H_takeAway_14 rfl ?_
  refine r_sipush hK d_H_takeAway_15 ks_9999 ?_
  refine r_aload_n hK d_H_takeAway_18 rfl ?_
  refine r_get hK lf_H_38 d_H_takeAway_19 (hH.1) rfl ?_
  refine r_iload_n hK d_H_takeAway_22 rfl ?_
  refine r_iadd hK d_H_takeAway_23 ?_
  refine r_mmin hK wo_H_71 (by decide) (Nat.le_of_ble_eq_true rfl) (Nat.le_refl _) d_H_takeAway_24 ?_
  refine p_H_sorrow hK lf_H_38 d_H_takeAway_27 hH (fun G27 hH f27 => ?_)
  have hF := hF.tr f27
  refine r_vret hK rfl rfl d_H_takeAway_30 ?_
  exact hQ _ hH hF
theorem c_H_nextToFall {E : gX} {S : Nat} {G : gG} {Q : Option Value → gG → Prop} {h : Nat} {s : Int32} {v : Nat → Int32} (hH : HX G h s v) (hn : nN (v 0) ≤ 6) (hQ : Q (some (.int (oI (ntf v (nN (v 0)))))) G) : Runs E y_H_nextToFall 3 0 S [.ref h] G Q := by
  refine Runs.of "ClockPost$House" [some (.ref h), none, none] cw_H_nextToFall (by decide) (by decide +kernel) rfl (Nat.le_of_ble_eq_true rfl) rfl (fun K hK => ?_)
  refine r_ldc hK d_H_nextToFall_0 lc_H_80 ?_
  refine st_in_1_3 hK d_H_nextToFall_2 trivial ?_
  refine r_iconst hK d_H_nextToFall_3 kc_0 ?_
  refine st_in_2_3 hK d_H_nextToFall_4 trivial ?_
  suffices L : ∀ j, j ≤ nN (v 0) → K 5 [some (.ref h), some (.int (oI (ntf v j))), some (.int (nI j))] [] S G from L 0 (Nat.zero_le _)
  refine lpN (nN (v 0)) (fun j hj ih => ?_)
  refine r_iload_n hK d_H_nextToFall_5 rfl ?_
  refine r_aload_n hK d_H_nextToFall_6 rfl ?_
  refine r_get hK lf_H_22 d_H_nextToFall_7 (hH.1) rfl ?_
  refine r_icmp_ge (tgt := 55) hK d_H_nextToFall_10 rfl (fun h10 => ?_) (fun h10 => ?_)
  · skip
    have hq : j = nN (v 0) := by have := (ge_nN (by omega)).mp h10; omega
    refine r_iload_n hK d_H_nextToFall_55 rfl ?_
    refine r_iret hK rfl rfl d_H_nextToFall_56 ?_
    exact rc hQ (by rw [hq])
  · skip
    have hq : j < nN (v 0) := (lt_nN (by omega)).mp (Int32.not_le.mp h10)
    refine r_aload_n hK d_H_nextToFall_13 rfl ?_
    refine r_iload_n hK d_H_nextToFall_14 rfl ?_
    refine r_v1 (k' := 2) hK lm_H_49 d_H_nextToFall_15 ⟨_, hH.1⟩ (by decide) (Nat.le_of_ble_eq_true rfl) ?_
    refine c_H_isBehind hH (kc_s ?_)
    refine r_if_eq (tgt := 49) hK d_H_nextToFall_18 rfl (fun h18 => ?_) (fun h18 => ?_)
    · skip
      have hb := bI_0.mp h18
      have e : ntf v (j + 1) = ntf v j := by simp [ntf, hb]
      first | refine iN_2_3 hK d_H_nextToFall_49 trivial ?_ | refine ii_2_1_3 hK d_H_nextToFall_49 trivial ?_
      refine r_goto (tgt := 5) hK d_H_nextToFall_52 rfl ?_
      have hr := ih hq
      rw [e] at hr
      exact hr
    · skip
      have hb := bI_n0.mp h18
      refine r_aload_n hK d_H_nextToFall_21 rfl ?_
      refine r_iload_n hK d_H_nextToFall_22 rfl ?_
      refine r_v1 (k' := 1) hK lm_H_45 d_H_nextToFall_23 ⟨_, hH.1⟩ (by decide) (Nat.le_of_ble_eq_true rfl) ?_
      refine c_H_hasLetter hH (kc_s ?_)
      refine r_if_eq (tgt := 47) hK d_H_nextToFall_26 rfl (fun h26 => ?_) (fun h26 => ?_)
      · skip
        have hz := bI_0.mp h26
        have hc : ∀ k, ntf v j = some k → fAh v j k = true := fun k hk => by
          have := hasL_nI (v := v) (j := k) (Nat.lt_of_lt_of_le (ntf_lt hk).1 hj)
          rw [hk] at hz
          rw [show oI (some k) = nI k from rfl, this] at hz
          cases hz
        have e : ntf v (j + 1) = some j := by rw [ntf, if_pos ⟨hb, hc⟩]
        refine r_iload_n hK d_H_nextToFall_47 rfl ?_
        refine st_in_1_3 hK d_H_nextToFall_48 trivial ?_
        first | refine iN_2_3 hK d_H_nextToFall_49 trivial ?_ | refine ii_2_1_3 hK d_H_nextToFall_49 trivial ?_
        refine r_goto (tgt := 5) hK d_H_nextToFall_52 rfl ?_
        have hr := ih hq
        rw [e] at hr
        exact hr
      · skip
        have hz := bI_n0.mp h26
        obtain ⟨k, hk⟩ : ∃ k, ntf v j = some k := by
          cases hk : ntf v j with
          | none => rw [hk] at hz; rw [show oI none = -1000000 from rfl, hasL_m] at hz; cases hz
          | some k => exact ⟨k, rfl⟩
        have hkj := (ntf_lt hk).1
        rw [hk]
        show K 29 [_, some (.int (nI k)), _] _ _ _
        refine r_aload_n hK d_H_nextToFall_29 rfl ?_
        refine r_get hK lf_H_11 d_H_nextToFall_30 (hH.1) rfl ?_
        refine r_iload_n hK d_H_nextToFall_33 rfl ?_
        refine g_let hK d_H_nextToFall_34 hH (show j < 6 by omega) ?_
        refine r_aload_n hK d_H_nextToFall_35 rfl ?_
        refine r_get hK lf_H_11 d_H_nextToFall_36 (hH.1) rfl ?_
        refine r_iload_n hK d_H_nextToFall_39 rfl ?_
        refine g_let hK d_H_nextToFall_40 hH (show k < 6 by omega) ?_
        refine r_v1 (k' := 1) hK lm_H_94 d_H_nextToFall_41 ⟨_, hH.2.2 j (by omega)⟩ (by decide) (Nat.le_of_ble_eq_true rfl) ?_
        refine c_L_fallsAheadOf (hH.2.2 j (by omega)) (hH.2.2 k (by omega)) (kc_s ?_)
        refine r_if_eq (tgt := 49) hK d_H_nextToFall_44 rfl (fun h44 => ?_) (fun h44 => ?_)
        · skip
          have hy := bI_0.mp h44
          have e : ntf v (j + 1) = some k := by
            rw [ntf, if_neg (fun q => by have := q.2 k hk; unfold fAh at this; rw [hy] at this; cases this), hk]
          first | refine iN_2_3 hK d_H_nextToFall_49 trivial ?_ | refine ii_2_1_3 hK d_H_nextToFall_49 trivial ?_
          refine r_goto (tgt := 5) hK d_H_nextToFall_52 rfl ?_
          have hr := ih hq
          rw [e] at hr
          exact hr
        · skip
          have hy := bI_n0.mp h44
          have e : ntf v (j + 1) = some j := by
            rw [ntf, if_pos ⟨hb, fun k2 hk2 => by rw [hk] at hk2; cases hk2; exact hy⟩]
          refine r_iload_n hK d_H_nextToFall_47 rfl ?_
          refine st_in_1_3 hK d_H_nextToFall_48 trivial ?_
          first | refine iN_2_3 hK d_H_nextToFall_49 trivial ?_ | refine ii_2_1_3 hK d_H_nextToFall_49 trivial ?_
          refine r_goto (tgt := 5) hK d_H_nextToFall_52 rfl ?_
          have hr := ih hq
          rw [e] at hr
          exact hr
theorem c_H_passDay {E : gX} {S : Nat} {G : gG} {Q : Option Value → gG → Prop} {h : Nat} {s : Int32} {v : Nat → Int32} (hH : HX G h s v) (hn : nN (v 0) ≤ 6) (hQ : ∀ G' : gG, HX G' h s (passV v).1 → Frm G G' h 8 → Q (some (.int (oI (passV v).2))) G') : Runs E y_H_passDay 5 0 S [.ref h] G Q := by
  refine Runs.of "ClockPost$House" [some (.ref h), none, none, none] cw_H_passDay (by decide) (by decide +kernel) rfl (Nat.le_of_ble_eq_true rfl) rfl (fun K hK => ?_)
  have hF : Frm G G h 8 := Frm.rf
  refine r_aload_n hK d_H_passDay_0 rfl ?_
  refine r_sipush hK d_H_passDay_1 ks_9999 ?_
  refine r_aload_n hK d_H_passDay_4 rfl ?_
  refine r_get hK lf_H_35 d_H_passDay_5 (hH.1) rfl ?_
  refine r_aload_n hK d_H_passDay_8 rfl ?_
  refine r_v0 (k' := 4) hK lm_H_67 d_H_passDay_9 ⟨_, hH.1⟩ (by decide) (Nat.le_of_ble_eq_true rfl) ?_
  refine c_H_weight hH hn (kc_s ?_)
  refine r_iadd hK d_H_passDay_12 ?_
  refine r_mmin hK wo_H_71 (by decide) (Nat.le_of_ble_eq_true rfl) (Nat.le_refl _) d_H_passDay_13 ?_
  refine p_H_sum hK lf_H_35 d_H_passDay_16 hH (fun G16 hH f16 => ?_)
  have hF := hF.tr f16
  refine r_iconst hK d_H_passDay_19 kc_0 ?_
  refine st_in_1_4 hK d_H_passDay_20 trivial ?_
  suffices L : ∀ j, j ≤ nN (v 0) → ∀ G1 : gG, HX G1 h s (ageV (sumV v) j) → Frm G G1 h 8 → K 21 [some (.ref h), some (.int (nI j)), none, none] [] S G1 from L 0 (Nat.zero_le _) _ (hH.cast ageV_0) hF
  refine lpN (nN (v 0)) (fun j hj ih G1 hH hF => ?_)
  have e0 : ageV (sumV v) j 0 = v 0 := ageV_n (by omega)
  have e3 : ageV (sumV v) j 3 = v 3 := ageV_n (by omega)
  refine r_iload_n hK d_H_passDay_21 rfl ?_
  refine r_aload_n hK d_H_passDay_22 rfl ?_
  refine r_get hK lf_H_22 d_H_passDay_23 (hH.1) rfl ?_
  refine r_icmp_ge (tgt := 68) hK d_H_passDay_26 rfl (fun h26 => ?_) (fun h26 => ?_)
  · skip
    have hq : j = nN (v 0) := by have := (ge_nN (by omega)).mp h26; rw [e0] at this; omega
    subst hq
    refine r_aload_n hK d_H_passDay_68 rfl ?_
    refine r_dup hK d_H_passDay_69 rfl ?_
    refine r_get hK lf_H_32 d_H_passDay_70 (hH.1) rfl ?_
    refine r_iconst hK d_H_passDay_73 kc_1 ?_
    refine r_iadd hK d_H_passDay_74 ?_
    rw [show ageV (sumV v) (nN (v 0)) 2 = v 2 from ageV_n (by omega)]
    refine p_H_day hK lf_H_32 d_H_passDay_75 hH (fun G75 hH f75 => ?_)
    have hF := hF.tr f75
    have hH : HX G75 h s (dayV v) := hH
    refine r_ldc hK d_H_passDay_78 lc_H_80 ?_
    refine st_in_1_4 hK d_H_passDay_80 trivial ?_
    refine r_iconst hK d_H_passDay_81 kc_0 ?_
    refine st_in_2_4 hK d_H_passDay_82 trivial ?_
    suffices L : ∀ j, j ≤ nN (v 0) → ∀ (G1 : gG) (w : Nat → Int32) (f : Option Nat) (a3 : Option Value), HX G1 h s w → w 0 = v 0 → (∀ k, f = some k → k < 6) → fallV (nN (v 0) - j) w f = passV v → Frm G G1 h 8 → K 83 [some (.ref h), some (.int (oI f)), some (.int (nI j)), a3] [] S G1 from L 0 (Nat.zero_le _) _ _ none none hH (dayV_n (by decide) (by decide) (by decide)) (fun _ q => by cases q) rfl hF
    refine lpN (nN (v 0)) (fun j hj ih G1 w f a3 hH e0 hf hE hF => ?_)
    have hnw : nN (w 0) ≤ 6 := by rw [e0]; exact hn
    refine r_iload_n hK d_H_passDay_83 rfl ?_
    refine r_aload_n hK d_H_passDay_84 rfl ?_
    refine r_get hK lf_H_22 d_H_passDay_85 (hH.1) rfl ?_
    refine r_icmp_ge (tgt := 147) hK d_H_passDay_88 rfl (fun h88 => ?_) (fun h88 => ?_)
    · skip
      have hq : j = nN (v 0) := by have := (ge_nN (by omega)).mp h88; rw [e0] at this; omega
      have hZ : passV v = (w, f) := by rw [← hE, hq, Nat.sub_self]; rfl
      refine r_iload_n hK d_H_passDay_147 rfl ?_
      refine r_iret hK rfl rfl d_H_passDay_148 ?_
      exact (show Q (some (.int (oI f))) _ from by have := hQ _ (hZ.symm ▸ hH) hF; rw [hZ] at this; exact this)
    · skip
      have hq : j < nN (v 0) := (lt_nN (by omega)).mp (Int32.not_le.mp (by rw [← e0]; exact h88))
      have hs : nN (v 0) - j = (nN (v 0) - (j + 1)) + 1 := by omega
      rw [hs, fallV] at hE
      refine r_aload_n hK d_H_passDay_91 rfl ?_
      refine r_v0 (k' := 3) hK lm_H_81 d_H_passDay_92 ⟨_, hH.1⟩ (by decide) (Nat.le_of_ble_eq_true rfl) ?_
      refine c_H_thickness hH hnw (kc_s ?_)
      refine r_aload_n hK d_H_passDay_95 rfl ?_
      refine r_get hK lf_H_26 d_H_passDay_96 (hH.1) rfl ?_
      refine r_icmp_le (tgt := 147) hK d_H_passDay_99 rfl (fun h99 => ?_) (fun h99 => ?_)
      · skip
        rw [if_neg (Int32.not_lt.mpr h99)] at hE
        have hZ : passV v = (w, f) := hE.symm
        refine r_iload_n hK d_H_passDay_147 rfl ?_
        refine r_iret hK rfl rfl d_H_passDay_148 ?_
        exact (show Q (some (.int (oI f))) _ from by have := hQ _ (hZ.symm ▸ hH) hF; rw [hZ] at this; exact this)
      · skip
        rw [if_pos (Int32.not_le.mp h99)] at hE
        refine r_aload_n hK d_H_passDay_102 rfl ?_
        refine r_v0 (k' := 3) hK lm_H_84 d_H_passDay_103 ⟨_, hH.1⟩ (by decide) (Nat.le_of_ble_eq_true rfl) ?_
        refine c_H_nextToFall hH hnw (kc_s ?_)
        refine st_in_3_4 hK d_H_passDay_106 trivial ?_
        refine r_aload_n hK d_H_passDay_107 rfl ?_
        refine r_iload_n hK d_H_passDay_108 rfl ?_
        refine r_v1 (k' := 1) hK lm_H_45 d_H_passDay_109 ⟨_, hH.1⟩ (by decide) (Nat.le_of_ble_eq_true rfl) ?_
        refine c_H_hasLetter hH (kc_s ?_)
        refine r_if_eq (tgt := 141) hK d_H_passDay_112 rfl (fun h112 => ?_) (fun h112 => ?_)
        · skip
          have hz := bI_0.mp h112
          have hk : ntf w (nN (w 0)) = none := by
            cases hk : ntf w (nN (w 0)) with
            | none => rfl
            | some k =>
              have := hasL_nI (v := w) (j := k) (ntf_lt hk).1
              rw [hk] at hz
              rw [show oI (some k) = nI k from rfl, this] at hz
              cases hz
          rw [hk] at hE
          first | refine iN_2_4 hK d_H_passDay_141 trivial ?_ | refine ii_2_1_4 hK d_H_passDay_141 trivial ?_
          refine r_goto (tgt := 83) hK d_H_passDay_144 rfl ?_
          first | exact ih hq _ _ f _ hH e0 hf hE hF | exact ih hq _ _ f _ hH e0 hf2 hE hF | exact ih hq _ _ (some k) _ hH e0 hf2 hE hF
        · skip
          have hz := bI_n0.mp h112
          obtain ⟨k, hk⟩ : ∃ k, ntf w (nN (w 0)) = some k := by
            cases hk : ntf w (nN (w 0)) with
            | none => rw [hk] at hz; rw [show oI none = -1000000 from rfl, hasL_m] at hz; cases hz
            | some k => exact ⟨k, rfl⟩
          have hk6 : k < 6 := by have := (ntf_lt hk).1; omega
          rw [hk] at hE ⊢
          show K 115 [_, _, _, some (.int (nI k))] _ _ _
          refine r_aload_n hK d_H_passDay_115 rfl ?_
          refine r_iload_n hK d_H_passDay_116 rfl ?_
          refine r_aload_n hK d_H_passDay_117 rfl ?_
          refine r_get hK lf_H_11 d_H_passDay_118 (hH.1) rfl ?_
          refine r_iload_n hK d_H_passDay_121 rfl ?_
          refine g_let hK d_H_passDay_122 hH hk6 ?_
          refine r_get hK lf_H_87 d_H_passDay_123 (hH.2.2 k hk6) rfl ?_
          refine r_v2 (k' := 2) hK lm_H_90 d_H_passDay_126 ⟨_, hH.1⟩ (by decide) (Nat.le_of_ble_eq_true rfl) ?_
          refine c_H_takeAway hH (fun G126 hH f126 => kc_n ?_)
          have hF := hF.tr f126
          refine r_iload_n hK d_H_passDay_129 rfl ?_
          refine r_ldc hK d_H_passDay_130 lc_H_80 ?_
          refine r_icmp_ne (tgt := 139) hK d_H_passDay_132 rfl (fun h132 => ?_) (fun h132 => ?_)
          · skip
            have hfn : ¬ f = none := fun q => h132 ((oI_n hf).mpr q)
            have hE : fallV (nN (v 0) - (j + 1)) (awayV w (nI k) (w (24 + k))) f = passV v := by rw [← hE]; simp only [if_neg hfn]
            have hf2 := hf
            refine r_iload_n hK d_H_passDay_139 rfl ?_
            refine st_in_1_4 hK d_H_passDay_140 trivial ?_
            first | refine iN_2_4 hK d_H_passDay_141 trivial ?_ | refine ii_2_1_4 hK d_H_passDay_141 trivial ?_
            refine r_goto (tgt := 83) hK d_H_passDay_144 rfl ?_
            first | exact ih hq _ _ f _ hH e0 hf hE hF | exact ih hq _ _ f _ hH e0 hf2 hE hF | exact ih hq _ _ (some k) _ hH e0 hf2 hE hF
          · skip
            have hfn : f = none := (oI_n hf).mp h132
            have hE : fallV (nN (v 0) - (j + 1)) (awayV w (nI k) (w (24 + k))) (some k) = passV v := by rw [← hE]; simp only [if_pos hfn]
            have hf2 : ∀ q, some k = some q → q < 6 := fun q z => by cases z; exact hk6
            refine r_iload_n hK d_H_passDay_135 rfl ?_
            refine r_goto (tgt := 140) hK d_H_passDay_136 rfl ?_
            refine st_in_1_4 hK d_H_passDay_140 trivial ?_
            first | refine iN_2_4 hK d_H_passDay_141 trivial ?_ | refine ii_2_1_4 hK d_H_passDay_141 trivial ?_
            refine r_goto (tgt := 83) hK d_H_passDay_144 rfl ?_
            first | exact ih hq _ _ f _ hH e0 hf hE hF | exact ih hq _ _ f _ hH e0 hf2 hE hF | exact ih hq _ _ (some k) _ hH e0 hf2 hE hF
  · skip
    have hq : j < nN (v 0) := (lt_nN (by omega)).mp (Int32.not_le.mp (by rw [← e0]; exact h26))
    have hj6 : j < 6 := by omega
    refine r_aload_n hK d_H_passDay_29 rfl ?_
    refine r_iload_n hK d_H_passDay_30 rfl ?_
    refine r_v1 (k' := 2) hK lm_H_49 d_H_passDay_31 ⟨_, hH.1⟩ (by decide) (Nat.le_of_ble_eq_true rfl) ?_
    refine c_H_isBehind hH (kc_s ?_)
    refine r_if_eq (tgt := 62) hK d_H_passDay_34 rfl (fun h34 => ?_) (fun h34 => ?_)
    · skip
      have hb := bI_0.mp h34
      rw [behB_c (v := sumV v) e0 e3] at hb
      have hH := hH.cast (ageV_f (j := j) (by simp [hb]))
      first | refine iN_1_4 hK d_H_passDay_62 trivial ?_ | refine ii_1_1_4 hK d_H_passDay_62 trivial ?_
      refine r_goto (tgt := 21) hK d_H_passDay_65 rfl ?_
      exact ih hq _ hH hF
    · skip
      have hb := bI_n0.mp h34
      rw [behB_c (v := sumV v) e0 e3] at hb
      refine r_aload_n hK d_H_passDay_37 rfl ?_
      refine r_get hK lf_H_11 d_H_passDay_38 (hH.1) rfl ?_
      refine r_iload_n hK d_H_passDay_41 rfl ?_
      refine g_let hK d_H_passDay_42 hH hj6 ?_
      refine r_bipush hK d_H_passDay_43 kb_99 ?_
      refine r_aload_n hK d_H_passDay_45 rfl ?_
      refine r_get hK lf_H_11 d_H_passDay_46 (hH.1) rfl ?_
      refine r_iload_n hK d_H_passDay_49 rfl ?_
      refine g_let hK d_H_passDay_50 hH hj6 ?_
      refine r_get hK lf_H_77 d_H_passDay_51 (hH.2.2 j hj6) rfl ?_
      refine r_iconst hK d_H_passDay_54 kc_1 ?_
      refine r_iadd hK d_H_passDay_55 ?_
      refine r_mmin hK wo_H_71 (by decide) (Nat.le_of_ble_eq_true rfl) (Nat.le_refl _) d_H_passDay_56 ?_
      rw [ageV_at]
      refine ph_L_age hK lf_H_77 d_H_passDay_59 hH hj6 (fun G59 hH f59 => ?_)
      have hF := hF.tr f59
      have hH := hH.cast (ageV_t hb)
      first | refine iN_1_4 hK d_H_passDay_62 trivial ?_ | refine ii_1_1_4 hK d_H_passDay_62 trivial ?_
      refine r_goto (tgt := 21) hK d_H_passDay_65 rfl ?_
      exact ih hq _ hH hF
theorem c_H_answerOne {E : gX} {S : Nat} {G : gG} {Q : Option Value → gG → Prop} {h : Nat} {s : Int32} {v : Nat → Int32} (hH : HX G h s v) (hn : nN (v 0) ≤ 6) {i : Int32} (hQ : ∀ G' : gG, HX G' h s (ansV v i) → Frm G G' h 8 → Q none G') : Runs E y_H_answerOne 3 0 S [.ref h, .int i] G Q := by
  refine Runs.of "ClockPost$House" [some (.ref h), some (.int i)] cw_H_answerOne (by decide) (by decide +kernel) rfl (Nat.le_of_ble_eq_true rfl) rfl (fun K hK => ?_)
  refine r_aload_n hK d_H_answerOne_0 rfl ?_
  refine r_iload_n hK d_H_answerOne_1 rfl ?_
  refine r_v1 (k' := 2) hK lm_H_49 d_H_answerOne_2 ⟨_, hH.1⟩ (by decide) (Nat.le_of_ble_eq_true rfl) ?_
  refine c_H_isBehind hH (kc_s ?_)
  refine r_if_eq (tgt := 24) hK d_H_answerOne_5 rfl (fun h5 => ?_) (fun h5 => ?_)
  · skip
    have hb := bI_0.mp h5
    rw [ansV, if_neg (by simp [hb])] at hQ
    refine r_vret hK rfl rfl d_H_answerOne_24 ?_
    first | exact hQ _ hH f21 | exact hQ _ hH Frm.rf
  · skip
    have hb := bI_n0.mp h5
    rw [ansV, if_pos hb] at hQ
    obtain ⟨j, hj, hj6, rfl⟩ := hasL_ix (behB_has hb) hn
    rw [nN_nI (by omega)] at hQ
    refine r_aload_n hK d_H_answerOne_8 rfl ?_
    refine r_iload_n hK d_H_answerOne_9 rfl ?_
    refine r_aload_n hK d_H_answerOne_10 rfl ?_
    refine r_get hK lf_H_11 d_H_answerOne_11 (hH.1) rfl ?_
    refine r_iload_n hK d_H_answerOne_14 rfl ?_
    refine g_let hK d_H_answerOne_15 hH hj6 ?_
    refine r_get hK lf_H_87 d_H_answerOne_16 (hH.2.2 j hj6) rfl ?_
    refine r_iconst hK d_H_answerOne_19 kc_2 ?_
    refine r_idiv hK d_H_answerOne_20 (by decide) ?_
    refine r_v2 (k' := 2) hK lm_H_90 d_H_answerOne_21 ⟨_, hH.1⟩ (by decide) (Nat.le_of_ble_eq_true rfl) ?_
    refine c_H_takeAway hH (fun G21 hH f21 => kc_n ?_)
    refine r_vret hK rfl rfl d_H_answerOne_24 ?_
    first | exact hQ _ hH f21 | exact hQ _ hH Frm.rf
theorem c_H_putBehind {E : gX} {S : Nat} {G : gG} {Q : Option Value → gG → Prop} {h : Nat} {s : Int32} {v : Nat → Int32} (hH : HX G h s v) (hn : nN (v 0) ≤ 6) {i : Int32} (hQ : ∀ G' : gG, HX G' h s (putV v i) → Frm G G' h 8 → Q none G') : Runs E y_H_putBehind 3 0 S [.ref h, .int i] G Q := by
  refine Runs.of "ClockPost$House" [some (.ref h), some (.int i)] cw_H_putBehind (by decide) (by decide +kernel) rfl (Nat.le_of_ble_eq_true rfl) rfl (fun K hK => ?_)
  have hF : Frm G G h 8 := Frm.rf
  refine r_aload_n hK d_H_putBehind_0 rfl ?_
  refine r_iload_n hK d_H_putBehind_1 rfl ?_
  refine r_v1 (k' := 1) hK lm_H_45 d_H_putBehind_2 ⟨_, hH.1⟩ (by decide) (Nat.le_of_ble_eq_true rfl) ?_
  refine c_H_hasLetter hH (kc_s ?_)
  refine r_if_eq (tgt := 38) hK d_H_putBehind_5 rfl (fun h5 => ?_) (fun h5 => ?_)
  · skip
    have hb := bI_0.mp h5
    rw [putV, if_neg (by simp [hb])] at hQ
    refine r_vret hK rfl rfl d_H_putBehind_38 ?_
    exact hQ _ hH hF
  · skip
    have hb := bI_n0.mp h5
    refine r_aload_n hK d_H_putBehind_8 rfl ?_
    refine r_iload_n hK d_H_putBehind_9 rfl ?_
    refine r_v1 (k' := 2) hK lm_H_49 d_H_putBehind_10 ⟨_, hH.1⟩ (by decide) (Nat.le_of_ble_eq_true rfl) ?_
    refine c_H_isBehind hH (kc_s ?_)
    refine r_if_ne (tgt := 38) hK d_H_putBehind_13 rfl (fun h13 => ?_) (fun h13 => ?_)
    · skip
      have hc := bI_n0.mp h13
      rw [putV, if_neg (by simp [hc])] at hQ
      refine r_vret hK rfl rfl d_H_putBehind_38 ?_
      exact hQ _ hH hF
    · skip
      have hc := bI_0.mp h13
      rw [putV, if_pos ⟨hb, hc⟩] at hQ
      obtain ⟨j, hj, hj6, rfl⟩ := hasL_ix hb hn
      rw [nN_nI (by omega)] at hQ
      refine r_aload_n hK d_H_putBehind_16 rfl ?_
      refine r_dup hK d_H_putBehind_17 rfl ?_
      refine r_get hK lf_H_29 d_H_putBehind_18 (hH.1) rfl ?_
      refine r_iconst hK d_H_putBehind_21 kc_1 ?_
      refine r_iload_n hK d_H_putBehind_22 rfl ?_
      refine r_ishl hK d_H_putBehind_23 ?_
      refine r_ior hK d_H_putBehind_24 ?_
      refine p_H_behindBits hK lf_H_29 d_H_putBehind_25 hH (fun G25 hH f25 => ?_)
      have hF := hF.tr f25
      refine r_aload_n hK d_H_putBehind_28 rfl ?_
      refine r_get hK lf_H_11 d_H_putBehind_29 (hH.1) rfl ?_
      refine r_iload_n hK d_H_putBehind_32 rfl ?_
      refine g_let hK d_H_putBehind_33 hH hj6 ?_
      refine r_iconst hK d_H_putBehind_34 kc_0 ?_
      refine ph_L_age hK lf_H_77 d_H_putBehind_35 hH hj6 (fun G35 hH f35 => ?_)
      have hF := hF.tr f35
      refine r_vret hK rfl rfl d_H_putBehind_38 ?_
      exact hQ _ hH hF
theorem c_H_takeDraw {E : gX} {S : Nat} {G : gG} {Q : Option Value → gG → Prop} {h : Nat} {s : Int32} {v : Nat → Int32} (hH : HX G h s v) (hn : nN (v 0) ≤ 6) {x : Int64} (hQ : ∀ G' : gG, HX G' h s (drawV v x) → Frm G G' h 8 → Q none G') : Runs E y_H_takeDraw 4 0 S [.ref h, .long x] G Q := by
  refine Runs.of "ClockPost$House" [some (.ref h), some (.long x), none, none] cw_H_takeDraw (by decide) (by decide +kernel) rfl (Nat.le_of_ble_eq_true rfl) rfl (fun K hK => ?_)
  refine r_aload_n hK d_H_takeDraw_0 rfl ?_
  refine r_get hK lf_H_22 d_H_takeDraw_1 (hH.1) rfl ?_
  refine r_iconst hK d_H_takeDraw_4 kc_1 ?_
  refine r_icmp_ge (tgt := 9) hK d_H_takeDraw_5 rfl (fun h5 => ?_) (fun h5 => ?_)
  · skip
    have h1 : ¬ v 0 < 1 := Int32.not_lt.mpr h5
    rw [drawV, if_neg h1] at hQ
    have hne : ¬ (v 0).toInt64 = 0 := fun q => by
      have q2 := congrArg Int64.toInt q
      rw [Int32.toInt_toInt64] at q2
      simp only [i_le, ti_1] at h5
      have : (0 : Int64).toInt = 0 := by decide
      omega
    refine r_lload_n hK d_H_takeDraw_9 rfl ?_
    refine r_aload_n hK d_H_takeDraw_10 rfl ?_
    refine r_get hK lf_H_22 d_H_takeDraw_11 (hH.1) rfl ?_
    refine r_i2l hK d_H_takeDraw_14 ?_
    refine r_lrem hK d_H_takeDraw_15 (hne) ?_
    refine r_l2i hK d_H_takeDraw_16 ?_
    refine st_in_3_4 hK d_H_takeDraw_17 trivial ?_
    refine r_lload_n hK d_H_takeDraw_18 rfl ?_
    refine r_ldc2 hK d_H_takeDraw_19 lc_H_98 ?_
    refine r_lrem hK d_H_takeDraw_22 (by decide) ?_
    refine r_lconst (v := 0) hK d_H_takeDraw_23 rfl ?_
    refine r_lcmp hK d_H_takeDraw_24 ?_
    refine r_if_ne (tgt := 36) hK d_H_takeDraw_25 rfl (fun h25 => ?_) (fun h25 => ?_)
    · skip
      have hz : ¬ x - x / 3 * 3 = 0 := fun q => h25 ((lg_cmp_eq _ _).mpr q)
      rw [if_neg hz] at hQ
      refine r_lload_n hK d_H_takeDraw_36 rfl ?_
      refine r_ldc2 hK d_H_takeDraw_37 lc_H_98 ?_
      refine r_lrem hK d_H_takeDraw_40 (by decide) ?_
      refine r_lconst (v := 1) hK d_H_takeDraw_41 rfl ?_
      refine r_lcmp hK d_H_takeDraw_42 ?_
      refine r_if_ne (tgt := 51) hK d_H_takeDraw_43 rfl (fun h43 => ?_) (fun h43 => ?_)
      · skip
        have hz : ¬ x - x / 3 * 3 = 1 := fun q => h43 ((lg_cmp_eq _ _).mpr q)
        rw [if_neg hz] at hQ
        refine r_vret hK rfl rfl d_H_takeDraw_51 ?_
        first | exact hQ _ hH f30 | exact hQ _ hH f48 | exact hQ _ hH Frm.rf
      · skip
        have hz : x - x / 3 * 3 = 1 := (lg_cmp_eq _ _).mp h43
        rw [if_pos hz] at hQ
        refine r_aload_n hK d_H_takeDraw_46 rfl ?_
        refine r_iload_n hK d_H_takeDraw_47 rfl ?_
        refine r_v1 (k' := 3) hK lm_H_104 d_H_takeDraw_48 ⟨_, hH.1⟩ (by decide) (Nat.le_of_ble_eq_true rfl) ?_
        refine c_H_putBehind hH hn (fun G48 hH f48 => kc_n ?_)
        refine r_vret hK rfl rfl d_H_takeDraw_51 ?_
        first | exact hQ _ hH f30 | exact hQ _ hH f48 | exact hQ _ hH Frm.rf
    · skip
      have hz : x - x / 3 * 3 = 0 := (lg_cmp_eq _ _).mp h25
      rw [if_pos hz] at hQ
      refine r_aload_n hK d_H_takeDraw_28 rfl ?_
      refine r_iload_n hK d_H_takeDraw_29 rfl ?_
      refine r_v1 (k' := 3) hK lm_H_100 d_H_takeDraw_30 ⟨_, hH.1⟩ (by decide) (Nat.le_of_ble_eq_true rfl) ?_
      refine c_H_answerOne hH hn (fun G30 hH f30 => kc_n ?_)
      refine r_goto (tgt := 51) hK d_H_takeDraw_33 rfl ?_
      refine r_vret hK rfl rfl d_H_takeDraw_51 ?_
      first | exact hQ _ hH f30 | exact hQ _ hH f48 | exact hQ _ hH Frm.rf
  · skip
    rw [drawV, if_pos (Int32.not_le.mp h5)] at hQ
    refine r_vret hK rfl rfl d_H_takeDraw_8 ?_
    exact hQ _ hH Frm.rf
