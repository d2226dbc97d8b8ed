def TV (G : gG) (c : Nat) (f w : Nat → Int32) (A : Nat → Nat → Int32) (t : (Nat → Int32) × Nat) : Prop := MV G c (upd f 12 (nI t.2)) w (va_up A 7 t.1)
theorem va_up_2 {α : Type} {f : Nat → α} {k : Nat} {x y : α} : va_up (va_up f k x) k y = va_up f k y := by
  funext q
  by_cases e : q = k
  · subst e; rw [va_up_s, va_up_s]
  · rw [va_up_n e, va_up_n e, va_up_n e]
theorem upd_2 {f : Nat → Int32} {k : Nat} {x y : Int32} : upd (upd f k x) k y = upd f k y := by
  funext q
  by_cases e : q = k
  · subst e; rw [upd_s, upd_s]
  · rw [upd_n e, upd_n e, upd_n e]
theorem c_M_begin {E : gX} {S : Nat} {G : gG} {Q : Option Value → gG → Prop} {c : Nat} {f w : Nat → Int32} {A : Nat → Nat → Int32} {t : (Nat → Int32) × Nat} {b : Int32} (hM : TV G c f w A t) (ht : t.2 ≤ 16) (hQ : ∀ G' : gG, TV G' c f w A (lvT t b) → Frm G G' c 10 → Q none G') : Runs E y_M_begin 1 0 S [.ref c, .int b] G Q := by
  refine Runs.of "ClockPostModel" [some (.ref c), some (.int b)] cw_M_begin (by decide) (by decide +kernel) rfl (Nat.le_of_ble_eq_true rfl) rfl (fun K hK => ?_)
  unfold TV at hM
  refine r_aload_n hK d_M_begin_0 rfl ?_
  refine r_get hK lf_M_247 d_M_begin_1 (hM.1) rfl ?_
  rw [upd_s]
  refine r_bipush hK d_M_begin_4 kb_16 ?_
  refine r_icmp_ge (tgt := 29) hK d_M_begin_6 rfl (fun h6 => ?_) (fun h6 => ?_)
  · skip
    have hq : ¬ t.2 < 16 := by have := (cle (n := 16) (by decide) (by omega)).mp h6; omega
    rw [lvT, if_neg hq, if_neg hq] at hQ
    refine r_vret hK rfl rfl d_M_begin_29 ?_
    first | exact hQ _ hM hF | exact hQ _ hM Frm.rf
  · skip
    have hq : t.2 < 16 := Nat.not_le.mp (fun q => h6 ((cle (n := 16) (by decide) (by omega)).mpr q))
    rw [lvT, if_pos hq, if_pos hq] at hQ
    refine r_aload_n hK d_M_begin_9 rfl ?_
    refine r_get hK lf_M_29 d_M_begin_10 (hM.1) rfl ?_
    refine r_aload_n hK d_M_begin_13 rfl ?_
    refine r_get hK lf_M_247 d_M_begin_14 (hM.1) rfl ?_
    rw [upd_s]
    refine r_iload_n hK d_M_begin_17 rfl ?_
    refine s_a7 (j := t.2) hK d_M_begin_18 hM rfl hq (fun G18 hM f18 => ?_)
    rw [va_up_s, va_up_2] at hM
    have hF := f18
    refine r_aload_n hK d_M_begin_19 rfl ?_
    refine r_dup hK d_M_begin_20 rfl ?_
    refine r_get hK lf_M_247 d_M_begin_21 (hM.1) rfl ?_
    rw [upd_s]
    refine r_iconst hK d_M_begin_24 kc_1 ?_
    refine r_iadd hK d_M_begin_25 ?_
    rw [nI_1]
    refine p_M_traced hK lf_M_247 d_M_begin_26 hM (fun G26 hM f26 => ?_)
    rw [upd_2] at hM
    have hF := hF.tr f26
    refine r_vret hK rfl rfl d_M_begin_29 ?_
    first | exact hQ _ hM hF | exact hQ _ hM Frm.rf
theorem c_M_lentSize {E : gX} {S : Nat} {G : gG} {Q : Option Value → gG → Prop} {c j n : Nat} {f w v : Nat → Int32} {A : Nat → Nat → Int32} {t : (Nat → Int32) × Nat} (hM : TV G c f (putT w 0 v) A t) (ht : t.2 ≤ 16) (hV : Vk v n) (hj : j < n) {D : Nat} (hQ : ∀ G' : gG, TV G' c f (putT w 0 v) A (bg (v (6 + j)) (v (18 + j)) (v (30 + j)) (nI j) (D + 1) 10 t).2 → Frm G G' c 10 → Q (some (.int (bg (v (6 + j)) (v (18 + j)) (v (30 + j)) (nI j) (D + 1) 10 t).1)) G') : Runs E y_M_lentSize 2 0 S [.ref c, .int (nI j)] G Q := by
  refine Runs.of "ClockPostModel" [some (.ref c), some (.int (nI j))] cw_M_lentSize (by decide) (by decide +kernel) rfl (Nat.le_of_ble_eq_true rfl) rfl (fun K hK => ?_)
  have h6 := hV.1
  rw [bg, if_pos rfl] at hQ
  refine r_aload_n hK d_M_lentSize_0 rfl ?_
  refine r_bipush hK d_M_lentSize_1 kb_10 ?_
  refine r_v1 (k' := 1) hK lm_M_250 d_M_lentSize_3 ⟨_, hM.1⟩ (by decide) (Nat.le_of_ble_eq_true rfl) ?_
  refine c_M_begin (b := 10) hM ht (fun G3 hM f3 => kc_n ?_)
  have ht := lvT_le (b := 10) ht
  have hF : Frm G G3 c 10 := f3
  refine r_aload_n hK d_M_lentSize_6 rfl ?_
  refine r_get hK lf_M_7 d_M_lentSize_7 (hM.1) rfl ?_
  refine r_bipush hK d_M_lentSize_10 kb_18 ?_
  refine r_iload_n hK d_M_lentSize_12 rfl ?_
  refine r_iadd hK d_M_lentSize_13 ?_
  unfold TV at hM
  refine g_tw (B := 0) (j := 18 + j) hK d_M_lentSize_14 hM (Eq.trans (ix0 (c := 18) rfl) (congrArg nI (by omega))) (by omega) (by omega) ?_
  refine r_iret hK rfl rfl d_M_lentSize_15 ?_
  exact hQ _ hM hF
theorem c_M_lentMark {E : gX} {S : Nat} {G : gG} {Q : Option Value → gG → Prop} {c j n : Nat} {f w v : Nat → Int32} {A : Nat → Nat → Int32} {t : (Nat → Int32) × Nat} (hM : TV G c f (putT w 0 v) A t) (ht : t.2 ≤ 16) (hV : Vk v n) (hj : j < n) {D : Nat} (hQ : ∀ G' : gG, TV G' c f (putT w 0 v) A (bg (v (6 + j)) (v (18 + j)) (v (30 + j)) (nI j) (D + 1) 20 t).2 → Frm G G' c 10 → Q (some (.int (bg (v (6 + j)) (v (18 + j)) (v (30 + j)) (nI j) (D + 1) 20 t).1)) G') : Runs E y_M_lentMark 2 0 S [.ref c, .int (nI j)] G Q := by
  refine Runs.of "ClockPostModel" [some (.ref c), some (.int (nI j))] cw_M_lentMark (by decide) (by decide +kernel) rfl (Nat.le_of_ble_eq_true rfl) rfl (fun K hK => ?_)
  have h6 := hV.1
  rw [bg, if_neg (show ¬ (20 : Int32) = 10 by decide), if_neg (show ¬ (20 : Int32) = 11 by decide), if_neg (show ¬ (20 : Int32) = 12 by decide), if_neg (show ¬ (20 : Int32) = 13 by decide), if_neg (show ¬ (20 : Int32) = 14 by decide), if_pos rfl] at hQ
  refine r_aload_n hK d_M_lentMark_0 rfl ?_
  refine r_bipush hK d_M_lentMark_1 kb_20 ?_
  refine r_v1 (k' := 1) hK lm_M_250 d_M_lentMark_3 ⟨_, hM.1⟩ (by decide) (Nat.le_of_ble_eq_true rfl) ?_
  refine c_M_begin (b := 20) hM ht (fun G3 hM f3 => kc_n ?_)
  have ht := lvT_le (b := 20) ht
  have hF : Frm G G3 c 10 := f3
  refine r_iload_n hK d_M_lentMark_6 rfl ?_
  refine r_iret hK rfl rfl d_M_lentMark_7 ?_
  exact hQ _ hM hF
theorem c_M_billMark {E : gX} {S : Nat} {G : gG} {Q : Option Value → gG → Prop} {c j n : Nat} {f w v : Nat → Int32} {A : Nat → Nat → Int32} {t : (Nat → Int32) × Nat} (hM : TV G c f (putT w 0 v) A t) (ht : t.2 ≤ 16) (hV : Vk v n) (hj : j < n) {D : Nat} (hQ : ∀ G' : gG, TV G' c f (putT w 0 v) A (bg (v (6 + j)) (v (18 + j)) (v (30 + j)) (nI j) (D + 2) 21 t).2 → Frm G G' c 10 → Q (some (.int (bg (v (6 + j)) (v (18 + j)) (v (30 + j)) (nI j) (D + 2) 21 t).1)) G') : Runs E y_M_billMark 3 0 S [.ref c, .int (nI j)] G Q := by
  refine Runs.of "ClockPostModel" [some (.ref c), some (.int (nI j))] cw_M_billMark (by decide) (by decide +kernel) rfl (Nat.le_of_ble_eq_true rfl) rfl (fun K hK => ?_)
  have h6 := hV.1
  rw [bg, if_neg (show ¬ (21 : Int32) = 10 by decide), if_neg (show ¬ (21 : Int32) = 11 by decide), if_neg (show ¬ (21 : Int32) = 12 by decide), if_neg (show ¬ (21 : Int32) = 13 by decide), if_neg (show ¬ (21 : Int32) = 14 by decide), if_neg (show ¬ (21 : Int32) = 20 by decide), if_pos rfl] at hQ
  refine r_aload_n hK d_M_billMark_0 rfl ?_
  refine r_bipush hK d_M_billMark_1 kb_21 ?_
  refine r_v1 (k' := 1) hK lm_M_250 d_M_billMark_3 ⟨_, hM.1⟩ (by decide) (Nat.le_of_ble_eq_true rfl) ?_
  refine c_M_begin (b := 21) hM ht (fun G3 hM f3 => kc_n ?_)
  have ht := lvT_le (b := 21) ht
  have hF : Frm G G3 c 10 := f3
  refine r_aload_n hK d_M_billMark_6 rfl ?_
  refine r_iload_n hK d_M_billMark_7 rfl ?_
  refine r_v1 (k' := 2) hK lm_M_265 d_M_billMark_8 ⟨_, hM.1⟩ (by decide) (Nat.le_of_ble_eq_true rfl) ?_
  refine c_M_lentMark (D := D) (j := j) hM ht hV hj (fun G8 hM f8 => kc_s ?_)
  have ht := bg_le (k := v (6 + j)) (th := v (18 + j)) (ag := v (30 + j)) (nm := nI j) (D + 1) 20 _ ht
  have hF := hF.tr f8
  refine r_aload_n hK d_M_billMark_11 rfl ?_
  refine r_get hK lf_M_7 d_M_billMark_12 (hM.1) rfl ?_
  refine r_bipush hK d_M_billMark_15 kb_30 ?_
  refine r_iload_n hK d_M_billMark_17 rfl ?_
  refine r_iadd hK d_M_billMark_18 ?_
  unfold TV at hM
  refine g_tw (B := 0) (j := 30 + j) hK d_M_billMark_19 hM (Eq.trans (ix0 (c := 30) rfl) (congrArg nI (by omega))) (by omega) (by omega) ?_
  refine r_iadd hK d_M_billMark_20 ?_
  refine r_iret hK rfl rfl d_M_billMark_21 ?_
  exact hQ _ hM hF
theorem c_M_mark {E : gX} {S : Nat} {G : gG} {Q : Option Value → gG → Prop} {c j n : Nat} {f w v : Nat → Int32} {A : Nat → Nat → Int32} {t : (Nat → Int32) × Nat} (hM : TV G c f (putT w 0 v) A t) (ht : t.2 ≤ 16) (hV : Vk v n) (hj : j < n) {D : Nat} (hn : (v (6 + j)).toInt ≤ 3) (hQ : ∀ G' : gG, TV G' c f (putT w 0 v) A (bg (v (6 + j)) (v (18 + j)) (v (30 + j)) (nI j) (D + 3) (bdO 1 (v (6 + j))) t).2 → Frm G G' c 10 → Q (some (.int (bg (v (6 + j)) (v (18 + j)) (v (30 + j)) (nI j) (D + 3) (bdO 1 (v (6 + j))) t).1)) G') : Runs E y_M_mark 4 0 S [.ref c, .int (nI j)] G Q := by
  refine Runs.of "ClockPostModel" [some (.ref c), some (.int (nI j))] cw_M_mark (by decide) (by decide +kernel) rfl (Nat.le_of_ble_eq_true rfl) rfl (fun K hK => ?_)
  have h6 := hV.1
  refine r_aload_n hK d_M_mark_0 rfl ?_
  refine r_get hK lf_M_7 d_M_mark_1 (hM.1) rfl ?_
  refine r_bipush hK d_M_mark_4 kb_6 ?_
  refine r_iload_n hK d_M_mark_6 rfl ?_
  refine r_iadd hK d_M_mark_7 ?_
  unfold TV at hM
  refine g_tw (B := 0) (j := 6 + j) hK d_M_mark_8 hM (Eq.trans (ix0 (c := 6) rfl) (congrArg nI (by omega))) (by omega) (by omega) ?_
  refine r_lookup hK d_M_mark_9 (by decide +kernel) (by decide +kernel) ⟨fun h9 => ?_, fun n9_0 => ⟨fun h9 => ?_, fun n9_1 => ?_⟩⟩
  · skip
    show K 52 _ _ _ _
    have e : v (6 + j) = 2 := toI h9
    rw [show bdO 1 (v (6 + j)) = 24 by rw [e]; decide] at hQ
    rw [bg, if_neg (show ¬ (24 : Int32) = 10 by decide), if_neg (show ¬ (24 : Int32) = 11 by decide), if_neg (show ¬ (24 : Int32) = 12 by decide), if_neg (show ¬ (24 : Int32) = 13 by decide), if_neg (show ¬ (24 : Int32) = 14 by decide), if_neg (show ¬ (24 : Int32) = 20 by decide), if_neg (show ¬ (24 : Int32) = 21 by decide), if_neg (show ¬ (24 : Int32) = 22 by decide), if_neg (show ¬ (24 : Int32) = 23 by decide), if_pos rfl] at hQ
    refine r_aload_n hK d_M_mark_52 rfl ?_
    refine r_bipush hK d_M_mark_53 kb_24 ?_
    refine r_v1 (k' := 1) hK lm_M_250 d_M_mark_55 ⟨_, hM.1⟩ (by decide) (Nat.le_of_ble_eq_true rfl) ?_
    refine c_M_begin (b := 24) hM ht (fun G55 hM f55 => kc_n ?_)
    have ht := lvT_le (b := 24) ht
    have hF : Frm G G55 c 10 := f55
    refine r_iconst hK d_M_mark_58 kc_2 ?_
    refine r_aload_n hK d_M_mark_59 rfl ?_
    refine r_iload_n hK d_M_mark_60 rfl ?_
    refine r_v1 (k' := 3) hK lm_M_268 d_M_mark_61 ⟨_, hM.1⟩ (by decide) (Nat.le_of_ble_eq_true rfl) ?_
    refine c_M_billMark (D := D) (j := j) hM ht hV hj (fun G61 hM f61 => kc_s ?_)
    have ht := bg_le (k := v (6 + j)) (th := v (18 + j)) (ag := v (30 + j)) (nm := nI j) (D + 2) 21 _ ht
    have hF := hF.tr f61
    refine r_imul hK d_M_mark_64 ?_
    refine r_iret hK rfl rfl d_M_mark_65 ?_
    exact hQ _ hM hF
  · skip
    show K 36 _ _ _ _
    have e : v (6 + j) = 3 := toI h9
    rw [show bdO 1 (v (6 + j)) = 22 by rw [e]; decide] at hQ
    rw [bg, if_neg (show ¬ (22 : Int32) = 10 by decide), if_neg (show ¬ (22 : Int32) = 11 by decide), if_neg (show ¬ (22 : Int32) = 12 by decide), if_neg (show ¬ (22 : Int32) = 13 by decide), if_neg (show ¬ (22 : Int32) = 14 by decide), if_neg (show ¬ (22 : Int32) = 20 by decide), if_neg (show ¬ (22 : Int32) = 21 by decide), if_pos rfl] at hQ
    refine r_aload_n hK d_M_mark_36 rfl ?_
    refine r_bipush hK d_M_mark_37 kb_22 ?_
    refine r_v1 (k' := 1) hK lm_M_250 d_M_mark_39 ⟨_, hM.1⟩ (by decide) (Nat.le_of_ble_eq_true rfl) ?_
    refine c_M_begin (b := 22) hM ht (fun G39 hM f39 => kc_n ?_)
    have ht := lvT_le (b := 22) ht
    have hF : Frm G G39 c 10 := f39
    refine r_aload_n hK d_M_mark_42 rfl ?_
    refine r_iload_n hK d_M_mark_43 rfl ?_
    refine r_v1 (k' := 3) hK lm_M_268 d_M_mark_44 ⟨_, hM.1⟩ (by decide) (Nat.le_of_ble_eq_true rfl) ?_
    refine c_M_billMark (D := D) (j := j) hM ht hV hj (fun G44 hM f44 => kc_s ?_)
    have ht := bg_le (k := v (6 + j)) (th := v (18 + j)) (ag := v (30 + j)) (nm := nI j) (D + 2) 21 _ ht
    have hF := hF.tr f44
    refine r_sipush hK d_M_mark_47 ks_1000 ?_
    refine r_isub hK d_M_mark_50 ?_
    refine r_iret hK rfl rfl d_M_mark_51 ?_
    exact hQ _ hM hF
  · skip
    show K 66 _ _ _ _
    have e : v (6 + j) = 1 := toI (by have := (hV.2.2.2 j hj).1.2; rw [ti_1]; omega)
    rw [show bdO 1 (v (6 + j)) = 21 by rw [e]; decide] at hQ
    refine r_aload_n hK d_M_mark_66 rfl ?_
    refine r_iload_n hK d_M_mark_67 rfl ?_
    refine r_v1 (k' := 3) hK lm_M_268 d_M_mark_68 ⟨_, hM.1⟩ (by decide) (Nat.le_of_ble_eq_true rfl) ?_
    refine c_M_billMark (D := D + 1) (j := j) hM ht hV hj (fun G68 hM f68 => kc_s ?_)
    have hF : Frm G G68 c 10 := f68
    refine r_iret hK rfl rfl d_M_mark_71 ?_
    exact hQ _ hM hF
theorem c_M_billSize {E : gX} {S : Nat} {G : gG} {Q : Option Value → gG → Prop} {c j n : Nat} {f w v : Nat → Int32} {A : Nat → Nat → Int32} {t : (Nat → Int32) × Nat} (hM : TV G c f (putT w 0 v) A t) (ht : t.2 ≤ 16) (hV : Vk v n) (hj : j < n) {D : Nat} (hn : (v (6 + j)).toInt ≤ 3) (hQ : ∀ G' : gG, TV G' c f (putT w 0 v) A (bg (v (6 + j)) (v (18 + j)) (v (30 + j)) (nI j) (D + 4) 11 t).2 → Frm G G' c 10 → Q (some (.int (bg (v (6 + j)) (v (18 + j)) (v (30 + j)) (nI j) (D + 4) 11 t).1)) G') : Runs E y_M_billSize 5 0 S [.ref c, .int (nI j)] G Q := by
  refine Runs.of "ClockPostModel" [some (.ref c), some (.int (nI j)), none] cw_M_billSize (by decide) (by decide +kernel) rfl (Nat.le_of_ble_eq_true rfl) rfl (fun K hK => ?_)
  have h6 := hV.1
  rw [bg, if_neg (show ¬ (11 : Int32) = 10 by decide), if_pos rfl] at hQ
  refine r_aload_n hK d_M_billSize_0 rfl ?_
  refine r_bipush hK d_M_billSize_1 kb_11 ?_
  refine r_v1 (k' := 1) hK lm_M_250 d_M_billSize_3 ⟨_, hM.1⟩ (by decide) (Nat.le_of_ble_eq_true rfl) ?_
  refine c_M_begin (b := 11) hM ht (fun G3 hM f3 => kc_n ?_)
  have ht := lvT_le (b := 11) ht
  have hF : Frm G G3 c 10 := f3
  refine r_aload_n hK d_M_billSize_6 rfl ?_
  refine r_iload_n hK d_M_billSize_7 rfl ?_
  refine r_v1 (k' := 2) hK lm_M_253 d_M_billSize_8 ⟨_, hM.1⟩ (by decide) (Nat.le_of_ble_eq_true rfl) ?_
  refine c_M_lentSize (D := D + 2) (j := j) hM ht hV hj (fun G8 hM f8 => kc_s ?_)
  have ht := bg_le (k := v (6 + j)) (th := v (18 + j)) (ag := v (30 + j)) (nm := nI j) (D + 2 + 1) 10 _ ht
  have hF := hF.tr f8
  refine st_in_2_3 hK d_M_billSize_11 trivial ?_
  refine r_iload_n hK d_M_billSize_12 rfl ?_
  refine r_aload_n hK d_M_billSize_13 rfl ?_
  refine r_iload_n hK d_M_billSize_14 rfl ?_
  refine r_v1 (k' := 4) hK lm_M_256 d_M_billSize_15 ⟨_, hM.1⟩ (by decide) (Nat.le_of_ble_eq_true rfl) ?_
  refine c_M_mark (D := D) (j := j) hM ht hV hj hn (fun G15 hM f15 => kc_s ?_)
  have hF := hF.tr f15
  refine r_iadd hK d_M_billSize_18 ?_
  refine r_iret hK rfl rfl d_M_billSize_19 ?_
  exact hQ _ hM hF
theorem c_M_noteSize {E : gX} {S : Nat} {G : gG} {Q : Option Value → gG → Prop} {c j n : Nat} {f w v : Nat → Int32} {A : Nat → Nat → Int32} {t : (Nat → Int32) × Nat} (hM : TV G c f (putT w 0 v) A t) (ht : t.2 ≤ 16) (hV : Vk v n) (hj : j < n) {D : Nat} (hQ : ∀ G' : gG, TV G' c f (putT w 0 v) A (bg (v (6 + j)) (v (18 + j)) (v (30 + j)) (nI j) (D + 2) 13 t).2 → Frm G G' c 10 → Q (some (.int (bg (v (6 + j)) (v (18 + j)) (v (30 + j)) (nI j) (D + 2) 13 t).1)) G') : Runs E y_M_noteSize 3 0 S [.ref c, .int (nI j)] G Q := by
  refine Runs.of "ClockPostModel" [some (.ref c), some (.int (nI j))] cw_M_noteSize (by decide) (by decide +kernel) rfl (Nat.le_of_ble_eq_true rfl) rfl (fun K hK => ?_)
  have h6 := hV.1
  rw [bg, if_neg (show ¬ (13 : Int32) = 10 by decide), if_neg (show ¬ (13 : Int32) = 11 by decide), if_neg (show ¬ (13 : Int32) = 12 by decide), if_pos rfl] at hQ
  refine r_aload_n hK d_M_noteSize_0 rfl ?_
  refine r_bipush hK d_M_noteSize_1 kb_13 ?_
  refine r_v1 (k' := 1) hK lm_M_250 d_M_noteSize_3 ⟨_, hM.1⟩ (by decide) (Nat.le_of_ble_eq_true rfl) ?_
  refine c_M_begin (b := 13) hM ht (fun G3 hM f3 => kc_n ?_)
  have ht := lvT_le (b := 13) ht
  have hF : Frm G G3 c 10 := f3
  refine r_aload_n hK d_M_noteSize_6 rfl ?_
  refine r_iload_n hK d_M_noteSize_7 rfl ?_
  refine r_v1 (k' := 2) hK lm_M_253 d_M_noteSize_8 ⟨_, hM.1⟩ (by decide) (Nat.le_of_ble_eq_true rfl) ?_
  refine c_M_lentSize (D := D) (j := j) hM ht hV hj (fun G8 hM f8 => kc_s ?_)
  have ht := bg_le (k := v (6 + j)) (th := v (18 + j)) (ag := v (30 + j)) (nm := nI j) (D + 1) 10 _ ht
  have hF := hF.tr f8
  refine r_bipush hK d_M_noteSize_11 kb_100 ?_
  refine r_isub hK d_M_noteSize_13 ?_
  refine r_iret hK rfl rfl d_M_noteSize_14 ?_
  exact hQ _ hM hF
theorem c_M_sizeOf {E : gX} {S : Nat} {G : gG} {Q : Option Value → gG → Prop} {c j n : Nat} {f w v : Nat → Int32} {A : Nat → Nat → Int32} {t : (Nat → Int32) × Nat} (hM : TV G c f (putT w 0 v) A t) (ht : t.2 ≤ 16) (hV : Vk v n) (hj : j < n) {D : Nat} (hQ : ∀ G' : gG, TV G' c f (putT w 0 v) A (bg (v (6 + j)) (v (18 + j)) (v (30 + j)) (nI j) (D + 5) (bdO 0 (v (6 + j))) t).2 → Frm G G' c 10 → Q (some (.int (bg (v (6 + j)) (v (18 + j)) (v (30 + j)) (nI j) (D + 5) (bdO 0 (v (6 + j))) t).1)) G') : Runs E y_M_sizeOf 6 0 S [.ref c, .int (nI j)] G Q := by
  refine Runs.of "ClockPostModel" [some (.ref c), some (.int (nI j))] cw_M_sizeOf (by decide) (by decide +kernel) rfl (Nat.le_of_ble_eq_true rfl) rfl (fun K hK => ?_)
  have h6 := hV.1
  refine r_aload_n hK d_M_sizeOf_0 rfl ?_
  refine r_get hK lf_M_7 d_M_sizeOf_1 (hM.1) rfl ?_
  refine r_bipush hK d_M_sizeOf_4 kb_6 ?_
  refine r_iload_n hK d_M_sizeOf_6 rfl ?_
  refine r_iadd hK d_M_sizeOf_7 ?_
  unfold TV at hM
  refine g_tw (B := 0) (j := 6 + j) hK d_M_sizeOf_8 hM (Eq.trans (ix0 (c := 6) rfl) (congrArg nI (by omega))) (by omega) (by omega) ?_
  refine r_table (td := 73) hK d_M_sizeOf_9 (by decide +kernel) rfl (fun h9 => ?_) ⟨fun h9 => ?_, fun h9 => ?_, fun h9 => ?_, fun h9 => ?_, trivial⟩
  · skip
    have e : v (6 + j) = 1 := toI (by have := (hV.2.2.2 j hj).1.2; rw [ti_1]; omega)
    rw [show bdO 0 (v (6 + j)) = 11 by rw [e]; decide] at hQ
    refine r_aload_n hK d_M_sizeOf_73 rfl ?_
    refine r_iload_n hK d_M_sizeOf_74 rfl ?_
    refine r_v1 (k' := 5) hK lm_M_259 d_M_sizeOf_75 ⟨_, hM.1⟩ (by decide) (Nat.le_of_ble_eq_true rfl) ?_
    refine c_M_billSize (D := D + 1) (j := j) hM ht hV hj (by rw [e]; decide) (fun G75 hM f75 => kc_s ?_)
    have hF : Frm G G75 c 10 := f75
    refine r_iret hK rfl rfl d_M_sizeOf_78 ?_
    exact hQ _ hM hF
  · skip
    show K 40 _ _ _ _
    have e : v (6 + j) = 2 := toI h9
    rw [show bdO 0 (v (6 + j)) = 12 by rw [e]; decide] at hQ
    rw [bg, if_neg (show ¬ (12 : Int32) = 10 by decide), if_neg (show ¬ (12 : Int32) = 11 by decide), if_pos rfl] at hQ
    refine r_aload_n hK d_M_sizeOf_40 rfl ?_
    refine r_bipush hK d_M_sizeOf_41 kb_12 ?_
    refine r_v1 (k' := 1) hK lm_M_250 d_M_sizeOf_43 ⟨_, hM.1⟩ (by decide) (Nat.le_of_ble_eq_true rfl) ?_
    refine c_M_begin (b := 12) hM ht (fun G43 hM f43 => kc_n ?_)
    have ht := lvT_le (b := 12) ht
    have hF : Frm G G43 c 10 := f43
    refine r_aload_n hK d_M_sizeOf_46 rfl ?_
    refine r_iload_n hK d_M_sizeOf_47 rfl ?_
    refine r_v1 (k' := 5) hK lm_M_259 d_M_sizeOf_48 ⟨_, hM.1⟩ (by decide) (Nat.le_of_ble_eq_true rfl) ?_
    refine c_M_billSize (D := D) (j := j) hM ht hV hj (by rw [e]; decide) (fun G48 hM f48 => kc_s ?_)
    have hF := hF.tr f48
    refine r_ineg hK d_M_sizeOf_51 ?_
    refine r_iret hK rfl rfl d_M_sizeOf_52 ?_
    exact hQ _ hM hF
  · skip
    show K 73 _ _ _ _
    have e : v (6 + j) = 3 := toI h9
    rw [show bdO 0 (v (6 + j)) = 11 by rw [e]; decide] at hQ
    refine r_aload_n hK d_M_sizeOf_73 rfl ?_
    refine r_iload_n hK d_M_sizeOf_74 rfl ?_
    refine r_v1 (k' := 5) hK lm_M_259 d_M_sizeOf_75 ⟨_, hM.1⟩ (by decide) (Nat.le_of_ble_eq_true rfl) ?_
    refine c_M_billSize (D := D + 1) (j := j) hM ht hV hj (by rw [e]; decide) (fun G75 hM f75 => kc_s ?_)
    have hF : Frm G G75 c 10 := f75
    refine r_iret hK rfl rfl d_M_sizeOf_78 ?_
    exact hQ _ hM hF
  · skip
    show K 53 _ _ _ _
    have e : v (6 + j) = 4 := toI h9
    rw [show bdO 0 (v (6 + j)) = 13 by rw [e]; decide] at hQ
    refine r_aload_n hK d_M_sizeOf_53 rfl ?_
    refine r_iload_n hK d_M_sizeOf_54 rfl ?_
    refine r_v1 (k' := 3) hK lm_M_262 d_M_sizeOf_55 ⟨_, hM.1⟩ (by decide) (Nat.le_of_ble_eq_true rfl) ?_
    refine c_M_noteSize (D := D + 3) (j := j) hM ht hV hj (fun G55 hM f55 => kc_s ?_)
    have hF : Frm G G55 c 10 := f55
    refine r_iret hK rfl rfl d_M_sizeOf_58 ?_
    exact hQ _ hM hF
  · skip
    show K 59 _ _ _ _
    have e : v (6 + j) = 5 := toI h9
    rw [show bdO 0 (v (6 + j)) = 14 by rw [e]; decide] at hQ
    rw [bg, if_neg (show ¬ (14 : Int32) = 10 by decide), if_neg (show ¬ (14 : Int32) = 11 by decide), if_neg (show ¬ (14 : Int32) = 12 by decide), if_neg (show ¬ (14 : Int32) = 13 by decide), if_pos rfl] at hQ
    refine r_aload_n hK d_M_sizeOf_59 rfl ?_
    refine r_bipush hK d_M_sizeOf_60 kb_14 ?_
    refine r_v1 (k' := 1) hK lm_M_250 d_M_sizeOf_62 ⟨_, hM.1⟩ (by decide) (Nat.le_of_ble_eq_true rfl) ?_
    refine c_M_begin (b := 14) hM ht (fun G62 hM f62 => kc_n ?_)
    have ht := lvT_le (b := 14) ht
    have hF : Frm G G62 c 10 := f62
    refine r_iconst hK d_M_sizeOf_65 kc_2 ?_
    refine r_aload_n hK d_M_sizeOf_66 rfl ?_
    refine r_iload_n hK d_M_sizeOf_67 rfl ?_
    refine r_v1 (k' := 3) hK lm_M_262 d_M_sizeOf_68 ⟨_, hM.1⟩ (by decide) (Nat.le_of_ble_eq_true rfl) ?_
    refine c_M_noteSize (D := D + 2) (j := j) hM ht hV hj (fun G68 hM f68 => kc_s ?_)
    have ht := bg_le (k := v (6 + j)) (th := v (18 + j)) (ag := v (30 + j)) (nm := nI j) (D + 2 + 2) 13 _ ht
    have hF := hF.tr f68
    refine r_imul hK d_M_sizeOf_71 ?_
    refine r_iret hK rfl rfl d_M_sizeOf_72 ?_
    exact hQ _ hM hF
theorem c_M_noteMark {E : gX} {S : Nat} {G : gG} {Q : Option Value → gG → Prop} {c j n : Nat} {f w v : Nat → Int32} {A : Nat → Nat → Int32} {t : (Nat → Int32) × Nat} (hM : TV G c f (putT w 0 v) A t) (ht : t.2 ≤ 16) (hV : Vk v n) (hj : j < n) {D : Nat} (hQ : ∀ G' : gG, TV G' c f (putT w 0 v) A (bg (v (6 + j)) (v (18 + j)) (v (30 + j)) (nI j) (D + 6) 23 t).2 → Frm G G' c 10 → Q (some (.int (bg (v (6 + j)) (v (18 + j)) (v (30 + j)) (nI j) (D + 6) 23 t).1)) G') : Runs E y_M_noteMark 7 0 S [.ref c, .int (nI j)] G Q := by
  refine Runs.of "ClockPostModel" [some (.ref c), some (.int (nI j)), none] cw_M_noteMark (by decide) (by decide +kernel) rfl (Nat.le_of_ble_eq_true rfl) rfl (fun K hK => ?_)
  have h6 := hV.1
  rw [bg, if_neg (show ¬ (23 : Int32) = 10 by decide), if_neg (show ¬ (23 : Int32) = 11 by decide), if_neg (show ¬ (23 : Int32) = 12 by decide), if_neg (show ¬ (23 : Int32) = 13 by decide), if_neg (show ¬ (23 : Int32) = 14 by decide), if_neg (show ¬ (23 : Int32) = 20 by decide), if_neg (show ¬ (23 : Int32) = 21 by decide), if_neg (show ¬ (23 : Int32) = 22 by decide), if_pos rfl] at hQ
  refine r_aload_n hK d_M_noteMark_0 rfl ?_
  refine r_bipush hK d_M_noteMark_1 kb_23 ?_
  refine r_v1 (k' := 1) hK lm_M_250 d_M_noteMark_3 ⟨_, hM.1⟩ (by decide) (Nat.le_of_ble_eq_true rfl) ?_
  refine c_M_begin (b := 23) hM ht (fun G3 hM f3 => kc_n ?_)
  have ht := lvT_le (b := 23) ht
  have hF : Frm G G3 c 10 := f3
  refine r_aload_n hK d_M_noteMark_6 rfl ?_
  refine r_iload_n hK d_M_noteMark_7 rfl ?_
  refine r_v1 (k' := 2) hK lm_M_265 d_M_noteMark_8 ⟨_, hM.1⟩ (by decide) (Nat.le_of_ble_eq_true rfl) ?_
  refine c_M_lentMark (D := D + 4) (j := j) hM ht hV hj (fun G8 hM f8 => kc_s ?_)
  have ht := bg_le (k := v (6 + j)) (th := v (18 + j)) (ag := v (30 + j)) (nm := nI j) (D + 4 + 1) 20 _ ht
  have hF := hF.tr f8
  refine st_in_2_3 hK d_M_noteMark_11 trivial ?_
  refine r_iload_n hK d_M_noteMark_12 rfl ?_
  refine r_aload_n hK d_M_noteMark_13 rfl ?_
  refine r_iload_n hK d_M_noteMark_14 rfl ?_
  refine r_v1 (k' := 6) hK lm_M_271 d_M_noteMark_15 ⟨_, hM.1⟩ (by decide) (Nat.le_of_ble_eq_true rfl) ?_
  refine c_M_sizeOf (D := D) (j := j) hM ht hV hj (fun G15 hM f15 => kc_s ?_)
  have ht := bg_le (k := v (6 + j)) (th := v (18 + j)) (ag := v (30 + j)) (nm := nI j) (D + 5) (bdO 0 (v (6 + j))) _ ht
  have hF := hF.tr f15
  refine r_isub hK d_M_noteMark_18 ?_
  refine r_iret hK rfl rfl d_M_noteMark_19 ?_
  exact hQ _ hM hF
