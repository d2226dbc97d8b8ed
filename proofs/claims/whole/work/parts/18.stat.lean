def pwI (b : Int32) : Nat → Int32
  | 0 => 1
  | j + 1 => pwI b j * b
def gsI : Nat → Int32 → Int32 → Int32
  | 0, a, _ => a
  | n + 1, a, b => if b = 0 then a else gsI n b (a - a / b * b)
def nrK (x : Int32) : Int32 := if inB x 0 5 = true then tbNK (nN x) else 0
def ofK (k w : Int32) : Bool := decide (k = w) || decide (w = 0) || decide (nrK k = w)
def bdO (w k : Int32) : Int32 := if w = 0 then tbSB (nN (if inB k 0 5 = true then k else 0)) else tbMB (nN (if inB k 0 5 = true then k else 0))
def lvT (t : (Nat → Int32) × Nat) (b : Int32) : (Nat → Int32) × Nat := (if t.2 < 16 then upd t.1 t.2 b else t.1, if t.2 < 16 then t.2 + 1 else t.2)
def bg (k th ag nm : Int32) : Nat → Int32 → (Nat → Int32) × Nat → Int32 × ((Nat → Int32) × Nat)
  | 0, _, t => (0, t)
  | d + 1, b, t =>
    if b = 10 then (th, lvT t b)
    else if b = 11 then ((bg k th ag nm d 10 (lvT t b)).1 + (bg k th ag nm d (bdO 1 k) (bg k th ag nm d 10 (lvT t b)).2).1, (bg k th ag nm d (bdO 1 k) (bg k th ag nm d 10 (lvT t b)).2).2)
    else if b = 12 then (-(bg k th ag nm d 11 (lvT t b)).1, (bg k th ag nm d 11 (lvT t b)).2)
    else if b = 13 then ((bg k th ag nm d 10 (lvT t b)).1 - 100, (bg k th ag nm d 10 (lvT t b)).2)
    else if b = 14 then (2 * (bg k th ag nm d 13 (lvT t b)).1, (bg k th ag nm d 13 (lvT t b)).2)
    else if b = 20 then (nm, lvT t b)
    else if b = 21 then ((bg k th ag nm d 20 (lvT t b)).1 + ag, (bg k th ag nm d 20 (lvT t b)).2)
    else if b = 22 then ((bg k th ag nm d 21 (lvT t b)).1 - 1000, (bg k th ag nm d 21 (lvT t b)).2)
    else if b = 23 then ((bg k th ag nm d 20 (lvT t b)).1 - (bg k th ag nm d (bdO 0 k) (bg k th ag nm d 20 (lvT t b)).2).1, (bg k th ag nm d (bdO 0 k) (bg k th ag nm d 20 (lvT t b)).2).2)
    else if b = 24 then (2 * (bg k th ag nm d 21 (lvT t b)).1, (bg k th ag nm d 21 (lvT t b)).2)
    else (0, lvT t b)
theorem lvT_le {t : (Nat → Int32) × Nat} {b : Int32} (h : t.2 ≤ 16) : (lvT t b).2 ≤ 16 := by
  unfold lvT
  show (if t.2 < 16 then t.2 + 1 else t.2) ≤ 16
  split <;> omega
theorem bg_le {k th ag nm : Int32} : ∀ (d : Nat) (b : Int32) (t : (Nat → Int32) × Nat), t.2 ≤ 16 → (bg k th ag nm d b t).2.2 ≤ 16
  | 0, _, _, h => h
  | d + 1, b, t, h => by
    have h1 := lvT_le (b := b) h
    unfold bg
    repeat' split
    all_goals first | exact h1 | exact bg_le d _ _ h1 | exact bg_le d _ _ (bg_le d _ _ h1)
theorem inB_in {x : Int32} (h : inB x 0 5 = true) : vp_in x 6 := by
  simp only [inB, Bool.and_eq_true, decide_eq_true_eq, i_le, ti_0, ti_5] at h
  exact vp_in_iff.mpr (by omega)
theorem c_X_leastTried {E : gX} {S : Nat} {G : gG} {Q : Option Value → gG → Prop} {w : Int32} (hQ : Q (some (.int (if w = 2 then 1 else 0))) G) : Runs E y_X_leastTried 1 0 S [.int w] G Q := by
  refine Runs.of "ClockPost" [some (.int w)] cw_X_leastTried (by decide) (by decide +kernel) rfl (Nat.le_of_ble_eq_true rfl) rfl (fun K hK => ?_)
  refine r_iload_n hK d_X_leastTried_0 rfl ?_
  refine r_iconst hK d_X_leastTried_1 kc_2 ?_
  refine r_icmp_ne (tgt := 9) hK d_X_leastTried_2 rfl (fun h2 => ?_) (fun h2 => ?_)
  · skip
    refine r_iconst hK d_X_leastTried_9 kc_0 ?_
    refine r_iret hK rfl rfl d_X_leastTried_10 ?_
    first | exact rc hQ (if_pos h2) | exact rc hQ (if_neg h2)
  · skip
    refine r_iconst hK d_X_leastTried_5 kc_1 ?_
    refine r_goto (tgt := 10) hK d_X_leastTried_6 rfl ?_
    refine r_iret hK rfl rfl d_X_leastTried_10 ?_
    first | exact rc hQ (if_pos h2) | exact rc hQ (if_neg h2)
theorem c_X_mostTried {E : gX} {S : Nat} {G : gG} {Q : Option Value → gG → Prop} {w : Int32} (hQ : Q (some (.int (if w = 0 then 9 else if w = 1 then 20 else 5))) G) : Runs E y_X_mostTried 1 0 S [.int w] G Q := by
  refine Runs.of "ClockPost" [some (.int w)] cw_X_mostTried (by decide) (by decide +kernel) rfl (Nat.le_of_ble_eq_true rfl) rfl (fun K hK => ?_)
  refine r_iload_n hK d_X_mostTried_0 rfl ?_
  refine r_lookup hK d_X_mostTried_1 (by decide +kernel) (by decide +kernel) ⟨fun h1 => ?_, fun n1_0 => ⟨fun h1 => ?_, fun n1_1 => ?_⟩⟩
  · skip
    show K 28 _ _ _ _
    have hx : w = 0 := toI h1
    refine r_bipush hK d_X_mostTried_28 kb_9 ?_
    refine r_iret hK rfl rfl d_X_mostTried_30 ?_
    exact rc hQ (by rw [if_pos hx])
  · skip
    show K 31 _ _ _ _
    have hx : w = 1 := toI h1
    refine r_bipush hK d_X_mostTried_31 kb_20 ?_
    refine r_iret hK rfl rfl d_X_mostTried_33 ?_
    exact rc hQ (by rw [hx]; rfl)
  · skip
    show K 34 _ _ _ _
    have z0 : ¬ w = 0 := fun q => n1_0 (by rw [q]; rfl)
    have z1 : ¬ w = 1 := fun q => n1_1 (by rw [q]; rfl)
    refine r_iconst hK d_X_mostTried_34 kc_5 ?_
    refine r_iret hK rfl rfl d_X_mostTried_35 ?_
    exact rc hQ (by rw [if_neg z0, if_neg z1])
theorem c_X_power {E : gX} {S : Nat} {G : gG} {Q : Option Value → gG → Prop} {b t : Int32} (hQ : Q (some (.int (pwI b (nN t)))) G) : Runs E y_X_power 1 0 S [.int b, .int t] G Q := by
  refine Runs.of "ClockPost" [some (.int b), some (.int t), none, none] cw_X_power (by decide) (by decide +kernel) rfl (Nat.le_of_ble_eq_true rfl) rfl (fun K hK => ?_)
  refine r_iconst hK d_X_power_0 kc_1 ?_
  refine st_in_2_4 hK d_X_power_1 trivial ?_
  refine r_iconst hK d_X_power_2 kc_0 ?_
  refine st_in_3_4 hK d_X_power_3 trivial ?_
  suffices L : ∀ j, j ≤ nN t → K 4 [some (.int b), some (.int t), some (.int (pwI b j)), some (.int (nI j))] [] S G from L 0 (Nat.zero_le _)
  refine lpN (nN t) (fun j hj ih => ?_)
  have := nN_lt t
  refine r_iload_n hK d_X_power_4 rfl ?_
  refine r_iload_n hK d_X_power_5 rfl ?_
  refine r_icmp_ge (tgt := 19) hK d_X_power_6 rfl (fun h6 => ?_) (fun h6 => ?_)
  · skip
    have hq : j = nN t := by have := (ge_nN (by omega)).mp h6; omega
    refine r_iload_n hK d_X_power_19 rfl ?_
    refine r_iret hK rfl rfl d_X_power_20 ?_
    exact rc hQ (by rw [hq])
  · skip
    have hq : j < nN t := (lt_nN (by omega)).mp (Int32.not_le.mp h6)
    refine r_iload_n hK d_X_power_9 rfl ?_
    refine r_iload_n hK d_X_power_10 rfl ?_
    refine r_imul hK d_X_power_11 ?_
    refine st_in_2_4 hK d_X_power_12 trivial ?_
    first | refine iN_3_4 hK d_X_power_13 trivial ?_ | refine ii_3_1_4 hK d_X_power_13 trivial ?_
    refine r_goto (tgt := 4) hK d_X_power_16 rfl ?_
    exact ih hq
theorem c_X_greatestShared {E : gX} {S : Nat} {G : gG} {Q : Option Value → gG → Prop} {a b : Int32} (hQ : Q (some (.int (gsI 32 a b))) G) : Runs E y_X_greatestShared 1 0 S [.int a, .int b] G Q := by
  refine Runs.of "ClockPost" [some (.int a), some (.int b), none, none, none, none] cw_X_greatestShared (by decide) (by decide +kernel) rfl (Nat.le_of_ble_eq_true rfl) rfl (fun K hK => ?_)
  refine r_iload_n hK d_X_greatestShared_0 rfl ?_
  refine st_in_2_6 hK d_X_greatestShared_1 trivial ?_
  refine r_iload_n hK d_X_greatestShared_2 rfl ?_
  refine st_in_3_6 hK d_X_greatestShared_3 trivial ?_
  refine r_iconst hK d_X_greatestShared_4 kc_0 ?_
  refine st_i_4_6 hK d_X_greatestShared_5 trivial ?_
  suffices L : ∀ j, j ≤ 32 → ∀ (x y : Int32) (a5 : Option Value), gsI (32 - j) x y = gsI 32 a b → K 7 [some (.int a), some (.int b), some (.int x), some (.int y), some (.int (nI j)), a5] [] S G from L 0 (Nat.zero_le _) _ _ _ rfl
  refine lpN 32 (fun j hj ih x y a5 hE => ?_)
  refine r_iload hK d_X_greatestShared_7 rfl ?_
  refine r_bipush hK d_X_greatestShared_9 kb_32 ?_
  refine r_icmp_ge (tgt := 34) hK d_X_greatestShared_11 rfl (fun h11 => ?_) (fun h11 => ?_)
  · skip
    have hq : j = 32 := by have := (cle (n := 32) (by decide) (by omega)).mp h11; omega
    subst hq
    refine r_iload_n hK d_X_greatestShared_34 rfl ?_
    refine r_iret hK rfl rfl d_X_greatestShared_35 ?_
    exact rc hQ hE.symm
  · skip
    have hq : j < 32 := Nat.not_le.mp (fun q => h11 ((cle (n := 32) (by decide) (by omega)).mpr q))
    rw [show 32 - j = (32 - (j + 1)) + 1 by omega, gsI] at hE
    refine r_iload_n hK d_X_greatestShared_14 rfl ?_
    refine r_if_eq (tgt := 34) hK d_X_greatestShared_15 rfl (fun h15 => ?_) (fun h15 => ?_)
    · skip
      rw [if_pos h15] at hE
      refine r_iload_n hK d_X_greatestShared_34 rfl ?_
      refine r_iret hK rfl rfl d_X_greatestShared_35 ?_
      exact rc hQ hE.symm
    · skip
      rw [if_neg h15] at hE
      refine r_iload_n hK d_X_greatestShared_18 rfl ?_
      refine r_iload_n hK d_X_greatestShared_19 rfl ?_
      refine r_irem hK d_X_greatestShared_20 (h15) ?_
      refine st_i_5_6 hK d_X_greatestShared_21 trivial ?_
      refine r_iload_n hK d_X_greatestShared_23 rfl ?_
      refine st_in_2_6 hK d_X_greatestShared_24 trivial ?_
      refine r_iload hK d_X_greatestShared_25 rfl ?_
      refine st_in_3_6 hK d_X_greatestShared_27 trivial ?_
      first | refine iN_4_6 hK d_X_greatestShared_28 trivial ?_ | refine ii_4_1_6 hK d_X_greatestShared_28 trivial ?_
      refine r_goto (tgt := 7) hK d_X_greatestShared_31 rfl ?_
      exact ih hq _ _ _ hE
theorem c_X_nearestKind {E : gX} {S : Nat} {G : gG} {Q : Option Value → gG → Prop} {x : Int32} (hQ : Q (some (.int (nrK x))) G) : Runs E y_X_nearestKind 2 0 S [.int x] G Q := by
  refine Runs.of "ClockPost" [some (.int x)] cw_X_nearestKind (by decide) (by decide +kernel) rfl (Nat.le_of_ble_eq_true rfl) rfl (fun K hK => ?_)
  refine r_iload_n hK d_X_nearestKind_0 rfl ?_
  refine r_iconst hK d_X_nearestKind_1 kc_0 ?_
  refine r_iconst hK d_X_nearestKind_2 kc_5 ?_
  refine r_s3 (k' := 1) hK lm_X_62 d_X_nearestKind_3 (by decide) (Nat.le_of_ble_eq_true rfl) ?_
  refine c_X_isWithin (kc_s ?_)
  refine r_if_eq (tgt := 17) hK d_X_nearestKind_6 rfl (fun h6 => ?_) (fun h6 => ?_)
  · skip
    have hb := bI_0.mp h6
    refine r_iconst hK d_X_nearestKind_17 kc_0 ?_
    refine r_iret hK rfl rfl d_X_nearestKind_18 ?_
    first | exact rc hQ (by rw [nrK, if_pos hb]; rfl) | exact rc hQ (by rw [nrK, if_neg (by simp [hb])])
  · skip
    have hb := bI_n0.mp h6
    refine r_gets0 hK lg_X_310 d_X_nearestKind_9 ?_
    refine r_iload_n hK d_X_nearestKind_12 rfl ?_
    refine r_tald0 hK d_X_nearestKind_13 (inB_in hb) ?_
    refine r_goto (tgt := 18) hK d_X_nearestKind_14 rfl ?_
    refine r_iret hK rfl rfl d_X_nearestKind_18 ?_
    first | exact rc hQ (by rw [nrK, if_pos hb]; rfl) | exact rc hQ (by rw [nrK, if_neg (by simp [hb])])
theorem c_X_isOfKind {E : gX} {S : Nat} {G : gG} {Q : Option Value → gG → Prop} {k w : Int32} (hQ : Q (some (.int (bI (ofK k w)))) G) : Runs E y_X_isOfKind 3 0 S [.int k, .int w] G Q := by
  refine Runs.of "ClockPost" [some (.int k), some (.int w)] cw_X_isOfKind (by decide) (by decide +kernel) rfl (Nat.le_of_ble_eq_true rfl) rfl (fun K hK => ?_)
  refine r_iload_n hK d_X_isOfKind_0 rfl ?_
  refine r_iload_n hK d_X_isOfKind_1 rfl ?_
  refine r_icmp_eq (tgt := 17) hK d_X_isOfKind_2 rfl (fun h2 => ?_) (fun h2 => ?_)
  · skip
    refine r_iconst hK d_X_isOfKind_17 kc_1 ?_
    refine r_goto (tgt := 22) hK d_X_isOfKind_18 rfl ?_
    refine r_zret hK rfl (rfl) rfl d_X_isOfKind_22 ?_
    first | exact rc hQ (bI_t (by simp [ofK, *]; done)) | exact rc hQ (bI_f (by simp [ofK, *]; done))
  · skip
    refine r_iload_n hK d_X_isOfKind_5 rfl ?_
    refine r_if_eq (tgt := 17) hK d_X_isOfKind_6 rfl (fun h6 => ?_) (fun h6 => ?_)
    · skip
      refine r_iconst hK d_X_isOfKind_17 kc_1 ?_
      refine r_goto (tgt := 22) hK d_X_isOfKind_18 rfl ?_
      refine r_zret hK rfl (rfl) rfl d_X_isOfKind_22 ?_
      first | exact rc hQ (bI_t (by simp [ofK, *]; done)) | exact rc hQ (bI_f (by simp [ofK, *]; done))
    · skip
      refine r_iload_n hK d_X_isOfKind_9 rfl ?_
      refine r_s1 (k' := 2) hK lm_X_307 d_X_isOfKind_10 (by decide) (Nat.le_of_ble_eq_true rfl) ?_
      refine c_X_nearestKind (kc_s ?_)
      refine r_iload_n hK d_X_isOfKind_13 rfl ?_
      refine r_icmp_ne (tgt := 21) hK d_X_isOfKind_14 rfl (fun h14 => ?_) (fun h14 => ?_)
      · skip
        refine r_iconst hK d_X_isOfKind_21 kc_0 ?_
        refine r_zret hK rfl (rfl) rfl d_X_isOfKind_22 ?_
        first | exact rc hQ (bI_t (by simp [ofK, *]; done)) | exact rc hQ (bI_f (by simp [ofK, *]; done))
      · skip
        refine r_iconst hK d_X_isOfKind_17 kc_1 ?_
        refine r_goto (tgt := 22) hK d_X_isOfKind_18 rfl ?_
        refine r_zret hK rfl (rfl) rfl d_X_isOfKind_22 ?_
        first | exact rc hQ (bI_t (by simp [ofK, *]; done)) | exact rc hQ (bI_f (by simp [ofK, *]; done))
theorem c_X_bodyOf {E : gX} {S : Nat} {G : gG} {Q : Option Value → gG → Prop} {w k : Int32} (hQ : Q (some (.int (bdO w k))) G) : Runs E y_X_bodyOf 2 0 S [.int w, .int k] G Q := by
  refine Runs.of "ClockPost" [some (.int w), some (.int k), none] cw_X_bodyOf (by decide) (by decide +kernel) rfl (Nat.le_of_ble_eq_true rfl) rfl (fun K hK => ?_)
  refine r_iload_n hK d_X_bodyOf_0 rfl ?_
  refine r_iconst hK d_X_bodyOf_1 kc_0 ?_
  refine r_iconst hK d_X_bodyOf_2 kc_5 ?_
  refine r_s3 (k' := 1) hK lm_X_62 d_X_bodyOf_3 (by decide) (Nat.le_of_ble_eq_true rfl) ?_
  refine c_X_isWithin (kc_s ?_)
  refine r_if_eq (tgt := 13) hK d_X_bodyOf_6 rfl (fun h6 => ?_) (fun h6 => ?_)
  · skip
    have hb := bI_0.mp h6
    have hz : (if inB k 0 5 = true then k else 0) = 0 := if_neg (by simp [hb])
    have hin : vp_in 0 6 := vp_in_nI (n := 0) (by omega) (by omega)
    refine r_iconst hK d_X_bodyOf_13 kc_0 ?_
    refine st_in_2_3 hK d_X_bodyOf_14 trivial ?_
    refine r_iload_n hK d_X_bodyOf_15 rfl ?_
    refine r_if_ne (tgt := 27) hK d_X_bodyOf_16 rfl (fun h16 => ?_) (fun h16 => ?_)
    · skip
      refine r_gets2 hK lg_X_316 d_X_bodyOf_27 ?_
      refine r_iload_n hK d_X_bodyOf_30 rfl ?_
      refine r_tald2 hK d_X_bodyOf_31 hin ?_
      refine r_iret hK rfl rfl d_X_bodyOf_32 ?_
      first | exact rc hQ (by rw [bdO, hz, if_pos h16]; rfl) | exact rc hQ (by rw [bdO, hz, if_neg h16]; rfl)
    · skip
      refine r_gets1 hK lg_X_313 d_X_bodyOf_19 ?_
      refine r_iload_n hK d_X_bodyOf_22 rfl ?_
      refine r_tald1 hK d_X_bodyOf_23 hin ?_
      refine r_goto (tgt := 32) hK d_X_bodyOf_24 rfl ?_
      refine r_iret hK rfl rfl d_X_bodyOf_32 ?_
      first | exact rc hQ (by rw [bdO, hz, if_pos h16]; rfl) | exact rc hQ (by rw [bdO, hz, if_neg h16]; rfl)
  · skip
    have hb := bI_n0.mp h6
    have hz : (if inB k 0 5 = true then k else 0) = k := if_pos hb
    have hin := inB_in hb
    refine r_iload_n hK d_X_bodyOf_9 rfl ?_
    refine r_goto (tgt := 14) hK d_X_bodyOf_10 rfl ?_
    refine st_in_2_3 hK d_X_bodyOf_14 trivial ?_
    refine r_iload_n hK d_X_bodyOf_15 rfl ?_
    refine r_if_ne (tgt := 27) hK d_X_bodyOf_16 rfl (fun h16 => ?_) (fun h16 => ?_)
    · skip
      refine r_gets2 hK lg_X_316 d_X_bodyOf_27 ?_
      refine r_iload_n hK d_X_bodyOf_30 rfl ?_
      refine r_tald2 hK d_X_bodyOf_31 hin ?_
      refine r_iret hK rfl rfl d_X_bodyOf_32 ?_
      first | exact rc hQ (by rw [bdO, hz, if_pos h16]; rfl) | exact rc hQ (by rw [bdO, hz, if_neg h16]; rfl)
    · skip
      refine r_gets1 hK lg_X_313 d_X_bodyOf_19 ?_
      refine r_iload_n hK d_X_bodyOf_22 rfl ?_
      refine r_tald1 hK d_X_bodyOf_23 hin ?_
      refine r_goto (tgt := 32) hK d_X_bodyOf_24 rfl ?_
      refine r_iret hK rfl rfl d_X_bodyOf_32 ?_
      first | exact rc hQ (by rw [bdO, hz, if_pos h16]; rfl) | exact rc hQ (by rw [bdO, hz, if_neg h16]; rfl)
theorem c_X_flawOf {E : gX} {S : Nat} {G : gG} {Q : Option Value → gG → Prop} {r z : Nat} {ms lane i n : Int32} {f : Nat → Int32} (hR : RX G r ms lane (nI z) f) (hQ : Q (some (.int (if ms = 0 then (if hasP (nI z) i n = true then 0 else 2) else 1))) G) : Runs E y_X_flawOf 2 0 S [.ref r, .int i, .int n] G Q := by
  refine Runs.of "ClockPost" [some (.ref r), some (.int i), some (.int n)] cw_X_flawOf (by decide) (by decide +kernel) rfl (Nat.le_of_ble_eq_true rfl) rfl (fun K hK => ?_)
  refine r_aload_n hK d_X_flawOf_0 rfl ?_
  refine r_get hK lf_X_78 d_X_flawOf_1 (hR.1) rfl ?_
  refine r_if_eq (tgt := 9) hK d_X_flawOf_4 rfl (fun h4 => ?_) (fun h4 => ?_)
  · skip
    refine r_aload_n hK d_X_flawOf_9 rfl ?_
    refine r_iload_n hK d_X_flawOf_10 rfl ?_
    refine r_iload_n hK d_X_flawOf_11 rfl ?_
    refine r_v2 (k' := 1) hK lm_X_82 d_X_flawOf_12 ⟨_, hR.1⟩ (by decide) (Nat.le_of_ble_eq_true rfl) ?_
    refine c_R_hasPlaces hR (kc_s ?_)
    refine r_if_eq (tgt := 22) hK d_X_flawOf_15 rfl (fun h15 => ?_) (fun h15 => ?_)
    · skip
      have hb := bI_0.mp h15
      refine r_iconst hK d_X_flawOf_22 kc_2 ?_
      refine r_iret hK rfl rfl d_X_flawOf_23 ?_
      first | exact rc hQ (by rw [if_pos h4, if_pos hb]) | exact rc hQ (by rw [if_pos h4, if_neg (by simp [hb])])
    · skip
      have hb := bI_n0.mp h15
      refine r_iconst hK d_X_flawOf_18 kc_0 ?_
      refine r_goto (tgt := 23) hK d_X_flawOf_19 rfl ?_
      refine r_iret hK rfl rfl d_X_flawOf_23 ?_
      first | exact rc hQ (by rw [if_pos h4, if_pos hb]) | exact rc hQ (by rw [if_pos h4, if_neg (by simp [hb])])
  · skip
    refine r_iconst hK d_X_flawOf_7 kc_1 ?_
    refine r_iret hK rfl rfl d_X_flawOf_8 ?_
    exact rc hQ (if_neg h4)
theorem c_X_begin {E : gX} {S a la : Nat} {k fe th ho ag nm : Int32} : ∀ (d : Nat) {G : gG} {Q : Option Value → gG → Prop} {b : Int32} {t : (Nat → Int32) × Nat} (hd17 : d ≤ 17) (hT : TX G a t.1 (nI t.2)) (hm : t.2 ≤ 16) (hL : LX G la [.int k, .int fe, .int th, .int ho, .int ag]) (hd : la < a ∨ a + 2 ≤ la) (hQ : ∀ G' : gG, TX G' a (bg k th ag nm d b t).2.1 (nI (bg k th ag nm d b t).2.2) → Frm G G' a 2 → Q (some (.int (bg k th ag nm d b t).1)) G'), Runs E y_X_begin (3 + d) 0 S [.ref a, .int b, .ref la, .int nm, .int (nI (17 - d))] G Q := by
  intro d
  induction d with
  | zero =>
    intro G Q b t hd17 hT hm hL hd hQ
    refine Runs.of "ClockPost" [some (.ref a), some (.int b), some (.ref la), some (.int nm), some (.int (nI 17)), none] cw_X_begin (by decide) (by decide +kernel) rfl (Nat.le_of_ble_eq_true rfl) rfl (fun K hK => ?_)
    refine r_iload hK d_X_begin_0 rfl ?_
    refine r_bipush hK d_X_begin_2 kb_16 ?_
    refine r_icmp_le (tgt := 9) hK d_X_begin_4 rfl (fun h4 => ?_) (fun h4 => ?_)
    · skip
      exact absurd ((lec (n := 16) (by decide) (by omega)).mp h4) (by omega)
    · skip
      refine r_iconst hK d_X_begin_7 kc_0 ?_
      refine r_iret hK rfl rfl d_X_begin_8 ?_
      exact hQ _ hT Frm.rf
  | succ d ih =>
    intro G Q b t hd17 hT hm hL hd hQ
    refine Runs.of "ClockPost" [some (.ref a), some (.int b), some (.ref la), some (.int nm), some (.int (nI (17 - (d + 1)))), none] cw_X_begin (by decide) (by decide +kernel) rfl (Nat.le_of_ble_eq_true rfl) rfl (fun K hK => ?_)
    refine r_iload hK d_X_begin_0 rfl ?_
    refine r_bipush hK d_X_begin_2 kb_16 ?_
    refine r_icmp_le (tgt := 9) hK d_X_begin_4 rfl (fun h4 => ?_) (fun h4 => ?_)
    · skip
      refine r_aload_n hK d_X_begin_9 rfl ?_
      refine r_iload_n hK d_X_begin_10 rfl ?_
      refine r_v1 (k' := 1) hK lm_X_319 d_X_begin_11 ⟨_, hT.1⟩ (by omega) (Nat.le_of_ble_eq_true rfl) ?_
      refine c_T_leave hT hm (fun G11 hT f11 => kc_n ?_)
      have hT : TX G11 a (lvT t b).1 (nI (lvT t b).2) := hT
      have hm := lvT_le (b := b) hm
      have hL := hL.frm f11 (by omega)
      have hF : Frm G G11 a 2 := f11
      refine r_iload hK d_X_begin_14 rfl ?_
      refine r_iconst hK d_X_begin_16 kc_1 ?_
      refine r_iadd hK d_X_begin_17 ?_
      rw [nI_1, show 17 - (d + 1) + 1 = 17 - d by omega]
      refine st_i_5_6 hK d_X_begin_18 trivial ?_
      refine r_iload_n hK d_X_begin_20 rfl ?_
      refine r_table (td := 242) hK d_X_begin_21 (by decide +kernel) rfl (fun h21 => ?_) ⟨fun h21 => ?_, fun h21 => ?_, fun h21 => ?_, fun h21 => ?_, fun h21 => ?_, fun h21 => ?_, fun h21 => ?_, fun h21 => ?_, fun h21 => ?_, fun h21 => ?_, fun h21 => ?_, fun h21 => ?_, fun h21 => ?_, fun h21 => ?_, fun h21 => ?_, trivial⟩
      · skip
        have z10 : ¬ b = 10 := fun q => by rw [q] at h21; revert h21; decide
        have z11 : ¬ b = 11 := fun q => by rw [q] at h21; revert h21; decide
        have z12 : ¬ b = 12 := fun q => by rw [q] at h21; revert h21; decide
        have z13 : ¬ b = 13 := fun q => by rw [q] at h21; revert h21; decide
        have z14 : ¬ b = 14 := fun q => by rw [q] at h21; revert h21; decide
        have z20 : ¬ b = 20 := fun q => by rw [q] at h21; revert h21; decide
        have z21 : ¬ b = 21 := fun q => by rw [q] at h21; revert h21; decide
        have z22 : ¬ b = 22 := fun q => by rw [q] at h21; revert h21; decide
        have z23 : ¬ b = 23 := fun q => by rw [q] at h21; revert h21; decide
        have z24 : ¬ b = 24 := fun q => by rw [q] at h21; revert h21; decide
        refine r_iconst hK d_X_begin_242 kc_0 ?_
        refine r_iret hK rfl rfl d_X_begin_243 ?_
        rw [show bg k th ag nm (d + 1) b t = (0, lvT t b) by simp [bg, *]] at hQ
        exact hQ _ hT hF
      · skip
        show K 96 _ _ _ _
        have hx : b = 10 := toI h21
        subst hx
        refine r_aload_n hK d_X_begin_96 rfl ?_
        refine r_get hK lf_X_186 d_X_begin_97 (hL) rfl ?_
        refine r_iret hK rfl rfl d_X_begin_100 ?_
        exact hQ _ hT hF
      · skip
        show K 101 _ _ _ _
        have hx : b = 11 := toI h21
        subst hx
        refine r_aload_n hK d_X_begin_101 rfl ?_
        refine r_bipush hK d_X_begin_102 kb_10 ?_
        refine r_aload_n hK d_X_begin_104 rfl ?_
        refine r_iload_n hK d_X_begin_105 rfl ?_
        refine r_iload hK d_X_begin_106 rfl ?_
        refine r_s5 (k' := 3 + d) hK lm_X_287 d_X_begin_108 (by omega) (Nat.le_of_ble_eq_true rfl) ?_
        refine ih (by omega) hT hm hL hd (fun G108 hT f108 => kc_s ?_)
        have hL := hL.frm f108 (by omega)
        have hF := hF.tr f108
        refine r_aload_n hK d_X_begin_111 rfl ?_
        refine r_iconst hK d_X_begin_112 kc_1 ?_
        refine r_aload_n hK d_X_begin_113 rfl ?_
        refine r_get hK lf_X_277 d_X_begin_114 (hL) rfl ?_
        refine r_s2 (k' := 2) hK lm_X_284 d_X_begin_117 (by omega) (Nat.le_of_ble_eq_true rfl) ?_
        refine c_X_bodyOf (kc_s ?_)
        refine r_aload_n hK d_X_begin_120 rfl ?_
        refine r_iload_n hK d_X_begin_121 rfl ?_
        refine r_iload hK d_X_begin_122 rfl ?_
        refine r_s5 (k' := 3 + d) hK lm_X_287 d_X_begin_124 (by omega) (Nat.le_of_ble_eq_true rfl) ?_
        refine ih (by omega) hT (bg_le _ _ _ hm) hL hd (fun G124 hT f124 => kc_s ?_)
        have hL := hL.frm f124 (by omega)
        have hF := hF.tr f124
        refine r_iadd hK d_X_begin_127 ?_
        refine r_iret hK rfl rfl d_X_begin_128 ?_
        exact hQ _ hT hF
      · skip
        show K 129 _ _ _ _
        have hx : b = 12 := toI h21
        subst hx
        refine r_aload_n hK d_X_begin_129 rfl ?_
        refine r_bipush hK d_X_begin_130 kb_11 ?_
        refine r_aload_n hK d_X_begin_132 rfl ?_
        refine r_iload_n hK d_X_begin_133 rfl ?_
        refine r_iload hK d_X_begin_134 rfl ?_
        refine r_s5 (k' := 3 + d) hK lm_X_287 d_X_begin_136 (by omega) (Nat.le_of_ble_eq_true rfl) ?_
        refine ih (by omega) hT hm hL hd (fun G136 hT f136 => kc_s ?_)
        have hL := hL.frm f136 (by omega)
        have hF := hF.tr f136
        refine r_ineg hK d_X_begin_139 ?_
        refine r_iret hK rfl rfl d_X_begin_140 ?_
        exact hQ _ hT hF
      · skip
        show K 141 _ _ _ _
        have hx : b = 13 := toI h21
        subst hx
        refine r_aload_n hK d_X_begin_141 rfl ?_
        refine r_bipush hK d_X_begin_142 kb_10 ?_
        refine r_aload_n hK d_X_begin_144 rfl ?_
        refine r_iload_n hK d_X_begin_145 rfl ?_
        refine r_iload hK d_X_begin_146 rfl ?_
        refine r_s5 (k' := 3 + d) hK lm_X_287 d_X_begin_148 (by omega) (Nat.le_of_ble_eq_true rfl) ?_
        refine ih (by omega) hT hm hL hd (fun G148 hT f148 => kc_s ?_)
        have hL := hL.frm f148 (by omega)
        have hF := hF.tr f148
        refine r_bipush hK d_X_begin_151 kb_100 ?_
        refine r_isub hK d_X_begin_153 ?_
        refine r_iret hK rfl rfl d_X_begin_154 ?_
        exact hQ _ hT hF
      · skip
        show K 155 _ _ _ _
        have hx : b = 14 := toI h21
        subst hx
        refine r_iconst hK d_X_begin_155 kc_2 ?_
        refine r_aload_n hK d_X_begin_156 rfl ?_
        refine r_bipush hK d_X_begin_157 kb_13 ?_
        refine r_aload_n hK d_X_begin_159 rfl ?_
        refine r_iload_n hK d_X_begin_160 rfl ?_
        refine r_iload hK d_X_begin_161 rfl ?_
        refine r_s5 (k' := 3 + d) hK lm_X_287 d_X_begin_163 (by omega) (Nat.le_of_ble_eq_true rfl) ?_
        refine ih (by omega) hT hm hL hd (fun G163 hT f163 => kc_s ?_)
        have hL := hL.frm f163 (by omega)
        have hF := hF.tr f163
        refine r_imul hK d_X_begin_166 ?_
        refine r_iret hK rfl rfl d_X_begin_167 ?_
        exact hQ _ hT hF
      · skip
        show K 242 _ _ _ _
        have z10 : ¬ b = 10 := fun q => by rw [q] at h21; revert h21; decide
        have z11 : ¬ b = 11 := fun q => by rw [q] at h21; revert h21; decide
        have z12 : ¬ b = 12 := fun q => by rw [q] at h21; revert h21; decide
        have z13 : ¬ b = 13 := fun q => by rw [q] at h21; revert h21; decide
        have z14 : ¬ b = 14 := fun q => by rw [q] at h21; revert h21; decide
        have z20 : ¬ b = 20 := fun q => by rw [q] at h21; revert h21; decide
        have z21 : ¬ b = 21 := fun q => by rw [q] at h21; revert h21; decide
        have z22 : ¬ b = 22 := fun q => by rw [q] at h21; revert h21; decide
        have z23 : ¬ b = 23 := fun q => by rw [q] at h21; revert h21; decide
        have z24 : ¬ b = 24 := fun q => by rw [q] at h21; revert h21; decide
        refine r_iconst hK d_X_begin_242 kc_0 ?_
        refine r_iret hK rfl rfl d_X_begin_243 ?_
        rw [show bg k th ag nm (d + 1) b t = (0, lvT t b) by simp [bg, *]] at hQ
        exact hQ _ hT hF
      · skip
        show K 242 _ _ _ _
        have z10 : ¬ b = 10 := fun q => by rw [q] at h21; revert h21; decide
        have z11 : ¬ b = 11 := fun q => by rw [q] at h21; revert h21; decide
        have z12 : ¬ b = 12 := fun q => by rw [q] at h21; revert h21; decide
        have z13 : ¬ b = 13 := fun q => by rw [q] at h21; revert h21; decide
        have z14 : ¬ b = 14 := fun q => by rw [q] at h21; revert h21; decide
        have z20 : ¬ b = 20 := fun q => by rw [q] at h21; revert h21; decide
        have z21 : ¬ b = 21 := fun q => by rw [q] at h21; revert h21; decide
        have z22 : ¬ b = 22 := fun q => by rw [q] at h21; revert h21; decide
        have z23 : ¬ b = 23 := fun q => by rw [q] at h21; revert h21; decide
        have z24 : ¬ b = 24 := fun q => by rw [q] at h21; revert h21; decide
        refine r_iconst hK d_X_begin_242 kc_0 ?_
        refine r_iret hK rfl rfl d_X_begin_243 ?_
        rw [show bg k th ag nm (d + 1) b t = (0, lvT t b) by simp [bg, *]] at hQ
        exact hQ _ hT hF
      · skip
        show K 242 _ _ _ _
        have z10 : ¬ b = 10 := fun q => by rw [q] at h21; revert h21; decide
        have z11 : ¬ b = 11 := fun q => by rw [q] at h21; revert h21; decide
        have z12 : ¬ b = 12 := fun q => by rw [q] at h21; revert h21; decide
        have z13 : ¬ b = 13 := fun q => by rw [q] at h21; revert h21; decide
        have z14 : ¬ b = 14 := fun q => by rw [q] at h21; revert h21; decide
        have z20 : ¬ b = 20 := fun q => by rw [q] at h21; revert h21; decide
        have z21 : ¬ b = 21 := fun q => by rw [q] at h21; revert h21; decide
        have z22 : ¬ b = 22 := fun q => by rw [q] at h21; revert h21; decide
        have z23 : ¬ b = 23 := fun q => by rw [q] at h21; revert h21; decide
        have z24 : ¬ b = 24 := fun q => by rw [q] at h21; revert h21; decide
        refine r_iconst hK d_X_begin_242 kc_0 ?_
        refine r_iret hK rfl rfl d_X_begin_243 ?_
        rw [show bg k th ag nm (d + 1) b t = (0, lvT t b) by simp [bg, *]] at hQ
        exact hQ _ hT hF
      · skip
        show K 242 _ _ _ _
        have z10 : ¬ b = 10 := fun q => by rw [q] at h21; revert h21; decide
        have z11 : ¬ b = 11 := fun q => by rw [q] at h21; revert h21; decide
        have z12 : ¬ b = 12 := fun q => by rw [q] at h21; revert h21; decide
        have z13 : ¬ b = 13 := fun q => by rw [q] at h21; revert h21; decide
        have z14 : ¬ b = 14 := fun q => by rw [q] at h21; revert h21; decide
        have z20 : ¬ b = 20 := fun q => by rw [q] at h21; revert h21; decide
        have z21 : ¬ b = 21 := fun q => by rw [q] at h21; revert h21; decide
        have z22 : ¬ b = 22 := fun q => by rw [q] at h21; revert h21; decide
        have z23 : ¬ b = 23 := fun q => by rw [q] at h21; revert h21; decide
        have z24 : ¬ b = 24 := fun q => by rw [q] at h21; revert h21; decide
        refine r_iconst hK d_X_begin_242 kc_0 ?_
        refine r_iret hK rfl rfl d_X_begin_243 ?_
        rw [show bg k th ag nm (d + 1) b t = (0, lvT t b) by simp [bg, *]] at hQ
        exact hQ _ hT hF
      · skip
        show K 242 _ _ _ _
        have z10 : ¬ b = 10 := fun q => by rw [q] at h21; revert h21; decide
        have z11 : ¬ b = 11 := fun q => by rw [q] at h21; revert h21; decide
        have z12 : ¬ b = 12 := fun q => by rw [q] at h21; revert h21; decide
        have z13 : ¬ b = 13 := fun q => by rw [q] at h21; revert h21; decide
        have z14 : ¬ b = 14 := fun q => by rw [q] at h21; revert h21; decide
        have z20 : ¬ b = 20 := fun q => by rw [q] at h21; revert h21; decide
        have z21 : ¬ b = 21 := fun q => by rw [q] at h21; revert h21; decide
        have z22 : ¬ b = 22 := fun q => by rw [q] at h21; revert h21; decide
        have z23 : ¬ b = 23 := fun q => by rw [q] at h21; revert h21; decide
        have z24 : ¬ b = 24 := fun q => by rw [q] at h21; revert h21; decide
        refine r_iconst hK d_X_begin_242 kc_0 ?_
        refine r_iret hK rfl rfl d_X_begin_243 ?_
        rw [show bg k th ag nm (d + 1) b t = (0, lvT t b) by simp [bg, *]] at hQ
        exact hQ _ hT hF
      · skip
        show K 168 _ _ _ _
        have hx : b = 20 := toI h21
        subst hx
        refine r_iload_n hK d_X_begin_168 rfl ?_
        refine r_iret hK rfl rfl d_X_begin_169 ?_
        exact hQ _ hT hF
      · skip
        show K 170 _ _ _ _
        have hx : b = 21 := toI h21
        subst hx
        refine r_aload_n hK d_X_begin_170 rfl ?_
        refine r_bipush hK d_X_begin_171 kb_20 ?_
        refine r_aload_n hK d_X_begin_173 rfl ?_
        refine r_iload_n hK d_X_begin_174 rfl ?_
        refine r_iload hK d_X_begin_175 rfl ?_
        refine r_s5 (k' := 3 + d) hK lm_X_287 d_X_begin_177 (by omega) (Nat.le_of_ble_eq_true rfl) ?_
        refine ih (by omega) hT hm hL hd (fun G177 hT f177 => kc_s ?_)
        have hL := hL.frm f177 (by omega)
        have hF := hF.tr f177
        refine r_aload_n hK d_X_begin_180 rfl ?_
        refine r_get hK lf_X_192 d_X_begin_181 (hL) rfl ?_
        refine r_iadd hK d_X_begin_184 ?_
        refine r_iret hK rfl rfl d_X_begin_185 ?_
        exact hQ _ hT hF
      · skip
        show K 186 _ _ _ _
        have hx : b = 22 := toI h21
        subst hx
        refine r_aload_n hK d_X_begin_186 rfl ?_
        refine r_bipush hK d_X_begin_187 kb_21 ?_
        refine r_aload_n hK d_X_begin_189 rfl ?_
        refine r_iload_n hK d_X_begin_190 rfl ?_
        refine r_iload hK d_X_begin_191 rfl ?_
        refine r_s5 (k' := 3 + d) hK lm_X_287 d_X_begin_193 (by omega) (Nat.le_of_ble_eq_true rfl) ?_
        refine ih (by omega) hT hm hL hd (fun G193 hT f193 => kc_s ?_)
        have hL := hL.frm f193 (by omega)
        have hF := hF.tr f193
        refine r_sipush hK d_X_begin_196 ks_1000 ?_
        refine r_isub hK d_X_begin_199 ?_
        refine r_iret hK rfl rfl d_X_begin_200 ?_
        exact hQ _ hT hF
      · skip
        show K 201 _ _ _ _
        have hx : b = 23 := toI h21
        subst hx
        refine r_aload_n hK d_X_begin_201 rfl ?_
        refine r_bipush hK d_X_begin_202 kb_20 ?_
        refine r_aload_n hK d_X_begin_204 rfl ?_
        refine r_iload_n hK d_X_begin_205 rfl ?_
        refine r_iload hK d_X_begin_206 rfl ?_
        refine r_s5 (k' := 3 + d) hK lm_X_287 d_X_begin_208 (by omega) (Nat.le_of_ble_eq_true rfl) ?_
        refine ih (by omega) hT hm hL hd (fun G208 hT f208 => kc_s ?_)
        have hL := hL.frm f208 (by omega)
        have hF := hF.tr f208
        refine r_aload_n hK d_X_begin_211 rfl ?_
        refine r_iconst hK d_X_begin_212 kc_0 ?_
        refine r_aload_n hK d_X_begin_213 rfl ?_
        refine r_get hK lf_X_277 d_X_begin_214 (hL) rfl ?_
        refine r_s2 (k' := 2) hK lm_X_284 d_X_begin_217 (by omega) (Nat.le_of_ble_eq_true rfl) ?_
        refine c_X_bodyOf (kc_s ?_)
        refine r_aload_n hK d_X_begin_220 rfl ?_
        refine r_iload_n hK d_X_begin_221 rfl ?_
        refine r_iload hK d_X_begin_222 rfl ?_
        refine r_s5 (k' := 3 + d) hK lm_X_287 d_X_begin_224 (by omega) (Nat.le_of_ble_eq_true rfl) ?_
        refine ih (by omega) hT (bg_le _ _ _ hm) hL hd (fun G224 hT f224 => kc_s ?_)
        have hL := hL.frm f224 (by omega)
        have hF := hF.tr f224
        refine r_isub hK d_X_begin_227 ?_
        refine r_iret hK rfl rfl d_X_begin_228 ?_
        exact hQ _ hT hF
      · skip
        show K 229 _ _ _ _
        have hx : b = 24 := toI h21
        subst hx
        refine r_iconst hK d_X_begin_229 kc_2 ?_
        refine r_aload_n hK d_X_begin_230 rfl ?_
        refine r_bipush hK d_X_begin_231 kb_21 ?_
        refine r_aload_n hK d_X_begin_233 rfl ?_
        refine r_iload_n hK d_X_begin_234 rfl ?_
        refine r_iload hK d_X_begin_235 rfl ?_
        refine r_s5 (k' := 3 + d) hK lm_X_287 d_X_begin_237 (by omega) (Nat.le_of_ble_eq_true rfl) ?_
        refine ih (by omega) hT hm hL hd (fun G237 hT f237 => kc_s ?_)
        have hL := hL.frm f237 (by omega)
        have hF := hF.tr f237
        refine r_imul hK d_X_begin_240 ?_
        refine r_iret hK rfl rfl d_X_begin_241 ?_
        exact hQ _ hT hF
    · skip
      exact absurd h4 (fun q => q ((lec (n := 16) (by decide) (by omega)).mpr (by omega)))
