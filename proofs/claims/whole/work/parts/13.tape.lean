def bt (f : Nat → Int32) (m p : Nat) : Int32 := if p < m then f p else -1
def isFg (x : Int32) : Bool := decide (48 ≤ x) && decide (x ≤ 57)
def knd (x : Int32) : Int32 := if x = 98 then 1 else if x = 100 then 2 else if x = 101 then 5 else if x = 110 then 4 else if x = 115 then 3 else 0
def rSign (f : Nat → Int32) (m : Nat) (c : Int32) (p : Nat) : Int32 × Nat := if bt f m p = c then (0, p + 1) else (1, p)
def nFg (f : Nat → Int32) (m p : Nat) : Nat := if isFg (bt f m p) = true then (if isFg (bt f m (p + 1)) = true then (if isFg (bt f m (p + 2)) = true then 3 else 2) else 1) else 0
def vvF (f : Nat → Int32) (m p : Nat) : Nat → Int32
  | 0 => 0
  | j + 1 => vvF f m p j * 10 + bt f m (p + j) - 48
def rNum (f : Nat → Int32) (m : Nat) (lo hi : Int32) (p : Nat) : Int32 × Nat × Int32 := if nFg f m p = 1 ∨ nFg f m p = 2 then (if inB (vvF f m p (nFg f m p)) lo hi = true then (0, p + nFg f m p, vvF f m p (nFg f m p)) else (2, p, 0)) else (1, p, 0)
def rFig (f : Nat → Int32) (m p : Nat) : Int32 × Nat × Int32 × Int32 × Int32 :=
  if ¬ (rNum f m 0 9 p).1 = 0 then ((rNum f m 0 9 p).1, (rNum f m 0 9 p).2.1, 0, 0, 0) else
  if ¬ (rSign f m 44 (rNum f m 0 9 p).2.1).1 = 0 then ((rSign f m 44 (rNum f m 0 9 p).2.1).1, (rSign f m 44 (rNum f m 0 9 p).2.1).2, 0, 0, 0) else
  if ¬ (rNum f m 1 9 (rSign f m 44 (rNum f m 0 9 p).2.1).2).1 = 0 then ((rNum f m 1 9 (rSign f m 44 (rNum f m 0 9 p).2.1).2).1, (rNum f m 1 9 (rSign f m 44 (rNum f m 0 9 p).2.1).2).2.1, 0, 0, 0) else
  if ¬ (rSign f m 44 (rNum f m 1 9 (rSign f m 44 (rNum f m 0 9 p).2.1).2).2.1).1 = 0 then ((rSign f m 44 (rNum f m 1 9 (rSign f m 44 (rNum f m 0 9 p).2.1).2).2.1).1, (rSign f m 44 (rNum f m 1 9 (rSign f m 44 (rNum f m 0 9 p).2.1).2).2.1).2, 0, 0, 0) else
  if ¬ (rNum f m 0 9 (rSign f m 44 (rNum f m 1 9 (rSign f m 44 (rNum f m 0 9 p).2.1).2).2.1).2).1 = 0 then ((rNum f m 0 9 (rSign f m 44 (rNum f m 1 9 (rSign f m 44 (rNum f m 0 9 p).2.1).2).2.1).2).1, (rNum f m 0 9 (rSign f m 44 (rNum f m 1 9 (rSign f m 44 (rNum f m 0 9 p).2.1).2).2.1).2).2.1, 0, 0, 0) else
  ((rSign f m 59 (rNum f m 0 9 (rSign f m 44 (rNum f m 1 9 (rSign f m 44 (rNum f m 0 9 p).2.1).2).2.1).2).2.1).1, (rSign f m 59 (rNum f m 0 9 (rSign f m 44 (rNum f m 1 9 (rSign f m 44 (rNum f m 0 9 p).2.1).2).2.1).2).2.1).2, (rNum f m 0 9 p).2.2, (rNum f m 1 9 (rSign f m 44 (rNum f m 0 9 p).2.1).2).2.2, (rNum f m 0 9 (rSign f m 44 (rNum f m 1 9 (rSign f m 44 (rNum f m 0 9 p).2.1).2).2.1).2).2.2)
def addL (v : Nat → Int32) (k a b c : Int32) : Nat → Int32 := upd (upd (upd (upd (upd (upd (upd v (6 + nN (v 0)) k) (30 + nN (v 0)) 0) (12 + nN (v 0)) a) (18 + nN (v 0)) b) (24 + nN (v 0)) c) 3 (v 3 ||| (1 <<< (v 0 &&& 31)))) 0 (v 0 + 1)
def rLet (f : Nat → Int32) (m p : Nat) (v : Nat → Int32) : Int32 × Nat × (Nat → Int32) :=
  if knd (bt f m p) = 0 then (1, p, v) else if 6 ≤ v 0 then (3, p, v) else
  if ¬ (rFig f m (p + 1)).1 = 0 then ((rFig f m (p + 1)).1, (rFig f m (p + 1)).2.1, v) else
  (0, (rFig f m (p + 1)).2.1, addL v (knd (bt f m p)) (rFig f m (p + 1)).2.2.1 (rFig f m (p + 1)).2.2.2.1 (rFig f m (p + 1)).2.2.2.2)
def rLets (f : Nat → Int32) (m : Nat) : Nat → Nat → (Nat → Int32) → Int32 × Nat × (Nat → Int32)
  | 0, p, v => (0, p, v)
  | n + 1, p, v => if p < m then (if (rLet f m p v).1 = 0 then rLets f m n (rLet f m p v).2.1 (rLet f m p v).2.2 else rLet f m p v) else (0, p, v)
def rLaw (f : Nat → Int32) (m p : Nat) (v : Nat → Int32) : Int32 × Nat × (Nat → Int32) :=
  if ¬ (rSign f m 99 p).1 = 0 then ((rSign f m 99 p).1, (rSign f m 99 p).2, v) else
  if ¬ (rNum f m 1 30 (rSign f m 99 p).2).1 = 0 then ((rNum f m 1 30 (rSign f m 99 p).2).1, (rNum f m 1 30 (rSign f m 99 p).2).2.1, v) else
  ((rSign f m 59 (rNum f m 1 30 (rSign f m 99 p).2).2.1).1, (rSign f m 59 (rNum f m 1 30 (rSign f m 99 p).2).2.1).2, upd v 1 (rNum f m 1 30 (rSign f m 99 p).2).2.2)
def clrV (v : Nat → Int32) : Nat → Int32 := upd (upd (upd (upd (upd (upd v 0 0) 1 0) 3 0) 2 0) 4 0) 5 0
def rAll (f : Nat → Int32) (m : Nat) (v : Nat → Int32) : Int32 × Nat × (Nat → Int32) :=
  if (rLaw f m 0 (clrV v)).1 = 0 then rLets f m 7 (rLaw f m 0 (clrV v)).2.1 (rLaw f m 0 (clrV v)).2.2 else rLaw f m 0 (clrV v)
theorem isFg_lt {f : Nat → Int32} {m p : Nat} (h : isFg (bt f m p) = true) : p < m := by
  unfold bt at h
  by_cases q : p < m
  · exact q
  · rw [if_neg q] at h
    simp [isFg] at h
theorem nFg_le {f : Nat → Int32} {m p : Nat} (hp : p ≤ m) : p + nFg f m p ≤ m := by
  unfold nFg
  split
  · rename_i h0
    have := isFg_lt h0
    split
    · rename_i h1
      have := isFg_lt h1
      split
      · rename_i h2
        have := isFg_lt h2
        omega
      · omega
    · omega
  · omega
theorem nFg_3 {f : Nat → Int32} {m p : Nat} : nFg f m p ≤ 3 := by
  unfold nFg
  repeat' split
  all_goals omega
theorem nFg_eq {f : Nat → Int32} {m p j : Nat} (hj : j ≤ 3) (h : ∀ k, k < j → isFg (bt f m (p + k)) = true) (h2 : j = 3 ∨ isFg (bt f m (p + j)) = false) : nFg f m p = j := by
  unfold nFg
  rcases (show j = 0 ∨ j = 1 ∨ j = 2 ∨ j = 3 by omega) with rfl | rfl | rfl | rfl
  · rcases h2 with h2 | h2
    · omega
    · simp at h2; simp [h2]
  · have := h 0 (by omega)
    rcases h2 with h2 | h2
    · omega
    · simp at this; simp [this, h2]
  · have a0 := h 0 (by omega)
    have a1 := h 1 (by omega)
    rcases h2 with h2 | h2
    · omega
    · simp at a0; simp [a0, a1, h2]
  · have a0 := h 0 (by omega)
    have a1 := h 1 (by omega)
    have a2 := h 2 (by omega)
    simp at a0; simp [a0, a1, a2]
theorem rSign_le {f : Nat → Int32} {m p : Nat} {c : Int32} (hc : ¬ c = -1) (hp : p ≤ m) : (rSign f m c p).2 ≤ m := by
  unfold rSign
  split
  · rename_i h
    unfold bt at h
    split at h
    · show p + 1 ≤ m
      omega
    · exact absurd h.symm hc
  · exact hp
theorem rNum_le {f : Nat → Int32} {m p : Nat} {lo hi : Int32} (hp : p ≤ m) : (rNum f m lo hi p).2.1 ≤ m := by
  unfold rNum
  have := nFg_le (f := f) hp
  repeat' split
  all_goals first | exact hp | exact this
theorem rSign_01 {f : Nat → Int32} {m p : Nat} {c : Int32} : (rSign f m c p).1 = 0 ∨ (rSign f m c p).1 = 1 := by
  unfold rSign
  split
  · exact Or.inl rfl
  · exact Or.inr rfl
def zB (c : Int32) : Bool := decide (c = 0)
theorem zB_t {c : Int32} : zB c = true ↔ c = 0 := by simp [zB]
theorem zB_f {c : Int32} : zB c = false ↔ ¬ c = 0 := by simp [zB]
theorem zB_1 {c : Int32} (h : c = 0) : bI (zB c) = 1 := bI_t (zB_t.mpr h)
theorem zB_0 {c : Int32} (h : ¬ c = 0) : bI (zB c) = 0 := bI_f (fun q => h (zB_t.mp q))
def lfC (lf c : Int32) : Int32 := if c = 0 then lf else c
def Frm2 (G G' : gG) (a n b m : Nat) : Prop := ∀ q, (q < a ∨ a + n ≤ q) → (q < b ∨ b + m ≤ q) → G' q = G q
theorem Frm2.rf {G : gG} {a n b m : Nat} : Frm2 G G a n b m := fun _ _ _ => rfl
theorem Frm2.tr {G G1 G2 : gG} {a n b m : Nat} (h : Frm2 G G1 a n b m) (h2 : Frm2 G1 G2 a n b m) : Frm2 G G2 a n b m := fun q hq hq2 => (h2 q hq hq2).trans (h q hq hq2)
theorem Frm.l {G G' : gG} {a n b m : Nat} (h : Frm G G' a n) : Frm2 G G' a n b m := fun q hq _ => h q hq
theorem Frm.r {G G' : gG} {a n b m : Nat} (h : Frm G G' b m) : Frm2 G G' a n b m := fun q _ hq => h q hq
theorem Frm2.mono {G G' : gG} {a n b m b2 m2 : Nat} (h : Frm2 G G' a n b m) (h1 : b2 ≤ b) (h2 : b + m ≤ b2 + m2) : Frm2 G G' a n b2 m2 := fun q hq hq2 => h q hq (by omega)
theorem Frm2.f {G G' : gG} {a n b m c k : Nat} (h : Frm2 G G' a n b m) (h1 : c ≤ a) (h2 : a + n ≤ c + k) (h3 : c ≤ b) (h4 : b + m ≤ c + k) : Frm G G' c k := fun q hq => h q (by omega) (by omega)
theorem HX.frm2 {G G' : gG} {h a n b m : Nat} {s : Int32} {v : Nat → Int32} (hH : HX G h s v) (hF : Frm2 G G' a n b m) (hd : h + 8 ≤ a ∨ a + n ≤ h) (hd2 : h + 8 ≤ b ∨ b + m ≤ h) : HX G' h s v := ⟨(hF _ (by omega) (by omega)).trans hH.1, (hF _ (by omega) (by omega)).trans hH.2.1, fun i hi => (hF _ (by omega) (by omega)).trans (hH.2.2 i hi)⟩
theorem c_P_add {E : gX} {S : Nat} {G : gG} {Q : Option Value → gG → Prop} {r m : Nat} {lf pl nb x : Int32} {f : Nat → Int32} (hP : PX G r f (nI m) lf pl nb) (hm : m ≤ 100) (hQ : ∀ G' : gG, PX G' r (if m < 100 then upd f m x else f) (nI (if m < 100 then m + 1 else m)) lf pl nb → Frm G G' r 2 → Q (some (.int (bI (decide (m < 100))))) G') : Runs E y_P_add 1 0 S [.ref r, .int x] G Q := by
  refine Runs.of "ClockPost$Tape" [some (.ref r), some (.int x)] cw_P_add (by decide) (by decide +kernel) rfl (Nat.le_of_ble_eq_true rfl) rfl (fun K hK => ?_)
  refine r_aload_n hK d_P_add_0 rfl ?_
  refine r_get hK lf_P_15 d_P_add_1 (hP.1) rfl ?_
  refine r_aload_n hK d_P_add_4 rfl ?_
  refine r_get hK lf_P_9 d_P_add_5 (hP.1) rfl ?_
  refine r_alen (v := nI 100) hK d_P_add_8 hP.2 (by decide) rfl ?_
  refine r_icmp_lt (tgt := 14) hK d_P_add_9 rfl (fun h9 => ?_) (fun h9 => ?_)
  · skip
    have hq : m < 100 := (nI_ltI (by omega) (by decide)).mp h9
    rw [if_pos hq, if_pos hq, show bI (decide (m < 100)) = 1 from bI_t (by simp [hq])] at hQ
    refine r_aload_n hK d_P_add_14 rfl ?_
    refine r_get hK lf_P_9 d_P_add_15 (hP.1) rfl ?_
    refine r_aload_n hK d_P_add_18 rfl ?_
    refine r_get hK lf_P_15 d_P_add_19 (hP.1) rfl ?_
    refine r_iload_n hK d_P_add_22 rfl ?_
    refine r_iast hK d_P_add_23 hP.2 (vp_in_nI hq (by omega)) ?_
    rw [nI_clamp (by omega)]
    have hF : Frm G (gup G (r + 1) _) r 2 := Frm.up (e := .inl (0, 100, .inl (upd f m x))) (by omega) (by omega)
    have hP : PX (gup G (r + 1) (.inl (0, 100, .inl (upd f m x)))) r (upd f m x) (nI m) lf pl nb := ⟨(gup_n (by omega)).trans hP.1, gup_s⟩
    refine r_aload_n hK d_P_add_24 rfl ?_
    refine r_dup hK d_P_add_25 rfl ?_
    refine r_get hK lf_P_15 d_P_add_26 (hP.1) rfl ?_
    refine r_iconst hK d_P_add_29 kc_1 ?_
    refine r_iadd hK d_P_add_30 ?_
    rw [nI_1]
    refine p_P_length hK lf_P_15 d_P_add_31 hP (fun G31 hP f31 => ?_)
    have hF := hF.tr f31
    refine r_iconst hK d_P_add_34 kc_1 ?_
    refine r_zret hK rfl (rfl) rfl d_P_add_35 ?_
    exact hQ _ hP hF
  · skip
    have hq : ¬ m < 100 := fun q => h9 ((nI_ltI (by omega) (by decide)).mpr q)
    rw [if_neg hq, if_neg hq, show bI (decide (m < 100)) = 0 from bI_f (by simp [hq])] at hQ
    refine r_iconst hK d_P_add_12 kc_0 ?_
    refine r_zret hK rfl (rfl) rfl d_P_add_13 ?_
    exact hQ _ hP Frm.rf
theorem c_P_fail {E : gX} {S : Nat} {G : gG} {Q : Option Value → gG → Prop} {r : Nat} {n lf pl nb x : Int32} {f : Nat → Int32} (hP : PX G r f n lf pl nb) (hQ : ∀ G' : gG, PX G' r f n x pl nb → Frm G G' r 2 → Q (some (.int 0)) G') : Runs E y_P_fail 1 0 S [.ref r, .int x] G Q := by
  refine Runs.of "ClockPost$Tape" [some (.ref r), some (.int x)] cw_P_fail (by decide) (by decide +kernel) rfl (Nat.le_of_ble_eq_true rfl) rfl (fun K hK => ?_)
  have hF : Frm G G r 2 := Frm.rf
  refine r_aload_n hK d_P_fail_0 rfl ?_
  refine r_iload_n hK d_P_fail_1 rfl ?_
  refine p_P_latestFault hK lf_P_104 d_P_fail_2 hP (fun G2 hP f2 => ?_)
  have hF := hF.tr f2
  refine r_iconst hK d_P_fail_5 kc_0 ?_
  refine r_zret hK rfl (rfl) rfl d_P_fail_6 ?_
  exact hQ _ hP hF
theorem c_P_isFigure {E : gX} {S : Nat} {G : gG} {Q : Option Value → gG → Prop} {x : Int32} (hQ : Q (some (.int (bI (isFg x)))) G) : Runs E y_P_isFigure 1 0 S [.int x] G Q := by
  refine Runs.of "ClockPost$Tape" [some (.int x)] cw_P_isFigure (by decide) (by decide +kernel) rfl (Nat.le_of_ble_eq_true rfl) rfl (fun K hK => ?_)
  refine r_iload_n hK d_P_isFigure_0 rfl ?_
  refine r_bipush hK d_P_isFigure_1 kb_48 ?_
  refine r_icmp_lt (tgt := 16) hK d_P_isFigure_3 rfl (fun h3 => ?_) (fun h3 => ?_)
  · skip
    refine r_iconst hK d_P_isFigure_16 kc_0 ?_
    refine r_zret hK rfl (rfl) rfl d_P_isFigure_17 ?_
    first | exact rc hQ (bI_t (by clear hK hQ; simp only [isFg, Bool.and_eq_true, Bool.or_eq_true, Bool.not_eq_true', decide_eq_true_eq, decide_eq_false_iff_not, i_lt, i_le, i_eq, ti_0, ti_1, ti_2, ti_3, ti_4, ti_5, ti_6, ti_7, ti_8, ti_9, ti_10, ti_11, ti_12, ti_13, ti_14, ti_16, ti_20, ti_21, ti_22, ti_23, ti_24, ti_30, ti_31, ti_36, ti_40, ti_44, ti_48, ti_57, ti_59, ti_60, ti_61, ti_63, ti_64, ti_98, ti_99, ti_100, ti_101, ti_110, ti_115, ti_128, ti_255, ti_300, ti_900, ti_972, ti_999, ti_1000, ti_9999, ti_m1] at *; omega)) | exact rc hQ (bI_f (by intro hq; clear hK hQ; simp only [isFg, Bool.and_eq_true, Bool.or_eq_true, Bool.not_eq_true', decide_eq_true_eq, decide_eq_false_iff_not, i_lt, i_le, i_eq, ti_0, ti_1, ti_2, ti_3, ti_4, ti_5, ti_6, ti_7, ti_8, ti_9, ti_10, ti_11, ti_12, ti_13, ti_14, ti_16, ti_20, ti_21, ti_22, ti_23, ti_24, ti_30, ti_31, ti_36, ti_40, ti_44, ti_48, ti_57, ti_59, ti_60, ti_61, ti_63, ti_64, ti_98, ti_99, ti_100, ti_101, ti_110, ti_115, ti_128, ti_255, ti_300, ti_900, ti_972, ti_999, ti_1000, ti_9999, ti_m1] at *; omega))
  · skip
    refine r_iload_n hK d_P_isFigure_6 rfl ?_
    refine r_bipush hK d_P_isFigure_7 kb_57 ?_
    refine r_icmp_gt (tgt := 16) hK d_P_isFigure_9 rfl (fun h9 => ?_) (fun h9 => ?_)
    · skip
      refine r_iconst hK d_P_isFigure_16 kc_0 ?_
      refine r_zret hK rfl (rfl) rfl d_P_isFigure_17 ?_
      first | exact rc hQ (bI_t (by clear hK hQ; simp only [isFg, Bool.and_eq_true, Bool.or_eq_true, Bool.not_eq_true', decide_eq_true_eq, decide_eq_false_iff_not, i_lt, i_le, i_eq, ti_0, ti_1, ti_2, ti_3, ti_4, ti_5, ti_6, ti_7, ti_8, ti_9, ti_10, ti_11, ti_12, ti_13, ti_14, ti_16, ti_20, ti_21, ti_22, ti_23, ti_24, ti_30, ti_31, ti_36, ti_40, ti_44, ti_48, ti_57, ti_59, ti_60, ti_61, ti_63, ti_64, ti_98, ti_99, ti_100, ti_101, ti_110, ti_115, ti_128, ti_255, ti_300, ti_900, ti_972, ti_999, ti_1000, ti_9999, ti_m1] at *; omega)) | exact rc hQ (bI_f (by intro hq; clear hK hQ; simp only [isFg, Bool.and_eq_true, Bool.or_eq_true, Bool.not_eq_true', decide_eq_true_eq, decide_eq_false_iff_not, i_lt, i_le, i_eq, ti_0, ti_1, ti_2, ti_3, ti_4, ti_5, ti_6, ti_7, ti_8, ti_9, ti_10, ti_11, ti_12, ti_13, ti_14, ti_16, ti_20, ti_21, ti_22, ti_23, ti_24, ti_30, ti_31, ti_36, ti_40, ti_44, ti_48, ti_57, ti_59, ti_60, ti_61, ti_63, ti_64, ti_98, ti_99, ti_100, ti_101, ti_110, ti_115, ti_128, ti_255, ti_300, ti_900, ti_972, ti_999, ti_1000, ti_9999, ti_m1] at *; omega))
    · skip
      refine r_iconst hK d_P_isFigure_12 kc_1 ?_
      refine r_goto (tgt := 17) hK d_P_isFigure_13 rfl ?_
      refine r_zret hK rfl (rfl) rfl d_P_isFigure_17 ?_
      first | exact rc hQ (bI_t (by clear hK hQ; simp only [isFg, Bool.and_eq_true, Bool.or_eq_true, Bool.not_eq_true', decide_eq_true_eq, decide_eq_false_iff_not, i_lt, i_le, i_eq, ti_0, ti_1, ti_2, ti_3, ti_4, ti_5, ti_6, ti_7, ti_8, ti_9, ti_10, ti_11, ti_12, ti_13, ti_14, ti_16, ti_20, ti_21, ti_22, ti_23, ti_24, ti_30, ti_31, ti_36, ti_40, ti_44, ti_48, ti_57, ti_59, ti_60, ti_61, ti_63, ti_64, ti_98, ti_99, ti_100, ti_101, ti_110, ti_115, ti_128, ti_255, ti_300, ti_900, ti_972, ti_999, ti_1000, ti_9999, ti_m1] at *; omega)) | exact rc hQ (bI_f (by intro hq; clear hK hQ; simp only [isFg, Bool.and_eq_true, Bool.or_eq_true, Bool.not_eq_true', decide_eq_true_eq, decide_eq_false_iff_not, i_lt, i_le, i_eq, ti_0, ti_1, ti_2, ti_3, ti_4, ti_5, ti_6, ti_7, ti_8, ti_9, ti_10, ti_11, ti_12, ti_13, ti_14, ti_16, ti_20, ti_21, ti_22, ti_23, ti_24, ti_30, ti_31, ti_36, ti_40, ti_44, ti_48, ti_57, ti_59, ti_60, ti_61, ti_63, ti_64, ti_98, ti_99, ti_100, ti_101, ti_110, ti_115, ti_128, ti_255, ti_300, ti_900, ti_972, ti_999, ti_1000, ti_9999, ti_m1] at *; omega))
theorem c_P_kindToldBy {E : gX} {S : Nat} {G : gG} {Q : Option Value → gG → Prop} {x : Int32} (hQ : Q (some (.int (knd x))) G) : Runs E y_P_kindToldBy 1 0 S [.int x] G Q := by
  refine Runs.of "ClockPost$Tape" [some (.int x)] cw_P_kindToldBy (by decide) (by decide +kernel) rfl (Nat.le_of_ble_eq_true rfl) rfl (fun K hK => ?_)
  refine r_iload_n hK d_P_kindToldBy_0 rfl ?_
  refine r_lookup hK d_P_kindToldBy_1 (by decide +kernel) (by decide +kernel) ⟨fun h1 => ?_, fun n1_0 => ⟨fun h1 => ?_, fun n1_1 => ⟨fun h1 => ?_, fun n1_2 => ⟨fun h1 => ?_, fun n1_3 => ⟨fun h1 => ?_, fun n1_4 => ?_⟩⟩⟩⟩⟩
  · skip
    show K 52 _ _ _ _
    have hx : x = 98 := toI h1
    refine r_iconst hK d_P_kindToldBy_52 kc_1 ?_
    refine r_iret hK rfl rfl d_P_kindToldBy_53 ?_
    exact rc hQ (by rw [hx]; decide)
  · skip
    show K 54 _ _ _ _
    have hx : x = 100 := toI h1
    refine r_iconst hK d_P_kindToldBy_54 kc_2 ?_
    refine r_iret hK rfl rfl d_P_kindToldBy_55 ?_
    exact rc hQ (by rw [hx]; decide)
  · skip
    show K 60 _ _ _ _
    have hx : x = 101 := toI h1
    refine r_iconst hK d_P_kindToldBy_60 kc_5 ?_
    refine r_iret hK rfl rfl d_P_kindToldBy_61 ?_
    exact rc hQ (by rw [hx]; decide)
  · skip
    show K 58 _ _ _ _
    have hx : x = 110 := toI h1
    refine r_iconst hK d_P_kindToldBy_58 kc_4 ?_
    refine r_iret hK rfl rfl d_P_kindToldBy_59 ?_
    exact rc hQ (by rw [hx]; decide)
  · skip
    show K 56 _ _ _ _
    have hx : x = 115 := toI h1
    refine r_iconst hK d_P_kindToldBy_56 kc_3 ?_
    refine r_iret hK rfl rfl d_P_kindToldBy_57 ?_
    exact rc hQ (by rw [hx]; decide)
  · skip
    show K 62 _ _ _ _
    have z0 : ¬ x = 98 := fun q => n1_0 (by rw [q]; rfl)
    have z1 : ¬ x = 100 := fun q => n1_1 (by rw [q]; rfl)
    have z2 : ¬ x = 101 := fun q => n1_2 (by rw [q]; rfl)
    have z3 : ¬ x = 110 := fun q => n1_3 (by rw [q]; rfl)
    have z4 : ¬ x = 115 := fun q => n1_4 (by rw [q]; rfl)
    refine r_iconst hK d_P_kindToldBy_62 kc_0 ?_
    refine r_iret hK rfl rfl d_P_kindToldBy_63 ?_
    exact rc hQ (by simp [knd, z0, z1, z2, z3, z4])
theorem c_P_byteAt {E : gX} {S : Nat} {G : gG} {Q : Option Value → gG → Prop} {r m j : Nat} {lf pl nb : Int32} {f : Nat → Int32} (hP : PX G r f (nI m) lf pl nb) (hm : m ≤ 100) (hj : j < 2 ^ 31) (hQ : Q (some (.int (bt f m j))) G) : Runs E y_P_byteAt 1 0 S [.ref r, .int (nI j)] G Q := by
  refine Runs.of "ClockPost$Tape" [some (.ref r), some (.int (nI j))] cw_P_byteAt (by decide) (by decide +kernel) rfl (Nat.le_of_ble_eq_true rfl) rfl (fun K hK => ?_)
  refine r_iload_n hK d_P_byteAt_0 rfl ?_
  refine r_if_lt (tgt := 30) hK d_P_byteAt_1 rfl (fun h1 => ?_) (fun h1 => ?_)
  · skip
    exact absurd h1 (nI_pos hj)
  · skip
    refine r_iload_n hK d_P_byteAt_4 rfl ?_
    refine r_aload_n hK d_P_byteAt_5 rfl ?_
    refine r_get hK lf_P_15 d_P_byteAt_6 (hP.1) rfl ?_
    refine r_icmp_ge (tgt := 30) hK d_P_byteAt_9 rfl (fun h9 => ?_) (fun h9 => ?_)
    · skip
      have hq : ¬ j < m := by have := (nI_leI (by omega) hj).mp h9; omega
      refine r_iconst hK d_P_byteAt_30 kc_m1 ?_
      refine r_iret hK rfl rfl d_P_byteAt_31 ?_
      first | exact rc hQ (by rw [bt, if_pos hq]) | exact rc hQ (by rw [bt, if_neg hq])
    · skip
      have hq : j < m := Nat.not_le.mp (fun q => h9 ((nI_leI (by omega) hj).mpr q))
      refine r_iload_n hK d_P_byteAt_12 rfl ?_
      refine r_aload_n hK d_P_byteAt_13 rfl ?_
      refine r_get hK lf_P_9 d_P_byteAt_14 (hP.1) rfl ?_
      refine r_alen (v := nI 100) hK d_P_byteAt_17 hP.2 (by decide) rfl ?_
      refine r_icmp_ge (tgt := 30) hK d_P_byteAt_18 rfl (fun h18 => ?_) (fun h18 => ?_)
      · skip
        exact absurd ((nI_leI (by decide) hj).mp h18) (by omega)
      · skip
        refine r_aload_n hK d_P_byteAt_21 rfl ?_
        refine r_get hK lf_P_9 d_P_byteAt_22 (hP.1) rfl ?_
        refine r_iload_n hK d_P_byteAt_25 rfl ?_
        refine r_iald hK d_P_byteAt_26 hP.2 (vp_in_nI (show j < 100 by omega) (by omega)) ?_
        rw [nI_clamp (by omega)]
        refine r_goto (tgt := 31) hK d_P_byteAt_27 rfl ?_
        refine r_iret hK rfl rfl d_P_byteAt_31 ?_
        first | exact rc hQ (by rw [bt, if_pos hq]) | exact rc hQ (by rw [bt, if_neg hq])
theorem c_P_readSign {E : gX} {S : Nat} {G : gG} {Q : Option Value → gG → Prop} {r m p : Nat} {lf nb : Int32} {f : Nat → Int32} (hP : PX G r f (nI m) lf (nI p) nb) (hm : m ≤ 100) {c : Int32} (hp : p ≤ m) (hQ : ∀ G' : gG, PX G' r f (nI m) (lfC lf (rSign f m c p).1) (nI (rSign f m c p).2) nb → Frm G G' r 2 → Q (some (.int (bI (zB (rSign f m c p).1)))) G') : Runs E y_P_readSign 2 0 S [.ref r, .int c] G Q := by
  refine Runs.of "ClockPost$Tape" [some (.ref r), some (.int c)] cw_P_readSign (by decide) (by decide +kernel) rfl (Nat.le_of_ble_eq_true rfl) rfl (fun K hK => ?_)
  have hF : Frm G G r 2 := Frm.rf
  refine r_aload_n hK d_P_readSign_0 rfl ?_
  refine r_aload_n hK d_P_readSign_1 rfl ?_
  refine r_get hK lf_P_19 d_P_readSign_2 (hP.1) rfl ?_
  refine r_v1 (k' := 1) hK lm_P_55 d_P_readSign_5 ⟨_, hP.1⟩ (by decide) (Nat.le_of_ble_eq_true rfl) ?_
  refine c_P_byteAt hP hm (by omega) (kc_s ?_)
  refine r_iload_n hK d_P_readSign_8 rfl ?_
  refine r_icmp_eq (tgt := 18) hK d_P_readSign_9 rfl (fun h9 => ?_) (fun h9 => ?_)
  · skip
    rw [rSign, if_pos h9] at hQ
    refine r_aload_n hK d_P_readSign_18 rfl ?_
    refine r_dup hK d_P_readSign_19 rfl ?_
    refine r_get hK lf_P_19 d_P_readSign_20 (hP.1) rfl ?_
    refine r_iconst hK d_P_readSign_23 kc_1 ?_
    refine r_iadd hK d_P_readSign_24 ?_
    rw [nI_1]
    refine p_P_place hK lf_P_19 d_P_readSign_25 hP (fun G25 hP f25 => ?_)
    have hF := hF.tr f25
    refine r_iconst hK d_P_readSign_28 kc_1 ?_
    refine r_zret hK rfl (rfl) rfl d_P_readSign_29 ?_
    exact hQ _ hP hF
  · skip
    rw [rSign, if_neg h9] at hQ
    refine r_aload_n hK d_P_readSign_12 rfl ?_
    refine r_iconst hK d_P_readSign_13 kc_1 ?_
    refine r_v1 (k' := 1) hK lm_P_62 d_P_readSign_14 ⟨_, hP.1⟩ (by decide) (Nat.le_of_ble_eq_true rfl) ?_
    refine c_P_fail hP (fun G14 hP f14 => kc_s ?_)
    refine r_zret hK rfl (rfl) rfl d_P_readSign_17 ?_
    exact hQ _ hP f14
theorem c_P_readNumber {E : gX} {S : Nat} {G : gG} {Q : Option Value → gG → Prop} {r m p : Nat} {lf nb : Int32} {f : Nat → Int32} (hP : PX G r f (nI m) lf (nI p) nb) (hm : m ≤ 100) {lo hi : Int32} (hp : p ≤ m) (hQ : ∀ (G' : gG) (nb' : Int32), PX G' r f (nI m) (lfC lf (rNum f m lo hi p).1) (nI (rNum f m lo hi p).2.1) nb' → ((rNum f m lo hi p).1 = 0 → nb' = (rNum f m lo hi p).2.2) → Frm G G' r 2 → Q (some (.int (bI (zB (rNum f m lo hi p).1)))) G') : Runs E y_P_readNumber 2 0 S [.ref r, .int lo, .int hi] G Q := by
  refine Runs.of "ClockPost$Tape" [some (.ref r), some (.int lo), some (.int hi), none, none, none] cw_P_readNumber (by decide) (by decide +kernel) rfl (Nat.le_of_ble_eq_true rfl) rfl (fun K hK => ?_)
  have hF : Frm G G r 2 := Frm.rf
  refine r_iconst hK d_P_readNumber_0 kc_0 ?_
  refine st_in_3_6 hK d_P_readNumber_1 trivial ?_
  refine r_iconst hK d_P_readNumber_2 kc_0 ?_
  refine st_i_4_6 hK d_P_readNumber_3 trivial ?_
  refine r_iconst hK d_P_readNumber_5 kc_0 ?_
  refine st_i_5_6 hK d_P_readNumber_6 trivial ?_
  suffices L : ∀ j, j ≤ 3 → (∀ k, k < j → isFg (bt f m (p + k)) = true) → K 8 [some (.ref r), some (.int lo), some (.int hi), some (.int (nI j)), some (.int (vvF f m p j)), some (.int (nI j))] [] S G from L 0 (Nat.zero_le _) (fun k hk => absurd hk (by omega))
  refine lpN 3 (fun j hj ih hfg => ?_)
  refine r_iload hK d_P_readNumber_8 rfl ?_
  refine r_iconst hK d_P_readNumber_10 kc_3 ?_
  refine r_icmp_ge (tgt := 62) hK d_P_readNumber_11 rfl (fun h11 => ?_) (fun h11 => ?_)
  · skip
    have hj3 : j = 3 := by have := (cle (n := 3) (by decide) (by omega)).mp h11; omega
    have hN : nFg f m p = j := nFg_eq hj hfg (Or.inl hj3)
    refine r_iload_n hK d_P_readNumber_62 rfl ?_
    refine r_iconst hK d_P_readNumber_63 kc_1 ?_
    refine r_icmp_lt (tgt := 72) hK d_P_readNumber_64 rfl (fun h64 => ?_) (fun h64 => ?_)
    · skip
      have hr : rNum f m lo hi p = (1, p, 0) := by rw [rNum, if_neg (by rw [hN]; have := (ltc (n := 1) (by decide) (by omega)).mp h64; omega)]
      rw [hr] at hQ
      refine r_aload_n hK d_P_readNumber_72 rfl ?_
      refine r_iconst hK d_P_readNumber_73 kc_1 ?_
      refine r_v1 (k' := 1) hK lm_P_62 d_P_readNumber_74 ⟨_, hP.1⟩ (by decide) (Nat.le_of_ble_eq_true rfl) ?_
      refine c_P_fail hP (fun G74 hP f74 => kc_s ?_)
      refine r_zret hK rfl (rfl) rfl d_P_readNumber_77 ?_
      exact hQ _ _ hP (fun q => absurd q (show ¬ (1 : Int32) = 0 by decide)) f74
    · skip
      refine r_iload_n hK d_P_readNumber_67 rfl ?_
      refine r_iconst hK d_P_readNumber_68 kc_2 ?_
      refine r_icmp_le (tgt := 78) hK d_P_readNumber_69 rfl (fun h69 => ?_) (fun h69 => ?_)
      · skip
        have h12 : nFg f m p = 1 ∨ nFg f m p = 2 := by
          have a1 := (lec (n := 2) (by decide) (by omega)).mp h69
          have a2 : ¬ j < 1 := fun q => h64 ((ltc (n := 1) (by decide) (by omega)).mpr q)
          omega
        refine r_iload hK d_P_readNumber_78 rfl ?_
        refine r_iload_n hK d_P_readNumber_80 rfl ?_
        refine r_iload_n hK d_P_readNumber_81 rfl ?_
        refine r_s3 (k' := 1) hK lm_P_100 d_P_readNumber_82 (by decide) (Nat.le_of_ble_eq_true rfl) ?_
        refine c_X_isWithin (kc_s ?_)
        refine r_if_ne (tgt := 94) hK d_P_readNumber_85 rfl (fun h85 => ?_) (fun h85 => ?_)
        · skip
          have hb := bI_n0.mp h85
          have hr : rNum f m lo hi p = (0, p + j, vvF f m p j) := by rw [rNum, if_pos h12, hN, if_pos hb]
          rw [hr] at hQ
          refine r_aload_n hK d_P_readNumber_94 rfl ?_
          refine r_dup hK d_P_readNumber_95 rfl ?_
          refine r_get hK lf_P_19 d_P_readNumber_96 (hP.1) rfl ?_
          refine r_iload_n hK d_P_readNumber_99 rfl ?_
          refine r_iadd hK d_P_readNumber_100 ?_
          rw [nI_add]
          refine p_P_place hK lf_P_19 d_P_readNumber_101 hP (fun G101 hP f101 => ?_)
          have hF := hF.tr f101
          refine r_aload_n hK d_P_readNumber_104 rfl ?_
          refine r_iload hK d_P_readNumber_105 rfl ?_
          refine p_P_number hK lf_P_46 d_P_readNumber_107 hP (fun G107 hP f107 => ?_)
          have hF := hF.tr f107
          refine r_iconst hK d_P_readNumber_110 kc_1 ?_
          refine r_zret hK rfl (rfl) rfl d_P_readNumber_111 ?_
          exact hQ _ _ hP (fun _ => rfl) hF
        · skip
          have hb := bI_0.mp h85
          have hr : rNum f m lo hi p = (2, p, 0) := by rw [rNum, if_pos h12, hN, if_neg (by simp [hb])]
          rw [hr] at hQ
          refine r_aload_n hK d_P_readNumber_88 rfl ?_
          refine r_iconst hK d_P_readNumber_89 kc_2 ?_
          refine r_v1 (k' := 1) hK lm_P_62 d_P_readNumber_90 ⟨_, hP.1⟩ (by decide) (Nat.le_of_ble_eq_true rfl) ?_
          refine c_P_fail hP (fun G90 hP f90 => kc_s ?_)
          refine r_zret hK rfl (rfl) rfl d_P_readNumber_93 ?_
          exact hQ _ _ hP (fun q => absurd q (show ¬ (2 : Int32) = 0 by decide)) f90
      · skip
        have hr : rNum f m lo hi p = (1, p, 0) := by rw [rNum, if_neg (by rw [hN]; have : ¬ j ≤ 2 := fun q => h69 ((lec (n := 2) (by decide) (by omega)).mpr q); omega)]
        rw [hr] at hQ
        refine r_aload_n hK d_P_readNumber_72 rfl ?_
        refine r_iconst hK d_P_readNumber_73 kc_1 ?_
        refine r_v1 (k' := 1) hK lm_P_62 d_P_readNumber_74 ⟨_, hP.1⟩ (by decide) (Nat.le_of_ble_eq_true rfl) ?_
        refine c_P_fail hP (fun G74 hP f74 => kc_s ?_)
        refine r_zret hK rfl (rfl) rfl d_P_readNumber_77 ?_
        exact hQ _ _ hP (fun q => absurd q (show ¬ (1 : Int32) = 0 by decide)) f74
  · skip
    have hj3 : j < 3 := Nat.not_le.mp (fun q => h11 ((cle (n := 3) (by decide) (by omega)).mpr q))
    refine r_aload_n hK d_P_readNumber_14 rfl ?_
    refine r_aload_n hK d_P_readNumber_15 rfl ?_
    refine r_get hK lf_P_19 d_P_readNumber_16 (hP.1) rfl ?_
    refine r_iload hK d_P_readNumber_19 rfl ?_
    refine r_iadd hK d_P_readNumber_21 ?_
    rw [nI_add]
    refine r_v1 (k' := 1) hK lm_P_55 d_P_readNumber_22 ⟨_, hP.1⟩ (by decide) (Nat.le_of_ble_eq_true rfl) ?_
    refine c_P_byteAt hP hm (by omega) (kc_s ?_)
    refine r_s1 (k' := 1) hK lm_P_97 d_P_readNumber_25 (by decide) (Nat.le_of_ble_eq_true rfl) ?_
    refine c_P_isFigure (kc_s ?_)
    refine r_if_eq (tgt := 62) hK d_P_readNumber_28 rfl (fun h28 => ?_) (fun h28 => ?_)
    · skip
      have hb := bI_0.mp h28
      have hN : nFg f m p = j := nFg_eq hj hfg (Or.inr hb)
      refine r_iload_n hK d_P_readNumber_62 rfl ?_
      refine r_iconst hK d_P_readNumber_63 kc_1 ?_
      refine r_icmp_lt (tgt := 72) hK d_P_readNumber_64 rfl (fun h64 => ?_) (fun h64 => ?_)
      · skip
        have hr : rNum f m lo hi p = (1, p, 0) := by rw [rNum, if_neg (by rw [hN]; have := (ltc (n := 1) (by decide) (by omega)).mp h64; omega)]
        rw [hr] at hQ
        refine r_aload_n hK d_P_readNumber_72 rfl ?_
        refine r_iconst hK d_P_readNumber_73 kc_1 ?_
        refine r_v1 (k' := 1) hK lm_P_62 d_P_readNumber_74 ⟨_, hP.1⟩ (by decide) (Nat.le_of_ble_eq_true rfl) ?_
        refine c_P_fail hP (fun G74 hP f74 => kc_s ?_)
        refine r_zret hK rfl (rfl) rfl d_P_readNumber_77 ?_
        exact hQ _ _ hP (fun q => absurd q (show ¬ (1 : Int32) = 0 by decide)) f74
      · skip
        refine r_iload_n hK d_P_readNumber_67 rfl ?_
        refine r_iconst hK d_P_readNumber_68 kc_2 ?_
        refine r_icmp_le (tgt := 78) hK d_P_readNumber_69 rfl (fun h69 => ?_) (fun h69 => ?_)
        · skip
          have h12 : nFg f m p = 1 ∨ nFg f m p = 2 := by
            have a1 := (lec (n := 2) (by decide) (by omega)).mp h69
            have a2 : ¬ j < 1 := fun q => h64 ((ltc (n := 1) (by decide) (by omega)).mpr q)
            omega
          refine r_iload hK d_P_readNumber_78 rfl ?_
          refine r_iload_n hK d_P_readNumber_80 rfl ?_
          refine r_iload_n hK d_P_readNumber_81 rfl ?_
          refine r_s3 (k' := 1) hK lm_P_100 d_P_readNumber_82 (by decide) (Nat.le_of_ble_eq_true rfl) ?_
          refine c_X_isWithin (kc_s ?_)
          refine r_if_ne (tgt := 94) hK d_P_readNumber_85 rfl (fun h85 => ?_) (fun h85 => ?_)
          · skip
            have hb := bI_n0.mp h85
            have hr : rNum f m lo hi p = (0, p + j, vvF f m p j) := by rw [rNum, if_pos h12, hN, if_pos hb]
            rw [hr] at hQ
            refine r_aload_n hK d_P_readNumber_94 rfl ?_
            refine r_dup hK d_P_readNumber_95 rfl ?_
            refine r_get hK lf_P_19 d_P_readNumber_96 (hP.1) rfl ?_
            refine r_iload_n hK d_P_readNumber_99 rfl ?_
            refine r_iadd hK d_P_readNumber_100 ?_
            rw [nI_add]
            refine p_P_place hK lf_P_19 d_P_readNumber_101 hP (fun G101 hP f101 => ?_)
            have hF := hF.tr f101
            refine r_aload_n hK d_P_readNumber_104 rfl ?_
            refine r_iload hK d_P_readNumber_105 rfl ?_
            refine p_P_number hK lf_P_46 d_P_readNumber_107 hP (fun G107 hP f107 => ?_)
            have hF := hF.tr f107
            refine r_iconst hK d_P_readNumber_110 kc_1 ?_
            refine r_zret hK rfl (rfl) rfl d_P_readNumber_111 ?_
            exact hQ _ _ hP (fun _ => rfl) hF
          · skip
            have hb := bI_0.mp h85
            have hr : rNum f m lo hi p = (2, p, 0) := by rw [rNum, if_pos h12, hN, if_neg (by simp [hb])]
            rw [hr] at hQ
            refine r_aload_n hK d_P_readNumber_88 rfl ?_
            refine r_iconst hK d_P_readNumber_89 kc_2 ?_
            refine r_v1 (k' := 1) hK lm_P_62 d_P_readNumber_90 ⟨_, hP.1⟩ (by decide) (Nat.le_of_ble_eq_true rfl) ?_
            refine c_P_fail hP (fun G90 hP f90 => kc_s ?_)
            refine r_zret hK rfl (rfl) rfl d_P_readNumber_93 ?_
            exact hQ _ _ hP (fun q => absurd q (show ¬ (2 : Int32) = 0 by decide)) f90
        · skip
          have hr : rNum f m lo hi p = (1, p, 0) := by rw [rNum, if_neg (by rw [hN]; have : ¬ j ≤ 2 := fun q => h69 ((lec (n := 2) (by decide) (by omega)).mpr q); omega)]
          rw [hr] at hQ
          refine r_aload_n hK d_P_readNumber_72 rfl ?_
          refine r_iconst hK d_P_readNumber_73 kc_1 ?_
          refine r_v1 (k' := 1) hK lm_P_62 d_P_readNumber_74 ⟨_, hP.1⟩ (by decide) (Nat.le_of_ble_eq_true rfl) ?_
          refine c_P_fail hP (fun G74 hP f74 => kc_s ?_)
          refine r_zret hK rfl (rfl) rfl d_P_readNumber_77 ?_
          exact hQ _ _ hP (fun q => absurd q (show ¬ (1 : Int32) = 0 by decide)) f74
    · skip
      have hb := bI_n0.mp h28
      have hfg2 : ∀ k, k < j + 1 → isFg (bt f m (p + k)) = true := fun k hk => by
        by_cases e : k = j
        · subst e; exact hb
        · exact hfg k (by omega)
      refine r_iload hK d_P_readNumber_31 rfl ?_
      refine r_bipush hK d_P_readNumber_33 kb_10 ?_
      refine r_imul hK d_P_readNumber_35 ?_
      refine r_aload_n hK d_P_readNumber_36 rfl ?_
      refine r_aload_n hK d_P_readNumber_37 rfl ?_
      refine r_get hK lf_P_19 d_P_readNumber_38 (hP.1) rfl ?_
      refine r_iload hK d_P_readNumber_41 rfl ?_
      refine r_iadd hK d_P_readNumber_43 ?_
      rw [nI_add]
      refine r_v1 (k' := 1) hK lm_P_55 d_P_readNumber_44 ⟨_, hP.1⟩ (by decide) (Nat.le_of_ble_eq_true rfl) ?_
      refine c_P_byteAt hP hm (by omega) (kc_s ?_)
      refine r_iadd hK d_P_readNumber_47 ?_
      refine r_bipush hK d_P_readNumber_48 kb_48 ?_
      refine r_isub hK d_P_readNumber_50 ?_
      refine st_i_4_6 hK d_P_readNumber_51 trivial ?_
      first | refine iN_3_6 hK d_P_readNumber_53 trivial ?_ | refine ii_3_1_6 hK d_P_readNumber_53 trivial ?_
      first | refine iN_5_6 hK d_P_readNumber_56 trivial ?_ | refine ii_5_1_6 hK d_P_readNumber_56 trivial ?_
      refine r_goto (tgt := 8) hK d_P_readNumber_59 rfl ?_
      exact ih hj3 hfg2
