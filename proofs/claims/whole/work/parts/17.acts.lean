def HJ (G : gG) (h : Nat) : Prop := ∃ (s : Int32) (u : Nat → Int32), HE G h s u
theorem HJ.frm {G G' : gG} {h a n : Nat} (hH : HJ G h) (hF : Frm G G' a n) (hd : h + 8 ≤ a ∨ a + n ≤ h) : HJ G' h := hH.elim fun s q => q.elim fun u q => ⟨s, u, q.frm hF hd⟩
theorem HE.j {G : gG} {h : Nat} {s : Int32} {v : Nat → Int32} (hH : HE G h s v) : HJ G h := ⟨s, v, hH⟩
def AX (G : gG) (a : Nat) (o k : Int32) : Prop := G a = some (.inr (4, [.ref (a + 1), .int o, .int k])) ∧ G (a + 1) = some (.inl (3, 24, .inr (.inr (.inr (.inr (fun i => some (a + 2 + 8 * i)))))))
def OX (G : gG) (a : Nat) (t : Nat → Int32) (b : Nat → Int32) (lg : Int32) : Prop := G a = some (.inr (5, [.ref (a + 1), .ref (a + 2), .ref (a + 3), .int lg])) ∧ G (a + 1) = some (.inl (3, 7, .inr (.inr (.inr (.inr (fun i => some (a + 4 + 8 * i))))))) ∧ G (a + 2) = some (.inl (0, 6, .inl t)) ∧ G (a + 3) = some (.inl (0, 6, .inl b))
theorem AX.frm {G G' : gG} {r a n : Nat} {o k : Int32} (h : AX G r o k) (hF : Frm G G' a n) (hd : r + 2 ≤ a ∨ a + n ≤ r) : AX G' r o k := ⟨(hF _ (by omega)).trans h.1, (hF _ (by omega)).trans h.2⟩
theorem OX.frm {G G' : gG} {r a n : Nat} {t b : Nat → Int32} {lg : Int32} (h : OX G r t b lg) (hF : Frm G G' a n) (hd : r + 4 ≤ a ∨ a + n ≤ r) : OX G' r t b lg := ⟨(hF _ (by omega)).trans h.1, (hF _ (by omega)).trans h.2.1, (hF _ (by omega)).trans h.2.2.1, (hF _ (by omega)).trans h.2.2.2⟩
def FrmO (G G' : gG) (a t : Nat) : Prop := ∀ q, (q < a ∨ (a + 4 ≤ q ∧ q < a + 4 + 8 * t) ∨ a + 60 ≤ q) → G' q = G q
theorem FrmO.rf {G : gG} {a t : Nat} : FrmO G G a t := fun _ _ => rfl
theorem FrmO.tr {G G1 G2 : gG} {a t : Nat} (h : FrmO G G1 a t) (h2 : FrmO G1 G2 a t) : FrmO G G2 a t := fun q hq => (h2 q hq).trans (h q hq)
theorem FrmO.mono {G G1 : gG} {a t u : Nat} (h : FrmO G G1 a t) (hu : u ≤ t) : FrmO G G1 a u := fun q hq => h q (by omega)
theorem Frm.oh {G G' : gG} {a t u : Nat} (h : Frm G G' (a + 4 + 8 * u) 8) (h1 : t ≤ u) (h2 : u < 7) : FrmO G G' a t := fun q hq => h q (by omega)
theorem Frm.oc {G G' : gG} {a t c n : Nat} (h : Frm G G' c n) (h1 : a ≤ c) (h2 : c + n ≤ a + 4) : FrmO G G' a t := fun q hq => h q (by omega)
theorem HE.frmO {G G' : gG} {a t u : Nat} {s : Int32} {v : Nat → Int32} (hH : HE G (a + 4 + 8 * u) s v) (hF : FrmO G G' a t) (hu : u < t) : HE G' (a + 4 + 8 * u) s v := by
  obtain ⟨w, q, e⟩ := hH
  exact ⟨w, ⟨(hF _ (by omega)).trans q.1, (hF _ (by omega)).trans q.2.1, fun i hi => (hF _ (by omega)).trans (q.2.2 i hi)⟩, e⟩
def stJ (G : gG) (a : Nat) : Prop := ∀ i, i < 7 → HJ G (a + 4 + 8 * i)
theorem stJ.frm {G G' : gG} {a c n : Nat} (h : stJ G a) (hF : Frm G G' c n) (hd : a + 60 ≤ c ∨ c + n ≤ a + 4) : stJ G' a := fun i hi => (h i hi).frm hF (by omega)
theorem stJ.up {G G' : gG} {a u : Nat} (h : stJ G a) (hF : Frm G G' (a + 4 + 8 * u) 8) (hH : HJ G' (a + 4 + 8 * u)) : stJ G' a := fun i hi => by
  by_cases e : i = u
  · subst e; exact hH
  · exact (h i hi).frm hF (by omega)
def ext : Nat → (Nat → Int32) → Int32 → Int32 → (Nat → Int32) × (Nat → Int32) × Int32 → (Nat → Int32) × (Nat → Int32) × Int32
  | 0, _, _, grown, st => if st.2.2 ≤ grown then st else (st.1, va_cpy st.1 st.2.1 0 0 6, grown)
  | d + 1, v, left, grown, st => if st.2.2 ≤ grown then st else if left = 0 then (st.1, va_cpy st.1 st.2.1 0 0 6, grown) else
    [0, 1, 2, 3, 4, 5].foldl (fun st i => if bitB left (nI i) = true then ext d (passV (ansV v (nI i))).1 (left &&& ((1 <<< (nI i &&& 31)) ^^^ (-1))) (grown + wght (ansV v (nI i))) (upd st.1 (5 - d) (nI i), st.2) else st) st
theorem L6_d {j : Nat} (h : j < 6) : [0, 1, 2, 3, 4, 5].drop j = j :: [0, 1, 2, 3, 4, 5].drop (j + 1) := by
  rcases (show j = 0 ∨ j = 1 ∨ j = 2 ∨ j = 3 ∨ j = 4 ∨ j = 5 by omega) with rfl | rfl | rfl | rfl | rfl | rfl <;> rfl
theorem rem24 {x : Nat} (h : x < 2 ^ 31) : nI x - nI x / 24 * 24 = nI (x % 24) := pk_rem (d := 24) h (by omega) (by omega)
section AO
variable {E : gX} {own : String} {cc : ByteArray} {ret : Option FieldType} {nL k mc sz0 : Nat} {ini : Bool} {G0 : gG} {Q : Option Value → gG → Prop} {K : Nat → List (Option Value) → List Value → Nat → gG → Prop}
variable {pc sz idx : Nat} {st : List Value} {G : gG} {Ls : List (Option Value)}
theorem p_A_oldest (hK : Cl E own cc ret nL k mc sz0 ini G0 Q K) {r : Nat} {o q x : Int32} (hl : LkF own idx 4 1 .int false) (hd : decode cc pc = .ok (.putfield idx, 3)) (hV : AX G r o q) (kk : ∀ G' : gG, AX G' r x q → Frm G G' r 2 → K (pc + 3) Ls st sz G') : K pc Ls (.int x :: .ref r :: st) sz G :=
  r_put hK hl hd hV.1 rfl rfl (Nat.le_of_ble_eq_true rfl) (kk _ ⟨gup_s, (gup_n (by omega)).trans hV.2⟩ (Frm.up (by omega) (by omega)))
theorem p_A_kept (hK : Cl E own cc ret nL k mc sz0 ini G0 Q K) {r : Nat} {o q x : Int32} (hl : LkF own idx 4 2 .int false) (hd : decode cc pc = .ok (.putfield idx, 3)) (hV : AX G r o q) (kk : ∀ G' : gG, AX G' r o x → Frm G G' r 2 → K (pc + 3) Ls st sz G') : K pc Ls (.int x :: .ref r :: st) sz G :=
  r_put hK hl hd hV.1 rfl rfl (Nat.le_of_ble_eq_true rfl) (kk _ ⟨gup_s, (gup_n (by omega)).trans hV.2⟩ (Frm.up (by omega) (by omega)))
theorem p_O_leastGrowth (hK : Cl E own cc ret nL k mc sz0 ini G0 Q K) {r : Nat} {t b : Nat → Int32} {lg x : Int32} (hl : LkF own idx 5 3 .int false) (hd : decode cc pc = .ok (.putfield idx, 3)) (hV : OX G r t b lg) (kk : ∀ G' : gG, OX G' r t b x → Frm G G' r 4 → K (pc + 3) Ls st sz G') : K pc Ls (.int x :: .ref r :: st) sz G :=
  r_put hK hl hd hV.1 rfl rfl (Nat.le_of_ble_eq_true rfl) (kk _ ⟨gup_s, (gup_n (by omega)).trans hV.2.1, (gup_n (by omega)).trans hV.2.2.1, (gup_n (by omega)).trans hV.2.2.2⟩ (Frm.up (by omega) (by omega)))
theorem g_bef (hK : Cl E own cc ret nL k mc sz0 ini G0 Q K) {a j : Nat} {o q : Int32} (hd : decode cc pc = .ok (.aaload, 1)) (hV : AX G a o q) (hj : j < 24) (kk : K (pc + 1) Ls (.ref (a + 2 + 8 * j) :: st) sz G) : K pc Ls (.int (nI j) :: .ref (a + 1) :: st) sz G := by
  refine r_aald hK hd hV.2 (vp_in_nI hj (by omega)) (by omega) ?_
  show K (pc + 1) Ls (.ref (a + 2 + 8 * (nI j).toNatClampNeg) :: st) sz G
  rw [nI_clamp (by omega)]
  exact kk
theorem g_stg (hK : Cl E own cc ret nL k mc sz0 ini G0 Q K) {a j : Nat} {t b : Nat → Int32} {lg : Int32} (hd : decode cc pc = .ok (.aaload, 1)) (hV : OX G a t b lg) (hj : j < 7) (kk : K (pc + 1) Ls (.ref (a + 4 + 8 * j) :: st) sz G) : K pc Ls (.int (nI j) :: .ref (a + 1) :: st) sz G := by
  refine r_aald hK hd hV.2.1 (vp_in_nI hj (by omega)) (by omega) ?_
  show K (pc + 1) Ls (.ref (a + 4 + 8 * (nI j).toNatClampNeg) :: st) sz G
  rw [nI_clamp (by omega)]
  exact kk
end AO
theorem c_A_keep {E : gX} {S : Nat} {G : gG} {Q : Option Value → gG → Prop} {a o k : Nat} (hA : AX G a (nI o) (nI k)) (ho : o < 24) (hk : k ≤ 24) (hJ : HJ G (a + 2 + 8 * ((o + k) % 24))) {hh : Nat} {b : Bool} {v : Nat → Int32} (hS : HE G hh (bI b) v) (hn : nN (v 0) ≤ 6) (hd : hh + 8 ≤ a ∨ a + 194 ≤ hh) (hQ : ∀ G' : gG, AX G' a (nI (if k < 24 then o else (o + 1) % 24)) (nI (if k < 24 then k + 1 else k)) → HE G' (a + 2 + 8 * ((o + k) % 24)) (bI b) v → Frm2 G G' a 2 (a + 2 + 8 * ((o + k) % 24)) 8 → Q none G') : Runs E y_A_keep 3 0 S [.ref a, .ref hh] G Q := by
  refine Runs.of "ClockPost$Acts" [some (.ref a), some (.ref hh)] cw_A_keep (by decide) (by decide +kernel) rfl (Nat.le_of_ble_eq_true rfl) rfl (fun K hK => ?_)
  refine r_aload_n hK d_A_keep_0 rfl ?_
  refine r_get hK lf_A_11 d_A_keep_1 (hA.1) rfl ?_
  refine r_aload_n hK d_A_keep_4 rfl ?_
  refine r_get hK lf_A_18 d_A_keep_5 (hA.1) rfl ?_
  refine r_aload_n hK d_A_keep_8 rfl ?_
  refine r_get hK lf_A_22 d_A_keep_9 (hA.1) rfl ?_
  refine r_iadd hK d_A_keep_12 ?_
  rw [nI_add]
  refine r_bipush hK d_A_keep_13 kb_24 ?_
  refine r_irem hK d_A_keep_15 (by decide) ?_
  rw [rem24 (by omega)]
  refine g_bef hK d_A_keep_16 hA (Nat.mod_lt _ (by omega)) ?_
  refine r_aload_n hK d_A_keep_17 rfl ?_
  obtain ⟨s0, u0, hT⟩ := hJ
  refine r_v1 (k' := 2) hK lm_A_25 d_A_keep_18 ⟨_, hT.o⟩ (by decide) (Nat.le_of_ble_eq_true rfl) ?_
  refine e_H_become hT hS hn (by omega) (fun G18 hT f18 => kc_n ?_)
  have hA := hA.frm f18 (by omega)
  have hF : Frm2 G G18 a 2 (a + 2 + 8 * ((o + k) % 24)) 8 := f18.r
  refine r_aload_n hK d_A_keep_21 rfl ?_
  refine r_get hK lf_A_22 d_A_keep_22 (hA.1) rfl ?_
  refine r_bipush hK d_A_keep_25 kb_24 ?_
  refine r_icmp_ge (tgt := 43) hK d_A_keep_27 rfl (fun h27 => ?_) (fun h27 => ?_)
  · skip
    have hq : ¬ k < 24 := by have := (cle (n := 24) (by decide) (by omega)).mp h27; omega
    rw [if_neg hq, if_neg hq] at hQ
    refine r_aload_n hK d_A_keep_43 rfl ?_
    refine r_aload_n hK d_A_keep_44 rfl ?_
    refine r_get hK lf_A_18 d_A_keep_45 (hA.1) rfl ?_
    refine r_iconst hK d_A_keep_48 kc_1 ?_
    refine r_iadd hK d_A_keep_49 ?_
    rw [nI_1]
    refine r_bipush hK d_A_keep_50 kb_24 ?_
    refine r_irem hK d_A_keep_52 (by decide) ?_
    rw [rem24 (by omega)]
    refine p_A_oldest hK lf_A_18 d_A_keep_53 hA (fun G53 hA f53 => ?_)
    have hT := hT.frm f53 (by omega)
    have hF := hF.tr f53.l
    refine r_vret hK rfl rfl d_A_keep_56 ?_
    exact hQ _ hA hT hF
  · skip
    have hq : k < 24 := Nat.not_le.mp (fun q => h27 ((cle (n := 24) (by decide) (by omega)).mpr q))
    rw [if_pos hq, if_pos hq] at hQ
    refine r_aload_n hK d_A_keep_30 rfl ?_
    refine r_dup hK d_A_keep_31 rfl ?_
    refine r_get hK lf_A_22 d_A_keep_32 (hA.1) rfl ?_
    refine r_iconst hK d_A_keep_35 kc_1 ?_
    refine r_iadd hK d_A_keep_36 ?_
    rw [nI_1]
    refine p_A_kept hK lf_A_22 d_A_keep_37 hA (fun G37 hA f37 => ?_)
    have hT := hT.frm f37 (by omega)
    have hF := hF.tr f37.l
    refine r_goto (tgt := 56) hK d_A_keep_40 rfl ?_
    refine r_vret hK rfl rfl d_A_keep_56 ?_
    exact hQ _ hA hT hF
theorem c_A_takeBack {E : gX} {S : Nat} {G : gG} {Q : Option Value → gG → Prop} {a o k : Nat} (hA : AX G a (nI o) (nI k)) (ho : o < 24) (hk : k ≤ 24) {hh : Nat} {b : Bool} {v u : Nat → Int32} {s : Int32} (hH : HE G hh s u) (hB : 1 ≤ k → HE G (a + 2 + 8 * ((o + (k - 1)) % 24)) (bI b) v) (hn : nN (v 0) ≤ 6) (hd : hh + 8 ≤ a ∨ a + 194 ≤ hh) (hQ : ∀ G' : gG, AX G' a (nI o) (nI (k - 1)) → (if 1 ≤ k then HE G' hh (bI b) v else G' = G) → Frm2 G G' a 2 hh 8 → Q (some (.int (bI (decide (1 ≤ k))))) G') : Runs E y_A_takeBack 3 0 S [.ref a, .ref hh] G Q := by
  refine Runs.of "ClockPost$Acts" [some (.ref a), some (.ref hh)] cw_A_takeBack (by decide) (by decide +kernel) rfl (Nat.le_of_ble_eq_true rfl) rfl (fun K hK => ?_)
  refine r_aload_n hK d_A_takeBack_0 rfl ?_
  refine r_get hK lf_A_22 d_A_takeBack_1 (hA.1) rfl ?_
  refine r_iconst hK d_A_takeBack_4 kc_1 ?_
  refine r_icmp_ge (tgt := 10) hK d_A_takeBack_5 rfl (fun h5 => ?_) (fun h5 => ?_)
  · skip
    have hq : 1 ≤ k := (cle (n := 1) (by decide) (by omega)).mp h5
    rw [show bI (decide (1 ≤ k)) = 1 from bI_t (by simp [hq])] at hQ
    simp only [if_pos hq] at hQ
    refine r_aload_n hK d_A_takeBack_10 rfl ?_
    refine r_dup hK d_A_takeBack_11 rfl ?_
    refine r_get hK lf_A_22 d_A_takeBack_12 (hA.1) rfl ?_
    refine r_iconst hK d_A_takeBack_15 kc_1 ?_
    refine r_isub hK d_A_takeBack_16 ?_
    rw [show nI k - 1 = nI (k - 1) from pk_sub (b := 1) hq]
    refine p_A_kept hK lf_A_22 d_A_takeBack_17 hA (fun G17 hA f17 => ?_)
    have hH := hH.frm f17 (by omega)
    have hB := (hB hq).frm f17 (by omega)
    have hF : Frm2 G G17 a 2 hh 8 := f17.l
    refine r_aload_n hK d_A_takeBack_20 rfl ?_
    refine r_aload_n hK d_A_takeBack_21 rfl ?_
    refine r_get hK lf_A_11 d_A_takeBack_22 (hA.1) rfl ?_
    refine r_aload_n hK d_A_takeBack_25 rfl ?_
    refine r_get hK lf_A_18 d_A_takeBack_26 (hA.1) rfl ?_
    refine r_aload_n hK d_A_takeBack_29 rfl ?_
    refine r_get hK lf_A_22 d_A_takeBack_30 (hA.1) rfl ?_
    refine r_iadd hK d_A_takeBack_33 ?_
    rw [nI_add]
    refine r_bipush hK d_A_takeBack_34 kb_24 ?_
    refine r_irem hK d_A_takeBack_36 (by decide) ?_
    rw [rem24 (by omega)]
    refine g_bef hK d_A_takeBack_37 hA (Nat.mod_lt _ (by omega)) ?_
    refine r_v1 (k' := 2) hK lm_A_25 d_A_takeBack_38 ⟨_, hH.o⟩ (by decide) (Nat.le_of_ble_eq_true rfl) ?_
    refine e_H_become hH hB hn (by omega) (fun G38 hH f38 => kc_n ?_)
    have hA := hA.frm f38 (by omega)
    have hF := hF.tr f38.r
    refine r_iconst hK d_A_takeBack_41 kc_1 ?_
    refine r_zret hK rfl (rfl) rfl d_A_takeBack_42 ?_
    exact hQ _ hA hH hF
  · skip
    have hq : ¬ 1 ≤ k := fun q => h5 ((cle (n := 1) (by decide) (by omega)).mpr q)
    rw [show bI (decide (1 ≤ k)) = 0 from bI_f (by simp [hq])] at hQ
    simp only [if_neg hq] at hQ
    refine r_iconst hK d_A_takeBack_8 kc_0 ?_
    refine r_zret hK rfl (rfl) rfl d_A_takeBack_9 ?_
    exact hQ G (by rw [show k - 1 = k by omega]; exact hA) rfl Frm2.rf
theorem c_A_forgetAll {E : gX} {S : Nat} {G : gG} {Q : Option Value → gG → Prop} {a : Nat} {o k : Int32} (hA : AX G a o k) (hQ : ∀ G' : gG, AX G' a o 0 → Frm G G' a 2 → Q none G') : Runs E y_A_forgetAll 1 0 S [.ref a] G Q := by
  refine Runs.of "ClockPost$Acts" [some (.ref a)] cw_A_forgetAll (by decide) (by decide +kernel) rfl (Nat.le_of_ble_eq_true rfl) rfl (fun K hK => ?_)
  refine r_aload_n hK d_A_forgetAll_0 rfl ?_
  refine r_iconst hK d_A_forgetAll_1 kc_0 ?_
  refine p_A_kept hK lf_A_22 d_A_forgetAll_2 hA (fun G2 hA f2 => ?_)
  refine r_vret hK rfl rfl d_A_forgetAll_5 ?_
  exact hQ _ hA f2
theorem c_O_extend {E : gX} {S a : Nat} : ∀ (d : Nat) {G : gG} {Q : Option Value → gG → Prop} {left grown : Int32} {v tr bst : Nat → Int32} {lg : Int32} {b : Bool} (hd6 : d ≤ 6) (hO : OX G a tr bst lg) (hH : HE G (a + 4 + 8 * (6 - d)) (bI b) v) (hn : nN (v 0) ≤ 6) (hJ : stJ G a) (hQ : ∀ G' : gG, OX G' a (ext d v left grown (tr, bst, lg)).1 (ext d v left grown (tr, bst, lg)).2.1 (ext d v left grown (tr, bst, lg)).2.2 → stJ G' a → FrmO G G' a (7 - d) → Q none G'), Runs E y_O_extend (6 + d) 0 S [.ref a, .int left, .int grown, .int (nI (6 - d))] G Q := by
  intro d
  induction d with
  | zero =>
    intro G Q left grown v tr bst lg b hd6 hO hH hn hJ hQ
    refine Runs.of "ClockPost$OrderSearch" [some (.ref a), some (.int left), some (.int grown), some (.int (nI 6)), none, none, none] cw_O_extend (by decide) (by decide +kernel) rfl (Nat.le_of_ble_eq_true rfl) rfl (fun K hK => ?_)
    refine r_iload_n hK d_O_extend_0 rfl ?_
    refine r_aload_n hK d_O_extend_1 rfl ?_
    refine r_get hK lf_O_30 d_O_extend_2 (hO.1) rfl ?_
    refine r_icmp_lt (tgt := 9) hK d_O_extend_5 rfl (fun h5 => ?_) (fun h5 => ?_)
    · skip
      rw [ext, if_neg (Int32.not_le.mpr h5)] at hQ
      refine r_iload_n hK d_O_extend_9 rfl ?_
      refine r_if_eq (tgt := 19) hK d_O_extend_10 rfl (fun h10 => ?_) (fun h10 => ?_)
      · skip
        refine r_aload_n hK d_O_extend_19 rfl ?_
        refine r_iload_n hK d_O_extend_20 rfl ?_
        refine p_O_leastGrowth hK lf_O_30 d_O_extend_21 hO (fun G21 hO f21 => ?_)
        have hJ := hJ.frm f21 (by omega)
        have hF : FrmO G G21 a (7) := f21.oc (a := a) (t := 7) (by omega) (by omega)
        refine r_aload_n hK d_O_extend_24 rfl ?_
        refine r_get hK lf_O_17 d_O_extend_25 (hO.1) rfl ?_
        refine r_iconst hK d_O_extend_28 kc_0 ?_
        refine r_aload_n hK d_O_extend_29 rfl ?_
        refine r_get hK lf_O_21 d_O_extend_30 (hO.1) rfl ?_
        refine r_iconst hK d_O_extend_33 kc_0 ?_
        refine r_bipush hK d_O_extend_34 kb_6 ?_
        refine r_copy hK wo_O_38 hO.2.2.1 hO.2.2.2 (by decide) (by decide) (by decide) (by decide) (by decide) (by omega) (Nat.le_of_ble_eq_true rfl) d_O_extend_36 ?_
        have f36 : Frm G21 (gup G21 (a + 3) (.inl (0, 6, .inl (va_cpy tr bst 0 0 6)))) (a + 3) 1 := Frm.up (by omega) (by omega)
        have hJ := hJ.frm f36 (by omega)
        have hF := hF.tr (f36.oc (t := 7) (by omega) (by omega))
        have hO : OX (gup G21 (a + 3) (.inl (0, 6, .inl (va_cpy tr bst 0 0 6)))) a tr (va_cpy tr bst 0 0 6) grown := ⟨(gup_n (by omega)).trans hO.1, (gup_n (by omega)).trans hO.2.1, (gup_n (by omega)).trans hO.2.2.1, gup_s⟩
        refine r_vret hK rfl rfl d_O_extend_39 ?_
        exact hQ _ hO hJ (hF.mono (by omega))
      · skip
        refine r_iload_n hK d_O_extend_13 rfl ?_
        refine r_bipush hK d_O_extend_14 kb_6 ?_
        refine r_icmp_lt (tgt := 40) hK d_O_extend_16 rfl (fun h16 => ?_) (fun h16 => ?_)
        · skip
          exact absurd h16 (by decide)
        · skip
          refine r_aload_n hK d_O_extend_19 rfl ?_
          refine r_iload_n hK d_O_extend_20 rfl ?_
          refine p_O_leastGrowth hK lf_O_30 d_O_extend_21 hO (fun G21 hO f21 => ?_)
          have hJ := hJ.frm f21 (by omega)
          have hF : FrmO G G21 a (7) := f21.oc (a := a) (t := 7) (by omega) (by omega)
          refine r_aload_n hK d_O_extend_24 rfl ?_
          refine r_get hK lf_O_17 d_O_extend_25 (hO.1) rfl ?_
          refine r_iconst hK d_O_extend_28 kc_0 ?_
          refine r_aload_n hK d_O_extend_29 rfl ?_
          refine r_get hK lf_O_21 d_O_extend_30 (hO.1) rfl ?_
          refine r_iconst hK d_O_extend_33 kc_0 ?_
          refine r_bipush hK d_O_extend_34 kb_6 ?_
          refine r_copy hK wo_O_38 hO.2.2.1 hO.2.2.2 (by decide) (by decide) (by decide) (by decide) (by decide) (by omega) (Nat.le_of_ble_eq_true rfl) d_O_extend_36 ?_
          have f36 : Frm G21 (gup G21 (a + 3) (.inl (0, 6, .inl (va_cpy tr bst 0 0 6)))) (a + 3) 1 := Frm.up (by omega) (by omega)
          have hJ := hJ.frm f36 (by omega)
          have hF := hF.tr (f36.oc (t := 7) (by omega) (by omega))
          have hO : OX (gup G21 (a + 3) (.inl (0, 6, .inl (va_cpy tr bst 0 0 6)))) a tr (va_cpy tr bst 0 0 6) grown := ⟨(gup_n (by omega)).trans hO.1, (gup_n (by omega)).trans hO.2.1, (gup_n (by omega)).trans hO.2.2.1, gup_s⟩
          refine r_vret hK rfl rfl d_O_extend_39 ?_
          exact hQ _ hO hJ (hF.mono (by omega))
    · skip
      rw [ext, if_pos (Int32.not_lt.mp h5)] at hQ
      refine r_vret hK rfl rfl d_O_extend_8 ?_
      exact hQ _ hO hJ FrmO.rf
  | succ d ih =>
    intro G Q left grown v tr bst lg b hd6 hO hH hn hJ hQ
    refine Runs.of "ClockPost$OrderSearch" [some (.ref a), some (.int left), some (.int grown), some (.int (nI (6 - (d + 1)))), none, none, none] cw_O_extend (by decide) (by decide +kernel) rfl (Nat.le_of_ble_eq_true rfl) rfl (fun K hK => ?_)
    rw [show 6 - (d + 1) = 5 - d by omega] at hH ⊢
    refine r_iload_n hK d_O_extend_0 rfl ?_
    refine r_aload_n hK d_O_extend_1 rfl ?_
    refine r_get hK lf_O_30 d_O_extend_2 (hO.1) rfl ?_
    refine r_icmp_lt (tgt := 9) hK d_O_extend_5 rfl (fun h5 => ?_) (fun h5 => ?_)
    · skip
      obtain ⟨res, hres⟩ : ∃ x, x = ext (d + 1) v left grown (tr, bst, lg) := ⟨_, rfl⟩
      have hE := hres
      rw [ext, if_neg (Int32.not_le.mpr h5)] at hE
      refine r_iload_n hK d_O_extend_9 rfl ?_
      refine r_if_eq (tgt := 19) hK d_O_extend_10 rfl (fun h10 => ?_) (fun h10 => ?_)
      · skip
        rw [if_pos h10] at hE
        rw [← hres, hE] at hQ
        refine r_aload_n hK d_O_extend_19 rfl ?_
        refine r_iload_n hK d_O_extend_20 rfl ?_
        refine p_O_leastGrowth hK lf_O_30 d_O_extend_21 hO (fun G21 hO f21 => ?_)
        have hJ := hJ.frm f21 (by omega)
        have hF : FrmO G G21 a (6 - d) := f21.oc (a := a) (t := 6 - d) (by omega) (by omega)
        refine r_aload_n hK d_O_extend_24 rfl ?_
        refine r_get hK lf_O_17 d_O_extend_25 (hO.1) rfl ?_
        refine r_iconst hK d_O_extend_28 kc_0 ?_
        refine r_aload_n hK d_O_extend_29 rfl ?_
        refine r_get hK lf_O_21 d_O_extend_30 (hO.1) rfl ?_
        refine r_iconst hK d_O_extend_33 kc_0 ?_
        refine r_bipush hK d_O_extend_34 kb_6 ?_
        refine r_copy hK wo_O_38 hO.2.2.1 hO.2.2.2 (by decide) (by decide) (by decide) (by decide) (by decide) (by omega) (Nat.le_of_ble_eq_true rfl) d_O_extend_36 ?_
        have f36 : Frm G21 (gup G21 (a + 3) (.inl (0, 6, .inl (va_cpy tr bst 0 0 6)))) (a + 3) 1 := Frm.up (by omega) (by omega)
        have hJ := hJ.frm f36 (by omega)
        have hF := hF.tr (f36.oc (t := 6 - d) (by omega) (by omega))
        have hO : OX (gup G21 (a + 3) (.inl (0, 6, .inl (va_cpy tr bst 0 0 6)))) a tr (va_cpy tr bst 0 0 6) grown := ⟨(gup_n (by omega)).trans hO.1, (gup_n (by omega)).trans hO.2.1, (gup_n (by omega)).trans hO.2.2.1, gup_s⟩
        refine r_vret hK rfl rfl d_O_extend_39 ?_
        exact hQ _ hO hJ (hF.mono (by omega))
      · skip
        rw [if_neg h10] at hE
        have hE := hE.symm
        rw [hres] at hE
        refine r_iload_n hK d_O_extend_13 rfl ?_
        refine r_bipush hK d_O_extend_14 kb_6 ?_
        refine r_icmp_lt (tgt := 40) hK d_O_extend_16 rfl (fun h16 => ?_) (fun h16 => ?_)
        · skip
          refine r_aload_n hK d_O_extend_40 rfl ?_
          refine r_get hK lf_O_11 d_O_extend_41 (hO.1) rfl ?_
          refine r_iload_n hK d_O_extend_44 rfl ?_
          refine r_iconst hK d_O_extend_45 kc_1 ?_
          refine r_iadd hK d_O_extend_46 ?_
          rw [nI_1]
          refine g_stg hK d_O_extend_47 hO (show 5 - d + 1 < 7 by omega) ?_
          rw [show 5 - d + 1 = 6 - d by omega]
          refine st_a_4_7 hK d_O_extend_48 trivial ?_
          refine r_iconst hK d_O_extend_50 kc_0 ?_
          refine st_i_5_7 hK d_O_extend_51 trivial ?_
          suffices L : ∀ j, j ≤ 6 → ∀ (G1 : gG) (st1 : (Nat → Int32) × (Nat → Int32) × Int32) (a6 : Option Value), OX G1 a st1.1 st1.2.1 st1.2.2 → stJ G1 a → FrmO G G1 a (6 - d) → List.foldl (fun st i => if bitB left (nI i) = true then ext d (passV (ansV v (nI i))).1 (left &&& ((1 <<< (nI i &&& 31)) ^^^ (-1))) (grown + wght (ansV v (nI i))) (upd st.1 (5 - d) (nI i), st.2) else st) st1 ([0, 1, 2, 3, 4, 5].drop j) = ext (d + 1) v left grown (tr, bst, lg) → K 53 [some (.ref a), some (.int left), some (.int grown), some (.int (nI (5 - d))), some (.ref (a + 4 + 8 * (6 - d))), some (.int (nI j)), a6] [] S G1 from L 0 (Nat.zero_le _) G (tr, bst, lg) none hO hJ FrmO.rf hE
          refine lpN 6 (fun j hj ihL G1 st1 a6 hO hJ hF hE => ?_)
          refine r_iload hK d_O_extend_53 rfl ?_
          refine r_bipush hK d_O_extend_55 kb_6 ?_
          refine r_icmp_ge (tgt := 134) hK d_O_extend_57 rfl (fun h57 => ?_) (fun h57 => ?_)
          · skip
            have hq : j = 6 := by have := (cle (n := 6) (by decide) (by omega)).mp h57; omega
            subst hq
            have hE2 : ext (d + 1) v left grown (tr, bst, lg) = st1 := hE.symm
            rw [hE2] at hQ
            refine r_vret hK rfl rfl d_O_extend_134 ?_
            exact hQ _ hO hJ (hF.mono (by omega))
          · skip
            have hq : j < 6 := Nat.not_le.mp (fun q => h57 ((cle (n := 6) (by decide) (by omega)).mpr q))
            rw [L6_d hq, List.foldl_cons] at hE
            refine r_iload_n hK d_O_extend_60 rfl ?_
            refine r_iload hK d_O_extend_61 rfl ?_
            refine r_ishr hK d_O_extend_63 ?_
            refine r_iconst hK d_O_extend_64 kc_1 ?_
            refine r_iand hK d_O_extend_65 ?_
            refine r_iconst hK d_O_extend_66 kc_1 ?_
            refine r_icmp_ne (tgt := 128) hK d_O_extend_67 rfl (fun h67 => ?_) (fun h67 => ?_)
            · skip
              rw [if_neg (show ¬ bitB left (nI j) = true by simp [bitB, h67])] at hE
              first | refine iN_5_7 hK d_O_extend_128 trivial ?_ | refine ii_5_1_7 hK d_O_extend_128 trivial ?_
              refine r_goto (tgt := 53) hK d_O_extend_131 rfl ?_
              first | exact ihL hq _ _ _ hO hJ hF hE | exact ihL hq _ st1 _ hO hJ hF hE
            · skip
              rw [if_pos (show bitB left (nI j) = true by simp [bitB, h67])] at hE
              have hS := hH.frmO hF (by omega)
              obtain ⟨s0, u0, hT⟩ := hJ (6 - d) (by omega)
              refine r_aload hK d_O_extend_70 rfl ?_
              refine r_aload_n hK d_O_extend_72 rfl ?_
              refine r_get hK lf_O_11 d_O_extend_73 (hO.1) rfl ?_
              refine r_iload_n hK d_O_extend_76 rfl ?_
              refine g_stg hK d_O_extend_77 hO (show 5 - d < 7 by omega) ?_
              refine r_v1 (k' := 2) hK lm_O_25 d_O_extend_78 ⟨_, hT.o⟩ (by omega) (Nat.le_of_ble_eq_true rfl) ?_
              refine e_H_become hT hS hn (by omega) (fun G78 hT f78 => kc_n ?_)
              have hO := hO.frm f78 (by omega)
              have hJ := hJ.up f78 hT.j
              have hF := hF.tr (f78.oh (t := 6 - d) (by omega) (by omega))
              refine r_aload hK d_O_extend_81 rfl ?_
              refine r_iload hK d_O_extend_83 rfl ?_
              refine r_v1 (k' := 3) hK lm_O_44 d_O_extend_85 ⟨_, hT.o⟩ (by omega) (Nat.le_of_ble_eq_true rfl) ?_
              refine e_H_answerOne hT hn (fun G85 hT f85 => kc_n ?_)
              have hO := hO.frm f85 (by omega)
              have hJ := hJ.up f85 hT.j
              have hF := hF.tr (f85.oh (t := 6 - d) (by omega) (by omega))
              have hn2 : nN (ansV v (nI j) 0) ≤ 6 := by rw [ansV_0]; exact hn
              refine r_aload_n hK d_O_extend_88 rfl ?_
              refine r_get hK lf_O_17 d_O_extend_89 (hO.1) rfl ?_
              refine r_iload_n hK d_O_extend_92 rfl ?_
              refine r_iload hK d_O_extend_93 rfl ?_
              refine r_iast hK d_O_extend_95 hO.2.2.1 (vp_in_nI (show 5 - d < 6 by omega) (by omega)) ?_
              rw [nI_clamp (by omega)]
              have f95 : Frm G85 (gup G85 (a + 2) (.inl (0, 6, .inl (upd st1.1 (5 - d) (nI j))))) (a + 2) 1 := Frm.up (by omega) (by omega)
              have hT := hT.frm f95 (by omega)
              have hJ := hJ.frm f95 (by omega)
              have hF := hF.tr (f95.oc (t := 6 - d) (by omega) (by omega))
              have hO : OX (gup G85 (a + 2) (.inl (0, 6, .inl (upd st1.1 (5 - d) (nI j))))) a (upd st1.1 (5 - d) (nI j)) st1.2.1 st1.2.2 := ⟨(gup_n (by omega)).trans hO.1, (gup_n (by omega)).trans hO.2.1, gup_s, (gup_n (by omega)).trans hO.2.2.2⟩
              generalize gup G85 (a + 2) (.inl (0, 6, .inl (upd st1.1 (5 - d) (nI j)))) = G95 at hT hJ hF hO ⊢
              refine r_aload hK d_O_extend_96 rfl ?_
              refine r_v0 (k' := 4) hK lm_O_48 d_O_extend_98 ⟨_, hT.o⟩ (by omega) (Nat.le_of_ble_eq_true rfl) ?_
              refine e_H_weight hT hn2 (kc_s ?_)
              refine st_i_6_7 hK d_O_extend_101 trivial ?_
              refine r_aload hK d_O_extend_103 rfl ?_
              refine r_v0 (k' := 5) hK lm_O_52 d_O_extend_105 ⟨_, hT.o⟩ (by omega) (Nat.le_of_ble_eq_true rfl) ?_
              refine e_H_passDay hT hn2 (fun G105 hT f105 => kc_s ?_)
              have hO := hO.frm f105 (by omega)
              have hJ := hJ.up f105 hT.j
              have hF := hF.tr (f105.oh (t := 6 - d) (by omega) (by omega))
              have hn3 : nN ((passV (ansV v (nI j))).1 0) ≤ 6 := by rw [passV_0]; exact hn2
              refine r_pop hK d_O_extend_108 rfl ?_
              refine r_aload_n hK d_O_extend_109 rfl ?_
              refine r_iload_n hK d_O_extend_110 rfl ?_
              refine r_iconst hK d_O_extend_111 kc_1 ?_
              refine r_iload hK d_O_extend_112 rfl ?_
              refine r_ishl hK d_O_extend_114 ?_
              refine r_iconst hK d_O_extend_115 kc_m1 ?_
              refine r_ixor hK d_O_extend_116 ?_
              refine r_iand hK d_O_extend_117 ?_
              refine r_iload_n hK d_O_extend_118 rfl ?_
              refine r_iload hK d_O_extend_119 rfl ?_
              refine r_iadd hK d_O_extend_121 ?_
              refine r_iload_n hK d_O_extend_122 rfl ?_
              refine r_iconst hK d_O_extend_123 kc_1 ?_
              refine r_iadd hK d_O_extend_124 ?_
              rw [nI_1, show 5 - d + 1 = 6 - d by omega]
              refine r_s4 (k' := 6 + d) hK lm_O_34 d_O_extend_125 (by omega) (Nat.le_of_ble_eq_true rfl) ?_
              refine ih (by omega) hO hT hn3 hJ (fun G125 hO hJ f125 => kc_n ?_)
              have hF := hF.tr (f125.mono (u := 6 - d) (by omega))
              first | refine iN_5_7 hK d_O_extend_128 trivial ?_ | refine ii_5_1_7 hK d_O_extend_128 trivial ?_
              refine r_goto (tgt := 53) hK d_O_extend_131 rfl ?_
              first | exact ihL hq _ _ _ hO hJ hF hE | exact ihL hq _ st1 _ hO hJ hF hE
        · skip
          exact absurd ((ltc (n := 6) (by decide) (by omega)).mpr (by omega)) h16
    · skip
      rw [ext, if_pos (Int32.not_lt.mp h5)] at hQ
      refine r_vret hK rfl rfl d_O_extend_8 ?_
      exact hQ _ hO hJ FrmO.rf
theorem c_O_search {E : gX} {S : Nat} {G : gG} {Q : Option Value → gG → Prop} {a : Nat} {tr bst v : Nat → Int32} {lg : Int32} (hO : OX G a tr bst lg) (hJ : stJ G a) {hh : Nat} {b : Bool} (hS : HE G hh (bI b) v) (hn : nN (v 0) ≤ 6) {ls : Int32} (hd : hh + 8 ≤ a ∨ a + 60 ≤ hh) (hQ : ∀ G' : gG, OX G' a (ext 6 v ls 0 (tr, bst, 1000000)).1 (ext 6 v ls 0 (tr, bst, 1000000)).2.1 (ext 6 v ls 0 (tr, bst, 1000000)).2.2 → stJ G' a → Frm G G' a 60 → Q none G') : Runs E y_O_search 31 0 S [.ref a, .ref hh, .int ls] G Q := by
  refine Runs.of "ClockPost$OrderSearch" [some (.ref a), some (.ref hh), some (.int ls)] cw_O_search (by decide) (by decide +kernel) rfl (Nat.le_of_ble_eq_true rfl) rfl (fun K hK => ?_)
  refine r_aload_n hK d_O_search_0 rfl ?_
  refine r_get hK lf_O_11 d_O_search_1 (hO.1) rfl ?_
  refine r_iconst hK d_O_search_4 kc_0 ?_
  refine g_stg (j := 0) hK d_O_search_5 hO (by omega) ?_
  obtain ⟨s0, u0, hT⟩ := hJ 0 (by omega)
  refine r_aload_n hK d_O_search_6 rfl ?_
  refine r_v1 (k' := 2) hK lm_O_25 d_O_search_7 ⟨_, hT.o⟩ (by decide) (Nat.le_of_ble_eq_true rfl) ?_
  refine e_H_become hT hS hn (by omega) (fun G7 hT f7 => kc_n ?_)
  have hO := hO.frm f7 (by omega)
  have hJ := hJ.up f7 hT.j
  have hF : Frm G G7 a 60 := f7.mono (by omega) (by omega)
  refine r_aload_n hK d_O_search_10 rfl ?_
  refine r_ldc hK d_O_search_11 lc_O_29 ?_
  refine p_O_leastGrowth hK lf_O_30 d_O_search_13 hO (fun G13 hO f13 => ?_)
  have hJ := hJ.frm f13 (by omega)
  have hT := hT.frm f13 (by omega)
  have hF := hF.tr (f13.mono (by omega) (by omega))
  refine r_aload_n hK d_O_search_16 rfl ?_
  refine r_iload_n hK d_O_search_17 rfl ?_
  refine r_iconst hK d_O_search_18 kc_0 ?_
  refine r_iconst hK d_O_search_19 kc_0 ?_
  refine r_s4 (k' := 6 + 6) hK lm_O_34 d_O_search_20 (by decide) (Nat.le_of_ble_eq_true rfl) ?_
  refine c_O_extend 6 (by omega) hO hT hn hJ (fun G20 hO hJ f20 => kc_n ?_)
  have hF := hF.tr (fun q hq => f20 q (by omega))
  refine r_vret hK rfl rfl d_O_search_23 ?_
  exact hQ _ hO hJ hF
