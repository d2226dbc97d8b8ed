def tsm (t u : (Nat → Int32) × Nat) : Prop := t.2 = u.2 ∧ ∀ k, k < t.2 → t.1 k = u.1 k
theorem lvT_sm {t u : (Nat → Int32) × Nat} {b : Int32} (h : tsm t u) : tsm (lvT t b) (lvT u b) := by
  unfold lvT tsm
  rw [← h.1]
  refine ⟨rfl, fun k hk => ?_⟩
  by_cases q : t.2 < 16
  · simp only [if_pos q] at hk ⊢
    by_cases e : k = t.2
    · subst e; rw [upd_s, upd_s]
    · rw [upd_n e, upd_n e]; exact h.2 k (by omega)
  · simp only [if_neg q] at hk ⊢
    exact h.2 k hk
theorem bg_sm {k th ag nm : Int32} : ∀ (d : Nat) (b : Int32) (t u : (Nat → Int32) × Nat), tsm t u → (bg k th ag nm d b t).1 = (bg k th ag nm d b u).1 ∧ tsm (bg k th ag nm d b t).2 (bg k th ag nm d b u).2
  | 0, _, _, _, h => ⟨rfl, h⟩
  | d + 1, b, t, u, h => by
    have h1 := lvT_sm (b := b) h
    have i := fun b t u h => bg_sm (k := k) (th := th) (ag := ag) (nm := nm) d b t u h
    unfold bg
    repeat' split
    all_goals first
      | exact ⟨rfl, h1⟩
      | exact ⟨by rw [(i _ _ _ h1).1, (i _ _ _ (i _ _ _ h1).2).1], (i _ _ _ (i _ _ _ h1).2).2⟩
      | exact ⟨by rw [(i _ _ _ h1).1], (i _ _ _ h1).2⟩
theorem MS.str {f w g : Nat → Int32} {A : Nat → Nat → Int32} {st : Bool} {nw : Nat → Int32} {ac : Nat → Nat → Int32} {na : Nat} {ik : Nat → Bool} {im : Nat → Nat → Int32} {rp : Nat → Bool} {rl : Nat → Int32} {rs : Nat → Nat} {ri : Nat → Nat → Int32} {tp : Nat → Int32} {tn : Nat} {lf : Int32} {fd : Int32} {tr : Nat → Int32} {un : Nat} {t u : (Nat → Int32) × Nat} (h : MS f w A (st, nw, ac, na, ik, im, rp, rl, rs, ri, tp, tn, lf, fd, tr, un)) (ht : tsm t u) : MS (upd f 12 (nI t.2)) w (va_up A 7 t.1) (st, nw, ac, na, ik, im, rp, rl, rs, ri, tp, tn, lf, fd, u.1, u.2) :=
  ⟨by rw [upd_n (by omega)]; exact h.1, by rw [upd_n (by omega)]; exact h.2.1, by rw [upd_n (by omega)]; exact h.2.2.1, by rw [upd_n (by omega)]; exact h.2.2.2.1, by rw [upd_n (by omega)]; exact h.2.2.2.2.1, by rw [upd_s, ht.1], h.2.2.2.2.2.2.1, h.2.2.2.2.2.2.2.1, h.2.2.2.2.2.2.2.2.1, fun i hi => by rw [va_up_n (by omega)]; exact h.2.2.2.2.2.2.2.2.2.1 i hi, fun i hi => by rw [va_up_n (by omega)]; exact h.2.2.2.2.2.2.2.2.2.2.1 i hi, fun i hi hq => by rw [va_up_n (by omega), va_up_n (by omega)]; exact h.2.2.2.2.2.2.2.2.2.2.2.1 i hi hq, fun k hk => by rw [va_up_n (by omega)]; exact h.2.2.2.2.2.2.2.2.2.2.2.2.1 k hk, fun k hk => by rw [va_up_s]; exact ht.2 k (by rw [ht.1]; exact hk)⟩
theorem ofK_m {k w : Int32} (h : k.toInt ≤ 5 ∧ 1 ≤ k.toInt) : ofK k w = true ↔ (w = 0 ∨ w = k ∨ (w = 1 ∧ (k = 2 ∨ k = 3)) ∨ (w = 4 ∧ k = 5)) := by
  have hk : k = 1 ∨ k = 2 ∨ k = 3 ∨ k = 4 ∨ k = 5 := by
    simp only [i_eq, ti_1, ti_2, ti_3, ti_4, ti_5]
    omega
  unfold ofK
  simp only [Bool.or_eq_true, decide_eq_true_eq]
  rcases hk with rfl | rfl | rfl | rfl | rfl
  · rw [show nrK 1 = 0 by decide]
    constructor
    · rintro ((e | e) | e)
      · exact Or.inr (Or.inl e.symm)
      · exact Or.inl e
      · exact Or.inl e.symm
    · rintro (e | e | ⟨-, e | e⟩ | ⟨-, e⟩)
      · exact Or.inl (Or.inr e)
      · exact Or.inl (Or.inl e.symm)
      · exact absurd e (by decide)
      · exact absurd e (by decide)
      · exact absurd e (by decide)
  · rw [show nrK 2 = 1 by decide]
    constructor
    · rintro ((e | e) | e)
      · exact Or.inr (Or.inl e.symm)
      · exact Or.inl e
      · exact Or.inr (Or.inr (Or.inl ⟨e.symm, Or.inl rfl⟩))
    · rintro (e | e | ⟨e, -⟩ | ⟨-, e⟩)
      · exact Or.inl (Or.inr e)
      · exact Or.inl (Or.inl e.symm)
      · exact Or.inr e.symm
      · exact absurd e (by decide)
  · rw [show nrK 3 = 1 by decide]
    constructor
    · rintro ((e | e) | e)
      · exact Or.inr (Or.inl e.symm)
      · exact Or.inl e
      · exact Or.inr (Or.inr (Or.inl ⟨e.symm, Or.inr rfl⟩))
    · rintro (e | e | ⟨e, -⟩ | ⟨-, e⟩)
      · exact Or.inl (Or.inr e)
      · exact Or.inl (Or.inl e.symm)
      · exact Or.inr e.symm
      · exact absurd e (by decide)
  · rw [show nrK 4 = 0 by decide]
    constructor
    · rintro ((e | e) | e)
      · exact Or.inr (Or.inl e.symm)
      · exact Or.inl e
      · exact Or.inl e.symm
    · rintro (e | e | ⟨-, e | e⟩ | ⟨-, e⟩)
      · exact Or.inl (Or.inr e)
      · exact Or.inl (Or.inl e.symm)
      · exact absurd e (by decide)
      · exact absurd e (by decide)
      · exact absurd e (by decide)
  · rw [show nrK 5 = 4 by decide]
    constructor
    · rintro ((e | e) | e)
      · exact Or.inr (Or.inl e.symm)
      · exact Or.inl e
      · exact Or.inr (Or.inr (Or.inr ⟨e.symm, rfl⟩))
    · rintro (e | e | ⟨-, e | e⟩ | ⟨e, -⟩)
      · exact Or.inl (Or.inr e)
      · exact Or.inl (Or.inl e.symm)
      · exact absurd e (by decide)
      · exact absurd e (by decide)
      · exact Or.inr e.symm
theorem inB_u {n : Nat} {i : Int32} (hn : n < 2 ^ 31) (h : inB i 0 (nI n - 1) = true) : ∃ j : Nat, j < n ∧ i = nI j := by
  simp only [inB, Bool.and_eq_true, decide_eq_true_eq] at h
  obtain ⟨j, hj, rfl⟩ := nI_of (Int32.not_lt.mpr h.1)
  refine ⟨j, ?_, rfl⟩
  have a := nI_toInt hn
  have e : (nI n - 1).toInt = (n : Int) - 1 := by rw [sub_toI (by rw [a, ti_1]; omega), a, ti_1]
  have := h.2
  rw [i_le, e, nI_toInt hj] at this
  omega
theorem c_M_isOf {E : gX} {S : Nat} {G : gG} {Q : Option Value → gG → Prop} {c j n : Nat} {f w v : Nat → Int32} {A : Nat → Nat → Int32} (hM : MV G c f (putT w 0 v) A) (hV : Vk v n) (hj : j < n) {k : Int32} (hQ : Q (some (.int (bI (ofK (v (6 + j)) k)))) G) : Runs E y_M_isOf 1 0 S [.ref c, .int (nI j), .int k] G Q := by
  refine Runs.of "ClockPostModel" [some (.ref c), some (.int (nI j)), some (.int k), none] cw_M_isOf (by decide) (by decide +kernel) rfl (Nat.le_of_ble_eq_true rfl) rfl (fun K hK => ?_)
  have h6 := hV.1
  have hO := ofK_m (w := k) (hV.2.2.2 j hj).1.2
  refine r_aload_n hK d_M_isOf_0 rfl ?_
  refine r_get hK lf_M_7 d_M_isOf_1 (hM.1) rfl ?_
  refine r_bipush hK d_M_isOf_4 kb_6 ?_
  refine r_iload_n hK d_M_isOf_6 rfl ?_
  refine r_iadd hK d_M_isOf_7 ?_
  refine g_tw (B := 0) (j := 6 + j) hK d_M_isOf_8 hM (Eq.trans (ix0 (c := 6) rfl) (congrArg nI (by omega))) (by omega) (by omega) ?_
  refine st_in_3_4 hK d_M_isOf_9 trivial ?_
  refine r_iload_n hK d_M_isOf_10 rfl ?_
  refine r_if_eq (tgt := 44) hK d_M_isOf_11 rfl (fun h11 => ?_) (fun h11 => ?_)
  · skip
    refine r_iconst hK d_M_isOf_44 kc_1 ?_
    refine r_goto (tgt := 49) hK d_M_isOf_45 rfl ?_
    refine r_zret hK rfl (rfl) rfl d_M_isOf_49 ?_
    first | exact rc hQ (bI_t (hO.mpr (Or.inl h11))) | exact rc hQ (bI_t (hO.mpr (Or.inr (Or.inl h16)))) | exact rc hQ (bI_t (hO.mpr (Or.inr (Or.inr (Or.inl ⟨h21, Or.inl h26⟩))))) | exact rc hQ (bI_t (hO.mpr (Or.inr (Or.inr (Or.inl ⟨h21, Or.inr h31⟩))))) | exact rc hQ (bI_t (hO.mpr (Or.inr (Or.inr (Or.inr ⟨h36, h41⟩))))) | exact rc hQ (bI_f (fun q => by rcases hO.mp q with e | e | ⟨e1, e | e⟩ | ⟨e1, e⟩ <;> first | exact h11 e | exact h16 e | exact h21 e1 | exact h26 e | exact h31 e | exact h36 e1 | exact h41 e))
  · skip
    refine r_iload_n hK d_M_isOf_14 rfl ?_
    refine r_iload_n hK d_M_isOf_15 rfl ?_
    refine r_icmp_eq (tgt := 44) hK d_M_isOf_16 rfl (fun h16 => ?_) (fun h16 => ?_)
    · skip
      refine r_iconst hK d_M_isOf_44 kc_1 ?_
      refine r_goto (tgt := 49) hK d_M_isOf_45 rfl ?_
      refine r_zret hK rfl (rfl) rfl d_M_isOf_49 ?_
      first | exact rc hQ (bI_t (hO.mpr (Or.inl h11))) | exact rc hQ (bI_t (hO.mpr (Or.inr (Or.inl h16)))) | exact rc hQ (bI_t (hO.mpr (Or.inr (Or.inr (Or.inl ⟨h21, Or.inl h26⟩))))) | exact rc hQ (bI_t (hO.mpr (Or.inr (Or.inr (Or.inl ⟨h21, Or.inr h31⟩))))) | exact rc hQ (bI_t (hO.mpr (Or.inr (Or.inr (Or.inr ⟨h36, h41⟩))))) | exact rc hQ (bI_f (fun q => by rcases hO.mp q with e | e | ⟨e1, e | e⟩ | ⟨e1, e⟩ <;> first | exact h11 e | exact h16 e | exact h21 e1 | exact h26 e | exact h31 e | exact h36 e1 | exact h41 e))
    · skip
      refine r_iload_n hK d_M_isOf_19 rfl ?_
      refine r_iconst hK d_M_isOf_20 kc_1 ?_
      refine r_icmp_ne (tgt := 34) hK d_M_isOf_21 rfl (fun h21 => ?_) (fun h21 => ?_)
      · skip
        refine r_iload_n hK d_M_isOf_34 rfl ?_
        refine r_iconst hK d_M_isOf_35 kc_4 ?_
        refine r_icmp_ne (tgt := 48) hK d_M_isOf_36 rfl (fun h36 => ?_) (fun h36 => ?_)
        · skip
          refine r_iconst hK d_M_isOf_48 kc_0 ?_
          refine r_zret hK rfl (rfl) rfl d_M_isOf_49 ?_
          first | exact rc hQ (bI_t (hO.mpr (Or.inl h11))) | exact rc hQ (bI_t (hO.mpr (Or.inr (Or.inl h16)))) | exact rc hQ (bI_t (hO.mpr (Or.inr (Or.inr (Or.inl ⟨h21, Or.inl h26⟩))))) | exact rc hQ (bI_t (hO.mpr (Or.inr (Or.inr (Or.inl ⟨h21, Or.inr h31⟩))))) | exact rc hQ (bI_t (hO.mpr (Or.inr (Or.inr (Or.inr ⟨h36, h41⟩))))) | exact rc hQ (bI_f (fun q => by rcases hO.mp q with e | e | ⟨e1, e | e⟩ | ⟨e1, e⟩ <;> first | exact h11 e | exact h16 e | exact h21 e1 | exact h26 e | exact h31 e | exact h36 e1 | exact h41 e))
        · skip
          refine r_iload_n hK d_M_isOf_39 rfl ?_
          refine r_iconst hK d_M_isOf_40 kc_5 ?_
          refine r_icmp_ne (tgt := 48) hK d_M_isOf_41 rfl (fun h41 => ?_) (fun h41 => ?_)
          · skip
            refine r_iconst hK d_M_isOf_48 kc_0 ?_
            refine r_zret hK rfl (rfl) rfl d_M_isOf_49 ?_
            first | exact rc hQ (bI_t (hO.mpr (Or.inl h11))) | exact rc hQ (bI_t (hO.mpr (Or.inr (Or.inl h16)))) | exact rc hQ (bI_t (hO.mpr (Or.inr (Or.inr (Or.inl ⟨h21, Or.inl h26⟩))))) | exact rc hQ (bI_t (hO.mpr (Or.inr (Or.inr (Or.inl ⟨h21, Or.inr h31⟩))))) | exact rc hQ (bI_t (hO.mpr (Or.inr (Or.inr (Or.inr ⟨h36, h41⟩))))) | exact rc hQ (bI_f (fun q => by rcases hO.mp q with e | e | ⟨e1, e | e⟩ | ⟨e1, e⟩ <;> first | exact h11 e | exact h16 e | exact h21 e1 | exact h26 e | exact h31 e | exact h36 e1 | exact h41 e))
          · skip
            refine r_iconst hK d_M_isOf_44 kc_1 ?_
            refine r_goto (tgt := 49) hK d_M_isOf_45 rfl ?_
            refine r_zret hK rfl (rfl) rfl d_M_isOf_49 ?_
            first | exact rc hQ (bI_t (hO.mpr (Or.inl h11))) | exact rc hQ (bI_t (hO.mpr (Or.inr (Or.inl h16)))) | exact rc hQ (bI_t (hO.mpr (Or.inr (Or.inr (Or.inl ⟨h21, Or.inl h26⟩))))) | exact rc hQ (bI_t (hO.mpr (Or.inr (Or.inr (Or.inl ⟨h21, Or.inr h31⟩))))) | exact rc hQ (bI_t (hO.mpr (Or.inr (Or.inr (Or.inr ⟨h36, h41⟩))))) | exact rc hQ (bI_f (fun q => by rcases hO.mp q with e | e | ⟨e1, e | e⟩ | ⟨e1, e⟩ <;> first | exact h11 e | exact h16 e | exact h21 e1 | exact h26 e | exact h31 e | exact h36 e1 | exact h41 e))
      · skip
        refine r_iload_n hK d_M_isOf_24 rfl ?_
        refine r_iconst hK d_M_isOf_25 kc_2 ?_
        refine r_icmp_eq (tgt := 44) hK d_M_isOf_26 rfl (fun h26 => ?_) (fun h26 => ?_)
        · skip
          refine r_iconst hK d_M_isOf_44 kc_1 ?_
          refine r_goto (tgt := 49) hK d_M_isOf_45 rfl ?_
          refine r_zret hK rfl (rfl) rfl d_M_isOf_49 ?_
          first | exact rc hQ (bI_t (hO.mpr (Or.inl h11))) | exact rc hQ (bI_t (hO.mpr (Or.inr (Or.inl h16)))) | exact rc hQ (bI_t (hO.mpr (Or.inr (Or.inr (Or.inl ⟨h21, Or.inl h26⟩))))) | exact rc hQ (bI_t (hO.mpr (Or.inr (Or.inr (Or.inl ⟨h21, Or.inr h31⟩))))) | exact rc hQ (bI_t (hO.mpr (Or.inr (Or.inr (Or.inr ⟨h36, h41⟩))))) | exact rc hQ (bI_f (fun q => by rcases hO.mp q with e | e | ⟨e1, e | e⟩ | ⟨e1, e⟩ <;> first | exact h11 e | exact h16 e | exact h21 e1 | exact h26 e | exact h31 e | exact h36 e1 | exact h41 e))
        · skip
          refine r_iload_n hK d_M_isOf_29 rfl ?_
          refine r_iconst hK d_M_isOf_30 kc_3 ?_
          refine r_icmp_eq (tgt := 44) hK d_M_isOf_31 rfl (fun h31 => ?_) (fun h31 => ?_)
          · skip
            refine r_iconst hK d_M_isOf_44 kc_1 ?_
            refine r_goto (tgt := 49) hK d_M_isOf_45 rfl ?_
            refine r_zret hK rfl (rfl) rfl d_M_isOf_49 ?_
            first | exact rc hQ (bI_t (hO.mpr (Or.inl h11))) | exact rc hQ (bI_t (hO.mpr (Or.inr (Or.inl h16)))) | exact rc hQ (bI_t (hO.mpr (Or.inr (Or.inr (Or.inl ⟨h21, Or.inl h26⟩))))) | exact rc hQ (bI_t (hO.mpr (Or.inr (Or.inr (Or.inl ⟨h21, Or.inr h31⟩))))) | exact rc hQ (bI_t (hO.mpr (Or.inr (Or.inr (Or.inr ⟨h36, h41⟩))))) | exact rc hQ (bI_f (fun q => by rcases hO.mp q with e | e | ⟨e1, e | e⟩ | ⟨e1, e⟩ <;> first | exact h11 e | exact h16 e | exact h21 e1 | exact h26 e | exact h31 e | exact h36 e1 | exact h41 e))
          · skip
            refine r_iload_n hK d_M_isOf_34 rfl ?_
            refine r_iconst hK d_M_isOf_35 kc_4 ?_
            refine r_icmp_ne (tgt := 48) hK d_M_isOf_36 rfl (fun h36 => ?_) (fun h36 => ?_)
            · skip
              refine r_iconst hK d_M_isOf_48 kc_0 ?_
              refine r_zret hK rfl (rfl) rfl d_M_isOf_49 ?_
              first | exact rc hQ (bI_t (hO.mpr (Or.inl h11))) | exact rc hQ (bI_t (hO.mpr (Or.inr (Or.inl h16)))) | exact rc hQ (bI_t (hO.mpr (Or.inr (Or.inr (Or.inl ⟨h21, Or.inl h26⟩))))) | exact rc hQ (bI_t (hO.mpr (Or.inr (Or.inr (Or.inl ⟨h21, Or.inr h31⟩))))) | exact rc hQ (bI_t (hO.mpr (Or.inr (Or.inr (Or.inr ⟨h36, h41⟩))))) | exact rc hQ (bI_f (fun q => by rcases hO.mp q with e | e | ⟨e1, e | e⟩ | ⟨e1, e⟩ <;> first | exact h11 e | exact h16 e | exact h21 e1 | exact h26 e | exact h31 e | exact h36 e1 | exact h41 e))
            · skip
              refine r_iload_n hK d_M_isOf_39 rfl ?_
              refine r_iconst hK d_M_isOf_40 kc_5 ?_
              refine r_icmp_ne (tgt := 48) hK d_M_isOf_41 rfl (fun h41 => ?_) (fun h41 => ?_)
              · skip
                refine r_iconst hK d_M_isOf_48 kc_0 ?_
                refine r_zret hK rfl (rfl) rfl d_M_isOf_49 ?_
                first | exact rc hQ (bI_t (hO.mpr (Or.inl h11))) | exact rc hQ (bI_t (hO.mpr (Or.inr (Or.inl h16)))) | exact rc hQ (bI_t (hO.mpr (Or.inr (Or.inr (Or.inl ⟨h21, Or.inl h26⟩))))) | exact rc hQ (bI_t (hO.mpr (Or.inr (Or.inr (Or.inl ⟨h21, Or.inr h31⟩))))) | exact rc hQ (bI_t (hO.mpr (Or.inr (Or.inr (Or.inr ⟨h36, h41⟩))))) | exact rc hQ (bI_f (fun q => by rcases hO.mp q with e | e | ⟨e1, e | e⟩ | ⟨e1, e⟩ <;> first | exact h11 e | exact h16 e | exact h21 e1 | exact h26 e | exact h31 e | exact h36 e1 | exact h41 e))
              · skip
                refine r_iconst hK d_M_isOf_44 kc_1 ?_
                refine r_goto (tgt := 49) hK d_M_isOf_45 rfl ?_
                refine r_zret hK rfl (rfl) rfl d_M_isOf_49 ?_
                first | exact rc hQ (bI_t (hO.mpr (Or.inl h11))) | exact rc hQ (bI_t (hO.mpr (Or.inr (Or.inl h16)))) | exact rc hQ (bI_t (hO.mpr (Or.inr (Or.inr (Or.inl ⟨h21, Or.inl h26⟩))))) | exact rc hQ (bI_t (hO.mpr (Or.inr (Or.inr (Or.inl ⟨h21, Or.inr h31⟩))))) | exact rc hQ (bI_t (hO.mpr (Or.inr (Or.inr (Or.inr ⟨h36, h41⟩))))) | exact rc hQ (bI_f (fun q => by rcases hO.mp q with e | e | ⟨e1, e | e⟩ | ⟨e1, e⟩ <;> first | exact h11 e | exact h16 e | exact h21 e1 | exact h26 e | exact h31 e | exact h36 e1 | exact h41 e))
theorem c_M_as {E : gX} {S : Nat} {G : gG} {Q : Option Value → gG → Prop} {c : Nat} {f w : Nat → Int32} {A : Nat → Nat → Int32} {st : Bool} {nw : Nat → Int32} {ac : Nat → Nat → Int32} {na : Nat} {ik : Nat → Bool} {im : Nat → Nat → Int32} {rp : Nat → Bool} {rl : Nat → Int32} {rs : Nat → Nat} {ri : Nat → Nat → Int32} {tp : Nat → Int32} {tn : Nat} {lf : Int32} {fd : Int32} {tr : Nat → Int32} {un : Nat} (hM : MV G c f w A) (hS : MS f w A (st, nw, ac, na, ik, im, rp, rl, rs, ri, tp, tn, lf, fd, tr, un)) (hI : MI (st, nw, ac, na, ik, im, rp, rl, rs, ri, tp, tn, lf, fd, tr, un)) {i k : Int32} (hQ : ∀ G' : gG, MR G' c (opAs (st, nw, ac, na, ik, im, rp, rl, rs, ri, tp, tn, lf, fd, tr, un) i k).2 → Frm G G' c 10 → Q (some (.int (opAs (st, nw, ac, na, ik, im, rp, rl, rs, ri, tp, tn, lf, fd, tr, un) i k).1)) G') : Runs E y_M_as 3 0 S [.ref c, .int i, .int k] G Q := by
  refine Runs.of "ClockPostModel" [some (.ref c), some (.int i), some (.int k)] cw_M_as (by decide) (by decide +kernel) rfl (Nat.le_of_ble_eq_true rfl) rfl (fun K hK => ?_)
  obtain ⟨w0, hw0⟩ : ∃ x, w = putT x 0 nw := ⟨_, hS.t0⟩
  subst hw0
  obtain ⟨n, hV⟩ := hI.1
  have h6 := hV.1
  have hz0 : putT w0 0 nw 0 = nI n := (hS.2.2.2.2.2.2.1 0 (by omega)).trans hV.2.1
  refine r_aload_n hK d_M_as_0 rfl ?_
  refine r_iload_n hK d_M_as_1 rfl ?_
  refine r_v1 (k' := 2) hK lm_M_175 d_M_as_2 ⟨_, hM.1⟩ (by decide) (Nat.le_of_ble_eq_true rfl) ?_
  refine c_M_isLetterThere hM hz0 h6 hV.2.1 (kc_s ?_)
  refine r_if_eq (tgt := 20) hK d_M_as_5 rfl (fun h5 => ?_) (fun h5 => ?_)
  · skip
    have hb := bI_0.mp h5
    rw [opAs, if_neg (by simp [hb])] at hQ
    refine r_ldc hK d_M_as_20 lc_M_55 ?_
    refine r_iret hK rfl rfl d_M_as_22 ?_
    exact hQ _ ⟨_, _, _, hM, hS⟩ Frm.rf
  · skip
    have hb := bI_n0.mp h5
    obtain ⟨j, hj, hj6, rfl⟩ := hasL_ix hb (by rw [hV.nN]; exact h6)
    rw [hV.nN] at hj
    refine r_iload_n hK d_M_as_8 rfl ?_
    refine r_i2l hK d_M_as_9 ?_
    refine r_lconst (v := 0) hK d_M_as_10 rfl ?_
    refine r_ldc2 hK d_M_as_11 lc_M_202 ?_
    refine r_s3 (k' := 1) hK lm_M_45 d_M_as_14 (by decide) (Nat.le_of_ble_eq_true rfl) ?_
    refine c_M_in (a := 0) (b := 5) (by decide) (by decide) (kc_s ?_)
    refine r_if_ne (tgt := 23) hK d_M_as_17 rfl (fun h17 => ?_) (fun h17 => ?_)
    · skip
      have hc := bI_n0.mp h17
      rw [opAs, if_pos ⟨hb, hc⟩, nN_nI (by omega)] at hQ
      refine r_aload_n hK d_M_as_23 rfl ?_
      refine r_iload_n hK d_M_as_24 rfl ?_
      refine r_iload_n hK d_M_as_25 rfl ?_
      refine r_v2 (k' := 1) hK lm_M_244 d_M_as_26 ⟨_, hM.1⟩ (by decide) (Nat.le_of_ble_eq_true rfl) ?_
      refine c_M_isOf (j := j) hM hV hj (kc_s ?_)
      refine r_if_eq (tgt := 40) hK d_M_as_29 rfl (fun h29 => ?_) (fun h29 => ?_)
      · skip
        have hd := bI_0.mp h29
        rw [if_neg (by simp [hd])] at hQ
        refine r_aload_n hK d_M_as_40 rfl ?_
        refine r_iconst hK d_M_as_41 kc_3 ?_
        refine r_v1 (k' := 1) hK lm_M_56 d_M_as_42 ⟨_, hM.1⟩ (by decide) (Nat.le_of_ble_eq_true rfl) ?_
        refine c_M_find hM (fun G42 hM f42 => kc_s ?_)
        refine r_iret hK rfl rfl d_M_as_45 ?_
        first | exact hQ _ ⟨_, _, _, hM, hS.sfd⟩ f34 | exact hQ _ ⟨_, _, _, hM, hS.sfd⟩ f42
      · skip
        have hd := bI_n0.mp h29
        rw [if_pos hd] at hQ
        refine r_aload_n hK d_M_as_32 rfl ?_
        refine r_iload_n hK d_M_as_33 rfl ?_
        refine r_v1 (k' := 1) hK lm_M_60 d_M_as_34 ⟨_, hM.1⟩ (by decide) (Nat.le_of_ble_eq_true rfl) ?_
        refine c_M_well hM (fun G34 hM f34 => kc_s ?_)
        refine r_goto (tgt := 45) hK d_M_as_37 rfl ?_
        refine r_iret hK rfl rfl d_M_as_45 ?_
        first | exact hQ _ ⟨_, _, _, hM, hS.sfd⟩ f34 | exact hQ _ ⟨_, _, _, hM, hS.sfd⟩ f42
    · skip
      have hc := bI_0.mp h17
      rw [opAs, if_neg (by simp [hc])] at hQ
      refine r_ldc hK d_M_as_20 lc_M_55 ?_
      refine r_iret hK rfl rfl d_M_as_22 ?_
      exact hQ _ ⟨_, _, _, hM, hS⟩ Frm.rf
theorem c_M_ask {E : gX} {S : Nat} {G : gG} {Q : Option Value → gG → Prop} {c : Nat} {f w : Nat → Int32} {A : Nat → Nat → Int32} {st : Bool} {nw : Nat → Int32} {ac : Nat → Nat → Int32} {na : Nat} {ik : Nat → Bool} {im : Nat → Nat → Int32} {rp : Nat → Bool} {rl : Nat → Int32} {rs : Nat → Nat} {ri : Nat → Nat → Int32} {tp : Nat → Int32} {tn : Nat} {lf : Int32} {fd : Int32} {tr : Nat → Int32} {un : Nat} (hM : MV G c f w A) (hS : MS f w A (st, nw, ac, na, ik, im, rp, rl, rs, ri, tp, tn, lf, fd, tr, un)) (hI : MI (st, nw, ac, na, ik, im, rp, rl, rs, ri, tp, tn, lf, fd, tr, un)) {i q : Int32} (hQ : ∀ G' : gG, MR G' c (opAsk (st, nw, ac, na, ik, im, rp, rl, rs, ri, tp, tn, lf, fd, tr, un) i q).2 → Frm G G' c 10 → Q (some (.int (opAsk (st, nw, ac, na, ik, im, rp, rl, rs, ri, tp, tn, lf, fd, tr, un) i q).1)) G') : Runs E y_M_ask 8 0 S [.ref c, .int i, .int q] G Q := by
  refine Runs.of "ClockPostModel" [some (.ref c), some (.int i), some (.int q)] cw_M_ask (by decide) (by decide +kernel) rfl (Nat.le_of_ble_eq_true rfl) rfl (fun K hK => ?_)
  obtain ⟨w0, hw0⟩ : ∃ x, w = putT x 0 nw := ⟨_, hS.t0⟩
  subst hw0
  obtain ⟨n, hV⟩ := hI.1
  have h6 := hV.1
  have hz0 : putT w0 0 nw 0 = nI n := (hS.2.2.2.2.2.2.1 0 (by omega)).trans hV.2.1
  refine r_aload_n hK d_M_ask_0 rfl ?_
  refine r_iload_n hK d_M_ask_1 rfl ?_
  refine r_v1 (k' := 2) hK lm_M_175 d_M_ask_2 ⟨_, hM.1⟩ (by decide) (Nat.le_of_ble_eq_true rfl) ?_
  refine c_M_isLetterThere hM hz0 h6 hV.2.1 (kc_s ?_)
  refine r_if_eq (tgt := 18) hK d_M_ask_5 rfl (fun h5 => ?_) (fun h5 => ?_)
  · skip
    have hb := bI_0.mp h5
    rw [opAsk, if_neg (by simp [hb])] at hQ
    refine r_ldc hK d_M_ask_18 lc_M_55 ?_
    refine r_iret hK rfl rfl d_M_ask_20 ?_
    exact hQ _ ⟨_, _, _, hM, hS⟩ Frm.rf
  · skip
    have hb := bI_n0.mp h5
    obtain ⟨j, hj, hj6, rfl⟩ := hasL_ix hb (by rw [hV.nN]; exact h6)
    rw [hV.nN] at hj
    refine r_iload_n hK d_M_ask_8 rfl ?_
    refine r_i2l hK d_M_ask_9 ?_
    refine r_lconst (v := 0) hK d_M_ask_10 rfl ?_
    refine r_lconst (v := 1) hK d_M_ask_11 rfl ?_
    refine r_s3 (k' := 1) hK lm_M_45 d_M_ask_12 (by decide) (Nat.le_of_ble_eq_true rfl) ?_
    refine c_M_in (a := 0) (b := 1) (by decide) (by decide) (kc_s ?_)
    refine r_if_ne (tgt := 21) hK d_M_ask_15 rfl (fun h15 => ?_) (fun h15 => ?_)
    · skip
      have hc := bI_n0.mp h15
      rw [opAsk, if_pos ⟨hb, hc⟩, nN_nI (by omega)] at hQ
      refine r_aload_n hK d_M_ask_21 rfl ?_
      refine r_iconst hK d_M_ask_22 kc_0 ?_
      refine p_M_traced hK lf_M_247 d_M_ask_23 hM (fun G23 hM f23 => ?_)
      have hT : TV G23 c f (putT w0 0 nw) A (A 7, 0) := by
        unfold TV
        rw [show va_up A 7 (A 7, 0).1 = A from va_up_id]
        exact hM
      refine r_iload_n hK d_M_ask_26 rfl ?_
      refine r_if_ne (tgt := 38) hK d_M_ask_27 rfl (fun h27 => ?_) (fun h27 => ?_)
      · skip
        have hq1 : q = 1 := by
          simp only [inB, Bool.and_eq_true, decide_eq_true_eq, i_le, ti_0, ti_1] at hc
          have h27 : ¬ q.toInt = 0 := fun e => h27 (toI (by rw [ti_0]; exact e))
          exact toI (by rw [ti_1]; omega)
        subst hq1
        have hkk := (hV.2.2.2 j hj).1.2
        have hO := ofK_m (w := 4) hkk
        refine r_aload_n hK d_M_ask_38 rfl ?_
        refine r_iload_n hK d_M_ask_39 rfl ?_
        refine r_iconst hK d_M_ask_40 kc_4 ?_
        refine r_v2 (k' := 1) hK lm_M_244 d_M_ask_41 ⟨_, hM.1⟩ (by decide) (Nat.le_of_ble_eq_true rfl) ?_
        refine c_M_isOf (j := j) hM hV hj (kc_s ?_)
        refine r_if_eq (tgt := 55) hK d_M_ask_44 rfl (fun h44 => ?_) (fun h44 => ?_)
        · skip
          have hd := bI_0.mp h44
          have hk3 : (nw (6 + j)).toInt ≤ 3 := by
            have n4 : ¬ nw (6 + j) = 4 := fun e => by rw [hO.mpr (Or.inr (Or.inl e.symm))] at hd; cases hd
            have n5 : ¬ nw (6 + j) = 5 := fun e => by rw [hO.mpr (Or.inr (Or.inr (Or.inr ⟨rfl, e⟩)))] at hd; cases hd
            rw [i_eq, ti_4] at n4
            rw [i_eq, ti_5] at n5
            omega
          refine r_aload_n hK d_M_ask_55 rfl ?_
          refine r_iload_n hK d_M_ask_56 rfl ?_
          refine r_v1 (k' := 4) hK lm_M_256 d_M_ask_57 ⟨_, hM.1⟩ (by decide) (Nat.le_of_ble_eq_true rfl) ?_
          refine c_M_mark (D := 14) (j := j) (t := (A 7, 0)) hT (Nat.zero_le _) hV hj hk3 (fun G57 hM f57 => kc_s ?_)
          have hF := f23.tr f57
          have hs := bg_sm (k := nw (6 + j)) (th := nw (18 + j)) (ag := nw (30 + j)) (nm := nI j) 17 (bdO 1 (nw (6 + j))) (A 7, 0) (tr, 0) ⟨rfl, fun k hk => absurd hk (by show ¬ k < 0; omega)⟩
          have hS2 := hS.str (g := nw) hs.2
          refine r_iret hK rfl rfl d_M_ask_60 ?_
          rw [hs.1]
          exact hQ _ ⟨_, _, _, hM, hS2⟩ hF
        · skip
          have hd := bI_n0.mp h44
          have e23 : bdO 1 (nw (6 + j)) = 23 := by
            rcases hO.mp hd with e | e | ⟨e, -⟩ | ⟨-, e⟩
            · exact absurd e (by decide)
            · rw [← e]; decide
            · exact absurd e (by decide)
            · rw [e]; decide
          rw [e23] at hQ
          refine r_aload_n hK d_M_ask_47 rfl ?_
          refine r_iload_n hK d_M_ask_48 rfl ?_
          refine r_v1 (k' := 7) hK lm_M_274 d_M_ask_49 ⟨_, hM.1⟩ (by decide) (Nat.le_of_ble_eq_true rfl) ?_
          refine c_M_noteMark (D := 11) (j := j) (t := (A 7, 0)) hT (Nat.zero_le _) hV hj (fun G49 hM f49 => kc_s ?_)
          have hF := f23.tr f49
          have hs := bg_sm (k := nw (6 + j)) (th := nw (18 + j)) (ag := nw (30 + j)) (nm := nI j) 17 23 (A 7, 0) (tr, 0) ⟨rfl, fun k hk => absurd hk (by show ¬ k < 0; omega)⟩
          have hS2 := hS.str (g := nw) hs.2
          refine r_goto (tgt := 60) hK d_M_ask_52 rfl ?_
          refine r_iret hK rfl rfl d_M_ask_60 ?_
          rw [hs.1]
          exact hQ _ ⟨_, _, _, hM, hS2⟩ hF
      · skip
        subst h27
        refine r_aload_n hK d_M_ask_30 rfl ?_
        refine r_iload_n hK d_M_ask_31 rfl ?_
        refine r_v1 (k' := 6) hK lm_M_271 d_M_ask_32 ⟨_, hM.1⟩ (by decide) (Nat.le_of_ble_eq_true rfl) ?_
        refine c_M_sizeOf (D := 12) (j := j) (t := (A 7, 0)) hT (Nat.zero_le _) hV hj (fun G32 hM f32 => kc_s ?_)
        have hF := f23.tr f32
        have hs := bg_sm (k := nw (6 + j)) (th := nw (18 + j)) (ag := nw (30 + j)) (nm := nI j) 17 (bdO 0 (nw (6 + j))) (A 7, 0) (tr, 0) ⟨rfl, fun k hk => absurd hk (by show ¬ k < 0; omega)⟩
        have hS2 := hS.str (g := nw) hs.2
        refine r_goto (tgt := 60) hK d_M_ask_35 rfl ?_
        refine r_iret hK rfl rfl d_M_ask_60 ?_
        rw [hs.1]
        exact hQ _ ⟨_, _, _, hM, hS2⟩ hF
    · skip
      have hc := bI_0.mp h15
      rw [opAsk, if_neg (by simp [hc])] at hQ
      refine r_ldc hK d_M_ask_18 lc_M_55 ?_
      refine r_iret hK rfl rfl d_M_ask_20 ?_
      exact hQ _ ⟨_, _, _, hM, hS⟩ Frm.rf
theorem c_M_trace {E : gX} {S : Nat} {G : gG} {Q : Option Value → gG → Prop} {c : Nat} {f w : Nat → Int32} {A : Nat → Nat → Int32} {st : Bool} {nw : Nat → Int32} {ac : Nat → Nat → Int32} {na : Nat} {ik : Nat → Bool} {im : Nat → Nat → Int32} {rp : Nat → Bool} {rl : Nat → Int32} {rs : Nat → Nat} {ri : Nat → Nat → Int32} {tp : Nat → Int32} {tn : Nat} {lf : Int32} {fd : Int32} {tr : Nat → Int32} {un : Nat} (hM : MV G c f w A) (hS : MS f w A (st, nw, ac, na, ik, im, rp, rl, rs, ri, tp, tn, lf, fd, tr, un)) (hI : MI (st, nw, ac, na, ik, im, rp, rl, rs, ri, tp, tn, lf, fd, tr, un)) {i : Int32} (hQ : ∀ G' : gG, MR G' c (opTrace (st, nw, ac, na, ik, im, rp, rl, rs, ri, tp, tn, lf, fd, tr, un) i).2 → Frm G G' c 10 → Q (some (.int (opTrace (st, nw, ac, na, ik, im, rp, rl, rs, ri, tp, tn, lf, fd, tr, un) i).1)) G') : Runs E y_M_trace 2 0 S [.ref c, .int i] G Q := by
  refine Runs.of "ClockPostModel" [some (.ref c), some (.int i)] cw_M_trace (by decide) (by decide +kernel) rfl (Nat.le_of_ble_eq_true rfl) rfl (fun K hK => ?_)
  obtain ⟨w0, hw0⟩ : ∃ x, w = putT x 0 nw := ⟨_, hS.t0⟩
  subst hw0
  obtain ⟨n, hV⟩ := hI.1
  have h6 := hV.1
  have hz0 : putT w0 0 nw 0 = nI n := (hS.2.2.2.2.2.2.1 0 (by omega)).trans hV.2.1
  refine r_iload_n hK d_M_trace_0 rfl ?_
  refine r_i2l hK d_M_trace_1 ?_
  refine r_lconst (v := 0) hK d_M_trace_2 rfl ?_
  refine r_aload_n hK d_M_trace_3 rfl ?_
  refine r_get hK lf_M_247 d_M_trace_4 (hM.1) rfl ?_
  rw [hS.2.2.2.2.2.1]
  refine r_iconst hK d_M_trace_7 kc_1 ?_
  refine r_isub hK d_M_trace_8 ?_
  refine r_i2l hK d_M_trace_9 ?_
  refine r_s3 (k' := 1) hK lm_M_45 d_M_trace_10 (by decide) (Nat.le_of_ble_eq_true rfl) ?_
  refine c_M_in (a := 0) (b := nI un - 1) (by decide) rfl (kc_s ?_)
  refine r_if_eq (tgt := 25) hK d_M_trace_13 rfl (fun h13 => ?_) (fun h13 => ?_)
  · skip
    have hb := bI_0.mp h13
    rw [opTrace, if_neg (by simp [hb])] at hQ
    refine r_ldc hK d_M_trace_25 lc_M_147 ?_
    refine r_iret hK rfl rfl d_M_trace_27 ?_
    exact hQ _ ⟨_, _, _, hM, hS⟩ Frm.rf
  · skip
    have hb := bI_n0.mp h13
    rw [opTrace, if_pos hb] at hQ
    have hun := hI.2.2.2.2.2.2.1
    obtain ⟨j, hj, rfl⟩ := inB_u (by omega) hb
    rw [nN_nI (by omega), ← hS.2.2.2.2.2.2.2.2.2.2.2.2.2 j hj] at hQ
    refine r_aload_n hK d_M_trace_16 rfl ?_
    refine r_get hK lf_M_29 d_M_trace_17 (hM.1) rfl ?_
    refine r_iload_n hK d_M_trace_20 rfl ?_
    refine g_a7 (j := j) hK d_M_trace_21 hM (rfl) (by omega) ?_
    refine r_goto (tgt := 27) hK d_M_trace_22 rfl ?_
    refine r_iret hK rfl rfl d_M_trace_27 ?_
    exact hQ _ ⟨_, _, _, hM, hS⟩ Frm.rf
