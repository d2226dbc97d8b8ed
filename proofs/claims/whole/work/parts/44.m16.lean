theorem MS.fe {f f' w : Nat → Int32} {A : Nat → Nat → Int32} {st : Bool} {nw : Nat → Int32} {ac : Nat → Nat → Int32} {na : Nat} {ik : Nat → Bool} {im : Nat → Nat → Int32} {rp : Nat → Bool} {rl : Nat → Int32} {rs : Nat → Nat} {ri : Nat → Nat → Int32} {tp : Nat → Int32} {tn : Nat} {lf : Int32} {fd : Int32} {tr : Nat → Int32} {un : Nat} (h : MS f w A (st, nw, ac, na, ik, im, rp, rl, rs, ri, tp, tn, lf, fd, tr, un)) (hf : fE f f') : MS f' w A (st, nw, ac, na, ik, im, rp, rl, rs, ri, tp, tn, lf, fd, tr, un) := ⟨(hf 1 (by omega) (by omega) (by omega)).trans h.1, (hf 2 (by omega) (by omega) (by omega)).trans h.2.1, (hf 8 (by omega) (by omega) (by omega)).trans h.2.2.1, (hf 9 (by omega) (by omega) (by omega)).trans h.2.2.2.1, (hf 10 (by omega) (by omega) (by omega)).trans h.2.2.2.2.1, (hf 12 (by omega) (by omega) (by omega)).trans h.2.2.2.2.2.1, h.2.2.2.2.2.2⟩
theorem MS.st0 {f w : Nat → Int32} {A : Nat → Nat → Int32} {st : Bool} {nw : Nat → Int32} {ac : Nat → Nat → Int32} {na : Nat} {ik : Nat → Bool} {im : Nat → Nat → Int32} {rp : Nat → Bool} {rl : Nat → Int32} {rs : Nat → Nat} {ri : Nat → Nat → Int32} {tp : Nat → Int32} {tn : Nat} {lf : Int32} {fd : Int32} {tr : Nat → Int32} {un : Nat} (h : MS f w A (st, nw, ac, na, ik, im, rp, rl, rs, ri, tp, tn, lf, fd, tr, un)) : MS (upd f 8 0) w A (st, nw, ac, na, ik, im, rp, rl, rs, ri, tp, 0, lf, fd, tr, un) := ⟨by rw [upd_n (by omega)]; exact h.1, by rw [upd_n (by omega)]; exact h.2.1, upd_s, by rw [upd_n (by omega)]; exact h.2.2.2.1, by rw [upd_n (by omega)]; exact h.2.2.2.2.1, by rw [upd_n (by omega)]; exact h.2.2.2.2.2.1, h.2.2.2.2.2.2.1, h.2.2.2.2.2.2.2.1, h.2.2.2.2.2.2.2.2.1, h.2.2.2.2.2.2.2.2.2.1, h.2.2.2.2.2.2.2.2.2.2.1, h.2.2.2.2.2.2.2.2.2.2.2.1, fun k hk => absurd hk (by omega), h.2.2.2.2.2.2.2.2.2.2.2.2.2⟩
theorem MS.slf {f w : Nat → Int32} {A : Nat → Nat → Int32} {st : Bool} {nw : Nat → Int32} {ac : Nat → Nat → Int32} {na : Nat} {ik : Nat → Bool} {im : Nat → Nat → Int32} {rp : Nat → Bool} {rl : Nat → Int32} {rs : Nat → Nat} {ri : Nat → Nat → Int32} {tp : Nat → Int32} {tn : Nat} {lf : Int32} {fd : Int32} {tr : Nat → Int32} {un : Nat} {x : Int32} (h : MS f w A (st, nw, ac, na, ik, im, rp, rl, rs, ri, tp, tn, lf, fd, tr, un)) : MS (upd f 9 x) w A (st, nw, ac, na, ik, im, rp, rl, rs, ri, tp, tn, x, fd, tr, un) := ⟨by rw [upd_n (by omega)]; exact h.1, by rw [upd_n (by omega)]; exact h.2.1, by rw [upd_n (by omega)]; exact h.2.2.1, upd_s, by rw [upd_n (by omega)]; exact h.2.2.2.2.1, by rw [upd_n (by omega)]; exact h.2.2.2.2.2.1, h.2.2.2.2.2.2⟩
theorem MS.sst {f w : Nat → Int32} {A : Nat → Nat → Int32} {st : Bool} {nw : Nat → Int32} {ac : Nat → Nat → Int32} {na : Nat} {ik : Nat → Bool} {im : Nat → Nat → Int32} {rp : Nat → Bool} {rl : Nat → Int32} {rs : Nat → Nat} {ri : Nat → Nat → Int32} {tp : Nat → Int32} {tn : Nat} {lf : Int32} {fd : Int32} {tr : Nat → Int32} {un : Nat} (h : MS f w A (st, nw, ac, na, ik, im, rp, rl, rs, ri, tp, tn, lf, fd, tr, un)) : MS (upd f 1 1) w A (true, nw, ac, na, ik, im, rp, rl, rs, ri, tp, tn, lf, fd, tr, un) := ⟨upd_s, by rw [upd_n (by omega)]; exact h.2.1, by rw [upd_n (by omega)]; exact h.2.2.1, by rw [upd_n (by omega)]; exact h.2.2.2.1, by rw [upd_n (by omega)]; exact h.2.2.2.2.1, by rw [upd_n (by omega)]; exact h.2.2.2.2.2.1, h.2.2.2.2.2.2⟩
theorem pw_1 : ∀ n, n ≤ 6 → (1 <<< (nI n &&& 31)) - 1 = nI (2 ^ n - 1) := by decide +kernel
theorem c_M_house {E : gX} {S : Nat} {G : gG} {Q : Option Value → gG → Prop} {c : Nat} {f w : Nat → Int32} {A : Nat → Nat → Int32} {st : Bool} {nw : Nat → Int32} {ac : Nat → Nat → Int32} {na : Nat} {ik : Nat → Bool} {im : Nat → Nat → Int32} {rp : Nat → Bool} {rl : Nat → Int32} {rs : Nat → Nat} {ri : Nat → Nat → Int32} {tp : Nat → Int32} {tn : Nat} {lf : Int32} {fd : Int32} {tr : Nat → Int32} {un : Nat} (hM : MV G c f w A) (hS : MS f w A (st, nw, ac, na, ik, im, rp, rl, rs, ri, tp, tn, lf, fd, tr, un)) (hI : MI (st, nw, ac, na, ik, im, rp, rl, rs, ri, tp, tn, lf, fd, tr, un)) (hQ : ∀ G' : gG, MR G' c (opHouse (st, nw, ac, na, ik, im, rp, rl, rs, ri, tp, tn, lf, fd, tr, un)).2 → Frm G G' c 10 → Q (some (.int (opHouse (st, nw, ac, na, ik, im, rp, rl, rs, ri, tp, tn, lf, fd, tr, un)).1)) G') : Runs E y_M_house 6 0 S [.ref c] G Q := by
  refine Runs.of "ClockPostModel" [some (.ref c), none] cw_M_house (by decide) (by decide +kernel) rfl (Nat.le_of_ble_eq_true rfl) rfl (fun K hK => ?_)
  refine r_aload_n hK d_M_house_0 rfl ?_
  refine r_v0 (k' := 5) hK lm_M_119 d_M_house_1 ⟨_, hM.1⟩ (by decide) (Nat.le_of_ble_eq_true rfl) ?_
  refine c_M_reads (m := tn) (tp := tp) hM hS.2.2.1 hI.2.2.2.2.2.1 hS.2.2.2.2.2.2.2.2.2.2.2.2.1 hI.2.2.2.2.2.2.2.1 (fun G1 f1 u1 hP hE hw hR hF => kc_s ?_)
  obtain ⟨hM, h8l, h13, hp, hm, hT, hTb⟩ := hP
  refine st_in_1_2 hK d_M_house_4 trivial ?_
  refine r_aload_n hK d_M_house_5 rfl ?_
  refine r_iconst hK d_M_house_6 kc_0 ?_
  refine p_M_length hK lf_M_73 d_M_house_7 hM (fun G7 hM f7 => ?_)
  have hF := hF.tr f7
  have hS1 := ((hS.sT (u := u1) hI.2.2.2.1).fe hE).st0
  refine r_iload_n hK d_M_house_10 rfl ?_
  refine r_if_ne (tgt := 30) hK d_M_house_11 rfl (fun h11 => ?_) (fun h11 => ?_)
  · skip
    have hc : (rAll tp tn zV).1 = 0 := zB_t.mp (bI_n0.mp h11)
    rw [opHouse, if_pos hc] at hQ
    obtain ⟨n, hR⟩ := hR hc
    have hn6 := hR.1
    refine r_aload_n hK d_M_house_30 rfl ?_
    refine r_get hK lf_M_7 d_M_house_31 (hM.1) rfl ?_
    refine r_sipush hK d_M_house_34 ks_975 ?_
    refine r_iconst hK d_M_house_37 kc_1 ?_
    refine r_aload_n hK d_M_house_38 rfl ?_
    refine r_get hK lf_M_7 d_M_house_39 (hM.1) rfl ?_
    refine r_sipush hK d_M_house_42 ks_972 ?_
    refine g_tw (B := 972) (j := 0) hK d_M_house_45 hM ((show _ = nI (972 + 0) from rfl)) (by omega) (by omega) ?_
    rw [hR.2.1]
    refine r_ishl hK d_M_house_46 ?_
    refine r_iconst hK d_M_house_47 kc_1 ?_
    refine r_isub hK d_M_house_48 ?_
    rw [pw_1 n hn6]
    refine s_tw (B := 972) (j := 3) hK d_M_house_49 hM ((show _ = nI (972 + 3) from rfl)) (by omega) (by omega) (fun G49 hM f49 => ?_)
    have hF := hF.tr f49
    refine r_aload_n hK d_M_house_50 rfl ?_
    refine r_sipush hK d_M_house_51 ks_972 ?_
    refine r_iconst hK d_M_house_54 kc_0 ?_
    refine r_v2 (k' := 1) hK lm_M_126 d_M_house_55 ⟨_, hM.1⟩ (by decide) (Nat.le_of_ble_eq_true rfl) ?_
    refine c_M_copyTown (a := 972) (b := 0) hM (by omega) (by omega) (by omega) (fun G55 hM f55 => kc_n ?_)
    have hF := hF.tr f55
    rw [putT_cg (v := tw (putT w 972 (upd u1 3 (nI (2 ^ n - 1)))) 972) (u := (rAll tp tn zV).2.2) (fun k hk => by
      rw [tw_put k hk]
      by_cases e : k = 3
      · subst e; rw [upd_s]; exact hR.2.2.2.2.2.1.symm
      · rw [upd_n e]; exact hR.2.2.2.1 k hk e)] at hM
    have hS2 := ((((hS.sT (u := upd u1 3 (nI (2 ^ n - 1))) hI.2.2.2.1).fe hE).st0).sN (u := (rAll tp tn zV).2.2)).sst.sna (m := 0) (by omega)
    refine r_aload_n hK d_M_house_58 rfl ?_
    refine r_iconst hK d_M_house_59 kc_1 ?_
    refine p_M_isHouse hK lf_M_130 d_M_house_60 hM rfl rfl (fun G60 hM f60 => ?_)
    have hF := hF.tr f60
    refine r_aload_n hK d_M_house_63 rfl ?_
    refine r_iconst hK d_M_house_64 kc_0 ?_
    refine p_M_undos hK lf_M_134 d_M_house_65 hM (fun G65 hM f65 => ?_)
    have hF := hF.tr f65
    refine r_aload_n hK d_M_house_68 rfl ?_
    refine r_get hK lf_M_7 d_M_house_69 (hM.1) rfl ?_
    refine r_iconst hK d_M_house_72 kc_0 ?_
    refine g_tw (B := 0) (j := 0) hK d_M_house_73 hM ((show _ = nI (0 + 0) from rfl)) (by omega) (by omega) ?_
    refine r_iret hK rfl rfl d_M_house_74 ?_
    exact hQ _ ⟨_, _, _, hM, hS2⟩ hF
  · skip
    have hc : ¬ (rAll tp tn zV).1 = 0 := zB_f.mp (bI_0.mp h11)
    rw [opHouse, if_neg hc] at hQ
    refine r_aload_n hK d_M_house_14 rfl ?_
    refine r_aload_n hK d_M_house_15 rfl ?_
    refine r_get hK lf_M_84 d_M_house_16 (hM.1) rfl ?_
    rw [upd_n (by omega), hw hc]
    refine p_M_fault hK lf_M_122 d_M_house_19 hM (fun G19 hM f19 => ?_)
    have hF := hF.tr f19
    refine r_ldc hK d_M_house_22 lc_M_125 ?_
    refine r_aload_n hK d_M_house_24 rfl ?_
    refine r_get hK lf_M_77 d_M_house_25 (hM.1) rfl ?_
    rw [upd_n (by omega), upd_n (by omega), h13]
    refine r_isub hK d_M_house_28 ?_
    refine r_iret hK rfl rfl d_M_house_29 ?_
    exact hQ _ ⟨_, _, _, hM, hS1.slf⟩ hF
