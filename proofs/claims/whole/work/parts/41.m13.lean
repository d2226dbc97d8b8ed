
theorem c_M_readsLaw {E : gX} {S : Nat} {G : gG} {Q : Option Value → gG → Prop} {c m p : Nat} {f w u tp : Nat → Int32} {A : Nat → Nat → Int32} (hP : PM G c f (putT w 972 u) A tp m p) (hQ : ∀ (G' : gG) (f' u' : Nat → Int32), PM G' c f' (putT w 972 u') A tp m ((rLaw tp m p u).2.1) → fE f f' → (¬ (rLaw tp m p u).1 = 0 → f' 14 = (rLaw tp m p u).1) → ((rLaw tp m p u).1 = 0 → u' = (rLaw tp m p u).2.2) → Frm G G' c 10 → Q (some (.int (bI (zB ((rLaw tp m p u).1))))) G') : Runs E y_M_readsLaw 4 0 S [.ref c] G Q := by
  refine Runs.of "ClockPostModel" [some (.ref c)] cw_M_readsLaw (by decide) (by decide +kernel) rfl (Nat.le_of_ble_eq_true rfl) rfl (fun K hK => ?_)
  refine r_aload_n hK d_M_readsLaw_0 rfl ?_
  refine r_bipush hK d_M_readsLaw_1 kb_99 ?_
  refine r_v1 (k' := 2) hK lm_M_99 d_M_readsLaw_3 ⟨_, hP.1.1⟩ (by decide) (Nat.le_of_ble_eq_true rfl) ?_
  refine c_M_sign (x := 99) hP (by decide) (fun G3 f3 hP e3 w3 g3 => kc_s ?_)
  have hE := e3
  have hF := g3
  refine r_if_eq (tgt := 19) hK d_M_readsLaw_6 rfl (fun h6 => ?_) (fun h6 => ?_)
  · skip
    have z6 := zB_f.mp (bI_0.mp h6)
    have hE9 := w3
    rw [rLaw, if_pos z6] at hQ
    refine r_iconst hK d_M_readsLaw_19 kc_0 ?_
    refine r_zret hK rfl (rfl) rfl d_M_readsLaw_20 ?_
    first | exact rc (hQ _ _ _ hP hE (fun _ => w3 z6) (fun q => absurd q z6) hF) (zB_0 z6) | exact rc (hQ _ _ _ hP hE (fun _ => w13 z16) (fun q => absurd q z16) hF) (zB_0 z16)
  · skip
    have z6 := zB_t.mp (bI_n0.mp h6)
    rw [rLaw, if_neg (fun q => q z6)] at hQ
    refine r_aload_n hK d_M_readsLaw_9 rfl ?_
    refine r_iconst hK d_M_readsLaw_10 kc_1 ?_
    refine r_bipush hK d_M_readsLaw_11 kb_30 ?_
    refine r_v2 (k' := 3) hK lm_M_102 d_M_readsLaw_13 ⟨_, hP.1.1⟩ (by decide) (Nat.le_of_ble_eq_true rfl) ?_
    refine c_M_readsNumber (lo := 1) (hi := 30) hP (fun G13 f13 hP e13 w13 n13 g13 => kc_s ?_)
    have hE := hE.tr e13
    have hF := hF.tr g13
    refine r_if_ne (tgt := 21) hK d_M_readsLaw_16 rfl (fun h16 => ?_) (fun h16 => ?_)
    · skip
      have z16 := zB_t.mp (bI_n0.mp h16)
      rw [if_neg (fun q => q z16)] at hQ
      refine r_aload_n hK d_M_readsLaw_21 rfl ?_
      obtain ⟨hM, h8l, h13, hp, hm, hT, hTb⟩ := hP
      refine r_get hK lf_M_7 d_M_readsLaw_22 (hM.1) rfl ?_
      refine r_sipush hK d_M_readsLaw_25 ks_973 ?_
      refine r_aload_n hK d_M_readsLaw_28 rfl ?_
      refine r_get hK lf_M_96 d_M_readsLaw_29 (hM.1) rfl ?_
      rw [n13 z16]
      refine s_tw (B := 972) (j := 1) hK d_M_readsLaw_32 hM ((show _ = nI (972 + 1) from rfl)) (by omega) (by omega) (fun G32 hM f32 => ?_)
      have hF := hF.tr f32
      have hP := (⟨hM, h8l, h13, hp, hm, hT, hTb⟩ : PM G32 c f13 (putT w 972 (upd u 1 _)) A tp m _)
      refine r_aload_n hK d_M_readsLaw_33 rfl ?_
      refine r_bipush hK d_M_readsLaw_34 kb_59 ?_
      refine r_v1 (k' := 2) hK lm_M_99 d_M_readsLaw_36 ⟨_, hP.1.1⟩ (by decide) (Nat.le_of_ble_eq_true rfl) ?_
      refine c_M_sign (x := 59) hP (by decide) (fun G36 f36 hP e36 w36 g36 => kc_s ?_)
      have hE := hE.tr e36
      have hF := hF.tr g36
      refine r_zret hK rfl (bI_nar _) rfl d_M_readsLaw_39 ?_
      exact hQ _ _ _ hP hE w36 (fun _ => rfl) hF
    · skip
      have z16 := zB_f.mp (bI_0.mp h16)
      have hE9 := w13
      rw [if_pos z16] at hQ
      refine r_iconst hK d_M_readsLaw_19 kc_0 ?_
      refine r_zret hK rfl (rfl) rfl d_M_readsLaw_20 ?_
      first | exact rc (hQ _ _ _ hP hE (fun _ => w3 z6) (fun q => absurd q z6) hF) (zB_0 z6) | exact rc (hQ _ _ _ hP hE (fun _ => w13 z16) (fun q => absurd q z16) hF) (zB_0 z16)
