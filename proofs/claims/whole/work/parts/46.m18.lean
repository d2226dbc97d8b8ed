def mA0 : Nat → Nat → Int32 := fun q => if q = 4 then (upd (upd (upd (upd (upd (upd (upd (upd (fun _ => 0) 0 (-1)) 1 (-1)) 2 (-1)) 3 (-1)) 4 (-1)) 5 (-1)) 6 (-1)) 7 (-1)) else fun _ => 0
theorem c_M_init {E : gX} {G : gG} {Q : Option Value → gG → Prop} {c : Nat} (hB : G c = some (.inr (8, [.null, .int 0, .int 0, .null, .null, .null, .null, .null, .int 0, .int 0, .int 0, .null, .int 0, .int 0, .int 0, .int 0, .null, .null]))) (hQ : ∀ G' : gG, MV G' c (fun _ => 0) (fun _ => 0) mA0 → Frm G G' c 10 → Q none G') : RunsI E y_M_init 2 9 (c + 1) [.ref c] G Q := by
  refine RunsI.of "ClockPostModel" [some (.ref c)] cw_M_init (by decide) (by decide +kernel) rfl (Nat.le_of_ble_eq_true rfl) rfl (fun K hK => ?_)
  have hF : Frm G G c 10 := Frm.rf
  refine r_aload_n hK d_M_init_0 rfl ?_
  refine r_obj hK wo_M_1 (by decide) (Nat.le_of_ble_eq_true rfl) d_M_init_1 ?_
  refine r_aload_n hK d_M_init_4 rfl ?_
  refine r_sipush hK d_M_init_5 ks_1008 ?_
  show K _ _ _ (c + 1) _
  refine r_newi (N := 1008) hK (by decide) (by decide) (by decide) (by omega) d_M_init_8 ?_
  obtain ⟨G8, eG8⟩ : ∃ x, x = gup G (c + 1) (.inl (0, 1008, .inl (fun _ => 0))) := ⟨_, rfl⟩
  show K _ _ _ (c + 1 + 1) (gup G (c + 1) (.inl (0, 1008, .inl (fun _ => 0))))
  rw [← eG8]
  have qG8 : Frm G G8 (c + 1) 1 := by rw [eG8]; exact Frm.up (by omega) (by omega)
  have hF := hF.tr (qG8.mono (show c ≤ c + 1 by omega) (show c + 1 + 1 ≤ c + 10 by omega))
  have hB := (qG8 c (by omega)).trans hB
  have a1 : G8 (c + 1) = some (.inl (0, 1008, .inl (fun _ => 0))) := by rw [eG8]; exact gup_s
  refine r_putF hK lf_M_7 rfl ⟨_, rfl, rfl⟩ d_M_init_10 (hB) rfl rfl (Nat.le_of_ble_eq_true rfl) ?_
  obtain ⟨G10, eG10⟩ : ∃ x, x = gup G8 c (.inr (8, [.ref (c + 1), .int 0, .int 0, .null, .null, .null, .null, .null, .int 0, .int 0, .int 0, .null, .int 0, .int 0, .int 0, .int 0, .null, .null])) := ⟨_, rfl⟩
  show K _ _ _ _ (gup G8 c (.inr (8, [.ref (c + 1), .int 0, .int 0, .null, .null, .null, .null, .null, .int 0, .int 0, .int 0, .null, .int 0, .int 0, .int 0, .int 0, .null, .null])))
  rw [← eG10]
  have qG10 : Frm G8 G10 c 1 := by rw [eG10]; exact Frm.up (by omega) (by omega)
  have hB : G10 c = some (.inr (8, [.ref (c + 1), .int 0, .int 0, .null, .null, .null, .null, .null, .int 0, .int 0, .int 0, .null, .int 0, .int 0, .int 0, .int 0, .null, .null])) := by rw [eG10]; exact gup_s
  have hF := hF.tr (qG10.mono (show c ≤ c by omega) (show c + 1 ≤ c + 10 by omega))
  have a1 := (qG10 _ (by omega)).trans a1
  refine r_aload_n hK d_M_init_13 rfl ?_
  refine r_iconst hK d_M_init_14 kc_2 ?_
  show K _ _ _ (c + 2) _
  refine r_newz (N := 2) hK (by decide) (by decide) (by decide) (by omega) d_M_init_15 ?_
  obtain ⟨G15, eG15⟩ : ∃ x, x = gup G10 (c + 2) (.inl (1, 2, .inl (fun _ => 0))) := ⟨_, rfl⟩
  show K _ _ _ (c + 2 + 1) (gup G10 (c + 2) (.inl (1, 2, .inl (fun _ => 0))))
  rw [← eG15]
  have qG15 : Frm G10 G15 (c + 2) 1 := by rw [eG15]; exact Frm.up (by omega) (by omega)
  have hF := hF.tr (qG15.mono (show c ≤ c + 2 by omega) (show c + 2 + 1 ≤ c + 10 by omega))
  have hB := (qG15 c (by omega)).trans hB
  have a2 : G15 (c + 2) = some (.inl (1, 2, .inl (fun _ => 0))) := by rw [eG15]; exact gup_s
  have a1 := (qG15 _ (by omega)).trans a1
  refine r_putF hK lf_M_13 rfl ⟨_, rfl, rfl⟩ d_M_init_17 (hB) rfl rfl (Nat.le_of_ble_eq_true rfl) ?_
  obtain ⟨G17, eG17⟩ : ∃ x, x = gup G15 c (.inr (8, [.ref (c + 1), .int 0, .int 0, .ref (c + 2), .null, .null, .null, .null, .int 0, .int 0, .int 0, .null, .int 0, .int 0, .int 0, .int 0, .null, .null])) := ⟨_, rfl⟩
  show K _ _ _ _ (gup G15 c (.inr (8, [.ref (c + 1), .int 0, .int 0, .ref (c + 2), .null, .null, .null, .null, .int 0, .int 0, .int 0, .null, .int 0, .int 0, .int 0, .int 0, .null, .null])))
  rw [← eG17]
  have qG17 : Frm G15 G17 c 1 := by rw [eG17]; exact Frm.up (by omega) (by omega)
  have hB : G17 c = some (.inr (8, [.ref (c + 1), .int 0, .int 0, .ref (c + 2), .null, .null, .null, .null, .int 0, .int 0, .int 0, .null, .int 0, .int 0, .int 0, .int 0, .null, .null])) := by rw [eG17]; exact gup_s
  have hF := hF.tr (qG17.mono (show c ≤ c by omega) (show c + 1 ≤ c + 10 by omega))
  have a1 := (qG17 _ (by omega)).trans a1
  have a2 := (qG17 _ (by omega)).trans a2
  refine r_aload_n hK d_M_init_20 rfl ?_
  refine r_bipush hK d_M_init_21 kb_8 ?_
  show K _ _ _ (c + 3) _
  refine r_newi (N := 8) hK (by decide) (by decide) (by decide) (by omega) d_M_init_23 ?_
  obtain ⟨G23, eG23⟩ : ∃ x, x = gup G17 (c + 3) (.inl (0, 8, .inl (fun _ => 0))) := ⟨_, rfl⟩
  show K _ _ _ (c + 3 + 1) (gup G17 (c + 3) (.inl (0, 8, .inl (fun _ => 0))))
  rw [← eG23]
  have qG23 : Frm G17 G23 (c + 3) 1 := by rw [eG23]; exact Frm.up (by omega) (by omega)
  have hF := hF.tr (qG23.mono (show c ≤ c + 3 by omega) (show c + 3 + 1 ≤ c + 10 by omega))
  have hB := (qG23 c (by omega)).trans hB
  have a3 : G23 (c + 3) = some (.inl (0, 8, .inl (fun _ => 0))) := by rw [eG23]; exact gup_s
  have a1 := (qG23 _ (by omega)).trans a1
  have a2 := (qG23 _ (by omega)).trans a2
  refine r_putF hK lf_M_17 rfl ⟨_, rfl, rfl⟩ d_M_init_25 (hB) rfl rfl (Nat.le_of_ble_eq_true rfl) ?_
  obtain ⟨G25, eG25⟩ : ∃ x, x = gup G23 c (.inr (8, [.ref (c + 1), .int 0, .int 0, .ref (c + 2), .ref (c + 3), .null, .null, .null, .int 0, .int 0, .int 0, .null, .int 0, .int 0, .int 0, .int 0, .null, .null])) := ⟨_, rfl⟩
  show K _ _ _ _ (gup G23 c (.inr (8, [.ref (c + 1), .int 0, .int 0, .ref (c + 2), .ref (c + 3), .null, .null, .null, .int 0, .int 0, .int 0, .null, .int 0, .int 0, .int 0, .int 0, .null, .null])))
  rw [← eG25]
  have qG25 : Frm G23 G25 c 1 := by rw [eG25]; exact Frm.up (by omega) (by omega)
  have hB : G25 c = some (.inr (8, [.ref (c + 1), .int 0, .int 0, .ref (c + 2), .ref (c + 3), .null, .null, .null, .int 0, .int 0, .int 0, .null, .int 0, .int 0, .int 0, .int 0, .null, .null])) := by rw [eG25]; exact gup_s
  have hF := hF.tr (qG25.mono (show c ≤ c by omega) (show c + 1 ≤ c + 10 by omega))
  have a1 := (qG25 _ (by omega)).trans a1
  have a2 := (qG25 _ (by omega)).trans a2
  have a3 := (qG25 _ (by omega)).trans a3
  refine r_aload_n hK d_M_init_28 rfl ?_
  refine r_bipush hK d_M_init_29 kb_8 ?_
  show K _ _ _ (c + 4) _
  refine r_newi (N := 8) hK (by decide) (by decide) (by decide) (by omega) d_M_init_31 ?_
  obtain ⟨G31, eG31⟩ : ∃ x, x = gup G25 (c + 4) (.inl (0, 8, .inl (fun _ => 0))) := ⟨_, rfl⟩
  show K _ _ _ (c + 4 + 1) (gup G25 (c + 4) (.inl (0, 8, .inl (fun _ => 0))))
  rw [← eG31]
  have qG31 : Frm G25 G31 (c + 4) 1 := by rw [eG31]; exact Frm.up (by omega) (by omega)
  have hF := hF.tr (qG31.mono (show c ≤ c + 4 by omega) (show c + 4 + 1 ≤ c + 10 by omega))
  have hB := (qG31 c (by omega)).trans hB
  have a4 : G31 (c + 4) = some (.inl (0, 8, .inl (fun _ => 0))) := by rw [eG31]; exact gup_s
  have a1 := (qG31 _ (by omega)).trans a1
  have a2 := (qG31 _ (by omega)).trans a2
  have a3 := (qG31 _ (by omega)).trans a3
  refine r_dup hK d_M_init_33 rfl ?_
  refine r_iconst hK d_M_init_34 kc_0 ?_
  refine r_iconst hK d_M_init_35 kc_m1 ?_
  refine r_iast hK d_M_init_36 a4 (vp_in_nI (n := 0) (N := 8) (by omega) (by omega)) ?_
  obtain ⟨G36, eG36⟩ : ∃ x, x = gup G31 (c + 4) (.inl (0, 8, .inl (upd (fun _ => 0) 0 (-1)))) := ⟨_, rfl⟩
  show K _ _ _ _ (gup G31 (c + 4) (.inl (0, 8, .inl (upd (fun _ => 0) 0 (-1)))))
  rw [← eG36]
  have qG36 : Frm G31 G36 (c + 4) 1 := by rw [eG36]; exact Frm.up (by omega) (by omega)
  have hF := hF.tr (qG36.mono (show c ≤ c + 4 by omega) (show c + 4 + 1 ≤ c + 10 by omega))
  have hB := (qG36 c (by omega)).trans hB
  have a4 : G36 (c + 4) = some (.inl (0, 8, .inl (upd (fun _ => 0) 0 (-1)))) := by rw [eG36]; exact gup_s
  have a1 := (qG36 _ (by omega)).trans a1
  have a2 := (qG36 _ (by omega)).trans a2
  have a3 := (qG36 _ (by omega)).trans a3
  refine r_dup hK d_M_init_37 rfl ?_
  refine r_iconst hK d_M_init_38 kc_1 ?_
  refine r_iconst hK d_M_init_39 kc_m1 ?_
  refine r_iast hK d_M_init_40 a4 (vp_in_nI (n := 1) (N := 8) (by omega) (by omega)) ?_
  obtain ⟨G40, eG40⟩ : ∃ x, x = gup G36 (c + 4) (.inl (0, 8, .inl (upd (upd (fun _ => 0) 0 (-1)) 1 (-1)))) := ⟨_, rfl⟩
  show K _ _ _ _ (gup G36 (c + 4) (.inl (0, 8, .inl (upd (upd (fun _ => 0) 0 (-1)) 1 (-1)))))
  rw [← eG40]
  have qG40 : Frm G36 G40 (c + 4) 1 := by rw [eG40]; exact Frm.up (by omega) (by omega)
  have hF := hF.tr (qG40.mono (show c ≤ c + 4 by omega) (show c + 4 + 1 ≤ c + 10 by omega))
  have hB := (qG40 c (by omega)).trans hB
  have a4 : G40 (c + 4) = some (.inl (0, 8, .inl (upd (upd (fun _ => 0) 0 (-1)) 1 (-1)))) := by rw [eG40]; exact gup_s
  have a1 := (qG40 _ (by omega)).trans a1
  have a2 := (qG40 _ (by omega)).trans a2
  have a3 := (qG40 _ (by omega)).trans a3
  refine r_dup hK d_M_init_41 rfl ?_
  refine r_iconst hK d_M_init_42 kc_2 ?_
  refine r_iconst hK d_M_init_43 kc_m1 ?_
  refine r_iast hK d_M_init_44 a4 (vp_in_nI (n := 2) (N := 8) (by omega) (by omega)) ?_
  obtain ⟨G44, eG44⟩ : ∃ x, x = gup G40 (c + 4) (.inl (0, 8, .inl (upd (upd (upd (fun _ => 0) 0 (-1)) 1 (-1)) 2 (-1)))) := ⟨_, rfl⟩
  show K _ _ _ _ (gup G40 (c + 4) (.inl (0, 8, .inl (upd (upd (upd (fun _ => 0) 0 (-1)) 1 (-1)) 2 (-1)))))
  rw [← eG44]
  have qG44 : Frm G40 G44 (c + 4) 1 := by rw [eG44]; exact Frm.up (by omega) (by omega)
  have hF := hF.tr (qG44.mono (show c ≤ c + 4 by omega) (show c + 4 + 1 ≤ c + 10 by omega))
  have hB := (qG44 c (by omega)).trans hB
  have a4 : G44 (c + 4) = some (.inl (0, 8, .inl (upd (upd (upd (fun _ => 0) 0 (-1)) 1 (-1)) 2 (-1)))) := by rw [eG44]; exact gup_s
  have a1 := (qG44 _ (by omega)).trans a1
  have a2 := (qG44 _ (by omega)).trans a2
  have a3 := (qG44 _ (by omega)).trans a3
  refine r_dup hK d_M_init_45 rfl ?_
  refine r_iconst hK d_M_init_46 kc_3 ?_
  refine r_iconst hK d_M_init_47 kc_m1 ?_
  refine r_iast hK d_M_init_48 a4 (vp_in_nI (n := 3) (N := 8) (by omega) (by omega)) ?_
  obtain ⟨G48, eG48⟩ : ∃ x, x = gup G44 (c + 4) (.inl (0, 8, .inl (upd (upd (upd (upd (fun _ => 0) 0 (-1)) 1 (-1)) 2 (-1)) 3 (-1)))) := ⟨_, rfl⟩
  show K _ _ _ _ (gup G44 (c + 4) (.inl (0, 8, .inl (upd (upd (upd (upd (fun _ => 0) 0 (-1)) 1 (-1)) 2 (-1)) 3 (-1)))))
  rw [← eG48]
  have qG48 : Frm G44 G48 (c + 4) 1 := by rw [eG48]; exact Frm.up (by omega) (by omega)
  have hF := hF.tr (qG48.mono (show c ≤ c + 4 by omega) (show c + 4 + 1 ≤ c + 10 by omega))
  have hB := (qG48 c (by omega)).trans hB
  have a4 : G48 (c + 4) = some (.inl (0, 8, .inl (upd (upd (upd (upd (fun _ => 0) 0 (-1)) 1 (-1)) 2 (-1)) 3 (-1)))) := by rw [eG48]; exact gup_s
  have a1 := (qG48 _ (by omega)).trans a1
  have a2 := (qG48 _ (by omega)).trans a2
  have a3 := (qG48 _ (by omega)).trans a3
  refine r_dup hK d_M_init_49 rfl ?_
  refine r_iconst hK d_M_init_50 kc_4 ?_
  refine r_iconst hK d_M_init_51 kc_m1 ?_
  refine r_iast hK d_M_init_52 a4 (vp_in_nI (n := 4) (N := 8) (by omega) (by omega)) ?_
  obtain ⟨G52, eG52⟩ : ∃ x, x = gup G48 (c + 4) (.inl (0, 8, .inl (upd (upd (upd (upd (upd (fun _ => 0) 0 (-1)) 1 (-1)) 2 (-1)) 3 (-1)) 4 (-1)))) := ⟨_, rfl⟩
  show K _ _ _ _ (gup G48 (c + 4) (.inl (0, 8, .inl (upd (upd (upd (upd (upd (fun _ => 0) 0 (-1)) 1 (-1)) 2 (-1)) 3 (-1)) 4 (-1)))))
  rw [← eG52]
  have qG52 : Frm G48 G52 (c + 4) 1 := by rw [eG52]; exact Frm.up (by omega) (by omega)
  have hF := hF.tr (qG52.mono (show c ≤ c + 4 by omega) (show c + 4 + 1 ≤ c + 10 by omega))
  have hB := (qG52 c (by omega)).trans hB
  have a4 : G52 (c + 4) = some (.inl (0, 8, .inl (upd (upd (upd (upd (upd (fun _ => 0) 0 (-1)) 1 (-1)) 2 (-1)) 3 (-1)) 4 (-1)))) := by rw [eG52]; exact gup_s
  have a1 := (qG52 _ (by omega)).trans a1
  have a2 := (qG52 _ (by omega)).trans a2
  have a3 := (qG52 _ (by omega)).trans a3
  refine r_dup hK d_M_init_53 rfl ?_
  refine r_iconst hK d_M_init_54 kc_5 ?_
  refine r_iconst hK d_M_init_55 kc_m1 ?_
  refine r_iast hK d_M_init_56 a4 (vp_in_nI (n := 5) (N := 8) (by omega) (by omega)) ?_
  obtain ⟨G56, eG56⟩ : ∃ x, x = gup G52 (c + 4) (.inl (0, 8, .inl (upd (upd (upd (upd (upd (upd (fun _ => 0) 0 (-1)) 1 (-1)) 2 (-1)) 3 (-1)) 4 (-1)) 5 (-1)))) := ⟨_, rfl⟩
  show K _ _ _ _ (gup G52 (c + 4) (.inl (0, 8, .inl (upd (upd (upd (upd (upd (upd (fun _ => 0) 0 (-1)) 1 (-1)) 2 (-1)) 3 (-1)) 4 (-1)) 5 (-1)))))
  rw [← eG56]
  have qG56 : Frm G52 G56 (c + 4) 1 := by rw [eG56]; exact Frm.up (by omega) (by omega)
  have hF := hF.tr (qG56.mono (show c ≤ c + 4 by omega) (show c + 4 + 1 ≤ c + 10 by omega))
  have hB := (qG56 c (by omega)).trans hB
  have a4 : G56 (c + 4) = some (.inl (0, 8, .inl (upd (upd (upd (upd (upd (upd (fun _ => 0) 0 (-1)) 1 (-1)) 2 (-1)) 3 (-1)) 4 (-1)) 5 (-1)))) := by rw [eG56]; exact gup_s
  have a1 := (qG56 _ (by omega)).trans a1
  have a2 := (qG56 _ (by omega)).trans a2
  have a3 := (qG56 _ (by omega)).trans a3
  refine r_dup hK d_M_init_57 rfl ?_
  refine r_bipush hK d_M_init_58 kb_6 ?_
  refine r_iconst hK d_M_init_60 kc_m1 ?_
  refine r_iast hK d_M_init_61 a4 (vp_in_nI (n := 6) (N := 8) (by omega) (by omega)) ?_
  obtain ⟨G61, eG61⟩ : ∃ x, x = gup G56 (c + 4) (.inl (0, 8, .inl (upd (upd (upd (upd (upd (upd (upd (fun _ => 0) 0 (-1)) 1 (-1)) 2 (-1)) 3 (-1)) 4 (-1)) 5 (-1)) 6 (-1)))) := ⟨_, rfl⟩
  show K _ _ _ _ (gup G56 (c + 4) (.inl (0, 8, .inl (upd (upd (upd (upd (upd (upd (upd (fun _ => 0) 0 (-1)) 1 (-1)) 2 (-1)) 3 (-1)) 4 (-1)) 5 (-1)) 6 (-1)))))
  rw [← eG61]
  have qG61 : Frm G56 G61 (c + 4) 1 := by rw [eG61]; exact Frm.up (by omega) (by omega)
  have hF := hF.tr (qG61.mono (show c ≤ c + 4 by omega) (show c + 4 + 1 ≤ c + 10 by omega))
  have hB := (qG61 c (by omega)).trans hB
  have a4 : G61 (c + 4) = some (.inl (0, 8, .inl (upd (upd (upd (upd (upd (upd (upd (fun _ => 0) 0 (-1)) 1 (-1)) 2 (-1)) 3 (-1)) 4 (-1)) 5 (-1)) 6 (-1)))) := by rw [eG61]; exact gup_s
  have a1 := (qG61 _ (by omega)).trans a1
  have a2 := (qG61 _ (by omega)).trans a2
  have a3 := (qG61 _ (by omega)).trans a3
  refine r_dup hK d_M_init_62 rfl ?_
  refine r_bipush hK d_M_init_63 kb_7 ?_
  refine r_iconst hK d_M_init_65 kc_m1 ?_
  refine r_iast hK d_M_init_66 a4 (vp_in_nI (n := 7) (N := 8) (by omega) (by omega)) ?_
  obtain ⟨G66, eG66⟩ : ∃ x, x = gup G61 (c + 4) (.inl (0, 8, .inl (upd (upd (upd (upd (upd (upd (upd (upd (fun _ => 0) 0 (-1)) 1 (-1)) 2 (-1)) 3 (-1)) 4 (-1)) 5 (-1)) 6 (-1)) 7 (-1)))) := ⟨_, rfl⟩
  show K _ _ _ _ (gup G61 (c + 4) (.inl (0, 8, .inl (upd (upd (upd (upd (upd (upd (upd (upd (fun _ => 0) 0 (-1)) 1 (-1)) 2 (-1)) 3 (-1)) 4 (-1)) 5 (-1)) 6 (-1)) 7 (-1)))))
  rw [← eG66]
  have qG66 : Frm G61 G66 (c + 4) 1 := by rw [eG66]; exact Frm.up (by omega) (by omega)
  have hF := hF.tr (qG66.mono (show c ≤ c + 4 by omega) (show c + 4 + 1 ≤ c + 10 by omega))
  have hB := (qG66 c (by omega)).trans hB
  have a4 : G66 (c + 4) = some (.inl (0, 8, .inl (upd (upd (upd (upd (upd (upd (upd (upd (fun _ => 0) 0 (-1)) 1 (-1)) 2 (-1)) 3 (-1)) 4 (-1)) 5 (-1)) 6 (-1)) 7 (-1)))) := by rw [eG66]; exact gup_s
  have a1 := (qG66 _ (by omega)).trans a1
  have a2 := (qG66 _ (by omega)).trans a2
  have a3 := (qG66 _ (by omega)).trans a3
  refine r_putF hK lf_M_20 rfl ⟨_, rfl, rfl⟩ d_M_init_67 (hB) rfl rfl (Nat.le_of_ble_eq_true rfl) ?_
  obtain ⟨G67, eG67⟩ : ∃ x, x = gup G66 c (.inr (8, [.ref (c + 1), .int 0, .int 0, .ref (c + 2), .ref (c + 3), .ref (c + 4), .null, .null, .int 0, .int 0, .int 0, .null, .int 0, .int 0, .int 0, .int 0, .null, .null])) := ⟨_, rfl⟩
  show K _ _ _ _ (gup G66 c (.inr (8, [.ref (c + 1), .int 0, .int 0, .ref (c + 2), .ref (c + 3), .ref (c + 4), .null, .null, .int 0, .int 0, .int 0, .null, .int 0, .int 0, .int 0, .int 0, .null, .null])))
  rw [← eG67]
  have qG67 : Frm G66 G67 c 1 := by rw [eG67]; exact Frm.up (by omega) (by omega)
  have hB : G67 c = some (.inr (8, [.ref (c + 1), .int 0, .int 0, .ref (c + 2), .ref (c + 3), .ref (c + 4), .null, .null, .int 0, .int 0, .int 0, .null, .int 0, .int 0, .int 0, .int 0, .null, .null])) := by rw [eG67]; exact gup_s
  have hF := hF.tr (qG67.mono (show c ≤ c by omega) (show c + 1 ≤ c + 10 by omega))
  have a1 := (qG67 _ (by omega)).trans a1
  have a2 := (qG67 _ (by omega)).trans a2
  have a3 := (qG67 _ (by omega)).trans a3
  have a4 := (qG67 _ (by omega)).trans a4
  refine r_aload_n hK d_M_init_70 rfl ?_
  refine r_sipush hK d_M_init_71 ks_320 ?_
  show K _ _ _ (c + 5) _
  refine r_newi (N := 320) hK (by decide) (by decide) (by decide) (by omega) d_M_init_74 ?_
  obtain ⟨G74, eG74⟩ : ∃ x, x = gup G67 (c + 5) (.inl (0, 320, .inl (fun _ => 0))) := ⟨_, rfl⟩
  show K _ _ _ (c + 5 + 1) (gup G67 (c + 5) (.inl (0, 320, .inl (fun _ => 0))))
  rw [← eG74]
  have qG74 : Frm G67 G74 (c + 5) 1 := by rw [eG74]; exact Frm.up (by omega) (by omega)
  have hF := hF.tr (qG74.mono (show c ≤ c + 5 by omega) (show c + 5 + 1 ≤ c + 10 by omega))
  have hB := (qG74 c (by omega)).trans hB
  have a5 : G74 (c + 5) = some (.inl (0, 320, .inl (fun _ => 0))) := by rw [eG74]; exact gup_s
  have a1 := (qG74 _ (by omega)).trans a1
  have a2 := (qG74 _ (by omega)).trans a2
  have a3 := (qG74 _ (by omega)).trans a3
  have a4 := (qG74 _ (by omega)).trans a4
  refine r_putF hK lf_M_23 rfl ⟨_, rfl, rfl⟩ d_M_init_76 (hB) rfl rfl (Nat.le_of_ble_eq_true rfl) ?_
  obtain ⟨G76, eG76⟩ : ∃ x, x = gup G74 c (.inr (8, [.ref (c + 1), .int 0, .int 0, .ref (c + 2), .ref (c + 3), .ref (c + 4), .ref (c + 5), .null, .int 0, .int 0, .int 0, .null, .int 0, .int 0, .int 0, .int 0, .null, .null])) := ⟨_, rfl⟩
  show K _ _ _ _ (gup G74 c (.inr (8, [.ref (c + 1), .int 0, .int 0, .ref (c + 2), .ref (c + 3), .ref (c + 4), .ref (c + 5), .null, .int 0, .int 0, .int 0, .null, .int 0, .int 0, .int 0, .int 0, .null, .null])))
  rw [← eG76]
  have qG76 : Frm G74 G76 c 1 := by rw [eG76]; exact Frm.up (by omega) (by omega)
  have hB : G76 c = some (.inr (8, [.ref (c + 1), .int 0, .int 0, .ref (c + 2), .ref (c + 3), .ref (c + 4), .ref (c + 5), .null, .int 0, .int 0, .int 0, .null, .int 0, .int 0, .int 0, .int 0, .null, .null])) := by rw [eG76]; exact gup_s
  have hF := hF.tr (qG76.mono (show c ≤ c by omega) (show c + 1 ≤ c + 10 by omega))
  have a1 := (qG76 _ (by omega)).trans a1
  have a2 := (qG76 _ (by omega)).trans a2
  have a3 := (qG76 _ (by omega)).trans a3
  have a4 := (qG76 _ (by omega)).trans a4
  have a5 := (qG76 _ (by omega)).trans a5
  refine r_aload_n hK d_M_init_79 rfl ?_
  refine r_bipush hK d_M_init_80 kb_100 ?_
  show K _ _ _ (c + 6) _
  refine r_newi (N := 100) hK (by decide) (by decide) (by decide) (by omega) d_M_init_82 ?_
  obtain ⟨G82, eG82⟩ : ∃ x, x = gup G76 (c + 6) (.inl (0, 100, .inl (fun _ => 0))) := ⟨_, rfl⟩
  show K _ _ _ (c + 6 + 1) (gup G76 (c + 6) (.inl (0, 100, .inl (fun _ => 0))))
  rw [← eG82]
  have qG82 : Frm G76 G82 (c + 6) 1 := by rw [eG82]; exact Frm.up (by omega) (by omega)
  have hF := hF.tr (qG82.mono (show c ≤ c + 6 by omega) (show c + 6 + 1 ≤ c + 10 by omega))
  have hB := (qG82 c (by omega)).trans hB
  have a6 : G82 (c + 6) = some (.inl (0, 100, .inl (fun _ => 0))) := by rw [eG82]; exact gup_s
  have a1 := (qG82 _ (by omega)).trans a1
  have a2 := (qG82 _ (by omega)).trans a2
  have a3 := (qG82 _ (by omega)).trans a3
  have a4 := (qG82 _ (by omega)).trans a4
  have a5 := (qG82 _ (by omega)).trans a5
  refine r_putF hK lf_M_26 rfl ⟨_, rfl, rfl⟩ d_M_init_84 (hB) rfl rfl (Nat.le_of_ble_eq_true rfl) ?_
  obtain ⟨G84, eG84⟩ : ∃ x, x = gup G82 c (.inr (8, [.ref (c + 1), .int 0, .int 0, .ref (c + 2), .ref (c + 3), .ref (c + 4), .ref (c + 5), .ref (c + 6), .int 0, .int 0, .int 0, .null, .int 0, .int 0, .int 0, .int 0, .null, .null])) := ⟨_, rfl⟩
  show K _ _ _ _ (gup G82 c (.inr (8, [.ref (c + 1), .int 0, .int 0, .ref (c + 2), .ref (c + 3), .ref (c + 4), .ref (c + 5), .ref (c + 6), .int 0, .int 0, .int 0, .null, .int 0, .int 0, .int 0, .int 0, .null, .null])))
  rw [← eG84]
  have qG84 : Frm G82 G84 c 1 := by rw [eG84]; exact Frm.up (by omega) (by omega)
  have hB : G84 c = some (.inr (8, [.ref (c + 1), .int 0, .int 0, .ref (c + 2), .ref (c + 3), .ref (c + 4), .ref (c + 5), .ref (c + 6), .int 0, .int 0, .int 0, .null, .int 0, .int 0, .int 0, .int 0, .null, .null])) := by rw [eG84]; exact gup_s
  have hF := hF.tr (qG84.mono (show c ≤ c by omega) (show c + 1 ≤ c + 10 by omega))
  have a1 := (qG84 _ (by omega)).trans a1
  have a2 := (qG84 _ (by omega)).trans a2
  have a3 := (qG84 _ (by omega)).trans a3
  have a4 := (qG84 _ (by omega)).trans a4
  have a5 := (qG84 _ (by omega)).trans a5
  have a6 := (qG84 _ (by omega)).trans a6
  refine r_aload_n hK d_M_init_87 rfl ?_
  refine r_bipush hK d_M_init_88 kb_16 ?_
  show K _ _ _ (c + 7) _
  refine r_newi (N := 16) hK (by decide) (by decide) (by decide) (by omega) d_M_init_90 ?_
  obtain ⟨G90, eG90⟩ : ∃ x, x = gup G84 (c + 7) (.inl (0, 16, .inl (fun _ => 0))) := ⟨_, rfl⟩
  show K _ _ _ (c + 7 + 1) (gup G84 (c + 7) (.inl (0, 16, .inl (fun _ => 0))))
  rw [← eG90]
  have qG90 : Frm G84 G90 (c + 7) 1 := by rw [eG90]; exact Frm.up (by omega) (by omega)
  have hF := hF.tr (qG90.mono (show c ≤ c + 7 by omega) (show c + 7 + 1 ≤ c + 10 by omega))
  have hB := (qG90 c (by omega)).trans hB
  have a7 : G90 (c + 7) = some (.inl (0, 16, .inl (fun _ => 0))) := by rw [eG90]; exact gup_s
  have a1 := (qG90 _ (by omega)).trans a1
  have a2 := (qG90 _ (by omega)).trans a2
  have a3 := (qG90 _ (by omega)).trans a3
  have a4 := (qG90 _ (by omega)).trans a4
  have a5 := (qG90 _ (by omega)).trans a5
  have a6 := (qG90 _ (by omega)).trans a6
  refine r_putF hK lf_M_29 rfl ⟨_, rfl, rfl⟩ d_M_init_92 (hB) rfl rfl (Nat.le_of_ble_eq_true rfl) ?_
  obtain ⟨G92, eG92⟩ : ∃ x, x = gup G90 c (.inr (8, [.ref (c + 1), .int 0, .int 0, .ref (c + 2), .ref (c + 3), .ref (c + 4), .ref (c + 5), .ref (c + 6), .int 0, .int 0, .int 0, .ref (c + 7), .int 0, .int 0, .int 0, .int 0, .null, .null])) := ⟨_, rfl⟩
  show K _ _ _ _ (gup G90 c (.inr (8, [.ref (c + 1), .int 0, .int 0, .ref (c + 2), .ref (c + 3), .ref (c + 4), .ref (c + 5), .ref (c + 6), .int 0, .int 0, .int 0, .ref (c + 7), .int 0, .int 0, .int 0, .int 0, .null, .null])))
  rw [← eG92]
  have qG92 : Frm G90 G92 c 1 := by rw [eG92]; exact Frm.up (by omega) (by omega)
  have hB : G92 c = some (.inr (8, [.ref (c + 1), .int 0, .int 0, .ref (c + 2), .ref (c + 3), .ref (c + 4), .ref (c + 5), .ref (c + 6), .int 0, .int 0, .int 0, .ref (c + 7), .int 0, .int 0, .int 0, .int 0, .null, .null])) := by rw [eG92]; exact gup_s
  have hF := hF.tr (qG92.mono (show c ≤ c by omega) (show c + 1 ≤ c + 10 by omega))
  have a1 := (qG92 _ (by omega)).trans a1
  have a2 := (qG92 _ (by omega)).trans a2
  have a3 := (qG92 _ (by omega)).trans a3
  have a4 := (qG92 _ (by omega)).trans a4
  have a5 := (qG92 _ (by omega)).trans a5
  have a6 := (qG92 _ (by omega)).trans a6
  have a7 := (qG92 _ (by omega)).trans a7
  refine r_aload_n hK d_M_init_95 rfl ?_
  refine r_bipush hK d_M_init_96 kb_6 ?_
  show K _ _ _ (c + 8) _
  refine r_newi (N := 6) hK (by decide) (by decide) (by decide) (by omega) d_M_init_98 ?_
  obtain ⟨G98, eG98⟩ : ∃ x, x = gup G92 (c + 8) (.inl (0, 6, .inl (fun _ => 0))) := ⟨_, rfl⟩
  show K _ _ _ (c + 8 + 1) (gup G92 (c + 8) (.inl (0, 6, .inl (fun _ => 0))))
  rw [← eG98]
  have qG98 : Frm G92 G98 (c + 8) 1 := by rw [eG98]; exact Frm.up (by omega) (by omega)
  have hF := hF.tr (qG98.mono (show c ≤ c + 8 by omega) (show c + 8 + 1 ≤ c + 10 by omega))
  have hB := (qG98 c (by omega)).trans hB
  have a8 : G98 (c + 8) = some (.inl (0, 6, .inl (fun _ => 0))) := by rw [eG98]; exact gup_s
  have a1 := (qG98 _ (by omega)).trans a1
  have a2 := (qG98 _ (by omega)).trans a2
  have a3 := (qG98 _ (by omega)).trans a3
  have a4 := (qG98 _ (by omega)).trans a4
  have a5 := (qG98 _ (by omega)).trans a5
  have a6 := (qG98 _ (by omega)).trans a6
  have a7 := (qG98 _ (by omega)).trans a7
  refine r_putF hK lf_M_32 rfl ⟨_, rfl, rfl⟩ d_M_init_100 (hB) rfl rfl (Nat.le_of_ble_eq_true rfl) ?_
  obtain ⟨G100, eG100⟩ : ∃ x, x = gup G98 c (.inr (8, [.ref (c + 1), .int 0, .int 0, .ref (c + 2), .ref (c + 3), .ref (c + 4), .ref (c + 5), .ref (c + 6), .int 0, .int 0, .int 0, .ref (c + 7), .int 0, .int 0, .int 0, .int 0, .ref (c + 8), .null])) := ⟨_, rfl⟩
  show K _ _ _ _ (gup G98 c (.inr (8, [.ref (c + 1), .int 0, .int 0, .ref (c + 2), .ref (c + 3), .ref (c + 4), .ref (c + 5), .ref (c + 6), .int 0, .int 0, .int 0, .ref (c + 7), .int 0, .int 0, .int 0, .int 0, .ref (c + 8), .null])))
  rw [← eG100]
  have qG100 : Frm G98 G100 c 1 := by rw [eG100]; exact Frm.up (by omega) (by omega)
  have hB : G100 c = some (.inr (8, [.ref (c + 1), .int 0, .int 0, .ref (c + 2), .ref (c + 3), .ref (c + 4), .ref (c + 5), .ref (c + 6), .int 0, .int 0, .int 0, .ref (c + 7), .int 0, .int 0, .int 0, .int 0, .ref (c + 8), .null])) := by rw [eG100]; exact gup_s
  have hF := hF.tr (qG100.mono (show c ≤ c by omega) (show c + 1 ≤ c + 10 by omega))
  have a1 := (qG100 _ (by omega)).trans a1
  have a2 := (qG100 _ (by omega)).trans a2
  have a3 := (qG100 _ (by omega)).trans a3
  have a4 := (qG100 _ (by omega)).trans a4
  have a5 := (qG100 _ (by omega)).trans a5
  have a6 := (qG100 _ (by omega)).trans a6
  have a7 := (qG100 _ (by omega)).trans a7
  have a8 := (qG100 _ (by omega)).trans a8
  refine r_aload_n hK d_M_init_103 rfl ?_
  refine r_bipush hK d_M_init_104 kb_6 ?_
  show K _ _ _ (c + 9) _
  refine r_newi (N := 6) hK (by decide) (by decide) (by decide) (by omega) d_M_init_106 ?_
  obtain ⟨G106, eG106⟩ : ∃ x, x = gup G100 (c + 9) (.inl (0, 6, .inl (fun _ => 0))) := ⟨_, rfl⟩
  show K _ _ _ (c + 9 + 1) (gup G100 (c + 9) (.inl (0, 6, .inl (fun _ => 0))))
  rw [← eG106]
  have qG106 : Frm G100 G106 (c + 9) 1 := by rw [eG106]; exact Frm.up (by omega) (by omega)
  have hF := hF.tr (qG106.mono (show c ≤ c + 9 by omega) (show c + 9 + 1 ≤ c + 10 by omega))
  have hB := (qG106 c (by omega)).trans hB
  have a9 : G106 (c + 9) = some (.inl (0, 6, .inl (fun _ => 0))) := by rw [eG106]; exact gup_s
  have a1 := (qG106 _ (by omega)).trans a1
  have a2 := (qG106 _ (by omega)).trans a2
  have a3 := (qG106 _ (by omega)).trans a3
  have a4 := (qG106 _ (by omega)).trans a4
  have a5 := (qG106 _ (by omega)).trans a5
  have a6 := (qG106 _ (by omega)).trans a6
  have a7 := (qG106 _ (by omega)).trans a7
  have a8 := (qG106 _ (by omega)).trans a8
  refine r_putF hK lf_M_35 rfl ⟨_, rfl, rfl⟩ d_M_init_108 (hB) rfl rfl (Nat.le_of_ble_eq_true rfl) ?_
  obtain ⟨G108, eG108⟩ : ∃ x, x = gup G106 c (.inr (8, [.ref (c + 1), .int 0, .int 0, .ref (c + 2), .ref (c + 3), .ref (c + 4), .ref (c + 5), .ref (c + 6), .int 0, .int 0, .int 0, .ref (c + 7), .int 0, .int 0, .int 0, .int 0, .ref (c + 8), .ref (c + 9)])) := ⟨_, rfl⟩
  show K _ _ _ _ (gup G106 c (.inr (8, [.ref (c + 1), .int 0, .int 0, .ref (c + 2), .ref (c + 3), .ref (c + 4), .ref (c + 5), .ref (c + 6), .int 0, .int 0, .int 0, .ref (c + 7), .int 0, .int 0, .int 0, .int 0, .ref (c + 8), .ref (c + 9)])))
  rw [← eG108]
  have qG108 : Frm G106 G108 c 1 := by rw [eG108]; exact Frm.up (by omega) (by omega)
  have hB : G108 c = some (.inr (8, [.ref (c + 1), .int 0, .int 0, .ref (c + 2), .ref (c + 3), .ref (c + 4), .ref (c + 5), .ref (c + 6), .int 0, .int 0, .int 0, .ref (c + 7), .int 0, .int 0, .int 0, .int 0, .ref (c + 8), .ref (c + 9)])) := by rw [eG108]; exact gup_s
  have hF := hF.tr (qG108.mono (show c ≤ c by omega) (show c + 1 ≤ c + 10 by omega))
  have a1 := (qG108 _ (by omega)).trans a1
  have a2 := (qG108 _ (by omega)).trans a2
  have a3 := (qG108 _ (by omega)).trans a3
  have a4 := (qG108 _ (by omega)).trans a4
  have a5 := (qG108 _ (by omega)).trans a5
  have a6 := (qG108 _ (by omega)).trans a6
  have a7 := (qG108 _ (by omega)).trans a7
  have a8 := (qG108 _ (by omega)).trans a8
  have a9 := (qG108 _ (by omega)).trans a9
  exact r_vret hK rfl (by omega) d_M_init_111 (hQ _ ⟨hB, a1, a2, a3, a4, a5, a6, a7, a8, a9⟩ hF)
