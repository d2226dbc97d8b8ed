theorem RL.z {x : Int32} : RL (upd zV 1 x) (upd zV 1 x) 0 := ⟨by omega, by rw [upd_n (by omega)]; rfl, by rw [upd_n (by omega)]; rfl, fun _ _ _ => rfl, fun j _ => by rw [upd_n (by omega)]; rfl, by rw [upd_n (by omega)]; rfl, by omega, by rw [upd_n (by omega)]; rfl, ⟨0, by decide, by rw [upd_n (by omega)]; rfl⟩, fun j hj => absurd hj (by omega)⟩
theorem rLaw_RL {tp : Nat → Int32} {m : Nat} (h : (rLaw tp m 0 zV).1 = 0) : RL (rLaw tp m 0 zV).2.2 (rLaw tp m 0 zV).2.2 0 := by
  unfold rLaw at h ⊢
  by_cases a : ¬ (rSign tp m 99 0).1 = 0
  · simp only [if_pos a] at h; exact absurd h a
  · simp only [if_neg a] at h ⊢
    by_cases b : ¬ (rNum tp m 1 30 (rSign tp m 99 0).2).1 = 0
    · simp only [if_pos b] at h; exact absurd h b
    · simp only [if_neg b]; exact RL.z
def zu (u : Nat → Int32) (j : Nat) : Nat → Int32 := fun k => if k < j then 0 else u k
theorem zu_0 {u : Nat → Int32} : zu u 0 = u := by
  funext k
  unfold zu
  rw [if_neg (by omega)]
theorem zu_s {u : Nat → Int32} {j : Nat} : upd (zu u j) j 0 = zu u (j + 1) := by
  funext k
  unfold upd zu
  by_cases e : k = j
  · rw [if_pos e, if_pos (by omega)]
  · rw [if_neg e]
    by_cases q : k < j
    · rw [if_pos q, if_pos (by omega)]
    · rw [if_neg q, if_neg (by omega)]
theorem clr0 : clrV zV = zV := by
  funext k
  unfold clrV upd zV
  repeat' split
  all_goals rfl
theorem c_M_reads {E : gX} {S : Nat} {G : gG} {Q : Option Value → gG → Prop} {c m : Nat} {f w tp : Nat → Int32} {A : Nat → Nat → Int32} (hM : MV G c f w A) (h8 : f 8 = nI m) (hm : m ≤ 100) (hT : ∀ k, k < m → A 6 k = tp k) (hTb : ∀ k, k < m → 0 ≤ (tp k).toInt ∧ (tp k).toInt ≤ 255) (hQ : ∀ (G' : gG) (f' u' : Nat → Int32), PM G' c f' (putT w 972 u') A tp m ((rAll tp m zV).2.1) → fE f f' → (¬ (rAll tp m zV).1 = 0 → f' 14 = (rAll tp m zV).1) → ((rAll tp m zV).1 = 0 → ∃ n', RL u' (rAll tp m zV).2.2 n') → Frm G G' c 10 → Q (some (.int (bI (zB ((rAll tp m zV).1))))) G') : Runs E y_M_reads 5 0 S [.ref c] G Q := by
  refine Runs.of "ClockPostModel" [some (.ref c), none] cw_M_reads (by decide) (by decide +kernel) rfl (Nat.le_of_ble_eq_true rfl) rfl (fun K hK => ?_)
  have J54 : ∀ (k : Nat) (code : Int32) (p n : Nat) (u v f1 : Nat → Int32) (G1 : gG), (code = 0 → 1 ≤ k) → (code = 0 → RL u v n) → PM G1 c f1 (putT w 972 u) A tp m p → rAll tp m zV = (if code = 0 then rLets tp m k p v else (code, p, v)) → (code = 0 → knd (bt tp m p) = 0) → (¬ code = 0 → f1 14 = code) → fE f f1 → Frm G G1 c 10 → K 54 [some (.ref c), some (.int (bI (zB code)))] [] S G1 := by
    intro k code p n u v f1 G1 hk1 hRL hP hA hkn hw hE hF
    refine r_iload_n hK d_M_reads_54 rfl ?_
    refine r_if_eq (tgt := 81) hK d_M_reads_55 rfl (fun h55 => ?_) (fun h55 => ?_)
    · skip
      have hc : ¬ code = 0 := zB_f.mp (bI_0.mp h55)
      rw [if_neg hc] at hA
      rw [hA] at hQ
      refine r_iconst hK d_M_reads_81 kc_0 ?_
      refine r_zret hK rfl (rfl) rfl d_M_reads_82 ?_
      first | exact rc (hQ _ _ _ hP hE hw (fun q => absurd q hc) hF) (zB_0 hc) | exact hQ _ _ _ hP hE (fun q => absurd rfl q) (fun _ => ⟨_, hR⟩) hF | exact hQ _ _ _ ⟨hM, by rw [upd_n (by omega)]; exact h8l, by rw [upd_n (by omega)]; exact h13, hp, hm, hT, hTb⟩ (hE.tr (fE.up (by omega))) (fun _ => upd_s) (fun q => absurd (show (1 : Int32) = 0 from q) (by decide)) (hF.tr f71)
    · skip
      have hc : code = 0 := zB_t.mp (bI_n0.mp h55)
      rw [if_pos hc] at hA
      have hkd := hkn hc
      have hR := hRL hc
      have hk1 := hk1 hc
      obtain ⟨hM, h8l, h13, hp, hm, hT, hTb⟩ := id hP
      refine r_aload_n hK d_M_reads_58 rfl ?_
      refine r_get hK lf_M_77 d_M_reads_59 (hM.1) rfl ?_
      rw [h13]
      refine r_aload_n hK d_M_reads_62 rfl ?_
      refine r_get hK lf_M_73 d_M_reads_63 (hM.1) rfl ?_
      rw [h8l]
      refine r_icmp_eq (tgt := 77) hK d_M_reads_66 rfl (fun h66 => ?_) (fun h66 => ?_)
      · skip
        have hpm : p = m := by
          have e1 := (nI_leI (a := p) (b := m) (by omega) (by omega)).mp (by rw [h66]; exact Int32.le_refl _)
          have e2 := (nI_leI (a := m) (b := p) (by omega) (by omega)).mp (by rw [h66]; exact Int32.le_refl _)
          omega
        obtain ⟨k, rfl⟩ : ∃ q, k = q + 1 := ⟨k - 1, by omega⟩
        rw [rLets, if_neg (by omega)] at hA
        rw [hA] at hQ
        refine r_iconst hK d_M_reads_77 kc_1 ?_
        refine r_goto (tgt := 82) hK d_M_reads_78 rfl ?_
        refine r_zret hK rfl (rfl) rfl d_M_reads_82 ?_
        first | exact rc (hQ _ _ _ hP hE hw (fun q => absurd q hc) hF) (zB_0 hc) | exact hQ _ _ _ hP hE (fun q => absurd rfl q) (fun _ => ⟨_, hR⟩) hF | exact hQ _ _ _ ⟨hM, by rw [upd_n (by omega)]; exact h8l, by rw [upd_n (by omega)]; exact h13, hp, hm, hT, hTb⟩ (hE.tr (fE.up (by omega))) (fun _ => upd_s) (fun q => absurd (show (1 : Int32) = 0 from q) (by decide)) (hF.tr f71)
      · skip
        have hpm : p < m := by
          have : p ≠ m := fun q => h66 (by rw [q])
          omega
        obtain ⟨k, rfl⟩ : ∃ q, k = q + 1 := ⟨k - 1, by omega⟩
        rw [rLets, if_pos hpm, rLet, if_pos hkd, if_neg (show ¬ (1 : Int32) = 0 by decide)] at hA
        rw [hA] at hQ
        refine r_aload_n hK d_M_reads_69 rfl ?_
        refine r_iconst hK d_M_reads_70 kc_1 ?_
        refine r_v1 (k' := 1) hK lm_M_90 d_M_reads_71 ⟨_, hM.1⟩ (by decide) (Nat.le_of_ble_eq_true rfl) ?_
        refine c_M_refuse hM (fun G71 hM f71 => kc_s ?_)
        refine r_if_eq (tgt := 81) hK d_M_reads_74 rfl (fun h74 => ?_) (fun h74 => ?_)
        · skip
          refine r_iconst hK d_M_reads_81 kc_0 ?_
          refine r_zret hK rfl (rfl) rfl d_M_reads_82 ?_
          first | exact rc (hQ _ _ _ hP hE hw (fun q => absurd q hc) hF) (zB_0 hc) | exact hQ _ _ _ hP hE (fun q => absurd rfl q) (fun _ => ⟨_, hR⟩) hF | exact hQ _ _ _ ⟨hM, by rw [upd_n (by omega)]; exact h8l, by rw [upd_n (by omega)]; exact h13, hp, hm, hT, hTb⟩ (hE.tr (fE.up (by omega))) (fun _ => upd_s) (fun q => absurd (show (1 : Int32) = 0 from q) (by decide)) (hF.tr f71)
        · skip
          exact absurd rfl h74
  refine r_iconst hK d_M_reads_0 kc_0 ?_
  refine st_in_1_2 hK d_M_reads_1 trivial ?_
  obtain ⟨u0, hu0⟩ : ∃ x, w = putT w 972 x := ⟨_, putT_id⟩
  suffices L : ∀ j, j ≤ 36 → ∀ G1 : gG, MV G1 c f (putT w 972 (zu u0 j)) A → Frm G G1 c 10 → K 2 [some (.ref c), some (.int (nI j))] [] S G1 from L 0 (Nat.zero_le _) G (by rw [zu_0, ← hu0]; exact hM) Frm.rf
  clear hM
  refine lpN 36 (fun j hj ih G1 hM hF => ?_)
  refine r_iload_n hK d_M_reads_2 rfl ?_
  refine r_bipush hK d_M_reads_3 kb_36 ?_
  refine r_icmp_ge (tgt := 25) hK d_M_reads_5 rfl (fun h5 => ?_) (fun h5 => ?_)
  · skip
    have hq : j = 36 := by have := (cle (n := 36) (by decide) (by omega)).mp h5; omega
    subst hq
    rw [putT_cg (v := zu u0 36) (u := zV) (fun k hk => if_pos hk)] at hM
    refine r_aload_n hK d_M_reads_25 rfl ?_
    refine r_iconst hK d_M_reads_26 kc_0 ?_
    refine p_M_at hK lf_M_77 d_M_reads_27 hM (fun G27 hM f27 => ?_)
    have hF := hF.tr f27
    have hP := (⟨hM, by rw [upd_n (by omega)]; exact h8, upd_s, by omega, hm, hT, hTb⟩ : PM G27 c (upd f 13 0) (putT w 972 zV) A tp m 0)
    have hE : fE f (upd f 13 0) := fE.up (by omega)
    refine r_aload_n hK d_M_reads_30 rfl ?_
    refine r_v0 (k' := 4) hK lm_M_109 d_M_reads_31 ⟨_, hP.1.1⟩ (by decide) (Nat.le_of_ble_eq_true rfl) ?_
    refine c_M_readsLaw (u := zV) hP (fun G31 f31 u31 hP e31 w31 k31 g31 => kc_s ?_)
    have hE := hE.tr e31
    have hF := hF.tr g31
    have hA : rAll tp m zV = (if (rLaw tp m 0 zV).1 = 0 then rLets tp m 7 (rLaw tp m 0 zV).2.1 (rLaw tp m 0 zV).2.2 else ((rLaw tp m 0 zV).1, (rLaw tp m 0 zV).2.1, (rLaw tp m 0 zV).2.2)) := by rw [rAll, clr0]
    have hR0 : (rLaw tp m 0 zV).1 = 0 → RL u31 (rLaw tp m 0 zV).2.2 0 := fun q => by rw [k31 q]; exact rLaw_RL q
    refine st_in_1_2 hK d_M_reads_34 trivial ?_
    suffices L : ∀ k, ∀ (code : Int32) (p n : Nat) (u v f1 : Nat → Int32) (G1 : gG), (code = 0 → RL u v n ∧ 7 ≤ n + k) → PM G1 c f1 (putT w 972 u) A tp m p → rAll tp m zV = (if code = 0 then rLets tp m k p v else (code, p, v)) → (¬ code = 0 → f1 14 = code) → fE f f1 → Frm G G1 c 10 → K 35 [some (.ref c), some (.int (bI (zB code)))] [] S G1 from L 7 _ _ 0 _ _ _ _ (fun q => ⟨hR0 q, by omega⟩) hP hA w31 hE hF
    clear hP hA hE hF hM
    refine indN (fun k ih code p n u v f1 G1 hRL7 hP hA hw hE hF => ?_)
    have hRL := fun q => (hRL7 q).1
    refine r_iload_n hK d_M_reads_35 rfl ?_
    refine r_if_eq (tgt := 54) hK d_M_reads_36 rfl (fun h36 => ?_) (fun h36 => ?_)
    · skip
      have hc : ¬ code = 0 := zB_f.mp (bI_0.mp h36)
      first | exact J54 k code p n u v f1 G1 (fun q => by have := hRL7 q; have := this.1.1; omega) hRL hP hA (fun _ => hkd) hw hE hF | exact J54 k code p n u v f1 G1 (fun q => absurd q hc) hRL hP hA (fun q => absurd q hc) hw hE hF
    · skip
      have hc : code = 0 := zB_t.mp (bI_n0.mp h36)
      refine r_aload_n hK d_M_reads_39 rfl ?_
      refine r_v0 (k' := 2) hK lm_M_113 d_M_reads_40 ⟨_, hP.1.1⟩ (by decide) (Nat.le_of_ble_eq_true rfl) ?_
      refine c_M_isSort hP (kc_s ?_)
      refine r_if_eq (tgt := 54) hK d_M_reads_43 rfl (fun h43 => ?_) (fun h43 => ?_)
      · skip
        have hkd : knd (bt tp m p) = 0 := Classical.not_not.mp (of_decide_eq_false (bI_0.mp h43))
        first | exact J54 k code p n u v f1 G1 (fun q => by have := hRL7 q; have := this.1.1; omega) hRL hP hA (fun _ => hkd) hw hE hF | exact J54 k code p n u v f1 G1 (fun q => absurd q hc) hRL hP hA (fun q => absurd q hc) hw hE hF
      · skip
        have hkd : ¬ knd (bt tp m p) = 0 := of_decide_eq_true (bI_n0.mp h43)
        have hR := hRL hc
        have hk7 := (hRL7 hc).2
        have hpm : p < m := Classical.byContradiction fun q => hkd (by rw [bt_ge q]; decide)
        have hn6 := hR.1
        obtain ⟨k, rfl⟩ : ∃ q, k = q + 1 := ⟨k - 1, by omega⟩
        rw [if_pos hc, rLets, if_pos hpm] at hA
        refine r_aload_n hK d_M_reads_46 rfl ?_
        refine r_v0 (k' := 4) hK lm_M_116 d_M_reads_47 ⟨_, hP.1.1⟩ (by decide) (Nat.le_of_ble_eq_true rfl) ?_
        refine c_M_readsLetter hP hR hkd (fun G47 f47 u47 hP e47 w47 k47 g47 => kc_s ?_)
        have hE := hE.tr e47
        have hF := hF.tr g47
        refine st_in_1_2 hK d_M_reads_50 trivial ?_
        refine r_goto (tgt := 35) hK d_M_reads_51 rfl ?_
        exact ih k rfl _ _ (n + 1) _ _ _ _ (fun q => ⟨k47 q, by omega⟩) hP (by rw [hA]) w47 hE hF
  · skip
    have hq : j < 36 := Nat.not_le.mp (fun q => h5 ((cle (n := 36) (by decide) (by omega)).mpr q))
    refine r_aload_n hK d_M_reads_8 rfl ?_
    refine r_get hK lf_M_7 d_M_reads_9 (hM.1) rfl ?_
    refine r_sipush hK d_M_reads_12 ks_972 ?_
    refine r_iload_n hK d_M_reads_15 rfl ?_
    refine r_iadd hK d_M_reads_16 ?_
    refine r_iconst hK d_M_reads_17 kc_0 ?_
    refine s_tw (B := 972) (j := 0 + j) hK d_M_reads_18 hM (Eq.trans (ix0 (c := 972) rfl) (congrArg nI (by omega))) (by omega) (by omega) (fun G18 hM f18 => ?_)
    rw [Nat.zero_add, zu_s] at hM
    have hF := hF.tr f18
    first | refine iN_1_2 hK d_M_reads_19 trivial ?_ | refine ii_1_1_2 hK d_M_reads_19 trivial ?_
    refine r_goto (tgt := 2) hK d_M_reads_22 rfl ?_
    exact ih hq _ hM hF
