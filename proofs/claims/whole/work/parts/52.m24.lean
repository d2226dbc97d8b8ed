def cn (t : Nat) : Nat := nN (bitc (nI t))
theorem cn_e : ∀ t, t < 64 → bitc (nI t) = nI (cn t) ∧ cn t ≤ 6 := by decide +kernel
theorem sub_eq : ∀ b, b < 64 → ∀ t, t < 64 → nI t &&& (nI b ^^^ (-1)) = 0 → cn t = cn b → t = b := by decide +kernel
theorem cn_lt {t f : Nat} (ht : t < 64) (hf : f < 64) : bitc (nI t) < bitc (nI f) ↔ cn t < cn f := by
  rw [(cn_e t ht).1, (cn_e f hf).1]
  have := (cn_e t ht).2
  have := (cn_e f hf).2
  exact nI_ltI (by omega) (by omega)
theorem cn_le {t f : Nat} (ht : t < 64) (hf : f < 64) : bitc (nI t) ≤ bitc (nI f) ↔ cn t ≤ cn f := by
  rw [(cn_e t ht).1, (cn_e f hf).1]
  have := (cn_e t ht).2
  have := (cn_e f hf).2
  exact nI_leI (by omega) (by omega)
def mdL (P : Nat → Int32 → Bool) : Nat → Int32 → Int32
  | 0, f => f
  | t + 1, f => mdL P t (if P t f = true then nI t else f)
def Rs (b : Nat) (H : Nat → Bool) (lo hi f : Nat) : Prop :=
  (f = b ∧ ∀ t, lo ≤ t → t < hi → nI t &&& (nI b ^^^ (-1)) = 0 → H t = true → cn b ≤ cn t) ∨
  (lo ≤ f ∧ f < hi ∧ nI f &&& (nI b ^^^ (-1)) = 0 ∧ H f = true ∧ cn f < cn b ∧ ∀ t, lo ≤ t → t < hi → nI t &&& (nI b ^^^ (-1)) = 0 → H t = true → cn f < cn t ∨ (cn f = cn t ∧ f ≤ t))
theorem Rs_u {b : Nat} {H : Nat → Bool} {f g : Nat} (h1 : Rs b H 0 64 f) (h2 : Rs b H 0 64 g) : f = g := by
  rcases h1 with ⟨e1, a1⟩ | ⟨-, l1, s1, p1, c1, a1⟩
  · rcases h2 with ⟨e2, a2⟩ | ⟨-, l2, s2, p2, c2, a2⟩
    · omega
    · have := a1 g (by omega) l2 s2 p2
      omega
  · rcases h2 with ⟨e2, a2⟩ | ⟨-, l2, s2, p2, c2, a2⟩
    · have := a2 f (by omega) l1 s1 p1
      omega
    · have := a1 g (by omega) l2 s2 p2
      have := a2 f (by omega) l1 s1 p1
      omega
theorem hd_R {b : Nat} (hb : b < 64) {H : Nat → Bool} : ∀ (k j f : Nat), j + k = 64 → f < 64 → Rs b H 0 j f → ∃ f', f' < 64 ∧ hdL (fun t f => smP (nI b) (nI t) f && H t) k j (nI f) = nI f' ∧ Rs b H 0 64 f'
  | 0, j, f, hj, hf, hR => ⟨f, hf, rfl, by rw [show (64 : Nat) = j by omega]; exact hR⟩
  | k + 1, j, f, hj, hf, hR => by
    show ∃ f', f' < 64 ∧ hdL _ k (j + 1) (if (smP (nI b) (nI j) (nI f) && H j) = true then nI j else nI f) = nI f' ∧ _
    by_cases q : (smP (nI b) (nI j) (nI f) && H j) = true
    · rw [if_pos q]
      simp only [smP, Bool.and_eq_true, decide_eq_true_eq, cn_lt (show j < 64 by omega) hf] at q
      obtain ⟨⟨hs, hc⟩, hH⟩ := q
      refine hd_R hb k (j + 1) j (by omega) (by omega) (Or.inr ⟨by omega, by omega, hs, hH, ?_, fun t _ h2 h3 h4 => ?_⟩)
      · rcases hR with ⟨e1, a1⟩ | ⟨-, l1, s1, p1, c1, a1⟩
        · rw [← e1]; exact hc
        · omega
      · by_cases z : t = j
        · subst z; omega
        · rcases hR with ⟨e1, a1⟩ | ⟨-, l1, s1, p1, c1, a1⟩
          · have := a1 t (by omega) (by omega) h3 h4
            rw [← e1] at this
            omega
          · have := a1 t (by omega) (by omega) h3 h4
            omega
    · rw [if_neg q]
      simp only [smP, Bool.and_eq_true, decide_eq_true_eq, cn_lt (show j < 64 by omega) hf] at q
      refine hd_R hb k (j + 1) f (by omega) hf ?_
      rcases hR with ⟨e1, a1⟩ | ⟨-, l1, s1, p1, c1, a1⟩
      · refine Or.inl ⟨e1, fun t _ h2 h3 h4 => ?_⟩
        by_cases z : t = j
        · subst z
          have : ¬ cn t < cn f := fun z => q ⟨⟨h3, z⟩, h4⟩
          rw [← e1]; omega
        · exact a1 t (by omega) (by omega) h3 h4
      · refine Or.inr ⟨by omega, by omega, s1, p1, c1, fun t _ h2 h3 h4 => ?_⟩
        by_cases z : t = j
        · subst z
          have : ¬ cn t < cn f := fun z => q ⟨⟨h3, z⟩, h4⟩
          omega
        · exact a1 t (by omega) (by omega) h3 h4
theorem md_R {b : Nat} (hb : b < 64) {H : Nat → Bool} {P : Nat → Int32 → Bool} (hP : ∀ t f, P t f = (decide (nI t &&& (nI b ^^^ (-1)) = 0) && decide (bitS (nI t) 6 ≤ bitS f 6) && H t)) : ∀ (t f : Nat), t ≤ 64 → f < 64 → Rs b H t 64 f → ∃ f', f' < 64 ∧ mdL P t (nI f) = nI f' ∧ Rs b H 0 64 f'
  | 0, f, _, hf, hR => ⟨f, hf, rfl, hR⟩
  | t + 1, f, ht, hf, hR => by
    show ∃ f', f' < 64 ∧ mdL P t (if P t (nI f) = true then nI t else nI f) = nI f' ∧ _
    by_cases q : P t (nI f) = true
    · rw [if_pos q]
      rw [hP, bits_e t (by omega), bits_e f hf] at q
      simp only [Bool.and_eq_true, decide_eq_true_eq, cn_le (show t < 64 by omega) hf] at q
      obtain ⟨⟨hs, hc⟩, hH⟩ := q
      refine md_R hb hP t t (by omega) (by omega) ?_
      rcases hR with ⟨e1, a1⟩ | ⟨l0, l1, s1, p1, c1, a1⟩
      · by_cases z : cn t = cn b
        · have := sub_eq b hb t (by omega) hs z
          refine Or.inl ⟨this, fun x h1 h2 h3 h4 => ?_⟩
          by_cases y : x = t
          · subst y; omega
          · exact a1 x (by omega) h2 h3 h4
        · rw [e1] at hc
          refine Or.inr ⟨Nat.le_refl _, by omega, hs, hH, by omega, fun x h1 h2 h3 h4 => ?_⟩
          by_cases y : x = t
          · subst y; omega
          · have := a1 x (by omega) h2 h3 h4
            omega
      · refine Or.inr ⟨Nat.le_refl _, by omega, hs, hH, by omega, fun x h1 h2 h3 h4 => ?_⟩
        by_cases y : x = t
        · subst y; omega
        · have := a1 x (by omega) h2 h3 h4
          omega
    · rw [if_neg q]
      rw [hP, bits_e t (by omega), bits_e f hf] at q
      simp only [Bool.and_eq_true, decide_eq_true_eq, cn_le (show t < 64 by omega) hf] at q
      refine md_R hb hP t f (by omega) hf ?_
      rcases hR with ⟨e1, a1⟩ | ⟨l0, l1, s1, p1, c1, a1⟩
      · refine Or.inl ⟨e1, fun x h1 h2 h3 h4 => ?_⟩
        by_cases y : x = t
        · subst y
          have : ¬ cn x ≤ cn f := fun z => q ⟨⟨h3, z⟩, h4⟩
          rw [← e1]; omega
        · exact a1 x (by omega) h2 h3 h4
      · refine Or.inr ⟨by omega, l1, s1, p1, c1, fun x h1 h2 h3 h4 => ?_⟩
        by_cases y : x = t
        · subst y
          have : ¬ cn x ≤ cn f := fun z => q ⟨⟨h3, z⟩, h4⟩
          omega
        · exact a1 x (by omega) h2 h3 h4
theorem few_e {b : Nat} (hb : b < 64) {H : Nat → Bool} {P : Nat → Int32 → Bool} (hP : ∀ t f, P t f = (decide (nI t &&& (nI b ^^^ (-1)) = 0) && decide (bitS (nI t) 6 ≤ bitS f 6) && H t)) : mdL P 64 (nI b) = hdL (fun t f => smP (nI b) (nI t) f && H t) 64 0 (nI b) ∧ ∃ f, f < 64 ∧ hdL (fun t f => smP (nI b) (nI t) f && H t) 64 0 (nI b) = nI f := by
  obtain ⟨f, hf, e, r⟩ := hd_R hb (H := H) 64 0 b (by omega) hb (Or.inl ⟨rfl, fun t _ h => absurd h (by omega)⟩)
  obtain ⟨g, hg, e2, r2⟩ := md_R hb hP 64 b (by omega) hb (Or.inl ⟨rfl, fun t h1 h2 => absurd h2 (by omega)⟩)
  exact ⟨by rw [e, e2, Rs_u r r2], f, hf, e⟩
theorem nI_pd (k : Nat) : nI (k + 1) + (-1) = nI k := by
  rw [← nI_1, Int32.add_assoc, show (1 : Int32) + (-1) = 0 by decide, Int32.add_zero]
theorem inB_d1 {d : Int32} (h : inB d 1 60 = true) : ∃ j : Nat, j < 61 ∧ 1 ≤ j ∧ d = nI j := by
  simp only [inB, Bool.and_eq_true, decide_eq_true_eq] at h
  obtain ⟨j, hj, rfl⟩ := nI_of (x := d) (by have := h.1; rw [i_le, ti_1] at this; rw [i_lt, ti_0]; omega)
  exact ⟨j, by have := (lec (n := 60) (by decide) hj).mp h.2; omega, (cle (n := 1) (by decide) hj).mp h.1, rfl⟩
theorem nI_nn {k : Nat} (h : k < 2 ^ 31) : 0 ≤ nI k := by rw [i_le, ti_0, nI_toInt h]; omega
theorem fr_few {E : gX} {S : Nat} {G0 G : gG} {Q : Option Value → gG → Prop} {ini : Bool} {K : Nat → List (Option Value) → List Value → Nat → gG → Prop} (hK : Cl E "ClockPostModel" b_M_fewest (Option.some Jvm.ClassFile.FieldType.int) 6 6 0 S ini G0 Q K) {a0 a1 a2 : Option Value} {f s : Int32} {a5 : Option Value} (kk : K 11 [a0, a1, a2, some (.int f), some (.int (s + (-1))), some (.int 0)] [] S G) (h2 : okc a2) : K 46 [a0, a1, a2, some (.int f), some (.int s), a5] [] S G := by
  refine r_iconst hK d_M_fewest_46 kc_0 ?_
  refine st_i_5_6 hK d_M_fewest_47 trivial ?_
  refine r_iload hK d_M_fewest_49 rfl ?_
  refine r_if_eq (tgt := 87) hK d_M_fewest_51 rfl (fun h51 => ?_) (fun h51 => ?_)
  · skip
    refine r_iload_n hK d_M_fewest_87 rfl ?_
    refine st_in_3_6 hK d_M_fewest_88 h2 ?_
    refine ii_4_m1_6 hK d_M_fewest_89 trivial ?_
    refine r_goto (tgt := 11) hK d_M_fewest_92 rfl ?_
    exact kk
  · skip
    exact absurd rfl h51
theorem c_M_fewest {E : gX} {S : Nat} {G : gG} {Q : Option Value → gG → Prop} {c n : Nat} {f w0 nw u : Nat → Int32} {A : Nat → Nat → Int32} (hM : MV G c f (putT (putT w0 0 nw) 972 u) A) (hV : Vk nw n) (h00 : putT w0 0 nw 0 = nI n) (h03 : putT w0 0 nw 3 = nw 3) {d : Nat} {q : Int32} {H : Nat → Bool} (hd : d < 61) (hH : (q < 0 ∧ ∀ t, H t = noF d (wtV nw (nI t))) ∨ (¬ q < 0 ∧ 1 ≤ d ∧ ∀ t, H t = sEz q d (wtV nw (nI t)))) (hQ : ∀ (G' : gG) (u' : Nat → Int32), MV G' c f (putT (putT w0 0 nw) 972 u') A → Frm G G' c 10 → Q (some (.int (hdL (fun t f => smP (nw 3) (nI t) f && H t) 64 0 (nw 3)))) G') : Runs E y_M_fewest 6 0 S [.ref c, .int (nI d), .int q] G Q := by
  refine Runs.of "ClockPostModel" [some (.ref c), some (.int (nI d)), some (.int q), none, none, none] cw_M_fewest (by decide) (by decide +kernel) rfl (Nat.le_of_ble_eq_true rfl) rfl (fun K hK => ?_)
  obtain ⟨b, hb2, hb6, hb3⟩ := hV.b64
  obtain ⟨P, hP⟩ : ∃ P : Nat → Int32 → Bool, ∀ t f, P t f = (decide (nI t &&& (nI b ^^^ (-1)) = 0) && decide (bitS (nI t) 6 ≤ bitS f 6) && H t) := ⟨_, fun _ _ => rfl⟩
  rw [hb3] at hQ
  refine r_aload_n hK d_M_fewest_0 rfl ?_
  refine r_get hK lf_M_7 d_M_fewest_1 (hM.1) rfl ?_
  refine r_iconst hK d_M_fewest_4 kc_3 ?_
  refine g_lo (j := 3) hK d_M_fewest_5 hM (rfl) (by omega) (by omega) ?_
  rw [h03, hb3]
  refine st_in_3_6 hK d_M_fewest_6 trivial ?_
  refine r_bipush hK d_M_fewest_7 kb_63 ?_
  refine st_i_4_6 hK d_M_fewest_9 trivial ?_
  suffices L : ∀ t, t ≤ 64 → ∀ (G1 : gG) (fn : Nat) (u : Nat → Int32) (a5 : Option Value), fn < 64 → MV G1 c f (putT (putT w0 0 nw) 972 u) A → mdL P t (nI fn) = hdL (fun t f => smP (nI b) (nI t) f && H t) 64 0 (nI b) → Frm G G1 c 10 → K 11 [some (.ref c), some (.int (nI d)), some (.int q), some (.int (nI fn)), some (.int (nI t + (-1))), a5] [] S G1 from L 64 (by omega) _ _ _ _ hb6 hM (few_e hb6 hP).1 Frm.rf
  clear hM
  refine indN (fun t ih ht G1 fn u a5 hfn hM hE hF => ?_)
  refine r_iload hK d_M_fewest_11 rfl ?_
  refine r_if_lt (tgt := 95) hK d_M_fewest_13 rfl (fun h13 => ?_) (fun h13 => ?_)
  · skip
    have ht0 : t = 0 := by
      rcases t with _ | k
      · rfl
      · exfalso
        rw [nI_pd] at h13
        exact absurd h13 (Int32.not_lt.mpr (nI_nn (by omega)))
    subst ht0
    rw [mdL] at hE
    rw [← hE] at hQ
    refine r_iload_n hK d_M_fewest_95 rfl ?_
    refine r_iret hK rfl rfl d_M_fewest_96 ?_
    exact hQ _ _ hM hF
  · skip
    obtain ⟨k, rfl⟩ : ∃ k, t = k + 1 := by
      rcases t with _ | k
      · exact absurd (show nI 0 + (-1) < 0 by decide) h13
      · exact ⟨k, rfl⟩
    rw [nI_pd]
    rw [mdL, hP] at hE
    have ih := ih k rfl (by omega)
    refine r_iload hK d_M_fewest_16 rfl ?_
    refine r_aload_n hK d_M_fewest_18 rfl ?_
    refine r_get hK lf_M_7 d_M_fewest_19 (hM.1) rfl ?_
    refine r_iconst hK d_M_fewest_22 kc_3 ?_
    refine g_lo (j := 3) hK d_M_fewest_23 hM (rfl) (by omega) (by omega) ?_
    rw [h03, hb3]
    refine r_iconst hK d_M_fewest_24 kc_m1 ?_
    refine r_ixor hK d_M_fewest_25 ?_
    refine r_iand hK d_M_fewest_26 ?_
    refine r_if_ne (tgt := 46) hK d_M_fewest_27 rfl (fun h27 => ?_) (fun h27 => ?_)
    · skip
      rw [decide_eq_false h27, Bool.false_and, Bool.false_and, if_neg (by decide)] at hE
      exact fr_few hK (ih _ _ _ _ hfn hM hE hF) trivial
    · skip
      have hsb := h27
      refine r_iload hK d_M_fewest_30 rfl ?_
      refine r_s1 (k' := 1) hK lm_M_141 d_M_fewest_32 (by decide) (Nat.le_of_ble_eq_true rfl) ?_
      refine c_M_bits (kc_s ?_)
      refine r_iload_n hK d_M_fewest_35 rfl ?_
      refine r_s1 (k' := 1) hK lm_M_141 d_M_fewest_36 (by decide) (Nat.le_of_ble_eq_true rfl) ?_
      refine c_M_bits (kc_s ?_)
      refine r_icmp_gt (tgt := 46) hK d_M_fewest_39 rfl (fun h39 => ?_) (fun h39 => ?_)
      · skip
        rw [decide_eq_false (Int32.not_le.mpr h39), Bool.and_false, Bool.false_and, if_neg (by decide)] at hE
        exact fr_few hK (ih _ _ _ _ hfn hM hE hF) trivial
      · skip
        rw [decide_eq_true hsb, decide_eq_true (Int32.not_lt.mp h39), Bool.true_and, Bool.true_and] at hE
        refine r_iconst hK d_M_fewest_42 kc_1 ?_
        refine r_goto (tgt := 47) hK d_M_fewest_43 rfl ?_
        refine st_i_5_6 hK d_M_fewest_47 trivial ?_
        refine r_iload hK d_M_fewest_49 rfl ?_
        refine r_if_eq (tgt := 87) hK d_M_fewest_51 rfl (fun h51 => ?_) (fun h51 => ?_)
        · skip
          exact absurd h51 (by decide)
        · skip
          refine r_iload_n hK d_M_fewest_54 rfl ?_
          refine r_if_ge (tgt := 71) hK d_M_fewest_55 rfl (fun h55 => ?_) (fun h55 => ?_)
          · skip
            obtain ⟨hd1, hHt⟩ : 1 ≤ d ∧ ∀ t, H t = sEz q d (wtV nw (nI t)) := by
              rcases hH with z | z
              · exact absurd z.1 (Int32.not_lt.mpr h55)
              · exact z.2
            refine r_aload_n hK d_M_fewest_71 rfl ?_
            refine r_iload hK d_M_fewest_72 rfl ?_
            refine r_iload_n hK d_M_fewest_74 rfl ?_
            refine r_iload_n hK d_M_fewest_75 rfl ?_
            refine r_v3 (k' := 5) hK lm_M_217 d_M_fewest_76 ⟨_, hM.1⟩ (by decide) (Nat.le_of_ble_eq_true rfl) ?_
            refine c_M_eases hM hV h00 (show k < 64 by omega) (by rw [hb3]; exact hsb) hd hd1 (fun G76 u76 hM f76 => kc_s ?_)
            have hF := hF.tr f76
            refine r_if_eq (tgt := 87) hK d_M_fewest_79 rfl (fun h79 => ?_) (fun h79 => ?_)
            · skip
              rw [hHt, bI_0.mp h79, if_neg (by decide)] at hE
              refine r_iload_n hK d_M_fewest_87 rfl ?_
              refine st_in_3_6 hK d_M_fewest_88 trivial ?_
              refine ii_4_m1_6 hK d_M_fewest_89 trivial ?_
              refine r_goto (tgt := 11) hK d_M_fewest_92 rfl ?_
              first | exact ih _ _ _ _ hfn hM hE hF | exact ih _ _ _ _ (show k < 64 by omega) hM hE hF
            · skip
              rw [hHt, bI_n0.mp h79, if_pos rfl] at hE
              refine r_iload hK d_M_fewest_82 rfl ?_
              refine r_goto (tgt := 88) hK d_M_fewest_84 rfl ?_
              refine st_in_3_6 hK d_M_fewest_88 trivial ?_
              refine ii_4_m1_6 hK d_M_fewest_89 trivial ?_
              refine r_goto (tgt := 11) hK d_M_fewest_92 rfl ?_
              first | exact ih _ _ _ _ hfn hM hE hF | exact ih _ _ _ _ (show k < 64 by omega) hM hE hF
          · skip
            have hHt : ∀ t, H t = noF d (wtV nw (nI t)) := by
              rcases hH with z | z
              · exact z.2
              · exact absurd (Int32.not_le.mp h55) z.1
            refine r_aload_n hK d_M_fewest_58 rfl ?_
            refine r_iload hK d_M_fewest_59 rfl ?_
            refine r_iload_n hK d_M_fewest_61 rfl ?_
            refine r_v2 (k' := 5) hK lm_M_214 d_M_fewest_62 ⟨_, hM.1⟩ (by decide) (Nat.le_of_ble_eq_true rfl) ?_
            refine c_M_holds hM hV h00 (show k < 64 by omega) (by rw [hb3]; exact hsb) hd (fun G62 u62 hM f62 => kc_s ?_)
            have hF := hF.tr f62
            refine r_if_eq (tgt := 87) hK d_M_fewest_65 rfl (fun h65 => ?_) (fun h65 => ?_)
            · skip
              rw [hHt, bI_0.mp h65, if_neg (by decide)] at hE
              refine r_iload_n hK d_M_fewest_87 rfl ?_
              refine st_in_3_6 hK d_M_fewest_88 trivial ?_
              refine ii_4_m1_6 hK d_M_fewest_89 trivial ?_
              refine r_goto (tgt := 11) hK d_M_fewest_92 rfl ?_
              first | exact ih _ _ _ _ hfn hM hE hF | exact ih _ _ _ _ (show k < 64 by omega) hM hE hF
            · skip
              rw [hHt, bI_n0.mp h65, if_pos rfl] at hE
              refine r_goto (tgt := 82) hK d_M_fewest_68 rfl ?_
              refine r_iload hK d_M_fewest_82 rfl ?_
              refine r_goto (tgt := 88) hK d_M_fewest_84 rfl ?_
              refine st_in_3_6 hK d_M_fewest_88 trivial ?_
              refine ii_4_m1_6 hK d_M_fewest_89 trivial ?_
              refine r_goto (tgt := 11) hK d_M_fewest_92 rfl ?_
              first | exact ih _ _ _ _ hfn hM hE hF | exact ih _ _ _ _ (show k < 64 by omega) hM hE hF
theorem c_M_hold {E : gX} {S : Nat} {G : gG} {Q : Option Value → gG → Prop} {c : Nat} {f w : Nat → Int32} {A : Nat → Nat → Int32} {st : Bool} {nw : Nat → Int32} {ac : Nat → Nat → Int32} {na : Nat} {ik : Nat → Bool} {im : Nat → Nat → Int32} {rp : Nat → Bool} {rl : Nat → Int32} {rs : Nat → Nat} {ri : Nat → Nat → Int32} {tp : Nat → Int32} {tn : Nat} {lf : Int32} {fd : Int32} {tr : Nat → Int32} {un : Nat} (hM : MV G c f w A) (hS : MS f w A (st, nw, ac, na, ik, im, rp, rl, rs, ri, tp, tn, lf, fd, tr, un)) (hI : MI (st, nw, ac, na, ik, im, rp, rl, rs, ri, tp, tn, lf, fd, tr, un)) {m wq : Int32} (hQ : ∀ G' : gG, MR G' c (opHold (st, nw, ac, na, ik, im, rp, rl, rs, ri, tp, tn, lf, fd, tr, un) m wq).2 → Frm G G' c 10 → Q (some (.int (opHold (st, nw, ac, na, ik, im, rp, rl, rs, ri, tp, tn, lf, fd, tr, un) m wq).1)) G') : Runs E y_M_hold 7 0 S [.ref c, .int m, .int wq] G Q := by
  refine Runs.of "ClockPostModel" [some (.ref c), some (.int m), some (.int wq), none] cw_M_hold (by decide) (by decide +kernel) rfl (Nat.le_of_ble_eq_true rfl) rfl (fun K hK => ?_)
  obtain ⟨w0, hw0⟩ : ∃ x, w = putT x 0 nw := ⟨_, hS.t0⟩
  subst hw0
  obtain ⟨n, hV⟩ := hI.1
  have h6 := hV.1
  have hz0 : putT w0 0 nw 0 = nI n := (hS.2.2.2.2.2.2.1 0 (by omega)).trans hV.2.1
  have hM0 := hM
  obtain ⟨w1, hw1⟩ : ∃ x, putT w0 0 nw = putT (putT w0 0 nw) 972 x := ⟨_, putT_id⟩
  rw [hw1] at hM
  refine r_aload_n hK d_M_hold_0 rfl ?_
  refine r_get hK lf_M_130 d_M_hold_1 (hM.1) rfl ?_
  rw [hS.1]
  refine r_if_ne (tgt := 10) hK d_M_hold_4 rfl (fun h4 => ?_) (fun h4 => ?_)
  · skip
    have hst : st = true := bI_n0.mp h4
    subst hst
    refine r_iload_n hK d_M_hold_10 rfl ?_
    refine r_i2l hK d_M_hold_11 ?_
    refine r_lconst (v := 1) hK d_M_hold_12 rfl ?_
    refine r_ldc2 hK d_M_hold_13 lc_M_186 ?_
    refine r_s3 (k' := 1) hK lm_M_45 d_M_hold_16 (by decide) (Nat.le_of_ble_eq_true rfl) ?_
    refine c_M_in (a := 1) (b := 60) (by decide) (by decide) (kc_s ?_)
    refine r_if_eq (tgt := 32) hK d_M_hold_19 rfl (fun h19 => ?_) (fun h19 => ?_)
    · skip
      have hb := bI_0.mp h19
      rw [opHold, hb, Bool.false_and, if_neg (by decide)] at hQ
      refine r_ldc hK d_M_hold_32 lc_M_55 ?_
      refine r_iret hK rfl rfl d_M_hold_34 ?_
      exact hQ _ ⟨_, _, _, hM0, hS⟩ Frm.rf
    · skip
      have hb := bI_n0.mp h19
      refine r_iload_n hK d_M_hold_22 rfl ?_
      refine r_i2l hK d_M_hold_23 ?_
      refine r_lconst (v := 0) hK d_M_hold_24 rfl ?_
      refine r_lconst (v := 1) hK d_M_hold_25 rfl ?_
      refine r_s3 (k' := 1) hK lm_M_45 d_M_hold_26 (by decide) (Nat.le_of_ble_eq_true rfl) ?_
      refine c_M_in (a := 0) (b := 1) (by decide) (by decide) (kc_s ?_)
      refine r_if_ne (tgt := 35) hK d_M_hold_29 rfl (fun h29 => ?_) (fun h29 => ?_)
      · skip
        have hd := bI_n0.mp h29
        rw [opHold, hb, hd, if_pos (by decide)] at hQ
        obtain ⟨e, he, he1, rfl⟩ := inB_d1 hb
        rw [nN_nI (by omega)] at hQ
        obtain ⟨b, hb2, hb6, hb3⟩ := hV.b64
        refine r_aload_n hK d_M_hold_35 rfl ?_
        refine r_iload_n hK d_M_hold_36 rfl ?_
        refine r_iconst hK d_M_hold_37 kc_m1 ?_
        refine r_v2 (k' := 6) hK lm_M_220 d_M_hold_38 ⟨_, hM.1⟩ (by decide) (Nat.le_of_ble_eq_true rfl) ?_
        refine c_M_fewest hM hV hz0 (show putT w0 0 nw 3 = nw 3 from hS.2.2.2.2.2.2.1 3 (by omega)) (H := (fun t => noF e (wtV nw (nI t)))) he (Or.inl ⟨by decide, fun _ => rfl⟩) (fun G38 u38 hM f38 => kc_s ?_)
        refine st_in_3_4 hK d_M_hold_41 trivial ?_
        refine r_iload_n hK d_M_hold_42 rfl ?_
        refine r_if_ne (tgt := 53) hK d_M_hold_43 rfl (fun h43 => ?_) (fun h43 => ?_)
        · skip
          rw [if_neg h43] at hQ
          refine r_iload_n hK d_M_hold_53 rfl ?_
          refine r_iret hK rfl rfl d_M_hold_54 ?_
          exact hQ _ ⟨_, _, _, hM, hS.sT hI.2.2.2.1⟩ f38
        · skip
          rw [if_pos h43] at hQ
          rw [hb3] at hQ ⊢
          obtain ⟨fz, hfz, hfe⟩ := (few_e hb6 (H := (fun t => noF e (wtV nw (nI t)))) (P := fun t f => (decide (nI t &&& (nI b ^^^ (-1)) = 0) && decide (bitS (nI t) 6 ≤ bitS f 6) && (fun t => noF e (wtV nw (nI t))) t)) (fun _ _ => rfl)).2
          rw [hfe] at hQ ⊢
          refine r_iload_n hK d_M_hold_46 rfl ?_
          refine r_s1 (k' := 1) hK lm_M_141 d_M_hold_47 (by decide) (Nat.le_of_ble_eq_true rfl) ?_
          refine c_M_bits (kc_s ?_)
          rw [bits_e fz hfz]
          refine r_goto (tgt := 54) hK d_M_hold_50 rfl ?_
          refine r_iret hK rfl rfl d_M_hold_54 ?_
          exact hQ _ ⟨_, _, _, hM, hS.sT hI.2.2.2.1⟩ f38
      · skip
        have hd := bI_0.mp h29
        rw [opHold, hd, Bool.and_false, if_neg (by decide)] at hQ
        refine r_ldc hK d_M_hold_32 lc_M_55 ?_
        refine r_iret hK rfl rfl d_M_hold_34 ?_
        exact hQ _ ⟨_, _, _, hM0, hS⟩ Frm.rf
  · skip
    have hst : st = false := bI_0.mp h4
    subst hst
    rw [opHold, if_neg (by cases inB m 1 60 <;> cases inB wq 0 1 <;> decide)] at hQ
    refine r_ldc hK d_M_hold_7 lc_M_137 ?_
    refine r_iret hK rfl rfl d_M_hold_9 ?_
    exact hQ _ ⟨_, _, _, hM0, hS⟩ Frm.rf
theorem c_M_ease {E : gX} {S : Nat} {G : gG} {Q : Option Value → gG → Prop} {c : Nat} {f w : Nat → Int32} {A : Nat → Nat → Int32} {st : Bool} {nw : Nat → Int32} {ac : Nat → Nat → Int32} {na : Nat} {ik : Nat → Bool} {im : Nat → Nat → Int32} {rp : Nat → Bool} {rl : Nat → Int32} {rs : Nat → Nat} {ri : Nat → Nat → Int32} {tp : Nat → Int32} {tn : Nat} {lf : Int32} {fd : Int32} {tr : Nat → Int32} {un : Nat} (hM : MV G c f w A) (hS : MS f w A (st, nw, ac, na, ik, im, rp, rl, rs, ri, tp, tn, lf, fd, tr, un)) (hI : MI (st, nw, ac, na, ik, im, rp, rl, rs, ri, tp, tn, lf, fd, tr, un)) {m q wq : Int32} (hQ : ∀ G' : gG, MR G' c (opEase (st, nw, ac, na, ik, im, rp, rl, rs, ri, tp, tn, lf, fd, tr, un) m q wq).2 → Frm G G' c 10 → Q (some (.int (opEase (st, nw, ac, na, ik, im, rp, rl, rs, ri, tp, tn, lf, fd, tr, un) m q wq).1)) G') : Runs E y_M_ease 7 0 S [.ref c, .int m, .int q, .int wq] G Q := by
  refine Runs.of "ClockPostModel" [some (.ref c), some (.int m), some (.int q), some (.int wq), none] cw_M_ease (by decide) (by decide +kernel) rfl (Nat.le_of_ble_eq_true rfl) rfl (fun K hK => ?_)
  obtain ⟨w0, hw0⟩ : ∃ x, w = putT x 0 nw := ⟨_, hS.t0⟩
  subst hw0
  obtain ⟨n, hV⟩ := hI.1
  have h6 := hV.1
  have hz0 : putT w0 0 nw 0 = nI n := (hS.2.2.2.2.2.2.1 0 (by omega)).trans hV.2.1
  have hM0 := hM
  obtain ⟨w1, hw1⟩ : ∃ x, putT w0 0 nw = putT (putT w0 0 nw) 972 x := ⟨_, putT_id⟩
  rw [hw1] at hM
  refine r_aload_n hK d_M_ease_0 rfl ?_
  refine r_get hK lf_M_130 d_M_ease_1 (hM.1) rfl ?_
  rw [hS.1]
  refine r_if_ne (tgt := 10) hK d_M_ease_4 rfl (fun h4 => ?_) (fun h4 => ?_)
  · skip
    have hst : st = true := bI_n0.mp h4
    subst hst
    refine r_iload_n hK d_M_ease_10 rfl ?_
    refine r_i2l hK d_M_ease_11 ?_
    refine r_lconst (v := 1) hK d_M_ease_12 rfl ?_
    refine r_ldc2 hK d_M_ease_13 lc_M_186 ?_
    refine r_s3 (k' := 1) hK lm_M_45 d_M_ease_16 (by decide) (Nat.le_of_ble_eq_true rfl) ?_
    refine c_M_in (a := 1) (b := 60) (by decide) (by decide) (kc_s ?_)
    refine r_if_eq (tgt := 44) hK d_M_ease_19 rfl (fun h19 => ?_) (fun h19 => ?_)
    · skip
      have hb := bI_0.mp h19
      rw [opEase, hb, Bool.false_and, Bool.false_and, if_neg (by decide)] at hQ
      refine r_ldc hK d_M_ease_44 lc_M_55 ?_
      refine r_iret hK rfl rfl d_M_ease_46 ?_
      exact hQ _ ⟨_, _, _, hM0, hS⟩ Frm.rf
    · skip
      have hb := bI_n0.mp h19
      refine r_iload_n hK d_M_ease_22 rfl ?_
      refine r_i2l hK d_M_ease_23 ?_
      refine r_lconst (v := 0) hK d_M_ease_24 rfl ?_
      refine r_ldc2 hK d_M_ease_25 lc_M_223 ?_
      refine r_s3 (k' := 1) hK lm_M_45 d_M_ease_28 (by decide) (Nat.le_of_ble_eq_true rfl) ?_
      refine c_M_in (a := 0) (b := 300) (by decide) (by decide) (kc_s ?_)
      refine r_if_eq (tgt := 44) hK d_M_ease_31 rfl (fun h31 => ?_) (fun h31 => ?_)
      · skip
        have hc := bI_0.mp h31
        rw [opEase, hc, Bool.and_false, Bool.false_and, if_neg (by decide)] at hQ
        refine r_ldc hK d_M_ease_44 lc_M_55 ?_
        refine r_iret hK rfl rfl d_M_ease_46 ?_
        exact hQ _ ⟨_, _, _, hM0, hS⟩ Frm.rf
      · skip
        have hc := bI_n0.mp h31
        refine r_iload_n hK d_M_ease_34 rfl ?_
        refine r_i2l hK d_M_ease_35 ?_
        refine r_lconst (v := 0) hK d_M_ease_36 rfl ?_
        refine r_lconst (v := 1) hK d_M_ease_37 rfl ?_
        refine r_s3 (k' := 1) hK lm_M_45 d_M_ease_38 (by decide) (Nat.le_of_ble_eq_true rfl) ?_
        refine c_M_in (a := 0) (b := 1) (by decide) (by decide) (kc_s ?_)
        refine r_if_ne (tgt := 47) hK d_M_ease_41 rfl (fun h41 => ?_) (fun h41 => ?_)
        · skip
          have hd := bI_n0.mp h41
          rw [opEase, hb, hc, hd, if_pos (by decide)] at hQ
          obtain ⟨e, he, he1, rfl⟩ := inB_d1 hb
          rw [nN_nI (by omega)] at hQ
          obtain ⟨b, hb2, hb6, hb3⟩ := hV.b64
          refine r_aload_n hK d_M_ease_47 rfl ?_
          refine r_iload_n hK d_M_ease_48 rfl ?_
          refine r_iload_n hK d_M_ease_49 rfl ?_
          refine r_v2 (k' := 6) hK lm_M_220 d_M_ease_50 ⟨_, hM.1⟩ (by decide) (Nat.le_of_ble_eq_true rfl) ?_
          refine c_M_fewest hM hV hz0 (show putT w0 0 nw 3 = nw 3 from hS.2.2.2.2.2.2.1 3 (by omega)) (H := (fun t => sEz q e (wtV nw (nI t)))) he (Or.inr ⟨Int32.not_lt.mpr (by simp only [inB, Bool.and_eq_true, decide_eq_true_eq] at hc; exact hc.1), he1, fun _ => rfl⟩) (fun G50 u50 hM f50 => kc_s ?_)
          refine st_i_4_5 hK d_M_ease_53 trivial ?_
          refine r_iload_n hK d_M_ease_55 rfl ?_
          refine r_if_ne (tgt := 67) hK d_M_ease_56 rfl (fun h56 => ?_) (fun h56 => ?_)
          · skip
            rw [if_neg h56] at hQ
            refine r_iload hK d_M_ease_67 rfl ?_
            refine r_iret hK rfl rfl d_M_ease_69 ?_
            exact hQ _ ⟨_, _, _, hM, hS.sT hI.2.2.2.1⟩ f50
          · skip
            rw [if_pos h56] at hQ
            rw [hb3] at hQ ⊢
            obtain ⟨fz, hfz, hfe⟩ := (few_e hb6 (H := (fun t => sEz q e (wtV nw (nI t)))) (P := fun t f => (decide (nI t &&& (nI b ^^^ (-1)) = 0) && decide (bitS (nI t) 6 ≤ bitS f 6) && (fun t => sEz q e (wtV nw (nI t))) t)) (fun _ _ => rfl)).2
            rw [hfe] at hQ ⊢
            refine r_iload hK d_M_ease_59 rfl ?_
            refine r_s1 (k' := 1) hK lm_M_141 d_M_ease_61 (by decide) (Nat.le_of_ble_eq_true rfl) ?_
            refine c_M_bits (kc_s ?_)
            rw [bits_e fz hfz]
            refine r_goto (tgt := 69) hK d_M_ease_64 rfl ?_
            refine r_iret hK rfl rfl d_M_ease_69 ?_
            exact hQ _ ⟨_, _, _, hM, hS.sT hI.2.2.2.1⟩ f50
        · skip
          have hd := bI_0.mp h41
          rw [opEase, hd, Bool.and_false, if_neg (by decide)] at hQ
          refine r_ldc hK d_M_ease_44 lc_M_55 ?_
          refine r_iret hK rfl rfl d_M_ease_46 ?_
          exact hQ _ ⟨_, _, _, hM0, hS⟩ Frm.rf
  · skip
    have hst : st = false := bI_0.mp h4
    subst hst
    rw [opEase, if_neg (by cases inB m 1 60 <;> cases inB q 0 300 <;> cases inB wq 0 1 <;> decide)] at hQ
    refine r_ldc hK d_M_ease_7 lc_M_137 ?_
    refine r_iret hK rfl rfl d_M_ease_9 ?_
    exact hQ _ ⟨_, _, _, hM0, hS⟩ Frm.rf
