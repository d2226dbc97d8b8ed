def eq5 (v w : Nat → Int32) : Prop := ∀ k, k ≠ 5 → v k = w k
theorem eq5.rf {v : Nat → Int32} : eq5 v v := fun _ _ => rfl
theorem eq5.b {v w : Nat → Int32} (h : eq5 v w) (i : Int32) : behB v i = behB w i := behB_c (h 0 (by omega)) (h 3 (by omega)) i
theorem eq5.wo {v w : Nat → Int32} (h : eq5 v w) (j : Nat) : wOf v j = wOf w j := by
  unfold wOf
  rw [h.b, h (6 + j) (by omega), h (12 + j) (by omega), h (30 + j) (by omega), h 3 (by omega)]
theorem eq5.ws {v w : Nat → Int32} (h : eq5 v w) : ∀ j, wSum v j = wSum w j
  | 0 => rfl
  | j + 1 => by
    show wSum v j + wOf v j = wSum w j + wOf w j
    rw [h.ws j, h.wo j]
theorem eq5.w {v w : Nat → Int32} (h : eq5 v w) : wght v = wght w := by
  unfold wght
  rw [h 0 (by omega), h.ws]
theorem eq5.ts {v w : Nat → Int32} (h : eq5 v w) : ∀ j, tSum v j = tSum w j
  | 0 => rfl
  | j + 1 => by
    show tSum v j + (if behB v (nI j) then v (18 + j) else 0) = tSum w j + (if behB w (nI j) then w (18 + j) else 0)
    rw [h.ts j, h.b, h (18 + j) (by omega)]
theorem eq5.t {v w : Nat → Int32} (h : eq5 v w) : thck v = thck w := by
  unfold thck
  rw [h 0 (by omega), h.ts]
theorem eq5.f {v w : Nat → Int32} (h : eq5 v w) (j k : Nat) : fAh v j k = fAh w j k := by
  unfold fAh
  rw [h (18 + j) (by omega), h (18 + k) (by omega), h (30 + j) (by omega), h (30 + k) (by omega)]
theorem eq5.nt {v w : Nat → Int32} (h : eq5 v w) : ∀ j, ntf v j = ntf w j
  | 0 => rfl
  | j + 1 => by
    simp only [ntf]
    rw [h.nt j, h.b]
    simp only [h.f]
theorem eq5.up {v w : Nat → Int32} (h : eq5 v w) {k : Nat} {x y : Int32} (e : x = y ∨ k = 5) : eq5 (upd v k x) (upd w k y) := fun j hj => by
  by_cases z : j = k
  · subst z
    rw [upd_s, upd_s]
    exact e.elim id (fun q => absurd q hj)
  · rw [upd_n z, upd_n z]; exact h j hj
theorem eq5.away {v w : Nat → Int32} (h : eq5 v w) {i g g' : Int32} : eq5 (awayV v i g) (awayV w i g') := by
  unfold awayV
  exact (h.up (Or.inl (by rw [h 3 (by omega)]))).up (Or.inr rfl)
theorem eq5.age {v w : Nat → Int32} (h : eq5 v w) (m : Nat) : eq5 (ageV v m) (ageV w m) := fun k hk => by
  unfold ageV
  rw [h.b, h k hk]
theorem eq5.day {v w : Nat → Int32} (h : eq5 v w) : eq5 (dayV v) (dayV w) := by
  unfold dayV
  rw [h 0 (by omega)]
  refine eq5.up (eq5.age ?_ _) (Or.inl (by rw [h 2 (by omega)]))
  unfold sumV
  exact h.up (Or.inl (by rw [h 4 (by omega), h.w]))
theorem eq5.fall : ∀ (m : Nat) {v w : Nat → Int32} (f : Option Nat), eq5 v w → eq5 (fallV m v f).1 (fallV m w f).1 ∧ (fallV m v f).2 = (fallV m w f).2
  | 0, _, _, _, h => ⟨h, rfl⟩
  | m + 1, v, w, f, h => by
    simp only [fallV]
    rw [h.t, h 1 (by omega), h 0 (by omega), h.nt]
    split
    · cases hk : ntf w (nN (w 0)) with
      | none => exact eq5.fall m f h
      | some k => exact eq5.fall m _ h.away
    · exact ⟨h, rfl⟩
theorem eq5.pass {v w : Nat → Int32} (h : eq5 v w) : eq5 (passV v).1 (passV w).1 ∧ (passV v).2 = (passV w).2 := by
  unfold passV
  rw [h 0 (by omega)]
  exact eq5.fall _ none h.day
theorem eq5.nf : ∀ (k : Nat) {v w : Nat → Int32}, eq5 v w → noF k v = noF k w
  | 0, _, _, _ => rfl
  | k + 1, v, w, h => by
    simp only [noF]
    rw [h.pass.2]
    split
    · exact eq5.nf k h.pass.1
    · rfl
theorem eq5.ez {q : Int32} : ∀ (k : Nat) {v w : Nat → Int32}, eq5 v w → sEz q k v = sEz q k w
  | 0, _, _, _ => rfl
  | k + 1, v, w, h => by
    simp only [sEz]
    rw [h.w]
    split
    · exact eq5.ez k h.pass.1
    · rfl
-- what answersAll makes: every letter of the set answered
def aaL (s : Int32) (v : Nat → Int32) : Nat → (Nat → Int32)
  | 0 => v
  | j + 1 => if bitB s (nI j) = true then awayV (aaL s v j) (nI j) (aaL s v j (24 + j) / 2) else aaL s v j
def clr (s : Int32) (x : Int32) : Nat → Int32
  | 0 => x
  | j + 1 => if bitB s (nI j) = true then clr s x j &&& ((1 <<< (nI j &&& 31)) ^^^ (-1)) else clr s x j
theorem aaL_k {s : Int32} {v : Nat → Int32} : ∀ j k, k ≠ 3 → k ≠ 5 → aaL s v j k = v k
  | 0, _, _, _ => rfl
  | j + 1, k, h3, h5 => by
    unfold aaL
    split
    · unfold awayV; rw [upd_n h5, upd_n h3]; exact aaL_k j k h3 h5
    · exact aaL_k j k h3 h5
theorem aaL_3 {s : Int32} {v : Nat → Int32} : ∀ j, aaL s v j 3 = clr s (v 3) j
  | 0 => rfl
  | j + 1 => by
    unfold aaL clr
    split
    · unfold awayV; rw [upd_n (by omega), upd_s, aaL_3 j]
    · exact aaL_3 j
theorem clr6 : ∀ b, b < 64 → ∀ s, s < 64 → clr (nI s) (nI b) 6 = nI b &&& (nI s ^^^ (-1)) := by decide +kernel
theorem sub_n : ∀ n, n ≤ 6 → ∀ s, s < 64 → ∀ j, j < 6 → n ≤ j → s < 2 ^ n → bitB (nI s) (nI j) = false := by decide +kernel
theorem sub_lt : ∀ b, b < 64 → ∀ s, s < 64 → nI s &&& (nI b ^^^ (-1)) = 0 → s ≤ b := by decide +kernel
theorem clr_n {n s : Nat} {x : Int32} (hs : s < 2 ^ n) (h6 : n ≤ 6) : ∀ m, n + m ≤ 6 → clr (nI s) x (n + m) = clr (nI s) x n
  | 0, _ => rfl
  | m + 1, h => by
    have : (2 : Nat) ^ n ≤ 2 ^ 6 := Nat.pow_le_pow_right (by omega) h6
    show (if bitB (nI s) (nI (n + m)) = true then _ else clr (nI s) x (n + m)) = _
    rw [sub_n n h6 s (by omega) (n + m) (by omega) (by omega) hs, if_neg (by decide)]
    exact clr_n hs h6 m (by omega)
theorem aaL_e {v : Nat → Int32} {n s : Nat} (h : Vk v n) (hs : s < 64) (hb : nI s &&& (v 3 ^^^ (-1)) = 0) : eq5 (aaL (nI s) v n) (wtV v (nI s)) := by
  obtain ⟨b, hb2, hb6, e⟩ := h.b64
  have h6 := h.1
  rw [e] at hb
  have := sub_lt b hb6 s hs hb
  intro k hk
  by_cases z : k = 3
  · subst z
    rw [aaL_3, wtV, upd_s, e]
    have c := clr_n (n := n) (s := s) (x := nI b) (by omega) h6 (6 - n) (by omega)
    rw [show n + (6 - n) = 6 by omega, clr6 b hb6 s hs] at c
    exact c.symm
  · rw [aaL_k _ _ z hk, wtV, upd_n z]
theorem Vk.aa {v : Nat → Int32} {n : Nat} {s : Int32} (h : Vk v n) : ∀ j, j ≤ n → Vk (aaL s v j) n
  | 0, _ => h
  | j + 1, hj => by
    unfold aaL
    split
    · exact ((h.aa j (by omega)).away (by omega)).1
    · exact h.aa j (by omega)
theorem c_M_answersAll {E : gX} {S : Nat} {G : gG} {Q : Option Value → gG → Prop} {c n : Nat} {f w0 nw u : Nat → Int32} {A : Nat → Nat → Int32} (hM : MV G c f (putT (putT w0 0 nw) 972 u) A) (hV : Vk nw n) (h00 : putT w0 0 nw 0 = nI n) {s : Int32} (hQ : ∀ G' : gG, MV G' c f (putT (putT w0 0 nw) 972 (aaL s nw n)) A → Frm G G' c 10 → Q none G') : Runs E y_M_answersAll 4 0 S [.ref c, .int s] G Q := by
  refine Runs.of "ClockPostModel" [some (.ref c), some (.int s), none] cw_M_answersAll (by decide) (by decide +kernel) rfl (Nat.le_of_ble_eq_true rfl) rfl (fun K hK => ?_)
  refine r_aload_n hK d_M_answersAll_0 rfl ?_
  refine r_v0 (k' := 2) hK lm_M_188 d_M_answersAll_1 ⟨_, hM.1⟩ (by decide) (Nat.le_of_ble_eq_true rfl) ?_
  refine l_trd hM (fun G1 hM f1 => kc_n ?_)
  refine r_iconst hK d_M_answersAll_4 kc_0 ?_
  refine st_in_2_3 hK d_M_answersAll_5 trivial ?_
  have h6 := hV.1
  suffices L : ∀ j, j ≤ n → ∀ G1 : gG, MV G1 c f (putT (putT w0 0 nw) 972 (aaL s nw j)) A → Frm G G1 c 10 → K 6 [some (.ref c), some (.int s), some (.int (nI j))] [] S G1 from L 0 (by omega) _ hM f1
  clear hM
  refine lpN n (fun j hj ih G1 hM hF => ?_)
  refine r_iload_n hK d_M_answersAll_6 rfl ?_
  refine r_aload_n hK d_M_answersAll_7 rfl ?_
  refine r_get hK lf_M_7 d_M_answersAll_8 (hM.1) rfl ?_
  refine r_iconst hK d_M_answersAll_11 kc_0 ?_
  refine g_lo (j := 0) hK d_M_answersAll_12 hM (rfl) (by omega) (by omega) ?_
  rw [h00]
  refine r_icmp_ge (tgt := 38) hK d_M_answersAll_13 rfl (fun h13 => ?_) (fun h13 => ?_)
  · skip
    have hq : j = n := by have := (nI_leI (by omega) (by omega)).mp h13; omega
    subst hq
    refine r_vret hK rfl rfl d_M_answersAll_38 ?_
    exact hQ _ hM hF
  · skip
    have hq : j < n := Nat.not_le.mp (fun z => h13 ((nI_leI (by omega) (by omega)).mpr z))
    refine r_iload_n hK d_M_answersAll_16 rfl ?_
    refine r_iload_n hK d_M_answersAll_17 rfl ?_
    refine r_s2 (k' := 1) hK lm_M_138 d_M_answersAll_18 (by decide) (Nat.le_of_ble_eq_true rfl) ?_
    refine c_M_has (kc_s ?_)
    refine r_if_eq (tgt := 32) hK d_M_answersAll_21 rfl (fun h21 => ?_) (fun h21 => ?_)
    · skip
      have hs : aaL s nw (j + 1) = aaL s nw j := by rw [aaL, if_neg (by rw [bI_0.mp h21]; decide)]
      rw [← hs] at hM
      first | refine iN_2_3 hK d_M_answersAll_32 trivial ?_ | refine ii_2_1_3 hK d_M_answersAll_32 trivial ?_
      refine r_goto (tgt := 6) hK d_M_answersAll_35 rfl ?_
      exact ih hq _ hM hF
    · skip
      have hs : aaL s nw (j + 1) = awayV (aaL s nw j) (nI j) (aaL s nw j (24 + j) / 2) := by rw [aaL, if_pos (bI_n0.mp h21)]
      refine r_aload_n hK d_M_answersAll_24 rfl ?_
      refine r_sipush hK d_M_answersAll_25 ks_972 ?_
      refine r_iload_n hK d_M_answersAll_28 rfl ?_
      refine r_v2 (k' := 3) hK lm_M_178 d_M_answersAll_29 ⟨_, hM.1⟩ (by decide) (Nat.le_of_ble_eq_true rfl) ?_
      refine c_M_answers (B := 972) (j := j) hM (by omega) (hV.aa j (by omega)) hq (fun G29 hM f29 => kc_n ?_)
      have hF := hF.tr f29
      rw [← hs] at hM
      first | refine iN_2_3 hK d_M_answersAll_32 trivial ?_ | refine ii_2_1_3 hK d_M_answersAll_32 trivial ?_
      refine r_goto (tgt := 6) hK d_M_answersAll_35 rfl ?_
      exact ih hq _ hM hF
theorem c_M_holds {E : gX} {S : Nat} {G : gG} {Q : Option Value → gG → Prop} {c n : Nat} {f w0 nw u : Nat → Int32} {A : Nat → Nat → Int32} (hM : MV G c f (putT (putT w0 0 nw) 972 u) A) (hV : Vk nw n) (h00 : putT w0 0 nw 0 = nI n) {s d : Nat} (hs : s < 64) (hb : nI s &&& (nw 3 ^^^ (-1)) = 0) (hd : d < 61) (hQ : ∀ (G' : gG) (u' : Nat → Int32), MV G' c f (putT (putT w0 0 nw) 972 u') A → Frm G G' c 10 → Q (some (.int (bI (noF d (wtV nw (nI s)))))) G') : Runs E y_M_holds 5 0 S [.ref c, .int (nI s), .int (nI d)] G Q := by
  refine Runs.of "ClockPostModel" [some (.ref c), some (.int (nI s)), some (.int (nI d)), none] cw_M_holds (by decide) (by decide +kernel) rfl (Nat.le_of_ble_eq_true rfl) rfl (fun K hK => ?_)
  refine r_aload_n hK d_M_holds_0 rfl ?_
  refine r_iload_n hK d_M_holds_1 rfl ?_
  refine r_v1 (k' := 4) hK lm_M_210 d_M_holds_2 ⟨_, hM.1⟩ (by decide) (Nat.le_of_ble_eq_true rfl) ?_
  refine c_M_answersAll hM hV h00 (fun G2 hM f2 => kc_n ?_)
  refine r_iconst hK d_M_holds_5 kc_0 ?_
  refine st_in_3_4 hK d_M_holds_6 trivial ?_
  suffices L : ∀ j, j ≤ d → ∀ (G1 : gG) (u1 : Nat → Int32), MV G1 c f (putT (putT w0 0 nw) 972 u1) A → Vk u1 n → noF (d - j) u1 = noF d (wtV nw (nI s)) → Frm G G1 c 10 → K 7 [some (.ref c), some (.int (nI s)), some (.int (nI d)), some (.int (nI j))] [] S G1 from L 0 (Nat.zero_le _) _ _ hM (hV.aa n (Nat.le_refl _)) (eq5.nf _ (aaL_e hV hs hb)) f2
  clear hM
  refine lpN d (fun j hj ih G1 u1 hM hU hE hF => ?_)
  refine r_iload_n hK d_M_holds_7 rfl ?_
  refine r_iload_n hK d_M_holds_8 rfl ?_
  refine r_icmp_ge (tgt := 32) hK d_M_holds_9 rfl (fun h9 => ?_) (fun h9 => ?_)
  · skip
    have hq : j = d := by have := (nI_leI (by omega) (by omega)).mp h9; omega
    rw [hq, Nat.sub_self, noF] at hE
    rw [← hE] at hQ
    refine r_iconst hK d_M_holds_32 kc_1 ?_
    refine r_zret hK rfl (rfl) rfl d_M_holds_33 ?_
    exact hQ _ _ hM hF
  · skip
    have hq : j < d := Nat.not_le.mp (fun z => h9 ((nI_leI (by omega) (by omega)).mpr z))
    rw [show d - j = (d - (j + 1)) + 1 by omega, noF] at hE
    refine r_aload_n hK d_M_holds_12 rfl ?_
    refine r_sipush hK d_M_holds_13 ks_972 ?_
    refine r_v1 (k' := 4) hK lm_M_167 d_M_holds_16 ⟨_, hM.1⟩ (by decide) (Nat.le_of_ble_eq_true rfl) ?_
    refine c_M_pass (B := 972) hM (by omega) hU (fun G16 hM f16 => kc_s ?_)
    have hF := hF.tr f16
    have hlt : ∀ k, (passV u1).2 = some k → k < 6 := fun k hk => by
      have := passV_m hU hk
      omega
    refine r_ldc hK d_M_holds_19 lc_M_147 ?_
    refine r_icmp_eq (tgt := 26) hK d_M_holds_21 rfl (fun h21 => ?_) (fun h21 => ?_)
    · skip
      rw [if_pos ((oI_n hlt).mp h21)] at hE
      first | refine iN_3_4 hK d_M_holds_26 trivial ?_ | refine ii_3_1_4 hK d_M_holds_26 trivial ?_
      refine r_goto (tgt := 7) hK d_M_holds_29 rfl ?_
      exact ih hq _ _ hM hU.pass hE hF
    · skip
      rw [if_neg (fun z => h21 ((oI_n hlt).mpr z))] at hE
      rw [← hE] at hQ
      refine r_iconst hK d_M_holds_24 kc_0 ?_
      refine r_zret hK rfl (rfl) rfl d_M_holds_25 ?_
      exact hQ _ _ hM hF
theorem fr_eases {E : gX} {S : Nat} {G0 G : gG} {Q : Option Value → gG → Prop} {ini : Bool} {K : Nat → List (Option Value) → List Value → Nat → gG → Prop} (hK : Cl E "ClockPostModel" b_M_eases (Option.some Jvm.ClassFile.FieldType.boolean) 6 5 0 S ini G0 Q K) {c n : Nat} {f W u : Nat → Int32} {A : Nat → Nat → Int32} {d : Nat} {q : Int32} {a1 : Option Value} (hd : d < 61) {ez : Bool} (hQ : ∀ (G' : gG) (u' : Nat → Int32), MV G' c f (putT W 972 u') A → Frm G G' c 10 → Q (some (.int (bI ez))) G') {j : Nat} (hj1 : 1 ≤ j) (hjd : j ≤ d) (hM : MV G c f (putT W 972 u) A) (hU : Vk u n) (hE : (if wght u ≤ q then sEz q (d - j) (passV u).1 else false) = ez) : K 26 [some (.ref c), a1, some (.int (nI d)), some (.int q), some (.int (bI (decide (wght u ≤ q)))), some (.int (nI j))] [] S G := by
  suffices L : ∀ j, j ≤ d → 1 ≤ j → ∀ (G1 : gG) (u : Nat → Int32), MV G1 c f (putT W 972 u) A → Vk u n → (if wght u ≤ q then sEz q (d - j) (passV u).1 else false) = ez → Frm G G1 c 10 → K 26 [some (.ref c), a1, some (.int (nI d)), some (.int q), some (.int (bI (decide (wght u ≤ q)))), some (.int (nI j))] [] S G1 from L j hjd hj1 _ _ hM hU hE Frm.rf
  clear hM hU hE hj1 hjd
  refine lpN d (fun j hj ih hj1 G1 u hM hU hE hF => ?_)
  refine r_iload hK d_M_eases_26 rfl ?_
  refine r_iload_n hK d_M_eases_28 rfl ?_
  refine r_icmp_ge (tgt := 69) hK d_M_eases_29 rfl (fun h29 => ?_) (fun h29 => ?_)
  · skip
    have hq : j = d := by have := (nI_leI (by omega) (by omega)).mp h29; omega
    rw [hq, Nat.sub_self, sEz] at hE
    refine r_iload hK d_M_eases_69 rfl ?_
    refine r_zret hK rfl (bI_nar _) rfl d_M_eases_71 ?_
    first | exact hQ _ _ hM hF | (rw [show decide (wght u ≤ q) = ez by rw [← hE]; cases z : decide (wght u ≤ q) with | true => rw [if_pos (of_decide_eq_true z)] | false => rw [if_neg (of_decide_eq_false z)]]; exact hQ _ _ hM hF)
  · skip
    have hq : j < d := Nat.not_le.mp (fun z => h29 ((nI_leI (by omega) (by omega)).mpr z))
    rw [show d - j = (d - (j + 1)) + 1 by omega, sEz] at hE
    refine r_iload hK d_M_eases_32 rfl ?_
    refine r_if_eq (tgt := 69) hK d_M_eases_34 rfl (fun h34 => ?_) (fun h34 => ?_)
    · skip
      rw [if_neg (of_decide_eq_false (bI_0.mp h34))] at hE
      rw [← hE] at hQ
      rw [bI_0.mp h34]
      refine r_iload hK d_M_eases_69 rfl ?_
      refine r_zret hK rfl (bI_nar _) rfl d_M_eases_71 ?_
      first | exact hQ _ _ hM hF | (rw [show decide (wght u ≤ q) = ez by rw [← hE]; cases z : decide (wght u ≤ q) with | true => rw [if_pos (of_decide_eq_true z)] | false => rw [if_neg (of_decide_eq_false z)]]; exact hQ _ _ hM hF)
    · skip
      rw [if_pos (of_decide_eq_true (bI_n0.mp h34))] at hE
      refine r_aload_n hK d_M_eases_37 rfl ?_
      refine r_sipush hK d_M_eases_38 ks_972 ?_
      refine r_v1 (k' := 4) hK lm_M_167 d_M_eases_41 ⟨_, hM.1⟩ (by decide) (Nat.le_of_ble_eq_true rfl) ?_
      refine c_M_pass (B := 972) hM (by omega) hU (fun G41 hM f41 => kc_s ?_)
      have hF := hF.tr f41
      have hU := hU.pass
      refine r_pop hK d_M_eases_44 rfl ?_
      refine r_aload_n hK d_M_eases_45 rfl ?_
      refine r_sipush hK d_M_eases_46 ks_972 ?_
      refine r_v1 (k' := 3) hK lm_M_157 d_M_eases_49 ⟨_, hM.1⟩ (by decide) (Nat.le_of_ble_eq_true rfl) ?_
      refine c_M_burdenAt (B := 972) hM (by omega) hU (kc_s ?_)
      refine r_iload_n hK d_M_eases_52 rfl ?_
      refine r_icmp_gt (tgt := 60) hK d_M_eases_53 rfl (fun h53 => ?_) (fun h53 => ?_)
      · skip
        have hd2 : (0 : Int32) = bI (decide (wght (passV u).1 ≤ q)) := by rw [decide_eq_false (Int32.not_le.mpr h53)]; rfl
        refine r_iconst hK d_M_eases_60 kc_0 ?_
        rw [hd2]
        refine st_i_4_6 hK d_M_eases_61 trivial ?_
        first | refine iN_5_6 hK d_M_eases_63 trivial ?_ | refine ii_5_1_6 hK d_M_eases_63 trivial ?_
        refine r_goto (tgt := 26) hK d_M_eases_66 rfl ?_
        exact ih hq (by omega) _ _ hM hU hE hF
      · skip
        have hd2 : (1 : Int32) = bI (decide (wght (passV u).1 ≤ q)) := by rw [decide_eq_true (Int32.not_lt.mp h53)]; rfl
        refine r_iconst hK d_M_eases_56 kc_1 ?_
        refine r_goto (tgt := 61) hK d_M_eases_57 rfl ?_
        rw [hd2]
        refine st_i_4_6 hK d_M_eases_61 trivial ?_
        first | refine iN_5_6 hK d_M_eases_63 trivial ?_ | refine ii_5_1_6 hK d_M_eases_63 trivial ?_
        refine r_goto (tgt := 26) hK d_M_eases_66 rfl ?_
        exact ih hq (by omega) _ _ hM hU hE hF
theorem c_M_eases {E : gX} {S : Nat} {G : gG} {Q : Option Value → gG → Prop} {c n : Nat} {f w0 nw u : Nat → Int32} {A : Nat → Nat → Int32} (hM : MV G c f (putT (putT w0 0 nw) 972 u) A) (hV : Vk nw n) (h00 : putT w0 0 nw 0 = nI n) {s d : Nat} {q : Int32} (hs : s < 64) (hb : nI s &&& (nw 3 ^^^ (-1)) = 0) (hd : d < 61) (hd1 : 1 ≤ d) (hQ : ∀ (G' : gG) (u' : Nat → Int32), MV G' c f (putT (putT w0 0 nw) 972 u') A → Frm G G' c 10 → Q (some (.int (bI (sEz q d (wtV nw (nI s)))))) G') : Runs E y_M_eases 5 0 S [.ref c, .int (nI s), .int (nI d), .int q] G Q := by
  refine Runs.of "ClockPostModel" [some (.ref c), some (.int (nI s)), some (.int (nI d)), some (.int q), none, none] cw_M_eases (by decide) (by decide +kernel) rfl (Nat.le_of_ble_eq_true rfl) rfl (fun K hK => ?_)
  refine r_aload_n hK d_M_eases_0 rfl ?_
  refine r_iload_n hK d_M_eases_1 rfl ?_
  refine r_v1 (k' := 4) hK lm_M_210 d_M_eases_2 ⟨_, hM.1⟩ (by decide) (Nat.le_of_ble_eq_true rfl) ?_
  refine c_M_answersAll hM hV h00 (fun G2 hM f2 => kc_n ?_)
  refine r_aload_n hK d_M_eases_5 rfl ?_
  refine r_sipush hK d_M_eases_6 ks_972 ?_
  refine r_v1 (k' := 3) hK lm_M_157 d_M_eases_9 ⟨_, hM.1⟩ (by decide) (Nat.le_of_ble_eq_true rfl) ?_
  refine c_M_burdenAt (B := 972) hM (by omega) (hV.aa n (Nat.le_refl _)) (kc_s ?_)
  refine r_iload_n hK d_M_eases_12 rfl ?_
  refine r_icmp_gt (tgt := 20) hK d_M_eases_13 rfl (fun h13 => ?_) (fun h13 => ?_)
  · skip
    have hd2 : (0 : Int32) = bI (decide (wght (aaL (nI s) nw n) ≤ q)) := by rw [decide_eq_false (Int32.not_le.mpr h13)]; rfl
    refine r_iconst hK d_M_eases_20 kc_0 ?_
    rw [hd2]
    refine st_i_4_6 hK d_M_eases_21 trivial ?_
    refine r_iconst hK d_M_eases_23 kc_1 ?_
    refine st_i_5_6 hK d_M_eases_24 trivial ?_
    exact fr_eases hK hd (ez := sEz q d (wtV nw (nI s))) (fun G3 u3 hM f3 => hQ _ _ hM (f2.tr f3)) (j := 1) (by omega) hd1 hM (hV.aa n (Nat.le_refl _)) (by rw [← eq5.ez d (aaL_e hV hs hb)]; obtain ⟨d1, rfl⟩ : ∃ y, d = y + 1 := ⟨d - 1, by omega⟩; rfl)
  · skip
    have hd2 : (1 : Int32) = bI (decide (wght (aaL (nI s) nw n) ≤ q)) := by rw [decide_eq_true (Int32.not_lt.mp h13)]; rfl
    refine r_iconst hK d_M_eases_16 kc_1 ?_
    refine r_goto (tgt := 21) hK d_M_eases_17 rfl ?_
    rw [hd2]
    refine st_i_4_6 hK d_M_eases_21 trivial ?_
    refine r_iconst hK d_M_eases_23 kc_1 ?_
    refine st_i_5_6 hK d_M_eases_24 trivial ?_
    exact fr_eases hK hd (ez := sEz q d (wtV nw (nI s))) (fun G3 u3 hM f3 => hQ _ _ hM (f2.tr f3)) (j := 1) (by omega) hd1 hM (hV.aa n (Nat.le_refl _)) (by rw [← eq5.ez d (aaL_e hV hs hb)]; obtain ⟨d1, rfl⟩ : ∃ y, d = y + 1 := ⟨d - 1, by omega⟩; rfl)
