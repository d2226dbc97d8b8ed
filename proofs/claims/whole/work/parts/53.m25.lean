def sb (b g : Nat) : Bool := decide (nI g &&& (nI b ^^^ (-1)) = 0)
def cb (b g : Nat) : Nat := nN (bitc (nI b &&& (nI g ^^^ (-1))))
def pop (n : Nat) : Nat := n % 2 + n / 2 % 2 + n / 4 % 2 + n / 8 % 2 + n / 16 % 2 + n / 32 % 2
def wnP (c b g : Nat) : Nat := if g &&& b = g then c ^ pop g * (10 - c) ^ (pop b - pop g) else 0
def blP (c b : Nat) : Nat → Nat
  | 0 => 0
  | t + 1 => blP c b t + wnP c b t
theorem blP_e : ∀ c, c < 11 → ∀ b, b < 64 → blP c b 64 = 10 ^ pop b := by decide +kernel
theorem pop_cn : ∀ g, g < 64 → cn g = pop g := by decide +kernel
theorem sb_P : ∀ b, b < 64 → ∀ g, g < 64 → sb b g = decide (g &&& b = g) ∧ (sb b g = true → cb b g = pop b - pop g) := by decide +kernel
def WN (c b g : Nat) : Nat := if sb b g = true then c ^ cn g * (10 - c) ^ cb b g else 0
theorem WN_P {c b g : Nat} (hb : b < 64) (hg : g < 64) : WN c b g = wnP c b g := by
  obtain ⟨h1, h2⟩ := sb_P b hb g hg
  unfold WN wnP
  by_cases q : sb b g = true
  · rw [if_pos q, h2 q, pop_cn g hg]
    rw [h1] at q
    rw [if_pos (of_decide_eq_true q)]
  · rw [if_neg q]
    rw [h1] at q
    rw [if_neg (fun z => q (decide_eq_true z))]
def blN (c b : Nat) : Nat → Nat
  | 0 => 0
  | t + 1 => blN c b t + WN c b t
theorem blN_P {c b : Nat} (hb : b < 64) : ∀ t, t ≤ 64 → blN c b t = blP c b t
  | 0, _ => rfl
  | t + 1, h => by
    show blN c b t + WN c b t = blP c b t + wnP c b t
    rw [blN_P hb t (by omega), WN_P hb (by omega)]
theorem blN_e {c b : Nat} (hc : c < 11) (hb : b < 64) : blN c b 64 = 10 ^ cn b := by rw [blN_P hb 64 (by omega), blP_e c hc b hb, pop_cn b hb]
def abN (c b : Nat) (L : Nat → Bool) : Nat → Nat
  | 0 => 0
  | t + 1 => abN c b L t + (if L t = true then WN c b t else 0)
theorem abN_le {c b : Nat} {L : Nat → Bool} : ∀ t, abN c b L t ≤ blN c b t
  | 0 => Nat.le_refl _
  | t + 1 => by
    have := abN_le (c := c) (b := b) (L := L) t
    show abN c b L t + (if L t = true then WN c b t else 0) ≤ blN c b t + WN c b t
    split <;> omega
theorem pw_n {c : Nat} : ∀ n, pwI (nI c) n = nI (c ^ n)
  | 0 => rfl
  | n + 1 => by
    show pwI (nI c) n * nI c = _
    rw [pw_n n, nI_m, Nat.pow_succ]
theorem ten_s : ∀ c, c < 11 → 10 - nI c = nI (10 - c) := by decide +kernel
theorem lt_ab {c b : Nat} {L : Nat → Bool} {P : Nat → Option Int32} (hP : ∀ t, t < 64 → P t = if sb b t = true then some (if L t = true then nI (WN c b t) else 0) else none) : ∀ (k t : Nat), t + k = 64 → ltL P k t (nI (abN c b L t)) = nI (abN c b L 64)
  | 0, t, h => by rw [show t = 64 by omega]; rfl
  | k + 1, t, h => by
    show ltL P k (t + 1) (match P t with
      | some p => nI (abN c b L t) + p
      | none => nI (abN c b L t)) = _
    rw [← lt_ab hP k (t + 1) (by omega), hP t (by omega)]
    congr 1
    show _ = nI (abN c b L t + (if L t = true then WN c b t else 0))
    by_cases q : sb b t = true
    · rw [if_pos q]
      show nI (abN c b L t) + (if L t = true then nI (WN c b t) else 0) = _
      rw [← nI_add]
      split <;> rfl
    · have z : WN c b t = 0 := if_neg q
      rw [if_neg q, z]
      show nI (abN c b L t) = _
      split <;> rfl
-- the model's product
def wyN (c b g : Nat) : Nat → Nat
  | 0 => if sb b g = true then 1 else 0
  | j + 1 => wyN c b g j * (if bitB (nI b) (nI j) = true then (if bitB (nI g) (nI j) = true then c else 10 - c) else 1)
def g1 (b g : Nat) : Nat → Nat
  | 0 => 0
  | j + 1 => g1 b g j + (if bitB (nI b) (nI j) = true then (if bitB (nI g) (nI j) = true then 1 else 0) else 0)
def g0 (b g : Nat) : Nat → Nat
  | 0 => 0
  | j + 1 => g0 b g j + (if bitB (nI b) (nI j) = true then (if bitB (nI g) (nI j) = true then 0 else 1) else 0)
theorem g1_s {b g j : Nat} : g1 b g (j + 1) = g1 b g j + (if bitB (nI b) (nI j) = true then (if bitB (nI g) (nI j) = true then 1 else 0) else 0) := rfl
theorem g0_s {b g j : Nat} : g0 b g (j + 1) = g0 b g j + (if bitB (nI b) (nI j) = true then (if bitB (nI g) (nI j) = true then 0 else 1) else 0) := rfl
theorem g_e : ∀ b, b < 64 → ∀ g, g < 64 → sb b g = true → g1 b g 6 = cn g ∧ g0 b g 6 = cb b g := by decide +kernel
theorem wy_g {c b g : Nat} : ∀ j, wyN c b g j = if sb b g = true then c ^ g1 b g j * (10 - c) ^ g0 b g j else 0
  | 0 => rfl
  | j + 1 => by
    show wyN c b g j * _ = _
    rw [wy_g j]
    rw [g1_s, g0_s]
    by_cases q : sb b g = true
    · rw [if_pos q, if_pos q]
      by_cases q1 : bitB (nI b) (nI j) = true
      · by_cases q2 : bitB (nI g) (nI j) = true
        · simp only [if_pos q1, if_pos q2, Nat.pow_succ, Nat.add_zero]
          rw [Nat.mul_assoc, Nat.mul_comm _ c, ← Nat.mul_assoc]
        · simp only [if_pos q1, if_neg q2, Nat.pow_succ, Nat.add_zero]
          rw [Nat.mul_assoc]
      · simp only [if_neg q1, Nat.add_zero, Nat.mul_one]
    · rw [if_neg q, if_neg q, Nat.zero_mul]
theorem wy_W {c b g : Nat} (hb : b < 64) (hg : g < 64) : wyN c b g 6 = WN c b g := by
  rw [wy_g, WN]
  by_cases q : sb b g = true
  · rw [if_pos q, if_pos q, (g_e b hb g hg q).1, (g_e b hb g hg q).2]
  · rw [if_neg q, if_neg q]
theorem bitG : ∀ b, b < 64 → ∀ g, g < 64 → ∃ b', b' ≤ b ∧ nI b &&& (nI g ^^^ (-1)) = nI b' := by
  intro b hb g hg
  refine ⟨(nI b &&& (nI g ^^^ (-1))).toInt.toNat, ?_⟩
  revert b g
  decide +kernel
theorem Vk.wtg {v : Nat → Int32} {n g : Nat} (h : Vk v n) (hg : g < 64) : Vk (wtV v (nI g)) n := by
  obtain ⟨b, hb, hb6, e⟩ := h.b64
  obtain ⟨b', l1, l2⟩ := bitG b hb6 g hg
  show Vk (upd v 3 (v 3 &&& (nI g ^^^ (-1)))) n
  rw [e, l2]
  exact h.s3 (by omega)
-- Euclid's steps
def fbN : Nat → Nat
  | 0 => 0
  | 1 => 1
  | n + 2 => fbN n + fbN (n + 1)
theorem fb34 : fbN 34 = 5702887 := by decide +kernel
def Eud (n X Y : Nat) : Prop := Y < fbN (n + 2) ∨ (Y < X ∧ X < fbN (n + 3))
theorem Eud_0 {X Y : Nat} (h : Eud 0 X Y) : Y = 0 := by
  unfold Eud at h
  rw [show fbN (0 + 2) = 1 from rfl, show fbN (0 + 3) = 2 from rfl] at h
  omega
theorem Eud_s {n X Y : Nat} (h : Eud (n + 1) X Y) (h0 : 0 < Y) : Eud n Y (X % Y) := by
  unfold Eud at *
  have e : fbN (n + 1 + 3) = fbN (n + 2) + fbN (n + 3) := rfl
  have e2 : n + 1 + 2 = n + 3 := by omega
  rw [e, e2] at h
  have hr := Nat.mod_lt X h0
  by_cases q : Y < fbN (n + 3)
  · exact Or.inr ⟨hr, q⟩
  · left
    have hx : Y < X := by omega
    have : X % Y ≤ X - Y := by
      rw [Nat.mod_eq_sub_mod (by omega)]
      exact Nat.mod_le _ _
    omega
theorem nI_ij {a b : Nat} (ha : a < 2 ^ 31) (hb : b < 2 ^ 31) (h : nI a = nI b) : a = b := by rw [← nN_nI ha, h, nN_nI hb]
theorem sb_t {b g : Nat} : sb b g = true ↔ nI g &&& (nI b ^^^ (-1)) = 0 := decide_eq_true_iff
theorem gs_0 {n : Nat} {x : Int32} : gsI n x 0 = x := by
  cases n with
  | zero => rfl
  | succ n => exact if_pos rfl
theorem gs_p : ∀ (n X Y : Nat), X < 2 ^ 31 → Y < 2 ^ 31 → Eud n X Y → 0 < X + Y → ∃ Z, 0 < Z ∧ Z < 2 ^ 31 ∧ gsI n (nI X) (nI Y) = nI Z
  | 0, X, Y, hX, hY, h, h0 => ⟨X, by have := Eud_0 h; omega, hX, rfl⟩
  | n + 1, X, Y, hX, hY, h, h0 => by
    by_cases q : Y = 0
    · subst q
      exact ⟨X, by omega, hX, gs_0⟩
    · have hr := Nat.mod_lt X (show 0 < Y by omega)
      show ∃ Z, 0 < Z ∧ Z < 2 ^ 31 ∧ (if nI Y = 0 then nI X else gsI n (nI Y) (nI X - nI X / nI Y * nI Y)) = nI Z
      rw [if_neg (fun z => q ((eqc (n := 0) (by decide) hY).mp z)), pk_rem hX (by omega) hY]
      exact gs_p n Y (X % Y) hY (by omega) (Eud_s h (by omega)) (by omega)
theorem fr_lost {E : gX} {S : Nat} {G0 G : gG} {Q : Option Value → gG → Prop} {ini : Bool} {K : Nat → List (Option Value) → List Value → Nat → gG → Prop} (hK : Cl E "ClockPostModel" b_M_lost (Option.some Jvm.ClassFile.FieldType.int) 9 4 0 S ini G0 Q K) {c n b cc t ab bl : Nat} {f w0 nw u : Nat → Int32} {A : Nat → Nat → Int32} {q : Int32} {a3 a7 a8 : Option Value} (hM : MV G c f (putT (putT w0 0 nw) 972 u) A) (hV : Vk nw n) (h03 : putT w0 0 nw 3 = nI b) (h3 : nw 3 = nI b) (hb : b < 64) (hc : cc < 11) (ht : t < 64) {s : Int32} (hs : s = nI (wyN cc b t 0)) (kk : ∀ (G' : gG) (u' : Nat → Int32) (a7 a8 : Option Value), MV G' c f (putT (putT w0 0 nw) 972 u') A → Frm G G' c 10 → K 56 [some (.ref c), some (.int q), some (.int (nI cc)), a3, some (.int (nI (ab + (if decide (wght (wtV nw (nI t)) ≤ q) = true then WN cc b t else 0)))), some (.int (nI (bl + WN cc b t))), some (.int (nI (t + 1))), a7, a8] [] S G') (h3k : okc a3) : K 82 [some (.ref c), some (.int q), some (.int (nI cc)), a3, some (.int (nI ab)), some (.int (nI bl)), some (.int (nI t)), a7, a8] [.int s] S G := by
  refine st_i_7_9 hK d_M_lost_82 trivial ?_
  refine r_iconst hK d_M_lost_84 kc_0 ?_
  refine st_i_8_9 hK d_M_lost_85 trivial ?_
  rw [hs]
  suffices L : ∀ j, j ≤ 6 → K 87 [some (.ref c), some (.int q), some (.int (nI cc)), a3, some (.int (nI ab)), some (.int (nI bl)), some (.int (nI t)), some (.int (nI (wyN cc b t j))), some (.int (nI j))] [] S G from L 0 (by omega)
  refine lpN 6 (fun j hj ih => ?_)
  refine r_iload hK d_M_lost_87 rfl ?_
  refine r_bipush hK d_M_lost_89 kb_6 ?_
  refine r_icmp_ge (tgt := 141) hK d_M_lost_91 rfl (fun h91 => ?_) (fun h91 => ?_)
  · skip
    have hq : j = 6 := by have := (cle (n := 6) (by decide) (by omega)).mp h91; omega
    subst hq
    rw [wy_W hb ht]
    refine r_aload_n hK d_M_lost_141 rfl ?_
    refine r_v0 (k' := 2) hK lm_M_188 d_M_lost_142 ⟨_, hM.1⟩ (by decide) (Nat.le_of_ble_eq_true rfl) ?_
    refine l_trd hM (fun G142 hM f142 => kc_n ?_)
    refine r_aload_n hK d_M_lost_145 rfl ?_
    refine r_get hK lf_M_7 d_M_lost_146 (hM.1) rfl ?_
    refine r_sipush hK d_M_lost_149 ks_975 ?_
    refine r_dup2 hK d_M_lost_152 rfl rfl ?_
    refine g_tw (B := 972) (j := 3) hK d_M_lost_153 hM ((show _ = nI (972 + 3) from rfl)) (by omega) (by omega) ?_
    refine r_iload hK d_M_lost_154 rfl ?_
    refine r_iconst hK d_M_lost_156 kc_m1 ?_
    refine r_ixor hK d_M_lost_157 ?_
    refine r_iand hK d_M_lost_158 ?_
    refine s_tw (B := 972) (j := 3) hK d_M_lost_159 hM ((show _ = nI (972 + 3) from rfl)) (by omega) (by omega) (fun G159 hM f159 => ?_)
    have hF := f142.tr f159
    rw [show upd nw 3 (nw 3 &&& (nI t ^^^ (-1))) = wtV nw (nI t) from rfl] at hM
    refine r_iload hK d_M_lost_160 rfl ?_
    refine r_aload_n hK d_M_lost_162 rfl ?_
    refine r_sipush hK d_M_lost_163 ks_972 ?_
    refine r_v1 (k' := 3) hK lm_M_157 d_M_lost_166 ⟨_, hM.1⟩ (by decide) (Nat.le_of_ble_eq_true rfl) ?_
    refine c_M_burdenAt (B := 972) hM (by omega) (hV.wtg ht) (kc_s ?_)
    refine r_iload_n hK d_M_lost_169 rfl ?_
    refine r_icmp_gt (tgt := 178) hK d_M_lost_170 rfl (fun h170 => ?_) (fun h170 => ?_)
    · skip
      rw [if_neg (fun z => absurd (of_decide_eq_true z) (Int32.not_le.mpr h170))] at kk
      refine r_iconst hK d_M_lost_178 kc_0 ?_
      refine r_iadd hK d_M_lost_179 ?_
      first | rw [nI_add] | rw [Int32.add_zero]
      refine st_i_4_9 hK d_M_lost_180 h3k ?_
      refine r_iload hK d_M_lost_182 rfl ?_
      refine r_iload hK d_M_lost_184 rfl ?_
      refine r_iadd hK d_M_lost_186 ?_
      rw [nI_add]
      refine st_i_5_9 hK d_M_lost_187 trivial ?_
      first | refine iN_6_9 hK d_M_lost_189 trivial ?_ | refine ii_6_1_9 hK d_M_lost_189 trivial ?_
      refine r_goto (tgt := 56) hK d_M_lost_192 rfl ?_
      exact kk _ _ _ _ hM hF
    · skip
      rw [if_pos (decide_eq_true (Int32.not_lt.mp h170))] at kk
      refine r_iload hK d_M_lost_173 rfl ?_
      refine r_goto (tgt := 179) hK d_M_lost_175 rfl ?_
      refine r_iadd hK d_M_lost_179 ?_
      first | rw [nI_add] | rw [Int32.add_zero]
      refine st_i_4_9 hK d_M_lost_180 h3k ?_
      refine r_iload hK d_M_lost_182 rfl ?_
      refine r_iload hK d_M_lost_184 rfl ?_
      refine r_iadd hK d_M_lost_186 ?_
      rw [nI_add]
      refine st_i_5_9 hK d_M_lost_187 trivial ?_
      first | refine iN_6_9 hK d_M_lost_189 trivial ?_ | refine ii_6_1_9 hK d_M_lost_189 trivial ?_
      refine r_goto (tgt := 56) hK d_M_lost_192 rfl ?_
      exact kk _ _ _ _ hM hF
  · skip
    have hq : j < 6 := Nat.not_le.mp (fun z => h91 ((cle (n := 6) (by decide) (by omega)).mpr z))
    refine r_iload hK d_M_lost_94 rfl ?_
    refine r_aload_n hK d_M_lost_96 rfl ?_
    refine r_get hK lf_M_7 d_M_lost_97 (hM.1) rfl ?_
    refine r_iconst hK d_M_lost_100 kc_3 ?_
    refine g_lo (j := 3) hK d_M_lost_101 hM (rfl) (by omega) (by omega) ?_
    rw [h03]
    refine r_iload hK d_M_lost_102 rfl ?_
    refine r_s2 (k' := 1) hK lm_M_138 d_M_lost_104 (by decide) (Nat.le_of_ble_eq_true rfl) ?_
    refine c_M_has (kc_s ?_)
    refine r_if_eq (tgt := 131) hK d_M_lost_107 rfl (fun h107 => ?_) (fun h107 => ?_)
    · skip
      have hw : wyN cc b t (j + 1) = wyN cc b t j * 1 := by rw [wyN, if_neg (by rw [bI_0.mp h107]; decide)]
      refine r_iconst hK d_M_lost_131 kc_1 ?_
      refine r_imul hK d_M_lost_132 ?_
      first | rw [nI_m, ← hw] | (rw [show (1 : Int32) = nI 1 from rfl, nI_m, ← hw])
      refine st_i_7_9 hK d_M_lost_133 trivial ?_
      first | refine iN_8_9 hK d_M_lost_135 trivial ?_ | refine ii_8_1_9 hK d_M_lost_135 trivial ?_
      refine r_goto (tgt := 87) hK d_M_lost_138 rfl ?_
      exact ih hq
    · skip
      refine r_iload hK d_M_lost_110 rfl ?_
      refine r_iload hK d_M_lost_112 rfl ?_
      refine r_s2 (k' := 1) hK lm_M_138 d_M_lost_114 (by decide) (Nat.le_of_ble_eq_true rfl) ?_
      refine c_M_has (kc_s ?_)
      refine r_if_eq (tgt := 124) hK d_M_lost_117 rfl (fun h117 => ?_) (fun h117 => ?_)
      · skip
        have hw : wyN cc b t (j + 1) = wyN cc b t j * (10 - cc) := by rw [wyN, if_pos (bI_n0.mp h107), if_neg (by rw [bI_0.mp h117]; decide)]
        refine r_bipush hK d_M_lost_124 kb_10 ?_
        refine r_iload_n hK d_M_lost_126 rfl ?_
        refine r_isub hK d_M_lost_127 ?_
        rw [ten_s cc hc]
        refine r_goto (tgt := 132) hK d_M_lost_128 rfl ?_
        refine r_imul hK d_M_lost_132 ?_
        first | rw [nI_m, ← hw] | (rw [show (1 : Int32) = nI 1 from rfl, nI_m, ← hw])
        refine st_i_7_9 hK d_M_lost_133 trivial ?_
        first | refine iN_8_9 hK d_M_lost_135 trivial ?_ | refine ii_8_1_9 hK d_M_lost_135 trivial ?_
        refine r_goto (tgt := 87) hK d_M_lost_138 rfl ?_
        exact ih hq
      · skip
        have hw : wyN cc b t (j + 1) = wyN cc b t j * cc := by rw [wyN, if_pos (bI_n0.mp h107), if_pos (bI_n0.mp h117)]
        refine r_iload_n hK d_M_lost_120 rfl ?_
        refine r_goto (tgt := 132) hK d_M_lost_121 rfl ?_
        refine r_imul hK d_M_lost_132 ?_
        first | rw [nI_m, ← hw] | (rw [show (1 : Int32) = nI 1 from rfl, nI_m, ← hw])
        refine st_i_7_9 hK d_M_lost_133 trivial ?_
        first | refine iN_8_9 hK d_M_lost_135 trivial ?_ | refine ii_8_1_9 hK d_M_lost_135 trivial ?_
        refine r_goto (tgt := 87) hK d_M_lost_138 rfl ?_
        exact ih hq
theorem c_M_lost {E : gX} {S : Nat} {G : gG} {Q : Option Value → gG → Prop} {c : Nat} {f w : Nat → Int32} {A : Nat → Nat → Int32} {st : Bool} {nw : Nat → Int32} {ac : Nat → Nat → Int32} {na : Nat} {ik : Nat → Bool} {im : Nat → Nat → Int32} {rp : Nat → Bool} {rl : Nat → Int32} {rs : Nat → Nat} {ri : Nat → Nat → Int32} {tp : Nat → Int32} {tn : Nat} {lf : Int32} {fd : Int32} {tr : Nat → Int32} {un : Nat} (hM : MV G c f w A) (hS : MS f w A (st, nw, ac, na, ik, im, rp, rl, rs, ri, tp, tn, lf, fd, tr, un)) (hI : MI (st, nw, ac, na, ik, im, rp, rl, rs, ri, tp, tn, lf, fd, tr, un)) {m s wq : Int32} (hQ : ∀ G' : gG, MR G' c (opLost (st, nw, ac, na, ik, im, rp, rl, rs, ri, tp, tn, lf, fd, tr, un) m s wq).2 → Frm G G' c 10 → Q (some (.int (opLost (st, nw, ac, na, ik, im, rp, rl, rs, ri, tp, tn, lf, fd, tr, un) m s wq).1)) G') : Runs E y_M_lost 4 0 S [.ref c, .int m, .int s, .int wq] G Q := by
  refine Runs.of "ClockPostModel" [some (.ref c), some (.int m), some (.int s), some (.int wq), none, none, none, none, none] cw_M_lost (by decide) (by decide +kernel) rfl (Nat.le_of_ble_eq_true rfl) rfl (fun K hK => ?_)
  obtain ⟨w0, hw0⟩ : ∃ x, w = putT x 0 nw := ⟨_, hS.t0⟩
  subst hw0
  obtain ⟨n, hV⟩ := hI.1
  have h6 := hV.1
  have hz0 : putT w0 0 nw 0 = nI n := (hS.2.2.2.2.2.2.1 0 (by omega)).trans hV.2.1
  have hM0 := hM
  obtain ⟨w1, hw1⟩ : ∃ x, putT w0 0 nw = putT (putT w0 0 nw) 972 x := ⟨_, putT_id⟩
  rw [hw1] at hM
  refine r_aload_n hK d_M_lost_0 rfl ?_
  refine r_get hK lf_M_130 d_M_lost_1 (hM.1) rfl ?_
  rw [hS.1]
  refine r_if_ne (tgt := 10) hK d_M_lost_4 rfl (fun h4 => ?_) (fun h4 => ?_)
  · skip
    have hst : st = true := bI_n0.mp h4
    subst hst
    refine r_iload_n hK d_M_lost_10 rfl ?_
    refine r_i2l hK d_M_lost_11 ?_
    refine r_lconst (v := 0) hK d_M_lost_12 rfl ?_
    refine r_ldc2 hK d_M_lost_13 lc_M_223 ?_
    refine r_s3 (k' := 1) hK lm_M_45 d_M_lost_16 (by decide) (Nat.le_of_ble_eq_true rfl) ?_
    refine c_M_in (a := 0) (b := 300) (by decide) (by decide) (kc_s ?_)
    refine r_if_eq (tgt := 44) hK d_M_lost_19 rfl (fun h19 => ?_) (fun h19 => ?_)
    · skip
      have hb := bI_0.mp h19
      rw [opLost, hb, Bool.false_and, Bool.false_and, if_neg (by decide)] at hQ
      refine r_ldc hK d_M_lost_44 lc_M_55 ?_
      refine r_iret hK rfl rfl d_M_lost_46 ?_
      exact hQ _ ⟨_, _, _, hM0, hS⟩ Frm.rf
    · skip
      have hb := bI_n0.mp h19
      refine r_iload_n hK d_M_lost_22 rfl ?_
      refine r_i2l hK d_M_lost_23 ?_
      refine r_lconst (v := 0) hK d_M_lost_24 rfl ?_
      refine r_ldc2 hK d_M_lost_25 lc_M_234 ?_
      refine r_s3 (k' := 1) hK lm_M_45 d_M_lost_28 (by decide) (Nat.le_of_ble_eq_true rfl) ?_
      refine c_M_in (a := 0) (b := 10) (by decide) (by decide) (kc_s ?_)
      refine r_if_eq (tgt := 44) hK d_M_lost_31 rfl (fun h31 => ?_) (fun h31 => ?_)
      · skip
        have hc := bI_0.mp h31
        rw [opLost, hc, Bool.and_false, Bool.false_and, if_neg (by decide)] at hQ
        refine r_ldc hK d_M_lost_44 lc_M_55 ?_
        refine r_iret hK rfl rfl d_M_lost_46 ?_
        exact hQ _ ⟨_, _, _, hM0, hS⟩ Frm.rf
      · skip
        have hc := bI_n0.mp h31
        refine r_iload_n hK d_M_lost_34 rfl ?_
        refine r_i2l hK d_M_lost_35 ?_
        refine r_lconst (v := 0) hK d_M_lost_36 rfl ?_
        refine r_lconst (v := 1) hK d_M_lost_37 rfl ?_
        refine r_s3 (k' := 1) hK lm_M_45 d_M_lost_38 (by decide) (Nat.le_of_ble_eq_true rfl) ?_
        refine c_M_in (a := 0) (b := 1) (by decide) (by decide) (kc_s ?_)
        refine r_if_ne (tgt := 47) hK d_M_lost_41 rfl (fun h41 => ?_) (fun h41 => ?_)
        · skip
          have hd := bI_n0.mp h41
          rw [opLost, hb, hc, hd, if_pos (by decide)] at hQ
          obtain ⟨cc, hcc, rfl⟩ : ∃ y : Nat, y < 11 ∧ s = nI y := by
            simp only [inB, Bool.and_eq_true, decide_eq_true_eq] at hc
            obtain ⟨j, hj, rfl⟩ := nI_of (Int32.not_lt.mpr hc.1)
            exact ⟨j, by have := (lec (n := 10) (by decide) hj).mp hc.2; omega, rfl⟩
          obtain ⟨b, hb2, hb6, hb3⟩ := hV.b64
          obtain ⟨L, hL⟩ : ∃ L : Nat → Bool, ∀ t, L t = decide (wght (wtV nw (nI t)) ≤ m) := ⟨_, fun _ => rfl⟩
          have hab : ltL (fun t => if nI t &&& (nw 3 ^^^ (-1)) = 0 then some (if wght (wtV nw (nI t)) ≤ m then pwI (nI cc) (nN (bitc (nI t))) * pwI (10 - nI cc) (nN (bitc (wtV nw (nI t) 3))) else 0) else none) 64 0 0 = nI (abN cc b L 64) := by
            refine lt_ab (c := cc) (b := b) (L := L) (fun t ht => ?_) 64 0 rfl
            have e3 : wtV nw (nI t) 3 = nI b &&& (nI t ^^^ (-1)) := by rw [wtV, upd_s, hb3]
            have ew : nI (WN cc b t) = if sb b t = true then pwI (nI cc) (nN (bitc (nI t))) * pwI (10 - nI cc) (nN (bitc (wtV nw (nI t) 3))) else 0 := by
              rw [ten_s cc hcc, pw_n, pw_n, nI_m, e3, WN]
              split <;> rfl
            rw [hb3, ew, hL]
            by_cases q : sb b t = true
            · rw [if_pos q, if_pos q, if_pos (of_decide_eq_true q)]
              by_cases q2 : wght (wtV nw (nI t)) ≤ m
              · rw [if_pos q2, if_pos (decide_eq_true q2)]
              · rw [if_neg q2, if_neg (fun z => q2 (of_decide_eq_true z))]
            · rw [if_neg q, if_neg (fun z => q (decide_eq_true z))]
          have hbl : pwI 10 (nN (bitc (nw 3))) = nI (blN cc b 64) := by
            rw [blN_e hcc hb6, hb3]
            exact pw_n (c := 10) _
          have hbb : blN cc b 64 ≤ 1000000 ∧ 1 ≤ blN cc b 64 := by
            rw [blN_e hcc hb6]
            have := (cn_e b hb6).2
            exact ⟨Nat.pow_le_pow_right (n := 10) (by omega) this, Nat.pow_pos (by omega)⟩
          have haa := abN_le (c := cc) (b := b) (L := L) 64
          have hst : Eud 32 (abN cc b L 64) (blN cc b 64) := Or.inl (by rw [show 32 + 2 = 34 from rfl, fb34]; omega)
          obtain ⟨Z, hZ0, hZ1, hZ⟩ := gs_p 32 _ _ (show abN cc b L 64 < 2 ^ 31 by omega) (show blN cc b 64 < 2 ^ 31 by omega) hst (by omega)
          have hmx : (if (1 : Int32) < nI Z then nI Z else 1) = nI Z := by
            by_cases q : (1 : Int32) < nI Z
            · rw [if_pos q]
            · rw [if_neg q]
              have : Z = 1 := by
                rw [clt (n := 1) (by decide) hZ1] at q
                omega
              rw [this]
              rfl
          simp only [hab, hbl] at hQ
          rw [hZ, hmx] at hQ
          refine r_iconst hK d_M_lost_47 kc_0 ?_
          refine st_i_4_9 hK d_M_lost_48 trivial ?_
          refine r_iconst hK d_M_lost_50 kc_0 ?_
          refine st_i_5_9 hK d_M_lost_51 trivial ?_
          refine r_iconst hK d_M_lost_53 kc_0 ?_
          refine st_i_6_9 hK d_M_lost_54 trivial ?_
          suffices L : ∀ t, t ≤ 64 → ∀ (G1 : gG) (u : Nat → Int32) (a7 a8 : Option Value), MV G1 c f (putT (putT w0 0 nw) 972 u) A → Frm G G1 c 10 → K 56 [some (.ref c), some (.int m), some (.int (nI cc)), some (.int wq), some (.int (nI (abN cc b L t))), some (.int (nI (blN cc b t))), some (.int (nI t)), a7, a8] [] S G1 from L 0 (by omega) _ _ _ _ hM Frm.rf
          clear hM
          refine lpN 64 (fun t ht ih G1 u a7 a8 hM hF => ?_)
          refine r_iload hK d_M_lost_56 rfl ?_
          refine r_bipush hK d_M_lost_58 kb_64 ?_
          refine r_icmp_ge (tgt := 195) hK d_M_lost_60 rfl (fun h60 => ?_) (fun h60 => ?_)
          · skip
            have hq7 : t = 64 := by have := (cle (n := 64) (by decide) (by omega)).mp h60; omega
            subst hq7
            refine r_iload hK d_M_lost_195 rfl ?_
            refine st_i_6_9 hK d_M_lost_197 trivial ?_
            refine r_iload hK d_M_lost_199 rfl ?_
            refine st_i_7_9 hK d_M_lost_201 trivial ?_
            suffices L : ∀ N X Y : Nat, X < 2 ^ 31 → Y < 2 ^ 31 → Eud N X Y → gsI N (nI X) (nI Y) = nI Z → ∀ a8 : Option Value, K 203 [some (.ref c), some (.int m), some (.int (nI cc)), some (.int wq), some (.int (nI (abN cc b L 64))), some (.int (nI (blN cc b 64))), some (.int (nI X)), some (.int (nI Y)), a8] [] S G1 from L 32 _ _ (by omega) (by omega) hst hZ _
            refine indN (fun N ih X Y hX1 hY1 hSt hE a8 => ?_)
            refine r_iload hK d_M_lost_203 rfl ?_
            refine r_if_eq (tgt := 226) hK d_M_lost_205 rfl (fun h205 => ?_) (fun h205 => ?_)
            · skip
              have hY : Y = 0 := (eqc (n := 0) (by decide) hY1).mp h205
              subst hY
              rw [show nI 0 = (0 : Int32) from rfl, gs_0] at hE
              refine r_iload_n hK d_M_lost_226 rfl ?_
              refine r_if_ne (tgt := 238) hK d_M_lost_227 rfl (fun h227 => ?_) (fun h227 => ?_)
              · skip
                rw [if_neg h227] at hQ
                refine r_iload hK d_M_lost_238 rfl ?_
                refine r_iload hK d_M_lost_240 rfl ?_
                have hXZ := nI_ij hX1 hZ1 hE
                rw [← hE] at hQ
                refine r_idiv hK d_M_lost_242 (fun z => absurd ((eqc (n := 0) (by decide) hX1).mp z) (by omega)) ?_
                refine r_iret hK rfl rfl d_M_lost_243 ?_
                exact hQ _ ⟨_, _, _, hM, hS.sT hI.2.2.2.1⟩ hF
              · skip
                rw [if_pos h227] at hQ
                refine r_iload hK d_M_lost_230 rfl ?_
                refine r_iload hK d_M_lost_232 rfl ?_
                have hXZ := nI_ij hX1 hZ1 hE
                rw [← hE] at hQ
                refine r_idiv hK d_M_lost_234 (fun z => absurd ((eqc (n := 0) (by decide) hX1).mp z) (by omega)) ?_
                refine r_goto (tgt := 243) hK d_M_lost_235 rfl ?_
                refine r_iret hK rfl rfl d_M_lost_243 ?_
                exact hQ _ ⟨_, _, _, hM, hS.sT hI.2.2.2.1⟩ hF
            · skip
              have hY : ¬ Y = 0 := fun z => h205 (by rw [z]; rfl)
              have hrm := Nat.mod_lt X (show 0 < Y by omega)
              obtain ⟨k, rfl⟩ : ∃ k, N = k + 1 := by
                rcases N with _ | k
                · exact absurd (Eud_0 hSt) hY
                · exact ⟨k, rfl⟩
              have ih := ih k rfl
              rw [gsI, if_neg h205, pk_rem hX1 (by omega) hY1] at hE
              refine r_iload hK d_M_lost_208 rfl ?_
              refine r_iload hK d_M_lost_210 rfl ?_
              refine r_irem hK d_M_lost_212 (h205) ?_
              rw [pk_rem hX1 (by omega) hY1]
              refine st_i_8_9 hK d_M_lost_213 trivial ?_
              refine r_iload hK d_M_lost_215 rfl ?_
              refine st_i_6_9 hK d_M_lost_217 trivial ?_
              refine r_iload hK d_M_lost_219 rfl ?_
              refine st_i_7_9 hK d_M_lost_221 trivial ?_
              refine r_goto (tgt := 203) hK d_M_lost_223 rfl ?_
              exact ih _ _ hY1 (by omega) (Eud_s hSt (by omega)) hE _
          · skip
            have hq7 : t < 64 := Nat.not_le.mp (fun z => h60 ((cle (n := 64) (by decide) (by omega)).mpr z))
            refine r_iload hK d_M_lost_63 rfl ?_
            refine r_aload_n hK d_M_lost_65 rfl ?_
            refine r_get hK lf_M_7 d_M_lost_66 (hM.1) rfl ?_
            refine r_iconst hK d_M_lost_69 kc_3 ?_
            refine g_lo (j := 3) hK d_M_lost_70 hM (rfl) (by omega) (by omega) ?_
            rw [hS.2.2.2.2.2.2.1 3 (by omega), hb3]
            refine r_iconst hK d_M_lost_71 kc_m1 ?_
            refine r_ixor hK d_M_lost_72 ?_
            refine r_iand hK d_M_lost_73 ?_
            refine r_if_ne (tgt := 81) hK d_M_lost_74 rfl (fun h74 => ?_) (fun h74 => ?_)
            · skip
              have hs : (0 : Int32) = nI (wyN cc b t 0) := by rw [wyN, if_neg (fun z => h74 (sb_t.mp z))]; rfl
              refine r_iconst hK d_M_lost_81 kc_0 ?_
              have ih := ih hq7
              rw [show abN cc b L (t + 1) = abN cc b L t + (if decide (wght (wtV nw (nI t)) ≤ m) = true then WN cc b t else 0) by rw [← hL]; rfl, show blN cc b (t + 1) = blN cc b t + WN cc b t from rfl] at ih
              exact fr_lost hK hM hV ((hS.2.2.2.2.2.2.1 3 (by omega)).trans hb3) hb3 hb6 hcc hq7 hs (fun G2 u2 a7 a8 hM f2 => ih _ _ _ _ hM (hF.tr f2)) trivial
            · skip
              have hs : (1 : Int32) = nI (wyN cc b t 0) := by rw [wyN, if_pos (sb_t.mpr h74)]; rfl
              refine r_iconst hK d_M_lost_77 kc_1 ?_
              refine r_goto (tgt := 82) hK d_M_lost_78 rfl ?_
              have ih := ih hq7
              rw [show abN cc b L (t + 1) = abN cc b L t + (if decide (wght (wtV nw (nI t)) ≤ m) = true then WN cc b t else 0) by rw [← hL]; rfl, show blN cc b (t + 1) = blN cc b t + WN cc b t from rfl] at ih
              exact fr_lost hK hM hV ((hS.2.2.2.2.2.2.1 3 (by omega)).trans hb3) hb3 hb6 hcc hq7 hs (fun G2 u2 a7 a8 hM f2 => ih _ _ _ _ hM (hF.tr f2)) trivial
        · skip
          have hd := bI_0.mp h41
          rw [opLost, hd, Bool.and_false, if_neg (by decide)] at hQ
          refine r_ldc hK d_M_lost_44 lc_M_55 ?_
          refine r_iret hK rfl rfl d_M_lost_46 ?_
          exact hQ _ ⟨_, _, _, hM0, hS⟩ Frm.rf
  · skip
    have hst : st = false := bI_0.mp h4
    subst hst
    rw [opLost, if_neg (by cases inB m 0 300 <;> cases inB s 0 10 <;> cases inB wq 0 1 <;> decide)] at hQ
    refine r_ldc hK d_M_lost_7 lc_M_137 ?_
    refine r_iret hK rfl rfl d_M_lost_9 ?_
    exact hQ _ ⟨_, _, _, hM0, hS⟩ Frm.rf
