theorem MS.ln {f w : Nat → Int32} {A : Nat → Nat → Int32} {st : Bool} {nw : Nat → Int32} {ac : Nat → Nat → Int32} {na : Nat} {ik : Nat → Bool} {im : Nat → Nat → Int32} {rp : Nat → Bool} {rl : Nat → Int32} {rs : Nat → Nat} {ri : Nat → Nat → Int32} {tp : Nat → Int32} {tn : Nat} {lf : Int32} {fd : Int32} {tr : Nat → Int32} {un : Nat} {q : Nat} {X : Nat → Int32} (h : MS f w A (st, nw, ac, na, ik, im, rp, rl, rs, ri, tp, tn, lf, fd, tr, un)) (hq8 : 8 ≤ q) : MS f w (va_up A q X) (st, nw, ac, na, ik, im, rp, rl, rs, ri, tp, tn, lf, fd, tr, un) :=
  ⟨h.1, h.2.1, h.2.2.1, h.2.2.2.1, h.2.2.2.2.1, h.2.2.2.2.2.1, h.2.2.2.2.2.2.1, h.2.2.2.2.2.2.2.1, h.2.2.2.2.2.2.2.2.1, fun i hi => by rw [va_up_n (by omega)]; exact h.2.2.2.2.2.2.2.2.2.1 i hi, fun i hi => by rw [va_up_n (by omega)]; exact h.2.2.2.2.2.2.2.2.2.2.1 i hi, fun i hi hq => by
    rw [va_up_n (show 3 ≠ q by omega), va_up_n (show 5 ≠ q by omega)]
    exact h.2.2.2.2.2.2.2.2.2.2.2.1 i hi hq, fun k hk => by rw [va_up_n (by omega)]; exact h.2.2.2.2.2.2.2.2.2.2.2.2.1 k hk, fun k hk => by rw [va_up_n (by omega)]; exact h.2.2.2.2.2.2.2.2.2.2.2.2.2 k hk⟩
theorem ozB_l {s : Int32} : ∀ j, (ozB s j).length ≤ j
  | 0 => Nat.le_refl _
  | j + 1 => by
    have := ozB_l (s := s) j
    unfold ozB
    split
    · rw [List.length_append]; show _ + 1 ≤ _; omega
    · omega
theorem lnL.ap {X : Nat → Int32} {p : List Nat} {x : Nat} (h : lnL X p) : lnL (upd X p.length (nI x)) (p ++ [x]) := fun k hk => by
  by_cases z : k = p.length
  · subst z
    rw [upd_s, List.getElem_concat_length rfl]
  · have hk2 : k < p.length := by rw [List.length_append] at hk; have : k < p.length + 1 := hk; omega
    rw [upd_n z, List.getElem_append_left hk2]
    exact h k hk2
theorem lnL.of {X : Nat → Int32} {p q : List Nat} {l : Nat → Nat} (h : lnA X l p.length) (e : ozT l p.length = q) : lnL X q := fun k hk => by
  subst e
  have hk2 : k < p.length := by simpa [ozT] using hk
  rw [h k hk2]
  simp [ozT]
theorem lnL.A {X : Nat → Int32} {p : List Nat} (h : lnL X p) : lnA X (ozF p) p.length := fun k hk => by
  rw [h k hk]
  simp [ozF, hk]
theorem ozF_8 {p : List Nat} (h : ∀ i, i ∈ p → i < 6) : ∀ k, k < p.length → ozF p k < 8 := fun k hk => by
  have := h _ (List.getElem_mem hk)
  have e : ozF p k = p[k] := by simp [ozF, hk]
  omega
-- what of a set lies in another
theorem sub_N {x : Int32} {b : Nat} (hb : b < 64) (h : x &&& (nI b ^^^ (-1)) = 0) : ∃ s, s < 64 ∧ x = nI s := by
  have e : x = x &&& nI b := by
    apply Int32.toBitVec_inj.mp
    have h2 := congrArg Int32.toBitVec h
    apply BitVec.eq_of_getLsbD_eq
    intro i hi
    have h3 := congrArg (fun z => z.getLsbD i) h2
    simp only [Int32.toBitVec_and, Int32.toBitVec_xor, BitVec.getLsbD_and, BitVec.getLsbD_xor] at h3 ⊢
    have h4 : (Int32.toBitVec (-1)).getLsbD i = true := by
      rw [show Int32.toBitVec (-1) = BitVec.allOnes 32 by decide, BitVec.getLsbD_allOnes]
      exact decide_eq_true hi
    have h5 : (Int32.toBitVec 0).getLsbD i = false := by
      rw [show Int32.toBitVec 0 = 0#32 by decide]
      simp
    rw [h4, h5] at h3
    cases hx : x.toBitVec.getLsbD i <;> cases hy : (nI b).toBitVec.getLsbD i <;> simp_all
  have hn : (nI b).toBitVec.toNat = b := by
    show (BitVec.ofNat 32 b).toNat = b
    rw [BitVec.toNat_ofNat]
    omega
  have hx : x.toBitVec.toNat ≤ b := by
    rw [e, Int32.toBitVec_and, BitVec.toNat_and, hn]
    exact Nat.and_le_right
  refine ⟨x.toBitVec.toNat, by omega, ?_⟩
  apply Int32.toBitVec_inj.mp
  apply BitVec.eq_of_toNat_eq
  show _ = (BitVec.ofNat 32 x.toBitVec.toNat).toNat
  rw [BitVec.toNat_ofNat]
  omega
def lst : Option (Int32 × List Nat) → Int32
  | none => -1000000
  | some a => a.1
def bstL (X : Nat → Int32) : Option (Int32 × List Nat) → Prop
  | none => True
  | some a => lnL X a.2 ∧ 0 ≤ a.1.toInt
theorem lnL.up {X : Nat → Int32} {p : List Nat} {j : Nat} (h : ∀ k (q : k < p.length), k < j → X k = nI p[k]) (hj : j < p.length) : ∀ k (q : k < p.length), k < j + 1 → upd X j (nI p[j]) k = nI p[k] := fun k q hk => by
  by_cases z : k = j
  · subst z; rw [upd_s]
  · rw [upd_n z]; exact h k q (by omega)
theorem ord_e {nw : Nat → Int32} {n s : Nat} (hV : Vk nw n) (hs : s < 64) {R : Option (Int32 × List Nat)} (hR : (ozP 6 (nI s)).foldl (ozE nw 0 []) none = R) {a : Int32 × List Nat} (hRa : R = some a) (ha : a.2.length = cn s) {k : Int32} (hk : inB k (-1) 5 = true) (tr0 bst0 : Nat → Int32) : (if k < nI (cn s) then (if 0 ≤ k then nI (a.2.getD (nN k) 0) else a.1) else -1000000) = ordA tr0 bst0 nw (nI s) k := by
  have hc := cn_e s hs
  obtain ⟨h, -⟩ := ext_oz (n := n) 6 nw 0 [] (tr0, bst0, 1000000) none s hV hs hc.2 rfl (by rw [ti_0]; omega) (by rw [ti_0]; exact Int.le_refl _) (fun k h => absurd h (by show ¬ k < 0; omega)) rfl
  rw [hR, hRa] at h
  obtain ⟨h1, h2⟩ := h
  unfold ordA
  rw [hc.1]
  by_cases q : k < nI (cn s)
  · rw [if_pos q, if_pos q]
    by_cases z : 0 ≤ k
    · rw [if_pos z, if_pos z]
      obtain ⟨x, hx, rfl⟩ := nI_of (Int32.not_lt.mpr z)
      have hxs : x < cn s := (nI_ltI hx (by omega)).mp q
      rw [nN_nI hx, h2 x (by omega) (by omega)]
      congr 1
      have : x < a.2.length := by omega
      simp [this]
    · rw [if_neg z, if_neg z]
      exact h1.symm
  · rw [if_neg q, if_neg q]
theorem ozE_s {v : Nat → Int32} {g : Int32} {m : Nat} : ∀ (L : List (List Nat)) (acc : Option (Int32 × List Nat)), (∀ p, p ∈ L → p.length = m) → (∀ a, acc = some a → a.2.length = m) → (L ≠ [] ∨ acc ≠ none) → ∃ a, L.foldl (ozE v g []) acc = some a ∧ a.2.length = m
  | [], none, _, _, h => h.elim (fun z => absurd rfl z) (fun z => absurd rfl z)
  | [], some a, _, h2, _ => ⟨a, rfl, h2 a rfl⟩
  | p :: r, acc, h1, h2, _ => by
    rw [List.foldl_cons]
    refine ozE_s r _ (fun q hq => h1 q (List.mem_cons_of_mem _ hq)) (fun a ha => ?_) (Or.inr ?_)
    · cases acc with
      | none =>
        have ha : some (ozG v g p, [] ++ p) = some a := ha
        cases ha
        exact h1 p (List.mem_cons_self ..)
      | some b =>
        have ha : (if b.1 ≤ ozG v g p then some b else some (ozG v g p, [] ++ p)) = some a := ha
        split at ha
        · cases ha; exact h2 _ rfl
        · cases ha; exact h1 p (List.mem_cons_self ..)
    · cases acc with
      | none => exact fun z => by cases z
      | some b =>
        show (if b.1 ≤ ozG v g p then some b else some (ozG v g p, [] ++ p)) ≠ none
        split <;> exact fun z => by cases z
theorem va_up_89 {A : Nat → Nat → Int32} {x y z : Nat → Int32} : va_up (va_up (va_up A 8 x) 9 y) 8 z = va_up (va_up A 8 z) 9 y := by
  funext q
  by_cases e : q = 8
  · subst e; rw [va_up_s, va_up_n (by omega), va_up_s]
  · rw [va_up_n e]
    by_cases e2 : q = 9
    · subst e2; rw [va_up_s, va_up_s]
    · rw [va_up_n e2, va_up_n e2, va_up_n e, va_up_n e]
theorem ozC_c {p q : List Nat} {r : List (List Nat)} (h : ozC (p :: q :: r) = true) : ((ozN (ozF p) p.length).1 = true ∧ ozT (ozN (ozF p) p.length).2 p.length = q) ∧ ozC (q :: r) = true := by
  have h2 : ((ozN (ozF p) p.length).1 && decide (ozT (ozN (ozF p) p.length).2 p.length = q) && ozC (q :: r)) = true := h
  simp only [Bool.and_eq_true, decide_eq_true_eq] at h2
  exact h2
theorem fr_o3 {E : gX} {S : Nat} {G0 G : gG} {Q : Option Value → gG → Prop} {ini : Bool} {K : Nat → List (Option Value) → List Value → Nat → gG → Prop} (hK : Cl E "ClockPostModel" b_M_order (Option.some Jvm.ClassFile.FieldType.int) 8 6 0 S ini G0 Q K) {c : Nat} {f W : Nat → Int32} {A : Nat → Nat → Int32} {p : List Nat} {a1 a2 : Option Value} {by_ : Int32} {ls a7 : Option Value} (hM : MV G c f W A) (hl : lnL (A 8) p) (h6 : p.length ≤ 6) (hp : ∀ i, i ∈ p → i < 6) (kk : ∀ (G' : gG) (B : Nat → Int32), MV G' c f W (va_up A 8 B) → Frm G G' c 10 → lnA B (ozN (ozF p) p.length).2 p.length → K 89 [some (.ref c), a1, a2, some (.int (nI p.length)), ls, some (.int (bI (ozN (ozF p) p.length).1)), some (.int by_), a7] [] S G') (h4 : okc ls) : K 148 [some (.ref c), a1, a2, some (.int (nI p.length)), ls, some (.int 1), some (.int by_), a7] [] S G := by
  refine r_aload_n hK d_M_order_148 rfl ?_
  refine r_iload_n hK d_M_order_149 rfl ?_
  refine r_v1 (k' := 2) hK lm_M_207 d_M_order_150 ⟨_, hM.1⟩ (by decide) (Nat.le_of_ble_eq_true rfl) ?_
  refine c_M_nextLine hM hl.A h6 (ozF_8 hp) (fun G150 B hM f150 hB => kc_s ?_)
  refine st_i_5_8 hK d_M_order_153 h4 ?_
  refine r_goto (tgt := 89) hK d_M_order_155 rfl ?_
  exact kk _ _ hM f150 hB
theorem fr_o2 {E : gX} {S : Nat} {G0 G : gG} {Q : Option Value → gG → Prop} {ini : Bool} {K : Nat → List (Option Value) → List Value → Nat → gG → Prop} (hK : Cl E "ClockPostModel" b_M_order (Option.some Jvm.ClassFile.FieldType.int) 8 6 0 S ini G0 Q K) {c : Nat} {f W : Nat → Int32} {A : Nat → Nat → Int32} {p : List Nat} {a1 a2 : Option Value} {by_ : Int32} {l0 a7 : Option Value} (hM : MV G c f W A) (hl : lnL (A 8) p) (h6 : p.length ≤ 6) (kk : ∀ (G' : gG) (B : Nat → Int32) (a7 : Option Value), MV G' c f W (va_up A 9 B) → Frm G G' c 10 → lnL B p → K 148 [some (.ref c), a1, a2, some (.int (nI p.length)), some (.int by_), some (.int 1), some (.int by_), a7] [] S G') : K 115 [some (.ref c), a1, a2, some (.int (nI p.length)), l0, some (.int 1), some (.int by_), a7] [] S G := by
  refine r_iload hK d_M_order_115 rfl ?_
  refine st_i_4_8 hK d_M_order_117 trivial ?_
  refine r_iconst hK d_M_order_119 kc_0 ?_
  refine st_i_7_8 hK d_M_order_120 trivial ?_
  suffices L : ∀ j, j ≤ p.length → ∀ (G1 : gG) (B : Nat → Int32), MV G1 c f W (va_up A 9 B) → (∀ k (q : k < p.length), k < j → B k = nI p[k]) → Frm G G1 c 10 → K 122 [some (.ref c), a1, a2, some (.int (nI p.length)), some (.int by_), some (.int 1), some (.int by_), some (.int (nI j))] [] S G1 from L 0 (Nat.zero_le _) G (A 9) (by rw [va_up_id]; exact hM) (fun k _ h => absurd h (by omega)) Frm.rf
  clear hM
  refine lpN p.length (fun j hj ih G1 B hM hB hF => ?_)
  refine r_iload hK d_M_order_122 rfl ?_
  refine r_iload_n hK d_M_order_124 rfl ?_
  refine r_icmp_ge (tgt := 148) hK d_M_order_125 rfl (fun h125 => ?_) (fun h125 => ?_)
  · skip
    have hq : p.length ≤ j := (nI_leI (by omega) (by omega)).mp h125
    exact kk _ _ _ hM hF (fun k hk => hB k hk (by omega))
  · skip
    have hq : j < p.length := Nat.not_le.mp (fun z => h125 ((nI_leI (by omega) (by omega)).mpr z))
    refine r_aload_n hK d_M_order_128 rfl ?_
    refine r_get hK lf_M_35 d_M_order_129 (hM.1) rfl ?_
    refine r_iload hK d_M_order_132 rfl ?_
    refine r_aload_n hK d_M_order_134 rfl ?_
    refine r_get hK lf_M_32 d_M_order_135 (hM.1) rfl ?_
    refine r_iload hK d_M_order_138 rfl ?_
    refine g_a8 (j := j) hK d_M_order_140 hM (rfl) (by omega) ?_
    rw [va_up_n (show 8 ≠ 9 by omega), hl j hq]
    refine s_a9 (j := j) hK d_M_order_141 hM (rfl) (by omega) (fun G141 hM f141 => ?_)
    have hF := hF.tr f141
    rw [va_up_s, va_up_2] at hM
    first | refine iN_7_8 hK d_M_order_142 trivial ?_ | refine ii_7_1_8 hK d_M_order_142 trivial ?_
    refine r_goto (tgt := 122) hK d_M_order_145 rfl ?_
    exact ih hq _ _ hM (lnL.up hB hq) hF
theorem fr_o1 {E : gX} {S : Nat} {G0 G : gG} {Q : Option Value → gG → Prop} {ini : Bool} {K : Nat → List (Option Value) → List Value → Nat → gG → Prop} (hK : Cl E "ClockPostModel" b_M_order (Option.some Jvm.ClassFile.FieldType.int) 8 6 0 S ini G0 Q K) {c m : Nat} {f W : Nat → Int32} {A : Nat → Nat → Int32} {a1 a6 a7 : Option Value} {k ls : Int32} {q : List Nat} (hM : MV G c f W A) (hl : lnL (A 9) q) (hq : q.length = m) (h6 : m ≤ 6) (hk : inB k (-1) 5 = true) (hQ : Q (some (.int (if k < nI m then (if 0 ≤ k then nI (q.getD (nN k) 0) else ls) else -1000000))) G) : K 89 [some (.ref c), a1, some (.int k), some (.int (nI m)), some (.int ls), some (.int 0), a6, a7] [] S G := by
  refine r_iload hK d_M_order_89 rfl ?_
  refine r_if_eq (tgt := 158) hK d_M_order_91 rfl (fun h91 => ?_) (fun h91 => ?_)
  · skip
    refine r_iload_n hK d_M_order_158 rfl ?_
    refine r_if_ge (tgt := 167) hK d_M_order_159 rfl (fun h159 => ?_) (fun h159 => ?_)
    · skip
      obtain ⟨x, hx, rfl⟩ := nI_of (Int32.not_lt.mpr h159)
      refine r_iload_n hK d_M_order_167 rfl ?_
      refine r_iload_n hK d_M_order_168 rfl ?_
      refine r_icmp_ge (tgt := 181) hK d_M_order_169 rfl (fun h169 => ?_) (fun h169 => ?_)
      · skip
        rw [if_neg (Int32.not_lt.mpr h169)] at hQ
        refine r_ldc hK d_M_order_181 lc_M_147 ?_
        refine r_iret hK rfl rfl d_M_order_183 ?_
        first | exact hQ | (rw [show q.getD x 0 = q[x] by simp [hxm]] at hQ; exact hQ)
      · skip
        have hlt := Int32.not_le.mp h169
        rw [if_pos hlt, if_pos h159, nN_nI hx] at hQ
        have hxm : x < q.length := by rw [hq]; exact (nI_ltI hx (by omega)).mp hlt
        refine r_aload_n hK d_M_order_172 rfl ?_
        refine r_get hK lf_M_35 d_M_order_173 (hM.1) rfl ?_
        refine r_iload_n hK d_M_order_176 rfl ?_
        refine g_a9 (j := x) hK d_M_order_177 hM rfl (by omega) ?_
        rw [hl x hxm]
        refine r_goto (tgt := 183) hK d_M_order_178 rfl ?_
        refine r_iret hK rfl rfl d_M_order_183 ?_
        first | exact hQ | (rw [show q.getD x 0 = q[x] by simp [hxm]] at hQ; exact hQ)
    · skip
      rw [if_pos (Int32.lt_of_lt_of_le (Int32.not_le.mp h159) (nI_nn (by omega))), if_neg h159] at hQ
      refine r_iload hK d_M_order_162 rfl ?_
      refine r_goto (tgt := 183) hK d_M_order_164 rfl ?_
      refine r_iret hK rfl rfl d_M_order_183 ?_
      first | exact hQ | (rw [show q.getD x 0 = q[x] by simp [hxm]] at hQ; exact hQ)
  · skip
    exact absurd rfl h91
theorem c_M_order {E : gX} {S : Nat} {G : gG} {Q : Option Value → gG → Prop} {c : Nat} {f w : Nat → Int32} {A : Nat → Nat → Int32} {st : Bool} {nw : Nat → Int32} {ac : Nat → Nat → Int32} {na : Nat} {ik : Nat → Bool} {im : Nat → Nat → Int32} {rp : Nat → Bool} {rl : Nat → Int32} {rs : Nat → Nat} {ri : Nat → Nat → Int32} {tp : Nat → Int32} {tn : Nat} {lf : Int32} {fd : Int32} {tr : Nat → Int32} {un : Nat} (hM : MV G c f w A) (hS : MS f w A (st, nw, ac, na, ik, im, rp, rl, rs, ri, tp, tn, lf, fd, tr, un)) (hI : MI (st, nw, ac, na, ik, im, rp, rl, rs, ri, tp, tn, lf, fd, tr, un)) {ls k : Int32} (hQ : ∀ (G' : gG) (x : Int32), MR G' c (st, nw, ac, na, ik, im, rp, rl, rs, ri, tp, tn, lf, fd, tr, un) → Frm G G' c 10 → (∀ tr0 bst0 : Nat → Int32, x = (if rfu st (decide (ls &&& (nw 3 ^^^ (-1)) = 0) && inB k (-1) 5) = 0 then ordA tr0 bst0 nw ls k else rfu st (decide (ls &&& (nw 3 ^^^ (-1)) = 0) && inB k (-1) 5))) → Q (some (.int x)) G') : Runs E y_M_order 6 0 S [.ref c, .int ls, .int k] G Q := by
  refine Runs.of "ClockPostModel" [some (.ref c), some (.int ls), some (.int k), none, none, none, none, none] cw_M_order (by decide) (by decide +kernel) rfl (Nat.le_of_ble_eq_true rfl) rfl (fun K hK => ?_)
  obtain ⟨w0, hw0⟩ : ∃ x, w = putT x 0 nw := ⟨_, hS.t0⟩
  subst hw0
  obtain ⟨n, hV⟩ := hI.1
  have h6 := hV.1
  have hz0 : putT w0 0 nw 0 = nI n := (hS.2.2.2.2.2.2.1 0 (by omega)).trans hV.2.1
  obtain ⟨b, hb2, hb6, hb3⟩ := hV.b64
  have hM0 := hM
  obtain ⟨w1, hw1⟩ : ∃ x, putT w0 0 nw = putT (putT w0 0 nw) 972 x := ⟨_, putT_id⟩
  rw [hw1] at hM
  refine r_aload_n hK d_M_order_0 rfl ?_
  refine r_get hK lf_M_130 d_M_order_1 (hM.1) rfl ?_
  rw [hS.1]
  refine r_if_ne (tgt := 10) hK d_M_order_4 rfl (fun h4 => ?_) (fun h4 => ?_)
  · skip
    have hst : st = true := bI_n0.mp h4
    subst hst
    refine r_iload_n hK d_M_order_10 rfl ?_
    refine r_if_lt (tgt := 41) hK d_M_order_11 rfl (fun h11 => ?_) (fun h11 => ?_)
    · skip
      have hno : (decide (ls &&& (nw 3 ^^^ (-1)) = 0) && inB k (-1) 5) = false := by
        rw [decide_eq_false (fun z => ?_), Bool.false_and]
        rw [hb3] at z
        obtain ⟨y, hy, e⟩ := sub_N hb6 z
        rw [e] at h11
        exact absurd h11 (Int32.not_lt.mpr (nI_nn (by omega)))
      refine r_ldc hK d_M_order_41 lc_M_55 ?_
      refine r_iret hK rfl rfl d_M_order_43 ?_
      exact hQ _ _ ⟨_, _, _, hM0, hS⟩ Frm.rf (fun _ _ => by rw [hno]; rfl)
    · skip
      refine r_iload_n hK d_M_order_14 rfl ?_
      refine r_aload_n hK d_M_order_15 rfl ?_
      refine r_get hK lf_M_7 d_M_order_16 (hM.1) rfl ?_
      refine r_iconst hK d_M_order_19 kc_3 ?_
      refine g_lo (j := 3) hK d_M_order_20 hM (rfl) (by omega) (by omega) ?_
      rw [hS.2.2.2.2.2.2.1 3 (by omega)]
      refine r_iconst hK d_M_order_21 kc_m1 ?_
      refine r_ixor hK d_M_order_22 ?_
      refine r_iand hK d_M_order_23 ?_
      refine r_if_ne (tgt := 41) hK d_M_order_24 rfl (fun h24 => ?_) (fun h24 => ?_)
      · skip
        have hno : (decide (ls &&& (nw 3 ^^^ (-1)) = 0) && inB k (-1) 5) = false := by rw [decide_eq_false h24, Bool.false_and]
        refine r_ldc hK d_M_order_41 lc_M_55 ?_
        refine r_iret hK rfl rfl d_M_order_43 ?_
        exact hQ _ _ ⟨_, _, _, hM0, hS⟩ Frm.rf (fun _ _ => by rw [hno]; rfl)
      · skip
        have hs0 := h24
        rw [hb3] at hs0
        obtain ⟨s, hs, rfl⟩ := sub_N hb6 hs0
        refine r_iload_n hK d_M_order_27 rfl ?_
        refine r_i2l hK d_M_order_28 ?_
        refine r_ldc2 hK d_M_order_29 lc_M_200 ?_
        refine r_ldc2 hK d_M_order_32 lc_M_202 ?_
        refine r_s3 (k' := 1) hK lm_M_45 d_M_order_35 (by decide) (Nat.le_of_ble_eq_true rfl) ?_
        refine c_M_in (a := -1) (b := 5) (by decide) (by decide) (kc_s ?_)
        refine r_if_ne (tgt := 44) hK d_M_order_38 rfl (fun h38 => ?_) (fun h38 => ?_)
        · skip
          have hk := bI_n0.mp h38
          have hx0 : ∀ tr0 bst0 : Nat → Int32, (if rfu true (decide (nI s &&& (nw 3 ^^^ (-1)) = 0) && inB k (-1) 5) = 0 then ordA tr0 bst0 nw (nI s) k else rfu true (decide (nI s &&& (nw 3 ^^^ (-1)) = 0) && inB k (-1) 5)) = ordA tr0 bst0 nw (nI s) k := fun tr0 bst0 => by
            rw [hk, decide_eq_true h24]
            rfl
          simp only [hx0] at hQ
          refine r_iconst hK d_M_order_44 kc_0 ?_
          refine st_in_3_8 hK d_M_order_45 trivial ?_
          refine r_iconst hK d_M_order_46 kc_0 ?_
          refine st_i_4_8 hK d_M_order_47 trivial ?_
          suffices L : ∀ j, j ≤ 6 → ∀ (G1 : gG) (B : Nat → Int32), MV G1 c f (putT (putT w0 0 nw) 972 w1) (va_up A 8 B) → lnL B (ozB (nI s) j) → Frm G G1 c 10 → K 49 [some (.ref c), some (.int (nI s)), some (.int k), some (.int (nI (ozB (nI s) j).length)), some (.int (nI j)), none, none, none] [] S G1 from L 0 (Nat.zero_le _) G (A 8) (by rw [va_up_id]; exact hM) (fun k h => absurd h (by show ¬ k < 0; omega)) Frm.rf
          clear hM
          refine lpN 6 (fun j hj ih G1 B hM hB hF => ?_)
          refine r_iload hK d_M_order_49 rfl ?_
          refine r_bipush hK d_M_order_51 kb_6 ?_
          refine r_icmp_ge (tgt := 82) hK d_M_order_53 rfl (fun h53 => ?_) (fun h53 => ?_)
          · skip
            have hq6 : j = 6 := by have := (cle (n := 6) (by decide) (by omega)).mp h53; omega
            subst hq6
            refine r_ldc hK d_M_order_82 lc_M_147 ?_
            refine st_i_4_8 hK d_M_order_84 trivial ?_
            refine r_iconst hK d_M_order_86 kc_1 ?_
            refine st_i_5_8 hK d_M_order_87 trivial ?_
            obtain ⟨m, hm⟩ : ∃ m, m = cn s := ⟨_, rfl⟩
            have hcn := cn_e s hs
            have hO := ozO_e s hs
            have hC := ozC_e s hs
            have hH := ozH_e s hs
            obtain ⟨p0, r0, hpr⟩ : ∃ p0 r0, ozP 6 (nI s) = p0 :: r0 := by
              cases z : ozP 6 (nI s) with
              | nil => rw [z] at hH; cases hH
              | cons p r => exact ⟨p, r, rfl⟩
            rw [hpr] at hH hO hC
            have hp0 : ozB (nI s) 6 = p0 := by cases hH; rfl
            rw [hp0] at hB ⊢
            have hO2 : ∀ p, p ∈ p0 :: r0 → p.length = m ∧ ∀ i, i ∈ p → i < 6 := by
              intro p hp
              have := List.all_eq_true.mp hO p hp
              simp only [Bool.and_eq_true, decide_eq_true_eq, List.all_eq_true] at this
              exact ⟨this.1.trans hm.symm, this.2⟩
            obtain ⟨R, hR, hRl⟩ := ozE_s (v := nw) (g := 0) (m := m) (p0 :: r0) none (fun p hp => (hO2 p hp).1) (fun a h => by cases h) (Or.inl (fun z => by cases z))
            have hp0m := (hO2 p0 (List.mem_cons_self ..)).1
            rw [hp0m]
            have hfin : ∀ tr0 bst0 : Nat → Int32, (if k < nI m then (if 0 ≤ k then nI (R.2.getD (nN k) 0) else R.1) else -1000000) = ordA tr0 bst0 nw (nI s) k := fun tr0 bst0 => by
              rw [hm]
              exact ord_e hV hs (by rw [hpr]; exact hR) rfl (hRl.trans hm) hk tr0 bst0
            suffices L : ∀ N (r : List (List Nat)), r.length = N → ∀ (p : List Nat) (acc : Option (Int32 × List Nat)) (G1 : gG) (u B8 B9 : Nat → Int32) (a6 a7 : Option Value), (∀ q, q ∈ p :: r → q.length = m ∧ ∀ i, i ∈ q → i < 6) → ozC (p :: r) = true → (p :: r).foldl (ozE nw 0 []) acc = some R → MV G1 c f (putT (putT w0 0 nw) 972 u) (va_up (va_up A 8 B8) 9 B9) → lnL B8 p → bstL B9 acc → Frm G G1 c 10 → K 89 [some (.ref c), some (.int (nI s)), some (.int k), some (.int (nI m)), some (.int (lst acc)), some (.int 1), a6, a7] [] S G1 from L _ r0 rfl p0 none G1 w1 B (A 9) _ _ hO2 hC hR (by rw [show A 9 = va_up A 8 B 9 by rw [va_up_n (by omega)], va_up_id]; exact hM) hB trivial hF
            clear hM hB hF hO2 hC hR hO hH hpr hp0m hp0 h53 ih
            refine indN (fun N ih r hN p acc G1 u B8 B9 a6 a7 hO hC hR hM hl hbs hF => ?_)
            have hpl := (hO p (List.mem_cons_self ..)).1
            have hp6 := (hO p (List.mem_cons_self ..)).2
            have hl8 : lnL (va_up (va_up A 8 B8) 9 B9 8) p := by rw [va_up_n (by omega), va_up_s]; exact hl
            rw [List.foldl_cons] at hR
            refine r_iload hK d_M_order_89 rfl ?_
            refine r_if_eq (tgt := 158) hK d_M_order_91 rfl (fun h91 => ?_) (fun h91 => ?_)
            · skip
              exact absurd h91 (by decide)
            · skip
              refine r_aload_n hK d_M_order_94 rfl ?_
              refine r_iload_n hK d_M_order_95 rfl ?_
              rw [← hpl]
              refine r_v1 (k' := 5) hK lm_M_204 d_M_order_96 ⟨_, hM.1⟩ (by decide) (Nat.le_of_ble_eq_true rfl) ?_
              refine c_M_growsBy hM hV hl8 (by omega) hp6 (fun G96 u96 hM f96 => kc_s ?_)
              have hF := hF.tr f96
              have hgb := ozG_b p nw 0 hV (by rw [ti_0]; omega) (by rw [ti_0]; omega)
              rw [ti_0] at hgb
              refine st_i_6_8 hK d_M_order_99 trivial ?_
              refine r_iload hK d_M_order_101 rfl ?_
              refine r_ldc hK d_M_order_103 lc_M_147 ?_
              refine r_icmp_eq (tgt := 115) hK d_M_order_105 rfl (fun h105 => ?_) (fun h105 => ?_)
              · skip
                have hac : acc = none := by
                  cases acc with
                  | none => rfl
                  | some a =>
                    have : (lst (some a)).toInt = (-1000000 : Int32).toInt := congrArg Int32.toInt h105
                    have h0 := hbs.2
                    rw [ti_m1000000] at this
                    exact absurd this (by show ¬ a.1.toInt = -1000000; omega)
                have hst : ozE nw 0 [] acc p = some (ozG nw 0 p, p) := by rw [hac]; rfl
                refine fr_o2 (p := p) hK hM hl8 (by omega) (fun G2 C9 a7 hM f2 hC9 => ?_)
                rw [va_up_2] at hM
                have hF := hF.tr f2
                have hl8 : lnL (va_up (va_up A 8 B8) 9 C9 8) p := by rw [va_up_n (by omega), va_up_s]; exact hl
                refine fr_o3 (p := p) hK hM hl8 (by omega) hp6 (fun G3 C8 hM f3 hC8 => ?_) trivial
                rw [va_up_89] at hM
                rw [hst] at hR
                rcases r with _ | ⟨q, r2⟩
                · have hc1 : (ozN (ozF p) p.length).1 = false := by simpa [ozC] using hC
                  rw [hc1]
                  have hR : some (ozG nw 0 p, p) = some R := hR
                  have hR := Option.some.inj hR
                  rw [← hR] at hfin hRl
                  refine fr_o1 (q := p) hK hM (by rw [va_up_s]; exact hC9) rfl (by omega) hk ?_
                  exact hQ _ _ ⟨_, _, _, hM, ((hS.sT hI.2.2.2.1).ln (by omega)).ln (by omega)⟩ (hF.tr f3) (fun tr0 bst0 => by rw [hpl]; exact hfin tr0 bst0)
                · obtain ⟨hc1, hc2⟩ := ozC_c hC
                  rw [hc1.1, hpl]
                  refine ih r2.length (by rw [← hN]; rfl) r2 rfl q _ _ _ C8 _ _ _ (fun x hx => hO x (List.mem_cons_of_mem _ hx)) hc2 hR hM (lnL.of hC8 hc1.2) ⟨hC9, hgb.1⟩ (hF.tr f3)
              · skip
                obtain ⟨a, rfl⟩ : ∃ a, acc = some a := by
                  cases acc with
                  | none => exact absurd rfl h105
                  | some a => exact ⟨a, rfl⟩
                refine r_iload hK d_M_order_108 rfl ?_
                refine r_iload hK d_M_order_110 rfl ?_
                refine r_icmp_ge (tgt := 148) hK d_M_order_112 rfl (fun h112 => ?_) (fun h112 => ?_)
                · skip
                  have hst : ozE nw 0 [] (some a) p = some a := if_pos h112
                  refine fr_o3 (p := p) hK hM hl8 (by omega) hp6 (fun G3 C8 hM f3 hC8 => ?_) trivial
                  rw [va_up_89] at hM
                  rw [hst] at hR
                  rcases r with _ | ⟨q, r2⟩
                  · have hc1 : (ozN (ozF p) p.length).1 = false := by simpa [ozC] using hC
                    rw [hc1]
                    have hR : some a = some R := hR
                    have hR := Option.some.inj hR
                    rw [← hR] at hfin hRl
                    refine fr_o1 (q := a.2) hK hM (by rw [va_up_s]; exact hbs.1) (hRl.trans hpl.symm) (by omega) hk ?_
                    exact hQ _ _ ⟨_, _, _, hM, ((hS.sT hI.2.2.2.1).ln (by omega)).ln (by omega)⟩ (hF.tr f3) (fun tr0 bst0 => by rw [hpl]; exact hfin tr0 bst0)
                  · obtain ⟨hc1, hc2⟩ := ozC_c hC
                    rw [hc1.1, hpl]
                    refine ih r2.length (by rw [← hN]; rfl) r2 rfl q _ _ _ C8 _ _ _ (fun x hx => hO x (List.mem_cons_of_mem _ hx)) hc2 hR hM (lnL.of hC8 hc1.2) hbs (hF.tr f3)
                · skip
                  have hst : ozE nw 0 [] (some a) p = some (ozG nw 0 p, p) := if_neg h112
                  refine fr_o2 (p := p) hK hM hl8 (by omega) (fun G2 C9 a7 hM f2 hC9 => ?_)
                  rw [va_up_2] at hM
                  have hF := hF.tr f2
                  have hl8 : lnL (va_up (va_up A 8 B8) 9 C9 8) p := by rw [va_up_n (by omega), va_up_s]; exact hl
                  refine fr_o3 (p := p) hK hM hl8 (by omega) hp6 (fun G3 C8 hM f3 hC8 => ?_) trivial
                  rw [va_up_89] at hM
                  rw [hst] at hR
                  rcases r with _ | ⟨q, r2⟩
                  · have hc1 : (ozN (ozF p) p.length).1 = false := by simpa [ozC] using hC
                    rw [hc1]
                    have hR : some (ozG nw 0 p, p) = some R := hR
                    have hR := Option.some.inj hR
                    rw [← hR] at hfin hRl
                    refine fr_o1 (q := p) hK hM (by rw [va_up_s]; exact hC9) rfl (by omega) hk ?_
                    exact hQ _ _ ⟨_, _, _, hM, ((hS.sT hI.2.2.2.1).ln (by omega)).ln (by omega)⟩ (hF.tr f3) (fun tr0 bst0 => by rw [hpl]; exact hfin tr0 bst0)
                  · obtain ⟨hc1, hc2⟩ := ozC_c hC
                    rw [hc1.1, hpl]
                    refine ih r2.length (by rw [← hN]; rfl) r2 rfl q _ _ _ C8 _ _ _ (fun x hx => hO x (List.mem_cons_of_mem _ hx)) hc2 hR hM (lnL.of hC8 hc1.2) ⟨hC9, hgb.1⟩ (hF.tr f3)
          · skip
            have hq6 : j < 6 := Nat.not_le.mp (fun z => h53 ((cle (n := 6) (by decide) (by omega)).mpr z))
            refine r_iload_n hK d_M_order_56 rfl ?_
            refine r_iload hK d_M_order_57 rfl ?_
            refine r_s2 (k' := 1) hK lm_M_138 d_M_order_59 (by decide) (Nat.le_of_ble_eq_true rfl) ?_
            refine c_M_has (kc_s ?_)
            refine r_if_eq (tgt := 76) hK d_M_order_62 rfl (fun h62 => ?_) (fun h62 => ?_)
            · skip
              have hbs : ozB (nI s) (j + 1) = ozB (nI s) j := by rw [ozB, if_neg (by rw [bI_0.mp h62]; decide)]
              rw [← hbs] at hB ⊢
              first | refine iN_4_8 hK d_M_order_76 trivial ?_ | refine ii_4_1_8 hK d_M_order_76 trivial ?_
              refine r_goto (tgt := 49) hK d_M_order_79 rfl ?_
              exact ih hq6 _ _ hM hB hF
            · skip
              have hbs : ozB (nI s) (j + 1) = ozB (nI s) j ++ [j] := by rw [ozB, if_pos (bI_n0.mp h62)]
              have hbl := ozB_l (s := nI s) j
              refine r_aload_n hK d_M_order_65 rfl ?_
              refine r_get hK lf_M_32 d_M_order_66 (hM.1) rfl ?_
              refine r_iload_n hK d_M_order_69 rfl ?_
              refine r_iload hK d_M_order_70 rfl ?_
              refine s_a8 (j := (ozB (nI s) j).length) hK d_M_order_72 hM rfl (by omega) (fun G72 hM f72 => ?_)
              have hF := hF.tr f72
              rw [va_up_s, va_up_2] at hM
              have hB := hB.ap (x := j)
              rw [← hbs] at hB
              refine iN_3_8 hK d_M_order_73 trivial ?_
              rw [show (ozB (nI s) j).length + 1 = (ozB (nI s) (j + 1)).length by rw [hbs, List.length_append]; rfl]
              first | refine iN_4_8 hK d_M_order_76 trivial ?_ | refine ii_4_1_8 hK d_M_order_76 trivial ?_
              refine r_goto (tgt := 49) hK d_M_order_79 rfl ?_
              exact ih hq6 _ _ hM hB hF
        · skip
          have hno : (decide (nI s &&& (nw 3 ^^^ (-1)) = 0) && inB k (-1) 5) = false := by rw [bI_0.mp h38, Bool.and_false]
          refine r_ldc hK d_M_order_41 lc_M_55 ?_
          refine r_iret hK rfl rfl d_M_order_43 ?_
          exact hQ _ _ ⟨_, _, _, hM0, hS⟩ Frm.rf (fun _ _ => by rw [hno]; rfl)
  · skip
    have hst : st = false := bI_0.mp h4
    subst hst
    refine r_ldc hK d_M_order_7 lc_M_137 ?_
    refine r_iret hK rfl rfl d_M_order_9 ?_
    exact hQ _ _ ⟨_, _, _, hM0, hS⟩ Frm.rf (fun _ _ => (if_neg (show ¬ rfu false _ = 0 from (by decide : ¬ (-1000002 : Int32) = 0))).symm)
