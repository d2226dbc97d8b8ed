def psN : Nat → (Nat → Int32) → Nat → Int32
  | 0, v => v
  | k + 1, v => psN k (passV v).1
def wtV (v : Nat → Int32) (g : Int32) : Nat → Int32 := upd v 3 (v 3 &&& (g ^^^ (-1)))
def noF : Nat → (Nat → Int32) → Bool
  | 0, _ => true
  | k + 1, v => if (passV v).2 = none then noF k (passV v).1 else false
def sEz (q : Int32) : Nat → (Nat → Int32) → Bool
  | 0, _ => true
  | k + 1, v => if wght v ≤ q then sEz q k (passV v).1 else false
def itA (f : Nat → Int32) (z : Nat) (x : Int32) : Int32 := if hasP (nI z) x 1 = true then f (nN x) else 0
def tld (f : Nat → Int32) (z : Nat) (i : Int32) : Nat → Nat → (Nat → Int32) → Bool
  | 0, _, _ => true
  | k + 1, t, v => if wght v = itA f z (i + nI t) then tld f z i k (t + 1) (passV v).1 else false
def smP (bh x f : Int32) : Bool := decide (x &&& (bh ^^^ (-1)) = 0) && decide (bitc x < bitc f)
def hdL (P : Nat → Int32 → Bool) : Nat → Nat → Int32 → Int32
  | 0, _, f => f
  | k + 1, j, f => hdL P k (j + 1) (if P j f = true then nI j else f)
def flS : Nat → Nat → (Nat → Int32) → Option (Nat × Nat)
  | 0, _, _ => none
  | n + 1, d, v => match (passV v).2 with
    | some k => some (d, k)
    | none => flS n (d + 1) (passV v).1
def chgV (v : Nat → Int32) (w : Int32) (j : Nat) (x : Int32) : Nat → Int32 := if w = 0 then upd v (12 + j) x else if w = 1 then upd v (30 + j) x else upd v (6 + j) x
def ftL (P : Nat → Bool) : Nat → Nat → Int32 → Int32
  | 0, _, a => a
  | k + 1, t, a => ftL P k (t + 1) (if P t = true then a ||| (1 <<< (nI t &&& 31)) else a)
def stL (P : Nat → Option Bool) : Nat → Nat → Int32 → Int32
  | 0, _, a => a
  | k + 1, t, a => stL P k (t + 1) (match P t with
    | some p => a ||| (if p = true then 1 <<< (nI t &&& 31) else 0)
    | none => a)
def ltL (P : Nat → Option Int32) : Nat → Nat → Int32 → Int32
  | 0, _, a => a
  | k + 1, t, a => ltL P k (t + 1) (match P t with
    | some p => a + p
    | none => a)
def drN : Nat → Int64 → (Nat → Int32) → Nat → Int32
  | 0, _, v => v
  | k + 1, x, v => drN k (x * 16807 - x * 16807 / 2147483647 * 2147483647) (passV (drawV v (x * 16807 - x * 16807 / 2147483647 * 2147483647))).1
theorem psN_0 : ∀ (k : Nat) (v : Nat → Int32), psN k v 0 = v 0
  | 0, _ => rfl
  | k + 1, v => (psN_0 k _).trans (passV_0 v)
theorem wtV_0 (v : Nat → Int32) (g : Int32) : wtV v g 0 = v 0 := rfl
theorem itA_c {f g : Nat → Int32} {z : Nat} {x : Int32} (hz : z ≤ 40) (h : ∀ k, k < 40 → g k = f k) : itA g z x = itA f z x := by
  unfold itA
  split
  · rename_i hp
    have := hasP_in hz hp
    exact h _ (by show x.toInt.toNat < 40; omega)
  · rfl
theorem tld_c {f g : Nat → Int32} {z : Nat} {i : Int32} (hz : z ≤ 40) (h : ∀ k, k < 40 → g k = f k) : ∀ (k t : Nat) (v : Nat → Int32), tld g z i k t v = tld f z i k t v
  | 0, _, _ => rfl
  | k + 1, t, v => by
    simp only [tld]
    rw [itA_c hz h]
    split
    · exact tld_c hz h k _ _
    · rfl
theorem oI_none {f : Option Nat} (h : ∀ k, f = some k → k < 6) : (oI f = -1000000) = (f = none) := propext (oI_n h)
theorem passV_lt {v : Nat → Int32} (hn : nN (v 0) ≤ 6) : ∀ k, (passV v).2 = some k → k < 6 := by
  have key : ∀ (m : Nat) (w : Nat → Int32) (f : Option Nat), nN (w 0) ≤ 6 → (∀ k, f = some k → k < 6) → ∀ k, (fallV m w f).2 = some k → k < 6 := by
    intro m
    induction m with
    | zero => intro w f _ hf k hk; exact hf k hk
    | succ m ih =>
      intro w f hw hf k hk
      simp only [fallV] at hk
      split at hk
      · cases hz : ntf w (nN (w 0)) with
        | none => rw [hz] at hk; exact ih w f hw hf k hk
        | some q =>
          rw [hz] at hk
          have hq := (ntf_lt hz).1
          refine ih _ _ (by rw [awayV_0]; exact hw) (fun k2 hk2 => ?_) k hk
          by_cases e : f = none
          · rw [if_pos e] at hk2; cases hk2; omega
          · rw [if_neg e] at hk2; exact hf k2 hk2
      · exact hf k hk
  intro k hk
  exact key _ _ none (by rw [dayV_n (by omega) (by omega) (by omega)]; exact hn) (fun _ q => by cases q) k hk
section PXE
variable {E : gX} {own : String} {cc : ByteArray} {ret : Option FieldType} {nL k mc sz0 : Nat} {ini : Bool} {G0 : gG} {Q : Option Value → gG → Prop} {K : Nat → List (Option Value) → List Value → Nat → gG → Prop}
variable {pc sz idx : Nat} {stk : List Value} {G : gG} {Ls : List (Option Value)}
theorem pe_H_behindBits (hK : Cl E own cc ret nL k mc sz0 ini G0 Q K) {h : Nat} {s : Int32} {v : Nat → Int32} {x : Int32} (hl : LkF own idx 3 4 (.int) false) (hd : decode cc pc = .ok (.putfield idx, 3)) (hV : HE G h s v) (kk : ∀ G' : gG, HE G' h s (upd v 3 x) → Frm G G' h 8 → K (pc + 3) Ls stk sz G') : K pc Ls (.int x :: .ref h :: stk) sz G := by
  obtain ⟨w, q, e⟩ := hV
  exact p_H_behindBits hK hl hd q (fun G' h1 h2 => kk G' ⟨_, h1, e.up (by omega) rfl⟩ h2)
end PXE
theorem smP_1 {bh x f : Int32} (h : ¬ x &&& (bh ^^^ (-1)) = 0) : bI (smP bh x f) = 0 := bI_f (fun q => by
  unfold smP at q
  rw [decide_eq_false h] at q
  cases q)
theorem smP_2 {bh x f : Int32} (h : bitc f ≤ bitc x) : bI (smP bh x f) = 0 := bI_f (fun q => by
  unfold smP at q
  rw [decide_eq_false (Int32.not_lt.mpr h), Bool.and_false] at q
  cases q)
theorem smP_3 {bh x f : Int32} (h : x &&& (bh ^^^ (-1)) = 0) (h2 : ¬ bitc f ≤ bitc x) : bI (smP bh x f) = 1 := bI_t (by
  unfold smP
  rw [decide_eq_true h, decide_eq_true (Int32.not_le.mp h2)]
  rfl)
def opBurden : gS → Int32 → Int32 × gS
  | (st, nw, ac, na, ik, im, rp, rl, rs, ri, tp, tn, lf, fd, tr, un), d => (if rfu st (inB d 0 60) = 0 then wght (psN (nN d) nw) else rfu st (inB d 0 60), (st, nw, ac, na, ik, im, rp, rl, rs, ri, tp, tn, lf, fd, tr, un))
def opSum : gS → Int32 → Int32 × gS
  | (st, nw, ac, na, ik, im, rp, rl, rs, ri, tp, tn, lf, fd, tr, un), d => (if rfu st (inB d 0 60) = 0 then psN (nN d) nw 4 else rfu st (inB d 0 60), (st, nw, ac, na, ik, im, rp, rl, rs, ri, tp, tn, lf, fd, tr, un))
def opBehind : gS → Int32 → Int32 × gS
  | (st, nw, ac, na, ik, im, rp, rl, rs, ri, tp, tn, lf, fd, tr, un), d => (if rfu st (inB d 0 60) = 0 then psN (nN d) nw 3 else rfu st (inB d 0 60), (st, nw, ac, na, ik, im, rp, rl, rs, ri, tp, tn, lf, fd, tr, un))
def opFalls : gS → Int32 → Int32 × gS
  | (st, nw, ac, na, ik, im, rp, rl, rs, ri, tp, tn, lf, fd, tr, un), w => (if rfu st (inB w 0 1) = 0 then (match flS 60 1 nw with
    | some q => if w = 0 then nI q.1 else nI q.2
    | none => -1000000) else rfu st (inB w 0 1), (st, nw, ac, na, ik, im, rp, rl, rs, ri, tp, tn, lf, fd, tr, un))
theorem c_X_foretell {E : gX} {S : Nat} {G : gG} {Q : Option Value → gG → Prop} {b : Nat} {st : Bool} {nw : Nat → Int32} {ac : Nat → Nat → Int32} {na : Nat} {ik : Nat → Bool} {im : Nat → Nat → Int32} {rp : Nat → Bool} {rl : Nat → Int32} {rs : Nat → Nat} {ri : Nat → Nat → Int32} {tp : Nat → Int32} {tn : Nat} {lf : Int32} {fd : Int32} {tr : Nat → Int32} {un : Nat} (hX : XV G b (st, nw, ac, na, ik, im, rp, rl, rs, ri, tp, tn, lf, fd, tr, un)) (hI : XPI (st, nw, ac, na, ik, im, rp, rl, rs, ri, tp, tn, lf, fd, tr, un)) {d : Int32} (hQ : ∀ G' : gG, XV G' b (st, nw, ac, na, ik, im, rp, rl, rs, ri, tp, tn, lf, fd, tr, un) → HE G' (b + 12) (bI st) (psN (nN d) nw) → Frm G G' b 309 → Q (some (.ref (b + 12))) G') : Runs E y_X_foretell 6 0 S [.ref b, .int d] G Q := by
  refine Runs.of "ClockPost" [some (.ref b), some (.int d), none] cw_X_foretell (by decide) (by decide +kernel) rfl (Nat.le_of_ble_eq_true rfl) rfl (fun K hK => ?_)
  refine r_aload_n hK d_X_foretell_0 rfl ?_
  refine r_get hK lf_X_29 d_X_foretell_1 (hX.1.1) rfl ?_
  refine r_aload_n hK d_X_foretell_4 rfl ?_
  refine r_get hK lf_X_25 d_X_foretell_5 (hX.1.1) rfl ?_
  obtain ⟨s0, u0, hT⟩ := hX.fore
  refine r_v1 (k' := 2) hK lm_X_122 d_X_foretell_8 ⟨_, hT.o⟩ (by decide) (Nat.le_of_ble_eq_true rfl) ?_
  refine e_H_become hT hX.now hI.1 (by omega) (fun G8 hT f8 => kc_n ?_)
  have hX := hX.sF f8 hT.j
  have hF : Frm G G8 b 309 := f8.mono (by omega) (by omega)
  refine r_iconst hK d_X_foretell_11 kc_0 ?_
  refine st_in_2_3 hK d_X_foretell_12 trivial ?_
  suffices L : ∀ j, j ≤ nN d → ∀ (G1 : gG) (v : Nat → Int32), XV G1 b (st, nw, ac, na, ik, im, rp, rl, rs, ri, tp, tn, lf, fd, tr, un) → HE G1 (b + 12) (bI st) v → Frm G G1 b 309 → nN (v 0) ≤ 6 →  psN (nN d - j) v = psN (nN d) nw → K 13 [some (.ref b), some (.int d), some (.int (nI j))] [] S G1 from L 0 (Nat.zero_le _) _ _ hX hT hF hI.1 rfl
  refine lpN (nN d) (fun j hj ih G1 v hX hT hF hn hE => ?_)
  have := nN_lt d
  refine r_iload_n hK d_X_foretell_13 rfl ?_
  refine r_iload_n hK d_X_foretell_14 rfl ?_
  refine r_icmp_ge (tgt := 32) hK d_X_foretell_15 rfl (fun h15 => ?_) (fun h15 => ?_)
  · skip
    have hq : j = nN d := by have := (ge_nN (by omega)).mp h15; omega
    rw [hq, Nat.sub_self] at hE
    have hE : v = psN (nN d) nw := hE
    refine r_aload_n hK d_X_foretell_32 rfl ?_
    refine r_get hK lf_X_29 d_X_foretell_33 (hX.1.1) rfl ?_
    refine r_aret hK rfl rfl d_X_foretell_36 ?_
    exact hQ _ hX (hE ▸ hT) hF
  · skip
    have hq : j < nN d := (lt_nN (by omega)).mp (Int32.not_le.mp h15)
    rw [show nN d - j = (nN d - (j + 1)) + 1 by omega, psN] at hE
    refine r_aload_n hK d_X_foretell_18 rfl ?_
    refine r_get hK lf_X_29 d_X_foretell_19 (hX.1.1) rfl ?_
    refine r_v0 (k' := 5) hK lm_X_145 d_X_foretell_22 ⟨_, hT.o⟩ (by decide) (Nat.le_of_ble_eq_true rfl) ?_
    refine e_H_passDay hT hn (fun G22 hT f22 => kc_s ?_)
    have hX := hX.sF f22 hT.j
    have hF := hF.tr (f22.mono (by omega) (by omega))
    refine r_pop hK d_X_foretell_25 rfl ?_
    first | refine iN_2_3 hK d_X_foretell_26 trivial ?_ | refine ii_2_1_3 hK d_X_foretell_26 trivial ?_
    refine r_goto (tgt := 13) hK d_X_foretell_29 rfl ?_
    exact ih hq _ _ hX hT hF (by rw [passV_0]; exact hn) hE
theorem c_X_foretellWithout {E : gX} {S : Nat} {G : gG} {Q : Option Value → gG → Prop} {b : Nat} {st : Bool} {nw : Nat → Int32} {ac : Nat → Nat → Int32} {na : Nat} {ik : Nat → Bool} {im : Nat → Nat → Int32} {rp : Nat → Bool} {rl : Nat → Int32} {rs : Nat → Nat} {ri : Nat → Nat → Int32} {tp : Nat → Int32} {tn : Nat} {lf : Int32} {fd : Int32} {tr : Nat → Int32} {un : Nat} (hX : XV G b (st, nw, ac, na, ik, im, rp, rl, rs, ri, tp, tn, lf, fd, tr, un)) (hI : XPI (st, nw, ac, na, ik, im, rp, rl, rs, ri, tp, tn, lf, fd, tr, un)) {g : Int32} (hQ : ∀ G' : gG, XV G' b (st, nw, ac, na, ik, im, rp, rl, rs, ri, tp, tn, lf, fd, tr, un) → HE G' (b + 12) (bI st) (wtV nw g) → Frm G G' b 309 → Q none G') : Runs E y_X_foretellWithout 3 0 S [.ref b, .int g] G Q := by
  refine Runs.of "ClockPost" [some (.ref b), some (.int g)] cw_X_foretellWithout (by decide) (by decide +kernel) rfl (Nat.le_of_ble_eq_true rfl) rfl (fun K hK => ?_)
  refine r_aload_n hK d_X_foretellWithout_0 rfl ?_
  refine r_get hK lf_X_29 d_X_foretellWithout_1 (hX.1.1) rfl ?_
  refine r_aload_n hK d_X_foretellWithout_4 rfl ?_
  refine r_get hK lf_X_25 d_X_foretellWithout_5 (hX.1.1) rfl ?_
  obtain ⟨s0, u0, hT⟩ := hX.fore
  refine r_v1 (k' := 2) hK lm_X_122 d_X_foretellWithout_8 ⟨_, hT.o⟩ (by decide) (Nat.le_of_ble_eq_true rfl) ?_
  refine e_H_become hT hX.now hI.1 (by omega) (fun G8 hT f8 => kc_n ?_)
  have hX := hX.sF f8 hT.j
  have hF : Frm G G8 b 309 := f8.mono (by omega) (by omega)
  refine r_aload_n hK d_X_foretellWithout_11 rfl ?_
  refine r_get hK lf_X_29 d_X_foretellWithout_12 (hX.1.1) rfl ?_
  refine r_aload_n hK d_X_foretellWithout_15 rfl ?_
  refine r_get hK lf_X_25 d_X_foretellWithout_16 (hX.1.1) rfl ?_
  refine r_get hK lf_X_149 d_X_foretellWithout_19 (hX.now.o) rfl ?_
  refine r_iload_n hK d_X_foretellWithout_22 rfl ?_
  refine r_iconst hK d_X_foretellWithout_23 kc_m1 ?_
  refine r_ixor hK d_X_foretellWithout_24 ?_
  refine r_iand hK d_X_foretellWithout_25 ?_
  refine pe_H_behindBits hK lf_X_149 d_X_foretellWithout_26 hT (fun G26 hT f26 => ?_)
  have hX := hX.sF f26 hT.j
  have hF := hF.tr (f26.mono (by omega) (by omega))
  refine r_vret hK rfl rfl d_X_foretellWithout_29 ?_
  have hT := hT.ev (show eqv (upd nw 3 (nw 3 &&& (g ^^^ (-1)))) (wtV nw g) from eqv.rf)
  exact hQ _ hX hT hF
theorem c_X_isSmallerPart {E : gX} {S : Nat} {G : gG} {Q : Option Value → gG → Prop} {b : Nat} {st : Bool} {nw : Nat → Int32} {ac : Nat → Nat → Int32} {na : Nat} {ik : Nat → Bool} {im : Nat → Nat → Int32} {rp : Nat → Bool} {rl : Nat → Int32} {rs : Nat → Nat} {ri : Nat → Nat → Int32} {tp : Nat → Int32} {tn : Nat} {lf : Int32} {fd : Int32} {tr : Nat → Int32} {un : Nat} (hX : XV G b (st, nw, ac, na, ik, im, rp, rl, rs, ri, tp, tn, lf, fd, tr, un)) (hI : XPI (st, nw, ac, na, ik, im, rp, rl, rs, ri, tp, tn, lf, fd, tr, un)) {x f : Int32} (hQ : Q (some (.int (bI (smP (nw 3) x f)))) G) : Runs E y_X_isSmallerPart 2 0 S [.ref b, .int x, .int f] G Q := by
  refine Runs.of "ClockPost" [some (.ref b), some (.int x), some (.int f)] cw_X_isSmallerPart (by decide) (by decide +kernel) rfl (Nat.le_of_ble_eq_true rfl) rfl (fun K hK => ?_)
  refine r_iload_n hK d_X_isSmallerPart_0 rfl ?_
  refine r_aload_n hK d_X_isSmallerPart_1 rfl ?_
  refine r_get hK lf_X_25 d_X_isSmallerPart_2 (hX.1.1) rfl ?_
  refine r_get hK lf_X_149 d_X_isSmallerPart_5 (hX.now.o) rfl ?_
  refine r_iconst hK d_X_isSmallerPart_8 kc_m1 ?_
  refine r_ixor hK d_X_isSmallerPart_9 ?_
  refine r_iand hK d_X_isSmallerPart_10 ?_
  refine r_if_ne (tgt := 29) hK d_X_isSmallerPart_11 rfl (fun h11 => ?_) (fun h11 => ?_)
  · skip
    refine r_iconst hK d_X_isSmallerPart_29 kc_0 ?_
    refine r_zret hK rfl (rfl) rfl d_X_isSmallerPart_30 ?_
    first | exact rc hQ (smP_3 h11 h22) | exact rc hQ (smP_2 h22) | exact rc hQ (smP_1 h11)
  · skip
    refine r_iload_n hK d_X_isSmallerPart_14 rfl ?_
    refine r_s1 (k' := 1) hK lm_X_213 d_X_isSmallerPart_15 (by decide) (Nat.le_of_ble_eq_true rfl) ?_
    refine c_JI_bitCount (kc_s ?_)
    refine r_iload_n hK d_X_isSmallerPart_18 rfl ?_
    refine r_s1 (k' := 1) hK lm_X_213 d_X_isSmallerPart_19 (by decide) (Nat.le_of_ble_eq_true rfl) ?_
    refine c_JI_bitCount (kc_s ?_)
    refine r_icmp_ge (tgt := 29) hK d_X_isSmallerPart_22 rfl (fun h22 => ?_) (fun h22 => ?_)
    · skip
      refine r_iconst hK d_X_isSmallerPart_29 kc_0 ?_
      refine r_zret hK rfl (rfl) rfl d_X_isSmallerPart_30 ?_
      first | exact rc hQ (smP_3 h11 h22) | exact rc hQ (smP_2 h22) | exact rc hQ (smP_1 h11)
    · skip
      refine r_iconst hK d_X_isSmallerPart_25 kc_1 ?_
      refine r_goto (tgt := 30) hK d_X_isSmallerPart_26 rfl ?_
      refine r_zret hK rfl (rfl) rfl d_X_isSmallerPart_30 ?_
      first | exact rc hQ (smP_3 h11 h22) | exact rc hQ (smP_2 h22) | exact rc hQ (smP_1 h11)
theorem c_X_nothingFallsWithout {E : gX} {S : Nat} {G : gG} {Q : Option Value → gG → Prop} {b : Nat} {st : Bool} {nw : Nat → Int32} {ac : Nat → Nat → Int32} {na : Nat} {ik : Nat → Bool} {im : Nat → Nat → Int32} {rp : Nat → Bool} {rl : Nat → Int32} {rs : Nat → Nat} {ri : Nat → Nat → Int32} {tp : Nat → Int32} {tn : Nat} {lf : Int32} {fd : Int32} {tr : Nat → Int32} {un : Nat} (hX : XV G b (st, nw, ac, na, ik, im, rp, rl, rs, ri, tp, tn, lf, fd, tr, un)) (hI : XPI (st, nw, ac, na, ik, im, rp, rl, rs, ri, tp, tn, lf, fd, tr, un)) {g d : Int32} (hQ : ∀ G' : gG, XV G' b (st, nw, ac, na, ik, im, rp, rl, rs, ri, tp, tn, lf, fd, tr, un) → Frm G G' b 309 → Q (some (.int (bI (noF (nN d) (wtV nw g))))) G') : Runs E y_X_nothingFallsWithout 6 0 S [.ref b, .int g, .int d] G Q := by
  refine Runs.of "ClockPost" [some (.ref b), some (.int g), some (.int d), none] cw_X_nothingFallsWithout (by decide) (by decide +kernel) rfl (Nat.le_of_ble_eq_true rfl) rfl (fun K hK => ?_)
  refine r_aload_n hK d_X_nothingFallsWithout_0 rfl ?_
  refine r_iload_n hK d_X_nothingFallsWithout_1 rfl ?_
  refine r_v1 (k' := 3) hK lm_X_254 d_X_nothingFallsWithout_2 ⟨_, hX.1.1⟩ (by decide) (Nat.le_of_ble_eq_true rfl) ?_
  refine c_X_foretellWithout hX hI (fun G2 hX hT hF => kc_n ?_)
  refine r_iconst hK d_X_nothingFallsWithout_5 kc_0 ?_
  refine st_in_3_4 hK d_X_nothingFallsWithout_6 trivial ?_
  suffices L : ∀ j, j ≤ nN d → ∀ (G1 : gG) (v : Nat → Int32), XV G1 b (st, nw, ac, na, ik, im, rp, rl, rs, ri, tp, tn, lf, fd, tr, un) → HE G1 (b + 12) (bI st) v → Frm G G1 b 309 → nN (v 0) ≤ 6 →  noF (nN d - j) v = noF (nN d) (wtV nw g) → K 7 [some (.ref b), some (.int g), some (.int d), some (.int (nI j))] [] S G1 from L 0 (Nat.zero_le _) _ _ hX hT hF hI.1 rfl
  refine lpN (nN d) (fun j hj ih G1 v hX hT hF hn hE => ?_)
  have := nN_lt d
  refine r_iload_n hK d_X_nothingFallsWithout_7 rfl ?_
  refine r_iload_n hK d_X_nothingFallsWithout_8 rfl ?_
  refine r_icmp_ge (tgt := 32) hK d_X_nothingFallsWithout_9 rfl (fun h9 => ?_) (fun h9 => ?_)
  · skip
    have hq : j = nN d := by have := (ge_nN (by omega)).mp h9; omega
    rw [hq, Nat.sub_self] at hE
    rw [← hE] at hQ
    refine r_iconst hK d_X_nothingFallsWithout_32 kc_1 ?_
    refine r_zret hK rfl (rfl) rfl d_X_nothingFallsWithout_33 ?_
    exact hQ _ hX hF
  · skip
    have hq : j < nN d := (lt_nN (by omega)).mp (Int32.not_le.mp h9)
    rw [show nN d - j = (nN d - (j + 1)) + 1 by omega, noF] at hE
    refine r_aload_n hK d_X_nothingFallsWithout_12 rfl ?_
    refine r_get hK lf_X_29 d_X_nothingFallsWithout_13 (hX.1.1) rfl ?_
    refine r_v0 (k' := 5) hK lm_X_145 d_X_nothingFallsWithout_16 ⟨_, hT.o⟩ (by decide) (Nat.le_of_ble_eq_true rfl) ?_
    refine e_H_passDay hT hn (fun G16 hT f16 => kc_s ?_)
    have hX := hX.sF f16 hT.j
    have hF := hF.tr (f16.mono (by omega) (by omega))
    refine r_ldc hK d_X_nothingFallsWithout_19 lc_X_212 ?_
    refine r_icmp_eq (tgt := 26) hK d_X_nothingFallsWithout_21 rfl (fun h21 => ?_) (fun h21 => ?_)
    · skip
      rw [if_pos ((oI_n (passV_lt hn)).mp h21)] at hE
      first | refine iN_3_4 hK d_X_nothingFallsWithout_26 trivial ?_ | refine ii_3_1_4 hK d_X_nothingFallsWithout_26 trivial ?_
      refine r_goto (tgt := 7) hK d_X_nothingFallsWithout_29 rfl ?_
      exact ih hq _ _ hX hT hF (by rw [passV_0]; exact hn) hE
    · skip
      rw [if_neg (fun q => h21 ((oI_n (passV_lt hn)).mpr q))] at hE
      rw [← hE] at hQ
      refine r_iconst hK d_X_nothingFallsWithout_24 kc_0 ?_
      refine r_zret hK rfl (rfl) rfl d_X_nothingFallsWithout_25 ?_
      exact hQ _ hX hF
theorem c_X_staysEasyWithout {E : gX} {S : Nat} {G : gG} {Q : Option Value → gG → Prop} {b : Nat} {st : Bool} {nw : Nat → Int32} {ac : Nat → Nat → Int32} {na : Nat} {ik : Nat → Bool} {im : Nat → Nat → Int32} {rp : Nat → Bool} {rl : Nat → Int32} {rs : Nat → Nat} {ri : Nat → Nat → Int32} {tp : Nat → Int32} {tn : Nat} {lf : Int32} {fd : Int32} {tr : Nat → Int32} {un : Nat} (hX : XV G b (st, nw, ac, na, ik, im, rp, rl, rs, ri, tp, tn, lf, fd, tr, un)) (hI : XPI (st, nw, ac, na, ik, im, rp, rl, rs, ri, tp, tn, lf, fd, tr, un)) {g d q : Int32} (hQ : ∀ G' : gG, XV G' b (st, nw, ac, na, ik, im, rp, rl, rs, ri, tp, tn, lf, fd, tr, un) → Frm G G' b 309 → Q (some (.int (bI (sEz q (nN d) (wtV nw g))))) G') : Runs E y_X_staysEasyWithout 6 0 S [.ref b, .int g, .int d, .int q] G Q := by
  refine Runs.of "ClockPost" [some (.ref b), some (.int g), some (.int d), some (.int q), none] cw_X_staysEasyWithout (by decide) (by decide +kernel) rfl (Nat.le_of_ble_eq_true rfl) rfl (fun K hK => ?_)
  refine r_aload_n hK d_X_staysEasyWithout_0 rfl ?_
  refine r_iload_n hK d_X_staysEasyWithout_1 rfl ?_
  refine r_v1 (k' := 3) hK lm_X_254 d_X_staysEasyWithout_2 ⟨_, hX.1.1⟩ (by decide) (Nat.le_of_ble_eq_true rfl) ?_
  refine c_X_foretellWithout hX hI (fun G2 hX hT hF => kc_n ?_)
  refine r_iconst hK d_X_staysEasyWithout_5 kc_0 ?_
  refine st_i_4_5 hK d_X_staysEasyWithout_6 trivial ?_
  suffices L : ∀ j, j ≤ nN d → ∀ (G1 : gG) (v : Nat → Int32), XV G1 b (st, nw, ac, na, ik, im, rp, rl, rs, ri, tp, tn, lf, fd, tr, un) → HE G1 (b + 12) (bI st) v → Frm G G1 b 309 → nN (v 0) ≤ 6 →  sEz q (nN d - j) v = sEz q (nN d) (wtV nw g) → K 8 [some (.ref b), some (.int g), some (.int d), some (.int q), some (.int (nI j))] [] S G1 from L 0 (Nat.zero_le _) _ _ hX hT hF hI.1 rfl
  refine lpN (nN d) (fun j hj ih G1 v hX hT hF hn hE => ?_)
  have := nN_lt d
  refine r_iload hK d_X_staysEasyWithout_8 rfl ?_
  refine r_iload_n hK d_X_staysEasyWithout_10 rfl ?_
  refine r_icmp_ge (tgt := 41) hK d_X_staysEasyWithout_11 rfl (fun h11 => ?_) (fun h11 => ?_)
  · skip
    have hq : j = nN d := by have := (ge_nN (by omega)).mp h11; omega
    rw [hq, Nat.sub_self] at hE
    rw [← hE] at hQ
    refine r_iconst hK d_X_staysEasyWithout_41 kc_1 ?_
    refine r_zret hK rfl (rfl) rfl d_X_staysEasyWithout_42 ?_
    exact hQ _ hX hF
  · skip
    have hq : j < nN d := (lt_nN (by omega)).mp (Int32.not_le.mp h11)
    rw [show nN d - j = (nN d - (j + 1)) + 1 by omega, sEz] at hE
    refine r_aload_n hK d_X_staysEasyWithout_14 rfl ?_
    refine r_get hK lf_X_29 d_X_staysEasyWithout_15 (hX.1.1) rfl ?_
    refine r_v0 (k' := 4) hK lm_X_206 d_X_staysEasyWithout_18 ⟨_, hT.o⟩ (by decide) (Nat.le_of_ble_eq_true rfl) ?_
    refine e_H_weight hT hn (kc_s ?_)
    refine r_iload_n hK d_X_staysEasyWithout_21 rfl ?_
    refine r_icmp_le (tgt := 27) hK d_X_staysEasyWithout_22 rfl (fun h22 => ?_) (fun h22 => ?_)
    · skip
      rw [if_pos h22] at hE
      refine r_aload_n hK d_X_staysEasyWithout_27 rfl ?_
      refine r_get hK lf_X_29 d_X_staysEasyWithout_28 (hX.1.1) rfl ?_
      refine r_v0 (k' := 5) hK lm_X_145 d_X_staysEasyWithout_31 ⟨_, hT.o⟩ (by decide) (Nat.le_of_ble_eq_true rfl) ?_
      refine e_H_passDay hT hn (fun G31 hT f31 => kc_s ?_)
      have hX := hX.sF f31 hT.j
      have hF := hF.tr (f31.mono (by omega) (by omega))
      refine r_pop hK d_X_staysEasyWithout_34 rfl ?_
      first | refine iN_4_5 hK d_X_staysEasyWithout_35 trivial ?_ | refine ii_4_1_5 hK d_X_staysEasyWithout_35 trivial ?_
      refine r_goto (tgt := 8) hK d_X_staysEasyWithout_38 rfl ?_
      exact ih hq _ _ hX hT hF (by rw [passV_0]; exact hn) hE
    · skip
      rw [if_neg h22] at hE
      rw [← hE] at hQ
      refine r_iconst hK d_X_staysEasyWithout_25 kc_0 ?_
      refine r_zret hK rfl (rfl) rfl d_X_staysEasyWithout_26 ?_
      exact hQ _ hX hF
theorem c_X_isToldBy {E : gX} {S : Nat} {G : gG} {Q : Option Value → gG → Prop} {b : Nat} {st : Bool} {nw : Nat → Int32} {ac : Nat → Nat → Int32} {na : Nat} {ik : Nat → Bool} {im : Nat → Nat → Int32} {rp : Nat → Bool} {rl : Nat → Int32} {rs : Nat → Nat} {ri : Nat → Nat → Int32} {tp : Nat → Int32} {tn : Nat} {lf : Int32} {fd : Int32} {tr : Nat → Int32} {un : Nat} (hX : XV G b (st, nw, ac, na, ik, im, rp, rl, rs, ri, tp, tn, lf, fd, tr, un)) (hI : XPI (st, nw, ac, na, ik, im, rp, rl, rs, ri, tp, tn, lf, fd, tr, un)) {v0 : Nat → Int32} (hT : HE G (b + 12) (bI st) v0) (hn : nN (v0 0) ≤ 6) {y : Nat} (hy : y < 8) {i d : Int32} (hQ : ∀ G' : gG, XV G' b (st, nw, ac, na, ik, im, rp, rl, rs, ri, tp, tn, lf, fd, tr, un) → Frm G G' b 309 → Q (some (.int (bI (tld (ri y) (rs y) i (nN d) 0 v0)))) G') : Runs E y_X_isToldBy 6 0 S [.ref b, .ref (b + 277 + 2 * y), .int i, .int d] G Q := by
  refine Runs.of "ClockPost" [some (.ref b), some (.ref (b + 277 + 2 * y)), some (.int i), some (.int d), none] cw_X_isToldBy (by decide) (by decide +kernel) rfl (Nat.le_of_ble_eq_true rfl) rfl (fun K hK => ?_)
  refine r_iconst hK d_X_isToldBy_0 kc_0 ?_
  refine st_i_4_5 hK d_X_isToldBy_1 trivial ?_
  suffices L : ∀ j, j ≤ nN d → ∀ (G1 : gG) (v : Nat → Int32), XV G1 b (st, nw, ac, na, ik, im, rp, rl, rs, ri, tp, tn, lf, fd, tr, un) → HE G1 (b + 12) (bI st) v → Frm G G1 b 309 → nN (v 0) ≤ 6 →  tld (ri y) (rs y) i (nN d - j) j v = tld (ri y) (rs y) i (nN d) 0 v0 → K 3 [some (.ref b), some (.ref (b + 277 + 2 * y)), some (.int i), some (.int d), some (.int (nI j))] [] S G1 from L 0 (Nat.zero_le _) _ _ hX hT Frm.rf hn rfl
  refine lpN (nN d) (fun j hj ih G1 v hX hT hF hn hE => ?_)
  have := nN_lt d
  refine r_iload hK d_X_isToldBy_3 rfl ?_
  refine r_iload_n hK d_X_isToldBy_5 rfl ?_
  refine r_icmp_ge (tgt := 43) hK d_X_isToldBy_6 rfl (fun h6 => ?_) (fun h6 => ?_)
  · skip
    have hq : j = nN d := by have := (ge_nN (by omega)).mp h6; omega
    rw [hq, Nat.sub_self] at hE
    rw [← hE] at hQ
    refine r_iconst hK d_X_isToldBy_43 kc_1 ?_
    refine r_zret hK rfl (rfl) rfl d_X_isToldBy_44 ?_
    exact hQ _ hX hF
  · skip
    have hq : j < nN d := (lt_nN (by omega)).mp (Int32.not_le.mp h6)
    rw [show nN d - j = (nN d - (j + 1)) + 1 by omega, tld] at hE
    obtain ⟨g, hR, hg⟩ := hX.rows y hy
    have hs := hI.2.2.2.2.2.2.2.1 y hy
    refine r_aload_n hK d_X_isToldBy_9 rfl ?_
    refine r_get hK lf_X_29 d_X_isToldBy_10 (hX.1.1) rfl ?_
    refine r_v0 (k' := 4) hK lm_X_206 d_X_isToldBy_13 ⟨_, hT.o⟩ (by decide) (Nat.le_of_ble_eq_true rfl) ?_
    refine e_H_weight hT hn (kc_s ?_)
    refine r_aload_n hK d_X_isToldBy_16 rfl ?_
    refine r_iload_n hK d_X_isToldBy_17 rfl ?_
    refine r_iload hK d_X_isToldBy_18 rfl ?_
    refine r_iadd hK d_X_isToldBy_20 ?_
    refine r_v1 (k' := 2) hK lm_X_304 d_X_isToldBy_21 ⟨_, hR.1⟩ (by decide) (Nat.le_of_ble_eq_true rfl) ?_
    refine c_R_itemAt hR hs (kc_s ?_)
    have e21 : (if hasP (nI (rs y)) (i + nI j) 1 = true then g (nN (i + nI j)) else 0) = itA (ri y) (rs y) (i + nI j) := itA_c hs hg
    rw [e21]
    refine r_icmp_eq (tgt := 29) hK d_X_isToldBy_24 rfl (fun h24 => ?_) (fun h24 => ?_)
    · skip
      rw [if_pos h24] at hE
      refine r_aload_n hK d_X_isToldBy_29 rfl ?_
      refine r_get hK lf_X_29 d_X_isToldBy_30 (hX.1.1) rfl ?_
      refine r_v0 (k' := 5) hK lm_X_145 d_X_isToldBy_33 ⟨_, hT.o⟩ (by decide) (Nat.le_of_ble_eq_true rfl) ?_
      refine e_H_passDay hT hn (fun G33 hT f33 => kc_s ?_)
      have hX := hX.sF f33 hT.j
      have hF := hF.tr (f33.mono (by omega) (by omega))
      refine r_pop hK d_X_isToldBy_36 rfl ?_
      first | refine iN_4_5 hK d_X_isToldBy_37 trivial ?_ | refine ii_4_1_5 hK d_X_isToldBy_37 trivial ?_
      refine r_goto (tgt := 3) hK d_X_isToldBy_40 rfl ?_
      exact ih hq _ _ hX hT hF (by rw [passV_0]; exact hn) hE
    · skip
      rw [if_neg h24] at hE
      rw [← hE] at hQ
      refine r_iconst hK d_X_isToldBy_27 kc_0 ?_
      refine r_zret hK rfl (rfl) rfl d_X_isToldBy_28 ?_
      exact hQ _ hX hF
theorem c_X_burden {E : gX} {S : Nat} {G : gG} {Q : Option Value → gG → Prop} {b : Nat} {st : Bool} {nw : Nat → Int32} {ac : Nat → Nat → Int32} {na : Nat} {ik : Nat → Bool} {im : Nat → Nat → Int32} {rp : Nat → Bool} {rl : Nat → Int32} {rs : Nat → Nat} {ri : Nat → Nat → Int32} {tp : Nat → Int32} {tn : Nat} {lf : Int32} {fd : Int32} {tr : Nat → Int32} {un : Nat} (hX : XV G b (st, nw, ac, na, ik, im, rp, rl, rs, ri, tp, tn, lf, fd, tr, un)) (hI : XPI (st, nw, ac, na, ik, im, rp, rl, rs, ri, tp, tn, lf, fd, tr, un)) {d : Int32} (hQ : ∀ G' : gG, XV G' b (opBurden (st, nw, ac, na, ik, im, rp, rl, rs, ri, tp, tn, lf, fd, tr, un) d).2 → Frm G G' b 309 → Q (some (.int (opBurden (st, nw, ac, na, ik, im, rp, rl, rs, ri, tp, tn, lf, fd, tr, un) d).1)) G') : Runs E y_X_burden 7 0 S [.ref b, .int d] G Q := by
  refine Runs.of "ClockPost" [some (.ref b), some (.int d), none] cw_X_burden (by decide) (by decide +kernel) rfl (Nat.le_of_ble_eq_true rfl) rfl (fun K hK => ?_)
  refine r_aload_n hK d_X_burden_0 rfl ?_
  refine r_iload_n hK d_X_burden_1 rfl ?_
  refine r_iconst hK d_X_burden_2 kc_0 ?_
  refine r_bipush hK d_X_burden_3 kb_60 ?_
  refine r_s3 (k' := 1) hK lm_X_62 d_X_burden_5 (by decide) (Nat.le_of_ble_eq_true rfl) ?_
  refine c_X_isWithin (kc_s ?_)
  refine r_v1 (k' := 1) hK lm_X_198 d_X_burden_8 ⟨_, hX.1.1⟩ (by decide) (Nat.le_of_ble_eq_true rfl) ?_
  refine c_X_refusalOf (z := inB d 0 60) hX (kc_s ?_)
  refine st_in_2_3 hK d_X_burden_11 trivial ?_
  refine r_iload_n hK d_X_burden_12 rfl ?_
  refine r_if_eq (tgt := 20) hK d_X_burden_13 rfl (fun h13 => ?_) (fun h13 => ?_)
  · skip
    obtain ⟨hst, hz⟩ := rfu_0.mp h13
    simp only [opBurden, if_pos h13] at hQ
    refine r_aload_n hK d_X_burden_20 rfl ?_
    refine r_iload_n hK d_X_burden_21 rfl ?_
    refine r_v1 (k' := 6) hK lm_X_202 d_X_burden_22 ⟨_, hX.1.1⟩ (by decide) (Nat.le_of_ble_eq_true rfl) ?_
    refine c_X_foretell hX hI (fun G22 hX hT hF => kc_s ?_)
    refine r_v0 (k' := 4) hK lm_X_206 d_X_burden_25 ⟨_, hT.o⟩ (by decide) (Nat.le_of_ble_eq_true rfl) ?_
    refine e_H_weight hT (by rw [psN_0]; exact hI.1) (kc_s ?_)
    refine r_iret hK rfl rfl d_X_burden_28 ?_
    first | exact hQ _ hX hF | exact hQ _ hX Frm.rf
  · skip
    simp only [opBurden, if_neg h13] at hQ
    refine r_iload_n hK d_X_burden_16 rfl ?_
    refine r_goto (tgt := 28) hK d_X_burden_17 rfl ?_
    refine r_iret hK rfl rfl d_X_burden_28 ?_
    first | exact hQ _ hX hF | exact hQ _ hX Frm.rf
theorem c_X_sum {E : gX} {S : Nat} {G : gG} {Q : Option Value → gG → Prop} {b : Nat} {st : Bool} {nw : Nat → Int32} {ac : Nat → Nat → Int32} {na : Nat} {ik : Nat → Bool} {im : Nat → Nat → Int32} {rp : Nat → Bool} {rl : Nat → Int32} {rs : Nat → Nat} {ri : Nat → Nat → Int32} {tp : Nat → Int32} {tn : Nat} {lf : Int32} {fd : Int32} {tr : Nat → Int32} {un : Nat} (hX : XV G b (st, nw, ac, na, ik, im, rp, rl, rs, ri, tp, tn, lf, fd, tr, un)) (hI : XPI (st, nw, ac, na, ik, im, rp, rl, rs, ri, tp, tn, lf, fd, tr, un)) {d : Int32} (hQ : ∀ G' : gG, XV G' b (opSum (st, nw, ac, na, ik, im, rp, rl, rs, ri, tp, tn, lf, fd, tr, un) d).2 → Frm G G' b 309 → Q (some (.int (opSum (st, nw, ac, na, ik, im, rp, rl, rs, ri, tp, tn, lf, fd, tr, un) d).1)) G') : Runs E y_X_sum 7 0 S [.ref b, .int d] G Q := by
  refine Runs.of "ClockPost" [some (.ref b), some (.int d), none] cw_X_sum (by decide) (by decide +kernel) rfl (Nat.le_of_ble_eq_true rfl) rfl (fun K hK => ?_)
  refine r_aload_n hK d_X_sum_0 rfl ?_
  refine r_iload_n hK d_X_sum_1 rfl ?_
  refine r_iconst hK d_X_sum_2 kc_0 ?_
  refine r_bipush hK d_X_sum_3 kb_60 ?_
  refine r_s3 (k' := 1) hK lm_X_62 d_X_sum_5 (by decide) (Nat.le_of_ble_eq_true rfl) ?_
  refine c_X_isWithin (kc_s ?_)
  refine r_v1 (k' := 1) hK lm_X_198 d_X_sum_8 ⟨_, hX.1.1⟩ (by decide) (Nat.le_of_ble_eq_true rfl) ?_
  refine c_X_refusalOf (z := inB d 0 60) hX (kc_s ?_)
  refine st_in_2_3 hK d_X_sum_11 trivial ?_
  refine r_iload_n hK d_X_sum_12 rfl ?_
  refine r_if_eq (tgt := 20) hK d_X_sum_13 rfl (fun h13 => ?_) (fun h13 => ?_)
  · skip
    obtain ⟨hst, hz⟩ := rfu_0.mp h13
    simp only [opSum, if_pos h13] at hQ
    refine r_aload_n hK d_X_sum_20 rfl ?_
    refine r_iload_n hK d_X_sum_21 rfl ?_
    refine r_v1 (k' := 6) hK lm_X_202 d_X_sum_22 ⟨_, hX.1.1⟩ (by decide) (Nat.le_of_ble_eq_true rfl) ?_
    refine c_X_foretell hX hI (fun G22 hX hT hF => kc_s ?_)
    refine r_get hK lf_X_209 d_X_sum_25 (hT.o) rfl ?_
    refine r_iret hK rfl rfl d_X_sum_28 ?_
    first | exact hQ _ hX hF | exact hQ _ hX Frm.rf
  · skip
    simp only [opSum, if_neg h13] at hQ
    refine r_iload_n hK d_X_sum_16 rfl ?_
    refine r_goto (tgt := 28) hK d_X_sum_17 rfl ?_
    refine r_iret hK rfl rfl d_X_sum_28 ?_
    first | exact hQ _ hX hF | exact hQ _ hX Frm.rf
theorem c_X_behind {E : gX} {S : Nat} {G : gG} {Q : Option Value → gG → Prop} {b : Nat} {st : Bool} {nw : Nat → Int32} {ac : Nat → Nat → Int32} {na : Nat} {ik : Nat → Bool} {im : Nat → Nat → Int32} {rp : Nat → Bool} {rl : Nat → Int32} {rs : Nat → Nat} {ri : Nat → Nat → Int32} {tp : Nat → Int32} {tn : Nat} {lf : Int32} {fd : Int32} {tr : Nat → Int32} {un : Nat} (hX : XV G b (st, nw, ac, na, ik, im, rp, rl, rs, ri, tp, tn, lf, fd, tr, un)) (hI : XPI (st, nw, ac, na, ik, im, rp, rl, rs, ri, tp, tn, lf, fd, tr, un)) {d : Int32} (hQ : ∀ G' : gG, XV G' b (opBehind (st, nw, ac, na, ik, im, rp, rl, rs, ri, tp, tn, lf, fd, tr, un) d).2 → Frm G G' b 309 → Q (some (.int (opBehind (st, nw, ac, na, ik, im, rp, rl, rs, ri, tp, tn, lf, fd, tr, un) d).1)) G') : Runs E y_X_behind 7 0 S [.ref b, .int d] G Q := by
  refine Runs.of "ClockPost" [some (.ref b), some (.int d), none] cw_X_behind (by decide) (by decide +kernel) rfl (Nat.le_of_ble_eq_true rfl) rfl (fun K hK => ?_)
  refine r_aload_n hK d_X_behind_0 rfl ?_
  refine r_iload_n hK d_X_behind_1 rfl ?_
  refine r_iconst hK d_X_behind_2 kc_0 ?_
  refine r_bipush hK d_X_behind_3 kb_60 ?_
  refine r_s3 (k' := 1) hK lm_X_62 d_X_behind_5 (by decide) (Nat.le_of_ble_eq_true rfl) ?_
  refine c_X_isWithin (kc_s ?_)
  refine r_v1 (k' := 1) hK lm_X_198 d_X_behind_8 ⟨_, hX.1.1⟩ (by decide) (Nat.le_of_ble_eq_true rfl) ?_
  refine c_X_refusalOf (z := inB d 0 60) hX (kc_s ?_)
  refine st_in_2_3 hK d_X_behind_11 trivial ?_
  refine r_iload_n hK d_X_behind_12 rfl ?_
  refine r_if_eq (tgt := 20) hK d_X_behind_13 rfl (fun h13 => ?_) (fun h13 => ?_)
  · skip
    obtain ⟨hst, hz⟩ := rfu_0.mp h13
    simp only [opBehind, if_pos h13] at hQ
    refine r_aload_n hK d_X_behind_20 rfl ?_
    refine r_iload_n hK d_X_behind_21 rfl ?_
    refine r_v1 (k' := 6) hK lm_X_202 d_X_behind_22 ⟨_, hX.1.1⟩ (by decide) (Nat.le_of_ble_eq_true rfl) ?_
    refine c_X_foretell hX hI (fun G22 hX hT hF => kc_s ?_)
    refine r_get hK lf_X_149 d_X_behind_25 (hT.o) rfl ?_
    refine r_iret hK rfl rfl d_X_behind_28 ?_
    first | exact hQ _ hX hF | exact hQ _ hX Frm.rf
  · skip
    simp only [opBehind, if_neg h13] at hQ
    refine r_iload_n hK d_X_behind_16 rfl ?_
    refine r_goto (tgt := 28) hK d_X_behind_17 rfl ?_
    refine r_iret hK rfl rfl d_X_behind_28 ?_
    first | exact hQ _ hX hF | exact hQ _ hX Frm.rf
theorem c_X_falls {E : gX} {S : Nat} {G : gG} {Q : Option Value → gG → Prop} {b : Nat} {st : Bool} {nw : Nat → Int32} {ac : Nat → Nat → Int32} {na : Nat} {ik : Nat → Bool} {im : Nat → Nat → Int32} {rp : Nat → Bool} {rl : Nat → Int32} {rs : Nat → Nat} {ri : Nat → Nat → Int32} {tp : Nat → Int32} {tn : Nat} {lf : Int32} {fd : Int32} {tr : Nat → Int32} {un : Nat} (hX : XV G b (st, nw, ac, na, ik, im, rp, rl, rs, ri, tp, tn, lf, fd, tr, un)) (hI : XPI (st, nw, ac, na, ik, im, rp, rl, rs, ri, tp, tn, lf, fd, tr, un)) {w : Int32} (hQ : ∀ G' : gG, XV G' b (opFalls (st, nw, ac, na, ik, im, rp, rl, rs, ri, tp, tn, lf, fd, tr, un) w).2 → Frm G G' b 309 → Q (some (.int (opFalls (st, nw, ac, na, ik, im, rp, rl, rs, ri, tp, tn, lf, fd, tr, un) w).1)) G') : Runs E y_X_falls 6 0 S [.ref b, .int w] G Q := by
  refine Runs.of "ClockPost" [some (.ref b), some (.int w), none, none, none] cw_X_falls (by decide) (by decide +kernel) rfl (Nat.le_of_ble_eq_true rfl) rfl (fun K hK => ?_)
  refine r_aload_n hK d_X_falls_0 rfl ?_
  refine r_iload_n hK d_X_falls_1 rfl ?_
  refine r_iconst hK d_X_falls_2 kc_0 ?_
  refine r_iconst hK d_X_falls_3 kc_1 ?_
  refine r_s3 (k' := 1) hK lm_X_62 d_X_falls_4 (by decide) (Nat.le_of_ble_eq_true rfl) ?_
  refine c_X_isWithin (kc_s ?_)
  refine r_v1 (k' := 1) hK lm_X_198 d_X_falls_7 ⟨_, hX.1.1⟩ (by decide) (Nat.le_of_ble_eq_true rfl) ?_
  refine c_X_refusalOf (z := inB w 0 1) hX (kc_s ?_)
  refine st_in_2_5 hK d_X_falls_10 trivial ?_
  refine r_iload_n hK d_X_falls_11 rfl ?_
  refine r_if_eq (tgt := 17) hK d_X_falls_12 rfl (fun h12 => ?_) (fun h12 => ?_)
  · skip
    obtain ⟨hst, hz⟩ := rfu_0.mp h12
    simp only [opFalls, if_pos h12] at hQ
    refine r_aload_n hK d_X_falls_17 rfl ?_
    refine r_get hK lf_X_29 d_X_falls_18 (hX.1.1) rfl ?_
    refine r_aload_n hK d_X_falls_21 rfl ?_
    refine r_get hK lf_X_25 d_X_falls_22 (hX.1.1) rfl ?_
    obtain ⟨s0, u0, hT⟩ := hX.fore
    refine r_v1 (k' := 2) hK lm_X_122 d_X_falls_25 ⟨_, hT.o⟩ (by decide) (Nat.le_of_ble_eq_true rfl) ?_
    refine e_H_become hT hX.now hI.1 (by omega) (fun G25 hT f25 => kc_n ?_)
    have hX := hX.sF f25 hT.j
    have hF : Frm G G25 b 309 := f25.mono (by omega) (by omega)
    refine r_iconst hK d_X_falls_28 kc_1 ?_
    refine st_in_3_5 hK d_X_falls_29 trivial ?_
    suffices L : ∀ j, j ≤ 60 → ∀ (a4 : Option Value), ∀ (G1 : gG) (v : Nat → Int32), XV G1 b (st, nw, ac, na, ik, im, rp, rl, rs, ri, tp, tn, lf, fd, tr, un) → HE G1 (b + 12) (bI st) v → Frm G G1 b 309 → nN (v 0) ≤ 6 →  flS (60 - j) (j + 1) v = flS 60 1 nw → K 30 [some (.ref b), some (.int w), some (.int (rfu st (inB w 0 1))), some (.int (nI (j + 1))), a4] [] S G1 from L 0 (Nat.zero_le _) _ _ _ hX hT hF hI.1 rfl
    refine lpN 60 (fun j hj ih a4 G1 v hX hT hF hn hE => ?_)
    refine r_iload_n hK d_X_falls_30 rfl ?_
    refine r_bipush hK d_X_falls_31 kb_60 ?_
    refine r_icmp_gt (tgt := 69) hK d_X_falls_33 rfl (fun h33 => ?_) (fun h33 => ?_)
    · skip
      have hq : j = 60 := by have := (clt (n := 60) (by decide) (by omega)).mp h33; omega
      rw [hq, Nat.sub_self] at hE
      rw [← hE] at hQ
      refine r_ldc hK d_X_falls_69 lc_X_212 ?_
      refine r_iret hK rfl rfl d_X_falls_71 ?_
      exact hQ _ hX hF
    · skip
      have hq : j < 60 := Nat.lt_of_succ_le (Nat.not_lt.mp (fun q => h33 ((clt (n := 60) (by decide) (by omega)).mpr q)))
      rw [show 60 - j = (60 - (j + 1)) + 1 by omega, flS] at hE
      refine r_aload_n hK d_X_falls_36 rfl ?_
      refine r_get hK lf_X_29 d_X_falls_37 (hX.1.1) rfl ?_
      refine r_v0 (k' := 5) hK lm_X_145 d_X_falls_40 ⟨_, hT.o⟩ (by decide) (Nat.le_of_ble_eq_true rfl) ?_
      refine e_H_passDay hT hn (fun G40 hT f40 => kc_s ?_)
      have hX := hX.sF f40 hT.j
      have hF := hF.tr (f40.mono (by omega) (by omega))
      refine st_i_4_5 hK d_X_falls_43 trivial ?_
      refine r_iload hK d_X_falls_45 rfl ?_
      refine r_ldc hK d_X_falls_47 lc_X_212 ?_
      refine r_icmp_eq (tgt := 63) hK d_X_falls_49 rfl (fun h49 => ?_) (fun h49 => ?_)
      · skip
        have hp := (oI_n (passV_lt hn)).mp h49
        rw [hp] at hE
        first | refine iN_3_5 hK d_X_falls_63 trivial ?_ | refine ii_3_1_5 hK d_X_falls_63 trivial ?_
        refine r_goto (tgt := 30) hK d_X_falls_66 rfl ?_
        exact ih hq _ _ _ hX hT hF (by rw [passV_0]; exact hn) hE
      · skip
        obtain ⟨k, hk⟩ : ∃ k, (passV v).2 = some k := by
          cases hk : (passV v).2 with
          | none => exact absurd ((oI_n (passV_lt hn)).mpr hk) h49
          | some k => exact ⟨k, rfl⟩
        rw [hk] at hE
        rw [← hE] at hQ
        rw [hk]
        refine r_iload_n hK d_X_falls_52 rfl ?_
        refine r_if_ne (tgt := 60) hK d_X_falls_53 rfl (fun h53 => ?_) (fun h53 => ?_)
        · skip
          simp only [if_neg h53] at hQ
          refine r_iload hK d_X_falls_60 rfl ?_
          refine r_iret hK rfl rfl d_X_falls_62 ?_
          exact hQ _ hX hF
        · skip
          simp only [if_pos h53] at hQ
          refine r_iload_n hK d_X_falls_56 rfl ?_
          refine r_goto (tgt := 62) hK d_X_falls_57 rfl ?_
          refine r_iret hK rfl rfl d_X_falls_62 ?_
          exact hQ _ hX hF
  · skip
    simp only [opFalls, if_neg h12] at hQ
    refine r_iload_n hK d_X_falls_15 rfl ?_
    refine r_iret hK rfl rfl d_X_falls_16 ?_
    exact hQ _ hX Frm.rf
