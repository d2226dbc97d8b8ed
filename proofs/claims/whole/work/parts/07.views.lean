-- views of the class's small objects
def letL (v : Nat → Int32) (i : Nat) : List Value := [.int (v (6 + i)), .int (v (12 + i)), .int (v (18 + i)), .int (v (24 + i)), .int (v (30 + i))]
def LX (G : gG) (a : Nat) (l : List Value) : Prop := G a = some (.inr (0, l))
def RX (G : gG) (r : Nat) (ms lane size : Int32) (f : Nat → Int32) : Prop := G r = some (.inr (1, [.ref (r + 1), .int ms, .int lane, .int size])) ∧ G (r + 1) = some (.inl (0, 40, .inl f))
def TX (G : gG) (a : Nat) (f : Nat → Int32) (n : Int32) : Prop := G a = some (.inr (2, [.ref (a + 1), .int n])) ∧ G (a + 1) = some (.inl (0, 16, .inl f))
def HX (G : gG) (h : Nat) (s : Int32) (v : Nat → Int32) : Prop := G h = some (.inr (3, [.ref (h + 1), .int s, .int (v 0), .int (v 1), .int (v 3), .int (v 2), .int (v 4), .int (v 5)])) ∧ G (h + 1) = some (.inl (4, 6, .inr (.inr (.inr (.inr (fun i => some (h + 2 + i))))))) ∧ ∀ i, i < 6 → LX G (h + 2 + i) (letL v i)
def PX (G : gG) (a : Nat) (f : Nat → Int32) (n lf pl nb : Int32) : Prop := G a = some (.inr (6, [.ref (a + 1), .int n, .int lf, .int pl, .int nb])) ∧ G (a + 1) = some (.inl (0, 100, .inl f))
theorem RX.frm {G G' : gG} {r a n : Nat} {ms lane size : Int32} {f : Nat → Int32} (h : RX G r ms lane size f) (hF : Frm G G' a n) (hd : r + 2 ≤ a ∨ a + n ≤ r) : RX G' r ms lane size f := ⟨(hF _ (by omega)).trans h.1, (hF _ (by omega)).trans h.2⟩
theorem TX.frm {G G' : gG} {r a n : Nat} {m : Int32} {f : Nat → Int32} (h : TX G r f m) (hF : Frm G G' a n) (hd : r + 2 ≤ a ∨ a + n ≤ r) : TX G' r f m := ⟨(hF _ (by omega)).trans h.1, (hF _ (by omega)).trans h.2⟩
theorem PX.frm {G G' : gG} {r a n : Nat} {m lf pl nb : Int32} {f : Nat → Int32} (h : PX G r f m lf pl nb) (hF : Frm G G' a n) (hd : r + 2 ≤ a ∨ a + n ≤ r) : PX G' r f m lf pl nb := ⟨(hF _ (by omega)).trans h.1, (hF _ (by omega)).trans h.2⟩
theorem LX.frm {G G' : gG} {r a n : Nat} {l : List Value} (h : LX G r l) (hF : Frm G G' a n) (hd : r < a ∨ a + n ≤ r) : LX G' r l := (hF _ (by omega)).trans h
theorem HX.frm {G G' : gG} {h a n : Nat} {s : Int32} {v : Nat → Int32} (hH : HX G h s v) (hF : Frm G G' a n) (hd : h + 8 ≤ a ∨ a + n ≤ h) : HX G' h s v := ⟨(hF _ (by omega)).trans hH.1, (hF _ (by omega)).trans hH.2.1, fun i hi => (hH.2.2 i hi).frm hF (by omega)⟩
theorem HX.cast {G : gG} {h : Nat} {s : Int32} {v w : Nat → Int32} (hH : HX G h s v) (e : ∀ k, k < 36 → v k = w k) : HX G h s w := by
  refine ⟨?_, hH.2.1, fun i hi => ?_⟩
  · rw [← e 0 (by omega), ← e 1 (by omega), ← e 2 (by omega), ← e 3 (by omega), ← e 4 (by omega), ← e 5 (by omega)]
    exact hH.1
  · have := hH.2.2 i hi
    unfold letL at this ⊢
    rw [← e (6 + i) (by omega), ← e (12 + i) (by omega), ← e (18 + i) (by omega), ← e (24 + i) (by omega), ← e (30 + i) (by omega)]
    exact this
theorem upd_s {f : Nat → Int32} {k : Nat} {x : Int32} : upd f k x k = x := by simp [upd]
theorem upd_n {f : Nat → Int32} {k j : Nat} {x : Int32} (h : j ≠ k) : upd f k x j = f j := by simp [upd, h]
theorem HX.setL {G : gG} {h j : Nat} {s : Int32} {v w : Nat → Int32} (hH : HX G h s v) (hj : j < 6) (hw : ∀ k, k < 36 → (k ≠ 6 + j ∧ k ≠ 12 + j ∧ k ≠ 18 + j ∧ k ≠ 24 + j ∧ k ≠ 30 + j) → w k = v k) : HX (gup G (h + 2 + j) (.inr (0, letL w j))) h s w := by
  refine ⟨?_, (gup_n (by omega)).trans hH.2.1, fun i hi => ?_⟩
  · rw [gup_n (by omega), hw 0 (by omega) (by omega), hw 1 (by omega) (by omega), hw 2 (by omega) (by omega), hw 3 (by omega) (by omega), hw 4 (by omega) (by omega), hw 5 (by omega) (by omega)]
    exact hH.1
  · unfold LX
    by_cases e : i = j
    · subst e; exact gup_s
    · rw [gup_n (by omega)]
      have := hH.2.2 i hi
      unfold letL at this ⊢
      rw [hw (6 + i) (by omega) (by omega), hw (12 + i) (by omega) (by omega), hw (18 + i) (by omega) (by omega), hw (24 + i) (by omega) (by omega), hw (30 + i) (by omega) (by omega)]
      exact this
section PU
variable {E : gX} {own : String} {cc : ByteArray} {ret : Option FieldType} {nL k mc sz0 : Nat} {ini : Bool} {G0 : gG} {Q : Option Value → gG → Prop} {K : Nat → List (Option Value) → List Value → Nat → gG → Prop}
variable {pc sz idx : Nat} {st : List Value} {G : gG} {Ls : List (Option Value)}
theorem p_R_missing (hK : Cl E own cc ret nL k mc sz0 ini G0 Q K) {r : Nat} {ms lane size : Int32} {f : Nat → Int32} {x : Int32} (hl : LkF own idx 1 1 (.boolean) false) (hd : decode cc pc = .ok (.putfield idx, 3)) (hV : RX G r ms lane size f) (hn : narrow .boolean (.int x) = .int x) (hf : fits .boolean (.int x) = true) (kk : ∀ G' : gG, RX G' r x lane size f → Frm G G' r 2 → K (pc + 3) Ls st sz G') : K pc Ls (.int x :: .ref r :: st) sz G :=
  r_put hK hl hd hV.1 hn hf (Nat.le_of_ble_eq_true rfl) (kk _ ⟨gup_s, (gup_n (by omega)).trans hV.2⟩ (Frm.up (by omega) (by omega)))
theorem p_R_lane (hK : Cl E own cc ret nL k mc sz0 ini G0 Q K) {r : Nat} {ms lane size : Int32} {f : Nat → Int32} {x : Int32} (hl : LkF own idx 1 2 (.int) false) (hd : decode cc pc = .ok (.putfield idx, 3)) (hV : RX G r ms lane size f) (kk : ∀ G' : gG, RX G' r ms x size f → Frm G G' r 2 → K (pc + 3) Ls st sz G') : K pc Ls (.int x :: .ref r :: st) sz G :=
  r_put hK hl hd hV.1 rfl rfl (Nat.le_of_ble_eq_true rfl) (kk _ ⟨gup_s, (gup_n (by omega)).trans hV.2⟩ (Frm.up (by omega) (by omega)))
theorem p_R_size (hK : Cl E own cc ret nL k mc sz0 ini G0 Q K) {r : Nat} {ms lane size : Int32} {f : Nat → Int32} {x : Int32} (hl : LkF own idx 1 3 (.int) false) (hd : decode cc pc = .ok (.putfield idx, 3)) (hV : RX G r ms lane size f) (kk : ∀ G' : gG, RX G' r ms lane x f → Frm G G' r 2 → K (pc + 3) Ls st sz G') : K pc Ls (.int x :: .ref r :: st) sz G :=
  r_put hK hl hd hV.1 rfl rfl (Nat.le_of_ble_eq_true rfl) (kk _ ⟨gup_s, (gup_n (by omega)).trans hV.2⟩ (Frm.up (by omega) (by omega)))
theorem p_T_length (hK : Cl E own cc ret nL k mc sz0 ini G0 Q K) {r : Nat} {m : Int32} {f : Nat → Int32} {x : Int32} (hl : LkF own idx 2 1 (.int) false) (hd : decode cc pc = .ok (.putfield idx, 3)) (hV : TX G r f m) (kk : ∀ G' : gG, TX G' r f x → Frm G G' r 2 → K (pc + 3) Ls st sz G') : K pc Ls (.int x :: .ref r :: st) sz G :=
  r_put hK hl hd hV.1 rfl rfl (Nat.le_of_ble_eq_true rfl) (kk _ ⟨gup_s, (gup_n (by omega)).trans hV.2⟩ (Frm.up (by omega) (by omega)))
theorem p_P_length (hK : Cl E own cc ret nL k mc sz0 ini G0 Q K) {r : Nat} {n lf pl nb : Int32} {f : Nat → Int32} {x : Int32} (hl : LkF own idx 6 1 (.int) false) (hd : decode cc pc = .ok (.putfield idx, 3)) (hV : PX G r f n lf pl nb) (kk : ∀ G' : gG, PX G' r f x lf pl nb → Frm G G' r 2 → K (pc + 3) Ls st sz G') : K pc Ls (.int x :: .ref r :: st) sz G :=
  r_put hK hl hd hV.1 rfl rfl (Nat.le_of_ble_eq_true rfl) (kk _ ⟨gup_s, (gup_n (by omega)).trans hV.2⟩ (Frm.up (by omega) (by omega)))
theorem p_P_latestFault (hK : Cl E own cc ret nL k mc sz0 ini G0 Q K) {r : Nat} {n lf pl nb : Int32} {f : Nat → Int32} {x : Int32} (hl : LkF own idx 6 2 (.int) false) (hd : decode cc pc = .ok (.putfield idx, 3)) (hV : PX G r f n lf pl nb) (kk : ∀ G' : gG, PX G' r f n x pl nb → Frm G G' r 2 → K (pc + 3) Ls st sz G') : K pc Ls (.int x :: .ref r :: st) sz G :=
  r_put hK hl hd hV.1 rfl rfl (Nat.le_of_ble_eq_true rfl) (kk _ ⟨gup_s, (gup_n (by omega)).trans hV.2⟩ (Frm.up (by omega) (by omega)))
theorem p_P_place (hK : Cl E own cc ret nL k mc sz0 ini G0 Q K) {r : Nat} {n lf pl nb : Int32} {f : Nat → Int32} {x : Int32} (hl : LkF own idx 6 3 (.int) false) (hd : decode cc pc = .ok (.putfield idx, 3)) (hV : PX G r f n lf pl nb) (kk : ∀ G' : gG, PX G' r f n lf x nb → Frm G G' r 2 → K (pc + 3) Ls st sz G') : K pc Ls (.int x :: .ref r :: st) sz G :=
  r_put hK hl hd hV.1 rfl rfl (Nat.le_of_ble_eq_true rfl) (kk _ ⟨gup_s, (gup_n (by omega)).trans hV.2⟩ (Frm.up (by omega) (by omega)))
theorem p_P_number (hK : Cl E own cc ret nL k mc sz0 ini G0 Q K) {r : Nat} {n lf pl nb : Int32} {f : Nat → Int32} {x : Int32} (hl : LkF own idx 6 4 (.int) false) (hd : decode cc pc = .ok (.putfield idx, 3)) (hV : PX G r f n lf pl nb) (kk : ∀ G' : gG, PX G' r f n lf pl x → Frm G G' r 2 → K (pc + 3) Ls st sz G') : K pc Ls (.int x :: .ref r :: st) sz G :=
  r_put hK hl hd hV.1 rfl rfl (Nat.le_of_ble_eq_true rfl) (kk _ ⟨gup_s, (gup_n (by omega)).trans hV.2⟩ (Frm.up (by omega) (by omega)))
theorem p_H_stands (hK : Cl E own cc ret nL k mc sz0 ini G0 Q K) {h : Nat} {s : Int32} {v : Nat → Int32} {x : Int32} (hl : LkF own idx 3 1 (.boolean) false) (hd : decode cc pc = .ok (.putfield idx, 3)) (hV : HX G h s v) (hn : narrow .boolean (.int x) = .int x) (hf : fits .boolean (.int x) = true) (kk : ∀ G' : gG, HX G' h x v → Frm G G' h 8 → K (pc + 3) Ls st sz G') : K pc Ls (.int x :: .ref h :: st) sz G :=
  r_put hK hl hd hV.1 hn hf (Nat.le_of_ble_eq_true rfl) (kk _ ⟨gup_s, (gup_n (by omega)).trans hV.2.1, fun i hi => (gup_n (by omega)).trans (hV.2.2 i hi)⟩ (Frm.up (by omega) (by omega)))
theorem p_H_letterCount (hK : Cl E own cc ret nL k mc sz0 ini G0 Q K) {h : Nat} {s : Int32} {v : Nat → Int32} {x : Int32} (hl : LkF own idx 3 2 (.int) false) (hd : decode cc pc = .ok (.putfield idx, 3)) (hV : HX G h s v) (kk : ∀ G' : gG, HX G' h s (upd v 0 x) → Frm G G' h 8 → K (pc + 3) Ls st sz G') : K pc Ls (.int x :: .ref h :: st) sz G :=
  r_put hK hl hd hV.1 rfl rfl (Nat.le_of_ble_eq_true rfl) (kk _ ⟨gup_s, (gup_n (by omega)).trans hV.2.1, fun i hi => (gup_n (by omega)).trans ((hV.2.2 i hi).trans (by unfold letL; rw [upd_n (by omega), upd_n (by omega), upd_n (by omega), upd_n (by omega), upd_n (by omega)]))⟩ (Frm.up (by omega) (by omega)))
theorem p_H_gap (hK : Cl E own cc ret nL k mc sz0 ini G0 Q K) {h : Nat} {s : Int32} {v : Nat → Int32} {x : Int32} (hl : LkF own idx 3 3 (.int) false) (hd : decode cc pc = .ok (.putfield idx, 3)) (hV : HX G h s v) (kk : ∀ G' : gG, HX G' h s (upd v 1 x) → Frm G G' h 8 → K (pc + 3) Ls st sz G') : K pc Ls (.int x :: .ref h :: st) sz G :=
  r_put hK hl hd hV.1 rfl rfl (Nat.le_of_ble_eq_true rfl) (kk _ ⟨gup_s, (gup_n (by omega)).trans hV.2.1, fun i hi => (gup_n (by omega)).trans ((hV.2.2 i hi).trans (by unfold letL; rw [upd_n (by omega), upd_n (by omega), upd_n (by omega), upd_n (by omega), upd_n (by omega)]))⟩ (Frm.up (by omega) (by omega)))
theorem p_H_behindBits (hK : Cl E own cc ret nL k mc sz0 ini G0 Q K) {h : Nat} {s : Int32} {v : Nat → Int32} {x : Int32} (hl : LkF own idx 3 4 (.int) false) (hd : decode cc pc = .ok (.putfield idx, 3)) (hV : HX G h s v) (kk : ∀ G' : gG, HX G' h s (upd v 3 x) → Frm G G' h 8 → K (pc + 3) Ls st sz G') : K pc Ls (.int x :: .ref h :: st) sz G :=
  r_put hK hl hd hV.1 rfl rfl (Nat.le_of_ble_eq_true rfl) (kk _ ⟨gup_s, (gup_n (by omega)).trans hV.2.1, fun i hi => (gup_n (by omega)).trans ((hV.2.2 i hi).trans (by unfold letL; rw [upd_n (by omega), upd_n (by omega), upd_n (by omega), upd_n (by omega), upd_n (by omega)]))⟩ (Frm.up (by omega) (by omega)))
theorem p_H_day (hK : Cl E own cc ret nL k mc sz0 ini G0 Q K) {h : Nat} {s : Int32} {v : Nat → Int32} {x : Int32} (hl : LkF own idx 3 5 (.int) false) (hd : decode cc pc = .ok (.putfield idx, 3)) (hV : HX G h s v) (kk : ∀ G' : gG, HX G' h s (upd v 2 x) → Frm G G' h 8 → K (pc + 3) Ls st sz G') : K pc Ls (.int x :: .ref h :: st) sz G :=
  r_put hK hl hd hV.1 rfl rfl (Nat.le_of_ble_eq_true rfl) (kk _ ⟨gup_s, (gup_n (by omega)).trans hV.2.1, fun i hi => (gup_n (by omega)).trans ((hV.2.2 i hi).trans (by unfold letL; rw [upd_n (by omega), upd_n (by omega), upd_n (by omega), upd_n (by omega), upd_n (by omega)]))⟩ (Frm.up (by omega) (by omega)))
theorem p_H_sum (hK : Cl E own cc ret nL k mc sz0 ini G0 Q K) {h : Nat} {s : Int32} {v : Nat → Int32} {x : Int32} (hl : LkF own idx 3 6 (.int) false) (hd : decode cc pc = .ok (.putfield idx, 3)) (hV : HX G h s v) (kk : ∀ G' : gG, HX G' h s (upd v 4 x) → Frm G G' h 8 → K (pc + 3) Ls st sz G') : K pc Ls (.int x :: .ref h :: st) sz G :=
  r_put hK hl hd hV.1 rfl rfl (Nat.le_of_ble_eq_true rfl) (kk _ ⟨gup_s, (gup_n (by omega)).trans hV.2.1, fun i hi => (gup_n (by omega)).trans ((hV.2.2 i hi).trans (by unfold letL; rw [upd_n (by omega), upd_n (by omega), upd_n (by omega), upd_n (by omega), upd_n (by omega)]))⟩ (Frm.up (by omega) (by omega)))
theorem p_H_sorrow (hK : Cl E own cc ret nL k mc sz0 ini G0 Q K) {h : Nat} {s : Int32} {v : Nat → Int32} {x : Int32} (hl : LkF own idx 3 7 (.int) false) (hd : decode cc pc = .ok (.putfield idx, 3)) (hV : HX G h s v) (kk : ∀ G' : gG, HX G' h s (upd v 5 x) → Frm G G' h 8 → K (pc + 3) Ls st sz G') : K pc Ls (.int x :: .ref h :: st) sz G :=
  r_put hK hl hd hV.1 rfl rfl (Nat.le_of_ble_eq_true rfl) (kk _ ⟨gup_s, (gup_n (by omega)).trans hV.2.1, fun i hi => (gup_n (by omega)).trans ((hV.2.2 i hi).trans (by unfold letL; rw [upd_n (by omega), upd_n (by omega), upd_n (by omega), upd_n (by omega), upd_n (by omega)]))⟩ (Frm.up (by omega) (by omega)))
theorem ph_L_kind (hK : Cl E own cc ret nL k mc sz0 ini G0 Q K) {h j : Nat} {s : Int32} {v : Nat → Int32} {x : Int32} (hl : LkF own idx 0 0 .int false) (hd : decode cc pc = .ok (.putfield idx, 3)) (hV : HX G h s v) (hj : j < 6) (kk : ∀ G' : gG, HX G' h s (upd v (6 + j) x) → Frm G G' h 8 → K (pc + 3) Ls st sz G') : K pc Ls (.int x :: .ref (h + 2 + j) :: st) sz G := by
  refine r_put hK hl hd (hV.2.2 j hj) rfl rfl (by simp [letL]) ?_
  have e : (letL v j).set 0 (.int x) = letL (upd v (6 + j) x) j := by
    unfold letL
    rw [upd_s, upd_n (by omega), upd_n (by omega), upd_n (by omega), upd_n (by omega)]
    rfl
  rw [e]
  exact kk _ (hV.setL hj (fun k _ h => upd_n (by omega))) (Frm.up (by omega) (by omega))
theorem p_L_kind (hK : Cl E own cc ret nL k mc sz0 ini G0 Q K) {a : Nat} {a0 a1 a2 a3 a4 : Value} {x : Int32} (hl : LkF own idx 0 0 .int false) (hd : decode cc pc = .ok (.putfield idx, 3)) (hV : LX G a [a0, a1, a2, a3, a4]) (kk : ∀ G' : gG, LX G' a [.int x, a1, a2, a3, a4] → Frm G G' a 1 → K (pc + 3) Ls st sz G') : K pc Ls (.int x :: .ref a :: st) sz G :=
  r_put hK hl hd hV rfl rfl (Nat.le_of_ble_eq_true rfl) (kk _ gup_s (Frm.up (by omega) (by omega)))
theorem ph_L_fear (hK : Cl E own cc ret nL k mc sz0 ini G0 Q K) {h j : Nat} {s : Int32} {v : Nat → Int32} {x : Int32} (hl : LkF own idx 0 1 .int false) (hd : decode cc pc = .ok (.putfield idx, 3)) (hV : HX G h s v) (hj : j < 6) (kk : ∀ G' : gG, HX G' h s (upd v (12 + j) x) → Frm G G' h 8 → K (pc + 3) Ls st sz G') : K pc Ls (.int x :: .ref (h + 2 + j) :: st) sz G := by
  refine r_put hK hl hd (hV.2.2 j hj) rfl rfl (by simp [letL]) ?_
  have e : (letL v j).set 1 (.int x) = letL (upd v (12 + j) x) j := by
    unfold letL
    rw [upd_n (by omega), upd_s, upd_n (by omega), upd_n (by omega), upd_n (by omega)]
    rfl
  rw [e]
  exact kk _ (hV.setL hj (fun k _ h => upd_n (by omega))) (Frm.up (by omega) (by omega))
theorem p_L_fear (hK : Cl E own cc ret nL k mc sz0 ini G0 Q K) {a : Nat} {a0 a1 a2 a3 a4 : Value} {x : Int32} (hl : LkF own idx 0 1 .int false) (hd : decode cc pc = .ok (.putfield idx, 3)) (hV : LX G a [a0, a1, a2, a3, a4]) (kk : ∀ G' : gG, LX G' a [a0, .int x, a2, a3, a4] → Frm G G' a 1 → K (pc + 3) Ls st sz G') : K pc Ls (.int x :: .ref a :: st) sz G :=
  r_put hK hl hd hV rfl rfl (Nat.le_of_ble_eq_true rfl) (kk _ gup_s (Frm.up (by omega) (by omega)))
theorem ph_L_thick (hK : Cl E own cc ret nL k mc sz0 ini G0 Q K) {h j : Nat} {s : Int32} {v : Nat → Int32} {x : Int32} (hl : LkF own idx 0 2 .int false) (hd : decode cc pc = .ok (.putfield idx, 3)) (hV : HX G h s v) (hj : j < 6) (kk : ∀ G' : gG, HX G' h s (upd v (18 + j) x) → Frm G G' h 8 → K (pc + 3) Ls st sz G') : K pc Ls (.int x :: .ref (h + 2 + j) :: st) sz G := by
  refine r_put hK hl hd (hV.2.2 j hj) rfl rfl (by simp [letL]) ?_
  have e : (letL v j).set 2 (.int x) = letL (upd v (18 + j) x) j := by
    unfold letL
    rw [upd_n (by omega), upd_n (by omega), upd_s, upd_n (by omega), upd_n (by omega)]
    rfl
  rw [e]
  exact kk _ (hV.setL hj (fun k _ h => upd_n (by omega))) (Frm.up (by omega) (by omega))
theorem p_L_thick (hK : Cl E own cc ret nL k mc sz0 ini G0 Q K) {a : Nat} {a0 a1 a2 a3 a4 : Value} {x : Int32} (hl : LkF own idx 0 2 .int false) (hd : decode cc pc = .ok (.putfield idx, 3)) (hV : LX G a [a0, a1, a2, a3, a4]) (kk : ∀ G' : gG, LX G' a [a0, a1, .int x, a3, a4] → Frm G G' a 1 → K (pc + 3) Ls st sz G') : K pc Ls (.int x :: .ref a :: st) sz G :=
  r_put hK hl hd hV rfl rfl (Nat.le_of_ble_eq_true rfl) (kk _ gup_s (Frm.up (by omega) (by omega)))
theorem ph_L_holds (hK : Cl E own cc ret nL k mc sz0 ini G0 Q K) {h j : Nat} {s : Int32} {v : Nat → Int32} {x : Int32} (hl : LkF own idx 0 3 .int false) (hd : decode cc pc = .ok (.putfield idx, 3)) (hV : HX G h s v) (hj : j < 6) (kk : ∀ G' : gG, HX G' h s (upd v (24 + j) x) → Frm G G' h 8 → K (pc + 3) Ls st sz G') : K pc Ls (.int x :: .ref (h + 2 + j) :: st) sz G := by
  refine r_put hK hl hd (hV.2.2 j hj) rfl rfl (by simp [letL]) ?_
  have e : (letL v j).set 3 (.int x) = letL (upd v (24 + j) x) j := by
    unfold letL
    rw [upd_n (by omega), upd_n (by omega), upd_n (by omega), upd_s, upd_n (by omega)]
    rfl
  rw [e]
  exact kk _ (hV.setL hj (fun k _ h => upd_n (by omega))) (Frm.up (by omega) (by omega))
theorem p_L_holds (hK : Cl E own cc ret nL k mc sz0 ini G0 Q K) {a : Nat} {a0 a1 a2 a3 a4 : Value} {x : Int32} (hl : LkF own idx 0 3 .int false) (hd : decode cc pc = .ok (.putfield idx, 3)) (hV : LX G a [a0, a1, a2, a3, a4]) (kk : ∀ G' : gG, LX G' a [a0, a1, a2, .int x, a4] → Frm G G' a 1 → K (pc + 3) Ls st sz G') : K pc Ls (.int x :: .ref a :: st) sz G :=
  r_put hK hl hd hV rfl rfl (Nat.le_of_ble_eq_true rfl) (kk _ gup_s (Frm.up (by omega) (by omega)))
theorem ph_L_age (hK : Cl E own cc ret nL k mc sz0 ini G0 Q K) {h j : Nat} {s : Int32} {v : Nat → Int32} {x : Int32} (hl : LkF own idx 0 4 .int false) (hd : decode cc pc = .ok (.putfield idx, 3)) (hV : HX G h s v) (hj : j < 6) (kk : ∀ G' : gG, HX G' h s (upd v (30 + j) x) → Frm G G' h 8 → K (pc + 3) Ls st sz G') : K pc Ls (.int x :: .ref (h + 2 + j) :: st) sz G := by
  refine r_put hK hl hd (hV.2.2 j hj) rfl rfl (by simp [letL]) ?_
  have e : (letL v j).set 4 (.int x) = letL (upd v (30 + j) x) j := by
    unfold letL
    rw [upd_n (by omega), upd_n (by omega), upd_n (by omega), upd_n (by omega), upd_s]
    rfl
  rw [e]
  exact kk _ (hV.setL hj (fun k _ h => upd_n (by omega))) (Frm.up (by omega) (by omega))
theorem p_L_age (hK : Cl E own cc ret nL k mc sz0 ini G0 Q K) {a : Nat} {a0 a1 a2 a3 a4 : Value} {x : Int32} (hl : LkF own idx 0 4 .int false) (hd : decode cc pc = .ok (.putfield idx, 3)) (hV : LX G a [a0, a1, a2, a3, a4]) (kk : ∀ G' : gG, LX G' a [a0, a1, a2, a3, .int x] → Frm G G' a 1 → K (pc + 3) Ls st sz G') : K pc Ls (.int x :: .ref a :: st) sz G :=
  r_put hK hl hd hV rfl rfl (Nat.le_of_ble_eq_true rfl) (kk _ gup_s (Frm.up (by omega) (by omega)))
theorem g_let (hK : Cl E own cc ret nL k mc sz0 ini G0 Q K) {h j : Nat} {s : Int32} {v : Nat → Int32} (hd : decode cc pc = .ok (.aaload, 1)) (hH : HX G h s v) (hj : j < 6) (kk : K (pc + 1) Ls (.ref (h + 2 + j) :: st) sz G) : K pc Ls (.int (nI j) :: .ref (h + 1) :: st) sz G := by
  refine r_aald hK hd hH.2.1 (vp_in_nI hj (by omega)) (by omega) ?_
  show K (pc + 1) Ls (.ref (h + 2 + (nI j).toNatClampNeg) :: st) sz G
  rw [nI_clamp (by omega)]
  exact kk
end PU
