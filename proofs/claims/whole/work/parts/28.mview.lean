-- the model's own object: scalars f by the place of the field, w the rows, A the other arrays by place
def mFl (c : Nat) (f : Nat → Int32) : List Value := [.ref (c + 1), .int (f 1), .int (f 2), .ref (c + 2), .ref (c + 3), .ref (c + 4), .ref (c + 5), .ref (c + 6), .int (f 8), .int (f 9), .int (f 10), .ref (c + 7), .int (f 12), .int (f 13), .int (f 14), .int (f 15), .ref (c + 8), .ref (c + 9)]
def MV (G : gG) (c : Nat) (f : Nat → Int32) (w : Nat → Int32) (A : Nat → Nat → Int32) : Prop := G c = some (.inr (8, mFl c f)) ∧ G (c + 1) = some (.inl (0, 1008, .inl w)) ∧ G (c + 2) = some (.inl (1, 2, .inl (A 2))) ∧ G (c + 3) = some (.inl (0, 8, .inl (A 3))) ∧ G (c + 4) = some (.inl (0, 8, .inl (A 4))) ∧ G (c + 5) = some (.inl (0, 320, .inl (A 5))) ∧ G (c + 6) = some (.inl (0, 100, .inl (A 6))) ∧ G (c + 7) = some (.inl (0, 16, .inl (A 7))) ∧ G (c + 8) = some (.inl (0, 6, .inl (A 8))) ∧ G (c + 9) = some (.inl (0, 6, .inl (A 9)))
theorem MV.frm {G G' : gG} {c a n : Nat} {f w : Nat → Int32} {A : Nat → Nat → Int32} (h : MV G c f w A) (hF : Frm G G' a n) (hd : c + 10 ≤ a ∨ a + n ≤ c) : MV G' c f w A := ⟨(hF _ (by omega)).trans h.1, (hF _ (by omega)).trans h.2.1, (hF _ (by omega)).trans h.2.2.1, (hF _ (by omega)).trans h.2.2.2.1, (hF _ (by omega)).trans h.2.2.2.2.1, (hF _ (by omega)).trans h.2.2.2.2.2.1, (hF _ (by omega)).trans h.2.2.2.2.2.2.1, (hF _ (by omega)).trans h.2.2.2.2.2.2.2.1, (hF _ (by omega)).trans h.2.2.2.2.2.2.2.2.1, (hF _ (by omega)).trans h.2.2.2.2.2.2.2.2.2⟩
theorem MV.o {G : gG} {c : Nat} {f w : Nat → Int32} {A : Nat → Nat → Int32} (h : MV G c f w A) : isO G c 8 := ⟨_, h.1⟩
def putT (w : Nat → Int32) (B : Nat) (v : Nat → Int32) : Nat → Int32 := fun k => if B ≤ k ∧ k < B + 36 then v (k - B) else w k
def tw (w : Nat → Int32) (B : Nat) : Nat → Int32 := fun k => w (B + k)
theorem putT_at {w v : Nat → Int32} {B k : Nat} (hk : k < 36) : putT w B v (B + k) = v k := by
  unfold putT
  rw [if_pos (by omega), Nat.add_sub_cancel_left]
theorem putT_out {w v : Nat → Int32} {B k : Nat} (hk : k < B ∨ B + 36 ≤ k) : putT w B v k = w k := by
  unfold putT
  rw [if_neg (by omega)]
theorem putT_upd {w v : Nat → Int32} {B k : Nat} {x : Int32} (hk : k < 36) : upd (putT w B v) (B + k) x = putT w B (upd v k x) := by
  funext q
  unfold putT upd
  by_cases e : q = B + k
  · subst e
    rw [if_pos rfl, if_pos (by omega), if_pos (by omega)]
  · rw [if_neg e]
    by_cases h : B ≤ q ∧ q < B + 36
    · rw [if_pos h]
      show (if B ≤ q ∧ q < B + 36 then v (q - B) else w q) = if q - B = k then x else v (q - B)
      rw [if_pos h, if_neg (by omega)]
    · rw [if_neg h]
      show (if B ≤ q ∧ q < B + 36 then v (q - B) else w q) = w q
      rw [if_neg h]
theorem putT_cg {w v u : Nat → Int32} {B : Nat} (h : ∀ k, k < 36 → v k = u k) : putT w B v = putT w B u := by
  funext q
  unfold putT
  by_cases e : B ≤ q ∧ q < B + 36
  · rw [if_pos e, if_pos e, h _ (by omega)]
  · rw [if_neg e, if_neg e]
theorem putT_tw {w : Nat → Int32} {B : Nat} : putT w B (tw w B) = w := by
  funext q
  unfold putT tw
  by_cases e : B ≤ q ∧ q < B + 36
  · rw [if_pos e, show B + (q - B) = q by omega]
  · rw [if_neg e]
theorem putT_2 {w v u : Nat → Int32} {B : Nat} : putT (putT w B v) B u = putT w B u := by
  funext q
  unfold putT
  by_cases e : B ≤ q ∧ q < B + 36
  · rw [if_pos e, if_pos e]
  · rw [if_neg e, if_neg e, if_neg e]
theorem tw_put {w v : Nat → Int32} {B : Nat} : ∀ k, k < 36 → tw (putT w B v) B k = v k := fun _ hk => putT_at hk
theorem ix0 {c b : Nat} {k : Int32} (hk : k = nI c) : k + nI b = nI (c + b) := by rw [hk, nI_add]
theorem ix1 {a c : Nat} {k : Int32} (hk : k = nI c) : nI a + k = nI (a + c) := by rw [hk, nI_add]
theorem ix2 {a b c : Nat} {k : Int32} (hk : k = nI c) : nI a + k + nI b = nI (a + (c + b)) := by rw [hk, nI_add, nI_add, Nat.add_assoc]
section MG
variable {E : gX} {own : String} {cc : ByteArray} {ret : Option FieldType} {nL k mc sz0 : Nat} {ini : Bool} {G0 : gG} {Q : Option Value → gG → Prop} {K : Nat → List (Option Value) → List Value → Nat → gG → Prop}
variable {pc sz idx : Nat} {st : List Value} {G : gG} {Ls : List (Option Value)} {c : Nat} {f w v : Nat → Int32} {A : Nat → Nat → Int32}
theorem g_rw (hK : Cl E own cc ret nL k mc sz0 ini G0 Q K) {i : Int32} {j : Nat} (hd : decode cc pc = .ok (.iaload, 1)) (hM : MV G c f w A) (hi : i = nI j) (hj : j < 1008) (kk : K (pc + 1) Ls (.int (w j) :: st) sz G) : K pc Ls (.int i :: .ref (c + 1) :: st) sz G := by
  subst hi
  refine r_iald hK hd hM.2.1 (vp_in_nI hj (by omega)) ?_
  rw [nI_clamp (by omega)]
  exact kk
theorem s_rw (hK : Cl E own cc ret nL k mc sz0 ini G0 Q K) {i x : Int32} {j : Nat} (hd : decode cc pc = .ok (.iastore, 1)) (hM : MV G c f w A) (hi : i = nI j) (hj : j < 1008) (kk : ∀ G' : gG, MV G' c f (upd w j x) A → Frm G G' c 10 → K (pc + 1) Ls st sz G') : K pc Ls (.int x :: .int i :: .ref (c + 1) :: st) sz G := by
  subst hi
  refine r_iast hK hd hM.2.1 (vp_in_nI hj (by omega)) ?_
  rw [nI_clamp (by omega)]
  exact kk _ ⟨(gup_n (by omega)).trans hM.1, gup_s, (gup_n (by omega)).trans hM.2.2.1, (gup_n (by omega)).trans hM.2.2.2.1, (gup_n (by omega)).trans hM.2.2.2.2.1, (gup_n (by omega)).trans hM.2.2.2.2.2.1, (gup_n (by omega)).trans hM.2.2.2.2.2.2.1, (gup_n (by omega)).trans hM.2.2.2.2.2.2.2.1, (gup_n (by omega)).trans hM.2.2.2.2.2.2.2.2.1, (gup_n (by omega)).trans hM.2.2.2.2.2.2.2.2.2⟩ (Frm.up (by omega) (by omega))
theorem g_tw (hK : Cl E own cc ret nL k mc sz0 ini G0 Q K) {i : Int32} {B j : Nat} (hd : decode cc pc = .ok (.iaload, 1)) (hM : MV G c f (putT w B v) A) (hi : i = nI (B + j)) (hj : j < 36) (hB : B ≤ 972) (kk : K (pc + 1) Ls (.int (v j) :: st) sz G) : K pc Ls (.int i :: .ref (c + 1) :: st) sz G := by
  refine g_rw hK hd hM hi (by omega) ?_
  rw [putT_at hj]
  exact kk
theorem s_tw (hK : Cl E own cc ret nL k mc sz0 ini G0 Q K) {i x : Int32} {B j : Nat} (hd : decode cc pc = .ok (.iastore, 1)) (hM : MV G c f (putT w B v) A) (hi : i = nI (B + j)) (hj : j < 36) (hB : B ≤ 972) (kk : ∀ G' : gG, MV G' c f (putT w B (upd v j x)) A → Frm G G' c 10 → K (pc + 1) Ls st sz G') : K pc Ls (.int x :: .int i :: .ref (c + 1) :: st) sz G := by
  refine s_rw hK hd hM hi (by omega) (fun G' h1 h2 => kk G' ?_ h2)
  rw [putT_upd hj] at h1
  exact h1
-- the row below another
theorem g_lo (hK : Cl E own cc ret nL k mc sz0 ini G0 Q K) {i : Int32} {B j : Nat} (hd : decode cc pc = .ok (.iaload, 1)) (hM : MV G c f (putT w B v) A) (hi : i = nI j) (hj : j < B) (hB : B ≤ 972) (kk : K (pc + 1) Ls (.int (w j) :: st) sz G) : K pc Ls (.int i :: .ref (c + 1) :: st) sz G := by
  refine g_rw hK hd hM hi (by omega) ?_
  rw [putT_out (by omega)]
  exact kk
theorem g_a2 (hK : Cl E own cc ret nL k mc sz0 ini G0 Q K) {i : Int32} {j : Nat} (hd : decode cc pc = .ok (.baload, 1)) (hM : MV G c f w A) (hi : i = nI j) (hj : j < 2) (kk : K (pc + 1) Ls (.int (A 2 j) :: st) sz G) : K pc Ls (.int i :: .ref (c + 2) :: st) sz G := by
  subst hi
  refine r_zald hK hd hM.2.2.1 (vp_in_nI hj (by omega)) ?_
  rw [nI_clamp (by omega)]
  exact kk
theorem s_a2 (hK : Cl E own cc ret nL k mc sz0 ini G0 Q K) {i x : Int32} {j : Nat} (hd : decode cc pc = .ok (.bastore, 1)) (hM : MV G c f w A) (hi : i = nI j) (hj : j < 2) (hx : vp_nar .boolean x = x) (kk : ∀ G' : gG, MV G' c f w (va_up A 2 (upd (A 2) j x)) → Frm G G' c 10 → K (pc + 1) Ls st sz G') : K pc Ls (.int x :: .int i :: .ref (c + 2) :: st) sz G := by
  subst hi
  refine r_zast hK hd hM.2.2.1 (vp_in_nI hj (by omega)) ?_
  rw [nI_clamp (by omega), hx]
  exact kk _ ⟨(gup_n (by omega)).trans hM.1, (gup_n (by omega)).trans hM.2.1, by rw [va_up_s]; exact gup_s, by rw [va_up_n (by omega)]; exact (gup_n (by omega)).trans hM.2.2.2.1, by rw [va_up_n (by omega)]; exact (gup_n (by omega)).trans hM.2.2.2.2.1, by rw [va_up_n (by omega)]; exact (gup_n (by omega)).trans hM.2.2.2.2.2.1, by rw [va_up_n (by omega)]; exact (gup_n (by omega)).trans hM.2.2.2.2.2.2.1, by rw [va_up_n (by omega)]; exact (gup_n (by omega)).trans hM.2.2.2.2.2.2.2.1, by rw [va_up_n (by omega)]; exact (gup_n (by omega)).trans hM.2.2.2.2.2.2.2.2.1, by rw [va_up_n (by omega)]; exact (gup_n (by omega)).trans hM.2.2.2.2.2.2.2.2.2⟩ (Frm.up (by omega) (by omega))
theorem g_a3 (hK : Cl E own cc ret nL k mc sz0 ini G0 Q K) {i : Int32} {j : Nat} (hd : decode cc pc = .ok (.iaload, 1)) (hM : MV G c f w A) (hi : i = nI j) (hj : j < 8) (kk : K (pc + 1) Ls (.int (A 3 j) :: st) sz G) : K pc Ls (.int i :: .ref (c + 3) :: st) sz G := by
  subst hi
  refine r_iald hK hd hM.2.2.2.1 (vp_in_nI hj (by omega)) ?_
  rw [nI_clamp (by omega)]
  exact kk
theorem s_a3 (hK : Cl E own cc ret nL k mc sz0 ini G0 Q K) {i x : Int32} {j : Nat} (hd : decode cc pc = .ok (.iastore, 1)) (hM : MV G c f w A) (hi : i = nI j) (hj : j < 8) (kk : ∀ G' : gG, MV G' c f w (va_up A 3 (upd (A 3) j x)) → Frm G G' c 10 → K (pc + 1) Ls st sz G') : K pc Ls (.int x :: .int i :: .ref (c + 3) :: st) sz G := by
  subst hi
  refine r_iast hK hd hM.2.2.2.1 (vp_in_nI hj (by omega)) ?_
  rw [nI_clamp (by omega)]
  exact kk _ ⟨(gup_n (by omega)).trans hM.1, (gup_n (by omega)).trans hM.2.1, by rw [va_up_n (by omega)]; exact (gup_n (by omega)).trans hM.2.2.1, by rw [va_up_s]; exact gup_s, by rw [va_up_n (by omega)]; exact (gup_n (by omega)).trans hM.2.2.2.2.1, by rw [va_up_n (by omega)]; exact (gup_n (by omega)).trans hM.2.2.2.2.2.1, by rw [va_up_n (by omega)]; exact (gup_n (by omega)).trans hM.2.2.2.2.2.2.1, by rw [va_up_n (by omega)]; exact (gup_n (by omega)).trans hM.2.2.2.2.2.2.2.1, by rw [va_up_n (by omega)]; exact (gup_n (by omega)).trans hM.2.2.2.2.2.2.2.2.1, by rw [va_up_n (by omega)]; exact (gup_n (by omega)).trans hM.2.2.2.2.2.2.2.2.2⟩ (Frm.up (by omega) (by omega))
theorem g_a4 (hK : Cl E own cc ret nL k mc sz0 ini G0 Q K) {i : Int32} {j : Nat} (hd : decode cc pc = .ok (.iaload, 1)) (hM : MV G c f w A) (hi : i = nI j) (hj : j < 8) (kk : K (pc + 1) Ls (.int (A 4 j) :: st) sz G) : K pc Ls (.int i :: .ref (c + 4) :: st) sz G := by
  subst hi
  refine r_iald hK hd hM.2.2.2.2.1 (vp_in_nI hj (by omega)) ?_
  rw [nI_clamp (by omega)]
  exact kk
theorem s_a4 (hK : Cl E own cc ret nL k mc sz0 ini G0 Q K) {i x : Int32} {j : Nat} (hd : decode cc pc = .ok (.iastore, 1)) (hM : MV G c f w A) (hi : i = nI j) (hj : j < 8) (kk : ∀ G' : gG, MV G' c f w (va_up A 4 (upd (A 4) j x)) → Frm G G' c 10 → K (pc + 1) Ls st sz G') : K pc Ls (.int x :: .int i :: .ref (c + 4) :: st) sz G := by
  subst hi
  refine r_iast hK hd hM.2.2.2.2.1 (vp_in_nI hj (by omega)) ?_
  rw [nI_clamp (by omega)]
  exact kk _ ⟨(gup_n (by omega)).trans hM.1, (gup_n (by omega)).trans hM.2.1, by rw [va_up_n (by omega)]; exact (gup_n (by omega)).trans hM.2.2.1, by rw [va_up_n (by omega)]; exact (gup_n (by omega)).trans hM.2.2.2.1, by rw [va_up_s]; exact gup_s, by rw [va_up_n (by omega)]; exact (gup_n (by omega)).trans hM.2.2.2.2.2.1, by rw [va_up_n (by omega)]; exact (gup_n (by omega)).trans hM.2.2.2.2.2.2.1, by rw [va_up_n (by omega)]; exact (gup_n (by omega)).trans hM.2.2.2.2.2.2.2.1, by rw [va_up_n (by omega)]; exact (gup_n (by omega)).trans hM.2.2.2.2.2.2.2.2.1, by rw [va_up_n (by omega)]; exact (gup_n (by omega)).trans hM.2.2.2.2.2.2.2.2.2⟩ (Frm.up (by omega) (by omega))
theorem g_a5 (hK : Cl E own cc ret nL k mc sz0 ini G0 Q K) {i : Int32} {j : Nat} (hd : decode cc pc = .ok (.iaload, 1)) (hM : MV G c f w A) (hi : i = nI j) (hj : j < 320) (kk : K (pc + 1) Ls (.int (A 5 j) :: st) sz G) : K pc Ls (.int i :: .ref (c + 5) :: st) sz G := by
  subst hi
  refine r_iald hK hd hM.2.2.2.2.2.1 (vp_in_nI hj (by omega)) ?_
  rw [nI_clamp (by omega)]
  exact kk
theorem s_a5 (hK : Cl E own cc ret nL k mc sz0 ini G0 Q K) {i x : Int32} {j : Nat} (hd : decode cc pc = .ok (.iastore, 1)) (hM : MV G c f w A) (hi : i = nI j) (hj : j < 320) (kk : ∀ G' : gG, MV G' c f w (va_up A 5 (upd (A 5) j x)) → Frm G G' c 10 → K (pc + 1) Ls st sz G') : K pc Ls (.int x :: .int i :: .ref (c + 5) :: st) sz G := by
  subst hi
  refine r_iast hK hd hM.2.2.2.2.2.1 (vp_in_nI hj (by omega)) ?_
  rw [nI_clamp (by omega)]
  exact kk _ ⟨(gup_n (by omega)).trans hM.1, (gup_n (by omega)).trans hM.2.1, by rw [va_up_n (by omega)]; exact (gup_n (by omega)).trans hM.2.2.1, by rw [va_up_n (by omega)]; exact (gup_n (by omega)).trans hM.2.2.2.1, by rw [va_up_n (by omega)]; exact (gup_n (by omega)).trans hM.2.2.2.2.1, by rw [va_up_s]; exact gup_s, by rw [va_up_n (by omega)]; exact (gup_n (by omega)).trans hM.2.2.2.2.2.2.1, by rw [va_up_n (by omega)]; exact (gup_n (by omega)).trans hM.2.2.2.2.2.2.2.1, by rw [va_up_n (by omega)]; exact (gup_n (by omega)).trans hM.2.2.2.2.2.2.2.2.1, by rw [va_up_n (by omega)]; exact (gup_n (by omega)).trans hM.2.2.2.2.2.2.2.2.2⟩ (Frm.up (by omega) (by omega))
theorem g_a6 (hK : Cl E own cc ret nL k mc sz0 ini G0 Q K) {i : Int32} {j : Nat} (hd : decode cc pc = .ok (.iaload, 1)) (hM : MV G c f w A) (hi : i = nI j) (hj : j < 100) (kk : K (pc + 1) Ls (.int (A 6 j) :: st) sz G) : K pc Ls (.int i :: .ref (c + 6) :: st) sz G := by
  subst hi
  refine r_iald hK hd hM.2.2.2.2.2.2.1 (vp_in_nI hj (by omega)) ?_
  rw [nI_clamp (by omega)]
  exact kk
theorem s_a6 (hK : Cl E own cc ret nL k mc sz0 ini G0 Q K) {i x : Int32} {j : Nat} (hd : decode cc pc = .ok (.iastore, 1)) (hM : MV G c f w A) (hi : i = nI j) (hj : j < 100) (kk : ∀ G' : gG, MV G' c f w (va_up A 6 (upd (A 6) j x)) → Frm G G' c 10 → K (pc + 1) Ls st sz G') : K pc Ls (.int x :: .int i :: .ref (c + 6) :: st) sz G := by
  subst hi
  refine r_iast hK hd hM.2.2.2.2.2.2.1 (vp_in_nI hj (by omega)) ?_
  rw [nI_clamp (by omega)]
  exact kk _ ⟨(gup_n (by omega)).trans hM.1, (gup_n (by omega)).trans hM.2.1, by rw [va_up_n (by omega)]; exact (gup_n (by omega)).trans hM.2.2.1, by rw [va_up_n (by omega)]; exact (gup_n (by omega)).trans hM.2.2.2.1, by rw [va_up_n (by omega)]; exact (gup_n (by omega)).trans hM.2.2.2.2.1, by rw [va_up_n (by omega)]; exact (gup_n (by omega)).trans hM.2.2.2.2.2.1, by rw [va_up_s]; exact gup_s, by rw [va_up_n (by omega)]; exact (gup_n (by omega)).trans hM.2.2.2.2.2.2.2.1, by rw [va_up_n (by omega)]; exact (gup_n (by omega)).trans hM.2.2.2.2.2.2.2.2.1, by rw [va_up_n (by omega)]; exact (gup_n (by omega)).trans hM.2.2.2.2.2.2.2.2.2⟩ (Frm.up (by omega) (by omega))
theorem g_a7 (hK : Cl E own cc ret nL k mc sz0 ini G0 Q K) {i : Int32} {j : Nat} (hd : decode cc pc = .ok (.iaload, 1)) (hM : MV G c f w A) (hi : i = nI j) (hj : j < 16) (kk : K (pc + 1) Ls (.int (A 7 j) :: st) sz G) : K pc Ls (.int i :: .ref (c + 7) :: st) sz G := by
  subst hi
  refine r_iald hK hd hM.2.2.2.2.2.2.2.1 (vp_in_nI hj (by omega)) ?_
  rw [nI_clamp (by omega)]
  exact kk
theorem s_a7 (hK : Cl E own cc ret nL k mc sz0 ini G0 Q K) {i x : Int32} {j : Nat} (hd : decode cc pc = .ok (.iastore, 1)) (hM : MV G c f w A) (hi : i = nI j) (hj : j < 16) (kk : ∀ G' : gG, MV G' c f w (va_up A 7 (upd (A 7) j x)) → Frm G G' c 10 → K (pc + 1) Ls st sz G') : K pc Ls (.int x :: .int i :: .ref (c + 7) :: st) sz G := by
  subst hi
  refine r_iast hK hd hM.2.2.2.2.2.2.2.1 (vp_in_nI hj (by omega)) ?_
  rw [nI_clamp (by omega)]
  exact kk _ ⟨(gup_n (by omega)).trans hM.1, (gup_n (by omega)).trans hM.2.1, by rw [va_up_n (by omega)]; exact (gup_n (by omega)).trans hM.2.2.1, by rw [va_up_n (by omega)]; exact (gup_n (by omega)).trans hM.2.2.2.1, by rw [va_up_n (by omega)]; exact (gup_n (by omega)).trans hM.2.2.2.2.1, by rw [va_up_n (by omega)]; exact (gup_n (by omega)).trans hM.2.2.2.2.2.1, by rw [va_up_n (by omega)]; exact (gup_n (by omega)).trans hM.2.2.2.2.2.2.1, by rw [va_up_s]; exact gup_s, by rw [va_up_n (by omega)]; exact (gup_n (by omega)).trans hM.2.2.2.2.2.2.2.2.1, by rw [va_up_n (by omega)]; exact (gup_n (by omega)).trans hM.2.2.2.2.2.2.2.2.2⟩ (Frm.up (by omega) (by omega))
theorem g_a8 (hK : Cl E own cc ret nL k mc sz0 ini G0 Q K) {i : Int32} {j : Nat} (hd : decode cc pc = .ok (.iaload, 1)) (hM : MV G c f w A) (hi : i = nI j) (hj : j < 6) (kk : K (pc + 1) Ls (.int (A 8 j) :: st) sz G) : K pc Ls (.int i :: .ref (c + 8) :: st) sz G := by
  subst hi
  refine r_iald hK hd hM.2.2.2.2.2.2.2.2.1 (vp_in_nI hj (by omega)) ?_
  rw [nI_clamp (by omega)]
  exact kk
theorem s_a8 (hK : Cl E own cc ret nL k mc sz0 ini G0 Q K) {i x : Int32} {j : Nat} (hd : decode cc pc = .ok (.iastore, 1)) (hM : MV G c f w A) (hi : i = nI j) (hj : j < 6) (kk : ∀ G' : gG, MV G' c f w (va_up A 8 (upd (A 8) j x)) → Frm G G' c 10 → K (pc + 1) Ls st sz G') : K pc Ls (.int x :: .int i :: .ref (c + 8) :: st) sz G := by
  subst hi
  refine r_iast hK hd hM.2.2.2.2.2.2.2.2.1 (vp_in_nI hj (by omega)) ?_
  rw [nI_clamp (by omega)]
  exact kk _ ⟨(gup_n (by omega)).trans hM.1, (gup_n (by omega)).trans hM.2.1, by rw [va_up_n (by omega)]; exact (gup_n (by omega)).trans hM.2.2.1, by rw [va_up_n (by omega)]; exact (gup_n (by omega)).trans hM.2.2.2.1, by rw [va_up_n (by omega)]; exact (gup_n (by omega)).trans hM.2.2.2.2.1, by rw [va_up_n (by omega)]; exact (gup_n (by omega)).trans hM.2.2.2.2.2.1, by rw [va_up_n (by omega)]; exact (gup_n (by omega)).trans hM.2.2.2.2.2.2.1, by rw [va_up_n (by omega)]; exact (gup_n (by omega)).trans hM.2.2.2.2.2.2.2.1, by rw [va_up_s]; exact gup_s, by rw [va_up_n (by omega)]; exact (gup_n (by omega)).trans hM.2.2.2.2.2.2.2.2.2⟩ (Frm.up (by omega) (by omega))
theorem g_a9 (hK : Cl E own cc ret nL k mc sz0 ini G0 Q K) {i : Int32} {j : Nat} (hd : decode cc pc = .ok (.iaload, 1)) (hM : MV G c f w A) (hi : i = nI j) (hj : j < 6) (kk : K (pc + 1) Ls (.int (A 9 j) :: st) sz G) : K pc Ls (.int i :: .ref (c + 9) :: st) sz G := by
  subst hi
  refine r_iald hK hd hM.2.2.2.2.2.2.2.2.2 (vp_in_nI hj (by omega)) ?_
  rw [nI_clamp (by omega)]
  exact kk
theorem s_a9 (hK : Cl E own cc ret nL k mc sz0 ini G0 Q K) {i x : Int32} {j : Nat} (hd : decode cc pc = .ok (.iastore, 1)) (hM : MV G c f w A) (hi : i = nI j) (hj : j < 6) (kk : ∀ G' : gG, MV G' c f w (va_up A 9 (upd (A 9) j x)) → Frm G G' c 10 → K (pc + 1) Ls st sz G') : K pc Ls (.int x :: .int i :: .ref (c + 9) :: st) sz G := by
  subst hi
  refine r_iast hK hd hM.2.2.2.2.2.2.2.2.2 (vp_in_nI hj (by omega)) ?_
  rw [nI_clamp (by omega)]
  exact kk _ ⟨(gup_n (by omega)).trans hM.1, (gup_n (by omega)).trans hM.2.1, by rw [va_up_n (by omega)]; exact (gup_n (by omega)).trans hM.2.2.1, by rw [va_up_n (by omega)]; exact (gup_n (by omega)).trans hM.2.2.2.1, by rw [va_up_n (by omega)]; exact (gup_n (by omega)).trans hM.2.2.2.2.1, by rw [va_up_n (by omega)]; exact (gup_n (by omega)).trans hM.2.2.2.2.2.1, by rw [va_up_n (by omega)]; exact (gup_n (by omega)).trans hM.2.2.2.2.2.2.1, by rw [va_up_n (by omega)]; exact (gup_n (by omega)).trans hM.2.2.2.2.2.2.2.1, by rw [va_up_n (by omega)]; exact (gup_n (by omega)).trans hM.2.2.2.2.2.2.2.2.1, by rw [va_up_s]; exact gup_s⟩ (Frm.up (by omega) (by omega))
theorem p_M_isHouse (hK : Cl E own cc ret nL k mc sz0 ini G0 Q K) {x : Int32} (hl : LkF own idx 8 1 .boolean false) (hd : decode cc pc = .ok (.putfield idx, 3)) (hM : MV G c f w A) (hn : narrow .boolean (.int x) = .int x) (hf : fits .boolean (.int x) = true) (kk : ∀ G' : gG, MV G' c (upd f 1 x) w A → Frm G G' c 10 → K (pc + 3) Ls st sz G') : K pc Ls (.int x :: .ref c :: st) sz G := by
  refine r_put hK hl hd hM.1 hn hf (Nat.le_of_ble_eq_true rfl) ?_
  have e : (mFl c f).set 1 (.int x) = mFl c (upd f 1 x) := by
    unfold mFl
    rw [upd_s, upd_n (by omega), upd_n (by omega), upd_n (by omega), upd_n (by omega), upd_n (by omega), upd_n (by omega), upd_n (by omega), upd_n (by omega)]
    rfl
  rw [e]
  exact kk _ ⟨gup_s, (gup_n (by omega)).trans hM.2.1, (gup_n (by omega)).trans hM.2.2.1, (gup_n (by omega)).trans hM.2.2.2.1, (gup_n (by omega)).trans hM.2.2.2.2.1, (gup_n (by omega)).trans hM.2.2.2.2.2.1, (gup_n (by omega)).trans hM.2.2.2.2.2.2.1, (gup_n (by omega)).trans hM.2.2.2.2.2.2.2.1, (gup_n (by omega)).trans hM.2.2.2.2.2.2.2.2.1, (gup_n (by omega)).trans hM.2.2.2.2.2.2.2.2.2⟩ (Frm.up (by omega) (by omega))
theorem p_M_undos (hK : Cl E own cc ret nL k mc sz0 ini G0 Q K) {x : Int32} (hl : LkF own idx 8 2 .int false) (hd : decode cc pc = .ok (.putfield idx, 3)) (hM : MV G c f w A) (kk : ∀ G' : gG, MV G' c (upd f 2 x) w A → Frm G G' c 10 → K (pc + 3) Ls st sz G') : K pc Ls (.int x :: .ref c :: st) sz G := by
  refine r_put hK hl hd hM.1 rfl rfl (Nat.le_of_ble_eq_true rfl) ?_
  have e : (mFl c f).set 2 (.int x) = mFl c (upd f 2 x) := by
    unfold mFl
    rw [upd_n (by omega), upd_s, upd_n (by omega), upd_n (by omega), upd_n (by omega), upd_n (by omega), upd_n (by omega), upd_n (by omega), upd_n (by omega)]
    rfl
  rw [e]
  exact kk _ ⟨gup_s, (gup_n (by omega)).trans hM.2.1, (gup_n (by omega)).trans hM.2.2.1, (gup_n (by omega)).trans hM.2.2.2.1, (gup_n (by omega)).trans hM.2.2.2.2.1, (gup_n (by omega)).trans hM.2.2.2.2.2.1, (gup_n (by omega)).trans hM.2.2.2.2.2.2.1, (gup_n (by omega)).trans hM.2.2.2.2.2.2.2.1, (gup_n (by omega)).trans hM.2.2.2.2.2.2.2.2.1, (gup_n (by omega)).trans hM.2.2.2.2.2.2.2.2.2⟩ (Frm.up (by omega) (by omega))
theorem p_M_length (hK : Cl E own cc ret nL k mc sz0 ini G0 Q K) {x : Int32} (hl : LkF own idx 8 8 .int false) (hd : decode cc pc = .ok (.putfield idx, 3)) (hM : MV G c f w A) (kk : ∀ G' : gG, MV G' c (upd f 8 x) w A → Frm G G' c 10 → K (pc + 3) Ls st sz G') : K pc Ls (.int x :: .ref c :: st) sz G := by
  refine r_put hK hl hd hM.1 rfl rfl (Nat.le_of_ble_eq_true rfl) ?_
  have e : (mFl c f).set 8 (.int x) = mFl c (upd f 8 x) := by
    unfold mFl
    rw [upd_n (by omega), upd_n (by omega), upd_s, upd_n (by omega), upd_n (by omega), upd_n (by omega), upd_n (by omega), upd_n (by omega), upd_n (by omega)]
    rfl
  rw [e]
  exact kk _ ⟨gup_s, (gup_n (by omega)).trans hM.2.1, (gup_n (by omega)).trans hM.2.2.1, (gup_n (by omega)).trans hM.2.2.2.1, (gup_n (by omega)).trans hM.2.2.2.2.1, (gup_n (by omega)).trans hM.2.2.2.2.2.1, (gup_n (by omega)).trans hM.2.2.2.2.2.2.1, (gup_n (by omega)).trans hM.2.2.2.2.2.2.2.1, (gup_n (by omega)).trans hM.2.2.2.2.2.2.2.2.1, (gup_n (by omega)).trans hM.2.2.2.2.2.2.2.2.2⟩ (Frm.up (by omega) (by omega))
theorem p_M_fault (hK : Cl E own cc ret nL k mc sz0 ini G0 Q K) {x : Int32} (hl : LkF own idx 8 9 .int false) (hd : decode cc pc = .ok (.putfield idx, 3)) (hM : MV G c f w A) (kk : ∀ G' : gG, MV G' c (upd f 9 x) w A → Frm G G' c 10 → K (pc + 3) Ls st sz G') : K pc Ls (.int x :: .ref c :: st) sz G := by
  refine r_put hK hl hd hM.1 rfl rfl (Nat.le_of_ble_eq_true rfl) ?_
  have e : (mFl c f).set 9 (.int x) = mFl c (upd f 9 x) := by
    unfold mFl
    rw [upd_n (by omega), upd_n (by omega), upd_n (by omega), upd_s, upd_n (by omega), upd_n (by omega), upd_n (by omega), upd_n (by omega), upd_n (by omega)]
    rfl
  rw [e]
  exact kk _ ⟨gup_s, (gup_n (by omega)).trans hM.2.1, (gup_n (by omega)).trans hM.2.2.1, (gup_n (by omega)).trans hM.2.2.2.1, (gup_n (by omega)).trans hM.2.2.2.2.1, (gup_n (by omega)).trans hM.2.2.2.2.2.1, (gup_n (by omega)).trans hM.2.2.2.2.2.2.1, (gup_n (by omega)).trans hM.2.2.2.2.2.2.2.1, (gup_n (by omega)).trans hM.2.2.2.2.2.2.2.2.1, (gup_n (by omega)).trans hM.2.2.2.2.2.2.2.2.2⟩ (Frm.up (by omega) (by omega))
theorem p_M_status (hK : Cl E own cc ret nL k mc sz0 ini G0 Q K) {x : Int32} (hl : LkF own idx 8 10 .int false) (hd : decode cc pc = .ok (.putfield idx, 3)) (hM : MV G c f w A) (kk : ∀ G' : gG, MV G' c (upd f 10 x) w A → Frm G G' c 10 → K (pc + 3) Ls st sz G') : K pc Ls (.int x :: .ref c :: st) sz G := by
  refine r_put hK hl hd hM.1 rfl rfl (Nat.le_of_ble_eq_true rfl) ?_
  have e : (mFl c f).set 10 (.int x) = mFl c (upd f 10 x) := by
    unfold mFl
    rw [upd_n (by omega), upd_n (by omega), upd_n (by omega), upd_n (by omega), upd_s, upd_n (by omega), upd_n (by omega), upd_n (by omega), upd_n (by omega)]
    rfl
  rw [e]
  exact kk _ ⟨gup_s, (gup_n (by omega)).trans hM.2.1, (gup_n (by omega)).trans hM.2.2.1, (gup_n (by omega)).trans hM.2.2.2.1, (gup_n (by omega)).trans hM.2.2.2.2.1, (gup_n (by omega)).trans hM.2.2.2.2.2.1, (gup_n (by omega)).trans hM.2.2.2.2.2.2.1, (gup_n (by omega)).trans hM.2.2.2.2.2.2.2.1, (gup_n (by omega)).trans hM.2.2.2.2.2.2.2.2.1, (gup_n (by omega)).trans hM.2.2.2.2.2.2.2.2.2⟩ (Frm.up (by omega) (by omega))
theorem p_M_traced (hK : Cl E own cc ret nL k mc sz0 ini G0 Q K) {x : Int32} (hl : LkF own idx 8 12 .int false) (hd : decode cc pc = .ok (.putfield idx, 3)) (hM : MV G c f w A) (kk : ∀ G' : gG, MV G' c (upd f 12 x) w A → Frm G G' c 10 → K (pc + 3) Ls st sz G') : K pc Ls (.int x :: .ref c :: st) sz G := by
  refine r_put hK hl hd hM.1 rfl rfl (Nat.le_of_ble_eq_true rfl) ?_
  have e : (mFl c f).set 12 (.int x) = mFl c (upd f 12 x) := by
    unfold mFl
    rw [upd_n (by omega), upd_n (by omega), upd_n (by omega), upd_n (by omega), upd_n (by omega), upd_s, upd_n (by omega), upd_n (by omega), upd_n (by omega)]
    rfl
  rw [e]
  exact kk _ ⟨gup_s, (gup_n (by omega)).trans hM.2.1, (gup_n (by omega)).trans hM.2.2.1, (gup_n (by omega)).trans hM.2.2.2.1, (gup_n (by omega)).trans hM.2.2.2.2.1, (gup_n (by omega)).trans hM.2.2.2.2.2.1, (gup_n (by omega)).trans hM.2.2.2.2.2.2.1, (gup_n (by omega)).trans hM.2.2.2.2.2.2.2.1, (gup_n (by omega)).trans hM.2.2.2.2.2.2.2.2.1, (gup_n (by omega)).trans hM.2.2.2.2.2.2.2.2.2⟩ (Frm.up (by omega) (by omega))
theorem p_M_at (hK : Cl E own cc ret nL k mc sz0 ini G0 Q K) {x : Int32} (hl : LkF own idx 8 13 .int false) (hd : decode cc pc = .ok (.putfield idx, 3)) (hM : MV G c f w A) (kk : ∀ G' : gG, MV G' c (upd f 13 x) w A → Frm G G' c 10 → K (pc + 3) Ls st sz G') : K pc Ls (.int x :: .ref c :: st) sz G := by
  refine r_put hK hl hd hM.1 rfl rfl (Nat.le_of_ble_eq_true rfl) ?_
  have e : (mFl c f).set 13 (.int x) = mFl c (upd f 13 x) := by
    unfold mFl
    rw [upd_n (by omega), upd_n (by omega), upd_n (by omega), upd_n (by omega), upd_n (by omega), upd_n (by omega), upd_s, upd_n (by omega), upd_n (by omega)]
    rfl
  rw [e]
  exact kk _ ⟨gup_s, (gup_n (by omega)).trans hM.2.1, (gup_n (by omega)).trans hM.2.2.1, (gup_n (by omega)).trans hM.2.2.2.1, (gup_n (by omega)).trans hM.2.2.2.2.1, (gup_n (by omega)).trans hM.2.2.2.2.2.1, (gup_n (by omega)).trans hM.2.2.2.2.2.2.1, (gup_n (by omega)).trans hM.2.2.2.2.2.2.2.1, (gup_n (by omega)).trans hM.2.2.2.2.2.2.2.2.1, (gup_n (by omega)).trans hM.2.2.2.2.2.2.2.2.2⟩ (Frm.up (by omega) (by omega))
theorem p_M_wrong (hK : Cl E own cc ret nL k mc sz0 ini G0 Q K) {x : Int32} (hl : LkF own idx 8 14 .int false) (hd : decode cc pc = .ok (.putfield idx, 3)) (hM : MV G c f w A) (kk : ∀ G' : gG, MV G' c (upd f 14 x) w A → Frm G G' c 10 → K (pc + 3) Ls st sz G') : K pc Ls (.int x :: .ref c :: st) sz G := by
  refine r_put hK hl hd hM.1 rfl rfl (Nat.le_of_ble_eq_true rfl) ?_
  have e : (mFl c f).set 14 (.int x) = mFl c (upd f 14 x) := by
    unfold mFl
    rw [upd_n (by omega), upd_n (by omega), upd_n (by omega), upd_n (by omega), upd_n (by omega), upd_n (by omega), upd_n (by omega), upd_s, upd_n (by omega)]
    rfl
  rw [e]
  exact kk _ ⟨gup_s, (gup_n (by omega)).trans hM.2.1, (gup_n (by omega)).trans hM.2.2.1, (gup_n (by omega)).trans hM.2.2.2.1, (gup_n (by omega)).trans hM.2.2.2.2.1, (gup_n (by omega)).trans hM.2.2.2.2.2.1, (gup_n (by omega)).trans hM.2.2.2.2.2.2.1, (gup_n (by omega)).trans hM.2.2.2.2.2.2.2.1, (gup_n (by omega)).trans hM.2.2.2.2.2.2.2.2.1, (gup_n (by omega)).trans hM.2.2.2.2.2.2.2.2.2⟩ (Frm.up (by omega) (by omega))
theorem p_M_number (hK : Cl E own cc ret nL k mc sz0 ini G0 Q K) {x : Int32} (hl : LkF own idx 8 15 .int false) (hd : decode cc pc = .ok (.putfield idx, 3)) (hM : MV G c f w A) (kk : ∀ G' : gG, MV G' c (upd f 15 x) w A → Frm G G' c 10 → K (pc + 3) Ls st sz G') : K pc Ls (.int x :: .ref c :: st) sz G := by
  refine r_put hK hl hd hM.1 rfl rfl (Nat.le_of_ble_eq_true rfl) ?_
  have e : (mFl c f).set 15 (.int x) = mFl c (upd f 15 x) := by
    unfold mFl
    rw [upd_n (by omega), upd_n (by omega), upd_n (by omega), upd_n (by omega), upd_n (by omega), upd_n (by omega), upd_n (by omega), upd_n (by omega), upd_s]
    rfl
  rw [e]
  exact kk _ ⟨gup_s, (gup_n (by omega)).trans hM.2.1, (gup_n (by omega)).trans hM.2.2.1, (gup_n (by omega)).trans hM.2.2.2.1, (gup_n (by omega)).trans hM.2.2.2.2.1, (gup_n (by omega)).trans hM.2.2.2.2.2.1, (gup_n (by omega)).trans hM.2.2.2.2.2.2.1, (gup_n (by omega)).trans hM.2.2.2.2.2.2.2.1, (gup_n (by omega)).trans hM.2.2.2.2.2.2.2.2.1, (gup_n (by omega)).trans hM.2.2.2.2.2.2.2.2.2⟩ (Frm.up (by omega) (by omega))
end MG
