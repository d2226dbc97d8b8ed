-- what of a house counts: the letters that there are
def eqv (w v : Nat → Int32) : Prop := (∀ k, k < 6 → w k = v k) ∧ ∀ k, 6 ≤ k → k < 36 → (k - 6) % 6 < nN (v 0) → w k = v k
theorem eqv.rf {v : Nat → Int32} : eqv v v := ⟨fun _ _ => rfl, fun _ _ _ _ => rfl⟩
theorem eqv.sm {w v : Nat → Int32} (h : eqv w v) : eqv v w := ⟨fun k hk => (h.1 k hk).symm, fun k h1 h2 h3 => (h.2 k h1 h2 (by rw [← h.1 0 (by omega)]; exact h3)).symm⟩
theorem eqv.tr {u w v : Nat → Int32} (h : eqv u w) (h2 : eqv w v) : eqv u v := ⟨fun k hk => (h.1 k hk).trans (h2.1 k hk), fun k a b c => (h.2 k a b (by rw [h2.1 0 (by omega)]; exact c)).trans (h2.2 k a b c)⟩
theorem eqv.of {w v : Nat → Int32} (h : ∀ k, k < 36 → w k = v k) : eqv w v := ⟨fun k hk => h k (by omega), fun k _ h2 _ => h k h2⟩
theorem eqv.at {w v : Nat → Int32} (h : eqv w v) {f j : Nat} (hf : f < 5) (hj : j < nN (v 0)) (h6 : nN (v 0) ≤ 6) : w (6 + 6 * f + j) = v (6 + 6 * f + j) := h.2 _ (by omega) (by omega) (by omega)
theorem eqv.k {w v : Nat → Int32} (h : eqv w v) {j : Nat} (hj : j < nN (v 0)) (h6 : nN (v 0) ≤ 6) : w (6 + j) = v (6 + j) ∧ w (12 + j) = v (12 + j) ∧ w (18 + j) = v (18 + j) ∧ w (24 + j) = v (24 + j) ∧ w (30 + j) = v (30 + j) :=
  ⟨h.at (f := 0) (by omega) hj h6, h.at (f := 1) (by omega) hj h6, h.at (f := 2) (by omega) hj h6, h.at (f := 3) (by omega) hj h6, h.at (f := 4) (by omega) hj h6⟩
theorem eqv.n {w v : Nat → Int32} (h : eqv w v) : nN (w 0) = nN (v 0) := by rw [h.1 0 (by omega)]
theorem eqv.b {w v : Nat → Int32} (h : eqv w v) (i : Int32) : behB w i = behB v i := behB_c (h.1 0 (by omega)) (h.1 3 (by omega)) i
theorem eqv.l {w v : Nat → Int32} (h : eqv w v) (i : Int32) : hasL w i = hasL v i := hasL_c (h.1 0 (by omega)) i
theorem becV_e {u v : Nat → Int32} : eqv (becV u v (nN (v 0))) v := by
  refine ⟨fun k hk => ?_, fun k h1 h2 h3 => ?_⟩
  · unfold becV; rw [if_pos hk]
  · unfold becV; rw [if_neg (by omega), if_pos h3]
theorem eqv.wo {w v : Nat → Int32} (h : eqv w v) (h6 : nN (v 0) ≤ 6) {j : Nat} (hj : j < nN (v 0)) : wOf w j = wOf v j := by
  obtain ⟨a, b, c, d, e⟩ := h.k hj h6
  unfold wOf
  rw [h.b, a, b, e, h.1 3 (by omega)]
theorem eqv.ws {w v : Nat → Int32} (h : eqv w v) (h6 : nN (v 0) ≤ 6) : ∀ j, j ≤ nN (v 0) → wSum w j = wSum v j
  | 0, _ => rfl
  | j + 1, hj => by
    show wSum w j + wOf w j = wSum v j + wOf v j
    rw [h.ws h6 j (by omega), h.wo h6 (by omega)]
theorem eqv.w {w v : Nat → Int32} (h : eqv w v) (h6 : nN (v 0) ≤ 6) : wght w = wght v := by
  unfold wght
  rw [h.n, h.ws h6 _ (Nat.le_refl _)]
theorem eqv.ts {w v : Nat → Int32} (h : eqv w v) (h6 : nN (v 0) ≤ 6) : ∀ j, j ≤ nN (v 0) → tSum w j = tSum v j
  | 0, _ => rfl
  | j + 1, hj => by
    obtain ⟨a, b, c, d, e⟩ := h.k (show j < nN (v 0) by omega) h6
    show tSum w j + (if behB w (nI j) then w (18 + j) else 0) = tSum v j + (if behB v (nI j) then v (18 + j) else 0)
    rw [h.ts h6 j (by omega), h.b, c]
theorem eqv.t {w v : Nat → Int32} (h : eqv w v) (h6 : nN (v 0) ≤ 6) : thck w = thck v := by
  unfold thck
  rw [h.n, h.ts h6 _ (Nat.le_refl _)]
theorem eqv.f {w v : Nat → Int32} (h : eqv w v) (h6 : nN (v 0) ≤ 6) {j k : Nat} (hj : j < nN (v 0)) (hk : k < nN (v 0)) : fAh w j k = fAh v j k := by
  obtain ⟨-, -, c, -, e⟩ := h.k hj h6
  obtain ⟨-, -, c', -, e'⟩ := h.k hk h6
  unfold fAh
  rw [c, e, c', e']
theorem eqv.nt {w v : Nat → Int32} (h : eqv w v) (h6 : nN (v 0) ≤ 6) : ∀ j, j ≤ nN (v 0) → ntf w j = ntf v j
  | 0, _ => rfl
  | j + 1, hj => by
    have e := h.nt h6 j (by omega)
    simp only [ntf]
    rw [e, h.b]
    by_cases q : behB v (nI j) = true ∧ ∀ k, ntf v j = some k → fAh v j k = true
    · rw [if_pos q, if_pos ⟨q.1, fun k hk => by rw [h.f h6 (by omega) (by have := (ntf_lt hk).1; omega)]; exact q.2 k hk⟩]
    · rw [if_neg q, if_neg (fun z => q ⟨z.1, fun k hk => by rw [← h.f h6 (by omega) (by have := (ntf_lt hk).1; omega)]; exact z.2 k hk⟩)]
theorem eqv.up {w v : Nat → Int32} (h : eqv w v) {k : Nat} {x y : Int32} (hk : k ≠ 0) (hx : x = y) : eqv (upd w k x) (upd v k y) := by
  subst hx
  refine ⟨fun j hj => ?_, fun j a b c => ?_⟩
  · by_cases e : j = k
    · subst e; rw [upd_s, upd_s]
    · rw [upd_n e, upd_n e]; exact h.1 j hj
  · rw [upd_n (Ne.symm hk)] at c
    by_cases e : j = k
    · subst e; rw [upd_s, upd_s]
    · rw [upd_n e, upd_n e]; exact h.2 j a b c
theorem eqv.away {w v : Nat → Int32} (h : eqv w v) {i g g' : Int32} (hg : g = g') : eqv (awayV w i g) (awayV v i g') := by
  unfold awayV
  refine eqv.up (eqv.up h (by omega) (by rw [h.1 3 (by omega)])) (by omega) (by rw [h.1 5 (by omega), hg])
theorem eqv.sum {w v : Nat → Int32} (h : eqv w v) (h6 : nN (v 0) ≤ 6) : eqv (sumV w) (sumV v) := by
  unfold sumV
  exact h.up (by omega) (by rw [h.w h6, h.1 4 (by omega)])
theorem eqv.age {w v : Nat → Int32} (h : eqv w v) {m : Nat} (hm : m ≤ 6) : eqv (ageV w m) (ageV v m) := by
  refine ⟨fun k hk => by rw [ageV_n (by omega), ageV_n (by omega)]; exact h.1 k hk, fun k a b c => ?_⟩
  have e0 : ageV v m 0 = v 0 := ageV_n (by omega)
  rw [e0] at c
  unfold ageV
  rw [h.b, h.2 k a b c]
theorem eqv.day {w v : Nat → Int32} (h : eqv w v) (h6 : nN (v 0) ≤ 6) : eqv (dayV w) (dayV v) := by
  unfold dayV
  rw [h.n]
  exact ((h.sum h6).age h6).up (by omega) (by rw [h.1 2 (by omega)])
theorem awayV_0 {v : Nat → Int32} {i g : Int32} : awayV v i g 0 = v 0 := rfl
theorem eqv.fall : ∀ (m : Nat) {w v : Nat → Int32} (f : Option Nat), eqv w v → nN (v 0) ≤ 6 → eqv (fallV m w f).1 (fallV m v f).1 ∧ (fallV m w f).2 = (fallV m v f).2
  | 0, _, _, _, h, _ => ⟨h, rfl⟩
  | m + 1, w, v, f, h, h6 => by
    simp only [fallV]
    rw [h.t h6, h.1 1 (by omega), h.n, h.nt h6 _ (Nat.le_refl _)]
    split
    · cases hk : ntf v (nN (v 0)) with
      | none => exact eqv.fall m f h h6
      | some k =>
        have := (ntf_lt hk).1
        obtain ⟨-, -, -, d, -⟩ := h.k this h6
        exact eqv.fall m _ (h.away d) h6
    · exact ⟨h, rfl⟩
theorem eqv.pass {w v : Nat → Int32} (h : eqv w v) (h6 : nN (v 0) ≤ 6) : eqv (passV w).1 (passV v).1 ∧ (passV w).2 = (passV v).2 := by
  unfold passV
  rw [h.n]
  exact eqv.fall _ none (h.day h6) (by rw [dayV_n (by omega) (by omega) (by omega)]; exact h6)
theorem eqv.ans {w v : Nat → Int32} (h : eqv w v) (h6 : nN (v 0) ≤ 6) (i : Int32) : eqv (ansV w i) (ansV v i) := by
  unfold ansV
  rw [h.b]
  split
  · rename_i hb
    obtain ⟨j, hj, hj6, rfl⟩ := hasL_ix (behB_has hb) h6
    rw [nN_nI (by omega)]
    obtain ⟨-, -, -, d, -⟩ := h.k hj h6
    exact h.away (by rw [d])
  · exact h
theorem eqv.put {w v : Nat → Int32} (h : eqv w v) (h6 : nN (v 0) ≤ 6) (i : Int32) : eqv (putV w i) (putV v i) := by
  unfold putV
  rw [h.b, h.l]
  split
  · exact (h.up (by omega) (by rw [h.1 3 (by omega)])).up (by omega) rfl
  · exact h
theorem eqv.draw {w v : Nat → Int32} (h : eqv w v) (h6 : nN (v 0) ≤ 6) (x : Int64) : eqv (drawV w x) (drawV v x) := by
  unfold drawV
  rw [h.1 0 (by omega)]
  split
  · exact h
  · split
    · exact h.ans h6 _
    · split
      · exact h.put h6 _
      · exact h
theorem fallV_0 : ∀ (m : Nat) (v : Nat → Int32) (f : Option Nat), (fallV m v f).1 0 = v 0 ∧ (fallV m v f).1 1 = v 1
  | 0, _, _ => ⟨rfl, rfl⟩
  | m + 1, v, f => by
    simp only [fallV]
    split
    · cases hk : ntf v (nN (v 0)) with
      | none => exact fallV_0 m v f
      | some k => exact fallV_0 m _ _
    · exact ⟨rfl, rfl⟩
theorem passV_0 (v : Nat → Int32) : (passV v).1 0 = v 0 := by
  unfold passV
  rw [(fallV_0 _ _ _).1, dayV_n (by omega) (by omega) (by omega)]
theorem ansV_0 (v : Nat → Int32) (i : Int32) : ansV v i 0 = v 0 := by
  unfold ansV
  split <;> rfl
theorem putV_0 (v : Nat → Int32) (i : Int32) : putV v i 0 = v 0 := by
  unfold putV
  split
  · rw [upd_n (by omega), upd_n (by omega)]
  · rfl
theorem drawV_0 (v : Nat → Int32) (x : Int64) : drawV v x 0 = v 0 := by
  unfold drawV
  split
  · rfl
  · split
    · exact ansV_0 v _
    · split
      · exact putV_0 v _
      · rfl
-- a house as far as it counts
def HE (G : gG) (h : Nat) (s : Int32) (v : Nat → Int32) : Prop := ∃ w, HX G h s w ∧ eqv w v
theorem HX.e {G : gG} {h : Nat} {s : Int32} {v : Nat → Int32} (hH : HX G h s v) : HE G h s v := ⟨v, hH, eqv.rf⟩
theorem HE.ev {G : gG} {h : Nat} {s : Int32} {v u : Nat → Int32} (hH : HE G h s v) (e : eqv v u) : HE G h s u := hH.elim fun w q => ⟨w, q.1, q.2.tr e⟩
theorem HE.frm {G G' : gG} {h a n : Nat} {s : Int32} {v : Nat → Int32} (hH : HE G h s v) (hF : Frm G G' a n) (hd : h + 8 ≤ a ∨ a + n ≤ h) : HE G' h s v := hH.elim fun w q => ⟨w, q.1.frm hF hd, q.2⟩
theorem HE.frm2 {G G' : gG} {h a n b m : Nat} {s : Int32} {v : Nat → Int32} (hH : HE G h s v) (hF : Frm2 G G' a n b m) (hd : h + 8 ≤ a ∨ a + n ≤ h) (hd2 : h + 8 ≤ b ∨ b + m ≤ h) : HE G' h s v := hH.elim fun w q => ⟨w, q.1.frm2 hF hd hd2, q.2⟩
theorem HE.o {G : gG} {h : Nat} {s : Int32} {v : Nat → Int32} (hH : HE G h s v) : G h = some (.inr (3, [.ref (h + 1), .int s, .int (v 0), .int (v 1), .int (v 3), .int (v 2), .int (v 4), .int (v 5)])) := by
  obtain ⟨w, q, e⟩ := hH
  rw [← e.1 0 (by omega), ← e.1 1 (by omega), ← e.1 2 (by omega), ← e.1 3 (by omega), ← e.1 4 (by omega), ← e.1 5 (by omega)]
  exact q.1
theorem HE.a {G : gG} {h : Nat} {s : Int32} {v : Nat → Int32} (hH : HE G h s v) : G (h + 1) = some (.inl (4, 6, .inr (.inr (.inr (.inr (fun i => some (h + 2 + i))))))) := hH.elim fun _ q => q.1.2.1
theorem HE.l {G : gG} {h j : Nat} {s : Int32} {v : Nat → Int32} (hH : HE G h s v) (hn : nN (v 0) ≤ 6) (hj : j < nN (v 0)) : LX G (h + 2 + j) (letL v j) := by
  obtain ⟨w, q, e⟩ := hH
  obtain ⟨a, b, c, d, f⟩ := e.k hj hn
  have := q.2.2 j (by omega)
  unfold letL at this ⊢
  rw [← a, ← b, ← c, ← d, ← f]
  exact this
section EC
variable {E : gX} {S : Nat} {G : gG} {Q : Option Value → gG → Prop} {h : Nat} {s : Int32} {v : Nat → Int32}
theorem e_H_hasLetter {i : Int32} (hH : HE G h s v) (hQ : Q (some (.int (bI (hasL v i)))) G) : Runs E y_H_hasLetter 1 0 S [.ref h, .int i] G Q := by
  obtain ⟨w, q, e⟩ := hH
  exact c_H_hasLetter q (by rw [e.l]; exact hQ)
theorem e_H_isBehind {i : Int32} (hH : HE G h s v) (hQ : Q (some (.int (bI (behB v i)))) G) : Runs E y_H_isBehind 2 0 S [.ref h, .int i] G Q := by
  obtain ⟨w, q, e⟩ := hH
  exact c_H_isBehind q (by rw [e.b]; exact hQ)
theorem e_H_weightOf {j : Nat} (hH : HE G h s v) (hn : nN (v 0) ≤ 6) (hj : j < nN (v 0)) (hQ : Q (some (.int (wOf v j))) G) : Runs E y_H_weightOf 3 0 S [.ref h, .int (nI j)] G Q := by
  obtain ⟨w, q, e⟩ := hH
  exact c_H_weightOf q (by omega) (by rw [e.wo hn hj]; exact hQ)
theorem e_H_weight (hH : HE G h s v) (hn : nN (v 0) ≤ 6) (hQ : Q (some (.int (wght v))) G) : Runs E y_H_weight 4 0 S [.ref h] G Q := by
  obtain ⟨w, q, e⟩ := hH
  exact c_H_weight q (by rw [e.n]; exact hn) (by rw [e.w hn]; exact hQ)
theorem e_H_thickness (hH : HE G h s v) (hn : nN (v 0) ≤ 6) (hQ : Q (some (.int (thck v))) G) : Runs E y_H_thickness 3 0 S [.ref h] G Q := by
  obtain ⟨w, q, e⟩ := hH
  exact c_H_thickness q (by rw [e.n]; exact hn) (by rw [e.t hn]; exact hQ)
theorem e_H_passDay (hH : HE G h s v) (hn : nN (v 0) ≤ 6) (hQ : ∀ G' : gG, HE G' h s (passV v).1 → Frm G G' h 8 → Q (some (.int (oI (passV v).2))) G') : Runs E y_H_passDay 5 0 S [.ref h] G Q := by
  obtain ⟨w, q, e⟩ := hH
  exact c_H_passDay q (by rw [e.n]; exact hn) (fun G' h1 h2 => by rw [(e.pass hn).2]; exact hQ G' ⟨_, h1, (e.pass hn).1⟩ h2)
theorem e_H_answerOne {i : Int32} (hH : HE G h s v) (hn : nN (v 0) ≤ 6) (hQ : ∀ G' : gG, HE G' h s (ansV v i) → Frm G G' h 8 → Q none G') : Runs E y_H_answerOne 3 0 S [.ref h, .int i] G Q := by
  obtain ⟨w, q, e⟩ := hH
  exact c_H_answerOne q (by rw [e.n]; exact hn) (fun G' h1 h2 => hQ G' ⟨_, h1, e.ans hn i⟩ h2)
theorem e_H_putBehind {i : Int32} (hH : HE G h s v) (hn : nN (v 0) ≤ 6) (hQ : ∀ G' : gG, HE G' h s (putV v i) → Frm G G' h 8 → Q none G') : Runs E y_H_putBehind 3 0 S [.ref h, .int i] G Q := by
  obtain ⟨w, q, e⟩ := hH
  exact c_H_putBehind q (by rw [e.n]; exact hn) (fun G' h1 h2 => hQ G' ⟨_, h1, e.put hn i⟩ h2)
theorem e_H_takeDraw {x : Int64} (hH : HE G h s v) (hn : nN (v 0) ≤ 6) (hQ : ∀ G' : gG, HE G' h s (drawV v x) → Frm G G' h 8 → Q none G') : Runs E y_H_takeDraw 4 0 S [.ref h, .long x] G Q := by
  obtain ⟨w, q, e⟩ := hH
  exact c_H_takeDraw q (by rw [e.n]; exact hn) (fun G' h1 h2 => hQ G' ⟨_, h1, e.draw hn x⟩ h2)
theorem e_H_become {o : Nat} {b : Bool} {u : Nat → Int32} (hH : HE G h s u) (hO : HE G o (bI b) v) (hn : nN (v 0) ≤ 6) (hd : h + 8 ≤ o ∨ o + 8 ≤ h) (hQ : ∀ G' : gG, HE G' h (bI b) v → Frm G G' h 8 → Q none G') : Runs E y_H_become 2 0 S [.ref h, .ref o] G Q := by
  obtain ⟨w, q, e⟩ := hH
  obtain ⟨w2, q2, e2⟩ := hO
  exact c_H_become q q2 (by rw [e2.n]; exact hn) hd (fun G' h1 h2 => hQ G' ⟨_, h1, becV_e.tr e2⟩ h2)
end EC
