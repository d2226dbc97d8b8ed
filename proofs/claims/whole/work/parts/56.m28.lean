theorem add_tI {x y : Int32} (h : -2147483648 ≤ x.toInt + y.toInt ∧ x.toInt + y.toInt < 2147483648) : (x + y).toInt = x.toInt + y.toInt := by
  rw [Int32.toInt_add, Int.bmod_eq_of_le (by omega) (by omega)]
theorem bit_pos : ∀ b, b < 64 → ∀ j, j < 6 → bitB (nI b) (nI j) = true → 1 ≤ cn b := by decide +kernel
theorem Vk.wob {v : Nat → Int32} {n j : Nat} (h : Vk v n) (hj : j < n) : 0 ≤ (wOf v j).toInt ∧ (wOf v j).toInt ≤ 216 := by
  have h6 := h.1
  unfold wOf
  by_cases q : behB v (nI j) = true
  · rw [if_pos q]
    obtain ⟨b, hb, hb6, e⟩ := h.b64
    rw [h.b hj, e] at q
    have hp := bit_pos b hb6 j (by omega) q
    have hc := cn_e b hb6
    have ho : (bitc (v 3) - 1).toInt = (cn b : Int) - 1 := by
      have := nI_toInt (n := cn b) (by omega)
      rw [e, hc.1, sub_toI (by rw [this, ti_1]; omega), this, ti_1]
    obtain ⟨⟨⟨f1, f0⟩, k1, k0⟩, -, a1, a0⟩ := h.2.2.2 j hj
    have hfa : (v (12 + j) + v (30 + j)).toInt = (v (12 + j)).toInt + (v (30 + j)).toInt := add_tI (by omega)
    have hfo : (v (12 + j) + (bitc (v 3) - 1)).toInt = (v (12 + j)).toInt + (bitc (v 3) - 1).toInt := add_tI (by omega)
    have h2 : (2 * (v (12 + j) + v (30 + j))).toInt = 2 * ((v (12 + j)).toInt + (v (30 + j)).toInt) := by
      rw [Int32.toInt_mul, hfa, ti_2, Int.bmod_eq_of_le (by omega) (by omega)]
    unfold wgh
    by_cases q2 : v (6 + j) = 2
    · rw [if_pos q2]; omega
    · rw [if_neg q2]
      by_cases q3 : v (6 + j) = 3
      · rw [if_pos q3]
        split
        · omega
        · rw [ti_0]; omega
      · rw [if_neg q3]
        by_cases q4 : v (6 + j) = 4
        · rw [if_pos q4]; omega
        · rw [if_neg q4]
          by_cases q5 : v (6 + j) = 5
          · rw [if_pos q5]; omega
          · rw [if_neg q5]; omega
  · rw [if_neg q, ti_0]; omega
theorem Vk.wsb {v : Nat → Int32} {n : Nat} (h : Vk v n) : ∀ j, j ≤ n → 0 ≤ (wSum v j).toInt ∧ (wSum v j).toInt ≤ 216 * j
  | 0, _ => by show 0 ≤ (0 : Int32).toInt ∧ (0 : Int32).toInt ≤ _; rw [ti_0]; omega
  | j + 1, hj => by
    have h1 := h.wsb j (by omega)
    have h2 := h.wob (show j < n by omega)
    have h6 := h.1
    show 0 ≤ (wSum v j + wOf v j).toInt ∧ (wSum v j + wOf v j).toInt ≤ _
    rw [add_tI (by omega)]
    omega
theorem Vk.wgb {v : Nat → Int32} {n : Nat} (h : Vk v n) : 0 ≤ (wght v).toInt ∧ (wght v).toInt ≤ 1296 := by
  have := h.wsb n (Nat.le_refl _)
  have := h.1
  rw [h.wg]
  omega
theorem ozG_b {n : Nat} : ∀ (p : List Nat) (v : Nat → Int32) (s : Int32), Vk v n → 0 ≤ s.toInt → s.toInt + 1296 * p.length < 2147483648 → s.toInt ≤ (ozG v s p).toInt ∧ (ozG v s p).toInt ≤ s.toInt + 1296 * p.length
  | [], v, s, _, _, _ => by show s.toInt ≤ s.toInt ∧ s.toInt ≤ _; omega
  | i :: r, v, s, hV, h0, h1 => by
    have hb := (hV.ans (nI i)).wgb
    rw [List.length_cons] at h1 ⊢
    have e : (s + wght (ansV v (nI i))).toInt = s.toInt + (wght (ansV v (nI i))).toInt := add_tI (by omega)
    have := ozG_b r (passV (ansV v (nI i))).1 (s + wght (ansV v (nI i))) (hV.ans (nI i)).pass (by omega) (by omega)
    rw [e] at this
    show s.toInt ≤ (ozG (passV (ansV v (nI i))).1 (s + wght (ansV v (nI i))) r).toInt ∧ _
    constructor
    · omega
    · show (ozG (passV (ansV v (nI i))).1 (s + wght (ansV v (nI i))) r).toInt ≤ _
      omega
def ozE (v : Nat → Int32) (g : Int32) (pre : List Nat) (acc : Option (Int32 × List Nat)) (p : List Nat) : Option (Int32 × List Nat) := match acc with
  | none => some (ozG v g p, pre ++ p)
  | some a => if a.1 ≤ ozG v g p then some a else some (ozG v g p, pre ++ p)
def ozL (x : (Nat → Int32) × Int32) : Option (Int32 × List Nat) → Prop
  | none => x.2 = 1000000
  | some a => x.2 = a.1 ∧ ∀ k (h : k < a.2.length), k < 6 → x.1 k = nI a.2[k]
theorem ozE_c {v : Nat → Int32} {g : Int32} {pre : List Nat} {i : Nat} {a : Option (Int32 × List Nat)} {p : List Nat} : ozE v g pre a (i :: p) = ozE (passV (ansV v (nI i))).1 (g + wght (ansV v (nI i))) (pre ++ [i]) a p := by
  unfold ozE
  rw [List.append_cons]
  rfl
theorem ozP_l : ∀ (d : Nat) (s : Int32) (p : List Nat), p ∈ ozP d s → p.length ≤ d
  | 0, s, p, h => by
    simp only [ozP, List.mem_singleton] at h
    rw [h]; exact Nat.le_refl _
  | d + 1, s, p, h => by
    have key : ∀ (i : Nat) (t : Int32) (b : Bool), p ∈ (if b = true then (ozP d t).map (i :: ·) else []) → p.length ≤ d + 1 := by
      intro i t b hp
      cases b
      · rw [if_neg (by decide)] at hp; cases hp
      · rw [if_pos rfl] at hp
        obtain ⟨q, hq, rfl⟩ := List.mem_map.mp hp
        have := ozP_l d t q hq
        rw [List.length_cons]; omega
    unfold ozP at h
    split at h
    · rw [List.mem_singleton] at h
      rw [h]; exact Nat.zero_le _
    · simp only [List.mem_append] at h
      rcases h with h | h | h | h | h | h | h
      · exact key _ _ _ h
      · exact key _ _ _ h
      · exact key _ _ _ h
      · exact key _ _ _ h
      · exact key _ _ _ h
      · exact key _ _ _ h
      · cases h
theorem ozE_k {v : Nat → Int32} {g : Int32} {pre : List Nat} {a : Int32 × List Nat} : ∀ (L : List (List Nat)), (∀ p, p ∈ L → a.1 ≤ ozG v g p) → L.foldl (ozE v g pre) (some a) = some a
  | [], _ => rfl
  | p :: r, h => by
    rw [List.foldl_cons]
    have : ozE v g pre (some a) p = some a := if_pos (h p (List.mem_cons_self ..))
    rw [this]
    exact ozE_k r (fun q hq => h q (List.mem_cons_of_mem _ hq))
theorem cl_s : ∀ s, s < 64 → ∀ i, i < 6 → bitB (nI s) (nI i) = true → ∃ t, t < 64 ∧ cn t + 1 = cn s ∧ nI s &&& ((1 <<< (nI i &&& 31)) ^^^ (-1)) = nI t := by
  intro s hs i hi h
  refine ⟨(nI s &&& ((1 <<< (nI i &&& 31)) ^^^ (-1))).toInt.toNat, ?_⟩
  revert s i
  decide +kernel
theorem cn_z : ∀ s, s < 64 → cn s = 0 → s = 0 := by decide +kernel
theorem oz_leaf {tr : Nat → Int32} {x : (Nat → Int32) × Int32} {g : Int32} {pre : List Nat} {acc : Option (Int32 × List Nat)} {v : Nat → Int32} (hg : g.toInt ≤ 7776) (hp6 : pre.length ≤ 6) (ht : ∀ k (h : k < pre.length), tr k = nI pre[k]) (hx : ozL x acc) : ozL (if x.2 ≤ g then (tr, x) else (tr, va_cpy tr x.1 0 0 6, g)).2 (ozE v g pre acc []) ∧ (if x.2 ≤ g then (tr, x) else (tr, va_cpy tr x.1 0 0 6, g)).1 = tr := by
  have hl : ozL (va_cpy tr x.1 0 0 6, g) (some (g, pre ++ [])) := by
    refine ⟨rfl, fun k h hk => ?_⟩
    have h2 : k < pre.length := by simpa using h
    show va_cpy tr x.1 0 0 6 k = nI (pre ++ [])[k]
    rw [List.getElem_append_left h2, ← ht k h2]
    unfold va_cpy
    simp
    omega
  cases acc with
  | none =>
    have hx : x.2 = 1000000 := hx
    have hn : ¬ x.2 ≤ g := fun z => by
      rw [hx, i_le, show (1000000 : Int32).toInt = 1000000 by decide] at z
      omega
    rw [if_neg hn]
    exact ⟨hl, rfl⟩
  | some a =>
    by_cases q : x.2 ≤ g
    · rw [if_pos q]
      have : ozE v g pre (some a) [] = some a := if_pos (by rw [← hx.1]; exact q)
      rw [this]
      exact ⟨hx, rfl⟩
    · rw [if_neg q]
      have : ozE v g pre (some a) [] = some (g, pre ++ []) := if_neg (by rw [← hx.1]; exact q)
      rw [this]
      exact ⟨hl, rfl⟩
def ozS1 (d : Nat) (v : Nat → Int32) (s g : Int32) (st : (Nat → Int32) × (Nat → Int32) × Int32) (i : Nat) : (Nat → Int32) × (Nat → Int32) × Int32 := if bitB s (nI i) = true then ext d (passV (ansV v (nI i))).1 (s &&& ((1 <<< (nI i &&& 31)) ^^^ (-1))) (g + wght (ansV v (nI i))) (upd st.1 (5 - d) (nI i), st.2) else st
theorem ext_oz {n : Nat} : ∀ (d : Nat) (v : Nat → Int32) (g : Int32) (pre : List Nat) (st : (Nat → Int32) × (Nat → Int32) × Int32) (acc : Option (Int32 × List Nat)) (s : Nat), Vk v n → s < 64 → cn s ≤ d → pre.length + d = 6 → 0 ≤ g.toInt → g.toInt ≤ 1296 * pre.length → (∀ k (h : k < pre.length), st.1 k = nI pre[k]) → ozL st.2 acc →
    ozL (ext d v (nI s) g st).2 ((ozP d (nI s)).foldl (ozE v g pre) acc) ∧ ∀ k (h : k < pre.length), (ext d v (nI s) g st).1 k = nI pre[k]
  | 0, v, g, pre, st, acc, s, hV, hs, hc, hl, h0, h1, ht, hx => by
    have hz := cn_z s hs (by omega)
    subst hz
    obtain ⟨a, b⟩ := oz_leaf (v := v) (g := g) (pre := pre) (tr := st.1) (x := st.2) (acc := acc) (by omega) (by omega) ht hx
    refine ⟨a, fun k h => ?_⟩
    have : (ext 0 v (nI 0) g st).1 = st.1 := b
    rw [this]
    exact ht k h
  | d + 1, v, g, pre, st, acc, s, hV, hs, hc, hl, h0, h1, ht, hx => by
    by_cases hp : st.2.2 ≤ g
    · have e : ext (d + 1) v (nI s) g st = st := if_pos hp
      rw [e]
      cases acc with
      | none =>
        have hx : st.2.2 = 1000000 := hx
        exfalso
        rw [hx, i_le, show (1000000 : Int32).toInt = 1000000 by decide] at hp
        omega
      | some a =>
        rw [ozE_k (a := a)]
        · exact ⟨hx, ht⟩
        · intro p hpm
          have hlp := ozP_l _ _ _ hpm
          have := (ozG_b p v g hV h0 (by omega)).1
          rw [hx.1, i_le] at hp
          rw [i_le]
          omega
    · by_cases hz : s = 0
      · subst hz
        have e : ext (d + 1) v (nI 0) g st = (if st.2.2 ≤ g then (st.1, st.2) else (st.1, va_cpy st.1 st.2.1 0 0 6, g)) := by
          rw [if_neg hp]
          show (if st.2.2 ≤ g then st else if nI 0 = 0 then _ else _) = _
          rw [if_neg hp, if_pos (by decide)]
        have e2 : ozP (d + 1) (nI 0) = [[]] := if_pos (by decide)
        obtain ⟨a, b⟩ := oz_leaf (v := v) (g := g) (pre := pre) (tr := st.1) (x := st.2) (acc := acc) (by omega) (by omega) ht hx
        rw [e, e2]
        refine ⟨a, fun k h => ?_⟩
        rw [b]
        exact ht k h
      · have hz2 : ¬ nI s = 0 := fun z => hz ((eqc (n := 0) (by decide) (by omega)).mp z)
        have step : ∀ (i : Nat), i < 6 → ∀ (st : (Nat → Int32) × (Nat → Int32) × Int32) (acc : Option (Int32 × List Nat)), (∀ k (h : k < pre.length), st.1 k = nI pre[k]) → ozL st.2 acc →
            ozL (ozS1 d v (nI s) g st i).2 ((if bitB (nI s) (nI i) = true then (ozP d (nI s &&& ((1 <<< (nI i &&& 31)) ^^^ (-1)))).map (i :: ·) else []).foldl (ozE v g pre) acc) ∧ ∀ k (h : k < pre.length), (ozS1 d v (nI s) g st i).1 k = nI pre[k] := by
          intro i hi st acc ht hx
          unfold ozS1
          by_cases hb : bitB (nI s) (nI i) = true
          · rw [if_pos hb, if_pos hb]
            obtain ⟨t, ht6, htc, hte⟩ := cl_s s hs i hi hb
            rw [hte, List.foldl_map]
            have hwb := (hV.ans (nI i)).wgb
            have e1 : (g + wght (ansV v (nI i))).toInt = g.toInt + (wght (ansV v (nI i))).toInt := add_tI (by omega)
            have hpl : (pre ++ [i]).length = pre.length + 1 := by simp
            have ih := ext_oz d (passV (ansV v (nI i))).1 (g + wght (ansV v (nI i))) (pre ++ [i]) (upd st.1 (5 - d) (nI i), st.2) acc t (hV.ans (nI i)).pass ht6 (by omega) (by omega) (by omega) (by omega) (fun k h => by
              by_cases z : k = 5 - d
              · subst z
                show upd st.1 (5 - d) (nI i) (5 - d) = _
                rw [upd_s]
                congr 1
                have : 5 - d = pre.length := by omega
                simp [this]
              · have hk : k < pre.length := by omega
                show upd st.1 (5 - d) (nI i) k = _
                rw [upd_n z, List.getElem_append_left hk]
                exact ht k hk) hx
            have ef : (fun (a : Option (Int32 × List Nat)) (p : List Nat) => ozE v g pre a (i :: p)) = ozE (passV (ansV v (nI i))).1 (g + wght (ansV v (nI i))) (pre ++ [i]) := by
              funext a p
              exact ozE_c
            rw [ef]
            refine ⟨ih.1, fun k h => ?_⟩
            have := ih.2 k (by omega)
            rw [List.getElem_append_left h] at this
            exact this
          · rw [if_neg hb, if_neg hb]
            exact ⟨hx, ht⟩
        have e : ext (d + 1) v (nI s) g st = [0, 1, 2, 3, 4, 5].foldl (ozS1 d v (nI s) g) st := by
          show (if st.2.2 ≤ g then st else if nI s = 0 then _ else _) = _
          rw [if_neg hp, if_neg hz2]
          rfl
        rw [e]
        unfold ozP
        rw [if_neg hz2]
        simp only [List.foldl_append, List.foldl_cons, List.foldl_nil]
        obtain ⟨a0, b0⟩ := step 0 (by omega) st acc ht hx
        obtain ⟨a1, b1⟩ := step 1 (by omega) _ _ b0 a0
        obtain ⟨a2, b2⟩ := step 2 (by omega) _ _ b1 a1
        obtain ⟨a3, b3⟩ := step 3 (by omega) _ _ b2 a2
        obtain ⟨a4, b4⟩ := step 4 (by omega) _ _ b3 a3
        exact step 5 (by omega) _ _ b4 a4
