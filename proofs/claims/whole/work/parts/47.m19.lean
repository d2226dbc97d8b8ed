theorem wt6 {v : Nat → Int32} {n : Nat} (h : Vk v n) : wtV v (1 <<< (nI 6 &&& 31)) = v := by
  obtain ⟨b, -, hb, e⟩ := h.b64
  have k6 : ∀ b, b < 64 → nI b &&& ((1 <<< (nI 6 &&& 31)) ^^^ (-1)) = nI b := by decide +kernel
  funext q
  unfold wtV
  by_cases z : q = 3
  · subst z; rw [upd_s, e]; exact k6 b hb
  · rw [upd_n z]
theorem wt_aw {v : Nat → Int32} {k : Nat} : (wtV v (1 <<< (nI k &&& 31))) = upd v 3 (v 3 &&& ((1 <<< (nI k &&& 31)) ^^^ (-1))) := rfl
theorem bitW : ∀ b, b < 64 → ∀ k, k < 7 → ∃ b', b' ≤ b ∧ nI b &&& ((1 <<< (nI k &&& 31)) ^^^ (-1)) = nI b' := by
  intro b hb k hk
  refine ⟨(nI b &&& ((1 <<< (nI k &&& 31)) ^^^ (-1))).toInt.toNat, ?_⟩
  revert b k
  decide +kernel
theorem Vk.s3 {v : Nat → Int32} {n b : Nat} (h : Vk v n) (hb : b < 2 ^ n) : Vk (upd v 3 (nI b)) n := ⟨h.1, by rw [upd_n (by omega)]; exact h.2.1, ⟨b, hb, upd_s⟩, fun j hj => by rw [upd_n (by omega), upd_n (by omega), upd_n (by omega), upd_n (by omega)]; exact h.2.2.2 j hj⟩
theorem Vk.wt {v : Nat → Int32} {n k : Nat} (h : Vk v n) (hk : k < 7) : Vk (wtV v (1 <<< (nI k &&& 31))) n := by
  obtain ⟨b, hb, hb6, e⟩ := h.b64
  obtain ⟨b', l1, l2⟩ := bitW b hb6 k hk
  rw [wt_aw, e, l2]
  exact h.s3 (by omega)
def mS (P : Nat → Bool) : Nat → Int32
  | 0 => 0
  | t + 1 => mS P t ||| (if P t = true then 1 <<< (nI t &&& 31) else 0)
theorem stL_s (P : Nat → Option Bool) : ∀ (k t : Nat) (a : Int32), stL P (k + 1) t a = (match P (t + k) with
    | some p => stL P k t a ||| (if p = true then 1 <<< (nI (t + k) &&& 31) else 0)
    | none => stL P k t a)
  | 0, t, a => rfl
  | k + 1, t, a => by
    rw [stL, stL_s P k (t + 1)]
    rw [show t + 1 + k = t + (k + 1) by omega]
    rfl
theorem stL_m {P : Nat → Option Bool} {R : Nat → Bool} {a : Int32} (h : ∀ t, R t = true ↔ P t = some true) : ∀ k, stL P k 0 a = a ||| mS R k
  | 0 => by show a = a ||| 0; rw [Int32.or_zero]
  | k + 1 => by
    rw [stL_s, Nat.zero_add, stL_m h k, mS]
    cases e : P k with
    | none =>
      rw [if_neg (fun q => by rw [(h k).mp q] at e; cases e), Int32.or_zero]
    | some p =>
      cases p with
      | true =>
        rw [if_pos ((h k).mpr e)]
        show a ||| mS R k ||| (1 <<< (nI k &&& 31)) = _
        rw [Int32.or_assoc]
      | false =>
        rw [if_neg (fun q => by rw [(h k).mp q] at e; cases e)]
        show a ||| mS R k ||| 0 = _
        rw [Int32.or_zero, Int32.or_zero]
theorem mS_k {R : Nat → Bool} {n : Nat} : ∀ m, (∀ t, n ≤ t → t < n + m → R t = false) → mS R (n + m) = mS R n
  | 0, _ => rfl
  | m + 1, h => by
    show mS R (n + m) ||| (if R (n + m) = true then 1 <<< (nI (n + m) &&& 31) else 0) = _
    rw [if_neg (by rw [h (n + m) (by omega) (by omega)]; decide), Int32.or_zero]
    exact mS_k m (fun t h1 h2 => h t h1 (by omega))
theorem flw_c {p : Bool} {z : Nat} {i n : Int32} : flw p z i n = 0 ∨ flw p z i n = 1 ∨ flw p z i n = 2 := by
  unfold flw
  repeat' split
  all_goals decide
theorem flw_0 {p : Bool} {z : Nat} {i n : Int32} (h : flw p z i n = 0) : p = true ∧ hasP (nI z) i n = true := by
  unfold flw at h
  split at h
  · rename_i a
    split at h
    · rename_i b; exact ⟨a, b⟩
    · exact absurd h (by decide)
  · exact absurd h (by decide)
