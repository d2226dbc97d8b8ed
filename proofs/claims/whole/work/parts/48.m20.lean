theorem bitN : ∀ n, n ≤ 6 → ∀ b, b < 2 ^ n → ∀ t, t < 6 → n ≤ t → bitB (nI b) (nI t) = false := by decide +kernel
theorem Vk.b2 {v : Nat → Int32} {n t : Nat} (h : Vk v n) (ht : t < 6) : behB v (nI t) = bitB (v 3) (nI t) := by
  by_cases q : t < n
  · exact h.b q
  · obtain ⟨h6, h0, ⟨b, hb, e⟩, -⟩ := h
    rw [e, bitN n h6 b hb t ht (by omega)]
    cases z : behB v (nI t)
    · rfl
    · have := behB_has z
      simp only [hasL, Bool.and_eq_true, decide_eq_true_eq, h0] at this
      rw [nI_ltI (by omega) (by omega)] at this
      omega
theorem fr_stealth {E : gX} {S : Nat} {G0 G : gG} {Q : Option Value → gG → Prop} {ini : Bool} {k : Nat} {K : Nat → List (Option Value) → List Value → Nat → gG → Prop} (hK : Cl E "ClockPostModel" b_M_stealth (Option.some Jvm.ClassFile.FieldType.int) 8 k 0 S ini G0 Q K) {a0 a1 a2 a3 a4 : Option Value} {acc x : Int32} {t : Nat} {R : Bool} {a7 : Option Value} (hx : x = bI R) (kk : K 55 [a0, a1, a2, a3, a4, some (.int (acc ||| (if R = true then 1 <<< (nI t &&& 31) else 0))), some (.int (nI (t + 1))), some (.int x)] [] S G) (h4 : okc a4) : K 119 [a0, a1, a2, a3, a4, some (.int acc), some (.int (nI t)), a7] [.int x] S G := by
  refine st_i_7_8 hK d_M_stealth_119 trivial ?_
  refine r_iload hK d_M_stealth_121 rfl ?_
  refine r_iload hK d_M_stealth_123 rfl ?_
  refine r_if_eq (tgt := 135) hK d_M_stealth_125 rfl (fun h125 => ?_) (fun h125 => ?_)
  · skip
    have hR : R = false := by rw [hx] at h125; exact bI_0.mp h125
    rw [hR, if_neg (by decide)] at kk
    refine r_iconst hK d_M_stealth_135 kc_0 ?_
    refine r_ior hK d_M_stealth_136 ?_
    refine st_i_5_8 hK d_M_stealth_137 h4 ?_
    first | refine iN_6_8 hK d_M_stealth_139 trivial ?_ | refine ii_6_1_8 hK d_M_stealth_139 trivial ?_
    refine r_goto (tgt := 55) hK d_M_stealth_142 rfl ?_
    exact kk
  · skip
    have hR : R = true := by rw [hx] at h125; exact bI_n0.mp h125
    rw [hR, if_pos rfl] at kk
    refine r_iconst hK d_M_stealth_128 kc_1 ?_
    refine r_iload hK d_M_stealth_129 rfl ?_
    refine r_ishl hK d_M_stealth_131 ?_
    refine r_goto (tgt := 136) hK d_M_stealth_132 rfl ?_
    refine r_ior hK d_M_stealth_136 ?_
    refine st_i_5_8 hK d_M_stealth_137 h4 ?_
    first | refine iN_6_8 hK d_M_stealth_139 trivial ?_ | refine ii_6_1_8 hK d_M_stealth_139 trivial ?_
    refine r_goto (tgt := 55) hK d_M_stealth_142 rfl ?_
    exact kk
