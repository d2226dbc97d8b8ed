def ozK (l : Nat → Nat) : Nat → Option Nat
  | 0 => none
  | k + 1 => if l (k + 1) < l k then ozK l k else some k
def ozJ (l : Nat → Nat) (k : Nat) : Nat → Nat
  | 0 => 0
  | j + 1 => if l (j + 1) < l k then ozJ l k j else j + 1
def ozS (l : Nat → Nat) (a b : Nat) : Nat → Nat := fun k => if k = b then l a else if k = a then l b else l k
def ozR : Nat → (Nat → Nat) → Nat → Nat → (Nat → Nat)
  | 0, l, _, _ => l
  | m + 1, l, a, b => if a < b then ozR m (ozS l a b) (a + 1) (b - 1) else l
def ozN (l : Nat → Nat) (n : Nat) : Bool × (Nat → Nat) := match ozK l (n - 1) with
  | none => (false, l)
  | some k => (true, ozR 6 (ozS l k (ozJ l k (n - 1))) (k + 1) (n - 1))
def lnA (X : Nat → Int32) (l : Nat → Nat) (n : Nat) : Prop := ∀ k, k < n → X k = nI (l k)
theorem lnA.sw {X : Nat → Int32} {l : Nat → Nat} {n a b : Nat} (h : lnA X l n) (ha : a < n) (hb : b < n) : lnA (upd (upd X a (X b)) b (X a)) (ozS l a b) n := fun k hk => by
  unfold ozS
  by_cases z : k = b
  · subst z; rw [upd_s, if_pos rfl]; exact h a ha
  · rw [upd_n z, if_neg z]
    by_cases y : k = a
    · subst y; rw [upd_s, if_pos rfl]; exact h b hb
    · rw [upd_n y, if_neg y]; exact h k hk
theorem nl_x0 {n : Nat} (h : n ≤ 6) (hn : n - 1 = 0) : nI n - 2 < 0 := by
  rcases (show n = 0 ∨ n = 1 by omega) with rfl | rfl <;> decide
theorem c_M_swapLine {E : gX} {S : Nat} {G : gG} {Q : Option Value → gG → Prop} {c : Nat} {f w : Nat → Int32} {A : Nat → Nat → Int32} (hM : MV G c f w A) {a b : Nat} (ha : a < 6) (hb : b < 6) (hQ : ∀ G' : gG, MV G' c f w (va_up A 8 (upd (upd (A 8) a (A 8 b)) b (A 8 a))) → Frm G G' c 10 → Q none G') : Runs E y_M_swapLine 1 0 S [.ref c, .int (nI a), .int (nI b)] G Q := by
  refine Runs.of "ClockPostModel" [some (.ref c), some (.int (nI a)), some (.int (nI b)), none] cw_M_swapLine (by decide) (by decide +kernel) rfl (Nat.le_of_ble_eq_true rfl) rfl (fun K hK => ?_)
  refine r_aload_n hK d_M_swapLine_0 rfl ?_
  refine r_get hK lf_M_32 d_M_swapLine_1 (hM.1) rfl ?_
  refine r_iload_n hK d_M_swapLine_4 rfl ?_
  refine g_a8 (j := a) hK d_M_swapLine_5 hM (rfl) (by omega) ?_
  refine st_in_3_4 hK d_M_swapLine_6 trivial ?_
  refine r_aload_n hK d_M_swapLine_7 rfl ?_
  refine r_get hK lf_M_32 d_M_swapLine_8 (hM.1) rfl ?_
  refine r_iload_n hK d_M_swapLine_11 rfl ?_
  refine r_aload_n hK d_M_swapLine_12 rfl ?_
  refine r_get hK lf_M_32 d_M_swapLine_13 (hM.1) rfl ?_
  refine r_iload_n hK d_M_swapLine_16 rfl ?_
  refine g_a8 (j := b) hK d_M_swapLine_17 hM (rfl) (by omega) ?_
  refine s_a8 (j := a) hK d_M_swapLine_18 hM (rfl) (by omega) (fun G18 hM f18 => ?_)
  have hF := f18
  rw [show upd (A 8) a (A 8 b) = upd (A 8) a (A 8 b) from rfl] at hM
  refine r_aload_n hK d_M_swapLine_19 rfl ?_
  refine r_get hK lf_M_32 d_M_swapLine_20 (hM.1) rfl ?_
  refine r_iload_n hK d_M_swapLine_23 rfl ?_
  refine r_iload_n hK d_M_swapLine_24 rfl ?_
  refine s_a8 (j := b) hK d_M_swapLine_25 hM (rfl) (by omega) (fun G25 hM f25 => ?_)
  have hF := hF.tr f25
  rw [va_up_s, va_up_2] at hM
  refine r_vret hK rfl rfl d_M_swapLine_26 ?_
  exact hQ _ hM hF
theorem fr_nl2 {E : gX} {S : Nat} {G0 G : gG} {Q : Option Value → gG → Prop} {ini : Bool} {K : Nat → List (Option Value) → List Value → Nat → gG → Prop} (hK : Cl E "ClockPostModel" b_M_nextLine (Option.some Jvm.ClassFile.FieldType.boolean) 6 2 0 S ini G0 Q K) {c n : Nat} {f w : Nat → Int32} {A : Nat → Nat → Int32} {l : Nat → Nat} (hM : MV G c f w A) (hl : lnA (A 8) l n) (h6 : n ≤ 6) (hb : ∀ k, k < n → l k < 8) (hQ : ∀ (G' : gG) (B : Nat → Int32), MV G' c f w (va_up A 8 B) → Frm G G' c 10 → lnA B (ozN l n).2 n → Q (some (.int (bI (ozN l n).1))) G') {k : Nat} (hk : k + 1 < n) (hK2 : ozK l (n - 1) = some k) (hle : l k ≤ l (k + 1)) : K 31 [some (.ref c), some (.int (nI n)), some (.int (nI k)), none, none, none] [] S G := by
  refine r_iload_n hK d_M_nextLine_31 rfl ?_
  refine r_if_ge (tgt := 37) hK d_M_nextLine_32 rfl (fun h32 => ?_) (fun h32 => ?_)
  · skip
    refine r_iload_n hK d_M_nextLine_37 rfl ?_
    refine r_iconst hK d_M_nextLine_38 kc_1 ?_
    refine r_isub hK d_M_nextLine_39 ?_
    rw [show nI n - 1 = nI (n - 1) by rw [show (1 : Int32) = nI 1 from rfl, pk_sub (by omega)]]
    refine st_in_3_6 hK d_M_nextLine_40 trivial ?_
    suffices L : ∀ j, k < j → j < n → ozJ l k j = ozJ l k (n - 1) → K 41 [some (.ref c), some (.int (nI n)), some (.int (nI k)), some (.int (nI j)), none, none] [] S G from L (n - 1) (by omega) (by omega) rfl
    refine indN (fun j ih hj1 hj2 hE => ?_)
    refine r_aload_n hK d_M_nextLine_41 rfl ?_
    refine r_get hK lf_M_32 d_M_nextLine_42 (hM.1) rfl ?_
    refine r_iload_n hK d_M_nextLine_45 rfl ?_
    refine g_a8 (j := j) hK d_M_nextLine_46 hM (rfl) (by omega) ?_
    rw [hl j (by omega)]
    refine r_aload_n hK d_M_nextLine_47 rfl ?_
    refine r_get hK lf_M_32 d_M_nextLine_48 (hM.1) rfl ?_
    refine r_iload_n hK d_M_nextLine_51 rfl ?_
    refine g_a8 (j := k) hK d_M_nextLine_52 hM (rfl) (by omega) ?_
    rw [hl k (by omega)]
    refine r_icmp_ge (tgt := 62) hK d_M_nextLine_53 rfl (fun h53 => ?_) (fun h53 => ?_)
    · skip
      have hjs : ozJ l k (n - 1) = j := by
        rw [← hE]
        obtain ⟨i, rfl⟩ : ∃ i, j = i + 1 := ⟨j - 1, by omega⟩
        rw [ozJ, if_neg (Nat.not_lt.mpr ((nI_leI (by have := hb k (by omega); omega) (by have := hb (i + 1) (by omega); omega)).mp h53))]
      refine r_aload_n hK d_M_nextLine_62 rfl ?_
      refine r_iload_n hK d_M_nextLine_63 rfl ?_
      refine r_iload_n hK d_M_nextLine_64 rfl ?_
      refine r_v2 (k' := 1) hK lm_M_197 d_M_nextLine_65 ⟨_, hM.1⟩ (by decide) (Nat.le_of_ble_eq_true rfl) ?_
      refine c_M_swapLine hM (a := k) (b := j) (by omega) (by omega) (fun G65 hM f65 => kc_n ?_)
      have hl := hl.sw (show k < n by omega) (show j < n by omega)
      refine r_iload_n hK d_M_nextLine_68 rfl ?_
      refine r_iconst hK d_M_nextLine_69 kc_1 ?_
      refine r_iadd hK d_M_nextLine_70 ?_
      rw [show nI k + 1 = nI (k + 1) from nI_1 k]
      refine st_i_4_6 hK d_M_nextLine_71 trivial ?_
      refine r_iload_n hK d_M_nextLine_73 rfl ?_
      refine r_iconst hK d_M_nextLine_74 kc_1 ?_
      refine r_isub hK d_M_nextLine_75 ?_
      rw [show nI n - 1 = nI (n - 1) by rw [show (1 : Int32) = nI 1 from rfl, pk_sub (by omega)]]
      refine st_i_5_6 hK d_M_nextLine_76 trivial ?_
      suffices L : ∀ m (G1 : gG) (B : Nat → Int32) (l1 : Nat → Nat) (a b : Nat), MV G1 c f w (va_up A 8 B) → lnA B l1 n → b ≤ a + 2 * m → b < n → 1 ≤ a → a ≤ n → ozR m l1 a b = (ozN l n).2 → Frm G G1 c 10 → K 78 [some (.ref c), some (.int (nI n)), some (.int (nI k)), some (.int (nI j)), some (.int (nI a)), some (.int (nI b))] [] S G1 from L 6 _ _ _ (k + 1) (n - 1) hM hl (by omega) (by omega) (by omega) (by omega) (by unfold ozN; rw [hK2]; show _ = ozR 6 (ozS l k (ozJ l k (n - 1))) (k + 1) (n - 1); rw [hjs]) f65
      clear hM hl
      refine indN (fun m ih G1 B l1 a b hM hl hm hbn ha1 han hE hF => ?_)
      refine r_iload hK d_M_nextLine_78 rfl ?_
      refine r_iload hK d_M_nextLine_80 rfl ?_
      refine r_icmp_ge (tgt := 102) hK d_M_nextLine_82 rfl (fun h82 => ?_) (fun h82 => ?_)
      · skip
        have hba : ¬ a < b := Nat.not_lt.mpr ((nI_leI (by omega) (by omega)).mp h82)
        have hE : l1 = (ozN l n).2 := by
          rw [← hE]
          rcases m with _ | m
          · rfl
          · exact (if_neg hba).symm
        refine r_iconst hK d_M_nextLine_102 kc_1 ?_
        refine r_zret hK rfl (rfl) rfl d_M_nextLine_103 ?_
        rw [hE] at hl
        have hQ := hQ _ _ hM hF hl
        rw [show (ozN l n).1 = true by unfold ozN; rw [hK2]] at hQ
        exact hQ
      · skip
        have hba : a < b := Nat.not_le.mp (fun z => h82 ((nI_leI (by omega) (by omega)).mpr z))
        obtain ⟨m2, rfl⟩ : ∃ m2, m = m2 + 1 := ⟨m - 1, by omega⟩
        rw [ozR, if_pos hba] at hE
        refine r_aload_n hK d_M_nextLine_85 rfl ?_
        refine r_iload hK d_M_nextLine_86 rfl ?_
        refine r_iload hK d_M_nextLine_88 rfl ?_
        refine r_v2 (k' := 1) hK lm_M_197 d_M_nextLine_90 ⟨_, hM.1⟩ (by decide) (Nat.le_of_ble_eq_true rfl) ?_
        refine c_M_swapLine hM (a := a) (b := b) (by omega) (by omega) (fun G90 hM f90 => kc_n ?_)
        have hF := hF.tr f90
        rw [va_up_s, va_up_2] at hM
        have hl := hl.sw (show a < n by omega) (show b < n by omega)
        first | refine iN_4_6 hK d_M_nextLine_93 trivial ?_ | refine ii_4_1_6 hK d_M_nextLine_93 trivial ?_
        obtain ⟨b2, rfl⟩ : ∃ b2, b = b2 + 1 := ⟨b - 1, by omega⟩
        refine ii_5_m1_6 hK d_M_nextLine_96 trivial ?_
        rw [nI_pd]
        refine r_goto (tgt := 78) hK d_M_nextLine_99 rfl ?_
        exact ih m2 rfl _ _ _ _ _ hM hl (by omega) (by omega) (by omega) (by omega) hE hF
    · skip
      have hlt : l j < l k := Nat.not_le.mp (fun z => h53 ((nI_leI (by have := hb k (by omega); omega) (by have := hb j (by omega); omega)).mpr z))
      have hj2 : k + 1 ≠ j := fun z => by rw [← z] at hlt; omega
      obtain ⟨i, rfl⟩ : ∃ i, j = i + 1 := ⟨j - 1, by omega⟩
      rw [ozJ, if_pos hlt] at hE
      refine ii_3_m1_6 hK d_M_nextLine_56 trivial ?_
      rw [nI_pd]
      refine r_goto (tgt := 41) hK d_M_nextLine_59 rfl ?_
      exact ih i rfl (by omega) (by omega) hE
  · skip
    exact absurd (nI_nn (show k < 2 ^ 31 by omega)) h32
theorem fr_nl1 {E : gX} {S : Nat} {G0 G : gG} {Q : Option Value → gG → Prop} {ini : Bool} {K : Nat → List (Option Value) → List Value → Nat → gG → Prop} (hK : Cl E "ClockPostModel" b_M_nextLine (Option.some Jvm.ClassFile.FieldType.boolean) 6 2 0 S ini G0 Q K) {a0 a1 a3 a4 a5 : Option Value} {x : Int32} (hx : x < 0) (hQ : Q (some (.int 0)) G) : K 31 [a0, a1, some (.int x), a3, a4, a5] [] S G := by
  refine r_iload_n hK d_M_nextLine_31 rfl ?_
  refine r_if_ge (tgt := 37) hK d_M_nextLine_32 rfl (fun h32 => ?_) (fun h32 => ?_)
  · skip
    exact absurd hx (Int32.not_lt.mpr h32)
  · skip
    refine r_iconst hK d_M_nextLine_35 kc_0 ?_
    refine r_zret hK rfl (rfl) rfl d_M_nextLine_36 ?_
    exact hQ
theorem c_M_nextLine {E : gX} {S : Nat} {G : gG} {Q : Option Value → gG → Prop} {c n : Nat} {f w : Nat → Int32} {A : Nat → Nat → Int32} {l : Nat → Nat} (hM : MV G c f w A) (hl : lnA (A 8) l n) (h6 : n ≤ 6) (hb : ∀ k, k < n → l k < 8) (hQ : ∀ (G' : gG) (B : Nat → Int32), MV G' c f w (va_up A 8 B) → Frm G G' c 10 → lnA B (ozN l n).2 n → Q (some (.int (bI (ozN l n).1))) G') : Runs E y_M_nextLine 2 0 S [.ref c, .int (nI n)] G Q := by
  refine Runs.of "ClockPostModel" [some (.ref c), some (.int (nI n)), none, none, none, none] cw_M_nextLine (by decide) (by decide +kernel) rfl (Nat.le_of_ble_eq_true rfl) rfl (fun K hK => ?_)
  refine r_iload_n hK d_M_nextLine_0 rfl ?_
  refine r_iconst hK d_M_nextLine_1 kc_2 ?_
  refine r_isub hK d_M_nextLine_2 ?_
  refine st_in_2_6 hK d_M_nextLine_3 trivial ?_
  suffices L : ∀ (kk : Nat) (x : Int32), kk < 6 → kk ≤ n - 1 → (kk = 0 → x < 0) → (∀ k, kk = k + 1 → x = nI k) → ozK l kk = ozK l (n - 1) → K 4 [some (.ref c), some (.int (nI n)), some (.int x), none, none, none] [] S G from L (n - 1) _ (by omega) (Nat.le_refl _) (fun z => nl_x0 h6 z) (fun k z => by
      rw [show n = k + 2 by omega, show (2 : Int32) = nI 2 from rfl, pk_sub (by omega)]
      rfl) rfl
  refine indN (fun kk ih x hk6 hkn hx0 hx1 hE => ?_)
  refine r_iload_n hK d_M_nextLine_4 rfl ?_
  refine r_if_lt (tgt := 31) hK d_M_nextLine_5 rfl (fun h5 => ?_) (fun h5 => ?_)
  · skip
    have hk0 : kk = 0 := by
      rcases kk with _ | k
      · rfl
      · rw [hx1 k rfl] at h5
        exact absurd h5 (Int32.not_lt.mpr (nI_nn (by omega)))
    subst hk0
    have hN : ozN l n = (false, l) := by unfold ozN; rw [← hE]; rfl
    first | exact fr_nl2 hK hM hl h6 hb hQ (by omega) hE.symm hle | (refine fr_nl1 hK h5 ?_; have hQ := hQ G (A 8) (by rw [va_up_id]; exact hM) Frm.rf (by rw [hN]; exact hl); rw [hN] at hQ; exact hQ)
  · skip
    obtain ⟨k, rfl⟩ : ∃ k, kk = k + 1 := by
      rcases kk with _ | k
      · exact absurd (hx0 rfl) h5
      · exact ⟨k, rfl⟩
    have hxk := hx1 k rfl
    subst hxk
    refine r_aload_n hK d_M_nextLine_8 rfl ?_
    refine r_get hK lf_M_32 d_M_nextLine_9 (hM.1) rfl ?_
    refine r_iload_n hK d_M_nextLine_12 rfl ?_
    refine g_a8 (j := k) hK d_M_nextLine_13 hM (rfl) (by omega) ?_
    rw [hl k (by omega)]
    refine r_aload_n hK d_M_nextLine_14 rfl ?_
    refine r_get hK lf_M_32 d_M_nextLine_15 (hM.1) rfl ?_
    refine r_iload_n hK d_M_nextLine_18 rfl ?_
    refine r_iconst hK d_M_nextLine_19 kc_1 ?_
    refine r_iadd hK d_M_nextLine_20 ?_
    refine g_a8 (j := k + 1) hK d_M_nextLine_21 hM (nI_1 k) (by omega) ?_
    rw [hl (k + 1) (by omega)]
    refine r_icmp_le (tgt := 31) hK d_M_nextLine_22 rfl (fun h22 => ?_) (fun h22 => ?_)
    · skip
      have hle : l k ≤ l (k + 1) := (nI_leI (by have := hb k (by omega); omega) (by have := hb (k + 1) (by omega); omega)).mp h22
      rw [ozK, if_neg (Nat.not_lt.mpr hle)] at hE
      first | exact fr_nl2 hK hM hl h6 hb hQ (by omega) hE.symm hle | (refine fr_nl1 hK h5 ?_; have hQ := hQ G (A 8) (by rw [va_up_id]; exact hM) Frm.rf (by rw [hN]; exact hl); rw [hN] at hQ; exact hQ)
    · skip
      have hlt : l (k + 1) < l k := Nat.not_le.mp (fun z => h22 ((nI_leI (by have := hb k (by omega); omega) (by have := hb (k + 1) (by omega); omega)).mpr z))
      rw [ozK, if_pos hlt] at hE
      refine ii_2_m1_6 hK d_M_nextLine_25 trivial ?_
      refine r_goto (tgt := 4) hK d_M_nextLine_28 rfl ?_
      exact ih k rfl _ (by omega) (by omega) (fun z => by rw [z]; decide) (fun k2 z => by rw [z, nI_pd]) hE
