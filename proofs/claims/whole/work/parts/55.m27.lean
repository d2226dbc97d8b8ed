def ozG (v : Nat → Int32) (s : Int32) : List Nat → Int32
  | [] => s
  | i :: r => ozG (passV (ansV v (nI i))).1 (s + wght (ansV v (nI i))) r
def lnL (X : Nat → Int32) (p : List Nat) : Prop := ∀ k (h : k < p.length), X k = nI p[k]
-- every row of the letters, in their order
def ozP : Nat → Int32 → List (List Nat)
  | 0, _ => [[]]
  | d + 1, s => if s = 0 then [[]] else
    (if bitB s (nI 0) = true then (ozP d (s &&& ((1 <<< (nI 0 &&& 31)) ^^^ (-1)))).map (0 :: ·) else []) ++
    ((if bitB s (nI 1) = true then (ozP d (s &&& ((1 <<< (nI 1 &&& 31)) ^^^ (-1)))).map (1 :: ·) else []) ++
    ((if bitB s (nI 2) = true then (ozP d (s &&& ((1 <<< (nI 2 &&& 31)) ^^^ (-1)))).map (2 :: ·) else []) ++
    ((if bitB s (nI 3) = true then (ozP d (s &&& ((1 <<< (nI 3 &&& 31)) ^^^ (-1)))).map (3 :: ·) else []) ++
    ((if bitB s (nI 4) = true then (ozP d (s &&& ((1 <<< (nI 4 &&& 31)) ^^^ (-1)))).map (4 :: ·) else []) ++
    ((if bitB s (nI 5) = true then (ozP d (s &&& ((1 <<< (nI 5 &&& 31)) ^^^ (-1)))).map (5 :: ·) else []) ++ [])))))
def ozB (s : Int32) : Nat → List Nat
  | 0 => []
  | j + 1 => if bitB s (nI j) = true then ozB s j ++ [j] else ozB s j
def ozF (p : List Nat) : Nat → Nat := fun k => p.getD k 0
def ozT (l : Nat → Nat) (n : Nat) : List Nat := (List.range n).map l
def ozC : List (List Nat) → Bool
  | [] => true
  | p :: r => (match r with
    | [] => !(ozN (ozF p) p.length).1
    | q :: _ => (ozN (ozF p) p.length).1 && decide (ozT (ozN (ozF p) p.length).2 p.length = q)) && ozC r
def ozO (m : Nat) (L : List (List Nat)) : Bool := L.all (fun p => decide (p.length = m) && p.all (fun i => decide (i < 6)))
theorem ozC_e : ∀ s, s < 64 → ozC (ozP 6 (nI s)) = true := by decide +kernel
theorem ozO_e : ∀ s, s < 64 → ozO (cn s) (ozP 6 (nI s)) = true := by decide +kernel
theorem ozH_e : ∀ s, s < 64 → (ozP 6 (nI s)).head? = some (ozB (nI s) 6) := by decide +kernel

theorem fr_gb {E : gX} {S : Nat} {G0 G : gG} {Q : Option Value → gG → Prop} {ini : Bool} {K : Nat → List (Option Value) → List Value → Nat → gG → Prop} (hK : Cl E "ClockPostModel" b_M_growsBy (Option.some Jvm.ClassFile.FieldType.int) 4 5 0 S ini G0 Q K) {c n j : Nat} {f W u : Nat → Int32} {A : Nat → Nat → Int32} {a1 : Option Value} {s : Int32} (hM : MV G c f (putT W 972 u) A) (hV : Vk u n) (kk : ∀ G' : gG, MV G' c f (putT W 972 (passV u).1) A → Frm G G' c 10 → K 8 [some (.ref c), a1, some (.int (s + wght u)), some (.int (nI (j + 1)))] [] S G') (h1 : okc a1) : K 46 [some (.ref c), a1, some (.int s), some (.int (nI j))] [] S G := by
  refine r_iload_n hK d_M_growsBy_46 rfl ?_
  refine r_aload_n hK d_M_growsBy_47 rfl ?_
  refine r_sipush hK d_M_growsBy_48 ks_972 ?_
  refine r_v1 (k' := 3) hK lm_M_157 d_M_growsBy_51 ⟨_, hM.1⟩ (by decide) (Nat.le_of_ble_eq_true rfl) ?_
  refine c_M_burdenAt (B := 972) hM (by omega) hV (kc_s ?_)
  refine r_iadd hK d_M_growsBy_54 ?_
  refine st_in_2_4 hK d_M_growsBy_55 h1 ?_
  refine r_aload_n hK d_M_growsBy_56 rfl ?_
  refine r_sipush hK d_M_growsBy_57 ks_972 ?_
  refine r_v1 (k' := 4) hK lm_M_167 d_M_growsBy_60 ⟨_, hM.1⟩ (by decide) (Nat.le_of_ble_eq_true rfl) ?_
  refine c_M_pass (B := 972) hM (by omega) hV (fun G60 hM f60 => kc_s ?_)
  refine r_pop hK d_M_growsBy_63 rfl ?_
  first | refine iN_3_4 hK d_M_growsBy_64 trivial ?_ | refine ii_3_1_4 hK d_M_growsBy_64 trivial ?_
  refine r_goto (tgt := 8) hK d_M_growsBy_67 rfl ?_
  exact kk _ hM f60
theorem c_M_growsBy {E : gX} {S : Nat} {G : gG} {Q : Option Value → gG → Prop} {c n : Nat} {f w0 nw u : Nat → Int32} {A : Nat → Nat → Int32} {p : List Nat} (hM : MV G c f (putT (putT w0 0 nw) 972 u) A) (hV : Vk nw n) (hl : lnL (A 8) p) (h6 : p.length ≤ 6) (hp : ∀ i, i ∈ p → i < 6) (hQ : ∀ (G' : gG) (u' : Nat → Int32), MV G' c f (putT (putT w0 0 nw) 972 u') A → Frm G G' c 10 → Q (some (.int (ozG nw 0 p))) G') : Runs E y_M_growsBy 5 0 S [.ref c, .int (nI p.length)] G Q := by
  refine Runs.of "ClockPostModel" [some (.ref c), some (.int (nI p.length)), none, none] cw_M_growsBy (by decide) (by decide +kernel) rfl (Nat.le_of_ble_eq_true rfl) rfl (fun K hK => ?_)
  refine r_iconst hK d_M_growsBy_0 kc_0 ?_
  refine st_in_2_4 hK d_M_growsBy_1 trivial ?_
  refine r_aload_n hK d_M_growsBy_2 rfl ?_
  refine r_v0 (k' := 2) hK lm_M_188 d_M_growsBy_3 ⟨_, hM.1⟩ (by decide) (Nat.le_of_ble_eq_true rfl) ?_
  refine l_trd hM (fun G3 hM f3 => kc_n ?_)
  refine r_iconst hK d_M_growsBy_6 kc_0 ?_
  refine st_in_3_4 hK d_M_growsBy_7 trivial ?_
  suffices L : ∀ j, j ≤ p.length → ∀ (G1 : gG) (u1 : Nat → Int32) (s : Int32), MV G1 c f (putT (putT w0 0 nw) 972 u1) A → Vk u1 n → ozG u1 s (p.drop j) = ozG nw 0 p → Frm G G1 c 10 → K 8 [some (.ref c), some (.int (nI p.length)), some (.int s), some (.int (nI j))] [] S G1 from L 0 (Nat.zero_le _) _ _ _ hM hV rfl f3
  clear hM
  refine lpN p.length (fun j hj ih G1 u1 s hM hU hE hF => ?_)
  refine r_iload_n hK d_M_growsBy_8 rfl ?_
  refine r_iload_n hK d_M_growsBy_9 rfl ?_
  refine r_icmp_ge (tgt := 70) hK d_M_growsBy_10 rfl (fun h10 => ?_) (fun h10 => ?_)
  · skip
    have hq : p.length ≤ j := (nI_leI (by omega) (by omega)).mp h10
    rw [List.drop_eq_nil_of_le hq, ozG] at hE
    rw [← hE] at hQ
    refine r_iload_n hK d_M_growsBy_70 rfl ?_
    refine r_iret hK rfl rfl d_M_growsBy_71 ?_
    exact hQ _ _ hM hF
  · skip
    have hq : j < p.length := Nat.not_le.mp (fun z => h10 ((nI_leI (by omega) (by omega)).mpr z))
    rw [List.drop_eq_getElem_cons hq, ozG] at hE
    have hi6 : p[j] < 6 := hp _ (List.getElem_mem hq)
    refine r_aload_n hK d_M_growsBy_13 rfl ?_
    refine r_get hK lf_M_7 d_M_growsBy_14 (hM.1) rfl ?_
    refine r_sipush hK d_M_growsBy_17 ks_975 ?_
    refine g_tw (B := 972) (j := 3) hK d_M_growsBy_20 hM ((show _ = nI (972 + 3) from rfl)) (by omega) (by omega) ?_
    refine r_aload_n hK d_M_growsBy_21 rfl ?_
    refine r_get hK lf_M_32 d_M_growsBy_22 (hM.1) rfl ?_
    refine r_iload_n hK d_M_growsBy_25 rfl ?_
    refine g_a8 (j := j) hK d_M_growsBy_26 hM (rfl) (by omega) ?_
    rw [hl j hq]
    refine r_s2 (k' := 1) hK lm_M_138 d_M_growsBy_27 (by decide) (Nat.le_of_ble_eq_true rfl) ?_
    refine c_M_has (kc_s ?_)
    refine r_if_eq (tgt := 46) hK d_M_growsBy_30 rfl (fun h30 => ?_) (fun h30 => ?_)
    · skip
      have ha : ansV u1 (nI p[j]) = u1 := by rw [ansV, hU.b2 hi6, bI_0.mp h30, if_neg (by decide)]
      rw [ha] at hE
      exact fr_gb hK hM hU (fun G4 hM f4 => ih hq _ _ _ hM hU.pass hE (hF.tr f4)) trivial
    · skip
      have hb : behB u1 (nI p[j]) = true := by rw [hU.b2 hi6]; exact bI_n0.mp h30
      have hin : p[j] < n := Nat.not_le.mp (fun z => by rw [hU.bo z hi6] at hb; cases hb)
      have ha : ansV u1 (nI p[j]) = awayV u1 (nI p[j]) (u1 (24 + p[j]) / 2) := by rw [ansV, if_pos hb, nN_nI (by omega)]
      refine r_aload_n hK d_M_growsBy_33 rfl ?_
      refine r_sipush hK d_M_growsBy_34 ks_972 ?_
      refine r_aload_n hK d_M_growsBy_37 rfl ?_
      refine r_get hK lf_M_32 d_M_growsBy_38 (hM.1) rfl ?_
      refine r_iload_n hK d_M_growsBy_41 rfl ?_
      refine g_a8 (j := j) hK d_M_growsBy_42 hM (rfl) (by omega) ?_
      rw [hl j hq]
      refine r_v2 (k' := 3) hK lm_M_178 d_M_growsBy_43 ⟨_, hM.1⟩ (by decide) (Nat.le_of_ble_eq_true rfl) ?_
      refine c_M_answers (B := 972) hM (by omega) hU hin (fun G43 hM f43 => kc_n ?_)
      have hF := hF.tr f43
      rw [← ha] at hM
      have hU := hU.ans (nI p[j])
      exact fr_gb hK hM hU (fun G4 hM f4 => ih hq _ _ _ hM hU.pass hE (hF.tr f4)) trivial
