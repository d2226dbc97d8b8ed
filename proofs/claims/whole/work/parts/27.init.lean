def RunsI (E : gX) (y : MethodName) (k mc sz : Nat) (args : List Value) (G : gG) (Q : Option Value → gG → Prop) : Prop :=
  ∃ (bytes : ByteArray) (maxL : Nat), Cond.code y bytes maxL none ∈ tbl ∧ maxL ≤ 40 ∧ Met E.1 y (Cond.code y bytes maxL none :: tbl) (gRm k mc) (va_Pc args (gB E sz G)) (gQ E mc sz G Q) mc (1100 * mc) (gA G sz)
theorem RunsI.of {E : gX} {y : MethodName} {k mc sz : Nat} {args : List Value} {G : gG} {Q : Option Value → gG → Prop} {bytes : ByteArray} {maxL : Nat} (own : String) (Ls : List (Option Value)) (hc : Cond.code y bytes maxL none ∈ tbl) (hm : maxL ≤ 40) (hy : plainName y.cls = true) (ho : y.cls = own) (hL : (gL0 args).length ≤ maxL) (hLs : gL args maxL = Ls)
    (h : ∀ K, Cl E own bytes none maxL k mc sz (y.name == "<init>") G Q K → K 0 Ls [] sz G) : RunsI E y k mc sz args G Q := by
  refine ⟨bytes, maxL, hc, hm, ?_⟩
  refine Met.ofW (cc := bytes) (maxL := maxL) (ret := none) hy rfl ?_
  intro p e s m as below meth c s₁ B hml hv
  obtain ⟨rfl, hP, hK, hZ, hN⟩ := hv
  have hts0 := atoms_spec (ws := Cond.code y bytes maxL none :: tbl) B.pre
  have hown : s.vm.findClass own = some m.cls := by rw [← ho]; exact findClass_of_methodNamed B.named
  have hsz : s.heap.size = sz := hP.1
  subst hsz
  have hin : (y.name == "<init>") = true → meth.name = "<init>" := fun hn => by
    rw [(name_of_methodNamed B.named B.method).1]
    exact eq_of_beq hn
  have key := h _ ⟨p, e, s, m, args.toArray, below, meth, c, ⟨B.exec, B.bytes, B.returns, hml, hown, fun w hw => hts0 w (List.mem_cons_of_mem _ hw), B.notSynchronized, hin, hK, hZ, rfl, hN⟩, rfl⟩
  have hlen : (lg_sl args).length ≤ maxL := by rw [← gL0_len]; exact hL
  have hl := lv_entry args (n := maxL) hlen
  rw [lg_entry_eq]
  generalize (lg_sl args ++ List.replicate (maxL - (lg_sl args).length) Slot.unset).toArray = ls at hl ⊢
  have hLlen : Ls.length = maxL := by rw [← hLs]; simp [gL]; omega
  have h5 : lvL ls Ls := ⟨hl.1.trans hLlen.symm, hl.2.1, fun i v hi => by
    rw [← hLs] at hi
    have hi2 : (gL0 args)[i]? = some (some v) := by
      unfold gL at hi
      by_cases q : i < (gL0 args).length
      · rwa [List.getElem?_append_left q] at hi
      · rw [List.getElem?_append_right (by omega), List.getElem?_replicate] at hi
        split at hi <;> simp at hi
    have := gL0_at args 0 i v hi2
    rw [Nat.zero_add] at this
    exact hl.2.2 (i, v) this⟩
  have := key s.heap [] ls hP (Nat.le_refl _) (fun q hq => hq) va_S.rf h5 hl.1
  rw [Nat.sub_self] at this
  exact this
theorem arrV_cg {c : ClassId} {n : Nat} {f g : Nat → Value} (h : ∀ i, i < n → f i = g i) : arrV c n f = arrV c n g := by
  unfold arrV
  have : (fun j : Fin n => f j.val) = fun j : Fin n => g j.val := funext fun j => h j.val j.isLt
  rw [this]
section GI
variable {E : gX} {own : String} {cc : ByteArray} {ret : Option FieldType} {nL k mc sz0 : Nat} {ini : Bool} {G0 : gG} {Q : Option Value → gG → Prop} {K : Nat → List (Option Value) → List Value → Nat → gG → Prop}
variable {pc sz : Nat} {Ls : List (Option Value)} {st : List Value} {G : gG}
theorem r_same (hK : Cl E own cc ret nL k mc sz0 ini G0 Q K) {a t n : Nat} {f g : Nat → Option Nat} (hG : G a = some (.inl (t, n, .inr (.inr (.inr (.inr f)))))) (h : ∀ i, i < n → f i = g i) (kk : K pc Ls st sz (gup G a (.inl (t, n, .inr (.inr (.inr (.inr g))))))) : K pc Ls st sz G := by
  obtain ⟨p, e, s, m, args, below, meth, c, C, rfl⟩ := hK
  intro H locs ls h1 h2 h3 h4 h5 h6
  refine kk H locs ls (gP_up h1 rfl (fun _ _ => rfl) ?_) h2 (fun q hq => h3 q (gA_up hG q hq)) h4 h5 h6
  have := h1.2 a _ hG
  show H[a]? = some (vp_cell (E.2.2.1 t) (n, .inr (.inr (.inr (.inr g)))))
  rw [vp_cell_q, ← arrV_cg (f := fun j => va_rf (f j)) (fun i hi => by rw [h i hi]), ← vp_cell_q]
  exact this
theorem r_in (hK : Cl E own cc ret nL k mc sz0 ini G0 Q K) {idx b k' mc' : Nat} {y : MethodName} (hl : LkI own idx y 0) (hd : decode cc pc = .ok (.invokespecial idx, 3)) (hk : k' + 1 ≤ k) (hm : sz + mc' ≤ sz0 + mc) (hrest : (st.map fun v => v.category).sum ≤ 8) (hrun : RunsI E y k' mc' sz [.ref b] G (kc K (pc + 3) Ls st (sz + mc'))) : K pc Ls (.ref b :: st) sz G := by
  rw [kc_eq] at hrun
  obtain ⟨bytes, maxL, hc, hmL, hM⟩ := hrun
  exact r_isp (As := []) hK hl rfl hk hm hrest hd hc hmL hM
end GI
theorem nf_L : ∀ j, j < 5 → defaultValue (fY_L j) = vp_V [.int 0, .int 0, .int 0, .int 0, .int 0] j := by
  intro j hj
  rcases (by omega : j = 0 ∨ j = 1 ∨ j = 2 ∨ j = 3 ∨ j = 4) with rfl | rfl | rfl | rfl | rfl <;> rfl
theorem nf_R : ∀ j, j < 4 → defaultValue (fY_R j) = vp_V [.null, .int 0, .int 0, .int 0] j := by
  intro j hj
  rcases (by omega : j = 0 ∨ j = 1 ∨ j = 2 ∨ j = 3) with rfl | rfl | rfl | rfl <;> rfl
theorem nf_T : ∀ j, j < 2 → defaultValue (fY_T j) = vp_V [.null, .int 0] j := by
  intro j hj
  rcases (by omega : j = 0 ∨ j = 1) with rfl | rfl <;> rfl
theorem nf_H : ∀ j, j < 8 → defaultValue (fY_H j) = vp_V [.null, .int 0, .int 0, .int 0, .int 0, .int 0, .int 0, .int 0] j := by
  intro j hj
  rcases (by omega : j = 0 ∨ j = 1 ∨ j = 2 ∨ j = 3 ∨ j = 4 ∨ j = 5 ∨ j = 6 ∨ j = 7) with rfl | rfl | rfl | rfl | rfl | rfl | rfl | rfl <;> rfl
theorem nf_A : ∀ j, j < 3 → defaultValue (fY_A j) = vp_V [.null, .int 0, .int 0] j := by
  intro j hj
  rcases (by omega : j = 0 ∨ j = 1 ∨ j = 2) with rfl | rfl | rfl <;> rfl
theorem nf_O : ∀ j, j < 4 → defaultValue (fY_O j) = vp_V [.null, .null, .null, .int 0] j := by
  intro j hj
  rcases (by omega : j = 0 ∨ j = 1 ∨ j = 2 ∨ j = 3) with rfl | rfl | rfl | rfl <;> rfl
theorem nf_P : ∀ j, j < 5 → defaultValue (fY_P j) = vp_V [.null, .int 0, .int 0, .int 0, .int 0] j := by
  intro j hj
  rcases (by omega : j = 0 ∨ j = 1 ∨ j = 2 ∨ j = 3 ∨ j = 4) with rfl | rfl | rfl | rfl | rfl <;> rfl
theorem nf_X : ∀ j, j < 9 → defaultValue (fY_X j) = vp_V [.null, .null, .null, .null, .null, .null, .null, .null, .int 0] j := by
  intro j hj
  rcases (by omega : j = 0 ∨ j = 1 ∨ j = 2 ∨ j = 3 ∨ j = 4 ∨ j = 5 ∨ j = 6 ∨ j = 7 ∨ j = 8) with rfl | rfl | rfl | rfl | rfl | rfl | rfl | rfl | rfl <;> rfl
theorem nf_M : ∀ j, j < 18 → defaultValue (fY_M j) = vp_V [.null, .int 0, .int 0, .null, .null, .null, .null, .null, .int 0, .int 0, .int 0, .null, .int 0, .int 0, .int 0, .int 0, .null, .null] j := by
  intro j hj
  rcases (by omega : j = 0 ∨ j = 1 ∨ j = 2 ∨ j = 3 ∨ j = 4 ∨ j = 5 ∨ j = 6 ∨ j = 7 ∨ j = 8 ∨ j = 9 ∨ j = 10 ∨ j = 11 ∨ j = 12 ∨ j = 13 ∨ j = 14 ∨ j = 15 ∨ j = 16 ∨ j = 17) with rfl | rfl | rfl | rfl | rfl | rfl | rfl | rfl | rfl | rfl | rfl | rfl | rfl | rfl | rfl | rfl | rfl | rfl <;> rfl
theorem up_lt {j : Nat} (f : Nat → Nat) : va_up (fun i => if i < j then some (f i) else none) j (some (f j)) = (fun i => if i < j + 1 then some (f i) else none) := by
  funext i
  by_cases e : i = j
  · subst e; simp [va_up]
  · simp only [va_up, if_neg e]
    by_cases q : i < j
    · rw [if_pos q, if_pos (by omega)]
    · rw [if_neg q, if_neg (by omega)]
def v0 : Nat → Int32 := fun k => if k < 6 then 0 else if k < 12 then 1 else 0
theorem letL_0 {i : Nat} (hi : i < 6) : some (.inr (0, [.int 1, .int 0, .int 0, .int 0, .int 0])) = (some (.inr (0, letL v0 i)) : Option gE) := by
  rcases (by omega : i = 0 ∨ i = 1 ∨ i = 2 ∨ i = 3 ∨ i = 4 ∨ i = 5) with rfl | rfl | rfl | rfl | rfl | rfl <;> rfl
theorem ev0 : eqv v0 zV := by
  refine ⟨fun k hk => by simp [v0, zV, hk], fun k _ _ h => ?_⟩
  have : nN (zV 0) = 0 := rfl
  omega
def st0 : gS := (false, zV, fun _ => zV, 0, fun _ => false, fun _ => zV, fun _ => false, fun _ => 0, fun _ => 0, fun _ => zV, fun _ => 0, 0, 0, 0, fun _ => 0, 0)
theorem c_L_init {E : gX} {S : Nat} {G : gG} {Q : Option Value → gG → Prop} {a : Nat} (hL : LX G a [.int 0, .int 0, .int 0, .int 0, .int 0]) (hQ : ∀ G' : gG, LX G' a [.int 1, .int 0, .int 0, .int 0, .int 0] → Frm G G' a 1 → Q none G') : RunsI E y_L_init 2 0 S [.ref a] G Q := by
  refine RunsI.of "ClockPost$Letter" [some (.ref a)] cw_L_init (by decide) (by decide +kernel) rfl (Nat.le_of_ble_eq_true rfl) rfl (fun K hK => ?_)
  refine r_aload_n hK d_L_init_0 rfl ?_
  refine r_obj hK wo_L_3 (by decide) (Nat.le_of_ble_eq_true rfl) d_L_init_1 ?_
  refine r_aload_n hK d_L_init_4 rfl ?_
  refine r_iconst hK d_L_init_5 kc_1 ?_
  refine p_L_kind hK lf_L_9 d_L_init_6 hL (fun G6 hL f6 => ?_)
  refine r_vret hK rfl rfl d_L_init_9 ?_
  exact hQ _ hL f6
theorem c_R_init {E : gX} {G : gG} {Q : Option Value → gG → Prop} {b : Nat} (hB : G b = some (.inr (1, [.null, .int 0, .int 0, .int 0]))) (hQ : ∀ G' : gG, RX G' b 1 0 0 (fun _ => 0) → Frm G G' b 2 → Q none G') : RunsI E y_R_init 2 1 (b + 1) [.ref b] G Q := by
  refine RunsI.of "ClockPost$Row" [some (.ref b)] cw_R_init (by decide) (by decide +kernel) rfl (Nat.le_of_ble_eq_true rfl) rfl (fun K hK => ?_)
  refine r_aload_n hK d_R_init_0 rfl ?_
  refine r_obj hK wo_R_3 (by decide) (Nat.le_of_ble_eq_true rfl) d_R_init_1 ?_
  refine r_aload_n hK d_R_init_4 rfl ?_
  refine r_bipush hK d_R_init_5 kb_40 ?_
  refine r_newi (N := 40) hK (by decide) (by decide) (by decide) (by omega) d_R_init_7 ?_
  refine r_putF hK lf_R_9 rfl ⟨_, rfl, rfl⟩ d_R_init_9 ((gup_n (by omega)).trans hB) rfl rfl (Nat.le_of_ble_eq_true rfl) ?_
  show K _ _ _ _ (gup (gup G (b + 1) (.inl (0, 40, .inl (fun _ => 0)))) b (.inr (1, [.ref (b + 1), .int 0, .int 0, .int 0])))
  have hF : Frm G (gup (gup G (b + 1) (.inl (0, 40, .inl (fun _ => 0)))) b (.inr (1, [.ref (b + 1), .int 0, .int 0, .int 0]))) b 2 := (Frm.up (by omega) (by omega)).tr (Frm.up (by omega) (by omega))
  have hV : RX (gup (gup G (b + 1) (.inl (0, 40, .inl (fun _ => 0)))) b (.inr (1, [.ref (b + 1), .int 0, .int 0, .int 0]))) b 0 0 0 (fun _ => 0) := ⟨gup_s, (gup_n (by omega)).trans gup_s⟩
  generalize gup (gup G (b + 1) (.inl (0, 40, .inl (fun _ => 0)))) b (.inr (1, [.ref (b + 1), .int 0, .int 0, .int 0])) = G9 at hF hV ⊢
  refine r_aload_n hK d_R_init_12 rfl ?_
  refine r_iconst hK d_R_init_13 kc_1 ?_
  refine p_R_missing hK lf_R_15 d_R_init_14 hV rfl rfl (fun G14 hV f14 => ?_)
  have hF := hF.tr f14
  exact r_vret hK rfl rfl d_R_init_17 (hQ _ hV hF)
theorem c_T_init {E : gX} {G : gG} {Q : Option Value → gG → Prop} {b : Nat} (hB : G b = some (.inr (2, [.null, .int 0]))) (hQ : ∀ G' : gG, TX G' b (fun _ => 0) 0 → Frm G G' b 2 → Q none G') : RunsI E y_T_init 2 1 (b + 1) [.ref b] G Q := by
  refine RunsI.of "ClockPost$Trace" [some (.ref b)] cw_T_init (by decide) (by decide +kernel) rfl (Nat.le_of_ble_eq_true rfl) rfl (fun K hK => ?_)
  refine r_aload_n hK d_T_init_0 rfl ?_
  refine r_obj hK wo_T_3 (by decide) (Nat.le_of_ble_eq_true rfl) d_T_init_1 ?_
  refine r_aload_n hK d_T_init_4 rfl ?_
  refine r_bipush hK d_T_init_5 kb_16 ?_
  refine r_newi (N := 16) hK (by decide) (by decide) (by decide) (by omega) d_T_init_7 ?_
  refine r_putF hK lf_T_9 rfl ⟨_, rfl, rfl⟩ d_T_init_9 ((gup_n (by omega)).trans hB) rfl rfl (Nat.le_of_ble_eq_true rfl) ?_
  show K _ _ _ _ (gup (gup G (b + 1) (.inl (0, 16, .inl (fun _ => 0)))) b (.inr (2, [.ref (b + 1), .int 0])))
  have hF : Frm G (gup (gup G (b + 1) (.inl (0, 16, .inl (fun _ => 0)))) b (.inr (2, [.ref (b + 1), .int 0]))) b 2 := (Frm.up (by omega) (by omega)).tr (Frm.up (by omega) (by omega))
  have hV : TX (gup (gup G (b + 1) (.inl (0, 16, .inl (fun _ => 0)))) b (.inr (2, [.ref (b + 1), .int 0]))) b (fun _ => 0) 0 := ⟨gup_s, (gup_n (by omega)).trans gup_s⟩
  generalize gup (gup G (b + 1) (.inl (0, 16, .inl (fun _ => 0)))) b (.inr (2, [.ref (b + 1), .int 0])) = G9 at hF hV ⊢
  exact r_vret hK rfl rfl d_T_init_12 (hQ _ hV hF)
theorem c_P_init {E : gX} {G : gG} {Q : Option Value → gG → Prop} {b : Nat} (hB : G b = some (.inr (6, [.null, .int 0, .int 0, .int 0, .int 0]))) (hQ : ∀ G' : gG, PX G' b (fun _ => 0) 0 0 0 0 → Frm G G' b 2 → Q none G') : RunsI E y_P_init 2 1 (b + 1) [.ref b] G Q := by
  refine RunsI.of "ClockPost$Tape" [some (.ref b)] cw_P_init (by decide) (by decide +kernel) rfl (Nat.le_of_ble_eq_true rfl) rfl (fun K hK => ?_)
  refine r_aload_n hK d_P_init_0 rfl ?_
  refine r_obj hK wo_P_3 (by decide) (Nat.le_of_ble_eq_true rfl) d_P_init_1 ?_
  refine r_aload_n hK d_P_init_4 rfl ?_
  refine r_bipush hK d_P_init_5 kb_100 ?_
  refine r_newi (N := 100) hK (by decide) (by decide) (by decide) (by omega) d_P_init_7 ?_
  refine r_putF hK lf_P_9 rfl ⟨_, rfl, rfl⟩ d_P_init_9 ((gup_n (by omega)).trans hB) rfl rfl (Nat.le_of_ble_eq_true rfl) ?_
  show K _ _ _ _ (gup (gup G (b + 1) (.inl (0, 100, .inl (fun _ => 0)))) b (.inr (6, [.ref (b + 1), .int 0, .int 0, .int 0, .int 0])))
  have hF : Frm G (gup (gup G (b + 1) (.inl (0, 100, .inl (fun _ => 0)))) b (.inr (6, [.ref (b + 1), .int 0, .int 0, .int 0, .int 0]))) b 2 := (Frm.up (by omega) (by omega)).tr (Frm.up (by omega) (by omega))
  have hV : PX (gup (gup G (b + 1) (.inl (0, 100, .inl (fun _ => 0)))) b (.inr (6, [.ref (b + 1), .int 0, .int 0, .int 0, .int 0]))) b (fun _ => 0) 0 0 0 0 := ⟨gup_s, (gup_n (by omega)).trans gup_s⟩
  generalize gup (gup G (b + 1) (.inl (0, 100, .inl (fun _ => 0)))) b (.inr (6, [.ref (b + 1), .int 0, .int 0, .int 0, .int 0])) = G9 at hF hV ⊢
  exact r_vret hK rfl rfl d_P_init_12 (hQ _ hV hF)
theorem c_H_init {E : gX} {G : gG} {Q : Option Value → gG → Prop} {b : Nat} (hB : G b = some (.inr (3, [.null, .int 0, .int 0, .int 0, .int 0, .int 0, .int 0, .int 0]))) (hQ : ∀ G' : gG, HE G' b 0 zV → Frm G G' b 8 → Q none G') : RunsI E y_H_init 3 7 (b + 1) [.ref b] G Q := by
  refine RunsI.of "ClockPost$House" [some (.ref b), none] cw_H_init (by decide) (by decide +kernel) rfl (Nat.le_of_ble_eq_true rfl) rfl (fun K hK => ?_)
  refine r_aload_n hK d_H_init_0 rfl ?_
  refine r_obj hK wo_H_3 (by decide) (Nat.le_of_ble_eq_true rfl) d_H_init_1 ?_
  refine r_aload_n hK d_H_init_4 rfl ?_
  refine r_bipush hK d_H_init_5 kb_6 ?_
  refine r_newq (t := 4) (N := 6) hK (by decide) wl_H_9 (by decide) (by decide) (by decide) (by omega) d_H_init_7 ?_
  refine r_putF hK lf_H_11 rfl ⟨_, rfl, rfl⟩ d_H_init_10 ((gup_n (by omega)).trans hB) rfl rfl (Nat.le_of_ble_eq_true rfl) ?_
  show K _ _ _ _ (gup (gup G (b + 1) (.inl (4, 6, .inr (.inr (.inr (.inr (fun _ => none))))))) b (.inr (3, [.ref (b + 1), .int 0, .int 0, .int 0, .int 0, .int 0, .int 0, .int 0])))
  have hF : Frm G (gup (gup G (b + 1) (.inl (4, 6, .inr (.inr (.inr (.inr (fun _ => none))))))) b (.inr (3, [.ref (b + 1), .int 0, .int 0, .int 0, .int 0, .int 0, .int 0, .int 0]))) b 8 := (Frm.up (by omega) (by omega)).tr (Frm.up (by omega) (by omega))
  have hB1 : (gup (gup G (b + 1) (.inl (4, 6, .inr (.inr (.inr (.inr (fun _ => none))))))) b (.inr (3, [.ref (b + 1), .int 0, .int 0, .int 0, .int 0, .int 0, .int 0, .int 0]))) b = some (.inr (3, [.ref (b + 1), .int 0, .int 0, .int 0, .int 0, .int 0, .int 0, .int 0])) := gup_s
  have hA : (gup (gup G (b + 1) (.inl (4, 6, .inr (.inr (.inr (.inr (fun _ => none))))))) b (.inr (3, [.ref (b + 1), .int 0, .int 0, .int 0, .int 0, .int 0, .int 0, .int 0]))) (b + 1) = some (.inl (4, 6, .inr (.inr (.inr (.inr (fun i => if i < 0 then some (b + 2 + i) else none)))))) := by
    simp only [Nat.not_lt_zero, if_false]
    exact (gup_n (by omega)).trans gup_s
  generalize gup (gup G (b + 1) (.inl (4, 6, .inr (.inr (.inr (.inr (fun _ => none))))))) b (.inr (3, [.ref (b + 1), .int 0, .int 0, .int 0, .int 0, .int 0, .int 0, .int 0])) = G10 at hF hB1 hA ⊢
  refine r_iconst hK d_H_init_13 kc_0 ?_
  refine st_in_1_2 hK d_H_init_14 trivial ?_
  suffices L : ∀ j, j ≤ 6 → ∀ (z : Nat) (G1 : gG), z = b + 2 + j → G1 b = some (.inr (3, [.ref (b + 1), .int 0, .int 0, .int 0, .int 0, .int 0, .int 0, .int 0])) → G1 (b + 1) = some (.inl (4, 6, .inr (.inr (.inr (.inr (fun i => if i < j then some (b + 2 + i) else none)))))) → (∀ i, i < j → LX G1 (b + 2 + i) [.int 1, .int 0, .int 0, .int 0, .int 0]) → Frm G G1 b 8 → K 15 [some (.ref b), some (.int (nI j))] [] z G1 from L 0 (Nat.zero_le _) _ _ rfl hB1 hA (fun i hi => absurd hi (by omega)) hF
  refine lpN 6 (fun j hj ih z G1 hz hB1 hA hL hF => ?_)
  refine r_iload_n hK d_H_init_15 rfl ?_
  refine r_aload_n hK d_H_init_16 rfl ?_
  refine r_get hK lf_H_11 d_H_init_17 (hB1) rfl ?_
  refine r_alen (v := 6) hK d_H_init_20 hA (by decide) rfl ?_
  refine r_icmp_ge (tgt := 43) hK d_H_init_21 rfl (fun h21 => ?_) (fun h21 => ?_)
  · skip
    have hq : j = 6 := by have := (cle (n := 6) (by decide) (by omega)).mp h21; omega
    subst hq
    subst hz
    refine r_same hK hA (g := fun i => some (b + 2 + i)) (fun i hi => if_pos hi) ?_
    refine r_vret hK rfl (by omega) d_H_init_43 (hQ _ ⟨_, ⟨(gup_n (by omega)).trans hB1, gup_s, fun i hi => (gup_n (by omega)).trans ((hL i hi).trans (letL_0 hi))⟩, ev0⟩ (hF.tr (Frm.up (by omega) (by omega))))
  · skip
    have hq : j < 6 := Nat.not_le.mp (fun q => h21 ((cle (n := 6) (by decide) (by omega)).mpr q))
    subst hz
    refine r_aload_n hK d_H_init_24 rfl ?_
    refine r_get hK lf_H_11 d_H_init_25 (hB1) rfl ?_
    refine r_iload_n hK d_H_init_28 rfl ?_
    refine r_new hK cl_L wl_H_9 wi_L wz_L nf_L (by decide) (by omega) d_H_init_29 ?_
    obtain ⟨G2, eG2⟩ : ∃ x, x = gup G1 (b + 2 + j) (.inr (0, [.int 0, .int 0, .int 0, .int 0, .int 0])) := ⟨_, rfl⟩
    rw [← eG2]
    refine r_dup hK d_H_init_32 rfl ?_
    refine r_in (k' := 2) (mc' := 0) hK lm_H_17 d_H_init_33 (by decide) (by omega) (Nat.le_of_ble_eq_true rfl) ?_
    refine c_L_init (a := b + 2 + j) (by rw [eG2]; exact gup_s) (fun G3 hN f3 => kc_n ?_)
    have hF2 : Frm G1 G3 (b + 2 + j) 1 := (show Frm G1 G2 (b + 2 + j) 1 by rw [eG2]; exact Frm.up (by omega) (by omega)).tr f3
    have hB2 := (hF2 b (by omega)).trans hB1
    have hA2 := (hF2 (b + 1) (by omega)).trans hA
    have hL2 : ∀ i, i < j → LX G3 (b + 2 + i) [.int 1, .int 0, .int 0, .int 0, .int 0] := fun i hi => (hF2 _ (by omega)).trans (hL i hi)
    have hF3 := hF.tr (hF2.mono (show b ≤ b + 2 + j by omega) (show b + 2 + j + 1 ≤ b + 8 by omega))
    refine r_aast hK d_H_init_36 hA2 hN (vp_in_nI hq (by omega)) (by omega) ?_
    rw [nI_clamp (by omega), show va_up (fun i => if i < j then some (b + 2 + i) else none) j (some (b + 2 + j)) = (fun i => if i < j + 1 then some (b + 2 + i) else none) from up_lt _]
    first | refine iN_1_2 hK d_H_init_37 trivial ?_ | refine ii_1_1_2 hK d_H_init_37 trivial ?_
    refine r_goto (tgt := 15) hK d_H_init_40 rfl ?_
    exact ih hq _ _ (by omega) ((gup_n (by omega)).trans hB2) gup_s (fun i hi => (gup_n (by omega)).trans (by
      by_cases e : i = j
      · subst e; exact hN
      · exact hL2 i (by omega))) (hF3.tr (Frm.up (by omega) (by omega)))
theorem c_A_init {E : gX} {G : gG} {Q : Option Value → gG → Prop} {b : Nat} (hB : G b = some (.inr (4, [.null, .int 0, .int 0]))) (hQ : ∀ G' : gG, AX G' b 0 0 → (∀ i, i < 24 → HJ G' (b + 2 + 8 * i)) → Frm G G' b 194 → Q none G') : RunsI E y_A_init 4 193 (b + 1) [.ref b] G Q := by
  refine RunsI.of "ClockPost$Acts" [some (.ref b), none] cw_A_init (by decide) (by decide +kernel) rfl (Nat.le_of_ble_eq_true rfl) rfl (fun K hK => ?_)
  refine r_aload_n hK d_A_init_0 rfl ?_
  refine r_obj hK wo_A_3 (by decide) (Nat.le_of_ble_eq_true rfl) d_A_init_1 ?_
  refine r_aload_n hK d_A_init_4 rfl ?_
  refine r_bipush hK d_A_init_5 kb_24 ?_
  refine r_newq (t := 3) (N := 24) hK (by decide) wl_A_9 (by decide) (by decide) (by decide) (by omega) d_A_init_7 ?_
  refine r_putF hK lf_A_11 rfl ⟨_, rfl, rfl⟩ d_A_init_10 ((gup_n (by omega)).trans hB) rfl rfl (Nat.le_of_ble_eq_true rfl) ?_
  show K _ _ _ _ (gup (gup G (b + 1) (.inl (3, 24, .inr (.inr (.inr (.inr (fun _ => none))))))) b (.inr (4, [.ref (b + 1), .int 0, .int 0])))
  have hF : Frm G (gup (gup G (b + 1) (.inl (3, 24, .inr (.inr (.inr (.inr (fun _ => none))))))) b (.inr (4, [.ref (b + 1), .int 0, .int 0]))) b 194 := (Frm.up (by omega) (by omega)).tr (Frm.up (by omega) (by omega))
  have hB1 : (gup (gup G (b + 1) (.inl (3, 24, .inr (.inr (.inr (.inr (fun _ => none))))))) b (.inr (4, [.ref (b + 1), .int 0, .int 0]))) b = some (.inr (4, [.ref (b + 1), .int 0, .int 0])) := gup_s
  have hA : (gup (gup G (b + 1) (.inl (3, 24, .inr (.inr (.inr (.inr (fun _ => none))))))) b (.inr (4, [.ref (b + 1), .int 0, .int 0]))) (b + 1) = some (.inl (3, 24, .inr (.inr (.inr (.inr (fun i => if i < 0 then some (b + 2 + 8 * i) else none)))))) := by
    simp only [Nat.not_lt_zero, if_false]
    exact (gup_n (by omega)).trans gup_s
  generalize gup (gup G (b + 1) (.inl (3, 24, .inr (.inr (.inr (.inr (fun _ => none))))))) b (.inr (4, [.ref (b + 1), .int 0, .int 0])) = G10 at hF hB1 hA ⊢
  refine r_iconst hK d_A_init_13 kc_0 ?_
  refine st_in_1_2 hK d_A_init_14 trivial ?_
  suffices L : ∀ j, j ≤ 24 → ∀ (z : Nat) (G1 : gG), z = b + 2 + 8 * j → G1 b = some (.inr (4, [.ref (b + 1), .int 0, .int 0])) → G1 (b + 1) = some (.inl (3, 24, .inr (.inr (.inr (.inr (fun i => if i < j then some (b + 2 + 8 * i) else none)))))) → (∀ i, i < j → HJ G1 (b + 2 + 8 * i)) → Frm G G1 b 194 → K 15 [some (.ref b), some (.int (nI j))] [] z G1 from L 0 (Nat.zero_le _) _ _ rfl hB1 hA  (fun i hi => absurd hi (by omega)) hF
  refine lpN 24 (fun j hj ih z G1 hz hB1 hA  hL hF => ?_)
  refine r_iload_n hK d_A_init_15 rfl ?_
  refine r_aload_n hK d_A_init_16 rfl ?_
  refine r_get hK lf_A_11 d_A_init_17 (hB1) rfl ?_
  refine r_alen (v := 24) hK d_A_init_20 hA (by decide) rfl ?_
  refine r_icmp_ge (tgt := 43) hK d_A_init_21 rfl (fun h21 => ?_) (fun h21 => ?_)
  · skip
    have hq : j = 24 := by have := (cle (n := 24) (by decide) (by omega)).mp h21; omega
    subst hq
    subst hz
    refine r_same hK hA (g := fun i => some (b + 2 + 8 * i)) (fun i hi => if_pos hi) ?_
    refine r_vret hK rfl (by omega) d_A_init_43 (hQ _ ⟨(gup_n (by omega)).trans hB1, gup_s⟩ (fun i hi => (hL i hi).frm (Frm.up (a := b + 1) (n := 1) (by omega) (by omega)) (by omega)) (hF.tr (Frm.up (by omega) (by omega))))
  · skip
    have hq : j < 24 := Nat.not_le.mp (fun q => h21 ((cle (n := 24) (by decide) (by omega)).mpr q))
    subst hz
    refine r_aload_n hK d_A_init_24 rfl ?_
    refine r_get hK lf_A_11 d_A_init_25 (hB1) rfl ?_
    refine r_iload_n hK d_A_init_28 rfl ?_
    refine r_new hK cl_H wl_A_9 wi_H wz_H nf_H (by decide) (by omega) d_A_init_29 ?_
    obtain ⟨G2, eG2⟩ : ∃ x, x = gup G1 (b + 2 + 8 * j) (.inr (3, [.null, .int 0, .int 0, .int 0, .int 0, .int 0, .int 0, .int 0])) := ⟨_, rfl⟩
    rw [← eG2]
    refine r_dup hK d_A_init_32 rfl ?_
    refine r_in (k' := 3) (mc' := 7) hK lm_A_17 d_A_init_33 (by decide) (by omega) (Nat.le_of_ble_eq_true rfl) ?_
    refine c_H_init (b := b + 2 + 8 * j) (by rw [eG2]; exact gup_s) (fun G3 hN f3 => kc_n ?_)
    have hF2 : Frm G1 G3 (b + 2 + 8 * j) 8 := (show Frm G1 G2 (b + 2 + 8 * j) 8 by rw [eG2]; exact Frm.up (by omega) (by omega)).tr f3
    have hB2 := (hF2 b (by omega)).trans hB1
    have hA2 := (hF2 (b + 1) (by omega)).trans hA
    have hL2 : ∀ i, i < j → HJ G3 (b + 2 + 8 * i) := fun i hi => (hL i hi).frm hF2 (by omega)
    have hF3 := hF.tr (hF2.mono (show b ≤ b + 2 + 8 * j by omega) (show b + 2 + 8 * j + 8 ≤ b + 194 by omega))
    obtain ⟨w3, hX3, hE3⟩ := id hN
    refine r_aast hK d_A_init_36 hA2 hX3.1 (vp_in_nI hq (by omega)) (by omega) ?_
    rw [nI_clamp (by omega), show va_up (fun i => if i < j then some (b + 2 + 8 * i) else none) j (some (b + 2 + 8 * j)) = (fun i => if i < j + 1 then some (b + 2 + 8 * i) else none) from up_lt (fun i => b + 2 + 8 * i)]
    first | refine iN_1_2 hK d_A_init_37 trivial ?_ | refine ii_1_1_2 hK d_A_init_37 trivial ?_
    refine r_goto (tgt := 15) hK d_A_init_40 rfl ?_
    exact ih hq _ _ (by omega) ((gup_n (by omega)).trans hB2) gup_s (fun i hi => by
      by_cases e : i = j
      · subst e; exact (hN.frm (Frm.up (a := b + 1) (n := 1) (by omega) (by omega)) (by omega)).j
      · exact (hL2 i (by omega)).frm (Frm.up (a := b + 1) (n := 1) (by omega) (by omega)) (by omega)) (hF3.tr (Frm.up (by omega) (by omega)))
theorem c_O_init {E : gX} {G : gG} {Q : Option Value → gG → Prop} {b : Nat} (hB : G b = some (.inr (5, [.null, .null, .null, .int 0]))) (hQ : ∀ G' : gG, OX G' b (fun _ => 0) (fun _ => 0) 0 → stJ G' b → Frm G G' b 60 → Q none G') : RunsI E y_O_init 4 59 (b + 1) [.ref b] G Q := by
  refine RunsI.of "ClockPost$OrderSearch" [some (.ref b), none] cw_O_init (by decide) (by decide +kernel) rfl (Nat.le_of_ble_eq_true rfl) rfl (fun K hK => ?_)
  refine r_aload_n hK d_O_init_0 rfl ?_
  refine r_obj hK wo_O_3 (by decide) (Nat.le_of_ble_eq_true rfl) d_O_init_1 ?_
  refine r_aload_n hK d_O_init_4 rfl ?_
  refine r_bipush hK d_O_init_5 kb_7 ?_
  refine r_newq (t := 3) (N := 7) hK (by decide) wl_O_9 (by decide) (by decide) (by decide) (by omega) d_O_init_7 ?_
  refine r_putF hK lf_O_11 rfl ⟨_, rfl, rfl⟩ d_O_init_10 ((gup_n (by omega)).trans hB) rfl rfl (Nat.le_of_ble_eq_true rfl) ?_
  show K _ _ _ _ (gup (gup G (b + 1) (.inl (3, 7, .inr (.inr (.inr (.inr (fun _ => none))))))) b (.inr (5, [.ref (b + 1), .null, .null, .int 0])))
  have hF : Frm G (gup (gup G (b + 1) (.inl (3, 7, .inr (.inr (.inr (.inr (fun _ => none))))))) b (.inr (5, [.ref (b + 1), .null, .null, .int 0]))) b 60 := (Frm.up (by omega) (by omega)).tr (Frm.up (by omega) (by omega))
  have hB1 : (gup (gup G (b + 1) (.inl (3, 7, .inr (.inr (.inr (.inr (fun _ => none))))))) b (.inr (5, [.ref (b + 1), .null, .null, .int 0]))) b = some (.inr (5, [.ref (b + 1), .null, .null, .int 0])) := gup_s
  have hA : (gup (gup G (b + 1) (.inl (3, 7, .inr (.inr (.inr (.inr (fun _ => none))))))) b (.inr (5, [.ref (b + 1), .null, .null, .int 0]))) (b + 1) = some (.inl (3, 7, .inr (.inr (.inr (.inr (fun i => if i < 0 then some (b + 4 + 8 * i) else none)))))) := by
    simp only [Nat.not_lt_zero, if_false]
    exact (gup_n (by omega)).trans gup_s
  generalize gup (gup G (b + 1) (.inl (3, 7, .inr (.inr (.inr (.inr (fun _ => none))))))) b (.inr (5, [.ref (b + 1), .null, .null, .int 0])) = G10 at hF hB1 hA ⊢
  refine r_aload_n hK d_O_init_13 rfl ?_
  refine r_bipush hK d_O_init_14 kb_6 ?_
  refine r_newi (N := 6) hK (by decide) (by decide) (by decide) (by omega) d_O_init_16 ?_
  refine r_putF hK lf_O_17 rfl ⟨_, rfl, rfl⟩ d_O_init_18 ((gup_n (by omega)).trans hB1) rfl rfl (Nat.le_of_ble_eq_true rfl) ?_
  show K _ _ _ _ (gup (gup G10 (b + 2) (.inl (0, 6, .inl (fun _ => 0)))) b (.inr (5, [.ref (b + 1), .ref (b + 2), .null, .int 0])))
  have hF : Frm G (gup (gup G10 (b + 2) (.inl (0, 6, .inl (fun _ => 0)))) b (.inr (5, [.ref (b + 1), .ref (b + 2), .null, .int 0]))) b 60 := hF.tr ((Frm.up (by omega) (by omega)).tr (Frm.up (by omega) (by omega)))
  have hB1 : (gup (gup G10 (b + 2) (.inl (0, 6, .inl (fun _ => 0)))) b (.inr (5, [.ref (b + 1), .ref (b + 2), .null, .int 0]))) b = some (.inr (5, [.ref (b + 1), .ref (b + 2), .null, .int 0])) := gup_s
  have hA : (gup (gup G10 (b + 2) (.inl (0, 6, .inl (fun _ => 0)))) b (.inr (5, [.ref (b + 1), .ref (b + 2), .null, .int 0]))) (b + 1) = some (.inl (3, 7, .inr (.inr (.inr (.inr (fun i => if i < 0 then some (b + 4 + 8 * i) else none)))))) := (gup_n (by omega)).trans ((gup_n (by omega)).trans hA)
  have hT : (gup (gup G10 (b + 2) (.inl (0, 6, .inl (fun _ => 0)))) b (.inr (5, [.ref (b + 1), .ref (b + 2), .null, .int 0]))) (b + 2) = some (.inl (0, 6, .inl (fun _ => 0))) := (gup_n (by omega)).trans gup_s
  generalize gup (gup G10 (b + 2) (.inl (0, 6, .inl (fun _ => 0)))) b (.inr (5, [.ref (b + 1), .ref (b + 2), .null, .int 0])) = G18 at hF hB1 hA hT ⊢
  refine r_aload_n hK d_O_init_21 rfl ?_
  refine r_bipush hK d_O_init_22 kb_6 ?_
  refine r_newi (N := 6) hK (by decide) (by decide) (by decide) (by omega) d_O_init_24 ?_
  refine r_putF hK lf_O_21 rfl ⟨_, rfl, rfl⟩ d_O_init_26 ((gup_n (by omega)).trans hB1) rfl rfl (Nat.le_of_ble_eq_true rfl) ?_
  show K _ _ _ _ (gup (gup G18 (b + 3) (.inl (0, 6, .inl (fun _ => 0)))) b (.inr (5, [.ref (b + 1), .ref (b + 2), .ref (b + 3), .int 0])))
  have hF : Frm G (gup (gup G18 (b + 3) (.inl (0, 6, .inl (fun _ => 0)))) b (.inr (5, [.ref (b + 1), .ref (b + 2), .ref (b + 3), .int 0]))) b 60 := hF.tr ((Frm.up (by omega) (by omega)).tr (Frm.up (by omega) (by omega)))
  have hB1 : (gup (gup G18 (b + 3) (.inl (0, 6, .inl (fun _ => 0)))) b (.inr (5, [.ref (b + 1), .ref (b + 2), .ref (b + 3), .int 0]))) b = some (.inr (5, [.ref (b + 1), .ref (b + 2), .ref (b + 3), .int 0])) := gup_s
  have hA : (gup (gup G18 (b + 3) (.inl (0, 6, .inl (fun _ => 0)))) b (.inr (5, [.ref (b + 1), .ref (b + 2), .ref (b + 3), .int 0]))) (b + 1) = some (.inl (3, 7, .inr (.inr (.inr (.inr (fun i => if i < 0 then some (b + 4 + 8 * i) else none)))))) := (gup_n (by omega)).trans ((gup_n (by omega)).trans hA)
  have hT : (gup (gup G18 (b + 3) (.inl (0, 6, .inl (fun _ => 0)))) b (.inr (5, [.ref (b + 1), .ref (b + 2), .ref (b + 3), .int 0]))) (b + 2) = some (.inl (0, 6, .inl (fun _ => 0))) := (gup_n (by omega)).trans ((gup_n (by omega)).trans hT)
  have hS : (gup (gup G18 (b + 3) (.inl (0, 6, .inl (fun _ => 0)))) b (.inr (5, [.ref (b + 1), .ref (b + 2), .ref (b + 3), .int 0]))) (b + 3) = some (.inl (0, 6, .inl (fun _ => 0))) := (gup_n (by omega)).trans gup_s
  generalize gup (gup G18 (b + 3) (.inl (0, 6, .inl (fun _ => 0)))) b (.inr (5, [.ref (b + 1), .ref (b + 2), .ref (b + 3), .int 0])) = G26 at hF hB1 hA hT hS ⊢
  refine r_iconst hK d_O_init_29 kc_0 ?_
  refine st_in_1_2 hK d_O_init_30 trivial ?_
  suffices L : ∀ j, j ≤ 7 → ∀ (z : Nat) (G1 : gG), z = b + 4 + 8 * j → G1 b = some (.inr (5, [.ref (b + 1), .ref (b + 2), .ref (b + 3), .int 0])) → G1 (b + 1) = some (.inl (3, 7, .inr (.inr (.inr (.inr (fun i => if i < j then some (b + 4 + 8 * i) else none)))))) → G1 (b + 2) = some (.inl (0, 6, .inl (fun _ => 0))) → G1 (b + 3) = some (.inl (0, 6, .inl (fun _ => 0))) → (∀ i, i < j → HJ G1 (b + 4 + 8 * i)) → Frm G G1 b 60 → K 31 [some (.ref b), some (.int (nI j))] [] z G1 from L 0 (Nat.zero_le _) _ _ rfl hB1 hA hT hS (fun i hi => absurd hi (by omega)) hF
  refine lpN 7 (fun j hj ih z G1 hz hB1 hA hT hS hL hF => ?_)
  refine r_iload_n hK d_O_init_31 rfl ?_
  refine r_aload_n hK d_O_init_32 rfl ?_
  refine r_get hK lf_O_11 d_O_init_33 (hB1) rfl ?_
  refine r_alen (v := 7) hK d_O_init_36 hA (by decide) rfl ?_
  refine r_icmp_ge (tgt := 59) hK d_O_init_37 rfl (fun h37 => ?_) (fun h37 => ?_)
  · skip
    have hq : j = 7 := by have := (cle (n := 7) (by decide) (by omega)).mp h37; omega
    subst hq
    subst hz
    refine r_same hK hA (g := fun i => some (b + 4 + 8 * i)) (fun i hi => if_pos hi) ?_
    refine r_vret hK rfl (by omega) d_O_init_59 (hQ _ ⟨(gup_n (by omega)).trans hB1, gup_s, (gup_n (by omega)).trans hT, (gup_n (by omega)).trans hS⟩ (fun i hi => (hL i hi).frm (Frm.up (a := b + 1) (n := 1) (by omega) (by omega)) (by omega)) (hF.tr (Frm.up (by omega) (by omega))))
  · skip
    have hq : j < 7 := Nat.not_le.mp (fun q => h37 ((cle (n := 7) (by decide) (by omega)).mpr q))
    subst hz
    refine r_aload_n hK d_O_init_40 rfl ?_
    refine r_get hK lf_O_11 d_O_init_41 (hB1) rfl ?_
    refine r_iload_n hK d_O_init_44 rfl ?_
    refine r_new hK cl_H wl_O_9 wi_H wz_H nf_H (by decide) (by omega) d_O_init_45 ?_
    obtain ⟨G2, eG2⟩ : ∃ x, x = gup G1 (b + 4 + 8 * j) (.inr (3, [.null, .int 0, .int 0, .int 0, .int 0, .int 0, .int 0, .int 0])) := ⟨_, rfl⟩
    rw [← eG2]
    refine r_dup hK d_O_init_48 rfl ?_
    refine r_in (k' := 3) (mc' := 7) hK lm_O_24 d_O_init_49 (by decide) (by omega) (Nat.le_of_ble_eq_true rfl) ?_
    refine c_H_init (b := b + 4 + 8 * j) (by rw [eG2]; exact gup_s) (fun G3 hN f3 => kc_n ?_)
    have hF2 : Frm G1 G3 (b + 4 + 8 * j) 8 := (show Frm G1 G2 (b + 4 + 8 * j) 8 by rw [eG2]; exact Frm.up (by omega) (by omega)).tr f3
    have hB2 := (hF2 b (by omega)).trans hB1
    have hA2 := (hF2 (b + 1) (by omega)).trans hA
    have hT2 := (hF2 _ (by omega)).trans hT
    have hS2 := (hF2 _ (by omega)).trans hS
    have hL2 : ∀ i, i < j → HJ G3 (b + 4 + 8 * i) := fun i hi => (hL i hi).frm hF2 (by omega)
    have hF3 := hF.tr (hF2.mono (show b ≤ b + 4 + 8 * j by omega) (show b + 4 + 8 * j + 8 ≤ b + 60 by omega))
    obtain ⟨w3, hX3, hE3⟩ := id hN
    refine r_aast hK d_O_init_52 hA2 hX3.1 (vp_in_nI hq (by omega)) (by omega) ?_
    rw [nI_clamp (by omega), show va_up (fun i => if i < j then some (b + 4 + 8 * i) else none) j (some (b + 4 + 8 * j)) = (fun i => if i < j + 1 then some (b + 4 + 8 * i) else none) from up_lt (fun i => b + 4 + 8 * i)]
    first | refine iN_1_2 hK d_O_init_53 trivial ?_ | refine ii_1_1_2 hK d_O_init_53 trivial ?_
    refine r_goto (tgt := 31) hK d_O_init_56 rfl ?_
    exact ih hq _ _ (by omega) ((gup_n (by omega)).trans hB2) gup_s ((gup_n (by omega)).trans hT2) ((gup_n (by omega)).trans hS2) (fun i hi => by
      by_cases e : i = j
      · subst e; exact (hN.frm (Frm.up (a := b + 1) (n := 1) (by omega) (by omega)) (by omega)).j
      · exact (hL2 i (by omega)).frm (Frm.up (a := b + 1) (n := 1) (by omega) (by omega)) (by omega)) (hF3.tr (Frm.up (by omega) (by omega)))
theorem c_X_init {E : gX} {G : gG} {Q : Option Value → gG → Prop} {b : Nat} (hB : G b = some (.inr (7, [.null, .null, .null, .null, .null, .null, .null, .null, .int 0]))) (hQ : ∀ G' : gG, XV G' b st0 → Frm G G' b 309 → Q none G') : RunsI E y_X_init 5 308 (b + 1) [.ref b] G Q := by
  refine RunsI.of "ClockPost" [some (.ref b), none] cw_X_init (by decide) (by decide +kernel) rfl (Nat.le_of_ble_eq_true rfl) rfl (fun K hK => ?_)
  refine r_aload_n hK d_X_init_0 rfl ?_
  refine r_obj hK wo_X_3 (by decide) (Nat.le_of_ble_eq_true rfl) d_X_init_1 ?_
  refine r_aload_n hK d_X_init_4 rfl ?_
  refine r_bipush hK d_X_init_5 kb_8 ?_
  have hF : Frm G G b 309 := Frm.rf
  refine r_newq (t := 2) (N := 8) hK (by decide) wl_X_9 (by decide) (by decide) (by decide) (by omega) d_X_init_7 ?_
  obtain ⟨G7, eG7⟩ : ∃ x, x = gup G (b + 1) (.inl (2, 8, .inr (.inr (.inr (.inr (fun _ => none)))))) := ⟨_, rfl⟩
  show K _ _ _ _ (gup G (b + 1) (.inl (2, 8, .inr (.inr (.inr (.inr (fun _ => none)))))))
  rw [← eG7]
  have qG7 : Frm G G7 (b + 1) 1 := by rw [eG7]; exact Frm.up (by omega) (by omega)
  have hB1 := (qG7 b (by omega)).trans hB
  have hF := hF.tr (qG7.mono (show b ≤ b + 1 by omega) (show b + 1 + 1 ≤ b + 309 by omega))
  have hR : G7 (b + 1) = some (.inl (2, 8, .inr (.inr (.inr (.inr (fun i => if i < 0 then some (b + 277 + 2 * i) else none)))))) := by
    simp only [Nat.not_lt_zero, if_false]
    rw [eG7]; exact gup_s
  refine r_putF hK lf_X_11 rfl ⟨_, rfl, rfl⟩ d_X_init_10 (hB1) rfl rfl (Nat.le_of_ble_eq_true rfl) ?_
  obtain ⟨G10, eG10⟩ : ∃ x, x = gup G7 b (.inr (7, [.ref (b + 1), .null, .null, .null, .null, .null, .null, .null, .int 0])) := ⟨_, rfl⟩
  show K _ _ _ _ (gup G7 b (.inr (7, [.ref (b + 1), .null, .null, .null, .null, .null, .null, .null, .int 0])))
  rw [← eG10]
  have qG10 : Frm G7 G10 b 1 := by rw [eG10]; exact Frm.up (by omega) (by omega)
  have hB1 : G10 b = some (.inr (7, [.ref (b + 1), .null, .null, .null, .null, .null, .null, .null, .int 0])) := by rw [eG10]; exact gup_s
  have hF := hF.tr (qG10.mono (show b ≤ b by omega) (show b + 1 ≤ b + 309 by omega))
  have hR : G10 (b + 1) = some (.inl (2, 8, .inr (.inr (.inr (.inr (fun i => if i < 0 then some (b + 277 + 2 * i) else none)))))) := (qG10 _ (by omega)).trans hR
  refine r_aload_n hK d_X_init_13 rfl ?_
  show K _ _ _ (b + 2) _
  refine r_new hK cl_P wl_X_15 wi_P wz_P nf_P (by decide) (by omega) d_X_init_14 ?_
  obtain ⟨G14, eG14⟩ : ∃ x, x = gup G10 (b + 2) (.inr (6, [.null, .int 0, .int 0, .int 0, .int 0])) := ⟨_, rfl⟩
  show K _ _ _ _ (gup G10 (b + 2) (.inr (6, [.null, .int 0, .int 0, .int 0, .int 0])))
  rw [← eG14]
  have qG14 : Frm G10 G14 (b + 2) 1 := by rw [eG14]; exact Frm.up (by omega) (by omega)
  refine r_dup hK d_X_init_17 rfl ?_
  refine r_in (k' := 2) (mc' := 1) hK lm_X_17 d_X_init_18 (by decide) (by omega) (Nat.le_of_ble_eq_true rfl) ?_
  refine c_P_init (b := b + 2) (by rw [eG14]; exact gup_s) (fun G18 hP qG18 => kc_n ?_)
  have q2G18 : Frm G10 G18 (b + 2) 2 := (qG14.mono (show b + 2 ≤ b + 2 by omega) (show b + 2 + 1 ≤ b + 2 + 2 by omega)).tr qG18
  have hB1 := (q2G18 b (by omega)).trans hB1
  have hF := hF.tr (q2G18.mono (show b ≤ b + 2 by omega) (show b + 2 + 2 ≤ b + 309 by omega))
  have hR : G18 (b + 1) = some (.inl (2, 8, .inr (.inr (.inr (.inr (fun i => if i < 0 then some (b + 277 + 2 * i) else none)))))) := (q2G18 _ (by omega)).trans hR
  refine r_putF hK lf_X_18 rfl ⟨_, rfl, rfl⟩ d_X_init_21 (hB1) rfl rfl (Nat.le_of_ble_eq_true rfl) ?_
  obtain ⟨G21, eG21⟩ : ∃ x, x = gup G18 b (.inr (7, [.ref (b + 1), .ref (b + 2), .null, .null, .null, .null, .null, .null, .int 0])) := ⟨_, rfl⟩
  show K _ _ _ _ (gup G18 b (.inr (7, [.ref (b + 1), .ref (b + 2), .null, .null, .null, .null, .null, .null, .int 0])))
  rw [← eG21]
  have qG21 : Frm G18 G21 b 1 := by rw [eG21]; exact Frm.up (by omega) (by omega)
  have hB1 : G21 b = some (.inr (7, [.ref (b + 1), .ref (b + 2), .null, .null, .null, .null, .null, .null, .int 0])) := by rw [eG21]; exact gup_s
  have hF := hF.tr (qG21.mono (show b ≤ b by omega) (show b + 1 ≤ b + 309 by omega))
  have hR : G21 (b + 1) = some (.inl (2, 8, .inr (.inr (.inr (.inr (fun i => if i < 0 then some (b + 277 + 2 * i) else none)))))) := (qG21 _ (by omega)).trans hR
  have hP : PX G21 (b + 2) (fun _ => 0) 0 0 0 0 := hP.frm qG21 (by omega)
  refine r_aload_n hK d_X_init_24 rfl ?_
  show K _ _ _ (b + 4) _
  refine r_new hK cl_H wl_X_22 wi_H wz_H nf_H (by decide) (by omega) d_X_init_25 ?_
  obtain ⟨G25, eG25⟩ : ∃ x, x = gup G21 (b + 4) (.inr (3, [.null, .int 0, .int 0, .int 0, .int 0, .int 0, .int 0, .int 0])) := ⟨_, rfl⟩
  show K _ _ _ _ (gup G21 (b + 4) (.inr (3, [.null, .int 0, .int 0, .int 0, .int 0, .int 0, .int 0, .int 0])))
  rw [← eG25]
  have qG25 : Frm G21 G25 (b + 4) 1 := by rw [eG25]; exact Frm.up (by omega) (by omega)
  refine r_dup hK d_X_init_28 rfl ?_
  refine r_in (k' := 3) (mc' := 7) hK lm_X_24 d_X_init_29 (by decide) (by omega) (Nat.le_of_ble_eq_true rfl) ?_
  refine c_H_init (b := b + 4) (by rw [eG25]; exact gup_s) (fun G29 hN qG29 => kc_n ?_)
  have q2G29 : Frm G21 G29 (b + 4) 8 := (qG25.mono (show b + 4 ≤ b + 4 by omega) (show b + 4 + 1 ≤ b + 4 + 8 by omega)).tr qG29
  have hB1 := (q2G29 b (by omega)).trans hB1
  have hF := hF.tr (q2G29.mono (show b ≤ b + 4 by omega) (show b + 4 + 8 ≤ b + 309 by omega))
  have hR : G29 (b + 1) = some (.inl (2, 8, .inr (.inr (.inr (.inr (fun i => if i < 0 then some (b + 277 + 2 * i) else none)))))) := (q2G29 _ (by omega)).trans hR
  have hP : PX G29 (b + 2) (fun _ => 0) 0 0 0 0 := hP.frm q2G29 (by omega)
  refine r_putF hK lf_X_25 rfl ⟨_, rfl, rfl⟩ d_X_init_32 (hB1) rfl rfl (Nat.le_of_ble_eq_true rfl) ?_
  obtain ⟨G32, eG32⟩ : ∃ x, x = gup G29 b (.inr (7, [.ref (b + 1), .ref (b + 2), .ref (b + 4), .null, .null, .null, .null, .null, .int 0])) := ⟨_, rfl⟩
  show K _ _ _ _ (gup G29 b (.inr (7, [.ref (b + 1), .ref (b + 2), .ref (b + 4), .null, .null, .null, .null, .null, .int 0])))
  rw [← eG32]
  have qG32 : Frm G29 G32 b 1 := by rw [eG32]; exact Frm.up (by omega) (by omega)
  have hB1 : G32 b = some (.inr (7, [.ref (b + 1), .ref (b + 2), .ref (b + 4), .null, .null, .null, .null, .null, .int 0])) := by rw [eG32]; exact gup_s
  have hF := hF.tr (qG32.mono (show b ≤ b by omega) (show b + 1 ≤ b + 309 by omega))
  have hR : G32 (b + 1) = some (.inl (2, 8, .inr (.inr (.inr (.inr (fun i => if i < 0 then some (b + 277 + 2 * i) else none)))))) := (qG32 _ (by omega)).trans hR
  have hP : PX G32 (b + 2) (fun _ => 0) 0 0 0 0 := hP.frm qG32 (by omega)
  have hN : HE G32 (b + 4) 0 zV := hN.frm qG32 (by omega)
  refine r_aload_n hK d_X_init_35 rfl ?_
  show K _ _ _ (b + 12) _
  refine r_new hK cl_H wl_X_22 wi_H wz_H nf_H (by decide) (by omega) d_X_init_36 ?_
  obtain ⟨G36, eG36⟩ : ∃ x, x = gup G32 (b + 12) (.inr (3, [.null, .int 0, .int 0, .int 0, .int 0, .int 0, .int 0, .int 0])) := ⟨_, rfl⟩
  show K _ _ _ _ (gup G32 (b + 12) (.inr (3, [.null, .int 0, .int 0, .int 0, .int 0, .int 0, .int 0, .int 0])))
  rw [← eG36]
  have qG36 : Frm G32 G36 (b + 12) 1 := by rw [eG36]; exact Frm.up (by omega) (by omega)
  refine r_dup hK d_X_init_39 rfl ?_
  refine r_in (k' := 3) (mc' := 7) hK lm_X_24 d_X_init_40 (by decide) (by omega) (Nat.le_of_ble_eq_true rfl) ?_
  refine c_H_init (b := b + 12) (by rw [eG36]; exact gup_s) (fun G40 hO4 qG40 => kc_n ?_)
  have q2G40 : Frm G32 G40 (b + 12) 8 := (qG36.mono (show b + 12 ≤ b + 12 by omega) (show b + 12 + 1 ≤ b + 12 + 8 by omega)).tr qG40
  have hB1 := (q2G40 b (by omega)).trans hB1
  have hF := hF.tr (q2G40.mono (show b ≤ b + 12 by omega) (show b + 12 + 8 ≤ b + 309 by omega))
  have hR : G40 (b + 1) = some (.inl (2, 8, .inr (.inr (.inr (.inr (fun i => if i < 0 then some (b + 277 + 2 * i) else none)))))) := (q2G40 _ (by omega)).trans hR
  have hP : PX G40 (b + 2) (fun _ => 0) 0 0 0 0 := hP.frm q2G40 (by omega)
  have hN : HE G40 (b + 4) 0 zV := hN.frm q2G40 (by omega)
  refine r_putF hK lf_X_29 rfl ⟨_, rfl, rfl⟩ d_X_init_43 (hB1) rfl rfl (Nat.le_of_ble_eq_true rfl) ?_
  obtain ⟨G43, eG43⟩ : ∃ x, x = gup G40 b (.inr (7, [.ref (b + 1), .ref (b + 2), .ref (b + 4), .ref (b + 12), .null, .null, .null, .null, .int 0])) := ⟨_, rfl⟩
  show K _ _ _ _ (gup G40 b (.inr (7, [.ref (b + 1), .ref (b + 2), .ref (b + 4), .ref (b + 12), .null, .null, .null, .null, .int 0])))
  rw [← eG43]
  have qG43 : Frm G40 G43 b 1 := by rw [eG43]; exact Frm.up (by omega) (by omega)
  have hB1 : G43 b = some (.inr (7, [.ref (b + 1), .ref (b + 2), .ref (b + 4), .ref (b + 12), .null, .null, .null, .null, .int 0])) := by rw [eG43]; exact gup_s
  have hF := hF.tr (qG43.mono (show b ≤ b by omega) (show b + 1 ≤ b + 309 by omega))
  have hR : G43 (b + 1) = some (.inl (2, 8, .inr (.inr (.inr (.inr (fun i => if i < 0 then some (b + 277 + 2 * i) else none)))))) := (qG43 _ (by omega)).trans hR
  have hP : PX G43 (b + 2) (fun _ => 0) 0 0 0 0 := hP.frm qG43 (by omega)
  have hN : HE G43 (b + 4) 0 zV := hN.frm qG43 (by omega)
  have hO4 : HE G43 (b + 12) 0 zV := hO4.frm qG43 (by omega)
  refine r_aload_n hK d_X_init_46 rfl ?_
  refine r_iconst hK d_X_init_47 kc_2 ?_
  show K _ _ _ (b + 20) _
  refine r_newq (t := 3) (N := 2) hK (by decide) wl_X_22 (by decide) (by decide) (by decide) (by omega) d_X_init_48 ?_
  obtain ⟨G48, eG48⟩ : ∃ x, x = gup G43 (b + 20) (.inl (3, 2, .inr (.inr (.inr (.inr (fun i => if i < 0 then some (b + 293 + 8 * i) else none)))))) := ⟨_, rfl⟩
  have qG48 : Frm G43 G48 (b + 20) 1 := by rw [eG48]; exact Frm.up (by omega) (by omega)
  have eG : (gup G43 (b + 20) (.inl (3, 2, .inr (.inr (.inr (.inr (fun _ => none))))))) = G48 := by rw [eG48]; simp only [Nat.not_lt_zero, if_false]
  show K _ _ _ _ (gup G43 (b + 20) (.inl (3, 2, .inr (.inr (.inr (.inr (fun _ => none)))))))
  rw [eG]
  have hB1 := (qG48 b (by omega)).trans hB1
  have hF := hF.tr (qG48.mono (show b ≤ b + 20 by omega) (show b + 20 + 1 ≤ b + 309 by omega))
  have hR : G48 (b + 1) = some (.inl (2, 8, .inr (.inr (.inr (.inr (fun i => if i < 0 then some (b + 277 + 2 * i) else none)))))) := (qG48 _ (by omega)).trans hR
  have hP : PX G48 (b + 2) (fun _ => 0) 0 0 0 0 := hP.frm qG48 (by omega)
  have hN : HE G48 (b + 4) 0 zV := hN.frm qG48 (by omega)
  have hO4 : HE G48 (b + 12) 0 zV := hO4.frm qG48 (by omega)
  have hI : G48 (b + 20) = some (.inl (3, 2, .inr (.inr (.inr (.inr (fun i => if i < 0 then some (b + 293 + 8 * i) else none)))))) := by rw [eG48]; exact gup_s
  refine r_putF hK lf_X_32 rfl ⟨_, rfl, rfl⟩ d_X_init_51 (hB1) rfl rfl (Nat.le_of_ble_eq_true rfl) ?_
  obtain ⟨G51, eG51⟩ : ∃ x, x = gup G48 b (.inr (7, [.ref (b + 1), .ref (b + 2), .ref (b + 4), .ref (b + 12), .ref (b + 20), .null, .null, .null, .int 0])) := ⟨_, rfl⟩
  show K _ _ _ _ (gup G48 b (.inr (7, [.ref (b + 1), .ref (b + 2), .ref (b + 4), .ref (b + 12), .ref (b + 20), .null, .null, .null, .int 0])))
  rw [← eG51]
  have qG51 : Frm G48 G51 b 1 := by rw [eG51]; exact Frm.up (by omega) (by omega)
  have hB1 : G51 b = some (.inr (7, [.ref (b + 1), .ref (b + 2), .ref (b + 4), .ref (b + 12), .ref (b + 20), .null, .null, .null, .int 0])) := by rw [eG51]; exact gup_s
  have hF := hF.tr (qG51.mono (show b ≤ b by omega) (show b + 1 ≤ b + 309 by omega))
  have hR : G51 (b + 1) = some (.inl (2, 8, .inr (.inr (.inr (.inr (fun i => if i < 0 then some (b + 277 + 2 * i) else none)))))) := (qG51 _ (by omega)).trans hR
  have hP : PX G51 (b + 2) (fun _ => 0) 0 0 0 0 := hP.frm qG51 (by omega)
  have hN : HE G51 (b + 4) 0 zV := hN.frm qG51 (by omega)
  have hO4 : HE G51 (b + 12) 0 zV := hO4.frm qG51 (by omega)
  have hI : G51 (b + 20) = some (.inl (3, 2, .inr (.inr (.inr (.inr (fun i => if i < 0 then some (b + 293 + 8 * i) else none)))))) := (qG51 _ (by omega)).trans hI
  refine r_aload_n hK d_X_init_54 rfl ?_
  show K _ _ _ (b + 21) _
  refine r_new hK cl_A wl_X_36 wi_A wz_A nf_A (by decide) (by omega) d_X_init_55 ?_
  obtain ⟨G55, eG55⟩ : ∃ x, x = gup G51 (b + 21) (.inr (4, [.null, .int 0, .int 0])) := ⟨_, rfl⟩
  show K _ _ _ _ (gup G51 (b + 21) (.inr (4, [.null, .int 0, .int 0])))
  rw [← eG55]
  have qG55 : Frm G51 G55 (b + 21) 1 := by rw [eG55]; exact Frm.up (by omega) (by omega)
  refine r_dup hK d_X_init_58 rfl ?_
  refine r_in (k' := 4) (mc' := 193) hK lm_X_38 d_X_init_59 (by decide) (by omega) (Nat.le_of_ble_eq_true rfl) ?_
  refine c_A_init (b := b + 21) (by rw [eG55]; exact gup_s) (fun G59 hA4 hA5 qG59 => kc_n ?_)
  have q2G59 : Frm G51 G59 (b + 21) 194 := (qG55.mono (show b + 21 ≤ b + 21 by omega) (show b + 21 + 1 ≤ b + 21 + 194 by omega)).tr qG59
  have hB1 := (q2G59 b (by omega)).trans hB1
  have hF := hF.tr (q2G59.mono (show b ≤ b + 21 by omega) (show b + 21 + 194 ≤ b + 309 by omega))
  have hR : G59 (b + 1) = some (.inl (2, 8, .inr (.inr (.inr (.inr (fun i => if i < 0 then some (b + 277 + 2 * i) else none)))))) := (q2G59 _ (by omega)).trans hR
  have hP : PX G59 (b + 2) (fun _ => 0) 0 0 0 0 := hP.frm q2G59 (by omega)
  have hN : HE G59 (b + 4) 0 zV := hN.frm q2G59 (by omega)
  have hO4 : HE G59 (b + 12) 0 zV := hO4.frm q2G59 (by omega)
  have hI : G59 (b + 20) = some (.inl (3, 2, .inr (.inr (.inr (.inr (fun i => if i < 0 then some (b + 293 + 8 * i) else none)))))) := (q2G59 _ (by omega)).trans hI
  refine r_putF hK lf_X_39 rfl ⟨_, rfl, rfl⟩ d_X_init_62 (hB1) rfl rfl (Nat.le_of_ble_eq_true rfl) ?_
  obtain ⟨G62, eG62⟩ : ∃ x, x = gup G59 b (.inr (7, [.ref (b + 1), .ref (b + 2), .ref (b + 4), .ref (b + 12), .ref (b + 20), .ref (b + 21), .null, .null, .int 0])) := ⟨_, rfl⟩
  show K _ _ _ _ (gup G59 b (.inr (7, [.ref (b + 1), .ref (b + 2), .ref (b + 4), .ref (b + 12), .ref (b + 20), .ref (b + 21), .null, .null, .int 0])))
  rw [← eG62]
  have qG62 : Frm G59 G62 b 1 := by rw [eG62]; exact Frm.up (by omega) (by omega)
  have hB1 : G62 b = some (.inr (7, [.ref (b + 1), .ref (b + 2), .ref (b + 4), .ref (b + 12), .ref (b + 20), .ref (b + 21), .null, .null, .int 0])) := by rw [eG62]; exact gup_s
  have hF := hF.tr (qG62.mono (show b ≤ b by omega) (show b + 1 ≤ b + 309 by omega))
  have hR : G62 (b + 1) = some (.inl (2, 8, .inr (.inr (.inr (.inr (fun i => if i < 0 then some (b + 277 + 2 * i) else none)))))) := (qG62 _ (by omega)).trans hR
  have hP : PX G62 (b + 2) (fun _ => 0) 0 0 0 0 := hP.frm qG62 (by omega)
  have hN : HE G62 (b + 4) 0 zV := hN.frm qG62 (by omega)
  have hO4 : HE G62 (b + 12) 0 zV := hO4.frm qG62 (by omega)
  have hI : G62 (b + 20) = some (.inl (3, 2, .inr (.inr (.inr (.inr (fun i => if i < 0 then some (b + 293 + 8 * i) else none)))))) := (qG62 _ (by omega)).trans hI
  have hA4 : AX G62 (b + 21) 0 0 := hA4.frm qG62 (by omega)
  have hA5 : ∀ i, i < 24 → HJ G62 (b + 21 + 2 + 8 * i) := fun i hi => (hA5 i hi).frm qG62 (by omega)
  refine r_aload_n hK d_X_init_65 rfl ?_
  show K _ _ _ (b + 215) _
  refine r_new hK cl_O wl_X_43 wi_O wz_O nf_O (by decide) (by omega) d_X_init_66 ?_
  obtain ⟨G66, eG66⟩ : ∃ x, x = gup G62 (b + 215) (.inr (5, [.null, .null, .null, .int 0])) := ⟨_, rfl⟩
  show K _ _ _ _ (gup G62 (b + 215) (.inr (5, [.null, .null, .null, .int 0])))
  rw [← eG66]
  have qG66 : Frm G62 G66 (b + 215) 1 := by rw [eG66]; exact Frm.up (by omega) (by omega)
  refine r_dup hK d_X_init_69 rfl ?_
  refine r_in (k' := 4) (mc' := 59) hK lm_X_45 d_X_init_70 (by decide) (by omega) (Nat.le_of_ble_eq_true rfl) ?_
  refine c_O_init (b := b + 215) (by rw [eG66]; exact gup_s) (fun G70 hS4 hS5 qG70 => kc_n ?_)
  have q2G70 : Frm G62 G70 (b + 215) 60 := (qG66.mono (show b + 215 ≤ b + 215 by omega) (show b + 215 + 1 ≤ b + 215 + 60 by omega)).tr qG70
  have hB1 := (q2G70 b (by omega)).trans hB1
  have hF := hF.tr (q2G70.mono (show b ≤ b + 215 by omega) (show b + 215 + 60 ≤ b + 309 by omega))
  have hR : G70 (b + 1) = some (.inl (2, 8, .inr (.inr (.inr (.inr (fun i => if i < 0 then some (b + 277 + 2 * i) else none)))))) := (q2G70 _ (by omega)).trans hR
  have hP : PX G70 (b + 2) (fun _ => 0) 0 0 0 0 := hP.frm q2G70 (by omega)
  have hN : HE G70 (b + 4) 0 zV := hN.frm q2G70 (by omega)
  have hO4 : HE G70 (b + 12) 0 zV := hO4.frm q2G70 (by omega)
  have hI : G70 (b + 20) = some (.inl (3, 2, .inr (.inr (.inr (.inr (fun i => if i < 0 then some (b + 293 + 8 * i) else none)))))) := (q2G70 _ (by omega)).trans hI
  have hA4 : AX G70 (b + 21) 0 0 := hA4.frm q2G70 (by omega)
  have hA5 : ∀ i, i < 24 → HJ G70 (b + 21 + 2 + 8 * i) := fun i hi => (hA5 i hi).frm q2G70 (by omega)
  refine r_putF hK lf_X_46 rfl ⟨_, rfl, rfl⟩ d_X_init_73 (hB1) rfl rfl (Nat.le_of_ble_eq_true rfl) ?_
  obtain ⟨G73, eG73⟩ : ∃ x, x = gup G70 b (.inr (7, [.ref (b + 1), .ref (b + 2), .ref (b + 4), .ref (b + 12), .ref (b + 20), .ref (b + 21), .ref (b + 215), .null, .int 0])) := ⟨_, rfl⟩
  show K _ _ _ _ (gup G70 b (.inr (7, [.ref (b + 1), .ref (b + 2), .ref (b + 4), .ref (b + 12), .ref (b + 20), .ref (b + 21), .ref (b + 215), .null, .int 0])))
  rw [← eG73]
  have qG73 : Frm G70 G73 b 1 := by rw [eG73]; exact Frm.up (by omega) (by omega)
  have hB1 : G73 b = some (.inr (7, [.ref (b + 1), .ref (b + 2), .ref (b + 4), .ref (b + 12), .ref (b + 20), .ref (b + 21), .ref (b + 215), .null, .int 0])) := by rw [eG73]; exact gup_s
  have hF := hF.tr (qG73.mono (show b ≤ b by omega) (show b + 1 ≤ b + 309 by omega))
  have hR : G73 (b + 1) = some (.inl (2, 8, .inr (.inr (.inr (.inr (fun i => if i < 0 then some (b + 277 + 2 * i) else none)))))) := (qG73 _ (by omega)).trans hR
  have hP : PX G73 (b + 2) (fun _ => 0) 0 0 0 0 := hP.frm qG73 (by omega)
  have hN : HE G73 (b + 4) 0 zV := hN.frm qG73 (by omega)
  have hO4 : HE G73 (b + 12) 0 zV := hO4.frm qG73 (by omega)
  have hI : G73 (b + 20) = some (.inl (3, 2, .inr (.inr (.inr (.inr (fun i => if i < 0 then some (b + 293 + 8 * i) else none)))))) := (qG73 _ (by omega)).trans hI
  have hA4 : AX G73 (b + 21) 0 0 := hA4.frm qG73 (by omega)
  have hA5 : ∀ i, i < 24 → HJ G73 (b + 21 + 2 + 8 * i) := fun i hi => (hA5 i hi).frm qG73 (by omega)
  have hS4 : OX G73 (b + 215) (fun _ => 0) (fun _ => 0) 0 := hS4.frm qG73 (by omega)
  have hS5 : stJ G73 (b + 215) := hS5.frm qG73 (by omega)
  refine r_aload_n hK d_X_init_76 rfl ?_
  show K _ _ _ (b + 275) _
  refine r_new hK cl_T wl_X_50 wi_T wz_T nf_T (by decide) (by omega) d_X_init_77 ?_
  obtain ⟨G77, eG77⟩ : ∃ x, x = gup G73 (b + 275) (.inr (2, [.null, .int 0])) := ⟨_, rfl⟩
  show K _ _ _ _ (gup G73 (b + 275) (.inr (2, [.null, .int 0])))
  rw [← eG77]
  have qG77 : Frm G73 G77 (b + 275) 1 := by rw [eG77]; exact Frm.up (by omega) (by omega)
  refine r_dup hK d_X_init_80 rfl ?_
  refine r_in (k' := 2) (mc' := 1) hK lm_X_52 d_X_init_81 (by decide) (by omega) (Nat.le_of_ble_eq_true rfl) ?_
  refine c_T_init (b := b + 275) (by rw [eG77]; exact gup_s) (fun G81 hT4 qG81 => kc_n ?_)
  have q2G81 : Frm G73 G81 (b + 275) 2 := (qG77.mono (show b + 275 ≤ b + 275 by omega) (show b + 275 + 1 ≤ b + 275 + 2 by omega)).tr qG81
  have hB1 := (q2G81 b (by omega)).trans hB1
  have hF := hF.tr (q2G81.mono (show b ≤ b + 275 by omega) (show b + 275 + 2 ≤ b + 309 by omega))
  have hR : G81 (b + 1) = some (.inl (2, 8, .inr (.inr (.inr (.inr (fun i => if i < 0 then some (b + 277 + 2 * i) else none)))))) := (q2G81 _ (by omega)).trans hR
  have hP : PX G81 (b + 2) (fun _ => 0) 0 0 0 0 := hP.frm q2G81 (by omega)
  have hN : HE G81 (b + 4) 0 zV := hN.frm q2G81 (by omega)
  have hO4 : HE G81 (b + 12) 0 zV := hO4.frm q2G81 (by omega)
  have hI : G81 (b + 20) = some (.inl (3, 2, .inr (.inr (.inr (.inr (fun i => if i < 0 then some (b + 293 + 8 * i) else none)))))) := (q2G81 _ (by omega)).trans hI
  have hA4 : AX G81 (b + 21) 0 0 := hA4.frm q2G81 (by omega)
  have hA5 : ∀ i, i < 24 → HJ G81 (b + 21 + 2 + 8 * i) := fun i hi => (hA5 i hi).frm q2G81 (by omega)
  have hS4 : OX G81 (b + 215) (fun _ => 0) (fun _ => 0) 0 := hS4.frm q2G81 (by omega)
  have hS5 : stJ G81 (b + 215) := hS5.frm q2G81 (by omega)
  refine r_putF hK lf_X_53 rfl ⟨_, rfl, rfl⟩ d_X_init_84 (hB1) rfl rfl (Nat.le_of_ble_eq_true rfl) ?_
  obtain ⟨G84, eG84⟩ : ∃ x, x = gup G81 b (.inr (7, [.ref (b + 1), .ref (b + 2), .ref (b + 4), .ref (b + 12), .ref (b + 20), .ref (b + 21), .ref (b + 215), .ref (b + 275), .int 0])) := ⟨_, rfl⟩
  show K _ _ _ _ (gup G81 b (.inr (7, [.ref (b + 1), .ref (b + 2), .ref (b + 4), .ref (b + 12), .ref (b + 20), .ref (b + 21), .ref (b + 215), .ref (b + 275), .int 0])))
  rw [← eG84]
  have qG84 : Frm G81 G84 b 1 := by rw [eG84]; exact Frm.up (by omega) (by omega)
  have hB1 : G84 b = some (.inr (7, [.ref (b + 1), .ref (b + 2), .ref (b + 4), .ref (b + 12), .ref (b + 20), .ref (b + 21), .ref (b + 215), .ref (b + 275), .int 0])) := by rw [eG84]; exact gup_s
  have hF := hF.tr (qG84.mono (show b ≤ b by omega) (show b + 1 ≤ b + 309 by omega))
  have hR : G84 (b + 1) = some (.inl (2, 8, .inr (.inr (.inr (.inr (fun i => if i < 0 then some (b + 277 + 2 * i) else none)))))) := (qG84 _ (by omega)).trans hR
  have hP : PX G84 (b + 2) (fun _ => 0) 0 0 0 0 := hP.frm qG84 (by omega)
  have hN : HE G84 (b + 4) 0 zV := hN.frm qG84 (by omega)
  have hO4 : HE G84 (b + 12) 0 zV := hO4.frm qG84 (by omega)
  have hI : G84 (b + 20) = some (.inl (3, 2, .inr (.inr (.inr (.inr (fun i => if i < 0 then some (b + 293 + 8 * i) else none)))))) := (qG84 _ (by omega)).trans hI
  have hA4 : AX G84 (b + 21) 0 0 := hA4.frm qG84 (by omega)
  have hA5 : ∀ i, i < 24 → HJ G84 (b + 21 + 2 + 8 * i) := fun i hi => (hA5 i hi).frm qG84 (by omega)
  have hS4 : OX G84 (b + 215) (fun _ => 0) (fun _ => 0) 0 := hS4.frm qG84 (by omega)
  have hS5 : stJ G84 (b + 215) := hS5.frm qG84 (by omega)
  have hT4 : TX G84 (b + 275) (fun _ => 0) 0 := hT4.frm qG84 (by omega)
  show K _ _ _ (b + 277) _
  refine r_iconst hK d_X_init_87 kc_0 ?_
  refine st_in_1_2 hK d_X_init_88 trivial ?_
  suffices L : ∀ j, j ≤ 8 → ∀ (z : Nat) (G1 : gG), z = b + 277 + 2 * j → G1 b = some (.inr (7, [.ref (b + 1), .ref (b + 2), .ref (b + 4), .ref (b + 12), .ref (b + 20), .ref (b + 21), .ref (b + 215), .ref (b + 275), .int 0])) → G1 (b + 1) = some (.inl (2, 8, .inr (.inr (.inr (.inr (fun i => if i < j then some (b + 277 + 2 * i) else none)))))) → (PX G1 (b + 2) (fun _ => 0) 0 0 0 0) → (HE G1 (b + 4) 0 zV) → (HE G1 (b + 12) 0 zV) → (G1 (b + 20) = some (.inl (3, 2, .inr (.inr (.inr (.inr (fun i => if i < 0 then some (b + 293 + 8 * i) else none))))))) → (AX G1 (b + 21) 0 0) → (∀ i, i < 24 → HJ G1 (b + 21 + 2 + 8 * i)) → (OX G1 (b + 215) (fun _ => 0) (fun _ => 0) 0) → (stJ G1 (b + 215)) → (TX G1 (b + 275) (fun _ => 0) 0) → (∀ i, i < j → XR1 G1 (b + 277 + 2 * i) false 0 0 zV) → Frm G G1 b 309 → K 89 [some (.ref b), some (.int (nI j))] [] z G1 from L 0 (Nat.zero_le _) _ _ rfl hB1 hR hP hN hO4 hI hA4 hA5 hS4 hS5 hT4 (fun i hi => absurd hi (by omega)) hF
  clear hB1 hR hP hN hO4 hI hA4 hA5 hS4 hS5 hT4 hF
  refine lpN 8 (fun j hj ih z G1 hz hB1 hR hP hN hO4 hI hA4 hA5 hS4 hS5 hT4 hL hF => ?_)
  refine r_iload_n hK d_X_init_89 rfl ?_
  refine r_aload_n hK d_X_init_90 rfl ?_
  refine r_get hK lf_X_11 d_X_init_91 (hB1) rfl ?_
  refine r_alen (v := 8) hK d_X_init_94 hR (by decide) rfl ?_
  refine r_icmp_ge (tgt := 117) hK d_X_init_95 rfl (fun h95 => ?_) (fun h95 => ?_)
  · skip
    have hq : j = 8 := by have := (cle (n := 8) (by decide) (by omega)).mp h95; omega
    subst hq
    subst hz
    refine r_same hK hR (g := fun i => some (b + 277 + 2 * i)) (fun i hi => if_pos hi) ?_
    obtain ⟨G117, eG117⟩ : ∃ x, x = gup G1 (b + 1) (.inl (2, 8, .inr (.inr (.inr (.inr (fun i => some (b + 277 + 2 * i))))))) := ⟨_, rfl⟩
    rw [← eG117]
    have qG117 : Frm G1 G117 (b + 1) 1 := by rw [eG117]; exact Frm.up (by omega) (by omega)
    have hR : G117 (b + 1) = some (.inl (2, 8, .inr (.inr (.inr (.inr (fun i => some (b + 277 + 2 * i))))))) := by rw [eG117]; exact gup_s
    have hB1 := (qG117 b (by omega)).trans hB1
    have hF := hF.tr (qG117.mono (show b ≤ b + 1 by omega) (show b + 1 + 1 ≤ b + 309 by omega))
    have hP : PX G117 (b + 2) (fun _ => 0) 0 0 0 0 := hP.frm qG117 (by omega)
    have hN : HE G117 (b + 4) 0 zV := hN.frm qG117 (by omega)
    have hO4 : HE G117 (b + 12) 0 zV := hO4.frm qG117 (by omega)
    have hI : G117 (b + 20) = some (.inl (3, 2, .inr (.inr (.inr (.inr (fun i => if i < 0 then some (b + 293 + 8 * i) else none)))))) := (qG117 _ (by omega)).trans hI
    have hA4 : AX G117 (b + 21) 0 0 := hA4.frm qG117 (by omega)
    have hA5 : ∀ i, i < 24 → HJ G117 (b + 21 + 2 + 8 * i) := fun i hi => (hA5 i hi).frm qG117 (by omega)
    have hS4 : OX G117 (b + 215) (fun _ => 0) (fun _ => 0) 0 := hS4.frm qG117 (by omega)
    have hS5 : stJ G117 (b + 215) := hS5.frm qG117 (by omega)
    have hT4 : TX G117 (b + 275) (fun _ => 0) 0 := hT4.frm qG117 (by omega)
    have hL9 : ∀ i, i < 8 → XR1 G117 (b + 277 + 2 * i) false 0 0 zV := fun i hi => (hL i hi).frm qG117 (by omega)
    clear hL
    show K _ _ _ (b + 293) _
    refine r_iconst hK d_X_init_117 kc_0 ?_
    refine st_in_1_2 hK d_X_init_118 trivial ?_
    suffices L : ∀ j, j ≤ 2 → ∀ (z : Nat) (G1 : gG), z = b + 293 + 8 * j → G1 b = some (.inr (7, [.ref (b + 1), .ref (b + 2), .ref (b + 4), .ref (b + 12), .ref (b + 20), .ref (b + 21), .ref (b + 215), .ref (b + 275), .int 0])) → G1 (b + 20) = some (.inl (3, 2, .inr (.inr (.inr (.inr (fun i => if i < j then some (b + 293 + 8 * i) else none)))))) → (G1 (b + 1) = some (.inl (2, 8, .inr (.inr (.inr (.inr (fun i => some (b + 277 + 2 * i)))))))) → (PX G1 (b + 2) (fun _ => 0) 0 0 0 0) → (HE G1 (b + 4) 0 zV) → (HE G1 (b + 12) 0 zV) → (AX G1 (b + 21) 0 0) → (∀ i, i < 24 → HJ G1 (b + 21 + 2 + 8 * i)) → (OX G1 (b + 215) (fun _ => 0) (fun _ => 0) 0) → (stJ G1 (b + 215)) → (TX G1 (b + 275) (fun _ => 0) 0) → (∀ i, i < 8 → XR1 G1 (b + 277 + 2 * i) false 0 0 zV) → (∀ i, i < j → HE G1 (b + 293 + 8 * i) 0 zV) → Frm G G1 b 309 → K 119 [some (.ref b), some (.int (nI j))] [] z G1 from L 0 (Nat.zero_le _) _ _ rfl hB1 hI hR hP hN hO4 hA4 hA5 hS4 hS5 hT4 hL9 (fun i hi => absurd hi (by omega)) hF
    clear hB1 hI hR hP hN hO4 hA4 hA5 hS4 hS5 hT4 hL9 hF
    refine lpN 2 (fun j hj ih z G1 hz hB1 hI hR hP hN hO4 hA4 hA5 hS4 hS5 hT4 hL9 hL hF => ?_)
    refine r_iload_n hK d_X_init_119 rfl ?_
    refine r_aload_n hK d_X_init_120 rfl ?_
    refine r_get hK lf_X_32 d_X_init_121 (hB1) rfl ?_
    refine r_alen (v := 2) hK d_X_init_124 hI (by decide) rfl ?_
    refine r_icmp_ge (tgt := 147) hK d_X_init_125 rfl (fun h125 => ?_) (fun h125 => ?_)
    · skip
      have hq : j = 2 := by have := (cle (n := 2) (by decide) (by omega)).mp h125; omega
      subst hq
      subst hz
      refine r_same hK hI (g := fun i => some (b + 293 + 8 * i)) (fun i hi => if_pos hi) ?_
      obtain ⟨G147, eG147⟩ : ∃ x, x = gup G1 (b + 20) (.inl (3, 2, .inr (.inr (.inr (.inr (fun i => some (b + 293 + 8 * i))))))) := ⟨_, rfl⟩
      rw [← eG147]
      have qG147 : Frm G1 G147 (b + 20) 1 := by rw [eG147]; exact Frm.up (by omega) (by omega)
      have hI : G147 (b + 20) = some (.inl (3, 2, .inr (.inr (.inr (.inr (fun i => some (b + 293 + 8 * i))))))) := by rw [eG147]; exact gup_s
      have hB1 := (qG147 b (by omega)).trans hB1
      have hF := hF.tr (qG147.mono (show b ≤ b + 20 by omega) (show b + 20 + 1 ≤ b + 309 by omega))
      have hR : G147 (b + 1) = some (.inl (2, 8, .inr (.inr (.inr (.inr (fun i => some (b + 277 + 2 * i))))))) := (qG147 _ (by omega)).trans hR
      have hP : PX G147 (b + 2) (fun _ => 0) 0 0 0 0 := hP.frm qG147 (by omega)
      have hN : HE G147 (b + 4) 0 zV := hN.frm qG147 (by omega)
      have hO4 : HE G147 (b + 12) 0 zV := hO4.frm qG147 (by omega)
      have hA4 : AX G147 (b + 21) 0 0 := hA4.frm qG147 (by omega)
      have hA5 : ∀ i, i < 24 → HJ G147 (b + 21 + 2 + 8 * i) := fun i hi => (hA5 i hi).frm qG147 (by omega)
      have hS4 : OX G147 (b + 215) (fun _ => 0) (fun _ => 0) 0 := hS4.frm qG147 (by omega)
      have hS5 : stJ G147 (b + 215) := hS5.frm qG147 (by omega)
      have hT4 : TX G147 (b + 275) (fun _ => 0) 0 := hT4.frm qG147 (by omega)
      have hL9 : ∀ i, i < 8 → XR1 G147 (b + 277 + 2 * i) false 0 0 zV := fun i hi => (hL9 i hi).frm qG147 (by omega)
      have hL : ∀ i, i < 2 → HE G147 (b + 293 + 8 * i) 0 zV := fun i hi => (hL i hi).frm qG147 (by omega)
      exact r_vret hK rfl (by omega) d_X_init_147 (hQ _ ⟨⟨hB1, hR, hI⟩, ⟨0, 0, hP⟩, hN, hO4.j, ⟨0, by omega, hA4, hA5, fun i hi => absurd hi (by omega)⟩, ⟨_, _, _, hS4, hS5⟩, hT4, hL9, hL⟩ hF)
    · skip
      have hq : j < 2 := Nat.not_le.mp (fun q => h125 ((cle (n := 2) (by decide) (by omega)).mpr q))
      subst hz
      refine r_aload_n hK d_X_init_128 rfl ?_
      refine r_get hK lf_X_32 d_X_init_129 (hB1) rfl ?_
      refine r_iload_n hK d_X_init_132 rfl ?_
      refine r_new hK cl_H wl_X_22 wi_H wz_H nf_H (by decide) (by omega) d_X_init_133 ?_
      obtain ⟨G119a, eG119a⟩ : ∃ x, x = gup G1 (b + 293 + 8 * j) (.inr (3, [.null, .int 0, .int 0, .int 0, .int 0, .int 0, .int 0, .int 0])) := ⟨_, rfl⟩
      show K _ _ _ _ (gup G1 (b + 293 + 8 * j) (.inr (3, [.null, .int 0, .int 0, .int 0, .int 0, .int 0, .int 0, .int 0])))
      rw [← eG119a]
      have qG119a : Frm G1 G119a (b + 293 + 8 * j) 1 := by rw [eG119a]; exact Frm.up (by omega) (by omega)
      refine r_dup hK d_X_init_136 rfl ?_
      refine r_in (k' := 3) (mc' := 7) hK lm_X_24 d_X_init_137 (by decide) (by omega) (Nat.le_of_ble_eq_true rfl) ?_
      refine c_H_init (b := b + 293 + 8 * j) (by rw [eG119a]; exact gup_s) (fun G119b hN5 qG119b => kc_n ?_)
      have q2G119b : Frm G1 G119b (b + 293 + 8 * j) 8 := (qG119a.mono (show b + 293 + 8 * j ≤ b + 293 + 8 * j by omega) (show b + 293 + 8 * j + 1 ≤ b + 293 + 8 * j + 8 by omega)).tr qG119b
      have hB1 := (q2G119b b (by omega)).trans hB1
      have hI := (q2G119b (b + 20) (by omega)).trans hI
      have hF := hF.tr (q2G119b.mono (show b ≤ b + 293 + 8 * j by omega) (show b + 293 + 8 * j + 8 ≤ b + 309 by omega))
      have hL : ∀ i, i < j → HE G119b (b + 293 + 8 * i) 0 zV := fun i hi => (hL i hi).frm q2G119b (by omega)
      have hR : G119b (b + 1) = some (.inl (2, 8, .inr (.inr (.inr (.inr (fun i => some (b + 277 + 2 * i))))))) := (q2G119b _ (by omega)).trans hR
      have hP : PX G119b (b + 2) (fun _ => 0) 0 0 0 0 := hP.frm q2G119b (by omega)
      have hN : HE G119b (b + 4) 0 zV := hN.frm q2G119b (by omega)
      have hO4 : HE G119b (b + 12) 0 zV := hO4.frm q2G119b (by omega)
      have hA4 : AX G119b (b + 21) 0 0 := hA4.frm q2G119b (by omega)
      have hA5 : ∀ i, i < 24 → HJ G119b (b + 21 + 2 + 8 * i) := fun i hi => (hA5 i hi).frm q2G119b (by omega)
      have hS4 : OX G119b (b + 215) (fun _ => 0) (fun _ => 0) 0 := hS4.frm q2G119b (by omega)
      have hS5 : stJ G119b (b + 215) := hS5.frm q2G119b (by omega)
      have hT4 : TX G119b (b + 275) (fun _ => 0) 0 := hT4.frm q2G119b (by omega)
      have hL9 : ∀ i, i < 8 → XR1 G119b (b + 277 + 2 * i) false 0 0 zV := fun i hi => (hL9 i hi).frm q2G119b (by omega)
      obtain ⟨w5, ⟨hX5, -⟩, -⟩ := id hN5
      refine r_aast hK d_X_init_140 hI hX5 (vp_in_nI hq (by omega)) (by omega) ?_
      rw [nI_clamp (by omega), show va_up (fun i => if i < j then some (b + 293 + 8 * i) else none) j (some (b + 293 + 8 * j)) = (fun i => if i < j + 1 then some (b + 293 + 8 * i) else none) from up_lt (fun i => b + 293 + 8 * i)]
      obtain ⟨G119c, eG119c⟩ : ∃ x, x = gup G119b (b + 20) (.inl (3, 2, .inr (.inr (.inr (.inr (fun i => if i < (j + 1) then some (b + 293 + 8 * i) else none)))))) := ⟨_, rfl⟩
      show K _ _ _ _ (gup G119b (b + 20) (.inl (3, 2, .inr (.inr (.inr (.inr (fun i => if i < (j + 1) then some (b + 293 + 8 * i) else none)))))))
      rw [← eG119c]
      have qG119c : Frm G119b G119c (b + 20) 1 := by rw [eG119c]; exact Frm.up (by omega) (by omega)
      have hB1 := (qG119c b (by omega)).trans hB1
      have hF := hF.tr (qG119c.mono (show b ≤ b + 20 by omega) (show b + 20 + 1 ≤ b + 309 by omega))
      have hL : ∀ i, i < j + 1 → HE G119c (b + 293 + 8 * i) 0 zV := fun i hi => by
        by_cases e : i = j
        · subst e; exact (hN5).frm qG119c (by omega)
        · exact (hL i (by omega)).frm qG119c (by omega)
      have hR : G119c (b + 1) = some (.inl (2, 8, .inr (.inr (.inr (.inr (fun i => some (b + 277 + 2 * i))))))) := (qG119c _ (by omega)).trans hR
      have hP : PX G119c (b + 2) (fun _ => 0) 0 0 0 0 := hP.frm qG119c (by omega)
      have hN : HE G119c (b + 4) 0 zV := hN.frm qG119c (by omega)
      have hO4 : HE G119c (b + 12) 0 zV := hO4.frm qG119c (by omega)
      have hA4 : AX G119c (b + 21) 0 0 := hA4.frm qG119c (by omega)
      have hA5 : ∀ i, i < 24 → HJ G119c (b + 21 + 2 + 8 * i) := fun i hi => (hA5 i hi).frm qG119c (by omega)
      have hS4 : OX G119c (b + 215) (fun _ => 0) (fun _ => 0) 0 := hS4.frm qG119c (by omega)
      have hS5 : stJ G119c (b + 215) := hS5.frm qG119c (by omega)
      have hT4 : TX G119c (b + 275) (fun _ => 0) 0 := hT4.frm qG119c (by omega)
      have hL9 : ∀ i, i < 8 → XR1 G119c (b + 277 + 2 * i) false 0 0 zV := fun i hi => (hL9 i hi).frm qG119c (by omega)
      first | refine iN_1_2 hK d_X_init_141 trivial ?_ | refine ii_1_1_2 hK d_X_init_141 trivial ?_
      refine r_goto (tgt := 119) hK d_X_init_144 rfl ?_
      exact ih hq _ _ (by omega) hB1 (by rw [eG119c]; exact gup_s) hR hP hN hO4 hA4 hA5 hS4 hS5 hT4 hL9 hL hF
  · skip
    have hq : j < 8 := Nat.not_le.mp (fun q => h95 ((cle (n := 8) (by decide) (by omega)).mpr q))
    subst hz
    refine r_aload_n hK d_X_init_98 rfl ?_
    refine r_get hK lf_X_11 d_X_init_99 (hB1) rfl ?_
    refine r_iload_n hK d_X_init_102 rfl ?_
    refine r_new hK cl_R wl_X_9 wi_R wz_R nf_R (by decide) (by omega) d_X_init_103 ?_
    obtain ⟨G89a, eG89a⟩ : ∃ x, x = gup G1 (b + 277 + 2 * j) (.inr (1, [.null, .int 0, .int 0, .int 0])) := ⟨_, rfl⟩
    show K _ _ _ _ (gup G1 (b + 277 + 2 * j) (.inr (1, [.null, .int 0, .int 0, .int 0])))
    rw [← eG89a]
    have qG89a : Frm G1 G89a (b + 277 + 2 * j) 1 := by rw [eG89a]; exact Frm.up (by omega) (by omega)
    refine r_dup hK d_X_init_106 rfl ?_
    refine r_in (k' := 2) (mc' := 1) hK lm_X_57 d_X_init_107 (by decide) (by omega) (Nat.le_of_ble_eq_true rfl) ?_
    refine c_R_init (b := b + 277 + 2 * j) (by rw [eG89a]; exact gup_s) (fun G89b hN5 qG89b => kc_n ?_)
    have q2G89b : Frm G1 G89b (b + 277 + 2 * j) 2 := (qG89a.mono (show b + 277 + 2 * j ≤ b + 277 + 2 * j by omega) (show b + 277 + 2 * j + 1 ≤ b + 277 + 2 * j + 2 by omega)).tr qG89b
    have hB1 := (q2G89b b (by omega)).trans hB1
    have hR := (q2G89b (b + 1) (by omega)).trans hR
    have hF := hF.tr (q2G89b.mono (show b ≤ b + 277 + 2 * j by omega) (show b + 277 + 2 * j + 2 ≤ b + 309 by omega))
    have hL : ∀ i, i < j → XR1 G89b (b + 277 + 2 * i) false 0 0 zV := fun i hi => (hL i hi).frm q2G89b (by omega)
    have hP : PX G89b (b + 2) (fun _ => 0) 0 0 0 0 := hP.frm q2G89b (by omega)
    have hN : HE G89b (b + 4) 0 zV := hN.frm q2G89b (by omega)
    have hO4 : HE G89b (b + 12) 0 zV := hO4.frm q2G89b (by omega)
    have hI : G89b (b + 20) = some (.inl (3, 2, .inr (.inr (.inr (.inr (fun i => if i < 0 then some (b + 293 + 8 * i) else none)))))) := (q2G89b _ (by omega)).trans hI
    have hA4 : AX G89b (b + 21) 0 0 := hA4.frm q2G89b (by omega)
    have hA5 : ∀ i, i < 24 → HJ G89b (b + 21 + 2 + 8 * i) := fun i hi => (hA5 i hi).frm q2G89b (by omega)
    have hS4 : OX G89b (b + 215) (fun _ => 0) (fun _ => 0) 0 := hS4.frm q2G89b (by omega)
    have hS5 : stJ G89b (b + 215) := hS5.frm q2G89b (by omega)
    have hT4 : TX G89b (b + 275) (fun _ => 0) 0 := hT4.frm q2G89b (by omega)
    have hX5 := hN5.1
    refine r_aast hK d_X_init_110 hR hX5 (vp_in_nI hq (by omega)) (by omega) ?_
    rw [nI_clamp (by omega), show va_up (fun i => if i < j then some (b + 277 + 2 * i) else none) j (some (b + 277 + 2 * j)) = (fun i => if i < j + 1 then some (b + 277 + 2 * i) else none) from up_lt (fun i => b + 277 + 2 * i)]
    obtain ⟨G89c, eG89c⟩ : ∃ x, x = gup G89b (b + 1) (.inl (2, 8, .inr (.inr (.inr (.inr (fun i => if i < (j + 1) then some (b + 277 + 2 * i) else none)))))) := ⟨_, rfl⟩
    show K _ _ _ _ (gup G89b (b + 1) (.inl (2, 8, .inr (.inr (.inr (.inr (fun i => if i < (j + 1) then some (b + 277 + 2 * i) else none)))))))
    rw [← eG89c]
    have qG89c : Frm G89b G89c (b + 1) 1 := by rw [eG89c]; exact Frm.up (by omega) (by omega)
    have hB1 := (qG89c b (by omega)).trans hB1
    have hF := hF.tr (qG89c.mono (show b ≤ b + 1 by omega) (show b + 1 + 1 ≤ b + 309 by omega))
    have hL : ∀ i, i < j + 1 → XR1 G89c (b + 277 + 2 * i) false 0 0 zV := fun i hi => by
      by_cases e : i = j
      · subst e; exact (show XR1 G89b (b + 277 + 2 * i) false 0 0 zV from ⟨_, hN5, fun _ _ => rfl⟩).frm qG89c (by omega)
      · exact (hL i (by omega)).frm qG89c (by omega)
    have hP : PX G89c (b + 2) (fun _ => 0) 0 0 0 0 := hP.frm qG89c (by omega)
    have hN : HE G89c (b + 4) 0 zV := hN.frm qG89c (by omega)
    have hO4 : HE G89c (b + 12) 0 zV := hO4.frm qG89c (by omega)
    have hI : G89c (b + 20) = some (.inl (3, 2, .inr (.inr (.inr (.inr (fun i => if i < 0 then some (b + 293 + 8 * i) else none)))))) := (qG89c _ (by omega)).trans hI
    have hA4 : AX G89c (b + 21) 0 0 := hA4.frm qG89c (by omega)
    have hA5 : ∀ i, i < 24 → HJ G89c (b + 21 + 2 + 8 * i) := fun i hi => (hA5 i hi).frm qG89c (by omega)
    have hS4 : OX G89c (b + 215) (fun _ => 0) (fun _ => 0) 0 := hS4.frm qG89c (by omega)
    have hS5 : stJ G89c (b + 215) := hS5.frm qG89c (by omega)
    have hT4 : TX G89c (b + 275) (fun _ => 0) 0 := hT4.frm qG89c (by omega)
    first | refine iN_1_2 hK d_X_init_111 trivial ?_ | refine ii_1_1_2 hK d_X_init_111 trivial ?_
    refine r_goto (tgt := 89) hK d_X_init_114 rfl ?_
    exact ih hq _ _ (by omega) hB1 (by rw [eG89c]; exact gup_s) hP hN hO4 hI hA4 hA5 hS4 hS5 hT4 hL hF
