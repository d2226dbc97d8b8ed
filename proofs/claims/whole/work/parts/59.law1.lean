-- the law's own frame: the same machine laws, with the law's room and end, and the script beside them
def Cw (E : gX) (own : String) (cc : ByteArray) (ret : Option FieldType) (nL sz0 : Nat) (G0 : gG) (sb sL : Nat) (sxs : Nat → Int32) (K : Nat → List (Option Value) → List Value → Nat → gG → Prop) : Prop :=
  ∃ (p : Program) (e : Env) (s : State) (m : MethodId) (args : Array Value) (below : List Frame) (meth : Method) (c : Code) (Qm : State → Prop), gC E own cc ret nL sz0 false G0 p s m args meth c ∧ va_X sb sL sxs s s.heap ∧ sb < s.heap.size ∧ ¬ gA G0 s.heap.size sb ∧ K = gK E p e room_1 s m args below meth c nL G0 Qm
section LW
variable {E : gX} {own : String} {cc : ByteArray} {ret : Option FieldType} {nL sz0 : Nat} {G0 : gG} {K : Nat → List (Option Value) → List Value → Nat → gG → Prop}
variable {pc sz : Nat} {Ls : List (Option Value)} {st : List Value} {G : gG} {sb sL : Nat} {sxs : Nat → Int32}
theorem w_iconst (hK : Cw E own cc ret nL sz0 G0 sb sL sxs K) {n : Int} {v : Int32} (hd : decode cc pc = .ok (.iconst n, 1)) (hv : Int32.ofInt n = v) (kk : K (pc + 1) Ls (.int v :: st) sz G) : K pc Ls st sz G := by
  obtain ⟨p, e, s, m, args, below, meth, c, Qm, C, X1, X2, X3, rfl⟩ := hK
  intro H locs ls h1 h2 h3 h4 h5 h6
  exact lv_iconst C.1 C.2.1 hd hv (kk H locs ls h1 h2 h3 h4 h5 h6)
theorem w_bipush (hK : Cw E own cc ret nL sz0 G0 sb sL sxs K) {n : Int} {v : Int32} (hd : decode cc pc = .ok (.bipush n, 2)) (hv : (Int8.ofInt n).toInt32 = v) (kk : K (pc + 2) Ls (.int v :: st) sz G) : K pc Ls st sz G := by
  obtain ⟨p, e, s, m, args, below, meth, c, Qm, C, X1, X2, X3, rfl⟩ := hK
  intro H locs ls h1 h2 h3 h4 h5 h6
  exact lv_bipush C.1 C.2.1 hd hv (kk H locs ls h1 h2 h3 h4 h5 h6)
theorem w_iload_n (hK : Cw E own cc ret nL sz0 G0 sb sL sxs K) {j : Fin 4} {x : Int32} (hd : decode cc pc = .ok (.iload_n j, 1)) (hv : Ls[(j : Nat)]? = some (some (.int x))) (kk : K (pc + 1) Ls (.int x :: st) sz G) : K pc Ls st sz G := by
  obtain ⟨p, e, s, m, args, below, meth, c, Qm, C, X1, X2, X3, rfl⟩ := hK
  intro H locs ls h1 h2 h3 h4 h5 h6
  exact lv_iload_n C.1 C.2.1 hd rfl (h5.2.2 _ _ hv) (kk H locs ls h1 h2 h3 h4 h5 h6)
theorem w_aload_n (hK : Cw E own cc ret nL sz0 G0 sb sL sxs K) {j : Fin 4} {x : Nat} (hd : decode cc pc = .ok (.aload_n j, 1)) (hv : Ls[(j : Nat)]? = some (some (.ref x))) (kk : K (pc + 1) Ls (.ref x :: st) sz G) : K pc Ls st sz G := by
  obtain ⟨p, e, s, m, args, below, meth, c, Qm, C, X1, X2, X3, rfl⟩ := hK
  intro H locs ls h1 h2 h3 h4 h5 h6
  exact lv_aload_n C.1 C.2.1 hd rfl (h5.2.2 _ _ hv) (kk H locs ls h1 h2 h3 h4 h5 h6)
theorem w_iadd (hK : Cw E own cc ret nL sz0 G0 sb sL sxs K) {x y : Int32} (hd : decode cc pc = .ok (.iadd, 1))  (kk : K (pc + 1) Ls (.int (x + y) :: st) sz G) : K pc Ls (.int y :: .int x :: st) sz G := by
  obtain ⟨p, e, s, m, args, below, meth, c, Qm, C, X1, X2, X3, rfl⟩ := hK
  intro H locs ls h1 h2 h3 h4 h5 h6
  exact lv_iadd C.1 C.2.1 hd (kk H locs ls h1 h2 h3 h4 h5 h6)
theorem w_isub (hK : Cw E own cc ret nL sz0 G0 sb sL sxs K) {x y : Int32} (hd : decode cc pc = .ok (.isub, 1))  (kk : K (pc + 1) Ls (.int (x - y) :: st) sz G) : K pc Ls (.int y :: .int x :: st) sz G := by
  obtain ⟨p, e, s, m, args, below, meth, c, Qm, C, X1, X2, X3, rfl⟩ := hK
  intro H locs ls h1 h2 h3 h4 h5 h6
  exact lv_isub C.1 C.2.1 hd (kk H locs ls h1 h2 h3 h4 h5 h6)
theorem w_iand (hK : Cw E own cc ret nL sz0 G0 sb sL sxs K) {x y : Int32} (hd : decode cc pc = .ok (.iand, 1))  (kk : K (pc + 1) Ls (.int (x &&& y) :: st) sz G) : K pc Ls (.int y :: .int x :: st) sz G := by
  obtain ⟨p, e, s, m, args, below, meth, c, Qm, C, X1, X2, X3, rfl⟩ := hK
  intro H locs ls h1 h2 h3 h4 h5 h6
  exact lv_iand C.1 C.2.1 hd (kk H locs ls h1 h2 h3 h4 h5 h6)
theorem w_dup (hK : Cw E own cc ret nL sz0 G0 sb sL sxs K) {va : Value} (hd : decode cc pc = .ok (.dup, 1)) (hva : va.category = 1) (kk : K (pc + 1) Ls (va :: va :: st) sz G) : K pc Ls (va :: st) sz G := by
  obtain ⟨p, e, s, m, args, below, meth, c, Qm, C, X1, X2, X3, rfl⟩ := hK
  intro H locs ls h1 h2 h3 h4 h5 h6
  exact lv_dup C.1 C.2.1 hd hva (kk H locs ls h1 h2 h3 h4 h5 h6)
theorem w_goto (hK : Cw E own cc ret nL sz0 G0 sb sL sxs K) {off : Int} {tgt : Nat} (hd : decode cc pc = .ok (.goto off, 3)) (ht : (pc : Int) + off = (tgt : Int)) (kk : K tgt Ls st sz G) : K pc Ls st sz G := by
  obtain ⟨p, e, s, m, args, below, meth, c, Qm, C, X1, X2, X3, rfl⟩ := hK
  intro H locs ls h1 h2 h3 h4 h5 h6
  exact lv_goto C.1 C.2.1 hd ht (kk H locs ls h1 h2 h3 h4 h5 h6)
theorem w_icmp_eq (hK : Cw E own cc ret nL sz0 G0 sb sL sxs K) {x y : Int32} {off : Int} {tgt : Nat} (hd : decode cc pc = .ok (.if_icmp .eq off, 3)) (ht : (pc : Int) + off = (tgt : Int)) (kt : x = y → K tgt Ls st sz G) (kf : ¬ x = y → K (pc + 3) Ls st sz G) : K pc Ls (.int y :: .int x :: st) sz G := by
  obtain ⟨p, e, s, m, args, below, meth, c, Qm, C, X1, X2, X3, rfl⟩ := hK
  intro H locs ls h1 h2 h3 h4 h5 h6
  exact lv_icmp_eq C.1 C.2.1 hd ht (fun q => kt q H locs ls h1 h2 h3 h4 h5 h6) (fun q => kf q H locs ls h1 h2 h3 h4 h5 h6)
theorem w_icmp_gt (hK : Cw E own cc ret nL sz0 G0 sb sL sxs K) {x y : Int32} {off : Int} {tgt : Nat} (hd : decode cc pc = .ok (.if_icmp .gt off, 3)) (ht : (pc : Int) + off = (tgt : Int)) (kt : y < x → K tgt Ls st sz G) (kf : ¬ y < x → K (pc + 3) Ls st sz G) : K pc Ls (.int y :: .int x :: st) sz G := by
  obtain ⟨p, e, s, m, args, below, meth, c, Qm, C, X1, X2, X3, rfl⟩ := hK
  intro H locs ls h1 h2 h3 h4 h5 h6
  exact lv_icmp_gt C.1 C.2.1 hd ht (fun q => kt q H locs ls h1 h2 h3 h4 h5 h6) (fun q => kf q H locs ls h1 h2 h3 h4 h5 h6)
theorem w_istore_n (hK : Cw E own cc ret nL sz0 G0 sb sL sxs K) {j : Fin 4} {x : Int32} (hd : decode cc pc = .ok (.istore_n j, 1)) (hj : (j : Nat) < Ls.length) (hp : pOk Ls (j : Nat)) (kk : K (pc + 1) (Ls.set (j : Nat) (some (.int x))) st sz G) : K pc Ls (.int x :: st) sz G := by
  obtain ⟨p, e, s, m, args, below, meth, c, Qm, C, X1, X2, X3, rfl⟩ := hK
  intro H locs ls h1 h2 h3 h4 h5 h6
  have hLl : Ls.length = nL := h5.1.symm.trans h6
  refine lv_istore_n C.1 C.2.1 hd rfl (lvL_has h5 h6) (by rw [← hLl]; exact hj) rfl (fun ls' hl' => ?_)
  exact kk H locs ls' h1 h2 h3 h4 (lvL_st1 hLl hp hl') hl'.1
theorem w_astore_n (hK : Cw E own cc ret nL sz0 G0 sb sL sxs K) {j : Fin 4} {x : Nat} (hd : decode cc pc = .ok (.astore_n j, 1)) (hj : (j : Nat) < Ls.length) (hp : pOk Ls (j : Nat)) (kk : K (pc + 1) (Ls.set (j : Nat) (some (.ref x))) st sz G) : K pc Ls (.ref x :: st) sz G := by
  obtain ⟨p, e, s, m, args, below, meth, c, Qm, C, X1, X2, X3, rfl⟩ := hK
  intro H locs ls h1 h2 h3 h4 h5 h6
  have hLl : Ls.length = nL := h5.1.symm.trans h6
  refine lv_astore_n C.1 C.2.1 hd rfl (lvL_has h5 h6) (by rw [← hLl]; exact hj) rfl (fun ls' hl' => ?_)
  exact kk H locs ls' h1 h2 h3 h4 (lvL_st1 hLl hp hl') hl'.1
theorem w_iinc (hK : Cw E own cc ret nL sz0 G0 sb sL sxs K) {i : Nat} {n : Int} {x v : Int32} (hd : decode cc pc = .ok (.iinc i n, 3)) (hx : Ls[i]? = some (some (.int x))) (hv : x + Int32.ofInt n = v) (hp : pOk Ls i) (kk : K (pc + 3) (Ls.set i (some (.int v))) st sz G) : K pc Ls st sz G := by
  obtain ⟨p, e, s, m, args, below, meth, c, Qm, C, X1, X2, X3, rfl⟩ := hK
  intro H locs ls h1 h2 h3 h4 h5 h6
  have hl := lvL_has h5 h6
  obtain ⟨j, hj⟩ := List.getElem?_of_mem (lvP_in hx)
  have hLl : Ls.length = nL := h5.1.symm.trans h6
  refine lv_iinc C.1 C.2.1 hd hl hj hv (by rw [← hLl]; exact (List.getElem?_eq_some_iff.mp hx).1) rfl (fun ls' hl' => ?_)
  exact kk H locs ls' h1 h2 h3 h4 (lvL_st1 hLl hp hl') hl'.1
theorem w_table (hK : Cw E own cc ret nL sz0 G0 sb sL sxs K) {dflt lo hi : Int} {offs : Array Int} {len td : Nat} {x : Int32} (hd : decode cc pc = .ok (.tableswitch dflt lo hi offs, len)) (ho : (offs.size : Int) = hi - lo + 1 ∧ offs.toList.all (fun o => decide (0 ≤ (pc : Int) + o)) = true) (ht : (pc : Int) + dflt = (td : Int)) (kd : x.toInt < lo ∨ hi < x.toInt → K td Ls st sz G) (ki : swT (fun q => K q Ls st sz G) pc x.toInt lo offs.toList) : K pc Ls (.int x :: st) sz G := by
  obtain ⟨p, e, s, m, args, below, meth, c, Qm, C, X1, X2, X3, rfl⟩ := hK
  intro H locs ls h1 h2 h3 h4 h5 h6
  by_cases q1 : x.toInt < lo
  · exact lv_tableOut C.1 C.2.1 hd (Or.inl q1) ht (kd (Or.inl q1) H locs ls h1 h2 h3 h4 h5 h6)
  by_cases q2 : hi < x.toInt
  · exact lv_tableOut C.1 C.2.1 hd (Or.inr q2) ht (kd (Or.inr q2) H locs ls h1 h2 h3 h4 h5 h6)
  have hj : (x.toInt - lo).toNat < offs.size := by omega
  have hget : offs[(x.toInt - lo).toNat]? = some offs[(x.toInt - lo).toNat] := Array.getElem?_eq_getElem hj
  generalize offs[(x.toInt - lo).toNat] = off at hget
  have hl : offs.toList[(x.toInt - lo).toNat]? = some off := by rw [Array.getElem?_toList]; exact hget
  have hpos : 0 ≤ (pc : Int) + off := by
    have := List.all_eq_true.mp ho.2 off (List.mem_of_getElem? hl)
    simpa using this
  have := swT_at offs.toList lo (x.toInt - lo).toNat off ki hl (by omega)
  exact lv_tableIn C.1 C.2.1 hd q1 q2 hget (tgt := ((pc : Int) + off).toNat) (by omega) (this H locs ls h1 h2 h3 h4 h5 h6)
theorem w_new (hK : Cw E own cc ret nL sz0 G0 sb sL sxs K) {idx ci N : Nat} {CC : String} {T : u_T} {ty0 : Nat → FieldType} {fs : List Value} (hc : ClOk ci CC T N ty0) (hcl : Cond.classLink own idx CC ∈ tbl) (hins : Cond.instantiable CC N ∈ tbl) (hini : Cond.initialized CC ∈ tbl) (hfs : ∀ j, j < N → defaultValue (ty0 j) = vp_V fs j) (hN : N ≤ 1100) (hm : sz + 1 ≤ sz0 + 6000) (hd : decode cc pc = .ok (.new idx, 3)) (kk : K (pc + 3) Ls (.ref sz :: st) (sz + 1) (gup G sz (.inr (ci, fs)))) : K pc Ls st sz G := by
  obtain ⟨p, e, s, m, args, below, meth, c, Qm, C, X1, X2, X3, rfl⟩ := hK
  intro H locs ls h1 h2 h3 h4 h5 h6
  have hts := C.2.2.2.2.2.1
  have hKa := C.2.2.2.2.2.2.2.2.1
  have hKn := hKa.1 ci _ hc.1
  have hs0 : s.heap.size = sz0 := C.2.2.2.2.2.2.2.2.2.2.1
  refine W.newcK C.1 C.2.1 C.2.2.2.2.1 (hts _ hcl) (hts _ hins) (hts _ hini) rfl hd (by show sz - s.heap.size + 1 ≤ 600000; omega) (by show 1100 * (sz - s.heap.size) + N ≤ 7302249; omega) hKn.2.1 h1.1 fun H1 kC hkC e1 z1 o1 => ?_
  exact g_alloc kk h1 h2 h3 h4 h5 h6 hN z1 o1 ⟨_, hc.1, (u_born ty0 hts hc.2.1 hKn hkC e1 hc.2.2.1).to hfs⟩
theorem w_inv (hK : Cw E own cc ret nL sz0 G0 sb sL sxs K) {idx n ci b k' mc' : Nat} {y : MethodName} {As rest : List Value} {fs : List Value} (hl : LkV own idx y n ci) (hn : As.length = n) (hG : G b = some (.inr (ci, fs))) (hk : k' ≤ 63) (hm : sz + mc' ≤ sz0 + 6000) (hrest : (rest.map fun v => v.category).sum ≤ 8) (hd : decode cc pc = .ok (.invokevirtual idx, 3))
    (hrun : Runs E y k' mc' sz (.ref b :: As) G (fun r G' => K (pc + 3) Ls (r.toList ++ rest) (sz + mc') G')) : K pc Ls (As.reverse ++ .ref b :: rest) sz G := by
  obtain ⟨p, e, s, m, args, below, meth, c, Qm, C, X1, X2, X3, rfl⟩ := hK
  intro H locs ls h1 h2 h3 h4 h5 h6
  obtain ⟨bytes, maxL, rt, hc, hmL, hM⟩ := hrun
  obtain ⟨⟨⟨d1, d2, d3⟩, d4⟩, l1, l2, l3, qq, l4, l5⟩ := hl
  have hts := C.2.2.2.2.2.1
  have hs0 : s.heap.size = sz0 := C.2.2.2.2.2.2.2.2.2.2.1
  have hKa := C.2.2.2.2.2.2.2.2.1
  have hPS := g_pre (av := .ref b :: As) C h1 h3 h4
  have hrecv := va_recv hKa (gP1 h1 hG) l4 (q0 := 0) rfl
  rw [l5] at hrecv
  exact g_call (va_runV (C := y.cls) ⟨C.1, C.2.1, C.2.2.2.1, C.2.2.2.2.1, hts⟩ hM ⟨callB_of n hts (g_good hc) rfl rfl rfl (hts _ d4) (hts _ l1) ⟨d1, d2, d3⟩ ⟨by show k' + 1 ≤ 2048; omega, by show 8 + (maxL + 11) + 64 * k' ≤ 84000; omega⟩, hts _ l2, hts _ l3⟩ ⟨hPS.1, hrecv, hPS.2⟩ rfl hn h6 rfl (lv_room hrest) hd ⟨by show sz - s.heap.size + mc' ≤ 600000; omega, by show 1100 * (sz - s.heap.size) + 1100 * mc' ≤ 7302249; omega⟩) h1 h2 h3 h4 h5 h6 (fun r G' hq => hq)
theorem w_isp (hK : Cw E own cc ret nL sz0 G0 sb sL sxs K) {idx n b k' mc' : Nat} {y : MethodName} {As rest : List Value} (hl : LkI own idx y n) (hn : As.length = n) (hk : k' ≤ 63) (hm : sz + mc' ≤ sz0 + 6000) (hrest : (rest.map fun v => v.category).sum ≤ 8) (hd : decode cc pc = .ok (.invokespecial idx, 3)) {bytes : ByteArray} {maxL : Nat} (hcw : Cond.code y bytes maxL none ∈ tbl) (hmL : maxL ≤ 40)
    (hrun : Met E.1 y (Cond.code y bytes maxL none :: tbl) (gRm k' mc') (va_Pc (.ref b :: As) (gB E sz G)) (gQ E mc' sz G (fun r G' => K (pc + 3) Ls (r.toList ++ rest) (sz + mc') G')) mc' (1100 * mc') (gA G sz)) : K pc Ls (As.reverse ++ .ref b :: rest) sz G := by
  obtain ⟨p, e, s, m, args, below, meth, c, Qm, C, X1, X2, X3, rfl⟩ := hK
  intro H locs ls h1 h2 h3 h4 h5 h6
  obtain ⟨⟨⟨d1, d2, d3⟩, d4⟩, l1, l2, l3⟩ := hl
  have hts := C.2.2.2.2.2.1
  have hs0 : s.heap.size = sz0 := C.2.2.2.2.2.2.2.2.2.2.1
  have hPS := g_pre (av := .ref b :: As) C h1 h3 h4
  rcases l1 with l1 | ⟨host, l1⟩
  · exact g_call (va_runI ⟨C.1, C.2.1, C.2.2.2.1, C.2.2.2.2.1, hts⟩ hrun ⟨callB_of n hts (g_good hcw) rfl rfl rfl (hts _ d4) (hts _ l1) ⟨d1, d2, d3⟩ ⟨by show k' + 1 ≤ 2048; omega, by show 8 + (maxL + 11) + 64 * k' ≤ 84000; omega⟩, l2, hts _ l3⟩ hPS rfl hn h6 rfl (lv_room hrest) hd ⟨by show sz - s.heap.size + mc' ≤ 600000; omega, by show 1100 * (sz - s.heap.size) + 1100 * mc' ≤ 7302249; omega⟩) h1 h2 h3 h4 h5 h6 (fun r G' hq => hq)
  · exact g_call (va_runIN ⟨C.1, C.2.1, C.2.2.2.1, C.2.2.2.2.1, hts⟩ hrun ⟨va_cnB n hts (g_good hcw) rfl rfl rfl (C.2.2.2.2.2.2.2.2.2.2.2.1 _ l1) (hts _ d4) ⟨d1, d2, d3⟩ ⟨by show k' + 1 ≤ 2048; omega, by show 8 + (maxL + 11) + 64 * k' ≤ 84000; omega⟩, l2, hts _ l3⟩ hPS rfl hn h6 rfl (lv_room hrest) hd ⟨by show sz - s.heap.size + mc' ≤ 600000; omega, by show 1100 * (sz - s.heap.size) + 1100 * mc' ≤ 7302249; omega⟩) h1 h2 h3 h4 h5 h6 (fun r G' hq => hq)
theorem w_in (hK : Cw E own cc ret nL sz0 G0 sb sL sxs K) {idx b k' mc' : Nat} {y : MethodName} (hl : LkI own idx y 0) (hd : decode cc pc = .ok (.invokespecial idx, 3)) (hk : k' ≤ 63) (hm : sz + mc' ≤ sz0 + 6000) (hrest : (st.map fun v => v.category).sum ≤ 8) (hrun : RunsI E y k' mc' sz [.ref b] G (kc K (pc + 3) Ls st (sz + mc'))) : K pc Ls (.ref b :: st) sz G := by
  rw [kc_eq] at hrun
  obtain ⟨bytes, maxL, hc, hmL, hM⟩ := hrun
  exact w_isp (As := []) hK hl rfl hk hm hrest hd hc hmL hM
theorem w_v0 (hK : Cw E own cc ret nL sz0 G0 sb sL sxs K) {idx ci b k' : Nat} {y : MethodName}  (hl : LkV own idx y 0 ci) (hd : decode cc pc = .ok (.invokevirtual idx, 3)) (hG : isO G b ci) (hk : k' ≤ 63) (hz : sz ≤ sz0 + 6000) (hrest : (st.map fun v => v.category).sum ≤ 8) (hrun : Runs E y k' 0 sz [.ref b] G (kc K (pc + 3) Ls st sz)) : K pc Ls (.ref b :: st) sz G := by
  rw [kc_eq] at hrun
  exact hG.elim fun _ hG => w_inv (As := []) hK hl rfl hG hk (by omega) hrest hd hrun
theorem w_v1 (hK : Cw E own cc ret nL sz0 G0 sb sL sxs K) {idx ci b k' : Nat} {y : MethodName} {a1 : Value} (hl : LkV own idx y 1 ci) (hd : decode cc pc = .ok (.invokevirtual idx, 3)) (hG : isO G b ci) (hk : k' ≤ 63) (hz : sz ≤ sz0 + 6000) (hrest : (st.map fun v => v.category).sum ≤ 8) (hrun : Runs E y k' 0 sz [.ref b, a1] G (kc K (pc + 3) Ls st sz)) : K pc Ls (a1 :: .ref b :: st) sz G := by
  rw [kc_eq] at hrun
  exact hG.elim fun _ hG => w_inv (As := [a1]) hK hl rfl hG hk (by omega) hrest hd hrun
theorem w_v2 (hK : Cw E own cc ret nL sz0 G0 sb sL sxs K) {idx ci b k' : Nat} {y : MethodName} {a1 a2 : Value} (hl : LkV own idx y 2 ci) (hd : decode cc pc = .ok (.invokevirtual idx, 3)) (hG : isO G b ci) (hk : k' ≤ 63) (hz : sz ≤ sz0 + 6000) (hrest : (st.map fun v => v.category).sum ≤ 8) (hrun : Runs E y k' 0 sz [.ref b, a1, a2] G (kc K (pc + 3) Ls st sz)) : K pc Ls (a2 :: a1 :: .ref b :: st) sz G := by
  rw [kc_eq] at hrun
  exact hG.elim fun _ hG => w_inv (As := [a1, a2]) hK hl rfl hG hk (by omega) hrest hd hrun
theorem w_v3 (hK : Cw E own cc ret nL sz0 G0 sb sL sxs K) {idx ci b k' : Nat} {y : MethodName} {a1 a2 a3 : Value} (hl : LkV own idx y 3 ci) (hd : decode cc pc = .ok (.invokevirtual idx, 3)) (hG : isO G b ci) (hk : k' ≤ 63) (hz : sz ≤ sz0 + 6000) (hrest : (st.map fun v => v.category).sum ≤ 8) (hrun : Runs E y k' 0 sz [.ref b, a1, a2, a3] G (kc K (pc + 3) Ls st sz)) : K pc Ls (a3 :: a2 :: a1 :: .ref b :: st) sz G := by
  rw [kc_eq] at hrun
  exact hG.elim fun _ hG => w_inv (As := [a1, a2, a3]) hK hl rfl hG hk (by omega) hrest hd hrun
theorem w_v4 (hK : Cw E own cc ret nL sz0 G0 sb sL sxs K) {idx ci b k' : Nat} {y : MethodName} {a1 a2 a3 a4 : Value} (hl : LkV own idx y 4 ci) (hd : decode cc pc = .ok (.invokevirtual idx, 3)) (hG : isO G b ci) (hk : k' ≤ 63) (hz : sz ≤ sz0 + 6000) (hrest : (st.map fun v => v.category).sum ≤ 8) (hrun : Runs E y k' 0 sz [.ref b, a1, a2, a3, a4] G (kc K (pc + 3) Ls st sz)) : K pc Ls (a4 :: a3 :: a2 :: a1 :: .ref b :: st) sz G := by
  rw [kc_eq] at hrun
  exact hG.elim fun _ hG => w_inv (As := [a1, a2, a3, a4]) hK hl rfl hG hk (by omega) hrest hd hrun
theorem w_v5 (hK : Cw E own cc ret nL sz0 G0 sb sL sxs K) {idx ci b k' : Nat} {y : MethodName} {a1 a2 a3 a4 a5 : Value} (hl : LkV own idx y 5 ci) (hd : decode cc pc = .ok (.invokevirtual idx, 3)) (hG : isO G b ci) (hk : k' ≤ 63) (hz : sz ≤ sz0 + 6000) (hrest : (st.map fun v => v.category).sum ≤ 8) (hrun : Runs E y k' 0 sz [.ref b, a1, a2, a3, a4, a5] G (kc K (pc + 3) Ls st sz)) : K pc Ls (a5 :: a4 :: a3 :: a2 :: a1 :: .ref b :: st) sz G := by
  rw [kc_eq] at hrun
  exact hG.elim fun _ hG => w_inv (As := [a1, a2, a3, a4, a5]) hK hl rfl hG hk (by omega) hrest hd hrun
theorem w_sld (hK : Cw E own cc ret nL sz0 G0 sb sL sxs K) {i : Nat} (hi : i < sL) (hi2 : sL < 2 ^ 31) (hd : decode cc pc = .ok (.iaload, 1)) (kk : K (pc + 1) Ls (.int (sxs i) :: st) sz G) : K pc Ls (.int (nI i) :: .ref sb :: st) sz G := by
  obtain ⟨p, e, s, m, args, below, meth, c, Qm, C, X1, X2, X3, rfl⟩ := hK
  intro H locs ls h1 h2 h3 h4 h5 h6
  refine va_sld C.1 C.2.1 X1 X2 X3 h4 (vp_in_nI hi hi2) hd ?_
  rw [nI_clamp (by omega)]
  exact kk H locs ls h1 h2 h3 h4 h5 h6
theorem w_slen (hK : Cw E own cc ret nL sz0 G0 sb sL sxs K) (hd : decode cc pc = .ok (.arraylength, 1)) (kk : K (pc + 1) Ls (.int (nI sL) :: st) sz G) : K pc Ls (.ref sb :: st) sz G := by
  obtain ⟨p, e, s, m, args, below, meth, c, Qm, C, X1, X2, X3, rfl⟩ := hK
  intro H locs ls h1 h2 h3 h4 h5 h6
  exact va_slen C.1 C.2.1 X1 X2 X3 h4 hd (kk H locs ls h1 h2 h3 h4 h5 h6)
end LW
