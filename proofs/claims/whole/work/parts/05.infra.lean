-- the heap as a map of addresses; one machine law a row, over it
abbrev gE : Type := (Nat × vp_A) ⊕ (Nat × List Value)
abbrev gG : Type := Nat → Option gE
abbrev gX : Type := Launch × va_G × (Nat → ClassId) × (Nat → Nat)
def gconv (cA : Nat → ClassId) : gE → va_E
  | .inl a => .inl (cA a.1, a.2)
  | .inr o => .inr o
def gtys (cA : Nat → ClassId) : List (ClassId × FieldType) := [(cA 0, .int), (cA 1, .boolean), (cA 2, .object "ClockPost$Row"), (cA 3, .object "ClockPost$House"), (cA 4, .object "ClockPost$Letter")]
def gP (E : gX) (sz : Nat) (G : gG) (H : Heap) : Prop := H.size = sz ∧ ∀ (a : Nat) (e : gE), G a = some e → va_at E.2.1 clz (a, gconv E.2.2.1 e) H
def gA (G : gG) (sz : Nat) : Nat → Prop := fun q => G q ≠ none ∨ sz ≤ q
def tbNK : Nat → Int32 := fun j => match j with
  | 0 => 0
  | 1 => 0
  | 2 => 1
  | 3 => 1
  | 4 => 0
  | _ => 4
def tbSB : Nat → Int32 := fun j => match j with
  | 0 => 10
  | 1 => 11
  | 2 => 12
  | 3 => 11
  | 4 => 13
  | _ => 14
def tbMB : Nat → Int32 := fun j => match j with
  | 0 => 20
  | 1 => 21
  | 2 => 24
  | 3 => 22
  | 4 => 23
  | _ => 23
def gZ1 (n : String) (t : Nat) (f : Nat → Int32) (A : Nat → Prop) (U : State) (H : Heap) : Prop := va_Z "ClockPost" n "[I" (.ref t) A U H ∧ va_T .int t 6 (fun j => .int (f j)) A U H
def gZ (E : gX) (A : Nat → Prop) (U : State) (H : Heap) : Prop := gZ1 "NEAREST_KIND" (E.2.2.2 0) tbNK A U H ∧ gZ1 "SIZE_BODIES" (E.2.2.2 1) tbSB A U H ∧ gZ1 "MARK_BODIES" (E.2.2.2 2) tbMB A U H
theorem gZ1.use {n : String} {t : Nat} {f : Nat → Int32} {A B : Nat → Prop} {s U : State} {H0 H : Heap} (h : gZ1 n t f A s H0) (hq : ∀ a : Nat, a < H0.size → ¬ A a → H[a]? = H0[a]?) (hAB : ∀ q, B q → A q) (hvm : s.vm.Alike U.vm) : gZ1 n t f B U H :=
  ⟨va_Z.moved hvm ((h.1.kept hq).narrow hAB), va_T.moved hvm ((h.2.kept hq).narrow hAB)⟩
theorem gZ.use {E : gX} {A B : Nat → Prop} {s U : State} {H0 H : Heap} (h : gZ E A s H0) (hq : ∀ a : Nat, a < H0.size → ¬ A a → H[a]? = H0[a]?) (hAB : ∀ q, B q → A q) (hvm : s.vm.Alike U.vm) : gZ E B U H :=
  ⟨h.1.use hq hAB hvm, h.2.1.use hq hAB hvm, h.2.2.use hq hAB hvm⟩
def gup (G : gG) (a : Nat) (e : gE) : gG := fun q => if q = a then some e else G q
theorem gup_s {G : gG} {a : Nat} {e : gE} : gup G a e a = some e := by simp [gup]
theorem gup_n {G : gG} {a q : Nat} {e : gE} (h : q ≠ a) : gup G a e q = G q := by simp [gup, h]
def gRm (k mc : Nat) : Room := { frames := k, cells := mc, slots := 1100 * mc, locals := 64 * k }
def gN (U : State) : Prop := (∀ q ∈ nestL, va_Nw (.methodLinkNest q.1 q.2.1 q.2.2.1 q.2.2.2) U) ∧ ∀ C ∈ overL, va_AO C U
theorem gN.warm {s U : State} (hW : s.WarmedH U.vm) (h : gN s) : gN U := ⟨fun q hq => va_Nw.warmM hW (h.1 q hq), fun C hC => (h.2 C hC).moved hW.alike⟩
def gB (E : gX) (sz : Nat) (G : gG) : State → Prop := fun U => gP E sz G U.heap ∧ va_K E.2.1 clz (gtys E.2.2.1) U ∧ gZ E (gA G sz) U U.heap ∧ gN U
def gQ (E : gX) (mc sz : Nat) (G : gG) (Q : Option Value → gG → Prop) : Array Value → State → Outcome → State → Prop := fun _ st oc t =>
  (∃ (r : Option Value) (G' : gG), oc = .returned r ∧ Q r G' ∧ gP E (sz + mc) G' t.heap ∧ ∀ q, gA G' (sz + mc) q → gA G sz q) ∧ va_F (gA G sz) st t
def Runs (E : gX) (y : MethodName) (k mc sz : Nat) (args : List Value) (G : gG) (Q : Option Value → gG → Prop) : Prop :=
  ∃ (bytes : ByteArray) (maxL : Nat) (ret : Option FieldType), Cond.code y bytes maxL ret ∈ tbl ∧ maxL ≤ 40 ∧ Met E.1 y (Cond.code y bytes maxL ret :: tbl) (gRm k mc) (va_Pc args (gB E sz G)) (gQ E mc sz G Q) mc (1100 * mc) (gA G sz)
def lvL (ls : Array Slot) (Ls : List (Option Value)) : Prop := ls.size = Ls.length ∧ lv_wf ls ∧ ∀ (i : Nat) (v : Value), Ls[i]? = some (some v) → ls[i]? = some (.val v)
def gK (E : gX) (p : Program) (e : Env) (R : Room) (s : State) (m : MethodId) (args : Array Value) (below : List Frame) (meth : Method) (c : Code) (nL : Nat) (G0 : gG) (Qm : State → Prop) (pc : Nat) (Ls : List (Option Value)) (st : List Value) (sz : Nat) (G : gG) : Prop :=
  ∀ (H : Heap) (locs : List Loc) (ls : Array Slot), gP E sz G H → s.heap.size ≤ sz → (∀ q, gA G sz q → gA G0 s.heap.size q) → va_S (gA G0 s.heap.size) s.heap H locs → lvL ls Ls → ls.size = nL → W p E.1 e R s m args below meth c H locs (sz - s.heap.size) (1100 * (sz - s.heap.size)) Qm (F0 m pc ls st)
def gC (E : gX) (own : String) (cc : ByteArray) (ret : Option FieldType) (nL sz0 : Nat) (ini : Bool) (G0 : gG) (p : Program) (s : State) (m : MethodId) (args : Array Value) (meth : Method) (c : Code) : Prop :=
  p.tables.exec = Jvm.exec ∧ c.code = cc ∧ meth.sig.returnType = ret ∧ c.maxLocals = nL ∧ s.vm.findClass own = some m.cls ∧ (∀ w ∈ tbl, w.before args s = true) ∧ meth.locks = false ∧ (ini = true → meth.name = "<init>") ∧ va_K E.2.1 clz (gtys E.2.2.1) s ∧ gZ E (gA G0 s.heap.size) s s.heap ∧ s.heap.size = sz0 ∧ gN s
def Cl (E : gX) (own : String) (cc : ByteArray) (ret : Option FieldType) (nL k mc sz0 : Nat) (ini : Bool) (G0 : gG) (Q : Option Value → gG → Prop) (K : Nat → List (Option Value) → List Value → Nat → gG → Prop) : Prop :=
  ∃ (p : Program) (e : Env) (s : State) (m : MethodId) (args : Array Value) (below : List Frame) (meth : Method) (c : Code), gC E own cc ret nL sz0 ini G0 p s m args meth c ∧ K = gK E p e (gRm k mc) s m args below meth c nL G0 (MQ below (gQ E mc sz0 G0 Q) args s mc (1100 * mc) (gA G0 sz0))
-- a method's entry
def gL0 : List Value → List (Option Value)
  | [] => []
  | v :: vs => if v.category = 2 then some v :: none :: gL0 vs else some v :: gL0 vs
def gL (vs : List Value) (n : Nat) : List (Option Value) := gL0 vs ++ List.replicate (n - (gL0 vs).length) none
theorem gL0_len (vs : List Value) : (gL0 vs).length = (lg_sl vs).length := by
  induction vs with
  | nil => rfl
  | cons v vs ih =>
    by_cases h : v.category = 2
    · simp only [gL0, if_pos h, lg_sl, List.flatMap_cons, List.length_cons, List.length_append, ih]
      simp [lg_sl]
      omega
    · simp only [gL0, if_neg h, lg_sl, List.flatMap_cons, List.length_cons, List.length_append, ih]
      simp [lg_sl]
      omega
theorem gL0_at (vs : List Value) : ∀ (b i : Nat) (v : Value), (gL0 vs)[i]? = some (some v) → (b + i, v) ∈ lv_args b vs := by
  induction vs with
  | nil => intro b i v h; simp [gL0] at h
  | cons w vs ih =>
    intro b i v h
    by_cases hc : w.category = 2
    · simp only [gL0, if_pos hc] at h
      simp only [lv_args, if_pos hc]
      match i with
      | 0 => simp at h; subst h; simp
      | 1 => simp at h
      | i + 2 =>
        simp only [List.getElem?_cons_succ] at h
        have := ih (b + 2) i v h
        refine List.mem_cons_of_mem _ ?_
        rw [show b + (i + 2) = b + 2 + i by omega]
        exact this
    · simp only [gL0, if_neg hc] at h
      simp only [lv_args, if_neg hc]
      match i with
      | 0 => simp at h; subst h; simp
      | i + 1 =>
        simp only [List.getElem?_cons_succ] at h
        have := ih (b + 1) i v h
        refine List.mem_cons_of_mem _ ?_
        rw [show b + (i + 1) = b + 1 + i by omega]
        exact this
theorem Runs.of {E : gX} {y : MethodName} {k mc sz : Nat} {args : List Value} {G : gG} {Q : Option Value → gG → Prop} {bytes : ByteArray} {maxL : Nat} {ret : Option FieldType} (own : String) (Ls : List (Option Value)) (hc : Cond.code y bytes maxL ret ∈ tbl) (hm : maxL ≤ 40) (hy : plainName y.cls = true) (ho : y.cls = own) (hL : (gL0 args).length ≤ maxL) (hLs : gL args maxL = Ls)
    (h : ∀ K, Cl E own bytes ret maxL k mc sz (y.name == "<init>") G Q K → K 0 Ls [] sz G) : Runs E y k mc sz args G Q := by
  refine ⟨bytes, maxL, ret, hc, hm, ?_⟩
  refine Met.ofW (cc := bytes) (maxL := maxL) (ret := ret) hy rfl ?_
  intro p e s m as below meth c s₁ B hml hv
  obtain ⟨rfl, hP, hK, hZ, hN⟩ := hv
  have hts0 := atoms_spec (ws := Cond.code y bytes maxL ret :: tbl) B.pre
  have hown : s.vm.findClass own = some m.cls := by rw [← ho]; exact findClass_of_methodNamed B.named
  have hsz : s.heap.size = sz := hP.1
  subst hsz
  have hin : (y.name == "<init>") = true → meth.name = "<init>" := fun hn => by
    rw [(name_of_methodNamed B.named B.method).1]
    exact eq_of_beq hn
  have key := h _ ⟨p, e, s, m, args.toArray, below, meth, c, ⟨B.exec, B.bytes, B.returns, hml, hown, fun w hw => hts0 w (List.mem_cons_of_mem _ hw), B.notSynchronized, hin, hK, hZ, rfl, hN⟩, rfl⟩
  have hlen : (lg_sl args).length ≤ maxL := by rw [← gL0_len]; exact hL
  have hl := lv_entry args (n := maxL) hlen
  rw [lg_entry_eq]
  generalize (lg_sl args ++ List.replicate (maxL - (lg_sl args).length) Slot.unset).toArray = ls at hl ⊢
  have hLlen : Ls.length = maxL := by rw [← hLs]; simp [gL]; omega
  have h5 : lvL ls Ls := ⟨hl.1.trans hLlen.symm, hl.2.1, fun i v hi => by
    rw [← hLs] at hi
    have hi2 : (gL0 args)[i]? = some (some v) := by
      unfold gL at hi
      by_cases q : i < (gL0 args).length
      · rwa [List.getElem?_append_left q] at hi
      · rw [List.getElem?_append_right (by omega), List.getElem?_replicate] at hi
        split at hi <;> simp at hi
    have := gL0_at args 0 i v hi2
    rw [Nat.zero_add] at this
    exact hl.2.2 (i, v) this⟩
  have := key s.heap [] ls hP (Nat.le_refl _) (fun q hq => hq) va_S.rf h5 hl.1
  rw [Nat.sub_self] at this
  exact this
theorem gP1 {E : gX} {sz : Nat} {G : gG} {H : Heap} {a : Nat} {e : gE} (h : gP E sz G H) (ha : G a = some e) : va_P E.2.1 clz [(a, gconv E.2.2.1 e)] H := by
  intro k q hk
  match k with
  | 0 => cases hk; exact h.2 a e ha
  | k + 1 => simp at hk
section GR
variable {E : gX} {own : String} {cc : ByteArray} {ret : Option FieldType} {nL k mc sz0 : Nat} {ini : Bool} {G0 : gG} {Q : Option Value → gG → Prop} {K : Nat → List (Option Value) → List Value → Nat → gG → Prop}
variable {pc sz : Nat} {Ls : List (Option Value)} {st : List Value} {G : gG}
theorem r_iconst (hK : Cl E own cc ret nL k mc sz0 ini G0 Q K) {n : Int} {v : Int32} (hd : decode cc pc = .ok (.iconst n, 1)) (hv : Int32.ofInt n = v) (kk : K (pc + 1) Ls (.int v :: st) sz G) : K pc Ls st sz G := by
  obtain ⟨p, e, s, m, args, below, meth, c, C, rfl⟩ := hK
  intro H locs ls h1 h2 h3 h4 h5 h6
  exact lv_iconst C.1 C.2.1 hd hv (kk H locs ls h1 h2 h3 h4 h5 h6)
theorem r_bipush (hK : Cl E own cc ret nL k mc sz0 ini G0 Q K) {n : Int} {v : Int32} (hd : decode cc pc = .ok (.bipush n, 2)) (hv : (Int8.ofInt n).toInt32 = v) (kk : K (pc + 2) Ls (.int v :: st) sz G) : K pc Ls st sz G := by
  obtain ⟨p, e, s, m, args, below, meth, c, C, rfl⟩ := hK
  intro H locs ls h1 h2 h3 h4 h5 h6
  exact lv_bipush C.1 C.2.1 hd hv (kk H locs ls h1 h2 h3 h4 h5 h6)
theorem r_sipush (hK : Cl E own cc ret nL k mc sz0 ini G0 Q K) {n : Int} {v : Int32} (hd : decode cc pc = .ok (.sipush n, 3)) (hv : (Int16.ofInt n).toInt32 = v) (kk : K (pc + 3) Ls (.int v :: st) sz G) : K pc Ls st sz G := by
  obtain ⟨p, e, s, m, args, below, meth, c, C, rfl⟩ := hK
  intro H locs ls h1 h2 h3 h4 h5 h6
  exact lv_sipush C.1 C.2.1 hd hv (kk H locs ls h1 h2 h3 h4 h5 h6)
theorem r_lconst (hK : Cl E own cc ret nL k mc sz0 ini G0 Q K) {n : Fin 2} {v : Int64} (hd : decode cc pc = .ok (.lconst n, 1)) (hv : Int64.ofNat (n : Nat) = v) (kk : K (pc + 1) Ls (.long v :: st) sz G) : K pc Ls st sz G := by
  obtain ⟨p, e, s, m, args, below, meth, c, C, rfl⟩ := hK
  intro H locs ls h1 h2 h3 h4 h5 h6
  exact lv_lconst C.1 C.2.1 hd hv (kk H locs ls h1 h2 h3 h4 h5 h6)
theorem r_iload_n (hK : Cl E own cc ret nL k mc sz0 ini G0 Q K) {j : Fin 4} {x : Int32} (hd : decode cc pc = .ok (.iload_n j, 1)) (hv : Ls[(j : Nat)]? = some (some (.int x))) (kk : K (pc + 1) Ls (.int x :: st) sz G) : K pc Ls st sz G := by
  obtain ⟨p, e, s, m, args, below, meth, c, C, rfl⟩ := hK
  intro H locs ls h1 h2 h3 h4 h5 h6
  exact lv_iload_n C.1 C.2.1 hd rfl (h5.2.2 _ _ hv) (kk H locs ls h1 h2 h3 h4 h5 h6)
theorem r_iload (hK : Cl E own cc ret nL k mc sz0 ini G0 Q K) {i : Nat} {x : Int32} (hd : decode cc pc = .ok (.iload i, 2)) (hv : Ls[i]? = some (some (.int x))) (kk : K (pc + 2) Ls (.int x :: st) sz G) : K pc Ls st sz G := by
  obtain ⟨p, e, s, m, args, below, meth, c, C, rfl⟩ := hK
  intro H locs ls h1 h2 h3 h4 h5 h6
  exact lv_iload C.1 C.2.1 hd (h5.2.2 _ _ hv) (kk H locs ls h1 h2 h3 h4 h5 h6)
theorem r_lload_n (hK : Cl E own cc ret nL k mc sz0 ini G0 Q K) {j : Fin 4} {x : Int64} (hd : decode cc pc = .ok (.lload_n j, 1)) (hv : Ls[(j : Nat)]? = some (some (.long x))) (kk : K (pc + 1) Ls (.long x :: st) sz G) : K pc Ls st sz G := by
  obtain ⟨p, e, s, m, args, below, meth, c, C, rfl⟩ := hK
  intro H locs ls h1 h2 h3 h4 h5 h6
  exact lv_lload_n C.1 C.2.1 hd rfl (h5.2.2 _ _ hv) (kk H locs ls h1 h2 h3 h4 h5 h6)
theorem r_lload (hK : Cl E own cc ret nL k mc sz0 ini G0 Q K) {i : Nat} {x : Int64} (hd : decode cc pc = .ok (.lload i, 2)) (hv : Ls[i]? = some (some (.long x))) (kk : K (pc + 2) Ls (.long x :: st) sz G) : K pc Ls st sz G := by
  obtain ⟨p, e, s, m, args, below, meth, c, C, rfl⟩ := hK
  intro H locs ls h1 h2 h3 h4 h5 h6
  exact lv_lload C.1 C.2.1 hd (h5.2.2 _ _ hv) (kk H locs ls h1 h2 h3 h4 h5 h6)
theorem r_aload_n (hK : Cl E own cc ret nL k mc sz0 ini G0 Q K) {j : Fin 4} {x : Nat} (hd : decode cc pc = .ok (.aload_n j, 1)) (hv : Ls[(j : Nat)]? = some (some (.ref x))) (kk : K (pc + 1) Ls (.ref x :: st) sz G) : K pc Ls st sz G := by
  obtain ⟨p, e, s, m, args, below, meth, c, C, rfl⟩ := hK
  intro H locs ls h1 h2 h3 h4 h5 h6
  exact lv_aload_n C.1 C.2.1 hd rfl (h5.2.2 _ _ hv) (kk H locs ls h1 h2 h3 h4 h5 h6)
theorem r_aload (hK : Cl E own cc ret nL k mc sz0 ini G0 Q K) {i : Nat} {x : Nat} (hd : decode cc pc = .ok (.aload i, 2)) (hv : Ls[i]? = some (some (.ref x))) (kk : K (pc + 2) Ls (.ref x :: st) sz G) : K pc Ls st sz G := by
  obtain ⟨p, e, s, m, args, below, meth, c, C, rfl⟩ := hK
  intro H locs ls h1 h2 h3 h4 h5 h6
  exact lv_aload C.1 C.2.1 hd (h5.2.2 _ _ hv) (kk H locs ls h1 h2 h3 h4 h5 h6)
theorem r_iadd (hK : Cl E own cc ret nL k mc sz0 ini G0 Q K) {x y : Int32} (hd : decode cc pc = .ok (.iadd, 1))  (kk : K (pc + 1) Ls (.int (x + y) :: st) sz G) : K pc Ls (.int y :: .int x :: st) sz G := by
  obtain ⟨p, e, s, m, args, below, meth, c, C, rfl⟩ := hK
  intro H locs ls h1 h2 h3 h4 h5 h6
  exact lv_iadd C.1 C.2.1 hd (kk H locs ls h1 h2 h3 h4 h5 h6)
theorem r_isub (hK : Cl E own cc ret nL k mc sz0 ini G0 Q K) {x y : Int32} (hd : decode cc pc = .ok (.isub, 1))  (kk : K (pc + 1) Ls (.int (x - y) :: st) sz G) : K pc Ls (.int y :: .int x :: st) sz G := by
  obtain ⟨p, e, s, m, args, below, meth, c, C, rfl⟩ := hK
  intro H locs ls h1 h2 h3 h4 h5 h6
  exact lv_isub C.1 C.2.1 hd (kk H locs ls h1 h2 h3 h4 h5 h6)
theorem r_imul (hK : Cl E own cc ret nL k mc sz0 ini G0 Q K) {x y : Int32} (hd : decode cc pc = .ok (.imul, 1))  (kk : K (pc + 1) Ls (.int (x * y) :: st) sz G) : K pc Ls (.int y :: .int x :: st) sz G := by
  obtain ⟨p, e, s, m, args, below, meth, c, C, rfl⟩ := hK
  intro H locs ls h1 h2 h3 h4 h5 h6
  exact lv_imul C.1 C.2.1 hd (kk H locs ls h1 h2 h3 h4 h5 h6)
theorem r_iand (hK : Cl E own cc ret nL k mc sz0 ini G0 Q K) {x y : Int32} (hd : decode cc pc = .ok (.iand, 1))  (kk : K (pc + 1) Ls (.int (x &&& y) :: st) sz G) : K pc Ls (.int y :: .int x :: st) sz G := by
  obtain ⟨p, e, s, m, args, below, meth, c, C, rfl⟩ := hK
  intro H locs ls h1 h2 h3 h4 h5 h6
  exact lv_iand C.1 C.2.1 hd (kk H locs ls h1 h2 h3 h4 h5 h6)
theorem r_ior (hK : Cl E own cc ret nL k mc sz0 ini G0 Q K) {x y : Int32} (hd : decode cc pc = .ok (.ior, 1))  (kk : K (pc + 1) Ls (.int (x ||| y) :: st) sz G) : K pc Ls (.int y :: .int x :: st) sz G := by
  obtain ⟨p, e, s, m, args, below, meth, c, C, rfl⟩ := hK
  intro H locs ls h1 h2 h3 h4 h5 h6
  exact lv_ior C.1 C.2.1 hd (kk H locs ls h1 h2 h3 h4 h5 h6)
theorem r_ixor (hK : Cl E own cc ret nL k mc sz0 ini G0 Q K) {x y : Int32} (hd : decode cc pc = .ok (.ixor, 1))  (kk : K (pc + 1) Ls (.int (x ^^^ y) :: st) sz G) : K pc Ls (.int y :: .int x :: st) sz G := by
  obtain ⟨p, e, s, m, args, below, meth, c, C, rfl⟩ := hK
  intro H locs ls h1 h2 h3 h4 h5 h6
  exact lv_ixor C.1 C.2.1 hd (kk H locs ls h1 h2 h3 h4 h5 h6)
theorem r_ishl (hK : Cl E own cc ret nL k mc sz0 ini G0 Q K) {x y : Int32} (hd : decode cc pc = .ok (.ishl, 1))  (kk : K (pc + 1) Ls (.int (x <<< (y &&& 31)) :: st) sz G) : K pc Ls (.int y :: .int x :: st) sz G := by
  obtain ⟨p, e, s, m, args, below, meth, c, C, rfl⟩ := hK
  intro H locs ls h1 h2 h3 h4 h5 h6
  exact lv_ishl C.1 C.2.1 hd (kk H locs ls h1 h2 h3 h4 h5 h6)
theorem r_ishr (hK : Cl E own cc ret nL k mc sz0 ini G0 Q K) {x y : Int32} (hd : decode cc pc = .ok (.ishr, 1))  (kk : K (pc + 1) Ls (.int (x >>> (y &&& 31)) :: st) sz G) : K pc Ls (.int y :: .int x :: st) sz G := by
  obtain ⟨p, e, s, m, args, below, meth, c, C, rfl⟩ := hK
  intro H locs ls h1 h2 h3 h4 h5 h6
  exact lv_ishr C.1 C.2.1 hd (kk H locs ls h1 h2 h3 h4 h5 h6)
theorem r_idiv (hK : Cl E own cc ret nL k mc sz0 ini G0 Q K) {x y : Int32} (hd : decode cc pc = .ok (.idiv, 1)) (hne : ¬ y = 0) (kk : K (pc + 1) Ls (.int (x / y) :: st) sz G) : K pc Ls (.int y :: .int x :: st) sz G := by
  obtain ⟨p, e, s, m, args, below, meth, c, C, rfl⟩ := hK
  intro H locs ls h1 h2 h3 h4 h5 h6
  exact lv_idiv C.1 C.2.1 hd hne (kk H locs ls h1 h2 h3 h4 h5 h6)
theorem r_irem (hK : Cl E own cc ret nL k mc sz0 ini G0 Q K) {x y : Int32} (hd : decode cc pc = .ok (.irem, 1)) (hne : ¬ y = 0) (kk : K (pc + 1) Ls (.int (x - x / y * y) :: st) sz G) : K pc Ls (.int y :: .int x :: st) sz G := by
  obtain ⟨p, e, s, m, args, below, meth, c, C, rfl⟩ := hK
  intro H locs ls h1 h2 h3 h4 h5 h6
  exact lv_irem C.1 C.2.1 hd hne (kk H locs ls h1 h2 h3 h4 h5 h6)
theorem r_ineg (hK : Cl E own cc ret nL k mc sz0 ini G0 Q K) {x : Int32} (hd : decode cc pc = .ok (.ineg, 1))  (kk : K (pc + 1) Ls (.int (-x) :: st) sz G) : K pc Ls (.int x :: st) sz G := by
  obtain ⟨p, e, s, m, args, below, meth, c, C, rfl⟩ := hK
  intro H locs ls h1 h2 h3 h4 h5 h6
  exact lv_ineg C.1 C.2.1 hd (kk H locs ls h1 h2 h3 h4 h5 h6)
theorem r_iushr (hK : Cl E own cc ret nL k mc sz0 ini G0 Q K) {x y : Int32} (hd : decode cc pc = .ok (.iushr, 1))  (kk : K (pc + 1) Ls (.int ((x.toUInt32 >>> (y.toUInt32 &&& Int32.toUInt32 31)).toInt32) :: st) sz G) : K pc Ls (.int y :: .int x :: st) sz G := by
  obtain ⟨p, e, s, m, args, below, meth, c, C, rfl⟩ := hK
  intro H locs ls h1 h2 h3 h4 h5 h6
  exact lv_iushr C.1 C.2.1 hd rfl (kk H locs ls h1 h2 h3 h4 h5 h6)
theorem r_ladd (hK : Cl E own cc ret nL k mc sz0 ini G0 Q K) {x y : Int64} (hd : decode cc pc = .ok (.ladd, 1))  (kk : K (pc + 1) Ls (.long (x + y) :: st) sz G) : K pc Ls (.long y :: .long x :: st) sz G := by
  obtain ⟨p, e, s, m, args, below, meth, c, C, rfl⟩ := hK
  intro H locs ls h1 h2 h3 h4 h5 h6
  exact lv_ladd C.1 C.2.1 hd (kk H locs ls h1 h2 h3 h4 h5 h6)
theorem r_lmul (hK : Cl E own cc ret nL k mc sz0 ini G0 Q K) {x y : Int64} (hd : decode cc pc = .ok (.lmul, 1))  (kk : K (pc + 1) Ls (.long (x * y) :: st) sz G) : K pc Ls (.long y :: .long x :: st) sz G := by
  obtain ⟨p, e, s, m, args, below, meth, c, C, rfl⟩ := hK
  intro H locs ls h1 h2 h3 h4 h5 h6
  exact lv_lmul C.1 C.2.1 hd (kk H locs ls h1 h2 h3 h4 h5 h6)
theorem r_lrem (hK : Cl E own cc ret nL k mc sz0 ini G0 Q K) {x y : Int64} (hd : decode cc pc = .ok (.lrem, 1)) (hne : ¬ y = 0) (kk : K (pc + 1) Ls (.long (x - x / y * y) :: st) sz G) : K pc Ls (.long y :: .long x :: st) sz G := by
  obtain ⟨p, e, s, m, args, below, meth, c, C, rfl⟩ := hK
  intro H locs ls h1 h2 h3 h4 h5 h6
  exact lv_lrem C.1 C.2.1 hd hne (kk H locs ls h1 h2 h3 h4 h5 h6)
theorem r_i2l (hK : Cl E own cc ret nL k mc sz0 ini G0 Q K) {x : Int32} (hd : decode cc pc = .ok (.i2l, 1))  (kk : K (pc + 1) Ls (.long x.toInt64 :: st) sz G) : K pc Ls (.int x :: st) sz G := by
  obtain ⟨p, e, s, m, args, below, meth, c, C, rfl⟩ := hK
  intro H locs ls h1 h2 h3 h4 h5 h6
  exact lv_i2l C.1 C.2.1 hd rfl (kk H locs ls h1 h2 h3 h4 h5 h6)
theorem r_l2i (hK : Cl E own cc ret nL k mc sz0 ini G0 Q K) {x : Int64} (hd : decode cc pc = .ok (.l2i, 1))  (kk : K (pc + 1) Ls (.int x.toInt32 :: st) sz G) : K pc Ls (.long x :: st) sz G := by
  obtain ⟨p, e, s, m, args, below, meth, c, C, rfl⟩ := hK
  intro H locs ls h1 h2 h3 h4 h5 h6
  exact lv_l2i C.1 C.2.1 hd rfl (kk H locs ls h1 h2 h3 h4 h5 h6)
theorem r_i2b (hK : Cl E own cc ret nL k mc sz0 ini G0 Q K) {x : Int32} (hd : decode cc pc = .ok (.i2b, 1))  (kk : K (pc + 1) Ls (.int x.toInt8.toInt32 :: st) sz G) : K pc Ls (.int x :: st) sz G := by
  obtain ⟨p, e, s, m, args, below, meth, c, C, rfl⟩ := hK
  intro H locs ls h1 h2 h3 h4 h5 h6
  exact lv_i2b C.1 C.2.1 hd rfl (kk H locs ls h1 h2 h3 h4 h5 h6)
theorem r_i2s (hK : Cl E own cc ret nL k mc sz0 ini G0 Q K) {x : Int32} (hd : decode cc pc = .ok (.i2s, 1))  (kk : K (pc + 1) Ls (.int x.toInt16.toInt32 :: st) sz G) : K pc Ls (.int x :: st) sz G := by
  obtain ⟨p, e, s, m, args, below, meth, c, C, rfl⟩ := hK
  intro H locs ls h1 h2 h3 h4 h5 h6
  exact lv_i2s C.1 C.2.1 hd rfl (kk H locs ls h1 h2 h3 h4 h5 h6)
theorem r_dup (hK : Cl E own cc ret nL k mc sz0 ini G0 Q K) {va : Value} (hd : decode cc pc = .ok (.dup, 1)) (hva : va.category = 1) (kk : K (pc + 1) Ls (va :: va :: st) sz G) : K pc Ls (va :: st) sz G := by
  obtain ⟨p, e, s, m, args, below, meth, c, C, rfl⟩ := hK
  intro H locs ls h1 h2 h3 h4 h5 h6
  exact lv_dup C.1 C.2.1 hd hva (kk H locs ls h1 h2 h3 h4 h5 h6)
theorem r_pop (hK : Cl E own cc ret nL k mc sz0 ini G0 Q K) {va : Value} (hd : decode cc pc = .ok (.pop, 1)) (hva : va.category = 1) (kk : K (pc + 1) Ls st sz G) : K pc Ls (va :: st) sz G := by
  obtain ⟨p, e, s, m, args, below, meth, c, C, rfl⟩ := hK
  intro H locs ls h1 h2 h3 h4 h5 h6
  exact lv_pop C.1 C.2.1 hd hva (kk H locs ls h1 h2 h3 h4 h5 h6)
theorem r_dup2 (hK : Cl E own cc ret nL k mc sz0 ini G0 Q K) {va vb : Value} (hd : decode cc pc = .ok (.dup2, 1)) (hva : va.category = 1) (hvb : vb.category = 1) (kk : K (pc + 1) Ls (va :: vb :: va :: vb :: st) sz G) : K pc Ls (va :: vb :: st) sz G := by
  obtain ⟨p, e, s, m, args, below, meth, c, C, rfl⟩ := hK
  intro H locs ls h1 h2 h3 h4 h5 h6
  exact lv_dup2_11 C.1 C.2.1 hd hva hvb (kk H locs ls h1 h2 h3 h4 h5 h6)
theorem r_lcmp (hK : Cl E own cc ret nL k mc sz0 ini G0 Q K) {x y : Int64} (hd : decode cc pc = .ok (.lcmp, 1))  (kk : K (pc + 1) Ls (.int (lg_cmp x y) :: st) sz G) : K pc Ls (.long y :: .long x :: st) sz G := by
  obtain ⟨p, e, s, m, args, below, meth, c, C, rfl⟩ := hK
  intro H locs ls h1 h2 h3 h4 h5 h6
  exact W.lcmp C.1 C.2.1 hd (kk H locs ls h1 h2 h3 h4 h5 h6)
theorem r_ldc (hK : Cl E own cc ret nL k mc sz0 ini G0 Q K) {idx : Nat} {v : Int32} (hd : decode cc pc = .ok (.ldc idx, 2)) (hc : Cond.constant own idx v ∈ tbl) (kk : K (pc + 2) Ls (.int v :: st) sz G) : K pc Ls st sz G := by
  obtain ⟨p, e, s, m, args, below, meth, c, C, rfl⟩ := hK
  intro H locs ls h1 h2 h3 h4 h5 h6
  exact lv_ldc C.1 C.2.1 C.2.2.2.2.1 (C.2.2.2.2.2.1 _ hc) hd (kk H locs ls h1 h2 h3 h4 h5 h6)
theorem r_ldcw (hK : Cl E own cc ret nL k mc sz0 ini G0 Q K) {idx : Nat} {v : Int32} (hd : decode cc pc = .ok (.ldc_w idx, 3)) (hc : Cond.constant own idx v ∈ tbl) (kk : K (pc + 3) Ls (.int v :: st) sz G) : K pc Ls st sz G := by
  obtain ⟨p, e, s, m, args, below, meth, c, C, rfl⟩ := hK
  intro H locs ls h1 h2 h3 h4 h5 h6
  exact lv_ldcw C.1 C.2.1 C.2.2.2.2.1 (C.2.2.2.2.2.1 _ hc) hd (kk H locs ls h1 h2 h3 h4 h5 h6)
theorem r_ldc2 (hK : Cl E own cc ret nL k mc sz0 ini G0 Q K) {idx : Nat} {v : Int64} (hd : decode cc pc = .ok (.ldc2_w idx, 3)) (hc : Cond.constantLong own idx v ∈ tbl) (kk : K (pc + 3) Ls (.long v :: st) sz G) : K pc Ls st sz G := by
  obtain ⟨p, e, s, m, args, below, meth, c, C, rfl⟩ := hK
  intro H locs ls h1 h2 h3 h4 h5 h6
  exact lv_ldc2 C.1 C.2.1 C.2.2.2.2.1 (C.2.2.2.2.2.1 _ hc) hd (kk H locs ls h1 h2 h3 h4 h5 h6)
theorem r_goto (hK : Cl E own cc ret nL k mc sz0 ini G0 Q K) {off : Int} {tgt : Nat} (hd : decode cc pc = .ok (.goto off, 3)) (ht : (pc : Int) + off = (tgt : Int)) (kk : K tgt Ls st sz G) : K pc Ls st sz G := by
  obtain ⟨p, e, s, m, args, below, meth, c, C, rfl⟩ := hK
  intro H locs ls h1 h2 h3 h4 h5 h6
  exact lv_goto C.1 C.2.1 hd ht (kk H locs ls h1 h2 h3 h4 h5 h6)
theorem r_if_eq (hK : Cl E own cc ret nL k mc sz0 ini G0 Q K) {x : Int32} {off : Int} {tgt : Nat} (hd : decode cc pc = .ok (.ifCond .eq off, 3)) (ht : (pc : Int) + off = (tgt : Int)) (kt : x = 0 → K tgt Ls st sz G) (kf : ¬ x = 0 → K (pc + 3) Ls st sz G) : K pc Ls (.int x :: st) sz G := by
  obtain ⟨p, e, s, m, args, below, meth, c, C, rfl⟩ := hK
  intro H locs ls h1 h2 h3 h4 h5 h6
  exact lv_if_eq C.1 C.2.1 hd ht (fun q => kt q H locs ls h1 h2 h3 h4 h5 h6) (fun q => kf q H locs ls h1 h2 h3 h4 h5 h6)
theorem r_icmp_eq (hK : Cl E own cc ret nL k mc sz0 ini G0 Q K) {x y : Int32} {off : Int} {tgt : Nat} (hd : decode cc pc = .ok (.if_icmp .eq off, 3)) (ht : (pc : Int) + off = (tgt : Int)) (kt : x = y → K tgt Ls st sz G) (kf : ¬ x = y → K (pc + 3) Ls st sz G) : K pc Ls (.int y :: .int x :: st) sz G := by
  obtain ⟨p, e, s, m, args, below, meth, c, C, rfl⟩ := hK
  intro H locs ls h1 h2 h3 h4 h5 h6
  exact lv_icmp_eq C.1 C.2.1 hd ht (fun q => kt q H locs ls h1 h2 h3 h4 h5 h6) (fun q => kf q H locs ls h1 h2 h3 h4 h5 h6)
theorem r_if_ne (hK : Cl E own cc ret nL k mc sz0 ini G0 Q K) {x : Int32} {off : Int} {tgt : Nat} (hd : decode cc pc = .ok (.ifCond .ne off, 3)) (ht : (pc : Int) + off = (tgt : Int)) (kt : ¬ x = 0 → K tgt Ls st sz G) (kf : x = 0 → K (pc + 3) Ls st sz G) : K pc Ls (.int x :: st) sz G := by
  obtain ⟨p, e, s, m, args, below, meth, c, C, rfl⟩ := hK
  intro H locs ls h1 h2 h3 h4 h5 h6
  exact lv_if_ne C.1 C.2.1 hd ht (fun q => kt q H locs ls h1 h2 h3 h4 h5 h6) (fun q => kf q H locs ls h1 h2 h3 h4 h5 h6)
theorem r_icmp_ne (hK : Cl E own cc ret nL k mc sz0 ini G0 Q K) {x y : Int32} {off : Int} {tgt : Nat} (hd : decode cc pc = .ok (.if_icmp .ne off, 3)) (ht : (pc : Int) + off = (tgt : Int)) (kt : ¬ x = y → K tgt Ls st sz G) (kf : x = y → K (pc + 3) Ls st sz G) : K pc Ls (.int y :: .int x :: st) sz G := by
  obtain ⟨p, e, s, m, args, below, meth, c, C, rfl⟩ := hK
  intro H locs ls h1 h2 h3 h4 h5 h6
  exact lv_icmp_ne C.1 C.2.1 hd ht (fun q => kt q H locs ls h1 h2 h3 h4 h5 h6) (fun q => kf q H locs ls h1 h2 h3 h4 h5 h6)
theorem r_if_lt (hK : Cl E own cc ret nL k mc sz0 ini G0 Q K) {x : Int32} {off : Int} {tgt : Nat} (hd : decode cc pc = .ok (.ifCond .lt off, 3)) (ht : (pc : Int) + off = (tgt : Int)) (kt : x < 0 → K tgt Ls st sz G) (kf : ¬ x < 0 → K (pc + 3) Ls st sz G) : K pc Ls (.int x :: st) sz G := by
  obtain ⟨p, e, s, m, args, below, meth, c, C, rfl⟩ := hK
  intro H locs ls h1 h2 h3 h4 h5 h6
  exact lv_if_lt C.1 C.2.1 hd ht (fun q => kt q H locs ls h1 h2 h3 h4 h5 h6) (fun q => kf q H locs ls h1 h2 h3 h4 h5 h6)
theorem r_icmp_lt (hK : Cl E own cc ret nL k mc sz0 ini G0 Q K) {x y : Int32} {off : Int} {tgt : Nat} (hd : decode cc pc = .ok (.if_icmp .lt off, 3)) (ht : (pc : Int) + off = (tgt : Int)) (kt : x < y → K tgt Ls st sz G) (kf : ¬ x < y → K (pc + 3) Ls st sz G) : K pc Ls (.int y :: .int x :: st) sz G := by
  obtain ⟨p, e, s, m, args, below, meth, c, C, rfl⟩ := hK
  intro H locs ls h1 h2 h3 h4 h5 h6
  exact lv_icmp_lt C.1 C.2.1 hd ht (fun q => kt q H locs ls h1 h2 h3 h4 h5 h6) (fun q => kf q H locs ls h1 h2 h3 h4 h5 h6)
theorem r_if_ge (hK : Cl E own cc ret nL k mc sz0 ini G0 Q K) {x : Int32} {off : Int} {tgt : Nat} (hd : decode cc pc = .ok (.ifCond .ge off, 3)) (ht : (pc : Int) + off = (tgt : Int)) (kt : 0 ≤ x → K tgt Ls st sz G) (kf : ¬ 0 ≤ x → K (pc + 3) Ls st sz G) : K pc Ls (.int x :: st) sz G := by
  obtain ⟨p, e, s, m, args, below, meth, c, C, rfl⟩ := hK
  intro H locs ls h1 h2 h3 h4 h5 h6
  exact lv_if_ge C.1 C.2.1 hd ht (fun q => kt q H locs ls h1 h2 h3 h4 h5 h6) (fun q => kf q H locs ls h1 h2 h3 h4 h5 h6)
theorem r_icmp_ge (hK : Cl E own cc ret nL k mc sz0 ini G0 Q K) {x y : Int32} {off : Int} {tgt : Nat} (hd : decode cc pc = .ok (.if_icmp .ge off, 3)) (ht : (pc : Int) + off = (tgt : Int)) (kt : y ≤ x → K tgt Ls st sz G) (kf : ¬ y ≤ x → K (pc + 3) Ls st sz G) : K pc Ls (.int y :: .int x :: st) sz G := by
  obtain ⟨p, e, s, m, args, below, meth, c, C, rfl⟩ := hK
  intro H locs ls h1 h2 h3 h4 h5 h6
  exact lv_icmp_ge C.1 C.2.1 hd ht (fun q => kt q H locs ls h1 h2 h3 h4 h5 h6) (fun q => kf q H locs ls h1 h2 h3 h4 h5 h6)
theorem r_if_gt (hK : Cl E own cc ret nL k mc sz0 ini G0 Q K) {x : Int32} {off : Int} {tgt : Nat} (hd : decode cc pc = .ok (.ifCond .gt off, 3)) (ht : (pc : Int) + off = (tgt : Int)) (kt : 0 < x → K tgt Ls st sz G) (kf : ¬ 0 < x → K (pc + 3) Ls st sz G) : K pc Ls (.int x :: st) sz G := by
  obtain ⟨p, e, s, m, args, below, meth, c, C, rfl⟩ := hK
  intro H locs ls h1 h2 h3 h4 h5 h6
  exact lv_if_gt C.1 C.2.1 hd ht (fun q => kt q H locs ls h1 h2 h3 h4 h5 h6) (fun q => kf q H locs ls h1 h2 h3 h4 h5 h6)
theorem r_icmp_gt (hK : Cl E own cc ret nL k mc sz0 ini G0 Q K) {x y : Int32} {off : Int} {tgt : Nat} (hd : decode cc pc = .ok (.if_icmp .gt off, 3)) (ht : (pc : Int) + off = (tgt : Int)) (kt : y < x → K tgt Ls st sz G) (kf : ¬ y < x → K (pc + 3) Ls st sz G) : K pc Ls (.int y :: .int x :: st) sz G := by
  obtain ⟨p, e, s, m, args, below, meth, c, C, rfl⟩ := hK
  intro H locs ls h1 h2 h3 h4 h5 h6
  exact lv_icmp_gt C.1 C.2.1 hd ht (fun q => kt q H locs ls h1 h2 h3 h4 h5 h6) (fun q => kf q H locs ls h1 h2 h3 h4 h5 h6)
theorem r_if_le (hK : Cl E own cc ret nL k mc sz0 ini G0 Q K) {x : Int32} {off : Int} {tgt : Nat} (hd : decode cc pc = .ok (.ifCond .le off, 3)) (ht : (pc : Int) + off = (tgt : Int)) (kt : x ≤ 0 → K tgt Ls st sz G) (kf : ¬ x ≤ 0 → K (pc + 3) Ls st sz G) : K pc Ls (.int x :: st) sz G := by
  obtain ⟨p, e, s, m, args, below, meth, c, C, rfl⟩ := hK
  intro H locs ls h1 h2 h3 h4 h5 h6
  exact lv_if_le C.1 C.2.1 hd ht (fun q => kt q H locs ls h1 h2 h3 h4 h5 h6) (fun q => kf q H locs ls h1 h2 h3 h4 h5 h6)
theorem r_icmp_le (hK : Cl E own cc ret nL k mc sz0 ini G0 Q K) {x y : Int32} {off : Int} {tgt : Nat} (hd : decode cc pc = .ok (.if_icmp .le off, 3)) (ht : (pc : Int) + off = (tgt : Int)) (kt : x ≤ y → K tgt Ls st sz G) (kf : ¬ x ≤ y → K (pc + 3) Ls st sz G) : K pc Ls (.int y :: .int x :: st) sz G := by
  obtain ⟨p, e, s, m, args, below, meth, c, C, rfl⟩ := hK
  intro H locs ls h1 h2 h3 h4 h5 h6
  exact lv_icmp_le C.1 C.2.1 hd ht (fun q => kt q H locs ls h1 h2 h3 h4 h5 h6) (fun q => kf q H locs ls h1 h2 h3 h4 h5 h6)
def lvP (Ls : List (Option Value)) : List (Nat × Value) := (List.range Ls.length).filterMap fun i => match Ls[i]? with
  | some (some v) => some (i, v)
  | _ => none
theorem lvP_in {Ls : List (Option Value)} {i : Nat} {v : Value} (h : Ls[i]? = some (some v)) : (i, v) ∈ lvP Ls :=
  List.mem_filterMap.mpr ⟨i, List.mem_range.mpr (List.getElem?_eq_some_iff.mp h).1, by rw [h]⟩
theorem lvP_of {Ls : List (Option Value)} {q : Nat × Value} (h : q ∈ lvP Ls) : Ls[q.1]? = some (some q.2) := by
  obtain ⟨i, -, hi⟩ := List.mem_filterMap.mp h
  cases hv : Ls[i]? with
  | none => rw [hv] at hi; cases hi
  | some o =>
    cases o with
    | none => rw [hv] at hi; cases hi
    | some v => rw [hv] at hi; cases hi; exact hv
theorem lvL_has {ls : Array Slot} {nL : Nat} {Ls : List (Option Value)} (h : lvL ls Ls) (h6 : ls.size = nL) : lv_has ls nL (lvP Ls) := ⟨h6, h.2.1, fun _ hq => h.2.2 _ _ (lvP_of hq)⟩
def okc : Option Value → Prop
  | some (.long _) => False
  | some (.double _) => False
  | _ => True
def pOk (Ls : List (Option Value)) : Nat → Prop
  | 0 => True
  | j + 1 => okc (Ls[j]?.getD none)
theorem okc_cat {v : Value} (h : okc (some v)) : v.category = 1 := by cases v <;> first | rfl | exact h.elim
theorem lvL_st1 {ls' : Array Slot} {nL : Nat} {Ls : List (Option Value)} {i : Nat} {v : Value} (hn : Ls.length = nL) (hp : pOk Ls i) (h : lv_has ls' nL ((i, v) :: (lvP Ls).filter (fun q => !(q.1 == i) && !(q.1 + 1 == i && q.2.category == 2)))) : lvL ls' (Ls.set i (some v)) := by
  refine ⟨by rw [h.1, List.length_set, hn], h.2.1, fun j w hj => ?_⟩
  by_cases hji : j = i
  · subst hji
    have hl : j < Ls.length := by
      have := (List.getElem?_eq_some_iff.mp hj).1
      simpa using this
    rw [List.getElem?_set_self hl] at hj
    cases hj
    exact h.2.2 (j, _) List.mem_cons_self
  · rw [List.getElem?_set_ne (Ne.symm hji)] at hj
    refine h.2.2 (j, w) (List.mem_cons_of_mem _ (List.mem_filter.mpr ⟨lvP_in hj, ?_⟩))
    have hc : j + 1 = i → w.category = 1 := by
      intro e
      subst e
      have hp : okc (Ls[j]?.getD none) := hp
      rw [hj] at hp
      exact okc_cat hp
    by_cases e : j + 1 = i
    · simp [hji, hc e]
    · simp [hji, e]
theorem lvL_st2 {ls' : Array Slot} {nL : Nat} {Ls : List (Option Value)} {i : Nat} {v : Value} (hn : Ls.length = nL) (hp : pOk Ls i) (h : lv_has ls' nL ((i, v) :: (lvP Ls).filter (fun q => !(q.1 == i) && (!(q.1 == i + 1) && !(q.1 + 1 == i && q.2.category == 2))))) : lvL ls' ((Ls.set i (some v)).set (i + 1) none) := by
  refine ⟨by rw [h.1, List.length_set, List.length_set, hn], h.2.1, fun j w hj => ?_⟩
  by_cases hji1 : j = i + 1
  · subst hji1
    exfalso
    have hl := (List.getElem?_eq_some_iff.mp hj).1
    rw [List.length_set] at hl
    rw [List.getElem?_set_self hl] at hj
    cases hj
  · rw [List.getElem?_set_ne (Ne.symm hji1)] at hj
    by_cases hji : j = i
    · subst hji
      have hl : j < Ls.length := by
        have := (List.getElem?_eq_some_iff.mp hj).1
        simpa using this
      rw [List.getElem?_set_self hl] at hj
      cases hj
      exact h.2.2 (j, _) List.mem_cons_self
    · rw [List.getElem?_set_ne (Ne.symm hji)] at hj
      refine h.2.2 (j, w) (List.mem_cons_of_mem _ (List.mem_filter.mpr ⟨lvP_in hj, ?_⟩))
      have hc : j + 1 = i → w.category = 1 := by
        intro e
        subst e
        have hp : okc (Ls[j]?.getD none) := hp
        rw [hj] at hp
        exact okc_cat hp
      by_cases e : j + 1 = i
      · simp [hji, hji1, hc e]
      · simp [hji, hji1, e]
theorem r_istore_n (hK : Cl E own cc ret nL k mc sz0 ini G0 Q K) {j : Fin 4} {x : Int32} (hd : decode cc pc = .ok (.istore_n j, 1)) (hj : (j : Nat) < Ls.length) (hp : pOk Ls (j : Nat)) (kk : K (pc + 1) (Ls.set (j : Nat) (some (.int x))) st sz G) : K pc Ls (.int x :: st) sz G := by
  obtain ⟨p, e, s, m, args, below, meth, c, C, rfl⟩ := hK
  intro H locs ls h1 h2 h3 h4 h5 h6
  have hLl : Ls.length = nL := h5.1.symm.trans h6
  refine lv_istore_n C.1 C.2.1 hd rfl (lvL_has h5 h6) (by rw [← hLl]; exact hj) rfl (fun ls' hl' => ?_)
  exact kk H locs ls' h1 h2 h3 h4 (lvL_st1 hLl hp hl') hl'.1
theorem r_istore (hK : Cl E own cc ret nL k mc sz0 ini G0 Q K) {j : Nat} {x : Int32} (hd : decode cc pc = .ok (.istore j, 2)) (hj : j < Ls.length) (hp : pOk Ls j) (kk : K (pc + 2) (Ls.set j (some (.int x))) st sz G) : K pc Ls (.int x :: st) sz G := by
  obtain ⟨p, e, s, m, args, below, meth, c, C, rfl⟩ := hK
  intro H locs ls h1 h2 h3 h4 h5 h6
  have hLl : Ls.length = nL := h5.1.symm.trans h6
  refine lv_istore C.1 C.2.1 hd (lvL_has h5 h6) (by rw [← hLl]; exact hj) rfl (fun ls' hl' => ?_)
  exact kk H locs ls' h1 h2 h3 h4 (lvL_st1 hLl hp hl') hl'.1
theorem r_astore_n (hK : Cl E own cc ret nL k mc sz0 ini G0 Q K) {j : Fin 4} {x : Nat} (hd : decode cc pc = .ok (.astore_n j, 1)) (hj : (j : Nat) < Ls.length) (hp : pOk Ls (j : Nat)) (kk : K (pc + 1) (Ls.set (j : Nat) (some (.ref x))) st sz G) : K pc Ls (.ref x :: st) sz G := by
  obtain ⟨p, e, s, m, args, below, meth, c, C, rfl⟩ := hK
  intro H locs ls h1 h2 h3 h4 h5 h6
  have hLl : Ls.length = nL := h5.1.symm.trans h6
  refine lv_astore_n C.1 C.2.1 hd rfl (lvL_has h5 h6) (by rw [← hLl]; exact hj) rfl (fun ls' hl' => ?_)
  exact kk H locs ls' h1 h2 h3 h4 (lvL_st1 hLl hp hl') hl'.1
theorem r_astore (hK : Cl E own cc ret nL k mc sz0 ini G0 Q K) {j : Nat} {x : Nat} (hd : decode cc pc = .ok (.astore j, 2)) (hj : j < Ls.length) (hp : pOk Ls j) (kk : K (pc + 2) (Ls.set j (some (.ref x))) st sz G) : K pc Ls (.ref x :: st) sz G := by
  obtain ⟨p, e, s, m, args, below, meth, c, C, rfl⟩ := hK
  intro H locs ls h1 h2 h3 h4 h5 h6
  have hLl : Ls.length = nL := h5.1.symm.trans h6
  refine lv_astore C.1 C.2.1 hd (lvL_has h5 h6) (by rw [← hLl]; exact hj) rfl (fun ls' hl' => ?_)
  exact kk H locs ls' h1 h2 h3 h4 (lvL_st1 hLl hp hl') hl'.1
theorem r_lstore_n (hK : Cl E own cc ret nL k mc sz0 ini G0 Q K) {j : Fin 4} {x : Int64} (hd : decode cc pc = .ok (.lstore_n j, 1)) (hj : (j : Nat) + 1 < Ls.length) (hp : pOk Ls (j : Nat)) (kk : K (pc + 1) ((Ls.set (j : Nat) (some (.long x))).set ((j : Nat) + 1) none) st sz G) : K pc Ls (.long x :: st) sz G := by
  obtain ⟨p, e, s, m, args, below, meth, c, C, rfl⟩ := hK
  intro H locs ls h1 h2 h3 h4 h5 h6
  have hLl : Ls.length = nL := h5.1.symm.trans h6
  refine lv_lstore_n C.1 C.2.1 hd rfl (lvL_has h5 h6) (by rw [← hLl]; exact hj) rfl (fun ls' hl' => ?_)
  exact kk H locs ls' h1 h2 h3 h4 (lvL_st2 hLl hp hl') hl'.1
theorem r_lstore (hK : Cl E own cc ret nL k mc sz0 ini G0 Q K) {j : Nat} {x : Int64} (hd : decode cc pc = .ok (.lstore j, 2)) (hj : j + 1 < Ls.length) (hp : pOk Ls j) (kk : K (pc + 2) ((Ls.set j (some (.long x))).set (j + 1) none) st sz G) : K pc Ls (.long x :: st) sz G := by
  obtain ⟨p, e, s, m, args, below, meth, c, C, rfl⟩ := hK
  intro H locs ls h1 h2 h3 h4 h5 h6
  have hLl : Ls.length = nL := h5.1.symm.trans h6
  refine lv_lstore C.1 C.2.1 hd (lvL_has h5 h6) (by rw [← hLl]; exact hj) rfl (fun ls' hl' => ?_)
  exact kk H locs ls' h1 h2 h3 h4 (lvL_st2 hLl hp hl') hl'.1
theorem r_iinc (hK : Cl E own cc ret nL k mc sz0 ini G0 Q K) {i : Nat} {n : Int} {x v : Int32} (hd : decode cc pc = .ok (.iinc i n, 3)) (hx : Ls[i]? = some (some (.int x))) (hv : x + Int32.ofInt n = v) (hp : pOk Ls i) (kk : K (pc + 3) (Ls.set i (some (.int v))) st sz G) : K pc Ls st sz G := by
  obtain ⟨p, e, s, m, args, below, meth, c, C, rfl⟩ := hK
  intro H locs ls h1 h2 h3 h4 h5 h6
  have hl := lvL_has h5 h6
  obtain ⟨j, hj⟩ := List.getElem?_of_mem (lvP_in hx)
  have hLl : Ls.length = nL := h5.1.symm.trans h6
  refine lv_iinc C.1 C.2.1 hd hl hj hv (by rw [← hLl]; exact (List.getElem?_eq_some_iff.mp hx).1) rfl (fun ls' hl' => ?_)
  exact kk H locs ls' h1 h2 h3 h4 (lvL_st1 hLl hp hl') hl'.1
-- switches
def swT (K' : Nat → Prop) (pc : Nat) (x : Int) : Int → List Int → Prop
  | _, [] => True
  | a, off :: r => (x = a → K' ((pc : Int) + off).toNat) ∧ swT K' pc x (a + 1) r
theorem swT_at {K' : Nat → Prop} {pc : Nat} {x : Int} : ∀ (l : List Int) (a : Int) (j : Nat) (off : Int), swT K' pc x a l → l[j]? = some off → x = a + j → K' ((pc : Int) + off).toNat
  | [], _, _, _, _, h, _ => by simp at h
  | o :: r, a, 0, off, h, hj, hx => by
    simp at hj
    subst hj
    exact h.1 (by omega)
  | o :: r, a, j + 1, off, h, hj, hx => by
    simp only [List.getElem?_cons_succ] at hj
    exact swT_at r (a + 1) j off h.2 hj (by omega)
theorem r_table (hK : Cl E own cc ret nL k mc sz0 ini G0 Q K) {dflt lo hi : Int} {offs : Array Int} {len td : Nat} {x : Int32} (hd : decode cc pc = .ok (.tableswitch dflt lo hi offs, len)) (ho : (offs.size : Int) = hi - lo + 1 ∧ offs.toList.all (fun o => decide (0 ≤ (pc : Int) + o)) = true) (ht : (pc : Int) + dflt = (td : Int)) (kd : x.toInt < lo ∨ hi < x.toInt → K td Ls st sz G) (ki : swT (fun q => K q Ls st sz G) pc x.toInt lo offs.toList) : K pc Ls (.int x :: st) sz G := by
  obtain ⟨p, e, s, m, args, below, meth, c, C, rfl⟩ := hK
  intro H locs ls h1 h2 h3 h4 h5 h6
  by_cases q1 : x.toInt < lo
  · exact lv_tableOut C.1 C.2.1 hd (Or.inl q1) ht (kd (Or.inl q1) H locs ls h1 h2 h3 h4 h5 h6)
  by_cases q2 : hi < x.toInt
  · exact lv_tableOut C.1 C.2.1 hd (Or.inr q2) ht (kd (Or.inr q2) H locs ls h1 h2 h3 h4 h5 h6)
  have hj : (x.toInt - lo).toNat < offs.size := by omega
  have hget : offs[(x.toInt - lo).toNat]? = some offs[(x.toInt - lo).toNat] := Array.getElem?_eq_getElem hj
  generalize offs[(x.toInt - lo).toNat] = off at hget
  have hl : offs.toList[(x.toInt - lo).toNat]? = some off := by rw [Array.getElem?_toList]; exact hget
  have hpos : 0 ≤ (pc : Int) + off := by
    have := List.all_eq_true.mp ho.2 off (List.mem_of_getElem? hl)
    simpa using this
  have := swT_at offs.toList lo (x.toInt - lo).toNat off ki hl (by omega)
  exact lv_tableIn C.1 C.2.1 hd q1 q2 hget (tgt := ((pc : Int) + off).toNat) (by omega) (this H locs ls h1 h2 h3 h4 h5 h6)
def swL (K' : Nat → Prop) (pc : Nat) (x dflt : Int) : List (Int × Int) → Prop
  | [] => K' ((pc : Int) + dflt).toNat
  | q :: r => (x = q.1 → K' ((pc : Int) + q.2).toNat) ∧ (¬ x = q.1 → swL K' pc x dflt r)
theorem swL_at {K' : Nat → Prop} {pc : Nat} {x dflt : Int} : ∀ (l : List (Int × Int)), swL K' pc x dflt l → K' ((pc : Int) + Op.lookupswitch.offset l dflt x).toNat
  | [], h => h
  | q :: r, h => by
    by_cases e : x = q.1
    · rw [show Op.lookupswitch.offset (q :: r) dflt x = q.2 by simp [Op.lookupswitch.offset, e]]
      exact h.1 e
    · rw [show Op.lookupswitch.offset (q :: r) dflt x = Op.lookupswitch.offset r dflt x by simp [Op.lookupswitch.offset, Ne.symm e]]
      exact swL_at r (h.2 e)
theorem swL_pos {pc : Nat} {x dflt : Int} : ∀ (l : List (Int × Int)), 0 ≤ (pc : Int) + dflt → l.all (fun o => decide (0 ≤ (pc : Int) + o.2)) = true → 0 ≤ (pc : Int) + Op.lookupswitch.offset l dflt x
  | [], h, _ => h
  | q :: r, h, ha => by
    simp only [List.all_cons, Bool.and_eq_true, decide_eq_true_eq] at ha
    by_cases e : x = q.1
    · rw [show Op.lookupswitch.offset (q :: r) dflt x = q.2 by simp [Op.lookupswitch.offset, e]]
      exact ha.1
    · rw [show Op.lookupswitch.offset (q :: r) dflt x = Op.lookupswitch.offset r dflt x by simp [Op.lookupswitch.offset, Ne.symm e]]
      exact swL_pos r h ha.2
theorem r_lookup (hK : Cl E own cc ret nL k mc sz0 ini G0 Q K) {dflt : Int} {ps : Array (Int × Int)} {len : Nat} {x : Int32} (hd : decode cc pc = .ok (.lookupswitch dflt ps, len)) (hp : (ps.toList.zip (ps.toList.drop 1)).all (fun (a, next) => a.1 < next.1) = true) (ho : 0 ≤ (pc : Int) + dflt ∧ ps.toList.all (fun o => decide (0 ≤ (pc : Int) + o.2)) = true) (ki : swL (fun q => K q Ls st sz G) pc x.toInt dflt ps.toList) : K pc Ls (.int x :: st) sz G := by
  obtain ⟨p, e, s, m, args, below, meth, c, C, rfl⟩ := hK
  intro H locs ls h1 h2 h3 h4 h5 h6
  have := swL_at ps.toList ki
  have hpos := swL_pos (x := x.toInt) ps.toList ho.1 ho.2
  exact lv_lookup C.1 C.2.1 hd hp rfl (tgt := ((pc : Int) + Op.lookupswitch.offset ps.toList dflt x.toInt).toNat) (by omega) (this H locs ls h1 h2 h3 h4 h5 h6)
-- fields
theorem r_get (hK : Cl E own cc ret nL k mc sz0 ini G0 Q K) {idx ci kf a : Nat} {ty : FieldType} {fin : Bool} {fs : List Value} {v : Value} (hl : LkF own idx ci kf ty fin) (hd : decode cc pc = .ok (.getfield idx, 3)) (hG : G a = some (.inr (ci, fs))) (hv : fs[kf]? = some v) (kk : K (pc + 3) Ls (v :: st) sz G) : K pc Ls (.ref a :: st) sz G := by
  obtain ⟨p, e, s, m, args, below, meth, c, C, rfl⟩ := hK
  intro H locs ls h1 h2 h3 h4 h5 h6
  obtain ⟨CC, T, N, ty0, ⟨c1, c2, c3, c4⟩, hk, hlink, hdc, hfin, hty⟩ := hl
  refine va_get (ref := CC) C.1 C.2.1 C.2.2.2.2.2.1 c2 C.2.2.2.2.1 C.2.2.2.2.2.2.2.2.1 (gP1 h1 hG) 0 rfl c1 kf hk (C.2.2.2.2.2.1 _ hlink) (fun x h => by rw [hdc] at h; exact h) hv hd ?_
  exact kk H locs ls h1 h2 h3 h4 h5 h6
theorem gP_up {sz : Nat} {G : gG} {H H' : Heap} {a : Nat} {e' : gE} (h : gP E sz G H) (z : H'.size = H.size) (oq : ∀ q : Nat, q ≠ a → H'[q]? = H[q]?) (ha : va_at E.2.1 clz (a, gconv E.2.2.1 e') H') : gP E sz (gup G a e') H' := by
  refine ⟨z.trans h.1, fun b e hb => ?_⟩
  by_cases q : b = a
  · subst q
    rw [gup_s] at hb
    cases hb
    exact ha
  · rw [gup_n q] at hb
    exact (h.2 b e hb).kept (oq b q)
theorem gA_up {sz : Nat} {G : gG} {a : Nat} {e e' : gE} (h : G a = some e) : ∀ q, gA (gup G a e') sz q → gA G sz q := by
  intro q hq
  rcases hq with hq | hq
  · by_cases z : q = a
    · subst z; exact Or.inl (by rw [h]; simp)
    · rw [gup_n z] at hq; exact Or.inl hq
  · exact Or.inr hq
theorem g_after {p : Program} {e : Env} {R : Room} {s : State} {m : MethodId} {args : Array Value} {below : List Frame} {meth : Method} {c : Code} {Qm : State → Prop} {H H' : Heap} {locs : List Loc} {ls : Array Slot} {a j : Nat} {e0 e' : gE} (kk : gK E p e R s m args below meth c nL G0 Qm pc Ls st sz (gup G a e')) (h1 : gP E sz G H) (h2 : s.heap.size ≤ sz) (h3 : ∀ q, gA G sz q → gA G0 s.heap.size q) (h4 : va_S (gA G0 s.heap.size) s.heap H locs) (h5 : lvL ls Ls) (h6 : ls.size = nL) (hG : G a = some e0) (z : H'.size = H.size) (oq : ∀ q : Nat, q ≠ a → H'[q]? = H[q]?) (ha : va_at E.2.1 clz (a, gconv E.2.2.1 e') H') :
    W p E.1 e R s m args below meth c H' (locs ++ [⟨a, j⟩]) (sz - s.heap.size) (1100 * (sz - s.heap.size)) Qm (F0 m pc ls st) :=
  kk H' (locs ++ [⟨a, j⟩]) ls (gP_up h1 z oq ha) h2 (fun q hq => h3 q (gA_up hG q hq)) (h4.put z oq (h3 a (Or.inl (by rw [hG]; simp)))) h5 h6
theorem r_put (hK : Cl E own cc ret nL k mc sz0 ini G0 Q K) {idx ci kf a : Nat} {ty : FieldType} {fs : List Value} {v : Value} (hl : LkF own idx ci kf ty false) (hd : decode cc pc = .ok (.putfield idx, 3)) (hG : G a = some (.inr (ci, fs))) (hn : narrow ty v = v) (hfit : fits ty v = true) (hlen : kf < fs.length) (kk : K (pc + 3) Ls st sz (gup G a (.inr (ci, fs.set kf v)))) : K pc Ls (v :: .ref a :: st) sz G := by
  obtain ⟨p, e, s, m, args, below, meth, c, C, rfl⟩ := hK
  intro H locs ls h1 h2 h3 h4 h5 h6
  obtain ⟨CC, T, N, ty0, ⟨c1, c2, c3, c4⟩, hk, hlink, hdc, hfin, hty⟩ := hl
  have hts := C.2.2.2.2.2.1
  have hKa := C.2.2.2.2.2.2.2.2.1
  have hap := va_apart (own := own) hts c2 ty0 c3 c4 hKa c1
  obtain ⟨r, q0, cell, q1, q2, q3, q4⟩ := h1.2 a _ hG
  have hr : r = (CC, T, N) := Option.some.inj (q0.symm.trans c1)
  subst hr
  obtain ⟨hS, hfc, kC, hkC, hkind⟩ := hKa.1 ci _ c1
  obtain ⟨cf, kk2, fi, f, hi, hsl⟩ := hS kf hk
  have hlay := hts _ (c2 _ (u_in_lay hk))
  unfold u_lay at hlay
  rw [if_neg (by rw [hfin]; decide)] at hlay
  have hst := (u_facts hfc hkC (u_lays hts c2 hk) hi).1
  have h6' := u_store hfc hkC hkind hlay hi (c3 kf hk) (by rw [hty]; exact hn) (by rw [hty]; exact hfit)
  have hi2 : s.fieldFound? CC (T kf).2.1 (T kf).2.2.1 = some (cf, kk2, fi, f) := by rw [← hdc]; exact hi
  refine W.putK C.1 C.2.1 (f := f) ⟨C.2.2.2.2.1, hts _ hlink, ⟨_, _, _, hi2⟩, hst⟩ (by rw [q2]; exact h6') q1 q3 (by rw [hsl]; exact k2_hasslot (q4 kf hk)) rfl rfl hd fun H' e1 e2 e3 => ?_
  rw [hsl] at e1 ⊢
  exact g_after kk h1 h2 h3 h4 h5 h6 hG e2 e3 ⟨_, c1, t_OB.to (V := updV (vp_V fs) kf v) ⟨_, e1, q2, q3, t_set q4 hap hk v⟩ (fun j _ => vp_updV_set hlen v j)⟩
theorem r_putF (hK : Cl E own cc ret nL k mc sz0 ini G0 Q K) {idx ci kf a : Nat} {ty : FieldType} {fs : List Value} {v : Value} (hl : LkF own idx ci kf ty true) (hini : ini = true) (hq : ∃ q : vw_C, clz[ci]? = some q ∧ q.1 = own) (hd : decode cc pc = .ok (.putfield idx, 3)) (hG : G a = some (.inr (ci, fs))) (hn : narrow ty v = v) (hfit : fits ty v = true) (hlen : kf < fs.length) (kk : K (pc + 3) Ls st sz (gup G a (.inr (ci, fs.set kf v)))) : K pc Ls (v :: .ref a :: st) sz G := by
  obtain ⟨p, e, s, m, args, below, meth, c, C, rfl⟩ := hK
  intro H locs ls h1 h2 h3 h4 h5 h6
  obtain ⟨CC, T, N, ty0, ⟨c1, c2, c3, c4⟩, hk, hlink, hdc, hfin, hty⟩ := hl
  obtain ⟨qq, hq1, hq2⟩ := hq
  have hown2 : CC = own := by rw [← hq2, Option.some.inj (hq1.symm.trans c1)]
  have hts := C.2.2.2.2.2.1
  have hKa := C.2.2.2.2.2.2.2.2.1
  have hap := va_apart (own := own) hts c2 ty0 c3 c4 hKa c1
  obtain ⟨r, q0, cell, q1, q2, q3, q4⟩ := h1.2 a _ hG
  have hr : r = (CC, T, N) := Option.some.inj (q0.symm.trans c1)
  subst hr
  obtain ⟨hS, hfc, kC, hkC, hkind⟩ := hKa.1 ci _ c1
  obtain ⟨cf, kk2, fi, f, hi, hsl⟩ := hS kf hk
  have hlay := hts _ (c2 _ (u_in_lay hk))
  unfold u_lay at hlay
  rw [if_pos hfin] at hlay
  have hst := (u_facts hfc hkC (u_lays hts c2 hk) hi).1
  have hcf : m.cls = cf := by
    obtain ⟨_, _, c', _, _, _, -, -, hf', -, -, -, hown3, -⟩ := Cond.laysFinal_spec hlay
    have e1 : c' = cf := by have := hi.symm.trans hf'; simp at this; exact this.1.symm
    rw [hdc, hown2] at hown3
    rw [← e1]; exact Option.some.inj (C.2.2.2.2.1.symm.trans hown3)
  have h6' := u_fits hfc hkC hkind (Or.inr hlay) hi (c3 kf hk) (by rw [hty]; exact hn) (by rw [hty]; exact hfit)
  have hi2 : s.fieldFound? CC (T kf).2.1 (T kf).2.2.1 = some (cf, kk2, fi, f) := by rw [← hdc]; exact hi
  refine W.putFinK C.1 C.2.1 C.2.2.2.2.1 (hts _ hlink) hi2 hst hcf (C.2.2.2.2.2.2.2.1 hini) (by rw [q2]; exact h6') q1 q3 (by rw [hsl]; exact k2_hasslot (q4 kf hk)) rfl rfl hd fun H' e1 e2 e3 => ?_
  rw [hsl] at e1 ⊢
  exact g_after kk h1 h2 h3 h4 h5 h6 hG e2 e3 ⟨_, c1, t_OB.to (V := updV (vp_V fs) kf v) ⟨_, e1, q2, q3, t_set q4 hap hk v⟩ (fun j _ => vp_updV_set hlen v j)⟩
-- arrays
theorem r_iald (hK : Cl E own cc ret nL k mc sz0 ini G0 Q K) {a n : Nat} {f : Nat → Int32} {i : Int32} (hd : decode cc pc = .ok (.iaload, 1)) (hG : G a = some (.inl (0, n, .inl f))) (hin : vp_in i n) (kk : K (pc + 1) Ls (.int (f i.toNatClampNeg) :: st) sz G) : K pc Ls (.int i :: .ref a :: st) sz G := by
  obtain ⟨p, e, s, m, args, below, meth, c, C, rfl⟩ := hK
  intro H locs ls h1 h2 h3 h4 h5 h6
  exact va_iald C.1 C.2.1 C.2.2.2.2.2.2.2.2.1 (gP1 h1 hG) 0 0 rfl rfl hin hd (kk H locs ls h1 h2 h3 h4 h5 h6)
theorem r_zald (hK : Cl E own cc ret nL k mc sz0 ini G0 Q K) {a n : Nat} {f : Nat → Int32} {i : Int32} (hd : decode cc pc = .ok (.baload, 1)) (hG : G a = some (.inl (1, n, .inl f))) (hin : vp_in i n) (kk : K (pc + 1) Ls (.int (f i.toNatClampNeg) :: st) sz G) : K pc Ls (.int i :: .ref a :: st) sz G := by
  obtain ⟨p, e, s, m, args, below, meth, c, C, rfl⟩ := hK
  intro H locs ls h1 h2 h3 h4 h5 h6
  exact va_zald C.1 C.2.1 C.2.2.2.2.2.2.2.2.1 (gP1 h1 hG) 0 1 rfl rfl hin hd (kk H locs ls h1 h2 h3 h4 h5 h6)
theorem r_aald (hK : Cl E own cc ret nL k mc sz0 ini G0 Q K) {t a n : Nat} {f : Nat → Option Nat} {i : Int32} (hd : decode cc pc = .ok (.aaload, 1)) (hG : G a = some (.inl (t, n, .inr (.inr (.inr (.inr f)))))) (hin : vp_in i n) (ht : t = 2 ∨ t = 3 ∨ t = 4) (kk : K (pc + 1) Ls (va_rf (f i.toNatClampNeg) :: st) sz G) : K pc Ls (.int i :: .ref a :: st) sz G := by
  obtain ⟨p, e, s, m, args, below, meth, c, C, rfl⟩ := hK
  intro H locs ls h1 h2 h3 h4 h5 h6
  rcases ht with rfl | rfl | rfl
  · exact va_aldq C.1 C.2.1 C.2.2.2.2.2.2.2.2.1 (gP1 h1 hG) 0 2 rfl rfl hin hd (kk H locs ls h1 h2 h3 h4 h5 h6)
  · exact va_aldq C.1 C.2.1 C.2.2.2.2.2.2.2.2.1 (gP1 h1 hG) 0 3 rfl rfl hin hd (kk H locs ls h1 h2 h3 h4 h5 h6)
  · exact va_aldq C.1 C.2.1 C.2.2.2.2.2.2.2.2.1 (gP1 h1 hG) 0 4 rfl rfl hin hd (kk H locs ls h1 h2 h3 h4 h5 h6)
theorem r_alen (hK : Cl E own cc ret nL k mc sz0 ini G0 Q K) {t a : Nat} {x : vp_A} {v : Int32} (hd : decode cc pc = .ok (.arraylength, 1)) (hG : G a = some (.inl (t, x))) (ht : t < 5) (hv : Int32.ofNat x.1 = v) (kk : K (pc + 1) Ls (.int v :: st) sz G) : K pc Ls (.ref a :: st) sz G := by
  obtain ⟨p, e, s, m, args, below, meth, c, C, rfl⟩ := hK
  intro H locs ls h1 h2 h3 h4 h5 h6
  match t, ht with
  | 0, _ => exact va_alen C.1 C.2.1 C.2.2.2.2.2.2.2.2.1 (gP1 h1 hG) 0 0 rfl rfl hv hd (kk H locs ls h1 h2 h3 h4 h5 h6)
  | 1, _ => exact va_alen C.1 C.2.1 C.2.2.2.2.2.2.2.2.1 (gP1 h1 hG) 0 1 rfl rfl hv hd (kk H locs ls h1 h2 h3 h4 h5 h6)
  | 2, _ => exact va_alen C.1 C.2.1 C.2.2.2.2.2.2.2.2.1 (gP1 h1 hG) 0 2 rfl rfl hv hd (kk H locs ls h1 h2 h3 h4 h5 h6)
  | 3, _ => exact va_alen C.1 C.2.1 C.2.2.2.2.2.2.2.2.1 (gP1 h1 hG) 0 3 rfl rfl hv hd (kk H locs ls h1 h2 h3 h4 h5 h6)
  | 4, _ => exact va_alen C.1 C.2.1 C.2.2.2.2.2.2.2.2.1 (gP1 h1 hG) 0 4 rfl rfl hv hd (kk H locs ls h1 h2 h3 h4 h5 h6)
  | t + 5, h => exact absurd h (by omega)
theorem r_iast (hK : Cl E own cc ret nL k mc sz0 ini G0 Q K) {a n : Nat} {f : Nat → Int32} {i x : Int32} (hd : decode cc pc = .ok (.iastore, 1)) (hG : G a = some (.inl (0, n, .inl f))) (hin : vp_in i n) (kk : K (pc + 1) Ls st sz (gup G a (.inl (0, n, .inl (upd f i.toNatClampNeg x))))) : K pc Ls (.int x :: .int i :: .ref a :: st) sz G := by
  obtain ⟨p, e, s, m, args, below, meth, c, C, rfl⟩ := hK
  intro H locs ls h1 h2 h3 h4 h5 h6
  refine W.iast C.1 C.2.1 (h1.2 a _ hG) ((C.2.2.2.2.2.2.2.2.1.2 0 _ rfl).1 n (fun j => .int (f j))) (fun q => by cases q) (by show ¬ (i < 0 ∨ (arrV _ _ _).slots.size ≤ _); rw [arrV_size]; exact hin) rfl rfl hd fun H1 e1 z oq => ?_
  refine g_after kk h1 h2 h3 h4 h5 h6 hG z oq ?_
  show H1[a]? = some (vp_cell _ _)
  rw [e1]
  rw [vp_cell_i, vp_cell_i, arrV_store]
  congr 2
  funext q
  by_cases hq : q = i.toNatClampNeg
  · subst hq
    simp [updV, upd]
  · simp [updV, upd, hq]
theorem r_zast (hK : Cl E own cc ret nL k mc sz0 ini G0 Q K) {a n : Nat} {f : Nat → Int32} {i x : Int32} (hd : decode cc pc = .ok (.bastore, 1)) (hG : G a = some (.inl (1, n, .inl f))) (hin : vp_in i n) (kk : K (pc + 1) Ls st sz (gup G a (.inl (1, n, .inl (upd f i.toNatClampNeg (vp_nar .boolean x)))))) : K pc Ls (.int x :: .int i :: .ref a :: st) sz G := by
  obtain ⟨p, e, s, m, args, below, meth, c, C, rfl⟩ := hK
  intro H locs ls h1 h2 h3 h4 h5 h6
  refine W.zast C.1 C.2.1 (h1.2 a _ hG) ((C.2.2.2.2.2.2.2.2.1.2 1 _ rfl).1 n (fun j => .int (f j))) (fun q => by cases q) (by show ¬ (i < 0 ∨ (arrV _ _ _).slots.size ≤ _); rw [arrV_size]; exact hin) rfl rfl hd fun H1 e1 z oq => ?_
  refine g_after kk h1 h2 h3 h4 h5 h6 hG z oq ?_
  show H1[a]? = some (vp_cell _ _)
  rw [e1]
  rw [vp_cell_i, vp_cell_i, arrV_store]
  congr 2
  funext q
  by_cases hq : q = i.toNatClampNeg
  · subst hq
    simp [updV, upd, vp_nar, narrow]
  · simp [updV, upd, hq]
def aCls : Nat → Nat
  | 2 => 1
  | 3 => 3
  | _ => 0
theorem r_aast (hK : Cl E own cc ret nL k mc sz0 ini G0 Q K) {t a n v : Nat} {vs : List Value} {f : Nat → Option Nat} {i : Int32} (hd : decode cc pc = .ok (.aastore, 1)) (hG : G a = some (.inl (t, n, .inr (.inr (.inr (.inr f)))))) (hv : G v = some (.inr (aCls t, vs))) (hin : vp_in i n) (ht : t = 2 ∨ t = 3 ∨ t = 4) (kk : K (pc + 1) Ls st sz (gup G a (.inl (t, n, .inr (.inr (.inr (.inr (va_up f i.toNatClampNeg (some v)))))))) ) : K pc Ls (.ref v :: .int i :: .ref a :: st) sz G := by
  obtain ⟨p, e, s, m, args, below, meth, c, C, rfl⟩ := hK
  intro H locs ls h1 h2 h3 h4 h5 h6
  have hlt : i.toNatClampNeg < n := Nat.not_le.mp fun q => hin (Or.inr q)
  have hn0 : ¬ i < 0 := fun q => hin (Or.inl q)
  have hKa := C.2.2.2.2.2.2.2.2.1
  obtain ⟨r', hr', cellV, g1, g2, g3, -⟩ := h1.2 v _ hv
  have key : ∃ (cA : ClassId) (r : vw_C), E.2.2.1 t = cA ∧ clz[aCls t]? = some r ∧ va_RA s cA (.object r.1) := by
    rcases ht with rfl | rfl | rfl
    · exact ⟨_, _, rfl, rfl, (hKa.2 2 _ rfl).2⟩
    · exact ⟨_, _, rfl, rfl, (hKa.2 3 _ rfl).2⟩
    · exact ⟨_, _, rfl, rfl, (hKa.2 4 _ rfl).2⟩
  obtain ⟨cA, r, hcA, hc, kA, comp, k1, k2, k3, -⟩ := key
  have hcls := (hKa.1 _ r hc).2
  have hcomp : comp = E.2.1.1 (aCls t) := Option.some.inj (k3.symm.trans hcls.1)
  subst hcomp
  obtain ⟨kC, hkC, -⟩ := hcls.2
  have hcell : H[a]? = some (vp_cell (E.2.2.1 t) (n, .inr (.inr (.inr (.inr f))))) := h1.2 a _ hG
  rw [hcA] at hcell
  refine W.aast C.1 C.2.1 hcell (fun q h => by cases h) (fun h => by cases h) k1 k2 rfl hkC ⟨hn0, by show _ < (arrV _ _ _).slots.size; rw [arrV_size]; exact hlt⟩ g1 (fun q h => by rw [g3] at h; cases h) (by rw [g2]; exact hkC) (by rw [g2]; exact va_assign hcls) rfl rfl hd fun H1 e1 z oq => ?_
  refine g_after kk h1 h2 h3 h4 h5 h6 hG z oq ?_
  show H1[a]? = some (vp_cell (E.2.2.1 t) _)
  rw [e1, hcA]
  rw [vp_cell_q, vp_cell_q, arrV_store]
  congr 2
  funext q
  by_cases hq : q = i.toNatClampNeg
  · subst hq
    simp [updV, va_up, va_rf]
  · simp [updV, va_up, hq]
-- statics
theorem r_gets0 (hK : Cl E own cc ret nL k mc sz0 ini G0 Q K) {idx : Nat} (hl : Cond.fieldLink own idx "ClockPost" "NEAREST_KIND" "[I" ∈ tbl) (hd : decode cc pc = .ok (.getstatic idx, 3)) (kk : K (pc + 3) Ls (.ref (E.2.2.2 0) :: st) sz G) : K pc Ls st sz G := by
  obtain ⟨p, e, s, m, args, below, meth, c, C, rfl⟩ := hK
  intro H locs ls h1 h2 h3 h4 h5 h6
  exact va_gets C.1 C.2.1 C.2.2.2.2.2.2.2.2.2.1.1.1 h4 C.2.2.2.2.1 (C.2.2.2.2.2.1 _ hl) (fun _ h => h) hd (kk H locs ls h1 h2 h3 h4 h5 h6)
theorem r_gets1 (hK : Cl E own cc ret nL k mc sz0 ini G0 Q K) {idx : Nat} (hl : Cond.fieldLink own idx "ClockPost" "SIZE_BODIES" "[I" ∈ tbl) (hd : decode cc pc = .ok (.getstatic idx, 3)) (kk : K (pc + 3) Ls (.ref (E.2.2.2 1) :: st) sz G) : K pc Ls st sz G := by
  obtain ⟨p, e, s, m, args, below, meth, c, C, rfl⟩ := hK
  intro H locs ls h1 h2 h3 h4 h5 h6
  exact va_gets C.1 C.2.1 C.2.2.2.2.2.2.2.2.2.1.2.1.1 h4 C.2.2.2.2.1 (C.2.2.2.2.2.1 _ hl) (fun _ h => h) hd (kk H locs ls h1 h2 h3 h4 h5 h6)
theorem r_gets2 (hK : Cl E own cc ret nL k mc sz0 ini G0 Q K) {idx : Nat} (hl : Cond.fieldLink own idx "ClockPost" "MARK_BODIES" "[I" ∈ tbl) (hd : decode cc pc = .ok (.getstatic idx, 3)) (kk : K (pc + 3) Ls (.ref (E.2.2.2 2) :: st) sz G) : K pc Ls st sz G := by
  obtain ⟨p, e, s, m, args, below, meth, c, C, rfl⟩ := hK
  intro H locs ls h1 h2 h3 h4 h5 h6
  exact va_gets C.1 C.2.1 C.2.2.2.2.2.2.2.2.2.1.2.2.1 h4 C.2.2.2.2.1 (C.2.2.2.2.2.1 _ hl) (fun _ h => h) hd (kk H locs ls h1 h2 h3 h4 h5 h6)
theorem r_tald0 (hK : Cl E own cc ret nL k mc sz0 ini G0 Q K) {i : Int32} (hd : decode cc pc = .ok (.iaload, 1)) (hin : vp_in i 6) (kk : K (pc + 1) Ls (.int (tbNK i.toNatClampNeg) :: st) sz G) : K pc Ls (.int i :: .ref (E.2.2.2 0) :: st) sz G := by
  obtain ⟨p, e, s, m, args, below, meth, c, C, rfl⟩ := hK
  intro H locs ls h1 h2 h3 h4 h5 h6
  exact va_ti C.1 C.2.1 C.2.2.2.2.2.2.2.2.2.1.1.2 h4 hin rfl hd (kk H locs ls h1 h2 h3 h4 h5 h6)
theorem r_tald1 (hK : Cl E own cc ret nL k mc sz0 ini G0 Q K) {i : Int32} (hd : decode cc pc = .ok (.iaload, 1)) (hin : vp_in i 6) (kk : K (pc + 1) Ls (.int (tbSB i.toNatClampNeg) :: st) sz G) : K pc Ls (.int i :: .ref (E.2.2.2 1) :: st) sz G := by
  obtain ⟨p, e, s, m, args, below, meth, c, C, rfl⟩ := hK
  intro H locs ls h1 h2 h3 h4 h5 h6
  exact va_ti C.1 C.2.1 C.2.2.2.2.2.2.2.2.2.1.2.1.2 h4 hin rfl hd (kk H locs ls h1 h2 h3 h4 h5 h6)
theorem r_tald2 (hK : Cl E own cc ret nL k mc sz0 ini G0 Q K) {i : Int32} (hd : decode cc pc = .ok (.iaload, 1)) (hin : vp_in i 6) (kk : K (pc + 1) Ls (.int (tbMB i.toNatClampNeg) :: st) sz G) : K pc Ls (.int i :: .ref (E.2.2.2 2) :: st) sz G := by
  obtain ⟨p, e, s, m, args, below, meth, c, C, rfl⟩ := hK
  intro H locs ls h1 h2 h3 h4 h5 h6
  exact va_ti C.1 C.2.1 C.2.2.2.2.2.2.2.2.2.1.2.2.2 h4 hin rfl hd (kk H locs ls h1 h2 h3 h4 h5 h6)
-- makings
theorem g_alloc {p : Program} {e : Env} {R : Room} {s : State} {m : MethodId} {args : Array Value} {below : List Frame} {meth : Method} {c : Code} {Qm : State → Prop} {H H' : Heap} {locs : List Loc} {ls : Array Slot} {e' : gE} {n : Nat} (kk : gK E p e R s m args below meth c nL G0 Qm pc Ls st (sz + 1) (gup G sz e')) (h1 : gP E sz G H) (h2 : s.heap.size ≤ sz) (h3 : ∀ q, gA G sz q → gA G0 s.heap.size q) (h4 : va_S (gA G0 s.heap.size) s.heap H locs) (h5 : lvL ls Ls) (h6 : ls.size = nL) (hn : n ≤ 1100) (z : H'.size = sz + 1) (oq : ∀ q : Nat, q < sz → H'[q]? = H[q]?) (ha : va_at E.2.1 clz (sz, gconv E.2.2.1 e') H') :
    W p E.1 e R s m args below meth c H' locs (sz - s.heap.size + 1) (1100 * (sz - s.heap.size) + n) Qm (F0 m pc ls st) := by
  refine W.widen (k := sz + 1 - s.heap.size) (n := 1100 * (sz + 1 - s.heap.size)) (by omega) (by omega) ?_
  refine kk H' locs ls ⟨z, fun b e hb => ?_⟩ (by omega) (fun q hq => ?_) ⟨by rw [z]; omega, fun q hq hq2 => ?_, h4.2.2⟩ h5 h6
  · by_cases q : b = sz
    · subst q
      rw [gup_s] at hb
      cases hb
      exact ha
    · rw [gup_n q] at hb
      have hat := h1.2 b e hb
      have hlt := hat.lt
      rw [h1.1] at hlt
      exact hat.kept (oq b hlt)
  · rcases hq with hq | hq
    · by_cases z : q = sz
      · subst z; exact h3 _ (Or.inr (Nat.le_refl _))
      · rw [gup_n z] at hq; exact h3 _ (Or.inl hq)
    · exact h3 _ (Or.inr (by omega))
  · rw [oq q (by omega)]
    exact h4.2.1 q hq hq2
theorem r_new (hK : Cl E own cc ret nL k mc sz0 ini G0 Q K) {idx ci N : Nat} {CC : String} {T : u_T} {ty0 : Nat → FieldType} {fs : List Value} (hc : ClOk ci CC T N ty0) (hcl : Cond.classLink own idx CC ∈ tbl) (hins : Cond.instantiable CC N ∈ tbl) (hini : Cond.initialized CC ∈ tbl) (hfs : ∀ j, j < N → defaultValue (ty0 j) = vp_V fs j) (hN : N ≤ 1100) (hm : sz + 1 ≤ sz0 + mc) (hd : decode cc pc = .ok (.new idx, 3)) (kk : K (pc + 3) Ls (.ref sz :: st) (sz + 1) (gup G sz (.inr (ci, fs)))) : K pc Ls st sz G := by
  obtain ⟨p, e, s, m, args, below, meth, c, C, rfl⟩ := hK
  intro H locs ls h1 h2 h3 h4 h5 h6
  have hts := C.2.2.2.2.2.1
  have hKa := C.2.2.2.2.2.2.2.2.1
  have hKn := hKa.1 ci _ hc.1
  have hs0 : s.heap.size = sz0 := C.2.2.2.2.2.2.2.2.2.2.1
  refine W.newcK C.1 C.2.1 C.2.2.2.2.1 (hts _ hcl) (hts _ hins) (hts _ hini) rfl hd (by show sz - s.heap.size + 1 ≤ mc; omega) (by show 1100 * (sz - s.heap.size) + N ≤ 1100 * mc; omega) hKn.2.1 h1.1 fun H1 kC hkC e1 z1 o1 => ?_
  exact g_alloc kk h1 h2 h3 h4 h5 h6 hN z1 o1 ⟨_, hc.1, (u_born ty0 hts hc.2.1 hKn hkC e1 hc.2.2.1).to hfs⟩
theorem r_newi (hK : Cl E own cc ret nL k mc sz0 ini G0 Q K) {n : Int32} {N : Nat} (hn : ¬ n < 0) (hN : n.toNatClampNeg = N) (hN2 : N ≤ 1100) (hm : sz + 1 ≤ sz0 + mc) (hd : decode cc pc = .ok (.newarray .int, 2)) (kk : K (pc + 2) Ls (.ref sz :: st) (sz + 1) (gup G sz (.inl (0, N, .inl (fun _ => 0))))) : K pc Ls (.int n :: st) sz G := by
  obtain ⟨p, e, s, m, args, below, meth, c, C, rfl⟩ := hK
  intro H locs ls h1 h2 h3 h4 h5 h6
  have hts := C.2.2.2.2.2.1
  have hs0 : s.heap.size = sz0 := C.2.2.2.2.2.2.2.2.2.2.1
  refine va_newaK (atype := .int) C.1 C.2.1 (hts _ wa_int) rfl hd rfl hn hN (by show N * 4 ≤ _; omega) (by show sz - s.heap.size + 1 ≤ mc; omega) (by show 1100 * (sz - s.heap.size) + N ≤ 1100 * mc; omega) h1.1 fun H1 cA e1 z1 o1 hAr hNm => ?_
  refine g_alloc kk h1 h2 h3 h4 h5 h6 hN2 z1 o1 ?_
  have hcA : E.2.2.1 0 = cA := Option.some.inj ((C.2.2.2.2.2.2.2.2.1.2 0 _ rfl).2.symm.trans hNm)
  show H1[sz]? = some (vp_cell (E.2.2.1 0) _)
  rw [hcA]
  exact e1
theorem r_newz (hK : Cl E own cc ret nL k mc sz0 ini G0 Q K) {n : Int32} {N : Nat} (hn : ¬ n < 0) (hN : n.toNatClampNeg = N) (hN2 : N ≤ 1100) (hm : sz + 1 ≤ sz0 + mc) (hd : decode cc pc = .ok (.newarray .boolean, 2)) (kk : K (pc + 2) Ls (.ref sz :: st) (sz + 1) (gup G sz (.inl (1, N, .inl (fun _ => 0))))) : K pc Ls (.int n :: st) sz G := by
  obtain ⟨p, e, s, m, args, below, meth, c, C, rfl⟩ := hK
  intro H locs ls h1 h2 h3 h4 h5 h6
  have hts := C.2.2.2.2.2.1
  have hs0 : s.heap.size = sz0 := C.2.2.2.2.2.2.2.2.2.2.1
  refine va_newaK (atype := .boolean) C.1 C.2.1 (hts _ wa_boolean) rfl hd rfl hn hN (by show N * 1 ≤ _; omega) (by show sz - s.heap.size + 1 ≤ mc; omega) (by show 1100 * (sz - s.heap.size) + N ≤ 1100 * mc; omega) h1.1 fun H1 cA e1 z1 o1 hAr hNm => ?_
  refine g_alloc kk h1 h2 h3 h4 h5 h6 hN2 z1 o1 ?_
  have hcA : E.2.2.1 1 = cA := Option.some.inj ((C.2.2.2.2.2.2.2.2.1.2 1 _ rfl).2.symm.trans hNm)
  show H1[sz]? = some (vp_cell (E.2.2.1 1) _)
  rw [hcA]
  exact e1
def aNam : Nat → String
  | 2 => "ClockPost$Row"
  | 3 => "ClockPost$House"
  | _ => "ClockPost$Letter"
theorem r_newq (hK : Cl E own cc ret nL k mc sz0 ini G0 Q K) {idx t : Nat} {n : Int32} {N : Nat} (ht : t = 2 ∨ t = 3 ∨ t = 4) (hcl : Cond.classLink own idx (aNam t) ∈ tbl) (hn : ¬ n < 0) (hN : n.toNatClampNeg = N) (hN2 : N ≤ 1100) (hm : sz + 1 ≤ sz0 + mc) (hd : decode cc pc = .ok (.anewarray idx, 3)) (kk : K (pc + 3) Ls (.ref sz :: st) (sz + 1) (gup G sz (.inl (t, N, .inr (.inr (.inr (.inr (fun _ => none)))))))) : K pc Ls (.int n :: st) sz G := by
  obtain ⟨p, e, s, m, args, below, meth, c, C, rfl⟩ := hK
  intro H locs ls h1 h2 h3 h4 h5 h6
  have hts := C.2.2.2.2.2.1
  have hs0 : s.heap.size = sz0 := C.2.2.2.2.2.2.2.2.2.2.1
  have hKa := C.2.2.2.2.2.2.2.2.1
  have hov : va_AO (aNam t) s := C.2.2.2.2.2.2.2.2.2.2.2.2 _ (by rcases ht with rfl | rfl | rfl <;> simp [overL, aNam])
  have hra : va_RA s (E.2.2.1 t) (.object (aNam t)) := by
    rcases ht with rfl | rfl | rfl
    · exact (hKa.2 2 _ rfl).2
    · exact (hKa.2 3 _ rfl).2
    · exact (hKa.2 4 _ rfl).2
  obtain ⟨-, -, -, -, -, hra⟩ := hra
  subst hN
  refine W.anew C.1 C.2.1 C.2.2.2.2.1 (hts _ hcl) (va_AO.use hov) rfl hd rfl hn (by omega) (by show sz - s.heap.size + 1 ≤ mc; omega) (by show 1100 * (sz - s.heap.size) + n.toNatClampNeg ≤ 1100 * mc; omega) fun cA kA comp f1 f2 f3 f4 => ?_
  have hcA : E.2.2.1 t = cA := Option.some.inj (hra.symm.trans f1)
  have hz := h1.1
  subst hz
  refine g_alloc kk h1 h2 h3 h4 h5 h6 hN2 (by simp) (fun q hq => by rw [Array.getElem?_push, if_neg (Nat.ne_of_lt hq)]) ?_
  show (H.push _)[H.size]? = some (vp_cell (E.2.2.1 t) _)
  rw [hcA, Array.getElem?_push_size, arrV_new]
  rfl
-- arraycopy of ints, the JDK's own
theorem nf_copy : nativeFrameWords "java/lang/System" "arraycopy" 5 ≤ 40 := by decide +kernel
theorem r_copy (hK : Cl E own cc ret nL k mc sz0 ini G0 Q K) {idx a0 a n0 n1 : Nat} {f g : Nat → Int32} {sp dp n : Int32} (hlink : Cond.methodLink own idx arraycopyName ∈ tbl) (ha0 : G a0 = some (.inl (0, n0, .inl f))) (ha1 : G a = some (.inl (0, n1, .inl g))) (q1 : ¬ sp < 0) (q2 : ¬ dp < 0) (q3 : ¬ n < 0) (q4 : sp.toNatClampNeg + n.toNatClampNeg ≤ n0) (q5 : dp.toNatClampNeg + n.toNatClampNeg ≤ n1) (hk : 1 ≤ k) (hrest : (st.map fun v => v.category).sum ≤ 8) (hd : decode cc pc = .ok (.invokestatic idx, 3))
    (kk : K (pc + 3) Ls st sz (gup G a (.inl (0, n1, .inl (va_cpy f g sp.toNatClampNeg dp.toNatClampNeg n.toNatClampNeg))))) : K pc Ls (.int n :: .int dp :: .ref a :: .int sp :: .ref a0 :: st) sz G := by
  obtain ⟨p, e, s, m, args, below, meth, c, C, rfl⟩ := hK
  intro H locs ls h1 h2 h3 h4 h5 h6
  have nn : ∀ z : Int32, ¬ z < 0 → z.toInt = (z.toNatClampNeg : Int) := by
    intro z hz
    have hz0 : (0 : Int) ≤ z.toInt := by
      have := Int32.not_lt.mp hz
      simpa using Int32.le_iff_toInt_le.mp this
    show z.toInt = ((z.toInt.toNat : Nat) : Int)
    omega
  have hts := C.2.2.2.2.2.1
  have hKa := C.2.2.2.2.2.2.2.2.1
  intro T hT X
  have hc0 : H[a0]? = some (vp_cell (E.2.2.1 0) (n0, .inl f)) := h1.2 a0 _ ha0
  have hc1 : H[a]? = some (vp_cell (E.2.2.1 0) (n1, .inl g)) := h1.2 a _ ha1
  obtain ⟨-, k0, hk0, cm0, hkk0⟩ := (hKa.2 0 _ rfl).1 n0 (fun j => .int (f j))
  obtain ⟨-, k1, hk1, cm1, hkk1⟩ := (hKa.2 0 _ rfl).1 n1 (fun j => .int (g j))
  obtain ⟨vm', X', step⟩ := X.arraycopy C.1 C.2.2.2.2.1 (hts _ hlink) (hts _ wn_copy) (hts _ ws_copy) (hts _ wz_JS) (src := a0) (dst := a) (cs := vp_cell (E.2.2.1 0) (n0, .inl f)) (cd := vp_cell (E.2.2.1 0) (n1, .inl g)) (srcPos := sp) (destPos := dp) (n := n) (by rw [hT]; exact hc0) (by rw [hT]; exact hc1)
    (fun _ h => by cases h) (fun _ h => by cases h) (fun h => by cases h) (fun h => by cases h) hk0 hk1 hkk0 hkk1 (by simp [refKind]) q1 q2 q3
    (by rw [nn sp q1, nn n q3]; show ¬ _ > ((arrV _ n0 (fun j => .int (f j))).slots.size : Int); rw [arrV_size]; omega)
    (by rw [nn dp q2, nn n q3]; show ¬ _ > ((arrV _ n1 (fun j => .int (g j))).slots.size : Int); rw [arrV_size]; omega)
    (fun vm₁ _ i hi => by
      have e : (vp_cell (E.2.2.1 0) (n0, .inl f)).slots.getD (sp.toNatClampNeg + i) .null = .int (f (sp.toNatClampNeg + i)) := by
        show (arrV _ n0 (fun j => .int (f j))).slots.getD _ _ = _
        rw [Array.getD_eq_getD_getElem?, arrV_read _ _ (by omega)]
        rfl
      refine ⟨?_, ?_⟩
      · rw [e]
        rfl
      · rw [e]
        exact trivial)
    (g := F0 m pc ls (.int n :: .int dp :: .ref a :: .int sp :: .ref a0 :: st)) rfl (by show ls.size = _; rw [C.2.2.2.1]; exact h6) (rest := st) rfl (by rw [C.2.1]; exact hd) (by show 1 ≤ k; exact hk) (by show 2 * 0 + _ + (nativeFrameWords "java/lang/System" "arraycopy" 5 + 11) ≤ 64 * k; have e9 := nf_copy; omega)
  have e1 : copied (vp_cell (E.2.2.1 0) (n0, .inl f)) (vp_cell (E.2.2.1 0) (n1, .inl g)) sp dp n = vp_cell (E.2.2.1 0) (n1, .inl (va_cpy f g sp.toNatClampNeg dp.toNatClampNeg n.toNatClampNeg)) := va_copied (fun z => .int z) _ _ f g q4
  rw [e1] at X' step
  have hl : a < H.size := (Array.getElem?_eq_some_iff.mp hc1).1
  have hheap : ((T.setVm vm').setCell a (vp_cell (E.2.2.1 0) (n1, .inl (va_cpy f g sp.toNatClampNeg dp.toNatClampNeg n.toNatClampNeg)))).heap = H.setIfInBounds a (vp_cell (E.2.2.1 0) (n1, .inl (va_cpy f g sp.toNatClampNeg dp.toNatClampNeg n.toNatClampNeg))) := by rw [← hT]; rfl
  have oq : ∀ q : Nat, q ≠ a → (H.setIfInBounds a (vp_cell (E.2.2.1 0) (n1, .inl (va_cpy f g sp.toNatClampNeg dp.toNatClampNeg n.toNatClampNeg))))[q]? = H[q]? := fun q hq => by simp [Array.getElem?_setIfInBounds, Ne.symm hq]
  have hsz : (H.setIfInBounds a (vp_cell (E.2.2.1 0) (n1, .inl (va_cpy f g sp.toNatClampNeg dp.toNatClampNeg n.toNatClampNeg)))).size = H.size := by simp
  have hA : gA G0 s.heap.size a := h3 a (Or.inl (by rw [ha1]; simp))
  obtain ⟨t, a1, b1⟩ := kk _ _ ls (gP_up h1 hsz oq (show (H.setIfInBounds a _)[a]? = some _ by simp [Array.getElem?_setIfInBounds, hl])) h2 (fun q hq => h3 q (gA_up ha1 q hq)) ⟨by rw [hsz]; exact h4.1, fun q g1 g2 => by
      rw [oq q (fun e => g2 (by rw [e]; exact hA))]
      exact h4.2.1 q g1 g2, fun q hq => by
      rcases List.mem_append.mp hq with h | h
      · exact h4.2.2 q h
      · obtain ⟨z, -, hz⟩ := List.mem_map.mp h
        rw [← hz]
        exact hA⟩ h5 h6 _ hheap X'
  exact ⟨t, step t a1, b1⟩
theorem r_mmin (hK : Cl E own cc ret nL k mc sz0 ini G0 Q K) {idx : Nat} {x y : Int32} (hlink : Cond.methodLink own idx Lib.Math.min.name ∈ tbl) (hk : 1 ≤ k) (hrest : (st.map fun v => v.category).sum ≤ 8) (hm : sz ≤ sz0 + mc) (hd : decode cc pc = .ok (.invokestatic idx, 3)) (kk : K (pc + 3) Ls (.int (if y < x then y else x) :: st) sz G) : K pc Ls (.int y :: .int x :: st) sz G := by
  obtain ⟨p, e, s, m, args, below, meth, c, C, rfl⟩ := hK
  intro H locs ls h1 h2 h3 h4 h5 h6
  have hts := C.2.2.2.2.2.1
  have hs0 : s.heap.size = sz0 := C.2.2.2.2.2.2.2.2.2.2.1
  exact va_mmin C.1 C.2.1 (by rw [C.2.2.2.1]; exact h6.symm) C.2.2.2.2.1 (hts _ hlink) (hts _ ws_min) (hts _ wz_JM) (hts _ wc_min) (by show 1 ≤ k; exact hk) (by show _ + 13 ≤ 64 * k; omega) (by show sz - s.heap.size ≤ mc; omega) (by show 1100 * (sz - s.heap.size) ≤ 1100 * mc; omega) hd (kk H locs ls h1 h2 h3 h4 h5 h6)
theorem r_mmax (hK : Cl E own cc ret nL k mc sz0 ini G0 Q K) {idx : Nat} {x y : Int32} (hlink : Cond.methodLink own idx Lib.Math.max.name ∈ tbl) (hk : 1 ≤ k) (hrest : (st.map fun v => v.category).sum ≤ 8) (hm : sz ≤ sz0 + mc) (hd : decode cc pc = .ok (.invokestatic idx, 3)) (kk : K (pc + 3) Ls (.int (if x < y then y else x) :: st) sz G) : K pc Ls (.int y :: .int x :: st) sz G := by
  obtain ⟨p, e, s, m, args, below, meth, c, C, rfl⟩ := hK
  intro H locs ls h1 h2 h3 h4 h5 h6
  have hts := C.2.2.2.2.2.1
  have hs0 : s.heap.size = sz0 := C.2.2.2.2.2.2.2.2.2.2.1
  exact va_mmax C.1 C.2.1 (by rw [C.2.2.2.1]; exact h6.symm) C.2.2.2.2.1 (hts _ hlink) (hts _ ws_max) (hts _ wz_JM) (hts _ wc_max) (by show 1 ≤ k; exact hk) (by show _ + 13 ≤ 64 * k; omega) (by show sz - s.heap.size ≤ mc; omega) (by show 1100 * (sz - s.heap.size) ≤ 1100 * mc; omega) hd (kk H locs ls h1 h2 h3 h4 h5 h6)
theorem r_obj (hK : Cl E own cc ret nL k mc sz0 ini G0 Q K) {idx a : Nat} (hlink : Cond.methodLink own idx Lib.objectInit ∈ tbl) (hk : 1 ≤ k) (hrest : (st.map fun v => v.category).sum ≤ 8) (hd : decode cc pc = .ok (.invokespecial idx, 3)) (kk : K (pc + 3) Ls st sz G) : K pc Ls (.ref a :: st) sz G := by
  obtain ⟨p, e, s, m, args, below, meth, c, C, rfl⟩ := hK
  intro H locs ls h1 h2 h3 h4 h5 h6
  have hts := C.2.2.2.2.2.1
  exact W.objInit C.1 C.2.1 C.2.2.2.2.1 (hts _ hlink) (hts _ wi_obj) (hts _ wc_obj) rfl (by show ls.size = _; rw [C.2.2.2.1]; exact h6) rfl hd (by show 1 ≤ k; exact hk) (by show 2 * 0 + _ + 12 ≤ 64 * k; omega) (kk H locs ls h1 h2 h3 h4 h5 h6)
-- calls
theorem g_call {p : Program} {e : Env} {R : Room} {s : State} {m : MethodId} {args : Array Value} {below : List Frame} {meth : Method} {c : Code} {Qm : State → Prop} {H : Heap} {locs : List Loc} {ls : Array Slot} {a : Array Value} {mc' : Nat} {rest st0 : List Value} {Q' : Option Value → gG → Prop}
    (hr : va_Run p E.1 e R s m args below meth c H locs (sz - s.heap.size) (1100 * (sz - s.heap.size)) mc' (1100 * mc') (F0 m pc ls st0) rest (gQ E mc' sz G Q' a) (gA G sz))
    (h1 : gP E sz G H) (h2 : s.heap.size ≤ sz) (h3 : ∀ q, gA G sz q → gA G0 s.heap.size q) (h4 : va_S (gA G0 s.heap.size) s.heap H locs) (h5 : lvL ls Ls) (h6 : ls.size = nL)
    (kk : ∀ (r : Option Value) (G' : gG), Q' r G' → gK E p e R s m args below meth c nL G0 Qm (pc + 3) Ls (r.toList ++ rest) (sz + mc') G') :
    W p E.1 e R s m args below meth c H locs (sz - s.heap.size) (1100 * (sz - s.heap.size)) Qm (F0 m pc ls st0) := by
  intro T hT X
  obtain ⟨v, st₀, t, T', L, h0, X', hL, e1, e2, ⟨⟨r, G', hv, hq, hp, hsub⟩, hz, hkp⟩, st⟩ := hr T hT X
  cases hv
  rw [h0] at hz hkp
  have hHs := h1.1
  have c1 : sz - s.heap.size + mc' = sz + mc' - s.heap.size := by omega
  have c2 : 1100 * (sz - s.heap.size) + 1100 * mc' = 1100 * (sz + mc' - s.heap.size) := by omega
  rw [c1, c2] at X'
  obtain ⟨t2, a1, b1⟩ := kk v G' hq T'.heap (locs ++ L) ls (by rw [e1]; exact hp) (by omega) (fun q hq => h3 q (hsub q hq)) ⟨Nat.le_trans h4.1 (by rw [e1]; exact hz), fun q g1 g2 => by
      rw [e1, hkp q (by omega) (fun z => g2 (h3 q z))]
      exact h4.2.1 q g1 g2, fun q hq => by
      rcases List.mem_append.mp hq with h | h
      · exact h4.2.2 q h
      · exact h3 _ (hL q h)⟩ h5 h6 T' rfl X'
  exact ⟨t2, st t2 a1, b1⟩
theorem g_blind {av : List Value} {sz : Nat} {G : gG} : FrameBlind (va_Pc av (gB E sz G)) := fun a U g mk q => by
  obtain ⟨q0, qP, qK, qZ, qN⟩ := q
  exact ⟨q0, qP, va_K.moved (u := U) (U := U.calling g mk a) (Vm.Alike.refl U.vm) qK, qZ.use (U := U.calling g mk a) (fun _ _ _ => rfl) (fun _ h => h) (Vm.Alike.refl U.vm), fun q hq => va_Nw.same rfl (u := U) (U := U.calling g mk a) rfl (qN.1 q hq), fun CC hC => (qN.2 CC hC).moved (u := U) (U := U.calling g mk a) (Vm.Alike.refl U.vm)⟩
theorem g_pre {p : Program} {s : State} {m : MethodId} {args : Array Value} {meth : Method} {c : Code} {H : Heap} {locs : List Loc} {av : List Value} (C : gC E own cc ret nL sz0 ini G0 p s m args meth c) (h1 : gP E sz G H) (h3 : ∀ q, gA G sz q → gA G0 s.heap.size q) (h4 : va_S (gA G0 s.heap.size) s.heap H locs) : PreS s H (va_Pc av (gB E sz G)) av :=
  ⟨g_blind, fun U hU hW => ⟨rfl, by rw [hU]; exact h1, va_K.moved hW.alike C.2.2.2.2.2.2.2.2.1, C.2.2.2.2.2.2.2.2.2.1.use (fun a g1 g2 => by rw [hU]; exact h4.2.1 a g1 g2) h3 hW.alike, C.2.2.2.2.2.2.2.2.2.2.2.warm hW⟩⟩
theorem g_good {y : MethodName} {bytes : ByteArray} {maxL : Nat} {rt : Option FieldType} (h : Cond.code y bytes maxL rt ∈ tbl) : GoodIn tbl (Cond.code y bytes maxL rt :: tbl) := fun w hw => by
  rcases List.mem_cons.mp hw with rfl | hw
  · exact tbl_goodIn _ h
  · exact tbl_goodIn _ hw
theorem r_inv (hK : Cl E own cc ret nL k mc sz0 ini G0 Q K) {idx n ci b k' mc' : Nat} {y : MethodName} {As rest : List Value} {fs : List Value} (hl : LkV own idx y n ci) (hn : As.length = n) (hG : G b = some (.inr (ci, fs))) (hk : k' + 1 ≤ k) (hm : sz + mc' ≤ sz0 + mc) (hrest : (rest.map fun v => v.category).sum ≤ 8) (hd : decode cc pc = .ok (.invokevirtual idx, 3))
    (hrun : Runs E y k' mc' sz (.ref b :: As) G (fun r G' => K (pc + 3) Ls (r.toList ++ rest) (sz + mc') G')) : K pc Ls (As.reverse ++ .ref b :: rest) sz G := by
  obtain ⟨p, e, s, m, args, below, meth, c, C, rfl⟩ := hK
  intro H locs ls h1 h2 h3 h4 h5 h6
  obtain ⟨bytes, maxL, rt, hc, hmL, hM⟩ := hrun
  obtain ⟨⟨⟨d1, d2, d3⟩, d4⟩, l1, l2, l3, qq, l4, l5⟩ := hl
  have hts := C.2.2.2.2.2.1
  have hs0 : s.heap.size = sz0 := C.2.2.2.2.2.2.2.2.2.2.1
  have hKa := C.2.2.2.2.2.2.2.2.1
  have hPS := g_pre (av := .ref b :: As) C h1 h3 h4
  have hrecv := va_recv hKa (gP1 h1 hG) l4 (q0 := 0) rfl
  rw [l5] at hrecv
  exact g_call (va_runV (C := y.cls) ⟨C.1, C.2.1, C.2.2.2.1, C.2.2.2.2.1, hts⟩ hM ⟨callB_of n hts (g_good hc) rfl rfl rfl (hts _ d4) (hts _ l1) ⟨d1, d2, d3⟩ ⟨by show k' + 1 ≤ k; exact hk, by show 8 + (maxL + 11) + 64 * k' ≤ 64 * k; omega⟩, hts _ l2, hts _ l3⟩ ⟨hPS.1, hrecv, hPS.2⟩ rfl hn h6 rfl (lv_room hrest) hd ⟨by show sz - s.heap.size + mc' ≤ mc; omega, by show 1100 * (sz - s.heap.size) + 1100 * mc' ≤ 1100 * mc; omega⟩) h1 h2 h3 h4 h5 h6 (fun r G' hq => hq)
theorem r_ist (hK : Cl E own cc ret nL k mc sz0 ini G0 Q K) {idx n k' mc' : Nat} {y : MethodName} {As rest : List Value} (hl : LkS own idx y n) (hn : As.length = n) (hk : k' + 1 ≤ k) (hm : sz + mc' ≤ sz0 + mc) (hrest : (rest.map fun v => v.category).sum ≤ 8) (hd : decode cc pc = .ok (.invokestatic idx, 3))
    (hrun : Runs E y k' mc' sz As G (fun r G' => K (pc + 3) Ls (r.toList ++ rest) (sz + mc') G')) : K pc Ls (As.reverse ++ rest) sz G := by
  obtain ⟨p, e, s, m, args, below, meth, c, C, rfl⟩ := hK
  intro H locs ls h1 h2 h3 h4 h5 h6
  obtain ⟨bytes, maxL, rt, hc, hmL, hM⟩ := hrun
  obtain ⟨⟨⟨d1, d2, d3⟩, d4⟩, l1, l2⟩ := hl
  have hts := C.2.2.2.2.2.1
  have hs0 : s.heap.size = sz0 := C.2.2.2.2.2.2.2.2.2.2.1
  have hPS := g_pre (av := As) C h1 h3 h4
  rcases l1 with l1 | ⟨host, l1⟩
  · exact g_call (va_runS ⟨C.1, C.2.1, C.2.2.2.1, C.2.2.2.2.1, hts⟩ hM ⟨callB_of n hts (g_good hc) rfl rfl rfl (hts _ d4) (hts _ l1) ⟨d1, d2, d3⟩ ⟨by show k' + 1 ≤ k; exact hk, by show 8 + (maxL + 11) + 64 * k' ≤ 64 * k; omega⟩, hts _ l2⟩ hPS rfl hn h6 rfl (lv_room hrest) hd ⟨by show sz - s.heap.size + mc' ≤ mc; omega, by show 1100 * (sz - s.heap.size) + 1100 * mc' ≤ 1100 * mc; omega⟩) h1 h2 h3 h4 h5 h6 (fun r G' hq => hq)
  · exact g_call (va_runSN ⟨C.1, C.2.1, C.2.2.2.1, C.2.2.2.2.1, hts⟩ hM ⟨va_cnB n hts (g_good hc) rfl rfl rfl (C.2.2.2.2.2.2.2.2.2.2.2.1 _ l1) (hts _ d4) ⟨d1, d2, d3⟩ ⟨by show k' + 1 ≤ k; exact hk, by show 8 + (maxL + 11) + 64 * k' ≤ 64 * k; omega⟩, hts _ l2, trivial⟩ hPS rfl hn h6 rfl (lv_room hrest) hd ⟨by show sz - s.heap.size + mc' ≤ mc; omega, by show 1100 * (sz - s.heap.size) + 1100 * mc' ≤ 1100 * mc; omega⟩) h1 h2 h3 h4 h5 h6 (fun r G' hq => hq)
theorem r_isp (hK : Cl E own cc ret nL k mc sz0 ini G0 Q K) {idx n b k' mc' : Nat} {y : MethodName} {As rest : List Value} (hl : LkI own idx y n) (hn : As.length = n) (hk : k' + 1 ≤ k) (hm : sz + mc' ≤ sz0 + mc) (hrest : (rest.map fun v => v.category).sum ≤ 8) (hd : decode cc pc = .ok (.invokespecial idx, 3)) {bytes : ByteArray} {maxL : Nat} (hcw : Cond.code y bytes maxL none ∈ tbl) (hmL : maxL ≤ 40)
    (hrun : Met E.1 y (Cond.code y bytes maxL none :: tbl) (gRm k' mc') (va_Pc (.ref b :: As) (gB E sz G)) (gQ E mc' sz G (fun r G' => K (pc + 3) Ls (r.toList ++ rest) (sz + mc') G')) mc' (1100 * mc') (gA G sz)) : K pc Ls (As.reverse ++ .ref b :: rest) sz G := by
  obtain ⟨p, e, s, m, args, below, meth, c, C, rfl⟩ := hK
  intro H locs ls h1 h2 h3 h4 h5 h6
  obtain ⟨⟨⟨d1, d2, d3⟩, d4⟩, l1, l2, l3⟩ := hl
  have hts := C.2.2.2.2.2.1
  have hs0 : s.heap.size = sz0 := C.2.2.2.2.2.2.2.2.2.2.1
  have hPS := g_pre (av := .ref b :: As) C h1 h3 h4
  rcases l1 with l1 | ⟨host, l1⟩
  · exact g_call (va_runI ⟨C.1, C.2.1, C.2.2.2.1, C.2.2.2.2.1, hts⟩ hrun ⟨callB_of n hts (g_good hcw) rfl rfl rfl (hts _ d4) (hts _ l1) ⟨d1, d2, d3⟩ ⟨by show k' + 1 ≤ k; exact hk, by show 8 + (maxL + 11) + 64 * k' ≤ 64 * k; omega⟩, l2, hts _ l3⟩ hPS rfl hn h6 rfl (lv_room hrest) hd ⟨by show sz - s.heap.size + mc' ≤ mc; omega, by show 1100 * (sz - s.heap.size) + 1100 * mc' ≤ 1100 * mc; omega⟩) h1 h2 h3 h4 h5 h6 (fun r G' hq => hq)
  · exact g_call (va_runIN ⟨C.1, C.2.1, C.2.2.2.1, C.2.2.2.2.1, hts⟩ hrun ⟨va_cnB n hts (g_good hcw) rfl rfl rfl (C.2.2.2.2.2.2.2.2.2.2.2.1 _ l1) (hts _ d4) ⟨d1, d2, d3⟩ ⟨by show k' + 1 ≤ k; exact hk, by show 8 + (maxL + 11) + 64 * k' ≤ 64 * k; omega⟩, l2, hts _ l3⟩ hPS rfl hn h6 rfl (lv_room hrest) hd ⟨by show sz - s.heap.size + mc' ≤ mc; omega, by show 1100 * (sz - s.heap.size) + 1100 * mc' ≤ 1100 * mc; omega⟩) h1 h2 h3 h4 h5 h6 (fun r G' hq => hq)
-- ends
theorem g_end {p : Program} {s : State} {m : MethodId} {args : Array Value} {meth : Method} {c : Code} {H : Heap} {locs : List Loc} {r : Option Value} {t : State} (C : gC E own cc ret nL sz0 ini G0 p s m args meth c) (hsz : sz = sz0 + mc) (h1 : gP E sz G H) (h3 : ∀ q, gA G sz q → gA G0 s.heap.size q) (h4 : va_S (gA G0 s.heap.size) s.heap H locs) (hq : Q r G) (ht : t.heap = H) : gQ E mc sz0 G0 Q args s (.returned r) t := by
  have hs0 : s.heap.size = sz0 := C.2.2.2.2.2.2.2.2.2.2.1
  subst hsz
  rw [hs0] at h3 h4
  exact ⟨⟨r, G, rfl, hq, by rw [ht]; exact h1, h3⟩, h4.F ht⟩
theorem r_vret (hK : Cl E own cc ret nL k mc sz0 ini G0 Q K) (hr : ret = none) (hsz : sz = sz0 + mc) (hd : decode cc pc = .ok (.return_, 1)) (hq : Q none G) : K pc Ls [] sz G := by
  obtain ⟨p, e, s, m, args, below, meth, c, C, rfl⟩ := hK
  intro H locs ls h1 h2 h3 h4 h5 h6
  have hs0 : s.heap.size = sz0 := C.2.2.2.2.2.2.2.2.2.2.1
  have hcz : sz - s.heap.size = mc := by omega
  rw [hcz]
  exact W.vret C.1 C.2.1 (C.2.2.1.trans hr) (fun t ht _ => g_end C hsz h1 h3 h4 hq ht) (fun q hq => by rw [← hs0]; exact h4.2.2 q hq) hd C.2.2.2.2.2.2.1
theorem r_iret (hK : Cl E own cc ret nL k mc sz0 ini G0 Q K) {v : Int32} (hr : ret = some .int) (hsz : sz = sz0 + mc) (hd : decode cc pc = .ok (.ireturn, 1)) (hq : Q (some (.int v)) G) : K pc Ls [.int v] sz G := by
  obtain ⟨p, e, s, m, args, below, meth, c, C, rfl⟩ := hK
  intro H locs ls h1 h2 h3 h4 h5 h6
  have hs0 : s.heap.size = sz0 := C.2.2.2.2.2.2.2.2.2.2.1
  have hcz : sz - s.heap.size = mc := by omega
  rw [hcz]
  exact W.iret C.1 C.2.1 (C.2.2.1.trans hr) (fun t ht _ => g_end C hsz h1 h3 h4 hq ht) (fun q hq => by rw [← hs0]; exact h4.2.2 q hq) hd C.2.2.2.2.2.2.1
theorem r_zret (hK : Cl E own cc ret nL k mc sz0 ini G0 Q K) {v : Int32} (hr : ret = some .boolean) (hn : narrow .boolean (.int v) = .int v) (hsz : sz = sz0 + mc) (hd : decode cc pc = .ok (.ireturn, 1)) (hq : Q (some (.int v)) G) : K pc Ls [.int v] sz G := by
  obtain ⟨p, e, s, m, args, below, meth, c, C, rfl⟩ := hK
  intro H locs ls h1 h2 h3 h4 h5 h6
  have hs0 : s.heap.size = sz0 := C.2.2.2.2.2.2.2.2.2.2.1
  have hcz : sz - s.heap.size = mc := by omega
  rw [hcz]
  exact W.zret C.1 C.2.1 (C.2.2.1.trans hr) hn (fun t ht _ => g_end C hsz h1 h3 h4 hq ht) (fun q hq => by rw [← hs0]; exact h4.2.2 q hq) hd C.2.2.2.2.2.2.1
theorem r_aret (hK : Cl E own cc ret nL k mc sz0 ini G0 Q K) {a : Nat} {nm : String} (hr : ret = some (.object nm)) (hsz : sz = sz0 + mc) (hd : decode cc pc = .ok (.areturn, 1)) (hq : Q (some (.ref a)) G) : K pc Ls [.ref a] sz G := by
  obtain ⟨p, e, s, m, args, below, meth, c, C, rfl⟩ := hK
  intro H locs ls h1 h2 h3 h4 h5 h6
  have hs0 : s.heap.size = sz0 := C.2.2.2.2.2.2.2.2.2.2.1
  have hcz : sz - s.heap.size = mc := by omega
  rw [hcz]
  exact W.aret C.1 C.2.1 (C.2.2.1.trans hr) (Or.inl ⟨_, rfl⟩) (Or.inr ⟨_, rfl⟩) (fun t ht _ => g_end C hsz h1 h3 h4 hq ht) (fun q hq => by rw [← hs0]; exact h4.2.2 q hq) hd C.2.2.2.2.2.2.1
end GR
