theorem st_tbNK {s : State} {b : Nat} {A : Nat → Prop} (hts : ∀ w ∈ lw_tbl, w.before #[Value.ref b] s = true) (hini : (Cond.initialized "ClockPost").before #[Value.ref b] s = true) (hgv : (Jvm.Cond.and given_1 narrow_1).before #[Value.ref b] s = true) (hA : ∀ a : Nat, a < s.heap.size → ¬ A a) : ∃ t : Nat, gZ1 "NEAREST_KIND" t tbNK A s s.heap := by
  have hs := flat_of_before _ hgv
  have harr : (Jvm.Cond.arrayOf (Jvm.Term.static "ClockPost" "NEAREST_KIND" "[I") .int).before #[Value.ref b] s = true := hs _ (by decide +kernel)
  have hlen : (Jvm.Cond.eq (Jvm.Term.length (Jvm.Term.static "ClockPost" "NEAREST_KIND" "[I")) (Jvm.Term.int (6 : Int32))).before #[Value.ref b] s = true := hs _ (by decide +kernel)
  have e0 : (Jvm.Cond.eq (Jvm.Term.elem (Jvm.Term.static "ClockPost" "NEAREST_KIND" "[I") (Jvm.Term.int (0 : Int32))) (Jvm.Term.int (0 : Int32))).before #[Value.ref b] s = true := hs _ (by decide +kernel)
  have e1 : (Jvm.Cond.eq (Jvm.Term.elem (Jvm.Term.static "ClockPost" "NEAREST_KIND" "[I") (Jvm.Term.int (1 : Int32))) (Jvm.Term.int (0 : Int32))).before #[Value.ref b] s = true := hs _ (by decide +kernel)
  have e2 : (Jvm.Cond.eq (Jvm.Term.elem (Jvm.Term.static "ClockPost" "NEAREST_KIND" "[I") (Jvm.Term.int (2 : Int32))) (Jvm.Term.int (1 : Int32))).before #[Value.ref b] s = true := hs _ (by decide +kernel)
  have e3 : (Jvm.Cond.eq (Jvm.Term.elem (Jvm.Term.static "ClockPost" "NEAREST_KIND" "[I") (Jvm.Term.int (3 : Int32))) (Jvm.Term.int (1 : Int32))).before #[Value.ref b] s = true := hs _ (by decide +kernel)
  have e4 : (Jvm.Cond.eq (Jvm.Term.elem (Jvm.Term.static "ClockPost" "NEAREST_KIND" "[I") (Jvm.Term.int (4 : Int32))) (Jvm.Term.int (0 : Int32))).before #[Value.ref b] s = true := hs _ (by decide +kernel)
  have e5 : (Jvm.Cond.eq (Jvm.Term.elem (Jvm.Term.static "ClockPost" "NEAREST_KIND" "[I") (Jvm.Term.int (5 : Int32))) (Jvm.Term.int (4 : Int32))).before #[Value.ref b] s = true := hs _ (by decide +kernel)
  obtain ⟨t, h1, h2⟩ := va_Tof (N := 6) (f := fun j => .int (tbNK j)) (A := A) (by omega) harr (va_eqt hlen) (fun j hj => by
    rcases (show j = 0 ∨ j = 1 ∨ j = 2 ∨ j = 3 ∨ j = 4 ∨ j = 5 by omega) with rfl | rfl | rfl | rfl | rfl | rfl
    · exact va_eqt e0
    · exact va_eqt e1
    · exact va_eqt e2
    · exact va_eqt e3
    · exact va_eqt e4
    · exact va_eqt e5) hA
  exact ⟨t, va_Zref (hts _ (List.mem_of_getElem? (i := 675) (by decide +kernel))) hini h1 hA, h2⟩
theorem st_tbSB {s : State} {b : Nat} {A : Nat → Prop} (hts : ∀ w ∈ lw_tbl, w.before #[Value.ref b] s = true) (hini : (Cond.initialized "ClockPost").before #[Value.ref b] s = true) (hgv : (Jvm.Cond.and given_1 narrow_1).before #[Value.ref b] s = true) (hA : ∀ a : Nat, a < s.heap.size → ¬ A a) : ∃ t : Nat, gZ1 "SIZE_BODIES" t tbSB A s s.heap := by
  have hs := flat_of_before _ hgv
  have harr : (Jvm.Cond.arrayOf (Jvm.Term.static "ClockPost" "SIZE_BODIES" "[I") .int).before #[Value.ref b] s = true := hs _ (by decide +kernel)
  have hlen : (Jvm.Cond.eq (Jvm.Term.length (Jvm.Term.static "ClockPost" "SIZE_BODIES" "[I")) (Jvm.Term.int (6 : Int32))).before #[Value.ref b] s = true := hs _ (by decide +kernel)
  have e0 : (Jvm.Cond.eq (Jvm.Term.elem (Jvm.Term.static "ClockPost" "SIZE_BODIES" "[I") (Jvm.Term.int (0 : Int32))) (Jvm.Term.int (10 : Int32))).before #[Value.ref b] s = true := hs _ (by decide +kernel)
  have e1 : (Jvm.Cond.eq (Jvm.Term.elem (Jvm.Term.static "ClockPost" "SIZE_BODIES" "[I") (Jvm.Term.int (1 : Int32))) (Jvm.Term.int (11 : Int32))).before #[Value.ref b] s = true := hs _ (by decide +kernel)
  have e2 : (Jvm.Cond.eq (Jvm.Term.elem (Jvm.Term.static "ClockPost" "SIZE_BODIES" "[I") (Jvm.Term.int (2 : Int32))) (Jvm.Term.int (12 : Int32))).before #[Value.ref b] s = true := hs _ (by decide +kernel)
  have e3 : (Jvm.Cond.eq (Jvm.Term.elem (Jvm.Term.static "ClockPost" "SIZE_BODIES" "[I") (Jvm.Term.int (3 : Int32))) (Jvm.Term.int (11 : Int32))).before #[Value.ref b] s = true := hs _ (by decide +kernel)
  have e4 : (Jvm.Cond.eq (Jvm.Term.elem (Jvm.Term.static "ClockPost" "SIZE_BODIES" "[I") (Jvm.Term.int (4 : Int32))) (Jvm.Term.int (13 : Int32))).before #[Value.ref b] s = true := hs _ (by decide +kernel)
  have e5 : (Jvm.Cond.eq (Jvm.Term.elem (Jvm.Term.static "ClockPost" "SIZE_BODIES" "[I") (Jvm.Term.int (5 : Int32))) (Jvm.Term.int (14 : Int32))).before #[Value.ref b] s = true := hs _ (by decide +kernel)
  obtain ⟨t, h1, h2⟩ := va_Tof (N := 6) (f := fun j => .int (tbSB j)) (A := A) (by omega) harr (va_eqt hlen) (fun j hj => by
    rcases (show j = 0 ∨ j = 1 ∨ j = 2 ∨ j = 3 ∨ j = 4 ∨ j = 5 by omega) with rfl | rfl | rfl | rfl | rfl | rfl
    · exact va_eqt e0
    · exact va_eqt e1
    · exact va_eqt e2
    · exact va_eqt e3
    · exact va_eqt e4
    · exact va_eqt e5) hA
  exact ⟨t, va_Zref (hts _ (List.mem_of_getElem? (i := 684) (by decide +kernel))) hini h1 hA, h2⟩
theorem st_tbMB {s : State} {b : Nat} {A : Nat → Prop} (hts : ∀ w ∈ lw_tbl, w.before #[Value.ref b] s = true) (hini : (Cond.initialized "ClockPost").before #[Value.ref b] s = true) (hgv : (Jvm.Cond.and given_1 narrow_1).before #[Value.ref b] s = true) (hA : ∀ a : Nat, a < s.heap.size → ¬ A a) : ∃ t : Nat, gZ1 "MARK_BODIES" t tbMB A s s.heap := by
  have hs := flat_of_before _ hgv
  have harr : (Jvm.Cond.arrayOf (Jvm.Term.static "ClockPost" "MARK_BODIES" "[I") .int).before #[Value.ref b] s = true := hs _ (by decide +kernel)
  have hlen : (Jvm.Cond.eq (Jvm.Term.length (Jvm.Term.static "ClockPost" "MARK_BODIES" "[I")) (Jvm.Term.int (6 : Int32))).before #[Value.ref b] s = true := hs _ (by decide +kernel)
  have e0 : (Jvm.Cond.eq (Jvm.Term.elem (Jvm.Term.static "ClockPost" "MARK_BODIES" "[I") (Jvm.Term.int (0 : Int32))) (Jvm.Term.int (20 : Int32))).before #[Value.ref b] s = true := hs _ (by decide +kernel)
  have e1 : (Jvm.Cond.eq (Jvm.Term.elem (Jvm.Term.static "ClockPost" "MARK_BODIES" "[I") (Jvm.Term.int (1 : Int32))) (Jvm.Term.int (21 : Int32))).before #[Value.ref b] s = true := hs _ (by decide +kernel)
  have e2 : (Jvm.Cond.eq (Jvm.Term.elem (Jvm.Term.static "ClockPost" "MARK_BODIES" "[I") (Jvm.Term.int (2 : Int32))) (Jvm.Term.int (24 : Int32))).before #[Value.ref b] s = true := hs _ (by decide +kernel)
  have e3 : (Jvm.Cond.eq (Jvm.Term.elem (Jvm.Term.static "ClockPost" "MARK_BODIES" "[I") (Jvm.Term.int (3 : Int32))) (Jvm.Term.int (22 : Int32))).before #[Value.ref b] s = true := hs _ (by decide +kernel)
  have e4 : (Jvm.Cond.eq (Jvm.Term.elem (Jvm.Term.static "ClockPost" "MARK_BODIES" "[I") (Jvm.Term.int (4 : Int32))) (Jvm.Term.int (23 : Int32))).before #[Value.ref b] s = true := hs _ (by decide +kernel)
  have e5 : (Jvm.Cond.eq (Jvm.Term.elem (Jvm.Term.static "ClockPost" "MARK_BODIES" "[I") (Jvm.Term.int (5 : Int32))) (Jvm.Term.int (23 : Int32))).before #[Value.ref b] s = true := hs _ (by decide +kernel)
  obtain ⟨t, h1, h2⟩ := va_Tof (N := 6) (f := fun j => .int (tbMB j)) (A := A) (by omega) harr (va_eqt hlen) (fun j hj => by
    rcases (show j = 0 ∨ j = 1 ∨ j = 2 ∨ j = 3 ∨ j = 4 ∨ j = 5 by omega) with rfl | rfl | rfl | rfl | rfl | rfl
    · exact va_eqt e0
    · exact va_eqt e1
    · exact va_eqt e2
    · exact va_eqt e3
    · exact va_eqt e4
    · exact va_eqt e5) hA
  exact ⟨t, va_Zref (hts _ (List.mem_of_getElem? (i := 686) (by decide +kernel))) hini h1 hA, h2⟩
theorem arr_p {s : State} {A : Array Value} {ty : FieldType} (hty : ty = .int ∨ ty = .boolean) (h : (Cond.arrayClass ty).before A s = true) : ∃ cA : ClassId, ArrOfT s cA ty ∧ va_RA s cA ty := by
  obtain ⟨cA, kA, comp, h1, h2, h3⟩ := Cond.arrayClass_spec h
  refine ⟨cA, fun N z => ⟨(fun k h => by cases h), kA, h2, comp, h3⟩, ?_⟩
  rcases hty with rfl | rfl
  · exact h1
  · exact h1
theorem arr_o {s : State} {A : Array Value} {C : String} (h : (Cond.arrayOver (.object C)).before A s = true) : ∃ cA : ClassId, ArrOfT s cA (.object C) ∧ va_RA s cA (.object C) := by
  obtain ⟨comp, cA, kA, h1, h2, h3, h4, h5⟩ := Cond.arrayOver_spec h
  exact ⟨cA, fun N z => ⟨(fun k h => by cases h), kA, h3, comp, h4⟩, kA, comp, h3, h4, h1, h5⟩
theorem law_K {s : State} {A : Array Value} (hts : ∀ w ∈ lw_tbl, w.before A s = true) : ∃ (D : va_G) (cA : Nat → ClassId), va_K D clz (gtys cA) s := by
  have ht : ∀ w ∈ tbl, w.before A s = true := fun w hw => hts w (List.mem_filter.mp hw).1
  obtain ⟨c0, i0, k0⟩ := u_known ht cl_L.2.1 (ht _ wi_L)
  obtain ⟨c1, i1, k1⟩ := u_known ht cl_R.2.1 (ht _ wi_R)
  obtain ⟨c2, i2, k2⟩ := u_known ht cl_T.2.1 (ht _ wi_T)
  obtain ⟨c3, i3, k3⟩ := u_known ht cl_H.2.1 (ht _ wi_H)
  obtain ⟨c4, i4, k4⟩ := u_known ht cl_A.2.1 (ht _ wi_A)
  obtain ⟨c5, i5, k5⟩ := u_known ht cl_O.2.1 (ht _ wi_O)
  obtain ⟨c6, i6, k6⟩ := u_known ht cl_P.2.1 (ht _ wi_P)
  obtain ⟨c7, i7, k7⟩ := u_known ht cl_X.2.1 (ht _ wi_X)
  obtain ⟨c8, i8, k8⟩ := u_known ht cl_M.2.1 (ht _ wi_M)
  obtain ⟨a0, b0⟩ := arr_p (Or.inl rfl) (ht _ wa_int)
  obtain ⟨a1, b1⟩ := arr_p (Or.inr rfl) (ht _ wa_boolean)
  obtain ⟨a2, b2⟩ := arr_o (hts _ (over_in "ClockPost$Row" (by simp [overL])))
  obtain ⟨a3, b3⟩ := arr_o (hts _ (over_in "ClockPost$House" (by simp [overL])))
  obtain ⟨a4, b4⟩ := arr_o (hts _ (over_in "ClockPost$Letter" (by simp [overL])))
  refine ⟨(fun k => match k with | 0 => c0 | 1 => c1 | 2 => c2 | 3 => c3 | 4 => c4 | 5 => c5 | 6 => c6 | 7 => c7 | _ => c8, fun k => match k with | 0 => i0 | 1 => i1 | 2 => i2 | 3 => i3 | 4 => i4 | 5 => i5 | 6 => i6 | 7 => i7 | _ => i8), fun k => match k with | 0 => a0 | 1 => a1 | 2 => a2 | 3 => a3 | _ => a4, fun k q hq => ?_, fun k q hq => ?_⟩
  · match k, hq with
    | 0, hq => cases hq; exact k0
    | 1, hq => cases hq; exact k1
    | 2, hq => cases hq; exact k2
    | 3, hq => cases hq; exact k3
    | 4, hq => cases hq; exact k4
    | 5, hq => cases hq; exact k5
    | 6, hq => cases hq; exact k6
    | 7, hq => cases hq; exact k7
    | 8, hq => cases hq; exact k8
    | k + 9, hq => simp [clz] at hq
  · match k, hq with
    | 0, hq => cases hq; exact b0
    | 1, hq => cases hq; exact b1
    | 2, hq => cases hq; exact b2
    | 3, hq => cases hq; exact b3
    | 4, hq => cases hq; exact b4
    | k + 5, hq => simp [gtys] at hq
