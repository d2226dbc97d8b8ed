def kpA (ac : Nat → Nat → Int32) (na : Nat) (v : Nat → Int32) : (Nat → Nat → Int32) × Nat := if na < 24 then (va_up ac na v, na + 1) else (fun i => if i = 23 then v else ac (i + 1), 24)
def zV : Nat → Int32 := fun _ => 0
def rfu (st z : Bool) : Int32 := if st = true then (if z = true then 0 else -1000001) else -1000002
theorem rfu_0 {st z : Bool} : rfu st z = 0 ↔ st = true ∧ z = true := by cases st <;> cases z <;> decide
def opRow : gS → Int32 → Int32 → Int32 → Int32 × gS
  | (st, nw, ac, na, ik, im, rp, rl, rs, ri, tp, tn, lf, fd, tr, un), r, l, n => if inB r 0 7 = true ∧ inB l 0 2 = true ∧ n ≤ 40 then (if n < 0 then (-1000010 - 4, (st, nw, ac, na, ik, im, rp, rl, rs, ri, tp, tn, lf, 4, tr, un)) else (n, (st, nw, ac, na, ik, im, va_up rp (nN r) true, va_up rl (nN r) l, va_up rs (nN r) (nN n), va_up ri (nN r) zV, tp, tn, lf, 0, tr, un))) else (-1000001, (st, nw, ac, na, ik, im, rp, rl, rs, ri, tp, tn, lf, fd, tr, un))
def opSet : gS → Int32 → Int32 → Int32 → Int32 × gS
  | (st, nw, ac, na, ik, im, rp, rl, rs, ri, tp, tn, lf, fd, tr, un), r, i, v => if inB r 0 7 = true then (if rp (nN r) = true then (if hasP (nI (rs (nN r))) i 1 = true then (cutV (rl (nN r)) v, (st, nw, ac, na, ik, im, rp, rl, rs, va_up ri (nN r) (upd (ri (nN r)) (nN i) (cutV (rl (nN r)) v)), tp, tn, lf, 0, tr, un)) else (-1000010 - 2, (st, nw, ac, na, ik, im, rp, rl, rs, ri, tp, tn, lf, 2, tr, un))) else (-1000010 - 1, (st, nw, ac, na, ik, im, rp, rl, rs, ri, tp, tn, lf, 1, tr, un))) else (-1000001, (st, nw, ac, na, ik, im, rp, rl, rs, ri, tp, tn, lf, fd, tr, un))
def opCopy : gS → Int32 → Int32 → Int32 → Int32 → Int32 → Int32 × gS
  | (st, nw, ac, na, ik, im, rp, rl, rs, ri, tp, tn, lf, fd, tr, un), a, i, b, j, n => if inB a 0 7 = true ∧ inB b 0 7 = true then (if rp (nN a) = true ∧ rp (nN b) = true then (if rl (nN a) = rl (nN b) then (if hasP (nI (rs (nN a))) i n = true ∧ hasP (nI (rs (nN b))) j n = true then (n, (st, nw, ac, na, ik, im, rp, rl, rs, va_up ri (nN b) (va_cpy (ri (nN a)) (ri (nN b)) (nN i) (nN j) (nN n)), tp, tn, lf, 0, tr, un)) else (-1000010 - 2, (st, nw, ac, na, ik, im, rp, rl, rs, ri, tp, tn, lf, 2, tr, un))) else (-1000010 - 5, (st, nw, ac, na, ik, im, rp, rl, rs, ri, tp, tn, lf, 5, tr, un))) else (-1000010 - 1, (st, nw, ac, na, ik, im, rp, rl, rs, ri, tp, tn, lf, 1, tr, un))) else (-1000001, (st, nw, ac, na, ik, im, rp, rl, rs, ri, tp, tn, lf, fd, tr, un))
def opDrop : gS → Int32 → Int32 × gS
  | (st, nw, ac, na, ik, im, rp, rl, rs, ri, tp, tn, lf, fd, tr, un), r => if inB r 0 7 = true then (if rp (nN r) = true then (nI (rs (nN r)), (st, nw, ac, na, ik, im, va_up rp (nN r) false, rl, rs, ri, tp, tn, lf, 0, tr, un)) else (-1000010 - 1, (st, nw, ac, na, ik, im, rp, rl, rs, ri, tp, tn, lf, 1, tr, un))) else (-1000001, (st, nw, ac, na, ik, im, rp, rl, rs, ri, tp, tn, lf, fd, tr, un))
def opFeed : gS → Int32 → Int32 × gS
  | (st, nw, ac, na, ik, im, rp, rl, rs, ri, tp, tn, lf, fd, tr, un), x => if inB x 0 255 = true then (if tn < 100 then (nI (tn + 1), (st, nw, ac, na, ik, im, rp, rl, rs, ri, upd tp tn x, tn + 1, lf, fd, tr, un)) else (-1000003, (st, nw, ac, na, ik, im, rp, rl, rs, ri, tp, tn, lf, fd, tr, un))) else (-1000001, (st, nw, ac, na, ik, im, rp, rl, rs, ri, tp, tn, lf, fd, tr, un))
def opHouse : gS → Int32 × gS
  | (st, nw, ac, na, ik, im, rp, rl, rs, ri, tp, tn, lf, fd, tr, un) => if (rAll tp tn zV).1 = 0 then ((rAll tp tn zV).2.2 0, (true, (rAll tp tn zV).2.2, ac, 0, ik, im, rp, rl, rs, ri, tp, 0, lf, fd, tr, un)) else (-1000100 - nI (rAll tp tn zV).2.1, (st, nw, ac, na, ik, im, rp, rl, rs, ri, tp, 0, (rAll tp tn zV).1, fd, tr, un))
def opAnswer : gS → Int32 → Int32 × gS
  | (st, nw, ac, na, ik, im, rp, rl, rs, ri, tp, tn, lf, fd, tr, un), i => if hasL nw i = true then (if behB nw i = true then (ansV nw i 5, (st, ansV nw i, (kpA ac na nw).1, (kpA ac na nw).2, ik, im, rp, rl, rs, ri, tp, tn, lf, fd, tr, un)) else (-1000002, (st, nw, ac, na, ik, im, rp, rl, rs, ri, tp, tn, lf, fd, tr, un))) else (-1000001, (st, nw, ac, na, ik, im, rp, rl, rs, ri, tp, tn, lf, fd, tr, un))
def opPost : gS → Int32 → Int32 × gS
  | (st, nw, ac, na, ik, im, rp, rl, rs, ri, tp, tn, lf, fd, tr, un), i => if hasL nw i = true then (if behB nw i = true then (-1000002, (st, nw, ac, na, ik, im, rp, rl, rs, ri, tp, tn, lf, fd, tr, un)) else (thck (putV nw i), (st, putV nw i, (kpA ac na nw).1, (kpA ac na nw).2, ik, im, rp, rl, rs, ri, tp, tn, lf, fd, tr, un))) else (-1000001, (st, nw, ac, na, ik, im, rp, rl, rs, ri, tp, tn, lf, fd, tr, un))
def opDread : gS → Int32 → Int32 → Int32 × gS
  | (st, nw, ac, na, ik, im, rp, rl, rs, ri, tp, tn, lf, fd, tr, un), i, v => if hasL nw i = true ∧ inB v 0 9 = true then (nw (12 + nN i), (st, upd nw (12 + nN i) v, (kpA ac na nw).1, (kpA ac na nw).2, ik, im, rp, rl, rs, ri, tp, tn, lf, fd, tr, un)) else (-1000001, (st, nw, ac, na, ik, im, rp, rl, rs, ri, tp, tn, lf, fd, tr, un))
def dyS (s : (Nat → Int32) × (Nat → Nat → Int32) × Nat) : (Nat → Int32) × (Nat → Nat → Int32) × Nat := ((passV s.1).1, kpA s.2.1 s.2.2 s.1)
def dysN : Nat → (Nat → Int32) × (Nat → Nat → Int32) × Nat → (Nat → Int32) × (Nat → Nat → Int32) × Nat
  | 0, s => s
  | k + 1, s => dysN k (dyS s)
def opDays : gS → Int32 → Int32 × gS
  | (st, nw, ac, na, ik, im, rp, rl, rs, ri, tp, tn, lf, fd, tr, un), n => if st = true then (if inB n 1 24 = true then (if nw 2 + n ≤ 999 then ((dysN (nN n) (nw, ac, na)).1 3, (st, (dysN (nN n) (nw, ac, na)).1, (dysN (nN n) (nw, ac, na)).2.1, (dysN (nN n) (nw, ac, na)).2.2, ik, im, rp, rl, rs, ri, tp, tn, lf, fd, tr, un)) else (-1000003, (st, nw, ac, na, ik, im, rp, rl, rs, ri, tp, tn, lf, fd, tr, un))) else (-1000001, (st, nw, ac, na, ik, im, rp, rl, rs, ri, tp, tn, lf, fd, tr, un))) else (-1000002, (st, nw, ac, na, ik, im, rp, rl, rs, ri, tp, tn, lf, fd, tr, un))
def opUndo : gS → Int32 × gS
  | (st, nw, ac, na, ik, im, rp, rl, rs, ri, tp, tn, lf, fd, tr, un) => if 1 ≤ na then (nI (na - 1), (st, ac (na - 1), ac, na - 1, ik, im, rp, rl, rs, ri, tp, tn, lf, fd, tr, un)) else (-1000002, (st, nw, ac, na, ik, im, rp, rl, rs, ri, tp, tn, lf, fd, tr, un))
def opLetter : gS → Int32 → Int32 → Int32 × gS
  | (st, nw, ac, na, ik, im, rp, rl, rs, ri, tp, tn, lf, fd, tr, un), i, q => (if hasL nw i = true then (if q = 0 then nw (12 + nN i) else if q = 1 then nw (18 + nN i) else if q = 2 then nw (24 + nN i) else if q = 3 then bI (behB nw i) else if q = 4 then nw (30 + nN i) else if q = 5 then wOf nw (nN i) else -1000001) else -1000001, (st, nw, ac, na, ik, im, rp, rl, rs, ri, tp, tn, lf, fd, tr, un))
def opImage : gS → Int32 → Int32 × gS
  | (st, nw, ac, na, ik, im, rp, rl, rs, ri, tp, tn, lf, fd, tr, un), k => if inB k 0 1 = true then (if st = true then (1, (st, nw, ac, na, va_up ik (nN k) true, va_up im (nN k) nw, rp, rl, rs, ri, tp, tn, lf, fd, tr, un)) else (-1000002, (st, nw, ac, na, ik, im, rp, rl, rs, ri, tp, tn, lf, fd, tr, un))) else (-1000001, (st, nw, ac, na, ik, im, rp, rl, rs, ri, tp, tn, lf, fd, tr, un))
def opRestore : gS → Int32 → Int32 × gS
  | (st, nw, ac, na, ik, im, rp, rl, rs, ri, tp, tn, lf, fd, tr, un), k => if inB k 0 1 = true then (if ik (nN k) = true then (1, (true, im (nN k), ac, 0, ik, im, rp, rl, rs, ri, tp, tn, lf, fd, tr, un)) else (-1000002, (st, nw, ac, na, ik, im, rp, rl, rs, ri, tp, tn, lf, fd, tr, un))) else (-1000001, (st, nw, ac, na, ik, im, rp, rl, rs, ri, tp, tn, lf, fd, tr, un))
def opKind : gS → Int32 → Int32 × gS
  | (st, nw, ac, na, ik, im, rp, rl, rs, ri, tp, tn, lf, fd, tr, un), i => (if hasL nw i = true then nw (6 + nN i) else -1000001, (st, nw, ac, na, ik, im, rp, rl, rs, ri, tp, tn, lf, fd, tr, un))
def opAs : gS → Int32 → Int32 → Int32 × gS
  | (st, nw, ac, na, ik, im, rp, rl, rs, ri, tp, tn, lf, fd, tr, un), i, k => if hasL nw i = true ∧ inB k 0 5 = true then (if ofK (nw (6 + nN i)) k = true then (i, (st, nw, ac, na, ik, im, rp, rl, rs, ri, tp, tn, lf, 0, tr, un)) else (-1000010 - 3, (st, nw, ac, na, ik, im, rp, rl, rs, ri, tp, tn, lf, 3, tr, un))) else (-1000001, (st, nw, ac, na, ik, im, rp, rl, rs, ri, tp, tn, lf, fd, tr, un))
def opAsk : gS → Int32 → Int32 → Int32 × gS
  | (st, nw, ac, na, ik, im, rp, rl, rs, ri, tp, tn, lf, fd, tr, un), i, q => if hasL nw i = true ∧ inB q 0 1 = true then ((bg (nw (6 + nN i)) (nw (18 + nN i)) (nw (30 + nN i)) i 17 (bdO q (nw (6 + nN i))) (tr, 0)).1, (st, nw, ac, na, ik, im, rp, rl, rs, ri, tp, tn, lf, fd, (bg (nw (6 + nN i)) (nw (18 + nN i)) (nw (30 + nN i)) i 17 (bdO q (nw (6 + nN i))) (tr, 0)).2.1, (bg (nw (6 + nN i)) (nw (18 + nN i)) (nw (30 + nN i)) i 17 (bdO q (nw (6 + nN i))) (tr, 0)).2.2)) else (-1000001, (st, nw, ac, na, ik, im, rp, rl, rs, ri, tp, tn, lf, fd, tr, un))
def opTrace : gS → Int32 → Int32 × gS
  | (st, nw, ac, na, ik, im, rp, rl, rs, ri, tp, tn, lf, fd, tr, un), i => (if inB i 0 (nI un - 1) = true then tr (nN i) else -1000000, (st, nw, ac, na, ik, im, rp, rl, rs, ri, tp, tn, lf, fd, tr, un))
def rowN (rp : Nat → Bool) : Nat → Int32
  | 0 => 0
  | j + 1 => rowN rp j + bI (rp j)
def opCount : gS → Int32 → Int32 × gS
  | (st, nw, ac, na, ik, im, rp, rl, rs, ri, tp, tn, lf, fd, tr, un), q => (if q = 0 then rowN rp 8 else if q = 1 then nw 0 else if q = 2 then nw 2 else if q = 3 then nw 3 else if q = 4 then thck nw else if q = 5 then nw 4 else if q = 6 then nI na else if q = 7 then nI tn else if q = 8 then nw 5 else if q = 9 then nw 1 else -1000001, (st, nw, ac, na, ik, im, rp, rl, rs, ri, tp, tn, lf, fd, tr, un))
def XPI : gS → Prop
  | (st, nw, ac, na, ik, im, rp, rl, rs, ri, tp, tn, lf, fd, tr, un) => nN (nw 0) ≤ 6 ∧ 0 ≤ nw 0 ∧ (st = false → nw 0 = 0) ∧ na ≤ 24 ∧ (na ≠ 0 → st = true) ∧ (∀ i, i < na → nN (ac i 0) ≤ 6) ∧ (∀ i, i < 2 → nN (im i 0) ≤ 6) ∧ (∀ i, i < 8 → rs i ≤ 40) ∧ tn ≤ 100 ∧ un ≤ 16
theorem XV.now {G : gG} {b : Nat} {st : Bool} {nw : Nat → Int32} {ac : Nat → Nat → Int32} {na : Nat} {ik : Nat → Bool} {im : Nat → Nat → Int32} {rp : Nat → Bool} {rl : Nat → Int32} {rs : Nat → Nat} {ri : Nat → Nat → Int32} {tp : Nat → Int32} {tn : Nat} {lf : Int32} {fd : Int32} {tr : Nat → Int32} {un : Nat} (hX : XV G b (st, nw, ac, na, ik, im, rp, rl, rs, ri, tp, tn, lf, fd, tr, un)) : HE G (b + 4) (bI st) nw := hX.2.2.1
theorem XV.fore {G : gG} {b : Nat} {st : Bool} {nw : Nat → Int32} {ac : Nat → Nat → Int32} {na : Nat} {ik : Nat → Bool} {im : Nat → Nat → Int32} {rp : Nat → Bool} {rl : Nat → Int32} {rs : Nat → Nat} {ri : Nat → Nat → Int32} {tp : Nat → Int32} {tn : Nat} {lf : Int32} {fd : Int32} {tr : Nat → Int32} {un : Nat} (hX : XV G b (st, nw, ac, na, ik, im, rp, rl, rs, ri, tp, tn, lf, fd, tr, un)) : HJ G (b + 12) := hX.2.2.2.1
theorem XV.acts {G : gG} {b : Nat} {st : Bool} {nw : Nat → Int32} {ac : Nat → Nat → Int32} {na : Nat} {ik : Nat → Bool} {im : Nat → Nat → Int32} {rp : Nat → Bool} {rl : Nat → Int32} {rs : Nat → Nat} {ri : Nat → Nat → Int32} {tp : Nat → Int32} {tn : Nat} {lf : Int32} {fd : Int32} {tr : Nat → Int32} {un : Nat} (hX : XV G b (st, nw, ac, na, ik, im, rp, rl, rs, ri, tp, tn, lf, fd, tr, un)) : XA G b ac na := hX.2.2.2.2.1
theorem XV.ords {G : gG} {b : Nat} {st : Bool} {nw : Nat → Int32} {ac : Nat → Nat → Int32} {na : Nat} {ik : Nat → Bool} {im : Nat → Nat → Int32} {rp : Nat → Bool} {rl : Nat → Int32} {rs : Nat → Nat} {ri : Nat → Nat → Int32} {tp : Nat → Int32} {tn : Nat} {lf : Int32} {fd : Int32} {tr : Nat → Int32} {un : Nat} (hX : XV G b (st, nw, ac, na, ik, im, rp, rl, rs, ri, tp, tn, lf, fd, tr, un)) : XJ G b := hX.2.2.2.2.2.1
theorem XV.tru {G : gG} {b : Nat} {st : Bool} {nw : Nat → Int32} {ac : Nat → Nat → Int32} {na : Nat} {ik : Nat → Bool} {im : Nat → Nat → Int32} {rp : Nat → Bool} {rl : Nat → Int32} {rs : Nat → Nat} {ri : Nat → Nat → Int32} {tp : Nat → Int32} {tn : Nat} {lf : Int32} {fd : Int32} {tr : Nat → Int32} {un : Nat} (hX : XV G b (st, nw, ac, na, ik, im, rp, rl, rs, ri, tp, tn, lf, fd, tr, un)) : TX G (b + 275) tr (nI un) := hX.2.2.2.2.2.2.1
theorem XV.rows {G : gG} {b : Nat} {st : Bool} {nw : Nat → Int32} {ac : Nat → Nat → Int32} {na : Nat} {ik : Nat → Bool} {im : Nat → Nat → Int32} {rp : Nat → Bool} {rl : Nat → Int32} {rs : Nat → Nat} {ri : Nat → Nat → Int32} {tp : Nat → Int32} {tn : Nat} {lf : Int32} {fd : Int32} {tr : Nat → Int32} {un : Nat} (hX : XV G b (st, nw, ac, na, ik, im, rp, rl, rs, ri, tp, tn, lf, fd, tr, un)) : XR G b rp rl rs ri := hX.2.2.2.2.2.2.2.1
theorem XV.imgs {G : gG} {b : Nat} {st : Bool} {nw : Nat → Int32} {ac : Nat → Nat → Int32} {na : Nat} {ik : Nat → Bool} {im : Nat → Nat → Int32} {rp : Nat → Bool} {rl : Nat → Int32} {rs : Nat → Nat} {ri : Nat → Nat → Int32} {tp : Nat → Int32} {tn : Nat} {lf : Int32} {fd : Int32} {tr : Nat → Int32} {un : Nat} (hX : XV G b (st, nw, ac, na, ik, im, rp, rl, rs, ri, tp, tn, lf, fd, tr, un)) : XI G b ik im := hX.2.2.2.2.2.2.2.2
theorem XV.tape {G : gG} {b : Nat} {st : Bool} {nw : Nat → Int32} {ac : Nat → Nat → Int32} {na : Nat} {ik : Nat → Bool} {im : Nat → Nat → Int32} {rp : Nat → Bool} {rl : Nat → Int32} {rs : Nat → Nat} {ri : Nat → Nat → Int32} {tp : Nat → Int32} {tn : Nat} {lf : Int32} {fd : Int32} {tr : Nat → Int32} {un : Nat} (hX : XV G b (st, nw, ac, na, ik, im, rp, rl, rs, ri, tp, tn, lf, fd, tr, un)) : XT G b tp tn lf := hX.2.1
theorem hasL_st {st : Bool} {nw : Nat → Int32} {ac : Nat → Nat → Int32} {na : Nat} {ik : Nat → Bool} {im : Nat → Nat → Int32} {rp : Nat → Bool} {rl : Nat → Int32} {rs : Nat → Nat} {ri : Nat → Nat → Int32} {tp : Nat → Int32} {tn : Nat} {lf : Int32} {fd : Int32} {tr : Nat → Int32} {un : Nat} (hI : XPI (st, nw, ac, na, ik, im, rp, rl, rs, ri, tp, tn, lf, fd, tr, un)) {i : Int32} (h : hasL nw i = true) : st = true := by
  cases st with
  | true => rfl
  | false =>
    have h0 := hI.2.2.1 rfl
    simp only [hasL, Bool.and_eq_true, decide_eq_true_eq, h0, i_le, i_lt, ti_0] at h
    omega
theorem inB_7 {r : Int32} (h : inB r 0 7 = true) : ∃ j : Nat, j < 8 ∧ r = nI j := by
  simp only [inB, Bool.and_eq_true, decide_eq_true_eq] at h
  obtain ⟨j, hj, rfl⟩ := nI_of (Int32.not_lt.mpr h.1)
  exact ⟨j, by have := (lec (n := 7) (by decide) hj).mp h.2; omega, rfl⟩
theorem inB_1 {r : Int32} (h : inB r 0 1 = true) : ∃ j : Nat, j < 2 ∧ r = nI j := by
  simp only [inB, Bool.and_eq_true, decide_eq_true_eq] at h
  obtain ⟨j, hj, rfl⟩ := nI_of (Int32.not_lt.mpr h.1)
  exact ⟨j, by have := (lec (n := 1) (by decide) hj).mp h.2; omega, rfl⟩
theorem va_up_id {α : Type} {f : Nat → α} {k : Nat} : va_up f k (f k) = f := by
  funext j
  by_cases h : j = k
  · subst h; simp [va_up]
  · simp [va_up, h]
theorem bIn_0 {p : Bool} : bI (!p) = 0 ↔ p = true := by cases p <;> decide
theorem XV.sRi {G G' : gG} {b i : Nat} {st : Bool} {nw : Nat → Int32} {ac : Nat → Nat → Int32} {na : Nat} {ik : Nat → Bool} {im : Nat → Nat → Int32} {rp : Nat → Bool} {rl : Nat → Int32} {rs : Nat → Nat} {ri : Nat → Nat → Int32} {tp : Nat → Int32} {tn : Nat} {lf : Int32} {fd : Int32} {tr : Nat → Int32} {un : Nat} {f : Nat → Int32} (hX : XV G b (st, nw, ac, na, ik, im, rp, rl, rs, ri, tp, tn, lf, fd, tr, un)) (hi : i < 8) (hF : Frm G G' (b + 277 + 2 * i) 2) (hN : XR1 G' (b + 277 + 2 * i) (rp i) (rl i) (rs i) f) : XV G' b (st, nw, ac, na, ik, im, rp, rl, rs, va_up ri i f, tp, tn, lf, fd, tr, un) := by
  have := hX.sR hi hF hN
  rw [va_up_id, va_up_id, va_up_id] at this
  exact this
theorem XV.sRp {G G' : gG} {b i : Nat} {st : Bool} {nw : Nat → Int32} {ac : Nat → Nat → Int32} {na : Nat} {ik : Nat → Bool} {im : Nat → Nat → Int32} {rp : Nat → Bool} {rl : Nat → Int32} {rs : Nat → Nat} {ri : Nat → Nat → Int32} {tp : Nat → Int32} {tn : Nat} {lf : Int32} {fd : Int32} {tr : Nat → Int32} {un : Nat} {p : Bool} (hX : XV G b (st, nw, ac, na, ik, im, rp, rl, rs, ri, tp, tn, lf, fd, tr, un)) (hi : i < 8) (hF : Frm G G' (b + 277 + 2 * i) 2) (hN : XR1 G' (b + 277 + 2 * i) p (rl i) (rs i) (ri i)) : XV G' b (st, nw, ac, na, ik, im, va_up rp i p, rl, rs, ri, tp, tn, lf, fd, tr, un) := by
  have := hX.sR hi hF hN
  rw [va_up_id, va_up_id, va_up_id] at this
  exact this
theorem x_keep {E : gX} {S b : Nat} {G : gG} {Q : Option Value → gG → Prop} {st : Bool} {nw : Nat → Int32} {ac : Nat → Nat → Int32} {na : Nat} {ik : Nat → Bool} {im : Nat → Nat → Int32} {rp : Nat → Bool} {rl : Nat → Int32} {rs : Nat → Nat} {ri : Nat → Nat → Int32} {tp : Nat → Int32} {tn : Nat} {lf : Int32} {fd : Int32} {tr : Nat → Int32} {un : Nat} (hX : XV G b (st, nw, ac, na, ik, im, rp, rl, rs, ri, tp, tn, lf, fd, tr, un)) (hst : st = true) (hn : nN (nw 0) ≤ 6) (hna : na ≤ 24) (hQ : ∀ G' : gG, XV G' b (st, nw, (kpA ac na nw).1, (kpA ac na nw).2, ik, im, rp, rl, rs, ri, tp, tn, lf, fd, tr, un) → Frm G G' b 309 → Q none G') : Runs E y_A_keep 3 0 S [.ref (b + 21), .ref (b + 4)] G Q := by
  subst hst
  obtain ⟨o, ho, hA, hJ, hH⟩ := hX.acts
  have hm := Nat.mod_lt (o + na) (show 0 < 24 by omega)
  refine c_A_keep hA ho hna (hJ _ hm) hX.now hn (by omega) (fun G' hA' hT f => ?_)
  have hF : Frm G G' (b + 21) 194 := f.f (by omega) (by omega) (by omega) (by omega)
  refine hQ G' (hX.sA hF ?_) (hF.mono (by omega) (by omega))
  have hJ' : ∀ i, i < 24 → HJ G' (b + 21 + 2 + 8 * i) := fun i hi => by
    by_cases e : i = (o + na) % 24
    · rw [e]; exact hT.j
    · exact (hJ i hi).elim fun s q => q.elim fun u q => ⟨s, u, q.frm2 f (by omega) (by omega)⟩
  unfold kpA
  by_cases hq : na < 24
  · rw [if_pos hq, if_pos hq] at hA'
    rw [if_pos hq]
    refine ⟨o, ho, hA', hJ', fun i hi => ?_⟩
    by_cases e : i = na
    · subst e
      simp only [va_up_s]
      exact hT
    · simp only [va_up_n e]
      have hi : i < na + 1 := hi
      exact (hH i (by omega)).frm2 f (by omega) (by omega)
  · have hq2 : na = 24 := by omega
    subst hq2
    rw [if_neg hq, if_neg hq] at hA'
    rw [if_neg hq]
    refine ⟨(o + 1) % 24, Nat.mod_lt _ (by omega), hA', hJ', fun i hi => ?_⟩
    have hi : i < 24 := hi
    by_cases e : i = 23
    · subst e
      have e2 : ((o + 1) % 24 + 23) % 24 = (o + 24) % 24 := by omega
      rw [e2]
      exact hT
    · have e2 : ((o + 1) % 24 + i) % 24 = (o + (i + 1)) % 24 := by omega
      rw [e2]
      simp only [if_neg e]
      exact (hH (i + 1) (by omega)).frm2 f (by omega) (by omega)
