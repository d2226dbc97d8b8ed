def JI : gS → Prop
  | (st, nw, ac, na, ik, im, rp, rl, rs, ri, tp, tn, lf, fd, tr, un) => MI (st, nw, ac, na, ik, im, rp, rl, rs, ri, tp, tn, lf, fd, tr, un) ∧ (st = false → nw 0 = 0) ∧ (na ≠ 0 → st = true) ∧ ∀ i, i < 2 → nN (im i 0) ≤ 6
theorem Vk_n6 {v : Nat → Int32} {n : Nat} (h : Vk v n) : nN (v 0) ≤ 6 := by rw [h.nN]; exact h.1
theorem JI.x : ∀ {s : gS}, JI s → XPI s
  | (st, nw, ac, na, ik, im, rp, rl, rs, ri, tp, tn, lf, fd, tr, un), ⟨⟨⟨n, a1⟩, a2, a3, a4, a5, a6, a7, a8, a9⟩, b1, b2, b3⟩ => ⟨(Vk_n6 a1), by rw [a1.2.1]; exact nI_nn (by have := a1.1; omega), b1, a4, b2, fun i hi => (a2 i hi).elim fun m q => (Vk_n6 q), b3, a5, a6, a7⟩
theorem JI.m : ∀ {s : gS}, JI s → MI s
  | (st, nw, ac, na, ik, im, rp, rl, rs, ri, tp, tn, lf, fd, tr, un), h => h.1
theorem JI.z : JI st0 := ⟨⟨⟨0, by omega, rfl, ⟨0, by decide, rfl⟩, fun j hj => absurd hj (by omega)⟩, fun i hi => absurd hi (by omega), (fun i _ h => by cases h), by omega, fun i _ => by show (0 : Nat) ≤ 40; omega, by omega, by omega, fun k hk => absurd hk (by omega), (fun i _ h => by cases h)⟩, fun _ => rfl, fun h => absurd rfl h, fun i _ => by show nN (0 : Int32) ≤ 6; decide⟩
theorem JI.row {st : Bool} {nw : Nat → Int32} {ac : Nat → Nat → Int32} {na : Nat} {ik : Nat → Bool} {im : Nat → Nat → Int32} {rp : Nat → Bool} {rl : Nat → Int32} {rs : Nat → Nat} {ri : Nat → Nat → Int32} {tp : Nat → Int32} {tn : Nat} {lf : Int32} {fd : Int32} {tr : Nat → Int32} {un : Nat} {rp' : Nat → Bool} {rl' : Nat → Int32} {ri' : Nat → Nat → Int32} {x : Int32} (h : JI (st, nw, ac, na, ik, im, rp, rl, rs, ri, tp, tn, lf, fd, tr, un)) : JI (st, nw, ac, na, ik, im, rp', rl', rs, ri', tp, tn, lf, x, tr, un) := h
theorem JI.fd {st : Bool} {nw : Nat → Int32} {ac : Nat → Nat → Int32} {na : Nat} {ik : Nat → Bool} {im : Nat → Nat → Int32} {rp : Nat → Bool} {rl : Nat → Int32} {rs : Nat → Nat} {ri : Nat → Nat → Int32} {tp : Nat → Int32} {tn : Nat} {lf : Int32} {fd : Int32} {tr : Nat → Int32} {un : Nat} {x : Int32} (h : JI (st, nw, ac, na, ik, im, rp, rl, rs, ri, tp, tn, lf, fd, tr, un)) : JI (st, nw, ac, na, ik, im, rp, rl, rs, ri, tp, tn, lf, x, tr, un) := JI.row (rp' := rp) (rl' := rl) (ri' := ri) h
theorem JI.sz {st : Bool} {nw : Nat → Int32} {ac : Nat → Nat → Int32} {na : Nat} {ik : Nat → Bool} {im : Nat → Nat → Int32} {rp : Nat → Bool} {rl : Nat → Int32} {rs : Nat → Nat} {ri : Nat → Nat → Int32} {tp : Nat → Int32} {tn : Nat} {lf : Int32} {fd : Int32} {tr : Nat → Int32} {un : Nat} {j z : Nat} (h : JI (st, nw, ac, na, ik, im, rp, rl, rs, ri, tp, tn, lf, fd, tr, un)) (hz : z ≤ 40) : JI (st, nw, ac, na, ik, im, rp, rl, va_up rs j z, ri, tp, tn, lf, fd, tr, un) := by
  obtain ⟨⟨a1, a2, a3, a4, a5, a6, a7, a8, a9⟩, b1, b2, b3⟩ := h
  refine ⟨⟨a1, a2, a3, a4, fun i hi => ?_, a6, a7, a8, a9⟩, b1, b2, b3⟩
  by_cases e : i = j
  · subst e; rw [va_up_s]; exact hz
  · rw [va_up_n e]; exact a5 i hi
theorem JI.mk {st : Bool} {nw : Nat → Int32} {ac : Nat → Nat → Int32} {na : Nat} {ik : Nat → Bool} {im : Nat → Nat → Int32} {rp : Nat → Bool} {rl : Nat → Int32} {rs : Nat → Nat} {ri : Nat → Nat → Int32} {tp : Nat → Int32} {tn : Nat} {lf : Int32} {fd : Int32} {tr : Nat → Int32} {un : Nat} (h1 : MI (st, nw, ac, na, ik, im, rp, rl, rs, ri, tp, tn, lf, fd, tr, un)) (h2 : st = false → nw 0 = 0) (h3 : na ≠ 0 → st = true) (h4 : ∀ i, i < 2 → nN (im i 0) ≤ 6) : JI (st, nw, ac, na, ik, im, rp, rl, rs, ri, tp, tn, lf, fd, tr, un) := ⟨h1, h2, h3, h4⟩
theorem J_row {s : gS} {r l n : Int32} (h : JI s) : JI (opRow s r l n).2 := by
  obtain ⟨st, nw, ac, na, ik, im, rp, rl, rs, ri, tp, tn, lf, fd, tr, un⟩ := s
  rw [opRow]
  split
  · rename_i hc
    split
    · exact JI.fd h
    · rename_i hn
      have hn : ¬ n < 0 := hn
      refine JI.row (rp := rp) (rl := rl) (ri := ri) (JI.sz h ?_)
      obtain ⟨z, hz, rfl⟩ := nI_of hn
      rw [nN_nI hz]
      exact (lec (n := 40) (by decide) hz).mp hc.2.2
  · exact h
theorem J_set {s : gS} {r i v : Int32} (h : JI s) : JI (opSet s r i v).2 := by
  obtain ⟨st, nw, ac, na, ik, im, rp, rl, rs, ri, tp, tn, lf, fd, tr, un⟩ := s
  rw [opSet]
  repeat' split
  all_goals first | exact JI.row h | exact JI.fd h
theorem J_copy {s : gS} {a i b j n : Int32} (h : JI s) : JI (opCopy s a i b j n).2 := by
  obtain ⟨st, nw, ac, na, ik, im, rp, rl, rs, ri, tp, tn, lf, fd, tr, un⟩ := s
  rw [opCopy]
  repeat' split
  all_goals first | exact JI.row h | exact JI.fd h
theorem J_drop {s : gS} {r : Int32} (h : JI s) : JI (opDrop s r).2 := by
  obtain ⟨st, nw, ac, na, ik, im, rp, rl, rs, ri, tp, tn, lf, fd, tr, un⟩ := s
  rw [opDrop]
  repeat' split
  all_goals first | exact JI.row h | exact JI.fd h
theorem J_as {s : gS} {i k : Int32} (h : JI s) : JI (opAs s i k).2 := by
  obtain ⟨st, nw, ac, na, ik, im, rp, rl, rs, ri, tp, tn, lf, fd, tr, un⟩ := s
  rw [opAs]
  repeat' split
  all_goals first | exact JI.row h | exact JI.fd h
theorem J_fits {s : gS} {i r p n q : Int32} (h : JI s) : JI (opFits s i r p n q).2 := by
  obtain ⟨st, nw, ac, na, ik, im, rp, rl, rs, ri, tp, tn, lf, fd, tr, un⟩ := s
  rw [opFits]
  repeat' split
  all_goals first | exact JI.row h | exact JI.fd h
theorem J_stealth {s : gS} {r p n : Int32} (h : JI s) : JI (opStealth s r p n).2 := by
  obtain ⟨st, nw, ac, na, ik, im, rp, rl, rs, ri, tp, tn, lf, fd, tr, un⟩ := s
  rw [opStealth]
  repeat' split
  all_goals first | exact JI.row h | exact JI.fd h
theorem J_ask {s : gS} {i q : Int32} (h : JI s) : JI (opAsk s i q).2 := by
  obtain ⟨st, nw, ac, na, ik, im, rp, rl, rs, ri, tp, tn, lf, fd, tr, un⟩ := s
  rw [opAsk]
  split
  · obtain ⟨⟨a1, a2, a3, a4, a5, a6, a7, a8, a9⟩, b1, b2, b3⟩ := h
    have key : ∀ z : Int32 × ((Nat → Int32) × Nat), z.2.2 ≤ 16 → JI (st, nw, ac, na, ik, im, rp, rl, rs, ri, tp, tn, lf, fd, z.2.1, z.2.2) := fun z hz => ⟨⟨a1, a2, a3, a4, a5, a6, hz, a8, a9⟩, b1, b2, b3⟩
    exact key _ (bg_le _ _ _ (Nat.zero_le _))
  · exact h
theorem J_feed {s : gS} {x : Int32} (h : JI s) : JI (opFeed s x).2 := by
  obtain ⟨st, nw, ac, na, ik, im, rp, rl, rs, ri, tp, tn, lf, fd, tr, un⟩ := s
  rw [opFeed]
  split
  · rename_i hx
    split
    · rename_i ht
      obtain ⟨⟨a1, a2, a3, a4, a5, a6, a7, a8, a9⟩, b1, b2, b3⟩ := h
      refine ⟨⟨a1, a2, a3, a4, a5, by omega, a7, fun k hk => ?_, a9⟩, b1, b2, b3⟩
      by_cases e : k = tn
      · subst e
        rw [upd_s]
        simp only [inB, Bool.and_eq_true, decide_eq_true_eq, i_le, ti_0, ti_255] at hx
        exact hx
      · rw [upd_n e]
        exact a8 k (by omega)
    · exact h
  · exact h
def AIv (nw : Nat → Int32) (ac : Nat → Nat → Int32) (na : Nat) : Prop := (∃ n, Vk nw n) ∧ (∀ i, i < na → ∃ n, Vk (ac i) n) ∧ na ≤ 24
theorem AIv.kp {nw u : Nat → Int32} {ac : Nat → Nat → Int32} {na : Nat} (h : AIv nw ac na) (hu : ∃ n, Vk u n) : AIv u (kpA ac na nw).1 (kpA ac na nw).2 := by
  obtain ⟨h1, h2, h3⟩ := h
  refine ⟨hu, ?_, ?_⟩
  · unfold kpA
    by_cases q : na < 24
    · rw [if_pos q]
      intro i hi
      have hi : i < na + 1 := hi
      by_cases e : i = na
      · subst e
        show ∃ n, Vk (va_up ac i nw i) n
        rw [va_up_s]; exact h1
      · show ∃ n, Vk (va_up ac na nw i) n
        rw [va_up_n e]; exact h2 i (by omega)
    · rw [if_neg q]
      intro i hi
      have hi : i < 24 := hi
      show ∃ n, Vk (if i = 23 then nw else ac (i + 1)) n
      by_cases e : i = 23
      · rw [if_pos e]; exact h1
      · rw [if_neg e]; exact h2 (i + 1) (by omega)
  · unfold kpA
    by_cases q : na < 24
    · rw [if_pos q]; show na + 1 ≤ 24; omega
    · rw [if_neg q]; show 24 ≤ 24; omega
theorem JI.act {st : Bool} {nw : Nat → Int32} {ac : Nat → Nat → Int32} {na : Nat} {ik : Nat → Bool} {im : Nat → Nat → Int32} {rp : Nat → Bool} {rl : Nat → Int32} {rs : Nat → Nat} {ri : Nat → Nat → Int32} {tp : Nat → Int32} {tn : Nat} {lf : Int32} {fd : Int32} {tr : Nat → Int32} {un : Nat} {u : Nat → Int32} (h : JI (st, nw, ac, na, ik, im, rp, rl, rs, ri, tp, tn, lf, fd, tr, un)) (hst : st = true) (hu : ∃ n, Vk u n) : JI (st, u, (kpA ac na nw).1, (kpA ac na nw).2, ik, im, rp, rl, rs, ri, tp, tn, lf, fd, tr, un) := by
  obtain ⟨⟨a1, a2, a3, a4, a5, a6, a7, a8, a9⟩, b1, b2, b3⟩ := h
  obtain ⟨c1, c2, c3⟩ := AIv.kp ⟨a1, a2, a4⟩ hu
  subst hst
  exact ⟨⟨c1, c2, a3, c3, a5, a6, a7, a8, a9⟩, (fun z => by cases z), fun _ => rfl, b3⟩
theorem JI.st {st : Bool} {nw : Nat → Int32} {ac : Nat → Nat → Int32} {na : Nat} {ik : Nat → Bool} {im : Nat → Nat → Int32} {rp : Nat → Bool} {rl : Nat → Int32} {rs : Nat → Nat} {ri : Nat → Nat → Int32} {tp : Nat → Int32} {tn : Nat} {lf : Int32} {fd : Int32} {tr : Nat → Int32} {un : Nat} {i : Int32} (h : JI (st, nw, ac, na, ik, im, rp, rl, rs, ri, tp, tn, lf, fd, tr, un)) (hl : hasL nw i = true) : st = true := hasL_st h.x hl
theorem J_answer {s : gS} {i : Int32} (h : JI s) : JI (opAnswer s i).2 := by
  obtain ⟨st, nw, ac, na, ik, im, rp, rl, rs, ri, tp, tn, lf, fd, tr, un⟩ := s
  rw [opAnswer]
  split
  · rename_i hl
    split
    · exact JI.act h (JI.st h hl) (h.m.1.elim fun n q => ⟨n, q.ans _⟩)
    · exact h
  · exact h
theorem J_post {s : gS} {i : Int32} (h : JI s) : JI (opPost s i).2 := by
  obtain ⟨st, nw, ac, na, ik, im, rp, rl, rs, ri, tp, tn, lf, fd, tr, un⟩ := s
  rw [opPost]
  split
  · rename_i hl
    split
    · exact h
    · exact JI.act h (JI.st h hl) (h.m.1.elim fun n q => ⟨n, q.putI _⟩)
  · exact h
theorem Vk.dr {v : Nat → Int32} {n j : Nat} {x : Int32} (h : Vk v n) (hx : inB x 0 9 = true) (hj : j < 6) : Vk (upd v (12 + j) x) n := by
  obtain ⟨h6, h0, ⟨b, hb, e⟩, hA⟩ := h
  simp only [inB, Bool.and_eq_true, decide_eq_true_eq, i_le, ti_0, ti_9] at hx
  refine ⟨h6, by rw [upd_n (by omega)]; exact h0, ⟨b, hb, by rw [upd_n (by omega)]; exact e⟩, fun k hk => ?_⟩
  have := hA k hk
  rw [upd_n (show 6 + k ≠ 12 + j by omega), upd_n (show 18 + k ≠ 12 + j by omega), upd_n (show 30 + k ≠ 12 + j by omega)]
  refine ⟨⟨?_, this.1.2⟩, this.2⟩
  by_cases z : k = j
  · subst z; rw [upd_s]; omega
  · rw [upd_n (by omega)]; exact this.1.1
theorem J_dread {s : gS} {i v : Int32} (h : JI s) : JI (opDread s i v).2 := by
  obtain ⟨st, nw, ac, na, ik, im, rp, rl, rs, ri, tp, tn, lf, fd, tr, un⟩ := s
  rw [opDread]
  split
  · rename_i hl
    obtain ⟨n, hV⟩ := h.m.1
    obtain ⟨j, hj, hj6, rfl⟩ := hasL_ix hl.1 (by rw [hV.nN]; exact hV.1)
    refine JI.act h (JI.st h hl.1) ⟨n, ?_⟩
    rw [nN_nI (by omega)]
    exact hV.dr hl.2 hj6
  · exact h
theorem dys_I : ∀ (k : Nat) (s : (Nat → Int32) × (Nat → Nat → Int32) × Nat), AIv s.1 s.2.1 s.2.2 → AIv (dysN k s).1 (dysN k s).2.1 (dysN k s).2.2
  | 0, _, h => h
  | k + 1, s, h => dys_I k (dyS s) (AIv.kp h (h.1.elim fun n q => ⟨n, q.pass⟩))
theorem J_days {s : gS} {n : Int32} (h : JI s) : JI (opDays s n).2 := by
  obtain ⟨st, nw, ac, na, ik, im, rp, rl, rs, ri, tp, tn, lf, fd, tr, un⟩ := s
  rw [opDays]
  split
  · rename_i hst
    split
    · split
      · obtain ⟨⟨a1, a2, a3, a4, a5, a6, a7, a8, a9⟩, b1, b2, b3⟩ := h
        obtain ⟨c1, c2, c3⟩ := dys_I (nN n) (nw, ac, na) ⟨a1, a2, a4⟩
        subst hst
        exact ⟨⟨c1, c2, a3, c3, a5, a6, a7, a8, a9⟩, (fun z => by cases z), fun _ => rfl, b3⟩
      · exact h
    · exact h
  · exact h
theorem J_undo {s : gS} (h : JI s) : JI (opUndo s).2 := by
  obtain ⟨st, nw, ac, na, ik, im, rp, rl, rs, ri, tp, tn, lf, fd, tr, un⟩ := s
  rw [opUndo]
  split
  · rename_i hn
    obtain ⟨⟨a1, a2, a3, a4, a5, a6, a7, a8, a9⟩, b1, b2, b3⟩ := h
    have hst := b2 (by omega)
    subst hst
    exact ⟨⟨a2 (na - 1) (by omega), fun i hi => a2 i (by omega), a3, by omega, a5, a6, a7, a8, a9⟩, (fun z => by cases z), fun _ => rfl, b3⟩
  · exact h
theorem J_image {s : gS} {k : Int32} (h : JI s) : JI (opImage s k).2 := by
  obtain ⟨st, nw, ac, na, ik, im, rp, rl, rs, ri, tp, tn, lf, fd, tr, un⟩ := s
  rw [opImage]
  split
  · split
    · rename_i hst
      obtain ⟨⟨⟨n, a1⟩, a2, a3, a4, a5, a6, a7, a8, a9⟩, b1, b2, b3⟩ := h
      refine ⟨⟨⟨n, a1⟩, a2, fun i hi hq => ?_, a4, a5, a6, a7, a8, fun _ _ _ => hst⟩, b1, b2, fun i hi => ?_⟩
      · by_cases e : i = nN k
        · subst e; rw [va_up_s]; exact ⟨n, a1⟩
        · rw [va_up_n e] at hq ⊢; exact a3 i hi hq
      · by_cases e : i = nN k
        · subst e; rw [va_up_s]; exact (Vk_n6 a1)
        · rw [va_up_n e]; exact b3 i hi
    · exact h
  · exact h
theorem J_restore {s : gS} {k : Int32} (h : JI s) : JI (opRestore s k).2 := by
  obtain ⟨st, nw, ac, na, ik, im, rp, rl, rs, ri, tp, tn, lf, fd, tr, un⟩ := s
  rw [opRestore]
  split
  · rename_i hk
    split
    · rename_i hq
      obtain ⟨⟨a1, a2, a3, a4, a5, a6, a7, a8, a9⟩, b1, b2, b3⟩ := h
      obtain ⟨j, hj, rfl⟩ := inB_1 hk
      rw [nN_nI (by omega)] at hq ⊢
      exact ⟨⟨a3 j hj hq, fun i hi => absurd hi (by omega), a3, by omega, a5, a6, a7, a8, fun _ _ _ => rfl⟩, (fun z => by cases z), fun _ => rfl, b3⟩
    · exact h
  · exact h
theorem rFig_i {f : Nat → Int32} {m p : Nat} (h : (rFig f m p).1 = 0) : inB (rFig f m p).2.2.1 0 9 = true ∧ inB (rFig f m p).2.2.2.1 1 9 = true := by
  unfold rFig at h ⊢
  have f1 := @rNum_in f m p 0 9
  generalize rNum f m 0 9 p = x1 at h f1 ⊢
  generalize rSign f m 44 x1.2.1 = x2 at h ⊢
  have f2 := @rNum_in f m x2.2 1 9
  generalize rNum f m 1 9 x2.2 = x3 at h f2 ⊢
  generalize rSign f m 44 x3.2.1 = x4 at h ⊢
  generalize rNum f m 0 9 x4.2 = x5 at h ⊢
  generalize rSign f m 59 x5.2.1 = x6 at h ⊢
  by_cases k0 : ¬ x1.1 = 0
  · rw [if_pos k0] at h; exact absurd h k0
  · rw [if_neg k0] at h ⊢
    by_cases k1 : ¬ x2.1 = 0
    · rw [if_pos k1] at h; exact absurd h k1
    · rw [if_neg k1] at h ⊢
      by_cases k2 : ¬ x3.1 = 0
      · rw [if_pos k2] at h; exact absurd h k2
      · rw [if_neg k2] at h ⊢
        by_cases k3 : ¬ x4.1 = 0
        · rw [if_pos k3] at h; exact absurd h k3
        · rw [if_neg k3] at h ⊢
          by_cases k4 : ¬ x5.1 = 0
          · rw [if_pos k4] at h; exact absurd h k4
          · rw [if_neg k4] at h ⊢
            exact ⟨f1 (Decidable.not_not.mp k0), f2 (Decidable.not_not.mp k2)⟩
theorem rLet_i {f : Nat → Int32} {m p n : Nat} {v : Nat → Int32} (h : (rLet f m p v).1 = 0) (hR : ∃ u, RL u v n) : ∃ u, RL u (rLet f m p v).2.2 (n + 1) := by
  obtain ⟨u, hR⟩ := hR
  unfold rLet at h ⊢
  have fi := @rFig_i f m (p + 1)
  generalize rFig f m (p + 1) = x at h fi ⊢
  have fk := @knd_b (bt f m p)
  generalize knd (bt f m p) = k at h fk ⊢
  by_cases k0 : k = 0
  · rw [if_pos k0] at h; exact absurd h (show ¬ (1 : Int32) = 0 by decide)
  · rw [if_neg k0] at h ⊢
    by_cases k1 : 6 ≤ v 0
    · rw [if_pos k1] at h; exact absurd h (show ¬ (3 : Int32) = 0 by decide)
    · rw [if_neg k1] at h ⊢
      by_cases k2 : ¬ x.1 = 0
      · rw [if_pos k2] at h; exact absurd h k2
      · rw [if_neg k2] at h ⊢
        obtain ⟨i1, i2⟩ := fi (Decidable.not_not.mp k2)
        have hn6 : n < 6 := by
          rw [hR.2.2.1] at k1
          have := hR.1
          rw [cle (n := 6) (by decide) (by omega)] at k1
          omega
        exact ⟨_, hR.add hn6 (fk k0) i1 i2⟩
theorem rLets_i {f : Nat → Int32} {m : Nat} : ∀ (k p n : Nat) (v : Nat → Int32), (rLets f m k p v).1 = 0 → (∃ u, RL u v n) → ∃ u n', RL u (rLets f m k p v).2.2 n'
  | 0, p, n, v, _, ⟨u, h⟩ => ⟨u, n, h⟩
  | k + 1, p, n, v, h, hR => by
    simp only [rLets] at h ⊢
    by_cases q : p < m
    · rw [if_pos q] at h ⊢
      by_cases z : (rLet f m p v).1 = 0
      · rw [if_pos z] at h ⊢
        exact rLets_i k _ (n + 1) _ h (rLet_i z hR)
      · rw [if_neg z] at h
        exact absurd h z
    · rw [if_neg q]
      obtain ⟨u, hR⟩ := hR
      exact ⟨u, n, hR⟩
theorem rAll_i {f : Nat → Int32} {m : Nat} (h : (rAll f m zV).1 = 0) : ∃ n, Vk (rAll f m zV).2.2 n := by
  unfold rAll at h ⊢
  rw [clr0] at h ⊢
  by_cases k : (rLaw f m 0 zV).1 = 0
  · rw [if_pos k] at h ⊢
    obtain ⟨u, n, r⟩ := rLets_i 7 _ 0 _ h ⟨_, rLaw_RL k⟩
    exact ⟨n, r.2.2.2.2.2.2⟩
  · rw [if_neg k] at h
    exact absurd h k
theorem JI.hs {st : Bool} {nw : Nat → Int32} {ac : Nat → Nat → Int32} {na : Nat} {ik : Nat → Bool} {im : Nat → Nat → Int32} {rp : Nat → Bool} {rl : Nat → Int32} {rs : Nat → Nat} {ri : Nat → Nat → Int32} {tp : Nat → Int32} {tn : Nat} {lf : Int32} {fd : Int32} {tr : Nat → Int32} {un : Nat} {v : Nat → Int32} (h : JI (st, nw, ac, na, ik, im, rp, rl, rs, ri, tp, tn, lf, fd, tr, un)) (hv : ∃ n, Vk v n) : JI (true, v, ac, 0, ik, im, rp, rl, rs, ri, tp, 0, lf, fd, tr, un) := by
  obtain ⟨⟨a1, a2, a3, a4, a5, a6, a7, a8, a9⟩, b1, b2, b3⟩ := h
  exact JI.mk ⟨hv, fun i hi => absurd hi (by omega), a3, by omega, a5, by omega, a7, fun k hk => absurd hk (by omega), fun _ _ _ => rfl⟩ (fun z => by cases z) (fun _ => rfl) b3
theorem JI.hn {st : Bool} {nw : Nat → Int32} {ac : Nat → Nat → Int32} {na : Nat} {ik : Nat → Bool} {im : Nat → Nat → Int32} {rp : Nat → Bool} {rl : Nat → Int32} {rs : Nat → Nat} {ri : Nat → Nat → Int32} {tp : Nat → Int32} {tn : Nat} {lf : Int32} {fd : Int32} {tr : Nat → Int32} {un : Nat} {x : Int32} (h : JI (st, nw, ac, na, ik, im, rp, rl, rs, ri, tp, tn, lf, fd, tr, un)) : JI (st, nw, ac, na, ik, im, rp, rl, rs, ri, tp, 0, x, fd, tr, un) := by
  obtain ⟨⟨a1, a2, a3, a4, a5, a6, a7, a8, a9⟩, b1, b2, b3⟩ := h
  exact JI.mk ⟨a1, a2, a3, a4, a5, by omega, a7, fun k hk => absurd hk (by omega), a9⟩ b1 b2 b3
theorem J_h1 {st : Bool} {nw : Nat → Int32} {ac : Nat → Nat → Int32} {na : Nat} {ik : Nat → Bool} {im : Nat → Nat → Int32} {rp : Nat → Bool} {rl : Nat → Int32} {rs : Nat → Nat} {ri : Nat → Nat → Int32} {tp : Nat → Int32} {tn : Nat} {lf : Int32} {fd : Int32} {tr : Nat → Int32} {un : Nat} {t : Int32 × gS} (h : JI (st, nw, ac, na, ik, im, rp, rl, rs, ri, tp, tn, lf, fd, tr, un)) (e : opHouse (st, nw, ac, na, ik, im, rp, rl, rs, ri, tp, tn, lf, fd, tr, un) = t) (hz : (rAll tp tn zV).1 = 0) : JI t.2 := by
  rw [opHouse, if_pos hz] at e
  rw [← e]
  exact JI.hs h (rAll_i hz)
theorem J_h2 {st : Bool} {nw : Nat → Int32} {ac : Nat → Nat → Int32} {na : Nat} {ik : Nat → Bool} {im : Nat → Nat → Int32} {rp : Nat → Bool} {rl : Nat → Int32} {rs : Nat → Nat} {ri : Nat → Nat → Int32} {tp : Nat → Int32} {tn : Nat} {lf : Int32} {fd : Int32} {tr : Nat → Int32} {un : Nat} {t : Int32 × gS} (h : JI (st, nw, ac, na, ik, im, rp, rl, rs, ri, tp, tn, lf, fd, tr, un)) (e : opHouse (st, nw, ac, na, ik, im, rp, rl, rs, ri, tp, tn, lf, fd, tr, un) = t) (hz : ¬ (rAll tp tn zV).1 = 0) : JI t.2 := by
  rw [opHouse, if_neg hz] at e
  rw [← e]
  exact JI.hn h
theorem J_house {st : Bool} {nw : Nat → Int32} {ac : Nat → Nat → Int32} {na : Nat} {ik : Nat → Bool} {im : Nat → Nat → Int32} {rp : Nat → Bool} {rl : Nat → Int32} {rs : Nat → Nat} {ri : Nat → Nat → Int32} {tp : Nat → Int32} {tn : Nat} {lf : Int32} {fd : Int32} {tr : Nat → Int32} {un : Nat} {t : Int32 × gS} (h : JI (st, nw, ac, na, ik, im, rp, rl, rs, ri, tp, tn, lf, fd, tr, un)) (e : opHouse (st, nw, ac, na, ik, im, rp, rl, rs, ri, tp, tn, lf, fd, tr, un) = t) : JI t.2 := (Classical.em ((rAll tp tn zV).1 = 0)).elim (fun z => J_h1 h e z) (fun z => J_h2 h e z)
