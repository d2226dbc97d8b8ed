def cpg (X : Nat → Int32) (s d m : Nat) (bk : Bool) (t : Nat) : Nat → Int32 := fun k => if (if bk = true then d + m - t else d) ≤ k ∧ k < (if bk = true then d + m - t else d) + t then X (s + (k - d)) else X k
theorem cpg_0 {X : Nat → Int32} {s d m : Nat} {bk : Bool} : cpg X s d m bk 0 = X := by
  funext k
  unfold cpg
  rw [if_neg (by omega)]
theorem cpg_t {X : Nat → Int32} {x y p q m t : Nat} (h1 : p + m ≤ 40) (h2 : q + m ≤ 40) (ht : t < m) (hb : p < q) : upd (cpg X (40 * x + p) (40 * y + q) m true t) (40 * y + q + (m - 1 - t)) (cpg X (40 * x + p) (40 * y + q) m true t (40 * x + p + (m - 1 - t))) = cpg X (40 * x + p) (40 * y + q) m true (t + 1) := by
  funext k
  unfold upd cpg
  simp only [if_true]
  have hr : ¬ (40 * y + q + m - t ≤ 40 * x + p + (m - 1 - t) ∧ 40 * x + p + (m - 1 - t) < 40 * y + q + m - t + t) := by
    rcases Nat.lt_trichotomy x y with h | h | h <;> omega
  by_cases e : k = 40 * y + q + (m - 1 - t)
  · rw [if_pos e, if_neg hr, if_pos (by omega)]
    exact congrArg X (by omega)
  · rw [if_neg e]
    by_cases z : 40 * y + q + m - t ≤ k ∧ k < 40 * y + q + m - t + t
    · rw [if_pos z, if_pos (by omega)]
    · rw [if_neg z, if_neg (by omega)]
theorem cpg_f {X : Nat → Int32} {x y p q m t : Nat} (h1 : p + m ≤ 40) (h2 : q + m ≤ 40) (ht : t < m) (hb : ¬ p < q) : upd (cpg X (40 * x + p) (40 * y + q) m false t) (40 * y + q + t) (cpg X (40 * x + p) (40 * y + q) m false t (40 * x + p + t)) = cpg X (40 * x + p) (40 * y + q) m false (t + 1) := by
  funext k
  unfold upd cpg
  simp only [Bool.false_eq_true, if_false]
  have hr : ¬ (40 * y + q ≤ 40 * x + p + t ∧ 40 * x + p + t < 40 * y + q + t) := by
    rcases Nat.lt_trichotomy x y with h | h | h <;> omega
  by_cases e : k = 40 * y + q + t
  · rw [if_pos e, if_neg hr, if_pos (by omega)]
    exact congrArg X (by omega)
  · rw [if_neg e]
    by_cases z : 40 * y + q ≤ k ∧ k < 40 * y + q + t
    · rw [if_pos z, if_pos (by omega)]
    · rw [if_neg z, if_neg (by omega)]
theorem cpg_e {X : Nat → Int32} {s d m k : Nat} {bk : Bool} : cpg X s d m bk m k = if d ≤ k ∧ k < d + m then X (s + (k - d)) else X k := by
  unfold cpg
  cases bk
  · simp only [Bool.false_eq_true, if_false]
  · simp only [if_true, Nat.add_sub_cancel]
theorem ix41 {a b e : Nat} : (40 : Int32) * nI a + nI b + nI e = nI (40 * a + b + e) := by rw [ix40, nI_add]
theorem c_M_copy {E : gX} {S : Nat} {G : gG} {Q : Option Value → gG → Prop} {c : Nat} {f w : Nat → Int32} {A : Nat → Nat → Int32} {st : Bool} {nw : Nat → Int32} {ac : Nat → Nat → Int32} {na : Nat} {ik : Nat → Bool} {im : Nat → Nat → Int32} {rp : Nat → Bool} {rl : Nat → Int32} {rs : Nat → Nat} {ri : Nat → Nat → Int32} {tp : Nat → Int32} {tn : Nat} {lf : Int32} {fd : Int32} {tr : Nat → Int32} {un : Nat} (hM : MV G c f w A) (hS : MS f w A (st, nw, ac, na, ik, im, rp, rl, rs, ri, tp, tn, lf, fd, tr, un)) (hI : MI (st, nw, ac, na, ik, im, rp, rl, rs, ri, tp, tn, lf, fd, tr, un)) {a i b j n : Int32} (hQ : ∀ G' : gG, MR G' c (opCopy (st, nw, ac, na, ik, im, rp, rl, rs, ri, tp, tn, lf, fd, tr, un) a i b j n).2 → Frm G G' c 10 → Q (some (.int (opCopy (st, nw, ac, na, ik, im, rp, rl, rs, ri, tp, tn, lf, fd, tr, un) a i b j n).1)) G') : Runs E y_M_copy 3 0 S [.ref c, .int a, .int i, .int b, .int j, .int n] G Q := by
  refine Runs.of "ClockPostModel" [some (.ref c), some (.int a), some (.int i), some (.int b), some (.int j), some (.int n), none, none, none] cw_M_copy (by decide) (by decide +kernel) rfl (Nat.le_of_ble_eq_true rfl) rfl (fun K hK => ?_)
  refine r_iload_n hK d_M_copy_0 rfl ?_
  refine r_s1 (k' := 2) hK lm_M_49 d_M_copy_1 (by decide) (Nat.le_of_ble_eq_true rfl) ?_
  refine c_M_isRow (kc_s ?_)
  refine r_if_eq (tgt := 14) hK d_M_copy_4 rfl (fun h4 => ?_) (fun h4 => ?_)
  · skip
    have hb := bI_0.mp h4
    rw [opCopy, if_neg (by simp [hb])] at hQ
    refine r_ldc hK d_M_copy_14 lc_M_55 ?_
    refine r_iret hK rfl rfl d_M_copy_16 ?_
    exact hQ _ ⟨_, _, _, hM, hS⟩ Frm.rf
  · skip
    have hb := bI_n0.mp h4
    refine r_iload_n hK d_M_copy_7 rfl ?_
    refine r_s1 (k' := 2) hK lm_M_49 d_M_copy_8 (by decide) (Nat.le_of_ble_eq_true rfl) ?_
    refine c_M_isRow (kc_s ?_)
    refine r_if_ne (tgt := 17) hK d_M_copy_11 rfl (fun h11 => ?_) (fun h11 => ?_)
    · skip
      have hc := bI_n0.mp h11
      rw [opCopy, if_pos ⟨hb, hc⟩] at hQ
      obtain ⟨x, hx8, rfl⟩ := inB_7 hb
      obtain ⟨y, hy8, rfl⟩ := inB_7 hc
      rw [nN_nI (by omega), nN_nI (by omega)] at hQ
      have sx := hI.2.2.2.2.1 x hx8
      have sy := hI.2.2.2.2.1 y hy8
      have hx := hS.sz1 hx8 sx
      have hy := hS.sz1 hy8 sy
      refine r_aload_n hK d_M_copy_17 rfl ?_
      refine r_get hK lf_M_20 d_M_copy_18 (hM.1) rfl ?_
      refine r_iload_n hK d_M_copy_21 rfl ?_
      refine g_a4 (j := x) hK d_M_copy_22 hM (rfl) (by omega) ?_
      refine r_if_lt (tgt := 35) hK d_M_copy_23 rfl (fun h23 => ?_) (fun h23 => ?_)
      · skip
        have hp : rp x = false := hx.1.mp h23
        rw [if_neg (by simp [hp])] at hQ
        refine r_aload_n hK d_M_copy_35 rfl ?_
        refine r_iconst hK d_M_copy_36 kc_1 ?_
        refine r_v1 (k' := 1) hK lm_M_56 d_M_copy_37 ⟨_, hM.1⟩ (by decide) (Nat.le_of_ble_eq_true rfl) ?_
        refine c_M_find hM (fun G37 hM f37 => kc_s ?_)
        refine r_iret hK rfl rfl d_M_copy_40 ?_
        exact hQ _ ⟨_, _, _, hM, hS.sfd⟩ f37
      · skip
        have hpx : rp x = true := by
          cases e : rp x with
          | true => rfl
          | false => exact absurd (hx.1.mpr e) h23
        refine r_aload_n hK d_M_copy_26 rfl ?_
        refine r_get hK lf_M_20 d_M_copy_27 (hM.1) rfl ?_
        refine r_iload_n hK d_M_copy_30 rfl ?_
        refine g_a4 (j := y) hK d_M_copy_31 hM (rfl) (by omega) ?_
        refine r_if_ge (tgt := 41) hK d_M_copy_32 rfl (fun h32 => ?_) (fun h32 => ?_)
        · skip
          have hpy : rp y = true := by
            cases e : rp y with
            | true => rfl
            | false => exact absurd (hy.1.mpr e) (Int32.not_lt.mpr h32)
          rw [if_pos ⟨hpx, hpy⟩] at hQ
          have zx := hx.2 hpx
          have zy := hy.2 hpy
          have ax := hS.2.2.2.2.2.2.2.2.2.2.2.1 x hx8 hpx
          have ay := hS.2.2.2.2.2.2.2.2.2.2.2.1 y hy8 hpy
          refine r_aload_n hK d_M_copy_41 rfl ?_
          refine r_get hK lf_M_17 d_M_copy_42 (hM.1) rfl ?_
          refine r_iload_n hK d_M_copy_45 rfl ?_
          refine g_a3 (j := x) hK d_M_copy_46 hM (rfl) (by omega) ?_
          rw [ax.1]
          refine r_aload_n hK d_M_copy_47 rfl ?_
          refine r_get hK lf_M_17 d_M_copy_48 (hM.1) rfl ?_
          refine r_iload_n hK d_M_copy_51 rfl ?_
          refine g_a3 (j := y) hK d_M_copy_52 hM (rfl) (by omega) ?_
          rw [ay.1]
          refine r_icmp_eq (tgt := 62) hK d_M_copy_53 rfl (fun h53 => ?_) (fun h53 => ?_)
          · skip
            rw [if_pos h53] at hQ
            refine r_aload_n hK d_M_copy_62 rfl ?_
            refine r_iload_n hK d_M_copy_63 rfl ?_
            refine r_iload_n hK d_M_copy_64 rfl ?_
            refine r_iload hK d_M_copy_65 rfl ?_
            refine r_v3 (k' := 1) hK lm_M_67 d_M_copy_67 ⟨_, hM.1⟩ (by decide) (Nat.le_of_ble_eq_true rfl) ?_
            refine c_M_isSpan hM hx8 zx sx (kc_s ?_)
            refine r_if_eq (tgt := 85) hK d_M_copy_70 rfl (fun h70 => ?_) (fun h70 => ?_)
            · skip
              have hd := bI_0.mp h70
              rw [if_neg (by simp [hd])] at hQ
              refine r_aload_n hK d_M_copy_85 rfl ?_
              refine r_iconst hK d_M_copy_86 kc_2 ?_
              refine r_v1 (k' := 1) hK lm_M_56 d_M_copy_87 ⟨_, hM.1⟩ (by decide) (Nat.le_of_ble_eq_true rfl) ?_
              refine c_M_find hM (fun G87 hM f87 => kc_s ?_)
              refine r_iret hK rfl rfl d_M_copy_90 ?_
              exact hQ _ ⟨_, _, _, hM, hS.sfd⟩ f87
            · skip
              have hd := bI_n0.mp h70
              refine r_aload_n hK d_M_copy_73 rfl ?_
              refine r_iload_n hK d_M_copy_74 rfl ?_
              refine r_iload hK d_M_copy_75 rfl ?_
              refine r_iload hK d_M_copy_77 rfl ?_
              refine r_v3 (k' := 1) hK lm_M_67 d_M_copy_79 ⟨_, hM.1⟩ (by decide) (Nat.le_of_ble_eq_true rfl) ?_
              refine c_M_isSpan hM hy8 zy sy (kc_s ?_)
              refine r_if_ne (tgt := 91) hK d_M_copy_82 rfl (fun h82 => ?_) (fun h82 => ?_)
              · skip
                have he := bI_n0.mp h82
                rw [if_pos ⟨hd, he⟩] at hQ
                have hd2 := (hasP_iff sx).mp hd
                have he2 := (hasP_iff sy).mp he
                obtain ⟨p, hp31, rfl⟩ := nI_of (x := i) (by rw [i_lt, ti_0]; omega)
                obtain ⟨q, hq31, rfl⟩ := nI_of (x := j) (by rw [i_lt, ti_0]; omega)
                obtain ⟨m, hm31, rfl⟩ := nI_of (x := n) (by rw [i_lt, ti_0]; omega)
                rw [nI_toInt hp31, nI_toInt hm31] at hd2
                rw [nI_toInt hq31, nI_toInt hm31] at he2
                rw [nN_nI hp31, nN_nI hq31, nN_nI hm31] at hQ
                refine r_iload_n hK d_M_copy_91 rfl ?_
                refine r_iload hK d_M_copy_92 rfl ?_
                refine r_icmp_ge (tgt := 101) hK d_M_copy_94 rfl (fun h94 => ?_) (fun h94 => ?_)
                · skip
                  have hpq : ¬ p < q := by have := (nI_leI hq31 hp31).mp h94; omega
                  refine r_iconst hK d_M_copy_101 kc_0 ?_
                  refine st_i_6_9 hK d_M_copy_102 trivial ?_
                  refine r_iconst hK d_M_copy_104 kc_0 ?_
                  refine st_i_7_9 hK d_M_copy_105 trivial ?_
                  suffices L : ∀ t, t ≤ m → ∀ (G1 : gG) (bkv : Int32) (a8 : Option Value), bkv = bI (decide (p < q)) → MV G1 c f w (va_up A 5 (cpg (A 5) (40 * x + p) (40 * y + q) m (decide (p < q)) t)) → Frm G G1 c 10 → K 107 [some (.ref c), some (.int (nI x)), some (.int (nI p)), some (.int (nI y)), some (.int (nI q)), some (.int (nI m)), some (.int bkv), some (.int (nI t)), a8] [] S G1 from L 0 (Nat.zero_le _) _ _ _ (by first | exact (bI_t (decide_eq_true hpq)).symm | exact (bI_f (by simp [hpq])).symm) (by rw [cpg_0, va_up_id]; exact hM) Frm.rf
                  clear hM hpq
                  refine lpN m (fun t ht ih G1 bkv a8 hbk hM hF => ?_)
                  refine r_iload hK d_M_copy_107 rfl ?_
                  refine r_iload hK d_M_copy_109 rfl ?_
                  refine r_icmp_ge (tgt := 168) hK d_M_copy_111 rfl (fun h111 => ?_) (fun h111 => ?_)
                  · skip
                    have hq : t = m := by have := (nI_leI (by omega) (by omega)).mp h111; omega
                    subst hq
                    refine r_aload_n hK d_M_copy_168 rfl ?_
                    refine r_iload hK d_M_copy_169 rfl ?_
                    refine r_v1 (k' := 1) hK lm_M_60 d_M_copy_171 ⟨_, hM.1⟩ (by decide) (Nat.le_of_ble_eq_true rfl) ?_
                    refine c_M_well hM (fun G171 hM f171 => kc_s ?_)
                    refine r_iret hK rfl rfl d_M_copy_174 ?_
                    refine hQ _ ⟨_, _, _, hM, (hS.sit (g := va_cpy (ri x) (ri y) p q t) hy8 (fun k hk => ?_) (fun i hi hij k hk => ?_)).sfd⟩ (hF.tr f171)
                    · rw [cpg_e]
                      unfold va_cpy
                      by_cases z : q ≤ k ∧ k < q + t
                      · rw [if_pos (by omega), if_pos z, ← ax.2 _ (by omega)]
                        exact congrArg (A 5) (by omega)
                      · rw [if_neg (by omega), if_neg z]
                        exact ay.2 k hk
                    · rw [cpg_e, if_neg (by omega)]
                  · skip
                    have hq : t < m := Nat.not_le.mp (fun q => h111 ((nI_leI (by omega) (by omega)).mpr q))
                    refine r_iload hK d_M_copy_114 rfl ?_
                    refine r_if_eq (tgt := 129) hK d_M_copy_116 rfl (fun h116 => ?_) (fun h116 => ?_)
                    · skip
                      have hpq : ¬ p < q := by rw [hbk] at h116; exact of_decide_eq_false (bI_0.mp h116)
                      obtain ⟨e, he⟩ : ∃ e, e = t := ⟨_, rfl⟩
                      have hst : upd (cpg (A 5) (40 * x + p) (40 * y + q) m (decide (p < q)) t) (40 * y + q + e) (cpg (A 5) (40 * x + p) (40 * y + q) m (decide (p < q)) t (40 * x + p + e)) = cpg (A 5) (40 * x + p) (40 * y + q) m (decide (p < q)) (t + 1) := by rw [decide_eq_false hpq, he]; exact cpg_f (by omega) (by omega) hq hpq
                      subst he
                      refine r_iload hK d_M_copy_129 rfl ?_
                      refine st_i_8_9 hK d_M_copy_131 trivial ?_
                      refine r_aload_n hK d_M_copy_133 rfl ?_
                      refine r_get hK lf_M_23 d_M_copy_134 (hM.1) rfl ?_
                      refine r_bipush hK d_M_copy_137 kb_40 ?_
                      refine r_iload_n hK d_M_copy_139 rfl ?_
                      refine r_imul hK d_M_copy_140 ?_
                      refine r_iload hK d_M_copy_141 rfl ?_
                      refine r_iadd hK d_M_copy_143 ?_
                      refine r_iload hK d_M_copy_144 rfl ?_
                      refine r_iadd hK d_M_copy_146 ?_
                      refine r_aload_n hK d_M_copy_147 rfl ?_
                      refine r_get hK lf_M_23 d_M_copy_148 (hM.1) rfl ?_
                      refine r_bipush hK d_M_copy_151 kb_40 ?_
                      refine r_iload_n hK d_M_copy_153 rfl ?_
                      refine r_imul hK d_M_copy_154 ?_
                      refine r_iload_n hK d_M_copy_155 rfl ?_
                      refine r_iadd hK d_M_copy_156 ?_
                      refine r_iload hK d_M_copy_157 rfl ?_
                      refine r_iadd hK d_M_copy_159 ?_
                      refine g_a5 (j := 40 * x + p + e) hK d_M_copy_160 hM ix41 (by omega) ?_
                      rw [va_up_s]
                      refine s_a5 (j := 40 * y + q + e) hK d_M_copy_161 hM ix41 (by omega) (fun G161 hM f161 => ?_)
                      rw [va_up_s, va_up_2, hst] at hM
                      have hF := hF.tr f161
                      first | refine iN_7_9 hK d_M_copy_162 trivial ?_ | refine ii_7_1_9 hK d_M_copy_162 trivial ?_
                      refine r_goto (tgt := 107) hK d_M_copy_165 rfl ?_
                      exact ih hq _ _ _ hbk hM hF
                    · skip
                      have hpq : p < q := by rw [hbk] at h116; exact of_decide_eq_true (bI_n0.mp h116)
                      obtain ⟨e, he⟩ : ∃ e, e = m - 1 - t := ⟨_, rfl⟩
                      have hst : upd (cpg (A 5) (40 * x + p) (40 * y + q) m (decide (p < q)) t) (40 * y + q + e) (cpg (A 5) (40 * x + p) (40 * y + q) m (decide (p < q)) t (40 * x + p + e)) = cpg (A 5) (40 * x + p) (40 * y + q) m (decide (p < q)) (t + 1) := by rw [decide_eq_true hpq, he]; exact cpg_t (by omega) (by omega) hq hpq
                      refine r_iload hK d_M_copy_119 rfl ?_
                      refine r_iconst hK d_M_copy_121 kc_1 ?_
                      refine r_isub hK d_M_copy_122 ?_
                      rw [show nI m - 1 = nI (m - 1) from pk_sub (b := 1) (by omega)]
                      refine r_iload hK d_M_copy_123 rfl ?_
                      refine r_isub hK d_M_copy_125 ?_
                      rw [show nI (m - 1) - nI t = nI e by rw [he]; exact pk_sub (b := t) (by omega)]
                      refine r_goto (tgt := 131) hK d_M_copy_126 rfl ?_
                      refine st_i_8_9 hK d_M_copy_131 trivial ?_
                      refine r_aload_n hK d_M_copy_133 rfl ?_
                      refine r_get hK lf_M_23 d_M_copy_134 (hM.1) rfl ?_
                      refine r_bipush hK d_M_copy_137 kb_40 ?_
                      refine r_iload_n hK d_M_copy_139 rfl ?_
                      refine r_imul hK d_M_copy_140 ?_
                      refine r_iload hK d_M_copy_141 rfl ?_
                      refine r_iadd hK d_M_copy_143 ?_
                      refine r_iload hK d_M_copy_144 rfl ?_
                      refine r_iadd hK d_M_copy_146 ?_
                      refine r_aload_n hK d_M_copy_147 rfl ?_
                      refine r_get hK lf_M_23 d_M_copy_148 (hM.1) rfl ?_
                      refine r_bipush hK d_M_copy_151 kb_40 ?_
                      refine r_iload_n hK d_M_copy_153 rfl ?_
                      refine r_imul hK d_M_copy_154 ?_
                      refine r_iload_n hK d_M_copy_155 rfl ?_
                      refine r_iadd hK d_M_copy_156 ?_
                      refine r_iload hK d_M_copy_157 rfl ?_
                      refine r_iadd hK d_M_copy_159 ?_
                      refine g_a5 (j := 40 * x + p + e) hK d_M_copy_160 hM ix41 (by omega) ?_
                      rw [va_up_s]
                      refine s_a5 (j := 40 * y + q + e) hK d_M_copy_161 hM ix41 (by omega) (fun G161 hM f161 => ?_)
                      rw [va_up_s, va_up_2, hst] at hM
                      have hF := hF.tr f161
                      first | refine iN_7_9 hK d_M_copy_162 trivial ?_ | refine ii_7_1_9 hK d_M_copy_162 trivial ?_
                      refine r_goto (tgt := 107) hK d_M_copy_165 rfl ?_
                      exact ih hq _ _ _ hbk hM hF
                · skip
                  have hpq : p < q := Nat.not_le.mp (fun z => h94 ((nI_leI hq31 hp31).mpr z))
                  refine r_iconst hK d_M_copy_97 kc_1 ?_
                  refine r_goto (tgt := 102) hK d_M_copy_98 rfl ?_
                  refine st_i_6_9 hK d_M_copy_102 trivial ?_
                  refine r_iconst hK d_M_copy_104 kc_0 ?_
                  refine st_i_7_9 hK d_M_copy_105 trivial ?_
                  suffices L : ∀ t, t ≤ m → ∀ (G1 : gG) (bkv : Int32) (a8 : Option Value), bkv = bI (decide (p < q)) → MV G1 c f w (va_up A 5 (cpg (A 5) (40 * x + p) (40 * y + q) m (decide (p < q)) t)) → Frm G G1 c 10 → K 107 [some (.ref c), some (.int (nI x)), some (.int (nI p)), some (.int (nI y)), some (.int (nI q)), some (.int (nI m)), some (.int bkv), some (.int (nI t)), a8] [] S G1 from L 0 (Nat.zero_le _) _ _ _ (by first | exact (bI_t (decide_eq_true hpq)).symm | exact (bI_f (by simp [hpq])).symm) (by rw [cpg_0, va_up_id]; exact hM) Frm.rf
                  clear hM hpq
                  refine lpN m (fun t ht ih G1 bkv a8 hbk hM hF => ?_)
                  refine r_iload hK d_M_copy_107 rfl ?_
                  refine r_iload hK d_M_copy_109 rfl ?_
                  refine r_icmp_ge (tgt := 168) hK d_M_copy_111 rfl (fun h111 => ?_) (fun h111 => ?_)
                  · skip
                    have hq : t = m := by have := (nI_leI (by omega) (by omega)).mp h111; omega
                    subst hq
                    refine r_aload_n hK d_M_copy_168 rfl ?_
                    refine r_iload hK d_M_copy_169 rfl ?_
                    refine r_v1 (k' := 1) hK lm_M_60 d_M_copy_171 ⟨_, hM.1⟩ (by decide) (Nat.le_of_ble_eq_true rfl) ?_
                    refine c_M_well hM (fun G171 hM f171 => kc_s ?_)
                    refine r_iret hK rfl rfl d_M_copy_174 ?_
                    refine hQ _ ⟨_, _, _, hM, (hS.sit (g := va_cpy (ri x) (ri y) p q t) hy8 (fun k hk => ?_) (fun i hi hij k hk => ?_)).sfd⟩ (hF.tr f171)
                    · rw [cpg_e]
                      unfold va_cpy
                      by_cases z : q ≤ k ∧ k < q + t
                      · rw [if_pos (by omega), if_pos z, ← ax.2 _ (by omega)]
                        exact congrArg (A 5) (by omega)
                      · rw [if_neg (by omega), if_neg z]
                        exact ay.2 k hk
                    · rw [cpg_e, if_neg (by omega)]
                  · skip
                    have hq : t < m := Nat.not_le.mp (fun q => h111 ((nI_leI (by omega) (by omega)).mpr q))
                    refine r_iload hK d_M_copy_114 rfl ?_
                    refine r_if_eq (tgt := 129) hK d_M_copy_116 rfl (fun h116 => ?_) (fun h116 => ?_)
                    · skip
                      have hpq : ¬ p < q := by rw [hbk] at h116; exact of_decide_eq_false (bI_0.mp h116)
                      obtain ⟨e, he⟩ : ∃ e, e = t := ⟨_, rfl⟩
                      have hst : upd (cpg (A 5) (40 * x + p) (40 * y + q) m (decide (p < q)) t) (40 * y + q + e) (cpg (A 5) (40 * x + p) (40 * y + q) m (decide (p < q)) t (40 * x + p + e)) = cpg (A 5) (40 * x + p) (40 * y + q) m (decide (p < q)) (t + 1) := by rw [decide_eq_false hpq, he]; exact cpg_f (by omega) (by omega) hq hpq
                      subst he
                      refine r_iload hK d_M_copy_129 rfl ?_
                      refine st_i_8_9 hK d_M_copy_131 trivial ?_
                      refine r_aload_n hK d_M_copy_133 rfl ?_
                      refine r_get hK lf_M_23 d_M_copy_134 (hM.1) rfl ?_
                      refine r_bipush hK d_M_copy_137 kb_40 ?_
                      refine r_iload_n hK d_M_copy_139 rfl ?_
                      refine r_imul hK d_M_copy_140 ?_
                      refine r_iload hK d_M_copy_141 rfl ?_
                      refine r_iadd hK d_M_copy_143 ?_
                      refine r_iload hK d_M_copy_144 rfl ?_
                      refine r_iadd hK d_M_copy_146 ?_
                      refine r_aload_n hK d_M_copy_147 rfl ?_
                      refine r_get hK lf_M_23 d_M_copy_148 (hM.1) rfl ?_
                      refine r_bipush hK d_M_copy_151 kb_40 ?_
                      refine r_iload_n hK d_M_copy_153 rfl ?_
                      refine r_imul hK d_M_copy_154 ?_
                      refine r_iload_n hK d_M_copy_155 rfl ?_
                      refine r_iadd hK d_M_copy_156 ?_
                      refine r_iload hK d_M_copy_157 rfl ?_
                      refine r_iadd hK d_M_copy_159 ?_
                      refine g_a5 (j := 40 * x + p + e) hK d_M_copy_160 hM ix41 (by omega) ?_
                      rw [va_up_s]
                      refine s_a5 (j := 40 * y + q + e) hK d_M_copy_161 hM ix41 (by omega) (fun G161 hM f161 => ?_)
                      rw [va_up_s, va_up_2, hst] at hM
                      have hF := hF.tr f161
                      first | refine iN_7_9 hK d_M_copy_162 trivial ?_ | refine ii_7_1_9 hK d_M_copy_162 trivial ?_
                      refine r_goto (tgt := 107) hK d_M_copy_165 rfl ?_
                      exact ih hq _ _ _ hbk hM hF
                    · skip
                      have hpq : p < q := by rw [hbk] at h116; exact of_decide_eq_true (bI_n0.mp h116)
                      obtain ⟨e, he⟩ : ∃ e, e = m - 1 - t := ⟨_, rfl⟩
                      have hst : upd (cpg (A 5) (40 * x + p) (40 * y + q) m (decide (p < q)) t) (40 * y + q + e) (cpg (A 5) (40 * x + p) (40 * y + q) m (decide (p < q)) t (40 * x + p + e)) = cpg (A 5) (40 * x + p) (40 * y + q) m (decide (p < q)) (t + 1) := by rw [decide_eq_true hpq, he]; exact cpg_t (by omega) (by omega) hq hpq
                      refine r_iload hK d_M_copy_119 rfl ?_
                      refine r_iconst hK d_M_copy_121 kc_1 ?_
                      refine r_isub hK d_M_copy_122 ?_
                      rw [show nI m - 1 = nI (m - 1) from pk_sub (b := 1) (by omega)]
                      refine r_iload hK d_M_copy_123 rfl ?_
                      refine r_isub hK d_M_copy_125 ?_
                      rw [show nI (m - 1) - nI t = nI e by rw [he]; exact pk_sub (b := t) (by omega)]
                      refine r_goto (tgt := 131) hK d_M_copy_126 rfl ?_
                      refine st_i_8_9 hK d_M_copy_131 trivial ?_
                      refine r_aload_n hK d_M_copy_133 rfl ?_
                      refine r_get hK lf_M_23 d_M_copy_134 (hM.1) rfl ?_
                      refine r_bipush hK d_M_copy_137 kb_40 ?_
                      refine r_iload_n hK d_M_copy_139 rfl ?_
                      refine r_imul hK d_M_copy_140 ?_
                      refine r_iload hK d_M_copy_141 rfl ?_
                      refine r_iadd hK d_M_copy_143 ?_
                      refine r_iload hK d_M_copy_144 rfl ?_
                      refine r_iadd hK d_M_copy_146 ?_
                      refine r_aload_n hK d_M_copy_147 rfl ?_
                      refine r_get hK lf_M_23 d_M_copy_148 (hM.1) rfl ?_
                      refine r_bipush hK d_M_copy_151 kb_40 ?_
                      refine r_iload_n hK d_M_copy_153 rfl ?_
                      refine r_imul hK d_M_copy_154 ?_
                      refine r_iload_n hK d_M_copy_155 rfl ?_
                      refine r_iadd hK d_M_copy_156 ?_
                      refine r_iload hK d_M_copy_157 rfl ?_
                      refine r_iadd hK d_M_copy_159 ?_
                      refine g_a5 (j := 40 * x + p + e) hK d_M_copy_160 hM ix41 (by omega) ?_
                      rw [va_up_s]
                      refine s_a5 (j := 40 * y + q + e) hK d_M_copy_161 hM ix41 (by omega) (fun G161 hM f161 => ?_)
                      rw [va_up_s, va_up_2, hst] at hM
                      have hF := hF.tr f161
                      first | refine iN_7_9 hK d_M_copy_162 trivial ?_ | refine ii_7_1_9 hK d_M_copy_162 trivial ?_
                      refine r_goto (tgt := 107) hK d_M_copy_165 rfl ?_
                      exact ih hq _ _ _ hbk hM hF
              · skip
                have he := bI_0.mp h82
                rw [if_neg (by simp [he])] at hQ
                refine r_aload_n hK d_M_copy_85 rfl ?_
                refine r_iconst hK d_M_copy_86 kc_2 ?_
                refine r_v1 (k' := 1) hK lm_M_56 d_M_copy_87 ⟨_, hM.1⟩ (by decide) (Nat.le_of_ble_eq_true rfl) ?_
                refine c_M_find hM (fun G87 hM f87 => kc_s ?_)
                refine r_iret hK rfl rfl d_M_copy_90 ?_
                exact hQ _ ⟨_, _, _, hM, hS.sfd⟩ f87
          · skip
            rw [if_neg h53] at hQ
            refine r_aload_n hK d_M_copy_56 rfl ?_
            refine r_iconst hK d_M_copy_57 kc_5 ?_
            refine r_v1 (k' := 1) hK lm_M_56 d_M_copy_58 ⟨_, hM.1⟩ (by decide) (Nat.le_of_ble_eq_true rfl) ?_
            refine c_M_find hM (fun G58 hM f58 => kc_s ?_)
            refine r_iret hK rfl rfl d_M_copy_61 ?_
            exact hQ _ ⟨_, _, _, hM, hS.sfd⟩ f58
        · skip
          have hp : rp y = false := hy.1.mp (Int32.not_le.mp h32)
          rw [if_neg (by simp [hp])] at hQ
          refine r_aload_n hK d_M_copy_35 rfl ?_
          refine r_iconst hK d_M_copy_36 kc_1 ?_
          refine r_v1 (k' := 1) hK lm_M_56 d_M_copy_37 ⟨_, hM.1⟩ (by decide) (Nat.le_of_ble_eq_true rfl) ?_
          refine c_M_find hM (fun G37 hM f37 => kc_s ?_)
          refine r_iret hK rfl rfl d_M_copy_40 ?_
          exact hQ _ ⟨_, _, _, hM, hS.sfd⟩ f37
    · skip
      have hc := bI_0.mp h11
      rw [opCopy, if_neg (by simp [hc])] at hQ
      refine r_ldc hK d_M_copy_14 lc_M_55 ?_
      refine r_iret hK rfl rfl d_M_copy_16 ?_
      exact hQ _ ⟨_, _, _, hM, hS⟩ Frm.rf
theorem c_M_count {E : gX} {S : Nat} {G : gG} {Q : Option Value → gG → Prop} {c : Nat} {f w : Nat → Int32} {A : Nat → Nat → Int32} {st : Bool} {nw : Nat → Int32} {ac : Nat → Nat → Int32} {na : Nat} {ik : Nat → Bool} {im : Nat → Nat → Int32} {rp : Nat → Bool} {rl : Nat → Int32} {rs : Nat → Nat} {ri : Nat → Nat → Int32} {tp : Nat → Int32} {tn : Nat} {lf : Int32} {fd : Int32} {tr : Nat → Int32} {un : Nat} (hM : MV G c f w A) (hS : MS f w A (st, nw, ac, na, ik, im, rp, rl, rs, ri, tp, tn, lf, fd, tr, un)) (hI : MI (st, nw, ac, na, ik, im, rp, rl, rs, ri, tp, tn, lf, fd, tr, un)) {q : Int32} (hQ : ∀ G' : gG, MR G' c (opCount (st, nw, ac, na, ik, im, rp, rl, rs, ri, tp, tn, lf, fd, tr, un) q).2 → Frm G G' c 10 → Q (some (.int (opCount (st, nw, ac, na, ik, im, rp, rl, rs, ri, tp, tn, lf, fd, tr, un) q).1)) G') : Runs E y_M_count 3 0 S [.ref c, .int q] G Q := by
  refine Runs.of "ClockPostModel" [some (.ref c), some (.int q), none, none] cw_M_count (by decide) (by decide +kernel) rfl (Nat.le_of_ble_eq_true rfl) rfl (fun K hK => ?_)
  obtain ⟨w0, hw0⟩ : ∃ x, w = putT x 0 nw := ⟨_, hS.t0⟩
  subst hw0
  obtain ⟨n, hV⟩ := hI.1
  have h6 := hV.1
  have hz0 : putT w0 0 nw 0 = nI n := (hS.2.2.2.2.2.2.1 0 (by omega)).trans hV.2.1
  refine r_iconst hK d_M_count_0 kc_0 ?_
  refine st_in_2_4 hK d_M_count_1 trivial ?_
  refine r_iload_n hK d_M_count_2 rfl ?_
  refine r_table (td := 147) hK d_M_count_3 (by decide +kernel) rfl (fun h3 => ?_) ⟨fun h3 => ?_, fun h3 => ?_, fun h3 => ?_, fun h3 => ?_, fun h3 => ?_, fun h3 => ?_, fun h3 => ?_, fun h3 => ?_, fun h3 => ?_, fun h3 => ?_, trivial⟩
  · skip
    have hd0 : ¬ q = 0 := fun e => by rw [e] at h3; revert h3; decide
    have hd1 : ¬ q = 1 := fun e => by rw [e] at h3; revert h3; decide
    have hd2 : ¬ q = 2 := fun e => by rw [e] at h3; revert h3; decide
    have hd3 : ¬ q = 3 := fun e => by rw [e] at h3; revert h3; decide
    have hd4 : ¬ q = 4 := fun e => by rw [e] at h3; revert h3; decide
    have hd5 : ¬ q = 5 := fun e => by rw [e] at h3; revert h3; decide
    have hd6 : ¬ q = 6 := fun e => by rw [e] at h3; revert h3; decide
    have hd7 : ¬ q = 7 := fun e => by rw [e] at h3; revert h3; decide
    have hd8 : ¬ q = 8 := fun e => by rw [e] at h3; revert h3; decide
    have hd9 : ¬ q = 9 := fun e => by rw [e] at h3; revert h3; decide
    rw [opCount, if_neg hd0, if_neg hd1, if_neg hd2, if_neg hd3, if_neg hd4, if_neg hd5, if_neg hd6, if_neg hd7, if_neg hd8, if_neg hd9] at hQ
    refine r_ldc hK d_M_count_147 lc_M_55 ?_
    refine r_iret hK rfl rfl d_M_count_149 ?_
    exact hQ _ ⟨_, _, _, hM, hS⟩ Frm.rf
  · skip
    show K 56 _ _ _ _
    have hw : q = 0 := toI h3
    subst hw
    simp only [opCount, if_false, if_true] at hQ
    refine r_iconst hK d_M_count_56 kc_0 ?_
    refine st_in_3_4 hK d_M_count_57 trivial ?_
    suffices L : ∀ j, j ≤ 8 → K 58 [some (.ref c), some (.int 0), some (.int (rowN rp j)), some (.int (nI j))] [] S G from L 0 (Nat.zero_le _)
    refine lpN 8 (fun j hj ih => ?_)
    refine r_iload_n hK d_M_count_58 rfl ?_
    refine r_bipush hK d_M_count_59 kb_8 ?_
    refine r_icmp_ge (tgt := 87) hK d_M_count_61 rfl (fun h61 => ?_) (fun h61 => ?_)
    · skip
      have hq : j = 8 := by have := (cle (n := 8) (by decide) (by omega)).mp h61; omega
      subst hq
      refine r_iload_n hK d_M_count_87 rfl ?_
      refine r_iret hK rfl rfl d_M_count_88 ?_
      exact hQ _ ⟨_, _, _, hM, hS⟩ Frm.rf
    · skip
      have hq : j < 8 := Nat.not_le.mp (fun q => h61 ((cle (n := 8) (by decide) (by omega)).mpr q))
      have hz := hS.sz1 hq (hI.2.2.2.2.1 j hq)
      refine r_iload_n hK d_M_count_64 rfl ?_
      refine r_aload_n hK d_M_count_65 rfl ?_
      refine r_get hK lf_M_20 d_M_count_66 (hM.1) rfl ?_
      refine r_iload_n hK d_M_count_69 rfl ?_
      refine g_a4 (j := j) hK d_M_count_70 hM (rfl) (by omega) ?_
      refine r_if_ge (tgt := 78) hK d_M_count_71 rfl (fun h71 => ?_) (fun h71 => ?_)
      · skip
        have hp : rp j = true := by
          cases e : rp j with
          | true => rfl
          | false => exact absurd (hz.1.mpr e) (Int32.not_lt.mpr h71)
        have e : rowN rp (j + 1) = rowN rp j + 1 := by rw [rowN, hp]; rfl
        rw [e] at ih
        refine r_iconst hK d_M_count_78 kc_1 ?_
        refine r_iadd hK d_M_count_79 ?_
        refine st_in_2_4 hK d_M_count_80 trivial ?_
        first | refine iN_3_4 hK d_M_count_81 trivial ?_ | refine ii_3_1_4 hK d_M_count_81 trivial ?_
        refine r_goto (tgt := 58) hK d_M_count_84 rfl ?_
        exact ih hq
      · skip
        have hp : rp j = false := hz.1.mp (Int32.not_le.mp h71)
        have e : rowN rp (j + 1) = rowN rp j + 0 := by rw [rowN, hp]; rfl
        rw [e] at ih
        refine r_iconst hK d_M_count_74 kc_0 ?_
        refine r_goto (tgt := 79) hK d_M_count_75 rfl ?_
        refine r_iadd hK d_M_count_79 ?_
        refine st_in_2_4 hK d_M_count_80 trivial ?_
        first | refine iN_3_4 hK d_M_count_81 trivial ?_ | refine ii_3_1_4 hK d_M_count_81 trivial ?_
        refine r_goto (tgt := 58) hK d_M_count_84 rfl ?_
        exact ih hq
  · skip
    show K 89 _ _ _ _
    have hw : q = 1 := toI h3
    subst hw
    simp only [opCount, show ¬ (1 : Int32) = 0 by decide, if_false, if_true] at hQ
    refine r_aload_n hK d_M_count_89 rfl ?_
    refine r_get hK lf_M_7 d_M_count_90 (hM.1) rfl ?_
    refine r_iconst hK d_M_count_93 kc_0 ?_
    refine g_tw (B := 0) (j := 0) hK d_M_count_94 hM ((show _ = nI (0 + 0) from rfl)) (by omega) (by omega) ?_
    refine r_iret hK rfl rfl d_M_count_95 ?_
    exact hQ _ ⟨_, _, _, hM, hS⟩ Frm.rf
  · skip
    show K 96 _ _ _ _
    have hw : q = 2 := toI h3
    subst hw
    simp only [opCount, show ¬ (2 : Int32) = 0 by decide, show ¬ (2 : Int32) = 1 by decide, if_false, if_true] at hQ
    refine r_aload_n hK d_M_count_96 rfl ?_
    refine r_get hK lf_M_7 d_M_count_97 (hM.1) rfl ?_
    refine r_iconst hK d_M_count_100 kc_2 ?_
    refine g_tw (B := 0) (j := 2) hK d_M_count_101 hM ((show _ = nI (0 + 2) from rfl)) (by omega) (by omega) ?_
    refine r_iret hK rfl rfl d_M_count_102 ?_
    exact hQ _ ⟨_, _, _, hM, hS⟩ Frm.rf
  · skip
    show K 103 _ _ _ _
    have hw : q = 3 := toI h3
    subst hw
    simp only [opCount, show ¬ (3 : Int32) = 0 by decide, show ¬ (3 : Int32) = 1 by decide, show ¬ (3 : Int32) = 2 by decide, if_false, if_true] at hQ
    refine r_aload_n hK d_M_count_103 rfl ?_
    refine r_get hK lf_M_7 d_M_count_104 (hM.1) rfl ?_
    refine r_iconst hK d_M_count_107 kc_3 ?_
    refine g_tw (B := 0) (j := 3) hK d_M_count_108 hM ((show _ = nI (0 + 3) from rfl)) (by omega) (by omega) ?_
    refine r_iret hK rfl rfl d_M_count_109 ?_
    exact hQ _ ⟨_, _, _, hM, hS⟩ Frm.rf
  · skip
    show K 110 _ _ _ _
    have hw : q = 4 := toI h3
    subst hw
    simp only [opCount, show ¬ (4 : Int32) = 0 by decide, show ¬ (4 : Int32) = 1 by decide, show ¬ (4 : Int32) = 2 by decide, show ¬ (4 : Int32) = 3 by decide, if_false, if_true] at hQ
    refine r_aload_n hK d_M_count_110 rfl ?_
    refine r_iconst hK d_M_count_111 kc_0 ?_
    refine r_v1 (k' := 2) hK lm_M_151 d_M_count_112 ⟨_, hM.1⟩ (by decide) (Nat.le_of_ble_eq_true rfl) ?_
    refine c_M_thickness (B := 0) hM (by omega) hV (kc_s ?_)
    refine r_iret hK rfl rfl d_M_count_115 ?_
    exact hQ _ ⟨_, _, _, hM, hS⟩ Frm.rf
  · skip
    show K 116 _ _ _ _
    have hw : q = 5 := toI h3
    subst hw
    simp only [opCount, show ¬ (5 : Int32) = 0 by decide, show ¬ (5 : Int32) = 1 by decide, show ¬ (5 : Int32) = 2 by decide, show ¬ (5 : Int32) = 3 by decide, show ¬ (5 : Int32) = 4 by decide, if_false, if_true] at hQ
    refine r_aload_n hK d_M_count_116 rfl ?_
    refine r_get hK lf_M_7 d_M_count_117 (hM.1) rfl ?_
    refine r_iconst hK d_M_count_120 kc_4 ?_
    refine g_tw (B := 0) (j := 4) hK d_M_count_121 hM ((show _ = nI (0 + 4) from rfl)) (by omega) (by omega) ?_
    refine r_iret hK rfl rfl d_M_count_122 ?_
    exact hQ _ ⟨_, _, _, hM, hS⟩ Frm.rf
  · skip
    show K 123 _ _ _ _
    have hw : q = 6 := toI h3
    subst hw
    simp only [opCount, show ¬ (6 : Int32) = 0 by decide, show ¬ (6 : Int32) = 1 by decide, show ¬ (6 : Int32) = 2 by decide, show ¬ (6 : Int32) = 3 by decide, show ¬ (6 : Int32) = 4 by decide, show ¬ (6 : Int32) = 5 by decide, if_false, if_true] at hQ
    refine r_aload_n hK d_M_count_123 rfl ?_
    refine r_get hK lf_M_134 d_M_count_124 (hM.1) rfl ?_
    rw [hS.2.1]
    refine r_iret hK rfl rfl d_M_count_127 ?_
    exact hQ _ ⟨_, _, _, hM, hS⟩ Frm.rf
  · skip
    show K 128 _ _ _ _
    have hw : q = 7 := toI h3
    subst hw
    simp only [opCount, show ¬ (7 : Int32) = 0 by decide, show ¬ (7 : Int32) = 1 by decide, show ¬ (7 : Int32) = 2 by decide, show ¬ (7 : Int32) = 3 by decide, show ¬ (7 : Int32) = 4 by decide, show ¬ (7 : Int32) = 5 by decide, show ¬ (7 : Int32) = 6 by decide, if_false, if_true] at hQ
    refine r_aload_n hK d_M_count_128 rfl ?_
    refine r_get hK lf_M_73 d_M_count_129 (hM.1) rfl ?_
    rw [hS.2.2.1]
    refine r_iret hK rfl rfl d_M_count_132 ?_
    exact hQ _ ⟨_, _, _, hM, hS⟩ Frm.rf
  · skip
    show K 133 _ _ _ _
    have hw : q = 8 := toI h3
    subst hw
    simp only [opCount, show ¬ (8 : Int32) = 0 by decide, show ¬ (8 : Int32) = 1 by decide, show ¬ (8 : Int32) = 2 by decide, show ¬ (8 : Int32) = 3 by decide, show ¬ (8 : Int32) = 4 by decide, show ¬ (8 : Int32) = 5 by decide, show ¬ (8 : Int32) = 6 by decide, show ¬ (8 : Int32) = 7 by decide, if_false, if_true] at hQ
    refine r_aload_n hK d_M_count_133 rfl ?_
    refine r_get hK lf_M_7 d_M_count_134 (hM.1) rfl ?_
    refine r_iconst hK d_M_count_137 kc_5 ?_
    refine g_tw (B := 0) (j := 5) hK d_M_count_138 hM ((show _ = nI (0 + 5) from rfl)) (by omega) (by omega) ?_
    refine r_iret hK rfl rfl d_M_count_139 ?_
    exact hQ _ ⟨_, _, _, hM, hS⟩ Frm.rf
  · skip
    show K 140 _ _ _ _
    have hw : q = 9 := toI h3
    subst hw
    simp only [opCount, show ¬ (9 : Int32) = 0 by decide, show ¬ (9 : Int32) = 1 by decide, show ¬ (9 : Int32) = 2 by decide, show ¬ (9 : Int32) = 3 by decide, show ¬ (9 : Int32) = 4 by decide, show ¬ (9 : Int32) = 5 by decide, show ¬ (9 : Int32) = 6 by decide, show ¬ (9 : Int32) = 7 by decide, show ¬ (9 : Int32) = 8 by decide, if_false, if_true] at hQ
    refine r_aload_n hK d_M_count_140 rfl ?_
    refine r_get hK lf_M_7 d_M_count_141 (hM.1) rfl ?_
    refine r_iconst hK d_M_count_144 kc_1 ?_
    refine g_tw (B := 0) (j := 1) hK d_M_count_145 hM ((show _ = nI (0 + 1) from rfl)) (by omega) (by omega) ?_
    refine r_iret hK rfl rfl d_M_count_146 ?_
    exact hQ _ ⟨_, _, _, hM, hS⟩ Frm.rf
