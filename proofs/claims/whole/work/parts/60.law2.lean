theorem XV.frm {G G' : gG} {b a n : Nat} {st : Bool} {nw : Nat → Int32} {ac : Nat → Nat → Int32} {na : Nat} {ik : Nat → Bool} {im : Nat → Nat → Int32} {rp : Nat → Bool} {rl : Nat → Int32} {rs : Nat → Nat} {ri : Nat → Nat → Int32} {tp : Nat → Int32} {tn : Nat} {lf : Int32} {fd : Int32} {tr : Nat → Int32} {un : Nat} (h : XV G b (st, nw, ac, na, ik, im, rp, rl, rs, ri, tp, tn, lf, fd, tr, un)) (hF : Frm G G' a n) (hd : b + 309 ≤ a ∨ a + n ≤ b) : XV G' b (st, nw, ac, na, ik, im, rp, rl, rs, ri, tp, tn, lf, fd, tr, un) :=
  ⟨h.1.frm hF (by omega) (by omega) (by omega), h.2.1.frm hF (by omega), HE.frm h.2.2.1 hF (by omega), HJ.frm h.2.2.2.1 hF (by omega), h.2.2.2.2.1.frm hF (by omega), h.2.2.2.2.2.1.frm hF (by omega), TX.frm h.2.2.2.2.2.2.1 hF (by omega), h.2.2.2.2.2.2.2.1.frm hF (by omega), h.2.2.2.2.2.2.2.2.frm hF (by omega)⟩
theorem XV.fr {G G' : gG} {b a n : Nat} {s : gS} (h : XV G b s) (hF : Frm G G' a n) (hd : b + 309 ≤ a ∨ a + n ≤ b) : XV G' b s := by
  obtain ⟨st, nw, ac, na, ik, im, rp, rl, rs, ri, tp, tn, lf, fd, tr, un⟩ := s
  exact XV.frm h hF hd
theorem MR.fr {G G' : gG} {c a n : Nat} {s : gS} (h : MR G c s) (hF : Frm G G' a n) (hd : c + 10 ≤ a ∨ a + n ≤ c) : MR G' c s := by
  obtain ⟨f, w, A, h1, h2⟩ := h
  exact ⟨f, w, A, h1.frm hF hd, h2⟩
theorem c_X_houseT {E : gX} {S : Nat} {G : gG} {Q : Option Value → gG → Prop} {b : Nat} {st : Bool} {nw : Nat → Int32} {ac : Nat → Nat → Int32} {na : Nat} {ik : Nat → Bool} {im : Nat → Nat → Int32} {rp : Nat → Bool} {rl : Nat → Int32} {rs : Nat → Nat} {ri : Nat → Nat → Int32} {tp : Nat → Int32} {tn : Nat} {lf : Int32} {fd : Int32} {tr : Nat → Int32} {un : Nat} {t : Int32 × gS} (hX : XV G b (st, nw, ac, na, ik, im, rp, rl, rs, ri, tp, tn, lf, fd, tr, un)) (hI : XPI (st, nw, ac, na, ik, im, rp, rl, rs, ri, tp, tn, lf, fd, tr, un)) (hh : opHouse (st, nw, ac, na, ik, im, rp, rl, rs, ri, tp, tn, lf, fd, tr, un) = t) (hQ : ∀ G' : gG, XV G' b t.2 → Frm G G' b 309 → Q (some (.int t.1)) G') : Runs E y_X_house 7 0 S [.ref b] G Q := by
  subst hh
  exact c_X_house hX hI hQ
theorem c_M_houseT {E : gX} {S : Nat} {G : gG} {Q : Option Value → gG → Prop} {c : Nat} {f w : Nat → Int32} {A : Nat → Nat → Int32} {st : Bool} {nw : Nat → Int32} {ac : Nat → Nat → Int32} {na : Nat} {ik : Nat → Bool} {im : Nat → Nat → Int32} {rp : Nat → Bool} {rl : Nat → Int32} {rs : Nat → Nat} {ri : Nat → Nat → Int32} {tp : Nat → Int32} {tn : Nat} {lf : Int32} {fd : Int32} {tr : Nat → Int32} {un : Nat} {t : Int32 × gS} (hM : MV G c f w A) (hS : MS f w A (st, nw, ac, na, ik, im, rp, rl, rs, ri, tp, tn, lf, fd, tr, un)) (hI : MI (st, nw, ac, na, ik, im, rp, rl, rs, ri, tp, tn, lf, fd, tr, un)) (hh : opHouse (st, nw, ac, na, ik, im, rp, rl, rs, ri, tp, tn, lf, fd, tr, un) = t) (hQ : ∀ G' : gG, MR G' c t.2 → Frm G G' c 10 → Q (some (.int t.1)) G') : Runs E y_M_house 6 0 S [.ref c] G Q := by
  subst hh
  exact c_M_house hM hS hI hQ
theorem lawc_0 {E : gX} {sz0 sz L b x c i : Nat} {xs : Nat → Int32} {G0 G : gG} {K : Nat → List (Option Value) → List Value → Nat → gG → Prop} (hK : Cw E "ClockPostLaw" code ret 4 sz0 G0 b L xs K) {st : Bool} {nw : Nat → Int32} {ac : Nat → Nat → Int32} {na : Nat} {ik : Nat → Bool} {im : Nat → Nat → Int32} {rp : Nat → Bool} {rl : Nat → Int32} {rs : Nat → Nat} {ri : Nat → Nat → Int32} {tp : Nat → Int32} {tn : Nat} {lf : Int32} {fd : Int32} {tr : Nat → Int32} {un : Nat} (hX : XV G x (st, nw, ac, na, ik, im, rp, rl, rs, ri, tp, tn, lf, fd, tr, un)) (hM : MR G c (st, nw, ac, na, ik, im, rp, rl, rs, ri, tp, tn, lf, fd, tr, un)) (hJ : JI (st, nw, ac, na, ik, im, rp, rl, rs, ri, tp, tn, lf, fd, tr, un)) (hd : x + 309 ≤ c ∨ c + 10 ≤ x) (hz : sz ≤ sz0 + 6000) (hi : i + 5 < L) (hL : L ≤ 384) (kk : ∀ (G' : gG) (s' : gS), XV G' x s' → MR G' c s' → JI s' → K 1132 [some (.ref b), some (.ref x), some (.ref c), some (.int (nI i))] [] sz G') : K 176 [some (.ref b), some (.ref x), some (.ref c), some (.int (nI i))] [] sz G := by
  obtain ⟨f, w, A, hV, hS⟩ := hM
  refine w_aload_n hK d_W_law_176 rfl ?_
  refine w_aload_n hK d_W_law_177 rfl ?_
  refine w_iload_n hK d_W_law_178 rfl ?_
  refine w_iconst hK d_W_law_179 kc_1 ?_
  refine w_iadd hK d_W_law_180 ?_
  rw [ix1 (k := 1) (c := 1) rfl]
  refine w_sld hK (by omega) (by omega) d_W_law_181 ?_
  refine w_aload_n hK d_W_law_182 rfl ?_
  refine w_iload_n hK d_W_law_183 rfl ?_
  refine w_iconst hK d_W_law_184 kc_2 ?_
  refine w_iadd hK d_W_law_185 ?_
  rw [ix1 (k := 2) (c := 2) rfl]
  refine w_sld hK (by omega) (by omega) d_W_law_186 ?_
  refine w_aload_n hK d_W_law_187 rfl ?_
  refine w_iload_n hK d_W_law_188 rfl ?_
  refine w_iconst hK d_W_law_189 kc_3 ?_
  refine w_iadd hK d_W_law_190 ?_
  rw [ix1 (k := 3) (c := 3) rfl]
  refine w_sld hK (by omega) (by omega) d_W_law_191 ?_
  refine w_v3 (k' := 3) hK lm_W_13 d_W_law_192 ⟨_, hX.1.1⟩ (by decide) hz (Nat.le_of_ble_eq_true rfl) ?_
  refine c_X_row hX hJ.x (fun G1 hX1 f1 => kc_s ?_)
  have hV1 := hV.frm f1 (by omega)
  refine w_aload_n hK d_W_law_195 rfl ?_
  refine w_aload_n hK d_W_law_196 rfl ?_
  refine w_iload_n hK d_W_law_197 rfl ?_
  refine w_iconst hK d_W_law_198 kc_1 ?_
  refine w_iadd hK d_W_law_199 ?_
  rw [ix1 (k := 1) (c := 1) rfl]
  refine w_sld hK (by omega) (by omega) d_W_law_200 ?_
  refine w_aload_n hK d_W_law_201 rfl ?_
  refine w_iload_n hK d_W_law_202 rfl ?_
  refine w_iconst hK d_W_law_203 kc_2 ?_
  refine w_iadd hK d_W_law_204 ?_
  rw [ix1 (k := 2) (c := 2) rfl]
  refine w_sld hK (by omega) (by omega) d_W_law_205 ?_
  refine w_aload_n hK d_W_law_206 rfl ?_
  refine w_iload_n hK d_W_law_207 rfl ?_
  refine w_iconst hK d_W_law_208 kc_3 ?_
  refine w_iadd hK d_W_law_209 ?_
  rw [ix1 (k := 3) (c := 3) rfl]
  refine w_sld hK (by omega) (by omega) d_W_law_210 ?_
  refine w_v3 (k' := 3) hK lm_W_17 d_W_law_211 ⟨_, hV1.1⟩ (by decide) hz (Nat.le_of_ble_eq_true rfl) ?_
  refine c_M_row hV1 hS hJ.m (fun G2 hM2 f2 => kc_s ?_)
  refine w_icmp_eq (tgt := 1132) hK d_W_law_214 rfl (fun _ => ?_) (fun h => absurd rfl h)
  exact kk _ _ (hX1.fr f2 (by omega)) hM2 (J_row hJ)
theorem lawc_1 {E : gX} {sz0 sz L b x c i : Nat} {xs : Nat → Int32} {G0 G : gG} {K : Nat → List (Option Value) → List Value → Nat → gG → Prop} (hK : Cw E "ClockPostLaw" code ret 4 sz0 G0 b L xs K) {st : Bool} {nw : Nat → Int32} {ac : Nat → Nat → Int32} {na : Nat} {ik : Nat → Bool} {im : Nat → Nat → Int32} {rp : Nat → Bool} {rl : Nat → Int32} {rs : Nat → Nat} {ri : Nat → Nat → Int32} {tp : Nat → Int32} {tn : Nat} {lf : Int32} {fd : Int32} {tr : Nat → Int32} {un : Nat} (hX : XV G x (st, nw, ac, na, ik, im, rp, rl, rs, ri, tp, tn, lf, fd, tr, un)) (hM : MR G c (st, nw, ac, na, ik, im, rp, rl, rs, ri, tp, tn, lf, fd, tr, un)) (hJ : JI (st, nw, ac, na, ik, im, rp, rl, rs, ri, tp, tn, lf, fd, tr, un)) (hd : x + 309 ≤ c ∨ c + 10 ≤ x) (hz : sz ≤ sz0 + 6000) (hi : i + 5 < L) (hL : L ≤ 384) (kk : ∀ (G' : gG) (s' : gS), XV G' x s' → MR G' c s' → JI s' → K 1132 [some (.ref b), some (.ref x), some (.ref c), some (.int (nI i))] [] sz G') : K 219 [some (.ref b), some (.ref x), some (.ref c), some (.int (nI i))] [] sz G := by
  obtain ⟨f, w, A, hV, hS⟩ := hM
  refine w_aload_n hK d_W_law_219 rfl ?_
  refine w_aload_n hK d_W_law_220 rfl ?_
  refine w_iload_n hK d_W_law_221 rfl ?_
  refine w_iconst hK d_W_law_222 kc_1 ?_
  refine w_iadd hK d_W_law_223 ?_
  rw [ix1 (k := 1) (c := 1) rfl]
  refine w_sld hK (by omega) (by omega) d_W_law_224 ?_
  refine w_aload_n hK d_W_law_225 rfl ?_
  refine w_iload_n hK d_W_law_226 rfl ?_
  refine w_iconst hK d_W_law_227 kc_2 ?_
  refine w_iadd hK d_W_law_228 ?_
  rw [ix1 (k := 2) (c := 2) rfl]
  refine w_sld hK (by omega) (by omega) d_W_law_229 ?_
  refine w_aload_n hK d_W_law_230 rfl ?_
  refine w_iload_n hK d_W_law_231 rfl ?_
  refine w_iconst hK d_W_law_232 kc_3 ?_
  refine w_iadd hK d_W_law_233 ?_
  rw [ix1 (k := 3) (c := 3) rfl]
  refine w_sld hK (by omega) (by omega) d_W_law_234 ?_
  refine w_v3 (k' := 3) hK lm_W_18 d_W_law_235 ⟨_, hX.1.1⟩ (by decide) hz (Nat.le_of_ble_eq_true rfl) ?_
  refine c_X_set hX hJ.x (fun G1 hX1 f1 => kc_s ?_)
  have hV1 := hV.frm f1 (by omega)
  refine w_aload_n hK d_W_law_238 rfl ?_
  refine w_aload_n hK d_W_law_239 rfl ?_
  refine w_iload_n hK d_W_law_240 rfl ?_
  refine w_iconst hK d_W_law_241 kc_1 ?_
  refine w_iadd hK d_W_law_242 ?_
  rw [ix1 (k := 1) (c := 1) rfl]
  refine w_sld hK (by omega) (by omega) d_W_law_243 ?_
  refine w_aload_n hK d_W_law_244 rfl ?_
  refine w_iload_n hK d_W_law_245 rfl ?_
  refine w_iconst hK d_W_law_246 kc_2 ?_
  refine w_iadd hK d_W_law_247 ?_
  rw [ix1 (k := 2) (c := 2) rfl]
  refine w_sld hK (by omega) (by omega) d_W_law_248 ?_
  refine w_aload_n hK d_W_law_249 rfl ?_
  refine w_iload_n hK d_W_law_250 rfl ?_
  refine w_iconst hK d_W_law_251 kc_3 ?_
  refine w_iadd hK d_W_law_252 ?_
  rw [ix1 (k := 3) (c := 3) rfl]
  refine w_sld hK (by omega) (by omega) d_W_law_253 ?_
  refine w_v3 (k' := 3) hK lm_W_21 d_W_law_254 ⟨_, hV1.1⟩ (by decide) hz (Nat.le_of_ble_eq_true rfl) ?_
  refine c_M_set hV1 hS hJ.m (fun G2 hM2 f2 => kc_s ?_)
  refine w_icmp_eq (tgt := 1132) hK d_W_law_257 rfl (fun _ => ?_) (fun h => absurd rfl h)
  exact kk _ _ (hX1.fr f2 (by omega)) hM2 (J_set hJ)
theorem lawc_2 {E : gX} {sz0 sz L b x c i : Nat} {xs : Nat → Int32} {G0 G : gG} {K : Nat → List (Option Value) → List Value → Nat → gG → Prop} (hK : Cw E "ClockPostLaw" code ret 4 sz0 G0 b L xs K) {st : Bool} {nw : Nat → Int32} {ac : Nat → Nat → Int32} {na : Nat} {ik : Nat → Bool} {im : Nat → Nat → Int32} {rp : Nat → Bool} {rl : Nat → Int32} {rs : Nat → Nat} {ri : Nat → Nat → Int32} {tp : Nat → Int32} {tn : Nat} {lf : Int32} {fd : Int32} {tr : Nat → Int32} {un : Nat} (hX : XV G x (st, nw, ac, na, ik, im, rp, rl, rs, ri, tp, tn, lf, fd, tr, un)) (hM : MR G c (st, nw, ac, na, ik, im, rp, rl, rs, ri, tp, tn, lf, fd, tr, un)) (hJ : JI (st, nw, ac, na, ik, im, rp, rl, rs, ri, tp, tn, lf, fd, tr, un)) (hd : x + 309 ≤ c ∨ c + 10 ≤ x) (hz : sz ≤ sz0 + 6000) (hi : i + 5 < L) (hL : L ≤ 384) (kk : ∀ (G' : gG) (s' : gS), XV G' x s' → MR G' c s' → JI s' → K 1132 [some (.ref b), some (.ref x), some (.ref c), some (.int (nI i))] [] sz G') : K 262 [some (.ref b), some (.ref x), some (.ref c), some (.int (nI i))] [] sz G := by
  obtain ⟨f, w, A, hV, hS⟩ := hM
  refine w_aload_n hK d_W_law_262 rfl ?_
  refine w_aload_n hK d_W_law_263 rfl ?_
  refine w_iload_n hK d_W_law_264 rfl ?_
  refine w_iconst hK d_W_law_265 kc_1 ?_
  refine w_iadd hK d_W_law_266 ?_
  rw [ix1 (k := 1) (c := 1) rfl]
  refine w_sld hK (by omega) (by omega) d_W_law_267 ?_
  refine w_aload_n hK d_W_law_268 rfl ?_
  refine w_iload_n hK d_W_law_269 rfl ?_
  refine w_iconst hK d_W_law_270 kc_2 ?_
  refine w_iadd hK d_W_law_271 ?_
  rw [ix1 (k := 2) (c := 2) rfl]
  refine w_sld hK (by omega) (by omega) d_W_law_272 ?_
  refine w_aload_n hK d_W_law_273 rfl ?_
  refine w_iload_n hK d_W_law_274 rfl ?_
  refine w_iconst hK d_W_law_275 kc_3 ?_
  refine w_iadd hK d_W_law_276 ?_
  rw [ix1 (k := 3) (c := 3) rfl]
  refine w_sld hK (by omega) (by omega) d_W_law_277 ?_
  refine w_aload_n hK d_W_law_278 rfl ?_
  refine w_iload_n hK d_W_law_279 rfl ?_
  refine w_iconst hK d_W_law_280 kc_4 ?_
  refine w_iadd hK d_W_law_281 ?_
  rw [ix1 (k := 4) (c := 4) rfl]
  refine w_sld hK (by omega) (by omega) d_W_law_282 ?_
  refine w_aload_n hK d_W_law_283 rfl ?_
  refine w_iload_n hK d_W_law_284 rfl ?_
  refine w_iconst hK d_W_law_285 kc_5 ?_
  refine w_iadd hK d_W_law_286 ?_
  rw [ix1 (k := 5) (c := 5) rfl]
  refine w_sld hK (by omega) (by omega) d_W_law_287 ?_
  refine w_v5 (k' := 3) hK lm_W_22 d_W_law_288 ⟨_, hX.1.1⟩ (by decide) hz (Nat.le_of_ble_eq_true rfl) ?_
  refine c_X_copy hX hJ.x (fun G1 hX1 f1 => kc_s ?_)
  have hV1 := hV.frm f1 (by omega)
  refine w_aload_n hK d_W_law_291 rfl ?_
  refine w_aload_n hK d_W_law_292 rfl ?_
  refine w_iload_n hK d_W_law_293 rfl ?_
  refine w_iconst hK d_W_law_294 kc_1 ?_
  refine w_iadd hK d_W_law_295 ?_
  rw [ix1 (k := 1) (c := 1) rfl]
  refine w_sld hK (by omega) (by omega) d_W_law_296 ?_
  refine w_aload_n hK d_W_law_297 rfl ?_
  refine w_iload_n hK d_W_law_298 rfl ?_
  refine w_iconst hK d_W_law_299 kc_2 ?_
  refine w_iadd hK d_W_law_300 ?_
  rw [ix1 (k := 2) (c := 2) rfl]
  refine w_sld hK (by omega) (by omega) d_W_law_301 ?_
  refine w_aload_n hK d_W_law_302 rfl ?_
  refine w_iload_n hK d_W_law_303 rfl ?_
  refine w_iconst hK d_W_law_304 kc_3 ?_
  refine w_iadd hK d_W_law_305 ?_
  rw [ix1 (k := 3) (c := 3) rfl]
  refine w_sld hK (by omega) (by omega) d_W_law_306 ?_
  refine w_aload_n hK d_W_law_307 rfl ?_
  refine w_iload_n hK d_W_law_308 rfl ?_
  refine w_iconst hK d_W_law_309 kc_4 ?_
  refine w_iadd hK d_W_law_310 ?_
  rw [ix1 (k := 4) (c := 4) rfl]
  refine w_sld hK (by omega) (by omega) d_W_law_311 ?_
  refine w_aload_n hK d_W_law_312 rfl ?_
  refine w_iload_n hK d_W_law_313 rfl ?_
  refine w_iconst hK d_W_law_314 kc_5 ?_
  refine w_iadd hK d_W_law_315 ?_
  rw [ix1 (k := 5) (c := 5) rfl]
  refine w_sld hK (by omega) (by omega) d_W_law_316 ?_
  refine w_v5 (k' := 3) hK lm_W_26 d_W_law_317 ⟨_, hV1.1⟩ (by decide) hz (Nat.le_of_ble_eq_true rfl) ?_
  refine c_M_copy hV1 hS hJ.m (fun G2 hM2 f2 => kc_s ?_)
  refine w_icmp_eq (tgt := 1132) hK d_W_law_320 rfl (fun _ => ?_) (fun h => absurd rfl h)
  exact kk _ _ (hX1.fr f2 (by omega)) hM2 (J_copy hJ)
theorem lawc_3 {E : gX} {sz0 sz L b x c i : Nat} {xs : Nat → Int32} {G0 G : gG} {K : Nat → List (Option Value) → List Value → Nat → gG → Prop} (hK : Cw E "ClockPostLaw" code ret 4 sz0 G0 b L xs K) {st : Bool} {nw : Nat → Int32} {ac : Nat → Nat → Int32} {na : Nat} {ik : Nat → Bool} {im : Nat → Nat → Int32} {rp : Nat → Bool} {rl : Nat → Int32} {rs : Nat → Nat} {ri : Nat → Nat → Int32} {tp : Nat → Int32} {tn : Nat} {lf : Int32} {fd : Int32} {tr : Nat → Int32} {un : Nat} (hX : XV G x (st, nw, ac, na, ik, im, rp, rl, rs, ri, tp, tn, lf, fd, tr, un)) (hM : MR G c (st, nw, ac, na, ik, im, rp, rl, rs, ri, tp, tn, lf, fd, tr, un)) (hJ : JI (st, nw, ac, na, ik, im, rp, rl, rs, ri, tp, tn, lf, fd, tr, un)) (hd : x + 309 ≤ c ∨ c + 10 ≤ x) (hz : sz ≤ sz0 + 6000) (hi : i + 5 < L) (hL : L ≤ 384) (kk : ∀ (G' : gG) (s' : gS), XV G' x s' → MR G' c s' → JI s' → K 1132 [some (.ref b), some (.ref x), some (.ref c), some (.int (nI i))] [] sz G') : K 325 [some (.ref b), some (.ref x), some (.ref c), some (.int (nI i))] [] sz G := by
  obtain ⟨f, w, A, hV, hS⟩ := hM
  refine w_aload_n hK d_W_law_325 rfl ?_
  refine w_aload_n hK d_W_law_326 rfl ?_
  refine w_iload_n hK d_W_law_327 rfl ?_
  refine w_iconst hK d_W_law_328 kc_1 ?_
  refine w_iadd hK d_W_law_329 ?_
  rw [ix1 (k := 1) (c := 1) rfl]
  refine w_sld hK (by omega) (by omega) d_W_law_330 ?_
  refine w_v1 (k' := 3) hK lm_W_27 d_W_law_331 ⟨_, hX.1.1⟩ (by decide) hz (Nat.le_of_ble_eq_true rfl) ?_
  refine c_X_drop hX hJ.x (fun G1 hX1 f1 => kc_s ?_)
  have hV1 := hV.frm f1 (by omega)
  refine w_aload_n hK d_W_law_334 rfl ?_
  refine w_aload_n hK d_W_law_335 rfl ?_
  refine w_iload_n hK d_W_law_336 rfl ?_
  refine w_iconst hK d_W_law_337 kc_1 ?_
  refine w_iadd hK d_W_law_338 ?_
  rw [ix1 (k := 1) (c := 1) rfl]
  refine w_sld hK (by omega) (by omega) d_W_law_339 ?_
  refine w_v1 (k' := 3) hK lm_W_31 d_W_law_340 ⟨_, hV1.1⟩ (by decide) hz (Nat.le_of_ble_eq_true rfl) ?_
  refine c_M_drop hV1 hS hJ.m (fun G2 hM2 f2 => kc_s ?_)
  refine w_icmp_eq (tgt := 1132) hK d_W_law_343 rfl (fun _ => ?_) (fun h => absurd rfl h)
  exact kk _ _ (hX1.fr f2 (by omega)) hM2 (J_drop hJ)
theorem lawc_4 {E : gX} {sz0 sz L b x c i : Nat} {xs : Nat → Int32} {G0 G : gG} {K : Nat → List (Option Value) → List Value → Nat → gG → Prop} (hK : Cw E "ClockPostLaw" code ret 4 sz0 G0 b L xs K) {st : Bool} {nw : Nat → Int32} {ac : Nat → Nat → Int32} {na : Nat} {ik : Nat → Bool} {im : Nat → Nat → Int32} {rp : Nat → Bool} {rl : Nat → Int32} {rs : Nat → Nat} {ri : Nat → Nat → Int32} {tp : Nat → Int32} {tn : Nat} {lf : Int32} {fd : Int32} {tr : Nat → Int32} {un : Nat} (hX : XV G x (st, nw, ac, na, ik, im, rp, rl, rs, ri, tp, tn, lf, fd, tr, un)) (hM : MR G c (st, nw, ac, na, ik, im, rp, rl, rs, ri, tp, tn, lf, fd, tr, un)) (hJ : JI (st, nw, ac, na, ik, im, rp, rl, rs, ri, tp, tn, lf, fd, tr, un)) (hd : x + 309 ≤ c ∨ c + 10 ≤ x) (hz : sz ≤ sz0 + 6000) (hi : i + 5 < L) (hL : L ≤ 384) (kk : ∀ (G' : gG) (s' : gS), XV G' x s' → MR G' c s' → JI s' → K 1132 [some (.ref b), some (.ref x), some (.ref c), some (.int (nI i))] [] sz G') : K 348 [some (.ref b), some (.ref x), some (.ref c), some (.int (nI i))] [] sz G := by
  obtain ⟨f, w, A, hV, hS⟩ := hM
  refine w_aload_n hK d_W_law_348 rfl ?_
  refine w_aload_n hK d_W_law_349 rfl ?_
  refine w_iload_n hK d_W_law_350 rfl ?_
  refine w_iconst hK d_W_law_351 kc_1 ?_
  refine w_iadd hK d_W_law_352 ?_
  rw [ix1 (k := 1) (c := 1) rfl]
  refine w_sld hK (by omega) (by omega) d_W_law_353 ?_
  refine w_v1 (k' := 2) hK lm_W_32 d_W_law_354 ⟨_, hX.1.1⟩ (by decide) hz (Nat.le_of_ble_eq_true rfl) ?_
  refine c_X_feed hX hJ.x (fun G1 hX1 f1 => kc_s ?_)
  have hV1 := hV.frm f1 (by omega)
  refine w_aload_n hK d_W_law_357 rfl ?_
  refine w_aload_n hK d_W_law_358 rfl ?_
  refine w_iload_n hK d_W_law_359 rfl ?_
  refine w_iconst hK d_W_law_360 kc_1 ?_
  refine w_iadd hK d_W_law_361 ?_
  rw [ix1 (k := 1) (c := 1) rfl]
  refine w_sld hK (by omega) (by omega) d_W_law_362 ?_
  refine w_v1 (k' := 2) hK lm_W_35 d_W_law_363 ⟨_, hV1.1⟩ (by decide) hz (Nat.le_of_ble_eq_true rfl) ?_
  refine c_M_feed hV1 hS hJ.m (fun G2 hM2 f2 => kc_s ?_)
  refine w_icmp_eq (tgt := 1132) hK d_W_law_366 rfl (fun _ => ?_) (fun h => absurd rfl h)
  exact kk _ _ (hX1.fr f2 (by omega)) hM2 (J_feed hJ)
theorem lawc_5 {E : gX} {sz0 sz L b x c i : Nat} {xs : Nat → Int32} {G0 G : gG} {K : Nat → List (Option Value) → List Value → Nat → gG → Prop} (hK : Cw E "ClockPostLaw" code ret 4 sz0 G0 b L xs K) {st : Bool} {nw : Nat → Int32} {ac : Nat → Nat → Int32} {na : Nat} {ik : Nat → Bool} {im : Nat → Nat → Int32} {rp : Nat → Bool} {rl : Nat → Int32} {rs : Nat → Nat} {ri : Nat → Nat → Int32} {tp : Nat → Int32} {tn : Nat} {lf : Int32} {fd : Int32} {tr : Nat → Int32} {un : Nat} (hX : XV G x (st, nw, ac, na, ik, im, rp, rl, rs, ri, tp, tn, lf, fd, tr, un)) (hM : MR G c (st, nw, ac, na, ik, im, rp, rl, rs, ri, tp, tn, lf, fd, tr, un)) (hJ : JI (st, nw, ac, na, ik, im, rp, rl, rs, ri, tp, tn, lf, fd, tr, un)) (hd : x + 309 ≤ c ∨ c + 10 ≤ x) (hz : sz ≤ sz0 + 6000) (hi : i + 5 < L) (hL : L ≤ 384) (kk : ∀ (G' : gG) (s' : gS), XV G' x s' → MR G' c s' → JI s' → K 1132 [some (.ref b), some (.ref x), some (.ref c), some (.int (nI i))] [] sz G') : K 371 [some (.ref b), some (.ref x), some (.ref c), some (.int (nI i))] [] sz G := by
  obtain ⟨f, w, A, hV, hS⟩ := hM
  refine w_aload_n hK d_W_law_371 rfl ?_
  refine w_v0 (k' := 7) hK lm_W_36 d_W_law_372 ⟨_, hX.1.1⟩ (by decide) hz (Nat.le_of_ble_eq_true rfl) ?_
  obtain ⟨t2, hh⟩ : ∃ t2, opHouse (st, nw, ac, na, ik, im, rp, rl, rs, ri, tp, tn, lf, fd, tr, un) = t2 := ⟨_, rfl⟩
  refine c_X_houseT hX hJ.x hh (fun G1 hX1 f1 => kc_s ?_)
  have hV1 := hV.frm f1 (by omega)
  refine w_aload_n hK d_W_law_375 rfl ?_
  refine w_v0 (k' := 6) hK lm_W_40 d_W_law_376 ⟨_, hV1.1⟩ (by decide) hz (Nat.le_of_ble_eq_true rfl) ?_
  refine c_M_houseT hV1 hS hJ.m hh (fun G2 hM2 f2 => kc_s ?_)
  refine w_icmp_eq (tgt := 1132) hK d_W_law_379 rfl (fun _ => ?_) (fun h => absurd rfl h)
  exact kk _ _ (hX1.fr f2 (by omega)) hM2 (J_house hJ hh)
theorem lawc_6 {E : gX} {sz0 sz L b x c i : Nat} {xs : Nat → Int32} {G0 G : gG} {K : Nat → List (Option Value) → List Value → Nat → gG → Prop} (hK : Cw E "ClockPostLaw" code ret 4 sz0 G0 b L xs K) {st : Bool} {nw : Nat → Int32} {ac : Nat → Nat → Int32} {na : Nat} {ik : Nat → Bool} {im : Nat → Nat → Int32} {rp : Nat → Bool} {rl : Nat → Int32} {rs : Nat → Nat} {ri : Nat → Nat → Int32} {tp : Nat → Int32} {tn : Nat} {lf : Int32} {fd : Int32} {tr : Nat → Int32} {un : Nat} (hX : XV G x (st, nw, ac, na, ik, im, rp, rl, rs, ri, tp, tn, lf, fd, tr, un)) (hM : MR G c (st, nw, ac, na, ik, im, rp, rl, rs, ri, tp, tn, lf, fd, tr, un)) (hJ : JI (st, nw, ac, na, ik, im, rp, rl, rs, ri, tp, tn, lf, fd, tr, un)) (hd : x + 309 ≤ c ∨ c + 10 ≤ x) (hz : sz ≤ sz0 + 6000) (hi : i + 5 < L) (hL : L ≤ 384) (kk : ∀ (G' : gG) (s' : gS), XV G' x s' → MR G' c s' → JI s' → K 1132 [some (.ref b), some (.ref x), some (.ref c), some (.int (nI i))] [] sz G') : K 384 [some (.ref b), some (.ref x), some (.ref c), some (.int (nI i))] [] sz G := by
  obtain ⟨f, w, A, hV, hS⟩ := hM
  refine w_aload_n hK d_W_law_384 rfl ?_
  refine w_v0 (k' := 1) hK lm_W_41 d_W_law_385 ⟨_, hX.1.1⟩ (by decide) hz (Nat.le_of_ble_eq_true rfl) ?_
  refine c_X_fault hX hJ.x (fun G1 hX1 f1 => kc_s ?_)
  have hV1 := hV.frm f1 (by omega)
  refine w_aload_n hK d_W_law_388 rfl ?_
  refine w_v0 (k' := 1) hK lm_W_44 d_W_law_389 ⟨_, hV1.1⟩ (by decide) hz (Nat.le_of_ble_eq_true rfl) ?_
  refine c_M_fault hV1 hS hJ.m (fun G2 hM2 f2 => kc_s ?_)
  refine w_icmp_eq (tgt := 1132) hK d_W_law_392 rfl (fun _ => ?_) (fun h => absurd rfl h)
  exact kk _ _ (hX1.fr f2 (by omega)) hM2 hJ
theorem lawc_7 {E : gX} {sz0 sz L b x c i : Nat} {xs : Nat → Int32} {G0 G : gG} {K : Nat → List (Option Value) → List Value → Nat → gG → Prop} (hK : Cw E "ClockPostLaw" code ret 4 sz0 G0 b L xs K) {st : Bool} {nw : Nat → Int32} {ac : Nat → Nat → Int32} {na : Nat} {ik : Nat → Bool} {im : Nat → Nat → Int32} {rp : Nat → Bool} {rl : Nat → Int32} {rs : Nat → Nat} {ri : Nat → Nat → Int32} {tp : Nat → Int32} {tn : Nat} {lf : Int32} {fd : Int32} {tr : Nat → Int32} {un : Nat} (hX : XV G x (st, nw, ac, na, ik, im, rp, rl, rs, ri, tp, tn, lf, fd, tr, un)) (hM : MR G c (st, nw, ac, na, ik, im, rp, rl, rs, ri, tp, tn, lf, fd, tr, un)) (hJ : JI (st, nw, ac, na, ik, im, rp, rl, rs, ri, tp, tn, lf, fd, tr, un)) (hd : x + 309 ≤ c ∨ c + 10 ≤ x) (hz : sz ≤ sz0 + 6000) (hi : i + 5 < L) (hL : L ≤ 384) (kk : ∀ (G' : gG) (s' : gS), XV G' x s' → MR G' c s' → JI s' → K 1132 [some (.ref b), some (.ref x), some (.ref c), some (.int (nI i))] [] sz G') : K 397 [some (.ref b), some (.ref x), some (.ref c), some (.int (nI i))] [] sz G := by
  obtain ⟨f, w, A, hV, hS⟩ := hM
  refine w_aload_n hK d_W_law_397 rfl ?_
  refine w_aload_n hK d_W_law_398 rfl ?_
  refine w_iload_n hK d_W_law_399 rfl ?_
  refine w_iconst hK d_W_law_400 kc_1 ?_
  refine w_iadd hK d_W_law_401 ?_
  rw [ix1 (k := 1) (c := 1) rfl]
  refine w_sld hK (by omega) (by omega) d_W_law_402 ?_
  refine w_v1 (k' := 6) hK lm_W_45 d_W_law_403 ⟨_, hX.1.1⟩ (by decide) hz (Nat.le_of_ble_eq_true rfl) ?_
  refine c_X_days hX hJ.x (fun G1 hX1 f1 => kc_s ?_)
  have hV1 := hV.frm f1 (by omega)
  refine w_aload_n hK d_W_law_406 rfl ?_
  refine w_aload_n hK d_W_law_407 rfl ?_
  refine w_iload_n hK d_W_law_408 rfl ?_
  refine w_iconst hK d_W_law_409 kc_1 ?_
  refine w_iadd hK d_W_law_410 ?_
  rw [ix1 (k := 1) (c := 1) rfl]
  refine w_sld hK (by omega) (by omega) d_W_law_411 ?_
  refine w_v1 (k' := 5) hK lm_W_48 d_W_law_412 ⟨_, hV1.1⟩ (by decide) hz (Nat.le_of_ble_eq_true rfl) ?_
  refine c_M_days hV1 hS hJ.m (fun G2 hM2 f2 => kc_s ?_)
  refine w_icmp_eq (tgt := 1132) hK d_W_law_415 rfl (fun _ => ?_) (fun h => absurd rfl h)
  exact kk _ _ (hX1.fr f2 (by omega)) hM2 (J_days hJ)
theorem lawc_8 {E : gX} {sz0 sz L b x c i : Nat} {xs : Nat → Int32} {G0 G : gG} {K : Nat → List (Option Value) → List Value → Nat → gG → Prop} (hK : Cw E "ClockPostLaw" code ret 4 sz0 G0 b L xs K) {st : Bool} {nw : Nat → Int32} {ac : Nat → Nat → Int32} {na : Nat} {ik : Nat → Bool} {im : Nat → Nat → Int32} {rp : Nat → Bool} {rl : Nat → Int32} {rs : Nat → Nat} {ri : Nat → Nat → Int32} {tp : Nat → Int32} {tn : Nat} {lf : Int32} {fd : Int32} {tr : Nat → Int32} {un : Nat} (hX : XV G x (st, nw, ac, na, ik, im, rp, rl, rs, ri, tp, tn, lf, fd, tr, un)) (hM : MR G c (st, nw, ac, na, ik, im, rp, rl, rs, ri, tp, tn, lf, fd, tr, un)) (hJ : JI (st, nw, ac, na, ik, im, rp, rl, rs, ri, tp, tn, lf, fd, tr, un)) (hd : x + 309 ≤ c ∨ c + 10 ≤ x) (hz : sz ≤ sz0 + 6000) (hi : i + 5 < L) (hL : L ≤ 384) (kk : ∀ (G' : gG) (s' : gS), XV G' x s' → MR G' c s' → JI s' → K 1132 [some (.ref b), some (.ref x), some (.ref c), some (.int (nI i))] [] sz G') : K 420 [some (.ref b), some (.ref x), some (.ref c), some (.int (nI i))] [] sz G := by
  obtain ⟨f, w, A, hV, hS⟩ := hM
  refine w_aload_n hK d_W_law_420 rfl ?_
  refine w_aload_n hK d_W_law_421 rfl ?_
  refine w_iload_n hK d_W_law_422 rfl ?_
  refine w_iconst hK d_W_law_423 kc_1 ?_
  refine w_iadd hK d_W_law_424 ?_
  rw [ix1 (k := 1) (c := 1) rfl]
  refine w_sld hK (by omega) (by omega) d_W_law_425 ?_
  refine w_v1 (k' := 4) hK lm_W_49 d_W_law_426 ⟨_, hX.1.1⟩ (by decide) hz (Nat.le_of_ble_eq_true rfl) ?_
  refine c_X_answer hX hJ.x (fun G1 hX1 f1 => kc_s ?_)
  have hV1 := hV.frm f1 (by omega)
  refine w_aload_n hK d_W_law_429 rfl ?_
  refine w_aload_n hK d_W_law_430 rfl ?_
  refine w_iload_n hK d_W_law_431 rfl ?_
  refine w_iconst hK d_W_law_432 kc_1 ?_
  refine w_iadd hK d_W_law_433 ?_
  rw [ix1 (k := 1) (c := 1) rfl]
  refine w_sld hK (by omega) (by omega) d_W_law_434 ?_
  refine w_v1 (k' := 4) hK lm_W_52 d_W_law_435 ⟨_, hV1.1⟩ (by decide) hz (Nat.le_of_ble_eq_true rfl) ?_
  refine c_M_answer hV1 hS hJ.m (fun G2 hM2 f2 => kc_s ?_)
  refine w_icmp_eq (tgt := 1132) hK d_W_law_438 rfl (fun _ => ?_) (fun h => absurd rfl h)
  exact kk _ _ (hX1.fr f2 (by omega)) hM2 (J_answer hJ)
theorem lawc_9 {E : gX} {sz0 sz L b x c i : Nat} {xs : Nat → Int32} {G0 G : gG} {K : Nat → List (Option Value) → List Value → Nat → gG → Prop} (hK : Cw E "ClockPostLaw" code ret 4 sz0 G0 b L xs K) {st : Bool} {nw : Nat → Int32} {ac : Nat → Nat → Int32} {na : Nat} {ik : Nat → Bool} {im : Nat → Nat → Int32} {rp : Nat → Bool} {rl : Nat → Int32} {rs : Nat → Nat} {ri : Nat → Nat → Int32} {tp : Nat → Int32} {tn : Nat} {lf : Int32} {fd : Int32} {tr : Nat → Int32} {un : Nat} (hX : XV G x (st, nw, ac, na, ik, im, rp, rl, rs, ri, tp, tn, lf, fd, tr, un)) (hM : MR G c (st, nw, ac, na, ik, im, rp, rl, rs, ri, tp, tn, lf, fd, tr, un)) (hJ : JI (st, nw, ac, na, ik, im, rp, rl, rs, ri, tp, tn, lf, fd, tr, un)) (hd : x + 309 ≤ c ∨ c + 10 ≤ x) (hz : sz ≤ sz0 + 6000) (hi : i + 5 < L) (hL : L ≤ 384) (kk : ∀ (G' : gG) (s' : gS), XV G' x s' → MR G' c s' → JI s' → K 1132 [some (.ref b), some (.ref x), some (.ref c), some (.int (nI i))] [] sz G') : K 443 [some (.ref b), some (.ref x), some (.ref c), some (.int (nI i))] [] sz G := by
  obtain ⟨f, w, A, hV, hS⟩ := hM
  refine w_aload_n hK d_W_law_443 rfl ?_
  refine w_aload_n hK d_W_law_444 rfl ?_
  refine w_iload_n hK d_W_law_445 rfl ?_
  refine w_iconst hK d_W_law_446 kc_1 ?_
  refine w_iadd hK d_W_law_447 ?_
  rw [ix1 (k := 1) (c := 1) rfl]
  refine w_sld hK (by omega) (by omega) d_W_law_448 ?_
  refine w_v1 (k' := 4) hK lm_W_53 d_W_law_449 ⟨_, hX.1.1⟩ (by decide) hz (Nat.le_of_ble_eq_true rfl) ?_
  refine c_X_post hX hJ.x (fun G1 hX1 f1 => kc_s ?_)
  have hV1 := hV.frm f1 (by omega)
  refine w_aload_n hK d_W_law_452 rfl ?_
  refine w_aload_n hK d_W_law_453 rfl ?_
  refine w_iload_n hK d_W_law_454 rfl ?_
  refine w_iconst hK d_W_law_455 kc_1 ?_
  refine w_iadd hK d_W_law_456 ?_
  rw [ix1 (k := 1) (c := 1) rfl]
  refine w_sld hK (by omega) (by omega) d_W_law_457 ?_
  refine w_v1 (k' := 3) hK lm_W_56 d_W_law_458 ⟨_, hV1.1⟩ (by decide) hz (Nat.le_of_ble_eq_true rfl) ?_
  refine c_M_post hV1 hS hJ.m (fun G2 hM2 f2 => kc_s ?_)
  refine w_icmp_eq (tgt := 1132) hK d_W_law_461 rfl (fun _ => ?_) (fun h => absurd rfl h)
  exact kk _ _ (hX1.fr f2 (by omega)) hM2 (J_post hJ)
theorem lawc_10 {E : gX} {sz0 sz L b x c i : Nat} {xs : Nat → Int32} {G0 G : gG} {K : Nat → List (Option Value) → List Value → Nat → gG → Prop} (hK : Cw E "ClockPostLaw" code ret 4 sz0 G0 b L xs K) {st : Bool} {nw : Nat → Int32} {ac : Nat → Nat → Int32} {na : Nat} {ik : Nat → Bool} {im : Nat → Nat → Int32} {rp : Nat → Bool} {rl : Nat → Int32} {rs : Nat → Nat} {ri : Nat → Nat → Int32} {tp : Nat → Int32} {tn : Nat} {lf : Int32} {fd : Int32} {tr : Nat → Int32} {un : Nat} (hX : XV G x (st, nw, ac, na, ik, im, rp, rl, rs, ri, tp, tn, lf, fd, tr, un)) (hM : MR G c (st, nw, ac, na, ik, im, rp, rl, rs, ri, tp, tn, lf, fd, tr, un)) (hJ : JI (st, nw, ac, na, ik, im, rp, rl, rs, ri, tp, tn, lf, fd, tr, un)) (hd : x + 309 ≤ c ∨ c + 10 ≤ x) (hz : sz ≤ sz0 + 6000) (hi : i + 5 < L) (hL : L ≤ 384) (kk : ∀ (G' : gG) (s' : gS), XV G' x s' → MR G' c s' → JI s' → K 1132 [some (.ref b), some (.ref x), some (.ref c), some (.int (nI i))] [] sz G') : K 466 [some (.ref b), some (.ref x), some (.ref c), some (.int (nI i))] [] sz G := by
  obtain ⟨f, w, A, hV, hS⟩ := hM
  refine w_aload_n hK d_W_law_466 rfl ?_
  refine w_aload_n hK d_W_law_467 rfl ?_
  refine w_iload_n hK d_W_law_468 rfl ?_
  refine w_iconst hK d_W_law_469 kc_1 ?_
  refine w_iadd hK d_W_law_470 ?_
  rw [ix1 (k := 1) (c := 1) rfl]
  refine w_sld hK (by omega) (by omega) d_W_law_471 ?_
  refine w_aload_n hK d_W_law_472 rfl ?_
  refine w_iload_n hK d_W_law_473 rfl ?_
  refine w_iconst hK d_W_law_474 kc_2 ?_
  refine w_iadd hK d_W_law_475 ?_
  rw [ix1 (k := 2) (c := 2) rfl]
  refine w_sld hK (by omega) (by omega) d_W_law_476 ?_
  refine w_v2 (k' := 4) hK lm_W_57 d_W_law_477 ⟨_, hX.1.1⟩ (by decide) hz (Nat.le_of_ble_eq_true rfl) ?_
  refine c_X_dread hX hJ.x (fun G1 hX1 f1 => kc_s ?_)
  have hV1 := hV.frm f1 (by omega)
  refine w_aload_n hK d_W_law_480 rfl ?_
  refine w_aload_n hK d_W_law_481 rfl ?_
  refine w_iload_n hK d_W_law_482 rfl ?_
  refine w_iconst hK d_W_law_483 kc_1 ?_
  refine w_iadd hK d_W_law_484 ?_
  rw [ix1 (k := 1) (c := 1) rfl]
  refine w_sld hK (by omega) (by omega) d_W_law_485 ?_
  refine w_aload_n hK d_W_law_486 rfl ?_
  refine w_iload_n hK d_W_law_487 rfl ?_
  refine w_iconst hK d_W_law_488 kc_2 ?_
  refine w_iadd hK d_W_law_489 ?_
  rw [ix1 (k := 2) (c := 2) rfl]
  refine w_sld hK (by omega) (by omega) d_W_law_490 ?_
  refine w_v2 (k' := 3) hK lm_W_61 d_W_law_491 ⟨_, hV1.1⟩ (by decide) hz (Nat.le_of_ble_eq_true rfl) ?_
  refine c_M_dread hV1 hS hJ.m (fun G2 hM2 f2 => kc_s ?_)
  refine w_icmp_eq (tgt := 1132) hK d_W_law_494 rfl (fun _ => ?_) (fun h => absurd rfl h)
  exact kk _ _ (hX1.fr f2 (by omega)) hM2 (J_dread hJ)
theorem lawc_11 {E : gX} {sz0 sz L b x c i : Nat} {xs : Nat → Int32} {G0 G : gG} {K : Nat → List (Option Value) → List Value → Nat → gG → Prop} (hK : Cw E "ClockPostLaw" code ret 4 sz0 G0 b L xs K) {st : Bool} {nw : Nat → Int32} {ac : Nat → Nat → Int32} {na : Nat} {ik : Nat → Bool} {im : Nat → Nat → Int32} {rp : Nat → Bool} {rl : Nat → Int32} {rs : Nat → Nat} {ri : Nat → Nat → Int32} {tp : Nat → Int32} {tn : Nat} {lf : Int32} {fd : Int32} {tr : Nat → Int32} {un : Nat} (hX : XV G x (st, nw, ac, na, ik, im, rp, rl, rs, ri, tp, tn, lf, fd, tr, un)) (hM : MR G c (st, nw, ac, na, ik, im, rp, rl, rs, ri, tp, tn, lf, fd, tr, un)) (hJ : JI (st, nw, ac, na, ik, im, rp, rl, rs, ri, tp, tn, lf, fd, tr, un)) (hd : x + 309 ≤ c ∨ c + 10 ≤ x) (hz : sz ≤ sz0 + 6000) (hi : i + 5 < L) (hL : L ≤ 384) (kk : ∀ (G' : gG) (s' : gS), XV G' x s' → MR G' c s' → JI s' → K 1132 [some (.ref b), some (.ref x), some (.ref c), some (.int (nI i))] [] sz G') : K 499 [some (.ref b), some (.ref x), some (.ref c), some (.int (nI i))] [] sz G := by
  obtain ⟨f, w, A, hV, hS⟩ := hM
  refine w_aload_n hK d_W_law_499 rfl ?_
  refine w_v0 (k' := 4) hK lm_W_62 d_W_law_500 ⟨_, hX.1.1⟩ (by decide) hz (Nat.le_of_ble_eq_true rfl) ?_
  refine c_X_undo hX hJ.x (fun G1 hX1 f1 => kc_s ?_)
  have hV1 := hV.frm f1 (by omega)
  refine w_aload_n hK d_W_law_503 rfl ?_
  refine w_v0 (k' := 2) hK lm_W_65 d_W_law_504 ⟨_, hV1.1⟩ (by decide) hz (Nat.le_of_ble_eq_true rfl) ?_
  refine c_M_undo hV1 hS hJ.m (fun G2 hM2 f2 => kc_s ?_)
  refine w_icmp_eq (tgt := 1132) hK d_W_law_507 rfl (fun _ => ?_) (fun h => absurd rfl h)
  exact kk _ _ (hX1.fr f2 (by omega)) hM2 (J_undo hJ)
theorem lawc_12 {E : gX} {sz0 sz L b x c i : Nat} {xs : Nat → Int32} {G0 G : gG} {K : Nat → List (Option Value) → List Value → Nat → gG → Prop} (hK : Cw E "ClockPostLaw" code ret 4 sz0 G0 b L xs K) {st : Bool} {nw : Nat → Int32} {ac : Nat → Nat → Int32} {na : Nat} {ik : Nat → Bool} {im : Nat → Nat → Int32} {rp : Nat → Bool} {rl : Nat → Int32} {rs : Nat → Nat} {ri : Nat → Nat → Int32} {tp : Nat → Int32} {tn : Nat} {lf : Int32} {fd : Int32} {tr : Nat → Int32} {un : Nat} (hX : XV G x (st, nw, ac, na, ik, im, rp, rl, rs, ri, tp, tn, lf, fd, tr, un)) (hM : MR G c (st, nw, ac, na, ik, im, rp, rl, rs, ri, tp, tn, lf, fd, tr, un)) (hJ : JI (st, nw, ac, na, ik, im, rp, rl, rs, ri, tp, tn, lf, fd, tr, un)) (hd : x + 309 ≤ c ∨ c + 10 ≤ x) (hz : sz ≤ sz0 + 6000) (hi : i + 5 < L) (hL : L ≤ 384) (kk : ∀ (G' : gG) (s' : gS), XV G' x s' → MR G' c s' → JI s' → K 1132 [some (.ref b), some (.ref x), some (.ref c), some (.int (nI i))] [] sz G') : K 512 [some (.ref b), some (.ref x), some (.ref c), some (.int (nI i))] [] sz G := by
  obtain ⟨f, w, A, hV, hS⟩ := hM
  refine w_aload_n hK d_W_law_512 rfl ?_
  refine w_aload_n hK d_W_law_513 rfl ?_
  refine w_iload_n hK d_W_law_514 rfl ?_
  refine w_iconst hK d_W_law_515 kc_1 ?_
  refine w_iadd hK d_W_law_516 ?_
  rw [ix1 (k := 1) (c := 1) rfl]
  refine w_sld hK (by omega) (by omega) d_W_law_517 ?_
  refine w_aload_n hK d_W_law_518 rfl ?_
  refine w_iload_n hK d_W_law_519 rfl ?_
  refine w_iconst hK d_W_law_520 kc_2 ?_
  refine w_iadd hK d_W_law_521 ?_
  rw [ix1 (k := 2) (c := 2) rfl]
  refine w_sld hK (by omega) (by omega) d_W_law_522 ?_
  refine w_v2 (k' := 4) hK lm_W_66 d_W_law_523 ⟨_, hX.1.1⟩ (by decide) hz (Nat.le_of_ble_eq_true rfl) ?_
  refine c_X_letter hX hJ.x (fun G1 hX1 f1 => kc_s ?_)
  have hV1 := hV.frm f1 (by omega)
  refine w_aload_n hK d_W_law_526 rfl ?_
  refine w_aload_n hK d_W_law_527 rfl ?_
  refine w_iload_n hK d_W_law_528 rfl ?_
  refine w_iconst hK d_W_law_529 kc_1 ?_
  refine w_iadd hK d_W_law_530 ?_
  rw [ix1 (k := 1) (c := 1) rfl]
  refine w_sld hK (by omega) (by omega) d_W_law_531 ?_
  refine w_aload_n hK d_W_law_532 rfl ?_
  refine w_iload_n hK d_W_law_533 rfl ?_
  refine w_iconst hK d_W_law_534 kc_2 ?_
  refine w_iadd hK d_W_law_535 ?_
  rw [ix1 (k := 2) (c := 2) rfl]
  refine w_sld hK (by omega) (by omega) d_W_law_536 ?_
  refine w_v2 (k' := 3) hK lm_W_69 d_W_law_537 ⟨_, hV1.1⟩ (by decide) hz (Nat.le_of_ble_eq_true rfl) ?_
  refine c_M_letter hV1 hS hJ.m (fun G2 hM2 f2 => kc_s ?_)
  refine w_icmp_eq (tgt := 1132) hK d_W_law_540 rfl (fun _ => ?_) (fun h => absurd rfl h)
  exact kk _ _ (hX1.fr f2 (by omega)) hM2 hJ
theorem lawc_13 {E : gX} {sz0 sz L b x c i : Nat} {xs : Nat → Int32} {G0 G : gG} {K : Nat → List (Option Value) → List Value → Nat → gG → Prop} (hK : Cw E "ClockPostLaw" code ret 4 sz0 G0 b L xs K) {st : Bool} {nw : Nat → Int32} {ac : Nat → Nat → Int32} {na : Nat} {ik : Nat → Bool} {im : Nat → Nat → Int32} {rp : Nat → Bool} {rl : Nat → Int32} {rs : Nat → Nat} {ri : Nat → Nat → Int32} {tp : Nat → Int32} {tn : Nat} {lf : Int32} {fd : Int32} {tr : Nat → Int32} {un : Nat} (hX : XV G x (st, nw, ac, na, ik, im, rp, rl, rs, ri, tp, tn, lf, fd, tr, un)) (hM : MR G c (st, nw, ac, na, ik, im, rp, rl, rs, ri, tp, tn, lf, fd, tr, un)) (hJ : JI (st, nw, ac, na, ik, im, rp, rl, rs, ri, tp, tn, lf, fd, tr, un)) (hd : x + 309 ≤ c ∨ c + 10 ≤ x) (hz : sz ≤ sz0 + 6000) (hi : i + 5 < L) (hL : L ≤ 384) (kk : ∀ (G' : gG) (s' : gS), XV G' x s' → MR G' c s' → JI s' → K 1132 [some (.ref b), some (.ref x), some (.ref c), some (.int (nI i))] [] sz G') : K 545 [some (.ref b), some (.ref x), some (.ref c), some (.int (nI i))] [] sz G := by
  obtain ⟨f, w, A, hV, hS⟩ := hM
  refine w_aload_n hK d_W_law_545 rfl ?_
  refine w_aload_n hK d_W_law_546 rfl ?_
  refine w_iload_n hK d_W_law_547 rfl ?_
  refine w_iconst hK d_W_law_548 kc_1 ?_
  refine w_iadd hK d_W_law_549 ?_
  rw [ix1 (k := 1) (c := 1) rfl]
  refine w_sld hK (by omega) (by omega) d_W_law_550 ?_
  refine w_v1 (k' := 7) hK lm_W_70 d_W_law_551 ⟨_, hX.1.1⟩ (by decide) hz (Nat.le_of_ble_eq_true rfl) ?_
  refine c_X_burden hX hJ.x (fun G1 hX1 f1 => kc_s ?_)
  have hV1 := hV.frm f1 (by omega)
  refine w_aload_n hK d_W_law_554 rfl ?_
  refine w_aload_n hK d_W_law_555 rfl ?_
  refine w_iload_n hK d_W_law_556 rfl ?_
  refine w_iconst hK d_W_law_557 kc_1 ?_
  refine w_iadd hK d_W_law_558 ?_
  rw [ix1 (k := 1) (c := 1) rfl]
  refine w_sld hK (by omega) (by omega) d_W_law_559 ?_
  refine w_v1 (k' := 7) hK lm_W_73 d_W_law_560 ⟨_, hV1.1⟩ (by decide) hz (Nat.le_of_ble_eq_true rfl) ?_
  refine c_M_burden hV1 hS hJ.m (fun G2 hM2 f2 => kc_s ?_)
  refine w_icmp_eq (tgt := 1132) hK d_W_law_563 rfl (fun _ => ?_) (fun h => absurd rfl h)
  exact kk _ _ (hX1.fr f2 (by omega)) hM2 hJ
theorem lawc_14 {E : gX} {sz0 sz L b x c i : Nat} {xs : Nat → Int32} {G0 G : gG} {K : Nat → List (Option Value) → List Value → Nat → gG → Prop} (hK : Cw E "ClockPostLaw" code ret 4 sz0 G0 b L xs K) {st : Bool} {nw : Nat → Int32} {ac : Nat → Nat → Int32} {na : Nat} {ik : Nat → Bool} {im : Nat → Nat → Int32} {rp : Nat → Bool} {rl : Nat → Int32} {rs : Nat → Nat} {ri : Nat → Nat → Int32} {tp : Nat → Int32} {tn : Nat} {lf : Int32} {fd : Int32} {tr : Nat → Int32} {un : Nat} (hX : XV G x (st, nw, ac, na, ik, im, rp, rl, rs, ri, tp, tn, lf, fd, tr, un)) (hM : MR G c (st, nw, ac, na, ik, im, rp, rl, rs, ri, tp, tn, lf, fd, tr, un)) (hJ : JI (st, nw, ac, na, ik, im, rp, rl, rs, ri, tp, tn, lf, fd, tr, un)) (hd : x + 309 ≤ c ∨ c + 10 ≤ x) (hz : sz ≤ sz0 + 6000) (hi : i + 5 < L) (hL : L ≤ 384) (kk : ∀ (G' : gG) (s' : gS), XV G' x s' → MR G' c s' → JI s' → K 1132 [some (.ref b), some (.ref x), some (.ref c), some (.int (nI i))] [] sz G') : K 568 [some (.ref b), some (.ref x), some (.ref c), some (.int (nI i))] [] sz G := by
  obtain ⟨f, w, A, hV, hS⟩ := hM
  refine w_aload_n hK d_W_law_568 rfl ?_
  refine w_aload_n hK d_W_law_569 rfl ?_
  refine w_iload_n hK d_W_law_570 rfl ?_
  refine w_iconst hK d_W_law_571 kc_1 ?_
  refine w_iadd hK d_W_law_572 ?_
  rw [ix1 (k := 1) (c := 1) rfl]
  refine w_sld hK (by omega) (by omega) d_W_law_573 ?_
  refine w_v1 (k' := 7) hK lm_W_74 d_W_law_574 ⟨_, hX.1.1⟩ (by decide) hz (Nat.le_of_ble_eq_true rfl) ?_
  refine c_X_sum hX hJ.x (fun G1 hX1 f1 => kc_s ?_)
  have hV1 := hV.frm f1 (by omega)
  refine w_aload_n hK d_W_law_577 rfl ?_
  refine w_aload_n hK d_W_law_578 rfl ?_
  refine w_iload_n hK d_W_law_579 rfl ?_
  refine w_iconst hK d_W_law_580 kc_1 ?_
  refine w_iadd hK d_W_law_581 ?_
  rw [ix1 (k := 1) (c := 1) rfl]
  refine w_sld hK (by omega) (by omega) d_W_law_582 ?_
  refine w_v1 (k' := 7) hK lm_W_77 d_W_law_583 ⟨_, hV1.1⟩ (by decide) hz (Nat.le_of_ble_eq_true rfl) ?_
  refine c_M_sum hV1 hS hJ.m (fun G2 hM2 f2 => kc_s ?_)
  refine w_icmp_eq (tgt := 1132) hK d_W_law_586 rfl (fun _ => ?_) (fun h => absurd rfl h)
  exact kk _ _ (hX1.fr f2 (by omega)) hM2 hJ
theorem lawc_15 {E : gX} {sz0 sz L b x c i : Nat} {xs : Nat → Int32} {G0 G : gG} {K : Nat → List (Option Value) → List Value → Nat → gG → Prop} (hK : Cw E "ClockPostLaw" code ret 4 sz0 G0 b L xs K) {st : Bool} {nw : Nat → Int32} {ac : Nat → Nat → Int32} {na : Nat} {ik : Nat → Bool} {im : Nat → Nat → Int32} {rp : Nat → Bool} {rl : Nat → Int32} {rs : Nat → Nat} {ri : Nat → Nat → Int32} {tp : Nat → Int32} {tn : Nat} {lf : Int32} {fd : Int32} {tr : Nat → Int32} {un : Nat} (hX : XV G x (st, nw, ac, na, ik, im, rp, rl, rs, ri, tp, tn, lf, fd, tr, un)) (hM : MR G c (st, nw, ac, na, ik, im, rp, rl, rs, ri, tp, tn, lf, fd, tr, un)) (hJ : JI (st, nw, ac, na, ik, im, rp, rl, rs, ri, tp, tn, lf, fd, tr, un)) (hd : x + 309 ≤ c ∨ c + 10 ≤ x) (hz : sz ≤ sz0 + 6000) (hi : i + 5 < L) (hL : L ≤ 384) (kk : ∀ (G' : gG) (s' : gS), XV G' x s' → MR G' c s' → JI s' → K 1132 [some (.ref b), some (.ref x), some (.ref c), some (.int (nI i))] [] sz G') : K 591 [some (.ref b), some (.ref x), some (.ref c), some (.int (nI i))] [] sz G := by
  obtain ⟨f, w, A, hV, hS⟩ := hM
  refine w_aload_n hK d_W_law_591 rfl ?_
  refine w_aload_n hK d_W_law_592 rfl ?_
  refine w_iload_n hK d_W_law_593 rfl ?_
  refine w_iconst hK d_W_law_594 kc_1 ?_
  refine w_iadd hK d_W_law_595 ?_
  rw [ix1 (k := 1) (c := 1) rfl]
  refine w_sld hK (by omega) (by omega) d_W_law_596 ?_
  refine w_v1 (k' := 7) hK lm_W_78 d_W_law_597 ⟨_, hX.1.1⟩ (by decide) hz (Nat.le_of_ble_eq_true rfl) ?_
  refine c_X_behind hX hJ.x (fun G1 hX1 f1 => kc_s ?_)
  have hV1 := hV.frm f1 (by omega)
  refine w_aload_n hK d_W_law_600 rfl ?_
  refine w_aload_n hK d_W_law_601 rfl ?_
  refine w_iload_n hK d_W_law_602 rfl ?_
  refine w_iconst hK d_W_law_603 kc_1 ?_
  refine w_iadd hK d_W_law_604 ?_
  rw [ix1 (k := 1) (c := 1) rfl]
  refine w_sld hK (by omega) (by omega) d_W_law_605 ?_
  refine w_v1 (k' := 7) hK lm_W_81 d_W_law_606 ⟨_, hV1.1⟩ (by decide) hz (Nat.le_of_ble_eq_true rfl) ?_
  refine c_M_behind hV1 hS hJ.m (fun G2 hM2 f2 => kc_s ?_)
  refine w_icmp_eq (tgt := 1132) hK d_W_law_609 rfl (fun _ => ?_) (fun h => absurd rfl h)
  exact kk _ _ (hX1.fr f2 (by omega)) hM2 hJ
theorem lawc_16 {E : gX} {sz0 sz L b x c i : Nat} {xs : Nat → Int32} {G0 G : gG} {K : Nat → List (Option Value) → List Value → Nat → gG → Prop} (hK : Cw E "ClockPostLaw" code ret 4 sz0 G0 b L xs K) {st : Bool} {nw : Nat → Int32} {ac : Nat → Nat → Int32} {na : Nat} {ik : Nat → Bool} {im : Nat → Nat → Int32} {rp : Nat → Bool} {rl : Nat → Int32} {rs : Nat → Nat} {ri : Nat → Nat → Int32} {tp : Nat → Int32} {tn : Nat} {lf : Int32} {fd : Int32} {tr : Nat → Int32} {un : Nat} (hX : XV G x (st, nw, ac, na, ik, im, rp, rl, rs, ri, tp, tn, lf, fd, tr, un)) (hM : MR G c (st, nw, ac, na, ik, im, rp, rl, rs, ri, tp, tn, lf, fd, tr, un)) (hJ : JI (st, nw, ac, na, ik, im, rp, rl, rs, ri, tp, tn, lf, fd, tr, un)) (hd : x + 309 ≤ c ∨ c + 10 ≤ x) (hz : sz ≤ sz0 + 6000) (hi : i + 5 < L) (hL : L ≤ 384) (kk : ∀ (G' : gG) (s' : gS), XV G' x s' → MR G' c s' → JI s' → K 1132 [some (.ref b), some (.ref x), some (.ref c), some (.int (nI i))] [] sz G') : K 614 [some (.ref b), some (.ref x), some (.ref c), some (.int (nI i))] [] sz G := by
  obtain ⟨f, w, A, hV, hS⟩ := hM
  refine w_aload_n hK d_W_law_614 rfl ?_
  refine w_aload_n hK d_W_law_615 rfl ?_
  refine w_iload_n hK d_W_law_616 rfl ?_
  refine w_iconst hK d_W_law_617 kc_1 ?_
  refine w_iadd hK d_W_law_618 ?_
  rw [ix1 (k := 1) (c := 1) rfl]
  refine w_sld hK (by omega) (by omega) d_W_law_619 ?_
  refine w_v1 (k' := 6) hK lm_W_82 d_W_law_620 ⟨_, hX.1.1⟩ (by decide) hz (Nat.le_of_ble_eq_true rfl) ?_
  refine c_X_falls hX hJ.x (fun G1 hX1 f1 => kc_s ?_)
  have hV1 := hV.frm f1 (by omega)
  refine w_aload_n hK d_W_law_623 rfl ?_
  refine w_aload_n hK d_W_law_624 rfl ?_
  refine w_iload_n hK d_W_law_625 rfl ?_
  refine w_iconst hK d_W_law_626 kc_1 ?_
  refine w_iadd hK d_W_law_627 ?_
  rw [ix1 (k := 1) (c := 1) rfl]
  refine w_sld hK (by omega) (by omega) d_W_law_628 ?_
  refine w_v1 (k' := 5) hK lm_W_85 d_W_law_629 ⟨_, hV1.1⟩ (by decide) hz (Nat.le_of_ble_eq_true rfl) ?_
  refine c_M_falls hV1 hS hJ.m (fun G2 hM2 f2 => kc_s ?_)
  refine w_icmp_eq (tgt := 1132) hK d_W_law_632 rfl (fun _ => ?_) (fun h => absurd rfl h)
  exact kk _ _ (hX1.fr f2 (by omega)) hM2 hJ
theorem lawc_17 {E : gX} {sz0 sz L b x c i : Nat} {xs : Nat → Int32} {G0 G : gG} {K : Nat → List (Option Value) → List Value → Nat → gG → Prop} (hK : Cw E "ClockPostLaw" code ret 4 sz0 G0 b L xs K) {st : Bool} {nw : Nat → Int32} {ac : Nat → Nat → Int32} {na : Nat} {ik : Nat → Bool} {im : Nat → Nat → Int32} {rp : Nat → Bool} {rl : Nat → Int32} {rs : Nat → Nat} {ri : Nat → Nat → Int32} {tp : Nat → Int32} {tn : Nat} {lf : Int32} {fd : Int32} {tr : Nat → Int32} {un : Nat} (hX : XV G x (st, nw, ac, na, ik, im, rp, rl, rs, ri, tp, tn, lf, fd, tr, un)) (hM : MR G c (st, nw, ac, na, ik, im, rp, rl, rs, ri, tp, tn, lf, fd, tr, un)) (hJ : JI (st, nw, ac, na, ik, im, rp, rl, rs, ri, tp, tn, lf, fd, tr, un)) (hd : x + 309 ≤ c ∨ c + 10 ≤ x) (hz : sz ≤ sz0 + 6000) (hi : i + 5 < L) (hL : L ≤ 384) (kk : ∀ (G' : gG) (s' : gS), XV G' x s' → MR G' c s' → JI s' → K 1132 [some (.ref b), some (.ref x), some (.ref c), some (.int (nI i))] [] sz G') : K 637 [some (.ref b), some (.ref x), some (.ref c), some (.int (nI i))] [] sz G := by
  obtain ⟨f, w, A, hV, hS⟩ := hM
  refine w_aload_n hK d_W_law_637 rfl ?_
  refine w_aload_n hK d_W_law_638 rfl ?_
  refine w_iload_n hK d_W_law_639 rfl ?_
  refine w_iconst hK d_W_law_640 kc_1 ?_
  refine w_iadd hK d_W_law_641 ?_
  rw [ix1 (k := 1) (c := 1) rfl]
  refine w_sld hK (by omega) (by omega) d_W_law_642 ?_
  refine w_aload_n hK d_W_law_643 rfl ?_
  refine w_iload_n hK d_W_law_644 rfl ?_
  refine w_iconst hK d_W_law_645 kc_2 ?_
  refine w_iadd hK d_W_law_646 ?_
  rw [ix1 (k := 2) (c := 2) rfl]
  refine w_sld hK (by omega) (by omega) d_W_law_647 ?_
  refine w_v2 (k' := 32) hK lm_W_86 d_W_law_648 ⟨_, hX.1.1⟩ (by decide) hz (Nat.le_of_ble_eq_true rfl) ?_
  refine c_X_order hX hJ.x (fun G1 tr0 bst0 hX1 f1 => kc_s ?_)
  have hV1 := hV.frm f1 (by omega)
  refine w_aload_n hK d_W_law_651 rfl ?_
  refine w_aload_n hK d_W_law_652 rfl ?_
  refine w_iload_n hK d_W_law_653 rfl ?_
  refine w_iconst hK d_W_law_654 kc_1 ?_
  refine w_iadd hK d_W_law_655 ?_
  rw [ix1 (k := 1) (c := 1) rfl]
  refine w_sld hK (by omega) (by omega) d_W_law_656 ?_
  refine w_aload_n hK d_W_law_657 rfl ?_
  refine w_iload_n hK d_W_law_658 rfl ?_
  refine w_iconst hK d_W_law_659 kc_2 ?_
  refine w_iadd hK d_W_law_660 ?_
  rw [ix1 (k := 2) (c := 2) rfl]
  refine w_sld hK (by omega) (by omega) d_W_law_661 ?_
  refine w_v2 (k' := 6) hK lm_W_89 d_W_law_662 ⟨_, hV1.1⟩ (by decide) hz (Nat.le_of_ble_eq_true rfl) ?_
  refine c_M_order hV1 hS hJ.m (fun G2 z hM2 f2 hz2 => kc_s ?_)
  refine w_icmp_eq (tgt := 1132) hK d_W_law_665 rfl (fun _ => ?_) (fun h => absurd (hz2 tr0 bst0).symm h)
  exact kk _ _ (hX1.fr f2 (by omega)) hM2 hJ
theorem lawc_18 {E : gX} {sz0 sz L b x c i : Nat} {xs : Nat → Int32} {G0 G : gG} {K : Nat → List (Option Value) → List Value → Nat → gG → Prop} (hK : Cw E "ClockPostLaw" code ret 4 sz0 G0 b L xs K) {st : Bool} {nw : Nat → Int32} {ac : Nat → Nat → Int32} {na : Nat} {ik : Nat → Bool} {im : Nat → Nat → Int32} {rp : Nat → Bool} {rl : Nat → Int32} {rs : Nat → Nat} {ri : Nat → Nat → Int32} {tp : Nat → Int32} {tn : Nat} {lf : Int32} {fd : Int32} {tr : Nat → Int32} {un : Nat} (hX : XV G x (st, nw, ac, na, ik, im, rp, rl, rs, ri, tp, tn, lf, fd, tr, un)) (hM : MR G c (st, nw, ac, na, ik, im, rp, rl, rs, ri, tp, tn, lf, fd, tr, un)) (hJ : JI (st, nw, ac, na, ik, im, rp, rl, rs, ri, tp, tn, lf, fd, tr, un)) (hd : x + 309 ≤ c ∨ c + 10 ≤ x) (hz : sz ≤ sz0 + 6000) (hi : i + 5 < L) (hL : L ≤ 384) (kk : ∀ (G' : gG) (s' : gS), XV G' x s' → MR G' c s' → JI s' → K 1132 [some (.ref b), some (.ref x), some (.ref c), some (.int (nI i))] [] sz G') : K 670 [some (.ref b), some (.ref x), some (.ref c), some (.int (nI i))] [] sz G := by
  obtain ⟨f, w, A, hV, hS⟩ := hM
  refine w_aload_n hK d_W_law_670 rfl ?_
  refine w_aload_n hK d_W_law_671 rfl ?_
  refine w_iload_n hK d_W_law_672 rfl ?_
  refine w_iconst hK d_W_law_673 kc_1 ?_
  refine w_iadd hK d_W_law_674 ?_
  rw [ix1 (k := 1) (c := 1) rfl]
  refine w_sld hK (by omega) (by omega) d_W_law_675 ?_
  refine w_aload_n hK d_W_law_676 rfl ?_
  refine w_iload_n hK d_W_law_677 rfl ?_
  refine w_iconst hK d_W_law_678 kc_2 ?_
  refine w_iadd hK d_W_law_679 ?_
  rw [ix1 (k := 2) (c := 2) rfl]
  refine w_sld hK (by omega) (by omega) d_W_law_680 ?_
  refine w_v2 (k' := 7) hK lm_W_90 d_W_law_681 ⟨_, hX.1.1⟩ (by decide) hz (Nat.le_of_ble_eq_true rfl) ?_
  refine c_X_hold hX hJ.x (fun G1 hX1 f1 => kc_s ?_)
  have hV1 := hV.frm f1 (by omega)
  refine w_aload_n hK d_W_law_684 rfl ?_
  refine w_aload_n hK d_W_law_685 rfl ?_
  refine w_iload_n hK d_W_law_686 rfl ?_
  refine w_iconst hK d_W_law_687 kc_1 ?_
  refine w_iadd hK d_W_law_688 ?_
  rw [ix1 (k := 1) (c := 1) rfl]
  refine w_sld hK (by omega) (by omega) d_W_law_689 ?_
  refine w_aload_n hK d_W_law_690 rfl ?_
  refine w_iload_n hK d_W_law_691 rfl ?_
  refine w_iconst hK d_W_law_692 kc_2 ?_
  refine w_iadd hK d_W_law_693 ?_
  rw [ix1 (k := 2) (c := 2) rfl]
  refine w_sld hK (by omega) (by omega) d_W_law_694 ?_
  refine w_v2 (k' := 7) hK lm_W_93 d_W_law_695 ⟨_, hV1.1⟩ (by decide) hz (Nat.le_of_ble_eq_true rfl) ?_
  refine c_M_hold hV1 hS hJ.m (fun G2 hM2 f2 => kc_s ?_)
  refine w_icmp_eq (tgt := 1132) hK d_W_law_698 rfl (fun _ => ?_) (fun h => absurd rfl h)
  exact kk _ _ (hX1.fr f2 (by omega)) hM2 hJ
theorem lawc_19 {E : gX} {sz0 sz L b x c i : Nat} {xs : Nat → Int32} {G0 G : gG} {K : Nat → List (Option Value) → List Value → Nat → gG → Prop} (hK : Cw E "ClockPostLaw" code ret 4 sz0 G0 b L xs K) {st : Bool} {nw : Nat → Int32} {ac : Nat → Nat → Int32} {na : Nat} {ik : Nat → Bool} {im : Nat → Nat → Int32} {rp : Nat → Bool} {rl : Nat → Int32} {rs : Nat → Nat} {ri : Nat → Nat → Int32} {tp : Nat → Int32} {tn : Nat} {lf : Int32} {fd : Int32} {tr : Nat → Int32} {un : Nat} (hX : XV G x (st, nw, ac, na, ik, im, rp, rl, rs, ri, tp, tn, lf, fd, tr, un)) (hM : MR G c (st, nw, ac, na, ik, im, rp, rl, rs, ri, tp, tn, lf, fd, tr, un)) (hJ : JI (st, nw, ac, na, ik, im, rp, rl, rs, ri, tp, tn, lf, fd, tr, un)) (hd : x + 309 ≤ c ∨ c + 10 ≤ x) (hz : sz ≤ sz0 + 6000) (hi : i + 5 < L) (hL : L ≤ 384) (kk : ∀ (G' : gG) (s' : gS), XV G' x s' → MR G' c s' → JI s' → K 1132 [some (.ref b), some (.ref x), some (.ref c), some (.int (nI i))] [] sz G') : K 703 [some (.ref b), some (.ref x), some (.ref c), some (.int (nI i))] [] sz G := by
  obtain ⟨f, w, A, hV, hS⟩ := hM
  refine w_aload_n hK d_W_law_703 rfl ?_
  refine w_aload_n hK d_W_law_704 rfl ?_
  refine w_iload_n hK d_W_law_705 rfl ?_
  refine w_iconst hK d_W_law_706 kc_1 ?_
  refine w_iadd hK d_W_law_707 ?_
  rw [ix1 (k := 1) (c := 1) rfl]
  refine w_sld hK (by omega) (by omega) d_W_law_708 ?_
  refine w_aload_n hK d_W_law_709 rfl ?_
  refine w_iload_n hK d_W_law_710 rfl ?_
  refine w_iconst hK d_W_law_711 kc_2 ?_
  refine w_iadd hK d_W_law_712 ?_
  rw [ix1 (k := 2) (c := 2) rfl]
  refine w_sld hK (by omega) (by omega) d_W_law_713 ?_
  refine w_aload_n hK d_W_law_714 rfl ?_
  refine w_iload_n hK d_W_law_715 rfl ?_
  refine w_iconst hK d_W_law_716 kc_3 ?_
  refine w_iadd hK d_W_law_717 ?_
  rw [ix1 (k := 3) (c := 3) rfl]
  refine w_sld hK (by omega) (by omega) d_W_law_718 ?_
  refine w_v3 (k' := 7) hK lm_W_94 d_W_law_719 ⟨_, hX.1.1⟩ (by decide) hz (Nat.le_of_ble_eq_true rfl) ?_
  refine c_X_ease hX hJ.x (fun G1 hX1 f1 => kc_s ?_)
  have hV1 := hV.frm f1 (by omega)
  refine w_aload_n hK d_W_law_722 rfl ?_
  refine w_aload_n hK d_W_law_723 rfl ?_
  refine w_iload_n hK d_W_law_724 rfl ?_
  refine w_iconst hK d_W_law_725 kc_1 ?_
  refine w_iadd hK d_W_law_726 ?_
  rw [ix1 (k := 1) (c := 1) rfl]
  refine w_sld hK (by omega) (by omega) d_W_law_727 ?_
  refine w_aload_n hK d_W_law_728 rfl ?_
  refine w_iload_n hK d_W_law_729 rfl ?_
  refine w_iconst hK d_W_law_730 kc_2 ?_
  refine w_iadd hK d_W_law_731 ?_
  rw [ix1 (k := 2) (c := 2) rfl]
  refine w_sld hK (by omega) (by omega) d_W_law_732 ?_
  refine w_aload_n hK d_W_law_733 rfl ?_
  refine w_iload_n hK d_W_law_734 rfl ?_
  refine w_iconst hK d_W_law_735 kc_3 ?_
  refine w_iadd hK d_W_law_736 ?_
  rw [ix1 (k := 3) (c := 3) rfl]
  refine w_sld hK (by omega) (by omega) d_W_law_737 ?_
  refine w_v3 (k' := 7) hK lm_W_97 d_W_law_738 ⟨_, hV1.1⟩ (by decide) hz (Nat.le_of_ble_eq_true rfl) ?_
  refine c_M_ease hV1 hS hJ.m (fun G2 hM2 f2 => kc_s ?_)
  refine w_icmp_eq (tgt := 1132) hK d_W_law_741 rfl (fun _ => ?_) (fun h => absurd rfl h)
  exact kk _ _ (hX1.fr f2 (by omega)) hM2 hJ
theorem lawc_20 {E : gX} {sz0 sz L b x c i : Nat} {xs : Nat → Int32} {G0 G : gG} {K : Nat → List (Option Value) → List Value → Nat → gG → Prop} (hK : Cw E "ClockPostLaw" code ret 4 sz0 G0 b L xs K) {st : Bool} {nw : Nat → Int32} {ac : Nat → Nat → Int32} {na : Nat} {ik : Nat → Bool} {im : Nat → Nat → Int32} {rp : Nat → Bool} {rl : Nat → Int32} {rs : Nat → Nat} {ri : Nat → Nat → Int32} {tp : Nat → Int32} {tn : Nat} {lf : Int32} {fd : Int32} {tr : Nat → Int32} {un : Nat} (hX : XV G x (st, nw, ac, na, ik, im, rp, rl, rs, ri, tp, tn, lf, fd, tr, un)) (hM : MR G c (st, nw, ac, na, ik, im, rp, rl, rs, ri, tp, tn, lf, fd, tr, un)) (hJ : JI (st, nw, ac, na, ik, im, rp, rl, rs, ri, tp, tn, lf, fd, tr, un)) (hd : x + 309 ≤ c ∨ c + 10 ≤ x) (hz : sz ≤ sz0 + 6000) (hi : i + 5 < L) (hL : L ≤ 384) (kk : ∀ (G' : gG) (s' : gS), XV G' x s' → MR G' c s' → JI s' → K 1132 [some (.ref b), some (.ref x), some (.ref c), some (.int (nI i))] [] sz G') : K 746 [some (.ref b), some (.ref x), some (.ref c), some (.int (nI i))] [] sz G := by
  obtain ⟨f, w, A, hV, hS⟩ := hM
  refine w_aload_n hK d_W_law_746 rfl ?_
  refine w_aload_n hK d_W_law_747 rfl ?_
  refine w_iload_n hK d_W_law_748 rfl ?_
  refine w_iconst hK d_W_law_749 kc_1 ?_
  refine w_iadd hK d_W_law_750 ?_
  rw [ix1 (k := 1) (c := 1) rfl]
  refine w_sld hK (by omega) (by omega) d_W_law_751 ?_
  refine w_aload_n hK d_W_law_752 rfl ?_
  refine w_iload_n hK d_W_law_753 rfl ?_
  refine w_iconst hK d_W_law_754 kc_2 ?_
  refine w_iadd hK d_W_law_755 ?_
  rw [ix1 (k := 2) (c := 2) rfl]
  refine w_sld hK (by omega) (by omega) d_W_law_756 ?_
  refine w_aload_n hK d_W_law_757 rfl ?_
  refine w_iload_n hK d_W_law_758 rfl ?_
  refine w_iconst hK d_W_law_759 kc_3 ?_
  refine w_iadd hK d_W_law_760 ?_
  rw [ix1 (k := 3) (c := 3) rfl]
  refine w_sld hK (by omega) (by omega) d_W_law_761 ?_
  refine w_aload_n hK d_W_law_762 rfl ?_
  refine w_iload_n hK d_W_law_763 rfl ?_
  refine w_iconst hK d_W_law_764 kc_4 ?_
  refine w_iadd hK d_W_law_765 ?_
  rw [ix1 (k := 4) (c := 4) rfl]
  refine w_sld hK (by omega) (by omega) d_W_law_766 ?_
  refine w_aload_n hK d_W_law_767 rfl ?_
  refine w_iload_n hK d_W_law_768 rfl ?_
  refine w_iconst hK d_W_law_769 kc_5 ?_
  refine w_iadd hK d_W_law_770 ?_
  rw [ix1 (k := 5) (c := 5) rfl]
  refine w_sld hK (by omega) (by omega) d_W_law_771 ?_
  refine w_v5 (k' := 7) hK lm_W_98 d_W_law_772 ⟨_, hX.1.1⟩ (by decide) hz (Nat.le_of_ble_eq_true rfl) ?_
  refine c_X_fits hX hJ.x (fun G1 hX1 f1 => kc_s ?_)
  have hV1 := hV.frm f1 (by omega)
  refine w_aload_n hK d_W_law_775 rfl ?_
  refine w_aload_n hK d_W_law_776 rfl ?_
  refine w_iload_n hK d_W_law_777 rfl ?_
  refine w_iconst hK d_W_law_778 kc_1 ?_
  refine w_iadd hK d_W_law_779 ?_
  rw [ix1 (k := 1) (c := 1) rfl]
  refine w_sld hK (by omega) (by omega) d_W_law_780 ?_
  refine w_aload_n hK d_W_law_781 rfl ?_
  refine w_iload_n hK d_W_law_782 rfl ?_
  refine w_iconst hK d_W_law_783 kc_2 ?_
  refine w_iadd hK d_W_law_784 ?_
  rw [ix1 (k := 2) (c := 2) rfl]
  refine w_sld hK (by omega) (by omega) d_W_law_785 ?_
  refine w_aload_n hK d_W_law_786 rfl ?_
  refine w_iload_n hK d_W_law_787 rfl ?_
  refine w_iconst hK d_W_law_788 kc_3 ?_
  refine w_iadd hK d_W_law_789 ?_
  rw [ix1 (k := 3) (c := 3) rfl]
  refine w_sld hK (by omega) (by omega) d_W_law_790 ?_
  refine w_aload_n hK d_W_law_791 rfl ?_
  refine w_iload_n hK d_W_law_792 rfl ?_
  refine w_iconst hK d_W_law_793 kc_4 ?_
  refine w_iadd hK d_W_law_794 ?_
  rw [ix1 (k := 4) (c := 4) rfl]
  refine w_sld hK (by omega) (by omega) d_W_law_795 ?_
  refine w_aload_n hK d_W_law_796 rfl ?_
  refine w_iload_n hK d_W_law_797 rfl ?_
  refine w_iconst hK d_W_law_798 kc_5 ?_
  refine w_iadd hK d_W_law_799 ?_
  rw [ix1 (k := 5) (c := 5) rfl]
  refine w_sld hK (by omega) (by omega) d_W_law_800 ?_
  refine w_v5 (k' := 6) hK lm_W_101 d_W_law_801 ⟨_, hV1.1⟩ (by decide) hz (Nat.le_of_ble_eq_true rfl) ?_
  refine c_M_fits hV1 hS hJ.m (fun G2 hM2 f2 => kc_s ?_)
  refine w_icmp_eq (tgt := 1132) hK d_W_law_804 rfl (fun _ => ?_) (fun h => absurd rfl h)
  exact kk _ _ (hX1.fr f2 (by omega)) hM2 (J_fits hJ)
theorem lawc_21 {E : gX} {sz0 sz L b x c i : Nat} {xs : Nat → Int32} {G0 G : gG} {K : Nat → List (Option Value) → List Value → Nat → gG → Prop} (hK : Cw E "ClockPostLaw" code ret 4 sz0 G0 b L xs K) {st : Bool} {nw : Nat → Int32} {ac : Nat → Nat → Int32} {na : Nat} {ik : Nat → Bool} {im : Nat → Nat → Int32} {rp : Nat → Bool} {rl : Nat → Int32} {rs : Nat → Nat} {ri : Nat → Nat → Int32} {tp : Nat → Int32} {tn : Nat} {lf : Int32} {fd : Int32} {tr : Nat → Int32} {un : Nat} (hX : XV G x (st, nw, ac, na, ik, im, rp, rl, rs, ri, tp, tn, lf, fd, tr, un)) (hM : MR G c (st, nw, ac, na, ik, im, rp, rl, rs, ri, tp, tn, lf, fd, tr, un)) (hJ : JI (st, nw, ac, na, ik, im, rp, rl, rs, ri, tp, tn, lf, fd, tr, un)) (hd : x + 309 ≤ c ∨ c + 10 ≤ x) (hz : sz ≤ sz0 + 6000) (hi : i + 5 < L) (hL : L ≤ 384) (kk : ∀ (G' : gG) (s' : gS), XV G' x s' → MR G' c s' → JI s' → K 1132 [some (.ref b), some (.ref x), some (.ref c), some (.int (nI i))] [] sz G') : K 809 [some (.ref b), some (.ref x), some (.ref c), some (.int (nI i))] [] sz G := by
  obtain ⟨f, w, A, hV, hS⟩ := hM
  refine w_aload_n hK d_W_law_809 rfl ?_
  refine w_aload_n hK d_W_law_810 rfl ?_
  refine w_iload_n hK d_W_law_811 rfl ?_
  refine w_iconst hK d_W_law_812 kc_1 ?_
  refine w_iadd hK d_W_law_813 ?_
  rw [ix1 (k := 1) (c := 1) rfl]
  refine w_sld hK (by omega) (by omega) d_W_law_814 ?_
  refine w_aload_n hK d_W_law_815 rfl ?_
  refine w_iload_n hK d_W_law_816 rfl ?_
  refine w_iconst hK d_W_law_817 kc_2 ?_
  refine w_iadd hK d_W_law_818 ?_
  rw [ix1 (k := 2) (c := 2) rfl]
  refine w_sld hK (by omega) (by omega) d_W_law_819 ?_
  refine w_aload_n hK d_W_law_820 rfl ?_
  refine w_iload_n hK d_W_law_821 rfl ?_
  refine w_iconst hK d_W_law_822 kc_3 ?_
  refine w_iadd hK d_W_law_823 ?_
  rw [ix1 (k := 3) (c := 3) rfl]
  refine w_sld hK (by omega) (by omega) d_W_law_824 ?_
  refine w_v3 (k' := 7) hK lm_W_102 d_W_law_825 ⟨_, hX.1.1⟩ (by decide) hz (Nat.le_of_ble_eq_true rfl) ?_
  refine c_X_stealth hX hJ.x (fun G1 hX1 f1 => kc_s ?_)
  have hV1 := hV.frm f1 (by omega)
  refine w_aload_n hK d_W_law_828 rfl ?_
  refine w_aload_n hK d_W_law_829 rfl ?_
  refine w_iload_n hK d_W_law_830 rfl ?_
  refine w_iconst hK d_W_law_831 kc_1 ?_
  refine w_iadd hK d_W_law_832 ?_
  rw [ix1 (k := 1) (c := 1) rfl]
  refine w_sld hK (by omega) (by omega) d_W_law_833 ?_
  refine w_aload_n hK d_W_law_834 rfl ?_
  refine w_iload_n hK d_W_law_835 rfl ?_
  refine w_iconst hK d_W_law_836 kc_2 ?_
  refine w_iadd hK d_W_law_837 ?_
  rw [ix1 (k := 2) (c := 2) rfl]
  refine w_sld hK (by omega) (by omega) d_W_law_838 ?_
  refine w_aload_n hK d_W_law_839 rfl ?_
  refine w_iload_n hK d_W_law_840 rfl ?_
  refine w_iconst hK d_W_law_841 kc_3 ?_
  refine w_iadd hK d_W_law_842 ?_
  rw [ix1 (k := 3) (c := 3) rfl]
  refine w_sld hK (by omega) (by omega) d_W_law_843 ?_
  refine w_v3 (k' := 6) hK lm_W_105 d_W_law_844 ⟨_, hV1.1⟩ (by decide) hz (Nat.le_of_ble_eq_true rfl) ?_
  refine c_M_stealth hV1 hS hJ.m (fun G2 hM2 f2 => kc_s ?_)
  refine w_icmp_eq (tgt := 1132) hK d_W_law_847 rfl (fun _ => ?_) (fun h => absurd rfl h)
  exact kk _ _ (hX1.fr f2 (by omega)) hM2 (J_stealth hJ)
theorem lawc_22 {E : gX} {sz0 sz L b x c i : Nat} {xs : Nat → Int32} {G0 G : gG} {K : Nat → List (Option Value) → List Value → Nat → gG → Prop} (hK : Cw E "ClockPostLaw" code ret 4 sz0 G0 b L xs K) {st : Bool} {nw : Nat → Int32} {ac : Nat → Nat → Int32} {na : Nat} {ik : Nat → Bool} {im : Nat → Nat → Int32} {rp : Nat → Bool} {rl : Nat → Int32} {rs : Nat → Nat} {ri : Nat → Nat → Int32} {tp : Nat → Int32} {tn : Nat} {lf : Int32} {fd : Int32} {tr : Nat → Int32} {un : Nat} (hX : XV G x (st, nw, ac, na, ik, im, rp, rl, rs, ri, tp, tn, lf, fd, tr, un)) (hM : MR G c (st, nw, ac, na, ik, im, rp, rl, rs, ri, tp, tn, lf, fd, tr, un)) (hJ : JI (st, nw, ac, na, ik, im, rp, rl, rs, ri, tp, tn, lf, fd, tr, un)) (hd : x + 309 ≤ c ∨ c + 10 ≤ x) (hz : sz ≤ sz0 + 6000) (hi : i + 5 < L) (hL : L ≤ 384) (kk : ∀ (G' : gG) (s' : gS), XV G' x s' → MR G' c s' → JI s' → K 1132 [some (.ref b), some (.ref x), some (.ref c), some (.int (nI i))] [] sz G') : K 852 [some (.ref b), some (.ref x), some (.ref c), some (.int (nI i))] [] sz G := by
  obtain ⟨f, w, A, hV, hS⟩ := hM
  refine w_aload_n hK d_W_law_852 rfl ?_
  refine w_aload_n hK d_W_law_853 rfl ?_
  refine w_iload_n hK d_W_law_854 rfl ?_
  refine w_iconst hK d_W_law_855 kc_1 ?_
  refine w_iadd hK d_W_law_856 ?_
  rw [ix1 (k := 1) (c := 1) rfl]
  refine w_sld hK (by omega) (by omega) d_W_law_857 ?_
  refine w_aload_n hK d_W_law_858 rfl ?_
  refine w_iload_n hK d_W_law_859 rfl ?_
  refine w_iconst hK d_W_law_860 kc_2 ?_
  refine w_iadd hK d_W_law_861 ?_
  rw [ix1 (k := 2) (c := 2) rfl]
  refine w_sld hK (by omega) (by omega) d_W_law_862 ?_
  refine w_aload_n hK d_W_law_863 rfl ?_
  refine w_iload_n hK d_W_law_864 rfl ?_
  refine w_iconst hK d_W_law_865 kc_3 ?_
  refine w_iadd hK d_W_law_866 ?_
  rw [ix1 (k := 3) (c := 3) rfl]
  refine w_sld hK (by omega) (by omega) d_W_law_867 ?_
  refine w_v3 (k' := 5) hK lm_W_106 d_W_law_868 ⟨_, hX.1.1⟩ (by decide) hz (Nat.le_of_ble_eq_true rfl) ?_
  refine c_X_lost hX hJ.x (fun G1 hX1 f1 => kc_s ?_)
  have hV1 := hV.frm f1 (by omega)
  refine w_aload_n hK d_W_law_871 rfl ?_
  refine w_aload_n hK d_W_law_872 rfl ?_
  refine w_iload_n hK d_W_law_873 rfl ?_
  refine w_iconst hK d_W_law_874 kc_1 ?_
  refine w_iadd hK d_W_law_875 ?_
  rw [ix1 (k := 1) (c := 1) rfl]
  refine w_sld hK (by omega) (by omega) d_W_law_876 ?_
  refine w_aload_n hK d_W_law_877 rfl ?_
  refine w_iload_n hK d_W_law_878 rfl ?_
  refine w_iconst hK d_W_law_879 kc_2 ?_
  refine w_iadd hK d_W_law_880 ?_
  rw [ix1 (k := 2) (c := 2) rfl]
  refine w_sld hK (by omega) (by omega) d_W_law_881 ?_
  refine w_aload_n hK d_W_law_882 rfl ?_
  refine w_iload_n hK d_W_law_883 rfl ?_
  refine w_iconst hK d_W_law_884 kc_3 ?_
  refine w_iadd hK d_W_law_885 ?_
  rw [ix1 (k := 3) (c := 3) rfl]
  refine w_sld hK (by omega) (by omega) d_W_law_886 ?_
  refine w_v3 (k' := 4) hK lm_W_109 d_W_law_887 ⟨_, hV1.1⟩ (by decide) hz (Nat.le_of_ble_eq_true rfl) ?_
  refine c_M_lost hV1 hS hJ.m (fun G2 hM2 f2 => kc_s ?_)
  refine w_icmp_eq (tgt := 1132) hK d_W_law_890 rfl (fun _ => ?_) (fun h => absurd rfl h)
  exact kk _ _ (hX1.fr f2 (by omega)) hM2 hJ
theorem lawc_23 {E : gX} {sz0 sz L b x c i : Nat} {xs : Nat → Int32} {G0 G : gG} {K : Nat → List (Option Value) → List Value → Nat → gG → Prop} (hK : Cw E "ClockPostLaw" code ret 4 sz0 G0 b L xs K) {st : Bool} {nw : Nat → Int32} {ac : Nat → Nat → Int32} {na : Nat} {ik : Nat → Bool} {im : Nat → Nat → Int32} {rp : Nat → Bool} {rl : Nat → Int32} {rs : Nat → Nat} {ri : Nat → Nat → Int32} {tp : Nat → Int32} {tn : Nat} {lf : Int32} {fd : Int32} {tr : Nat → Int32} {un : Nat} (hX : XV G x (st, nw, ac, na, ik, im, rp, rl, rs, ri, tp, tn, lf, fd, tr, un)) (hM : MR G c (st, nw, ac, na, ik, im, rp, rl, rs, ri, tp, tn, lf, fd, tr, un)) (hJ : JI (st, nw, ac, na, ik, im, rp, rl, rs, ri, tp, tn, lf, fd, tr, un)) (hd : x + 309 ≤ c ∨ c + 10 ≤ x) (hz : sz ≤ sz0 + 6000) (hi : i + 5 < L) (hL : L ≤ 384) (kk : ∀ (G' : gG) (s' : gS), XV G' x s' → MR G' c s' → JI s' → K 1132 [some (.ref b), some (.ref x), some (.ref c), some (.int (nI i))] [] sz G') : K 895 [some (.ref b), some (.ref x), some (.ref c), some (.int (nI i))] [] sz G := by
  obtain ⟨f, w, A, hV, hS⟩ := hM
  refine w_aload_n hK d_W_law_895 rfl ?_
  refine w_aload_n hK d_W_law_896 rfl ?_
  refine w_iload_n hK d_W_law_897 rfl ?_
  refine w_iconst hK d_W_law_898 kc_1 ?_
  refine w_iadd hK d_W_law_899 ?_
  rw [ix1 (k := 1) (c := 1) rfl]
  refine w_sld hK (by omega) (by omega) d_W_law_900 ?_
  refine w_aload_n hK d_W_law_901 rfl ?_
  refine w_iload_n hK d_W_law_902 rfl ?_
  refine w_iconst hK d_W_law_903 kc_2 ?_
  refine w_iadd hK d_W_law_904 ?_
  rw [ix1 (k := 2) (c := 2) rfl]
  refine w_sld hK (by omega) (by omega) d_W_law_905 ?_
  refine w_aload_n hK d_W_law_906 rfl ?_
  refine w_iload_n hK d_W_law_907 rfl ?_
  refine w_iconst hK d_W_law_908 kc_3 ?_
  refine w_iadd hK d_W_law_909 ?_
  rw [ix1 (k := 3) (c := 3) rfl]
  refine w_sld hK (by omega) (by omega) d_W_law_910 ?_
  refine w_v3 (k' := 6) hK lm_W_110 d_W_law_911 ⟨_, hX.1.1⟩ (by decide) hz (Nat.le_of_ble_eq_true rfl) ?_
  refine c_X_drawn hX hJ.x (fun G1 hX1 f1 => kc_s ?_)
  have hV1 := hV.frm f1 (by omega)
  refine w_aload_n hK d_W_law_914 rfl ?_
  refine w_aload_n hK d_W_law_915 rfl ?_
  refine w_iload_n hK d_W_law_916 rfl ?_
  refine w_iconst hK d_W_law_917 kc_1 ?_
  refine w_iadd hK d_W_law_918 ?_
  rw [ix1 (k := 1) (c := 1) rfl]
  refine w_sld hK (by omega) (by omega) d_W_law_919 ?_
  refine w_aload_n hK d_W_law_920 rfl ?_
  refine w_iload_n hK d_W_law_921 rfl ?_
  refine w_iconst hK d_W_law_922 kc_2 ?_
  refine w_iadd hK d_W_law_923 ?_
  rw [ix1 (k := 2) (c := 2) rfl]
  refine w_sld hK (by omega) (by omega) d_W_law_924 ?_
  refine w_aload_n hK d_W_law_925 rfl ?_
  refine w_iload_n hK d_W_law_926 rfl ?_
  refine w_iconst hK d_W_law_927 kc_3 ?_
  refine w_iadd hK d_W_law_928 ?_
  rw [ix1 (k := 3) (c := 3) rfl]
  refine w_sld hK (by omega) (by omega) d_W_law_929 ?_
  refine w_v3 (k' := 5) hK lm_W_113 d_W_law_930 ⟨_, hV1.1⟩ (by decide) hz (Nat.le_of_ble_eq_true rfl) ?_
  refine c_M_drawn hV1 hS hJ.m (fun G2 hM2 f2 => kc_s ?_)
  refine w_icmp_eq (tgt := 1132) hK d_W_law_933 rfl (fun _ => ?_) (fun h => absurd rfl h)
  exact kk _ _ (hX1.fr f2 (by omega)) hM2 hJ
theorem lawc_24 {E : gX} {sz0 sz L b x c i : Nat} {xs : Nat → Int32} {G0 G : gG} {K : Nat → List (Option Value) → List Value → Nat → gG → Prop} (hK : Cw E "ClockPostLaw" code ret 4 sz0 G0 b L xs K) {st : Bool} {nw : Nat → Int32} {ac : Nat → Nat → Int32} {na : Nat} {ik : Nat → Bool} {im : Nat → Nat → Int32} {rp : Nat → Bool} {rl : Nat → Int32} {rs : Nat → Nat} {ri : Nat → Nat → Int32} {tp : Nat → Int32} {tn : Nat} {lf : Int32} {fd : Int32} {tr : Nat → Int32} {un : Nat} (hX : XV G x (st, nw, ac, na, ik, im, rp, rl, rs, ri, tp, tn, lf, fd, tr, un)) (hM : MR G c (st, nw, ac, na, ik, im, rp, rl, rs, ri, tp, tn, lf, fd, tr, un)) (hJ : JI (st, nw, ac, na, ik, im, rp, rl, rs, ri, tp, tn, lf, fd, tr, un)) (hd : x + 309 ≤ c ∨ c + 10 ≤ x) (hz : sz ≤ sz0 + 6000) (hi : i + 5 < L) (hL : L ≤ 384) (kk : ∀ (G' : gG) (s' : gS), XV G' x s' → MR G' c s' → JI s' → K 1132 [some (.ref b), some (.ref x), some (.ref c), some (.int (nI i))] [] sz G') : K 938 [some (.ref b), some (.ref x), some (.ref c), some (.int (nI i))] [] sz G := by
  obtain ⟨f, w, A, hV, hS⟩ := hM
  refine w_aload_n hK d_W_law_938 rfl ?_
  refine w_aload_n hK d_W_law_939 rfl ?_
  refine w_iload_n hK d_W_law_940 rfl ?_
  refine w_iconst hK d_W_law_941 kc_1 ?_
  refine w_iadd hK d_W_law_942 ?_
  rw [ix1 (k := 1) (c := 1) rfl]
  refine w_sld hK (by omega) (by omega) d_W_law_943 ?_
  refine w_v1 (k' := 3) hK lm_W_114 d_W_law_944 ⟨_, hX.1.1⟩ (by decide) hz (Nat.le_of_ble_eq_true rfl) ?_
  refine c_X_image hX hJ.x (fun G1 hX1 f1 => kc_s ?_)
  have hV1 := hV.frm f1 (by omega)
  refine w_aload_n hK d_W_law_947 rfl ?_
  refine w_aload_n hK d_W_law_948 rfl ?_
  refine w_iload_n hK d_W_law_949 rfl ?_
  refine w_iconst hK d_W_law_950 kc_1 ?_
  refine w_iadd hK d_W_law_951 ?_
  rw [ix1 (k := 1) (c := 1) rfl]
  refine w_sld hK (by omega) (by omega) d_W_law_952 ?_
  refine w_v1 (k' := 2) hK lm_W_117 d_W_law_953 ⟨_, hV1.1⟩ (by decide) hz (Nat.le_of_ble_eq_true rfl) ?_
  refine c_M_image hV1 hS hJ.m (fun G2 hM2 f2 => kc_s ?_)
  refine w_icmp_eq (tgt := 1132) hK d_W_law_956 rfl (fun _ => ?_) (fun h => absurd rfl h)
  exact kk _ _ (hX1.fr f2 (by omega)) hM2 (J_image hJ)
theorem lawc_25 {E : gX} {sz0 sz L b x c i : Nat} {xs : Nat → Int32} {G0 G : gG} {K : Nat → List (Option Value) → List Value → Nat → gG → Prop} (hK : Cw E "ClockPostLaw" code ret 4 sz0 G0 b L xs K) {st : Bool} {nw : Nat → Int32} {ac : Nat → Nat → Int32} {na : Nat} {ik : Nat → Bool} {im : Nat → Nat → Int32} {rp : Nat → Bool} {rl : Nat → Int32} {rs : Nat → Nat} {ri : Nat → Nat → Int32} {tp : Nat → Int32} {tn : Nat} {lf : Int32} {fd : Int32} {tr : Nat → Int32} {un : Nat} (hX : XV G x (st, nw, ac, na, ik, im, rp, rl, rs, ri, tp, tn, lf, fd, tr, un)) (hM : MR G c (st, nw, ac, na, ik, im, rp, rl, rs, ri, tp, tn, lf, fd, tr, un)) (hJ : JI (st, nw, ac, na, ik, im, rp, rl, rs, ri, tp, tn, lf, fd, tr, un)) (hd : x + 309 ≤ c ∨ c + 10 ≤ x) (hz : sz ≤ sz0 + 6000) (hi : i + 5 < L) (hL : L ≤ 384) (kk : ∀ (G' : gG) (s' : gS), XV G' x s' → MR G' c s' → JI s' → K 1132 [some (.ref b), some (.ref x), some (.ref c), some (.int (nI i))] [] sz G') : K 961 [some (.ref b), some (.ref x), some (.ref c), some (.int (nI i))] [] sz G := by
  obtain ⟨f, w, A, hV, hS⟩ := hM
  refine w_aload_n hK d_W_law_961 rfl ?_
  refine w_aload_n hK d_W_law_962 rfl ?_
  refine w_iload_n hK d_W_law_963 rfl ?_
  refine w_iconst hK d_W_law_964 kc_1 ?_
  refine w_iadd hK d_W_law_965 ?_
  rw [ix1 (k := 1) (c := 1) rfl]
  refine w_sld hK (by omega) (by omega) d_W_law_966 ?_
  refine w_v1 (k' := 3) hK lm_W_118 d_W_law_967 ⟨_, hX.1.1⟩ (by decide) hz (Nat.le_of_ble_eq_true rfl) ?_
  refine c_X_restore hX hJ.x (fun G1 hX1 f1 => kc_s ?_)
  have hV1 := hV.frm f1 (by omega)
  refine w_aload_n hK d_W_law_970 rfl ?_
  refine w_aload_n hK d_W_law_971 rfl ?_
  refine w_iload_n hK d_W_law_972 rfl ?_
  refine w_iconst hK d_W_law_973 kc_1 ?_
  refine w_iadd hK d_W_law_974 ?_
  rw [ix1 (k := 1) (c := 1) rfl]
  refine w_sld hK (by omega) (by omega) d_W_law_975 ?_
  refine w_v1 (k' := 2) hK lm_W_121 d_W_law_976 ⟨_, hV1.1⟩ (by decide) hz (Nat.le_of_ble_eq_true rfl) ?_
  refine c_M_restore hV1 hS hJ.m (fun G2 hM2 f2 => kc_s ?_)
  refine w_icmp_eq (tgt := 1132) hK d_W_law_979 rfl (fun _ => ?_) (fun h => absurd rfl h)
  exact kk _ _ (hX1.fr f2 (by omega)) hM2 (J_restore hJ)
theorem lawc_26 {E : gX} {sz0 sz L b x c i : Nat} {xs : Nat → Int32} {G0 G : gG} {K : Nat → List (Option Value) → List Value → Nat → gG → Prop} (hK : Cw E "ClockPostLaw" code ret 4 sz0 G0 b L xs K) {st : Bool} {nw : Nat → Int32} {ac : Nat → Nat → Int32} {na : Nat} {ik : Nat → Bool} {im : Nat → Nat → Int32} {rp : Nat → Bool} {rl : Nat → Int32} {rs : Nat → Nat} {ri : Nat → Nat → Int32} {tp : Nat → Int32} {tn : Nat} {lf : Int32} {fd : Int32} {tr : Nat → Int32} {un : Nat} (hX : XV G x (st, nw, ac, na, ik, im, rp, rl, rs, ri, tp, tn, lf, fd, tr, un)) (hM : MR G c (st, nw, ac, na, ik, im, rp, rl, rs, ri, tp, tn, lf, fd, tr, un)) (hJ : JI (st, nw, ac, na, ik, im, rp, rl, rs, ri, tp, tn, lf, fd, tr, un)) (hd : x + 309 ≤ c ∨ c + 10 ≤ x) (hz : sz ≤ sz0 + 6000) (hi : i + 5 < L) (hL : L ≤ 384) (kk : ∀ (G' : gG) (s' : gS), XV G' x s' → MR G' c s' → JI s' → K 1132 [some (.ref b), some (.ref x), some (.ref c), some (.int (nI i))] [] sz G') : K 984 [some (.ref b), some (.ref x), some (.ref c), some (.int (nI i))] [] sz G := by
  obtain ⟨f, w, A, hV, hS⟩ := hM
  refine w_aload_n hK d_W_law_984 rfl ?_
  refine w_aload_n hK d_W_law_985 rfl ?_
  refine w_iload_n hK d_W_law_986 rfl ?_
  refine w_iconst hK d_W_law_987 kc_1 ?_
  refine w_iadd hK d_W_law_988 ?_
  rw [ix1 (k := 1) (c := 1) rfl]
  refine w_sld hK (by omega) (by omega) d_W_law_989 ?_
  refine w_v1 (k' := 2) hK lm_W_122 d_W_law_990 ⟨_, hX.1.1⟩ (by decide) hz (Nat.le_of_ble_eq_true rfl) ?_
  refine c_X_kind hX hJ.x (fun G1 hX1 f1 => kc_s ?_)
  have hV1 := hV.frm f1 (by omega)
  refine w_aload_n hK d_W_law_993 rfl ?_
  refine w_aload_n hK d_W_law_994 rfl ?_
  refine w_iload_n hK d_W_law_995 rfl ?_
  refine w_iconst hK d_W_law_996 kc_1 ?_
  refine w_iadd hK d_W_law_997 ?_
  rw [ix1 (k := 1) (c := 1) rfl]
  refine w_sld hK (by omega) (by omega) d_W_law_998 ?_
  refine w_v1 (k' := 3) hK lm_W_125 d_W_law_999 ⟨_, hV1.1⟩ (by decide) hz (Nat.le_of_ble_eq_true rfl) ?_
  refine c_M_kind hV1 hS hJ.m (fun G2 hM2 f2 => kc_s ?_)
  refine w_icmp_eq (tgt := 1132) hK d_W_law_1002 rfl (fun _ => ?_) (fun h => absurd rfl h)
  exact kk _ _ (hX1.fr f2 (by omega)) hM2 hJ
theorem lawc_27 {E : gX} {sz0 sz L b x c i : Nat} {xs : Nat → Int32} {G0 G : gG} {K : Nat → List (Option Value) → List Value → Nat → gG → Prop} (hK : Cw E "ClockPostLaw" code ret 4 sz0 G0 b L xs K) {st : Bool} {nw : Nat → Int32} {ac : Nat → Nat → Int32} {na : Nat} {ik : Nat → Bool} {im : Nat → Nat → Int32} {rp : Nat → Bool} {rl : Nat → Int32} {rs : Nat → Nat} {ri : Nat → Nat → Int32} {tp : Nat → Int32} {tn : Nat} {lf : Int32} {fd : Int32} {tr : Nat → Int32} {un : Nat} (hX : XV G x (st, nw, ac, na, ik, im, rp, rl, rs, ri, tp, tn, lf, fd, tr, un)) (hM : MR G c (st, nw, ac, na, ik, im, rp, rl, rs, ri, tp, tn, lf, fd, tr, un)) (hJ : JI (st, nw, ac, na, ik, im, rp, rl, rs, ri, tp, tn, lf, fd, tr, un)) (hd : x + 309 ≤ c ∨ c + 10 ≤ x) (hz : sz ≤ sz0 + 6000) (hi : i + 5 < L) (hL : L ≤ 384) (kk : ∀ (G' : gG) (s' : gS), XV G' x s' → MR G' c s' → JI s' → K 1132 [some (.ref b), some (.ref x), some (.ref c), some (.int (nI i))] [] sz G') : K 1007 [some (.ref b), some (.ref x), some (.ref c), some (.int (nI i))] [] sz G := by
  obtain ⟨f, w, A, hV, hS⟩ := hM
  refine w_aload_n hK d_W_law_1007 rfl ?_
  refine w_aload_n hK d_W_law_1008 rfl ?_
  refine w_iload_n hK d_W_law_1009 rfl ?_
  refine w_iconst hK d_W_law_1010 kc_1 ?_
  refine w_iadd hK d_W_law_1011 ?_
  rw [ix1 (k := 1) (c := 1) rfl]
  refine w_sld hK (by omega) (by omega) d_W_law_1012 ?_
  refine w_aload_n hK d_W_law_1013 rfl ?_
  refine w_iload_n hK d_W_law_1014 rfl ?_
  refine w_iconst hK d_W_law_1015 kc_2 ?_
  refine w_iadd hK d_W_law_1016 ?_
  rw [ix1 (k := 2) (c := 2) rfl]
  refine w_sld hK (by omega) (by omega) d_W_law_1017 ?_
  refine w_v2 (k' := 4) hK lm_W_126 d_W_law_1018 ⟨_, hX.1.1⟩ (by decide) hz (Nat.le_of_ble_eq_true rfl) ?_
  refine c_X_as hX hJ.x (fun G1 hX1 f1 => kc_s ?_)
  have hV1 := hV.frm f1 (by omega)
  refine w_aload_n hK d_W_law_1021 rfl ?_
  refine w_aload_n hK d_W_law_1022 rfl ?_
  refine w_iload_n hK d_W_law_1023 rfl ?_
  refine w_iconst hK d_W_law_1024 kc_1 ?_
  refine w_iadd hK d_W_law_1025 ?_
  rw [ix1 (k := 1) (c := 1) rfl]
  refine w_sld hK (by omega) (by omega) d_W_law_1026 ?_
  refine w_aload_n hK d_W_law_1027 rfl ?_
  refine w_iload_n hK d_W_law_1028 rfl ?_
  refine w_iconst hK d_W_law_1029 kc_2 ?_
  refine w_iadd hK d_W_law_1030 ?_
  rw [ix1 (k := 2) (c := 2) rfl]
  refine w_sld hK (by omega) (by omega) d_W_law_1031 ?_
  refine w_v2 (k' := 3) hK lm_W_129 d_W_law_1032 ⟨_, hV1.1⟩ (by decide) hz (Nat.le_of_ble_eq_true rfl) ?_
  refine c_M_as hV1 hS hJ.m (fun G2 hM2 f2 => kc_s ?_)
  refine w_icmp_eq (tgt := 1132) hK d_W_law_1035 rfl (fun _ => ?_) (fun h => absurd rfl h)
  exact kk _ _ (hX1.fr f2 (by omega)) hM2 (J_as hJ)
theorem lawc_28 {E : gX} {sz0 sz L b x c i : Nat} {xs : Nat → Int32} {G0 G : gG} {K : Nat → List (Option Value) → List Value → Nat → gG → Prop} (hK : Cw E "ClockPostLaw" code ret 4 sz0 G0 b L xs K) {st : Bool} {nw : Nat → Int32} {ac : Nat → Nat → Int32} {na : Nat} {ik : Nat → Bool} {im : Nat → Nat → Int32} {rp : Nat → Bool} {rl : Nat → Int32} {rs : Nat → Nat} {ri : Nat → Nat → Int32} {tp : Nat → Int32} {tn : Nat} {lf : Int32} {fd : Int32} {tr : Nat → Int32} {un : Nat} (hX : XV G x (st, nw, ac, na, ik, im, rp, rl, rs, ri, tp, tn, lf, fd, tr, un)) (hM : MR G c (st, nw, ac, na, ik, im, rp, rl, rs, ri, tp, tn, lf, fd, tr, un)) (hJ : JI (st, nw, ac, na, ik, im, rp, rl, rs, ri, tp, tn, lf, fd, tr, un)) (hd : x + 309 ≤ c ∨ c + 10 ≤ x) (hz : sz ≤ sz0 + 6000) (hi : i + 5 < L) (hL : L ≤ 384) (kk : ∀ (G' : gG) (s' : gS), XV G' x s' → MR G' c s' → JI s' → K 1132 [some (.ref b), some (.ref x), some (.ref c), some (.int (nI i))] [] sz G') : K 1040 [some (.ref b), some (.ref x), some (.ref c), some (.int (nI i))] [] sz G := by
  obtain ⟨f, w, A, hV, hS⟩ := hM
  refine w_aload_n hK d_W_law_1040 rfl ?_
  refine w_aload_n hK d_W_law_1041 rfl ?_
  refine w_iload_n hK d_W_law_1042 rfl ?_
  refine w_iconst hK d_W_law_1043 kc_1 ?_
  refine w_iadd hK d_W_law_1044 ?_
  rw [ix1 (k := 1) (c := 1) rfl]
  refine w_sld hK (by omega) (by omega) d_W_law_1045 ?_
  refine w_aload_n hK d_W_law_1046 rfl ?_
  refine w_iload_n hK d_W_law_1047 rfl ?_
  refine w_iconst hK d_W_law_1048 kc_2 ?_
  refine w_iadd hK d_W_law_1049 ?_
  rw [ix1 (k := 2) (c := 2) rfl]
  refine w_sld hK (by omega) (by omega) d_W_law_1050 ?_
  refine w_v2 (k' := 31) hK lm_W_130 d_W_law_1051 ⟨_, hX.1.1⟩ (by decide) hz (Nat.le_of_ble_eq_true rfl) ?_
  refine c_X_ask hX hJ.x (fun G1 hX1 f1 => kc_s ?_)
  have hV1 := hV.frm f1 (by omega)
  refine w_aload_n hK d_W_law_1054 rfl ?_
  refine w_aload_n hK d_W_law_1055 rfl ?_
  refine w_iload_n hK d_W_law_1056 rfl ?_
  refine w_iconst hK d_W_law_1057 kc_1 ?_
  refine w_iadd hK d_W_law_1058 ?_
  rw [ix1 (k := 1) (c := 1) rfl]
  refine w_sld hK (by omega) (by omega) d_W_law_1059 ?_
  refine w_aload_n hK d_W_law_1060 rfl ?_
  refine w_iload_n hK d_W_law_1061 rfl ?_
  refine w_iconst hK d_W_law_1062 kc_2 ?_
  refine w_iadd hK d_W_law_1063 ?_
  rw [ix1 (k := 2) (c := 2) rfl]
  refine w_sld hK (by omega) (by omega) d_W_law_1064 ?_
  refine w_v2 (k' := 8) hK lm_W_133 d_W_law_1065 ⟨_, hV1.1⟩ (by decide) hz (Nat.le_of_ble_eq_true rfl) ?_
  refine c_M_ask hV1 hS hJ.m (fun G2 hM2 f2 => kc_s ?_)
  refine w_icmp_eq (tgt := 1132) hK d_W_law_1068 rfl (fun _ => ?_) (fun h => absurd rfl h)
  exact kk _ _ (hX1.fr f2 (by omega)) hM2 (J_ask hJ)
theorem lawc_29 {E : gX} {sz0 sz L b x c i : Nat} {xs : Nat → Int32} {G0 G : gG} {K : Nat → List (Option Value) → List Value → Nat → gG → Prop} (hK : Cw E "ClockPostLaw" code ret 4 sz0 G0 b L xs K) {st : Bool} {nw : Nat → Int32} {ac : Nat → Nat → Int32} {na : Nat} {ik : Nat → Bool} {im : Nat → Nat → Int32} {rp : Nat → Bool} {rl : Nat → Int32} {rs : Nat → Nat} {ri : Nat → Nat → Int32} {tp : Nat → Int32} {tn : Nat} {lf : Int32} {fd : Int32} {tr : Nat → Int32} {un : Nat} (hX : XV G x (st, nw, ac, na, ik, im, rp, rl, rs, ri, tp, tn, lf, fd, tr, un)) (hM : MR G c (st, nw, ac, na, ik, im, rp, rl, rs, ri, tp, tn, lf, fd, tr, un)) (hJ : JI (st, nw, ac, na, ik, im, rp, rl, rs, ri, tp, tn, lf, fd, tr, un)) (hd : x + 309 ≤ c ∨ c + 10 ≤ x) (hz : sz ≤ sz0 + 6000) (hi : i + 5 < L) (hL : L ≤ 384) (kk : ∀ (G' : gG) (s' : gS), XV G' x s' → MR G' c s' → JI s' → K 1132 [some (.ref b), some (.ref x), some (.ref c), some (.int (nI i))] [] sz G') : K 1073 [some (.ref b), some (.ref x), some (.ref c), some (.int (nI i))] [] sz G := by
  obtain ⟨f, w, A, hV, hS⟩ := hM
  refine w_aload_n hK d_W_law_1073 rfl ?_
  refine w_aload_n hK d_W_law_1074 rfl ?_
  refine w_iload_n hK d_W_law_1075 rfl ?_
  refine w_iconst hK d_W_law_1076 kc_1 ?_
  refine w_iadd hK d_W_law_1077 ?_
  rw [ix1 (k := 1) (c := 1) rfl]
  refine w_sld hK (by omega) (by omega) d_W_law_1078 ?_
  refine w_v1 (k' := 2) hK lm_W_134 d_W_law_1079 ⟨_, hX.1.1⟩ (by decide) hz (Nat.le_of_ble_eq_true rfl) ?_
  refine c_X_trace hX hJ.x (fun G1 hX1 f1 => kc_s ?_)
  have hV1 := hV.frm f1 (by omega)
  refine w_aload_n hK d_W_law_1082 rfl ?_
  refine w_aload_n hK d_W_law_1083 rfl ?_
  refine w_iload_n hK d_W_law_1084 rfl ?_
  refine w_iconst hK d_W_law_1085 kc_1 ?_
  refine w_iadd hK d_W_law_1086 ?_
  rw [ix1 (k := 1) (c := 1) rfl]
  refine w_sld hK (by omega) (by omega) d_W_law_1087 ?_
  refine w_v1 (k' := 2) hK lm_W_137 d_W_law_1088 ⟨_, hV1.1⟩ (by decide) hz (Nat.le_of_ble_eq_true rfl) ?_
  refine c_M_trace hV1 hS hJ.m (fun G2 hM2 f2 => kc_s ?_)
  refine w_icmp_eq (tgt := 1132) hK d_W_law_1091 rfl (fun _ => ?_) (fun h => absurd rfl h)
  exact kk _ _ (hX1.fr f2 (by omega)) hM2 hJ
theorem lawc_30 {E : gX} {sz0 sz L b x c i : Nat} {xs : Nat → Int32} {G0 G : gG} {K : Nat → List (Option Value) → List Value → Nat → gG → Prop} (hK : Cw E "ClockPostLaw" code ret 4 sz0 G0 b L xs K) {st : Bool} {nw : Nat → Int32} {ac : Nat → Nat → Int32} {na : Nat} {ik : Nat → Bool} {im : Nat → Nat → Int32} {rp : Nat → Bool} {rl : Nat → Int32} {rs : Nat → Nat} {ri : Nat → Nat → Int32} {tp : Nat → Int32} {tn : Nat} {lf : Int32} {fd : Int32} {tr : Nat → Int32} {un : Nat} (hX : XV G x (st, nw, ac, na, ik, im, rp, rl, rs, ri, tp, tn, lf, fd, tr, un)) (hM : MR G c (st, nw, ac, na, ik, im, rp, rl, rs, ri, tp, tn, lf, fd, tr, un)) (hJ : JI (st, nw, ac, na, ik, im, rp, rl, rs, ri, tp, tn, lf, fd, tr, un)) (hd : x + 309 ≤ c ∨ c + 10 ≤ x) (hz : sz ≤ sz0 + 6000) (hi : i + 5 < L) (hL : L ≤ 384) (kk : ∀ (G' : gG) (s' : gS), XV G' x s' → MR G' c s' → JI s' → K 1132 [some (.ref b), some (.ref x), some (.ref c), some (.int (nI i))] [] sz G') : K 1096 [some (.ref b), some (.ref x), some (.ref c), some (.int (nI i))] [] sz G := by
  obtain ⟨f, w, A, hV, hS⟩ := hM
  refine w_aload_n hK d_W_law_1096 rfl ?_
  refine w_aload_n hK d_W_law_1097 rfl ?_
  refine w_iload_n hK d_W_law_1098 rfl ?_
  refine w_iconst hK d_W_law_1099 kc_1 ?_
  refine w_iadd hK d_W_law_1100 ?_
  rw [ix1 (k := 1) (c := 1) rfl]
  refine w_sld hK (by omega) (by omega) d_W_law_1101 ?_
  refine w_v1 (k' := 4) hK lm_W_138 d_W_law_1102 ⟨_, hX.1.1⟩ (by decide) hz (Nat.le_of_ble_eq_true rfl) ?_
  refine c_X_count hX hJ.x (fun G1 hX1 f1 => kc_s ?_)
  have hV1 := hV.frm f1 (by omega)
  refine w_aload_n hK d_W_law_1105 rfl ?_
  refine w_aload_n hK d_W_law_1106 rfl ?_
  refine w_iload_n hK d_W_law_1107 rfl ?_
  refine w_iconst hK d_W_law_1108 kc_1 ?_
  refine w_iadd hK d_W_law_1109 ?_
  rw [ix1 (k := 1) (c := 1) rfl]
  refine w_sld hK (by omega) (by omega) d_W_law_1110 ?_
  refine w_v1 (k' := 3) hK lm_W_141 d_W_law_1111 ⟨_, hV1.1⟩ (by decide) hz (Nat.le_of_ble_eq_true rfl) ?_
  refine c_M_count hV1 hS hJ.m (fun G2 hM2 f2 => kc_s ?_)
  refine w_icmp_eq (tgt := 1132) hK d_W_law_1114 rfl (fun _ => ?_) (fun h => absurd rfl h)
  exact kk _ _ (hX1.fr f2 (by omega)) hM2 hJ
theorem lawc_31 {E : gX} {sz0 sz L b x c i : Nat} {xs : Nat → Int32} {G0 G : gG} {K : Nat → List (Option Value) → List Value → Nat → gG → Prop} (hK : Cw E "ClockPostLaw" code ret 4 sz0 G0 b L xs K) {st : Bool} {nw : Nat → Int32} {ac : Nat → Nat → Int32} {na : Nat} {ik : Nat → Bool} {im : Nat → Nat → Int32} {rp : Nat → Bool} {rl : Nat → Int32} {rs : Nat → Nat} {ri : Nat → Nat → Int32} {tp : Nat → Int32} {tn : Nat} {lf : Int32} {fd : Int32} {tr : Nat → Int32} {un : Nat} (hX : XV G x (st, nw, ac, na, ik, im, rp, rl, rs, ri, tp, tn, lf, fd, tr, un)) (hM : MR G c (st, nw, ac, na, ik, im, rp, rl, rs, ri, tp, tn, lf, fd, tr, un)) (hJ : JI (st, nw, ac, na, ik, im, rp, rl, rs, ri, tp, tn, lf, fd, tr, un)) (hd : x + 309 ≤ c ∨ c + 10 ≤ x) (hz : sz ≤ sz0 + 6000) (hi : i + 5 < L) (hL : L ≤ 384) (kk : ∀ (G' : gG) (s' : gS), XV G' x s' → MR G' c s' → JI s' → K 1132 [some (.ref b), some (.ref x), some (.ref c), some (.int (nI i))] [] sz G') : K 1119 [some (.ref b), some (.ref x), some (.ref c), some (.int (nI i))] [] sz G := by
  obtain ⟨f, w, A, hV, hS⟩ := hM
  refine w_aload_n hK d_W_law_1119 rfl ?_
  refine w_v0 (k' := 1) hK lm_W_142 d_W_law_1120 ⟨_, hX.1.1⟩ (by decide) hz (Nat.le_of_ble_eq_true rfl) ?_
  refine c_X_status hX hJ.x (fun G1 hX1 f1 => kc_s ?_)
  have hV1 := hV.frm f1 (by omega)
  refine w_aload_n hK d_W_law_1123 rfl ?_
  refine w_v0 (k' := 1) hK lm_W_145 d_W_law_1124 ⟨_, hV1.1⟩ (by decide) hz (Nat.le_of_ble_eq_true rfl) ?_
  refine c_M_status hV1 hS hJ.m (fun G2 hM2 f2 => kc_s ?_)
  refine w_icmp_eq (tgt := 1132) hK d_W_law_1127 rfl (fun _ => ?_) (fun h => absurd rfl h)
  exact kk _ _ (hX1.fr f2 (by omega)) hM2 hJ
