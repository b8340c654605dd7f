/-! THE LAW -/
def bz (x : Int32) : Int32 := if x = 0 then 0 else 1
theorem bz_of {x z : Int32} (h : (x = 0 ∧ z = 0) ∨ (¬ x = 0 ∧ z = 1)) : z = bz x := by
  unfold bz
  rcases h with ⟨a, b⟩ | ⟨a, b⟩
  · rw [if_pos a, b]
  · rw [if_neg a, b]
theorem bz_01 (x : Int32) : bz x = 0 ∨ bz x = 1 := by unfold bz; split; exact Or.inl rfl; exact Or.inr rfl
theorem bz_b (x : Int32) : bI ((!decide (x = 0)) = true) = bz x := by
  unfold bz
  by_cases h : x = 0
  · rw [if_pos h]; exact bI_f (by simp [h])
  · rw [if_neg h]; exact bI_t (by simp [h])
theorem e_sldX {M : MD} {κ : Nat × Nat} {Q : Option Value → AH → Prop} {pc pc2 : Nat} {h : AH} {ls : List (Option Value)} {st : List Value} {i : Int32} {k L : Nat} {xs : Nat → Int32} (hs : h.1 = (L, xs)) (hd : decode M.2.1 pc = .ok (.iaload, 1) ∧ pc2 = pc + 1) (hi : i = nI k) (hk : k < L) (hL : L ≤ 3072) (kk : E M κ Q pc2 h ls (.int (xs k) :: st)) : E M κ Q pc h ls (.int i :: .float 0 :: st) :=
  e_sldN hd hi (by rw [hs]; exact hk) (by rw [hs]; show L < 2 ^ 31; omega) (by rw [hs]; exact kk)
theorem e_c1 {M1 M2 : MD} {Q : Option Value → AH → Prop} {pc pc2 idx n drn : Nat} {h : AH} {g : Gh} {ls : List (Option Value)} {st av : List Value} (hd : decode M_L_law.2.1 pc = .ok (.invokevirtual idx, 3) ∧ pc2 = pc + 3) (hL : LcV M_L_law idx M1 n) (hqn : ∀ q : vw_C, vwCl[10]? = some q → q.1 = M1.1.cls) (I : InvC h g drn) (J : InvM h g) (T : Two h g drn M1 M2 av) (hn : av.length = n) (hst : st = av.reverse ++ .ref 0 :: [])
    (k : ∀ (X : Int32) (h' : AH) (g' : Gh) (drn' : Nat), h'.1 = h.1 → InvC h' g' drn' → GhOK g' → InvM h' g → Sp M2 (0, 0) h' (.ref 66 :: av) (rI fun x h'' => x = X ∧ InvM h'' g' ∧ KeepC h' h'') → E M_L_law (16384 - drn', 2 * (16384 - drn')) Q pc2 h' ls [.int X]) : E M_L_law (16384 - drn, 2 * (16384 - drn)) Q pc h ls st := by
  obtain ⟨drn', g', X, l1, l2, C, M⟩ := T
  refine e_virtual hd hL I.mc rfl (hqn _ rfl) C hn hst (Nat.zero_le _) ⟨by dsimp only; omega, by dsimp only; omega⟩ (fun v h' q hs => ?_)
  obtain ⟨x, rfl, rfl, ⟨I', km⟩, G'⟩ := q
  have J' := J.keep km
  have := k x h' g' drn' hs I' G' J' (M h' J')
  have e1 : 16384 - drn - (drn' - drn) = 16384 - drn' := by omega
  have e2 : 2 * (16384 - drn) - 2 * (drn' - drn) = 2 * (16384 - drn') := by omega
  show E M_L_law (16384 - drn - (drn' - drn), 2 * (16384 - drn) - 2 * (drn' - drn)) Q pc2 h' ls [.int x]
  rw [e1, e2]
  exact this
theorem e_c2 {M2 : MD} {κ : Nat × Nat} {Q : Option Value → AH → Prop} {pc pc2 idx n drn : Nat} {h : AH} {g g0 : Gh} {X : Int32} {ls : List (Option Value)} {st av : List Value} (hd : decode M_L_law.2.1 pc = .ok (.invokevirtual idx, 3) ∧ pc2 = pc + 3) (hL : LcV M_L_law idx M2 n) (hqn : ∀ q : vw_C, vwCl[11]? = some q → q.1 = M2.1.cls) (J : InvM h g0) (I : InvC h g drn) (G : GhOK g) (S : Sp M2 (0, 0) h (.ref 66 :: av) (rI fun x h'' => x = X ∧ InvM h'' g ∧ KeepC h h'')) (hn : av.length = n) (hst : st = av.reverse ++ .ref 66 :: [.int X])
    (k : ∀ h' : AH, h'.1 = h.1 → InvC h' g drn → InvM h' g → E M_L_law κ Q pc2 h' ls [.int X, .int X]) : E M_L_law κ Q pc h ls st := by
  obtain ⟨mup, mlo, mln, mat, mtk, mso, mto, mwr, mwp, mop, mfs, mws, mst, mnc, mnk, mnr, mdn, mgu, mgl, H_md⟩ := J.md
  refine e_callRVI hd hL H_md rfl (hqn _ rfl) S hn hst (Nat.le_of_ble_eq_true rfl) (fun x h' q hs => ?_)
  obtain ⟨rfl, J', kc⟩ := q
  exact k h' hs (I.keep G.c.htc kc) J'
theorem law_next {κ : Nat × Nat} {Q : Option Value → AH → Prop} {h : AH} {i : Nat} (k : E M_L_law κ Q 18 h [some (.float 0), some (.ref 0), some (.ref 66), some (.int (nI (i + 6)))] []) : E M_L_law κ Q 1286 h [some (.float 0), some (.ref 0), some (.ref 66), some (.int (nI i))] [] := by
  refine e_iincw (w := 6) d_L_law_1286 rfl (by decide) (by decide) rfl ?_
  refine e_gt d_L_law_1289 ?_
  have e : nI i + 6 = nI (i + 6) := by simp only [fa_lit, nI_add]
  rw [← e] at k
  exact k

theorem law_child {Q : Option Value → AH → Prop} {h : AH} {g : Gh} {drn L i : Nat} {xs : Nat → Int32} (hs : h.1 = (L, xs)) (hi : i + 6 ≤ L) (hL : L ≤ 3072) (I : InvC h g drn) (J : InvM h g) (G : GhOK g) (nxt : ∀ (h' : AH) (g' : Gh) (drn' : Nat), h'.1 = (L, xs) → InvC h' g' drn' → InvM h' g' → GhOK g' → E M_L_law (16384 - drn', 2 * (16384 - drn')) Q 18 h' [some (.float 0), some (.ref 0), some (.ref 66), some (.int (nI (i + 6)))] []) : E M_L_law (16384 - drn, 2 * (16384 - drn)) Q 160 h [some (.float 0), some (.ref 0), some (.ref 66), some (.int (nI i))] [] := by
  refine e_aloadn d_L_law_160 rfl ?_
  refine e_aloadSn d_L_law_161 rfl (by decide) ?_
  refine e_iloadn d_L_law_162 rfl ?_
  refine e_iconst (v := 1) d_L_law_163 (by decide) ?_
  refine e_iadd d_L_law_164 ?_
  refine e_sldX (k := i + 1) hs d_L_law_165 (by simp only [fa_lit, nI_add]) (by omega) hL ?_
  refine e_aloadSn d_L_law_166 rfl (by decide) ?_
  refine e_iloadn d_L_law_167 rfl ?_
  refine e_iconst (v := 2) d_L_law_168 (by decide) ?_
  refine e_iadd d_L_law_169 ?_
  refine e_sldX (k := i + 2) hs d_L_law_170 (by simp only [fa_lit, nI_add]) (by omega) hL ?_
  refine e_aloadSn d_L_law_171 rfl (by decide) ?_
  refine e_iloadn d_L_law_172 rfl ?_
  refine e_iconst (v := 3) d_L_law_173 (by decide) ?_
  refine e_iadd d_L_law_174 ?_
  refine e_sldX (k := i + 3) hs d_L_law_175 (by simp only [fa_lit, nI_add]) (by omega) hL ?_
  refine e_aloadSn d_L_law_176 rfl (by decide) ?_
  refine e_iloadn d_L_law_177 rfl ?_
  refine e_iconst (v := 4) d_L_law_178 (by decide) ?_
  refine e_iadd d_L_law_179 ?_
  refine e_sldX (k := i + 4) hs d_L_law_180 (by simp only [fa_lit, nI_add]) (by omega) hL ?_
  refine e_dia 189 0 1 (fun kt kf => e_if_eq d_L_law_181 kt kf) (fun c K => ?_) (fun c K => ?_) (fun z hz => ?_)
  · refine e_iconst (v := 0) d_L_law_188 (by decide) ?_
    exact K
  · refine e_iconst (v := 1) d_L_law_184 (by decide) ?_
    refine e_gt d_L_law_185 ?_
    exact K
  obtain rfl : z = bz (xs (i + 4)) := bz_of hz
  refine e_aloadSn d_L_law_189 rfl (by decide) ?_
  refine e_iloadn d_L_law_190 rfl ?_
  refine e_iconst (v := 5) d_L_law_191 (by decide) ?_
  refine e_iadd d_L_law_192 ?_
  refine e_sldX (k := i + 5) hs d_L_law_193 (by simp only [fa_lit, nI_add]) (by omega) hL ?_
  refine e_dia 202 0 1 (fun kt kf => e_if_eq d_L_law_194 kt kf) (fun c K => ?_) (fun c K => ?_) (fun z hz => ?_)
  · refine e_iconst (v := 0) d_L_law_201 (by decide) ?_
    exact K
  · refine e_iconst (v := 1) d_L_law_197 (by decide) ?_
    refine e_gt d_L_law_198 ?_
    exact K
  obtain rfl : z = bz (xs (i + 5)) := bz_of hz
  have T := two_child I G (xs (i + 1)) (xs (i + 2)) (xs (i + 3)) (bz (xs (i + 4))) (bz (xs (i + 5)))
  refine e_c1 d_L_law_202 l_L_law_13 (fun q hq => by cases hq; rfl) I J T rfl rfl (fun X h1 g1 drn1 hs1 I1 G1 J1 S1 => ?_)
  have hs1 := hs1.trans hs
  refine e_aloadn d_L_law_205 rfl ?_
  refine e_aloadSn d_L_law_206 rfl (by decide) ?_
  refine e_iloadn d_L_law_207 rfl ?_
  refine e_iconst (v := 1) d_L_law_208 (by decide) ?_
  refine e_iadd d_L_law_209 ?_
  refine e_sldX (k := i + 1) hs1 d_L_law_210 (by simp only [fa_lit, nI_add]) (by omega) hL ?_
  refine e_aloadSn d_L_law_211 rfl (by decide) ?_
  refine e_iloadn d_L_law_212 rfl ?_
  refine e_iconst (v := 2) d_L_law_213 (by decide) ?_
  refine e_iadd d_L_law_214 ?_
  refine e_sldX (k := i + 2) hs1 d_L_law_215 (by simp only [fa_lit, nI_add]) (by omega) hL ?_
  refine e_aloadSn d_L_law_216 rfl (by decide) ?_
  refine e_iloadn d_L_law_217 rfl ?_
  refine e_iconst (v := 3) d_L_law_218 (by decide) ?_
  refine e_iadd d_L_law_219 ?_
  refine e_sldX (k := i + 3) hs1 d_L_law_220 (by simp only [fa_lit, nI_add]) (by omega) hL ?_
  refine e_aloadSn d_L_law_221 rfl (by decide) ?_
  refine e_iloadn d_L_law_222 rfl ?_
  refine e_iconst (v := 4) d_L_law_223 (by decide) ?_
  refine e_iadd d_L_law_224 ?_
  refine e_sldX (k := i + 4) hs1 d_L_law_225 (by simp only [fa_lit, nI_add]) (by omega) hL ?_
  refine e_dia 234 0 1 (fun kt kf => e_if_eq d_L_law_226 kt kf) (fun c K => ?_) (fun c K => ?_) (fun z hz => ?_)
  · refine e_iconst (v := 0) d_L_law_233 (by decide) ?_
    exact K
  · refine e_iconst (v := 1) d_L_law_229 (by decide) ?_
    refine e_gt d_L_law_230 ?_
    exact K
  obtain rfl : z = bz (xs (i + 4)) := bz_of hz
  refine e_aloadSn d_L_law_234 rfl (by decide) ?_
  refine e_iloadn d_L_law_235 rfl ?_
  refine e_iconst (v := 5) d_L_law_236 (by decide) ?_
  refine e_iadd d_L_law_237 ?_
  refine e_sldX (k := i + 5) hs1 d_L_law_238 (by simp only [fa_lit, nI_add]) (by omega) hL ?_
  refine e_dia 247 0 1 (fun kt kf => e_if_eq d_L_law_239 kt kf) (fun c K => ?_) (fun c K => ?_) (fun z hz => ?_)
  · refine e_iconst (v := 0) d_L_law_246 (by decide) ?_
    exact K
  · refine e_iconst (v := 1) d_L_law_242 (by decide) ?_
    refine e_gt d_L_law_243 ?_
    exact K
  obtain rfl : z = bz (xs (i + 5)) := bz_of hz
  refine e_c2 d_L_law_247 l_L_law_17 (fun q hq => by cases hq; rfl) J1 I1 G1 S1 rfl rfl (fun h2 hs2 I2 J2 => ?_)
  refine e_icmp_eq d_L_law_250 (fun _ => ?_) (fun z => absurd rfl z)
  exact law_next (nxt h2 g1 drn1 (hs2.trans hs1) I2 J2 G1)
theorem law_had {Q : Option Value → AH → Prop} {h : AH} {g : Gh} {drn L i : Nat} {xs : Nat → Int32} (hs : h.1 = (L, xs)) (hi : i + 6 ≤ L) (hL : L ≤ 3072) (I : InvC h g drn) (J : InvM h g) (G : GhOK g) (nxt : ∀ (h' : AH) (g' : Gh) (drn' : Nat), h'.1 = (L, xs) → InvC h' g' drn' → InvM h' g' → GhOK g' → E M_L_law (16384 - drn', 2 * (16384 - drn')) Q 18 h' [some (.float 0), some (.ref 0), some (.ref 66), some (.int (nI (i + 6)))] []) : E M_L_law (16384 - drn, 2 * (16384 - drn)) Q 255 h [some (.float 0), some (.ref 0), some (.ref 66), some (.int (nI i))] [] := by
  refine e_aloadn d_L_law_255 rfl ?_
  refine e_aloadSn d_L_law_256 rfl (by decide) ?_
  refine e_iloadn d_L_law_257 rfl ?_
  refine e_iconst (v := 1) d_L_law_258 (by decide) ?_
  refine e_iadd d_L_law_259 ?_
  refine e_sldX (k := i + 1) hs d_L_law_260 (by simp only [fa_lit, nI_add]) (by omega) hL ?_
  refine e_aloadSn d_L_law_261 rfl (by decide) ?_
  refine e_iloadn d_L_law_262 rfl ?_
  refine e_iconst (v := 2) d_L_law_263 (by decide) ?_
  refine e_iadd d_L_law_264 ?_
  refine e_sldX (k := i + 2) hs d_L_law_265 (by simp only [fa_lit, nI_add]) (by omega) hL ?_
  refine e_dia 274 0 1 (fun kt kf => e_if_eq d_L_law_266 kt kf) (fun c K => ?_) (fun c K => ?_) (fun z hz => ?_)
  · refine e_iconst (v := 0) d_L_law_273 (by decide) ?_
    exact K
  · refine e_iconst (v := 1) d_L_law_269 (by decide) ?_
    refine e_gt d_L_law_270 ?_
    exact K
  obtain rfl : z = bz (xs (i + 2)) := bz_of hz
  have T := two_had I G (xs (i + 1)) (bz (xs (i + 2)))
  refine e_c1 d_L_law_274 l_L_law_18 (fun q hq => by cases hq; rfl) I J T rfl rfl (fun X h1 g1 drn1 hs1 I1 G1 J1 S1 => ?_)
  have hs1 := hs1.trans hs
  refine e_aloadn d_L_law_277 rfl ?_
  refine e_aloadSn d_L_law_278 rfl (by decide) ?_
  refine e_iloadn d_L_law_279 rfl ?_
  refine e_iconst (v := 1) d_L_law_280 (by decide) ?_
  refine e_iadd d_L_law_281 ?_
  refine e_sldX (k := i + 1) hs1 d_L_law_282 (by simp only [fa_lit, nI_add]) (by omega) hL ?_
  refine e_aloadSn d_L_law_283 rfl (by decide) ?_
  refine e_iloadn d_L_law_284 rfl ?_
  refine e_iconst (v := 2) d_L_law_285 (by decide) ?_
  refine e_iadd d_L_law_286 ?_
  refine e_sldX (k := i + 2) hs1 d_L_law_287 (by simp only [fa_lit, nI_add]) (by omega) hL ?_
  refine e_dia 296 0 1 (fun kt kf => e_if_eq d_L_law_288 kt kf) (fun c K => ?_) (fun c K => ?_) (fun z hz => ?_)
  · refine e_iconst (v := 0) d_L_law_295 (by decide) ?_
    exact K
  · refine e_iconst (v := 1) d_L_law_291 (by decide) ?_
    refine e_gt d_L_law_292 ?_
    exact K
  obtain rfl : z = bz (xs (i + 2)) := bz_of hz
  refine e_c2 d_L_law_296 l_L_law_22 (fun q hq => by cases hq; rfl) J1 I1 G1 S1 rfl rfl (fun h2 hs2 I2 J2 => ?_)
  refine e_icmp_eq d_L_law_299 (fun _ => ?_) (fun z => absurd rfl z)
  exact law_next (nxt h2 g1 drn1 (hs2.trans hs1) I2 J2 G1)
theorem law_thing {Q : Option Value → AH → Prop} {h : AH} {g : Gh} {drn L i : Nat} {xs : Nat → Int32} (hs : h.1 = (L, xs)) (hi : i + 6 ≤ L) (hL : L ≤ 3072) (I : InvC h g drn) (J : InvM h g) (G : GhOK g) (nxt : ∀ (h' : AH) (g' : Gh) (drn' : Nat), h'.1 = (L, xs) → InvC h' g' drn' → InvM h' g' → GhOK g' → E M_L_law (16384 - drn', 2 * (16384 - drn')) Q 18 h' [some (.float 0), some (.ref 0), some (.ref 66), some (.int (nI (i + 6)))] []) : E M_L_law (16384 - drn, 2 * (16384 - drn)) Q 304 h [some (.float 0), some (.ref 0), some (.ref 66), some (.int (nI i))] [] := by
  refine e_aloadn d_L_law_304 rfl ?_
  refine e_aloadSn d_L_law_305 rfl (by decide) ?_
  refine e_iloadn d_L_law_306 rfl ?_
  refine e_iconst (v := 1) d_L_law_307 (by decide) ?_
  refine e_iadd d_L_law_308 ?_
  refine e_sldX (k := i + 1) hs d_L_law_309 (by simp only [fa_lit, nI_add]) (by omega) hL ?_
  refine e_aloadSn d_L_law_310 rfl (by decide) ?_
  refine e_iloadn d_L_law_311 rfl ?_
  refine e_iconst (v := 2) d_L_law_312 (by decide) ?_
  refine e_iadd d_L_law_313 ?_
  refine e_sldX (k := i + 2) hs d_L_law_314 (by simp only [fa_lit, nI_add]) (by omega) hL ?_
  refine e_aloadSn d_L_law_315 rfl (by decide) ?_
  refine e_iloadn d_L_law_316 rfl ?_
  refine e_iconst (v := 3) d_L_law_317 (by decide) ?_
  refine e_iadd d_L_law_318 ?_
  refine e_sldX (k := i + 3) hs d_L_law_319 (by simp only [fa_lit, nI_add]) (by omega) hL ?_
  refine e_dia 328 0 1 (fun kt kf => e_if_eq d_L_law_320 kt kf) (fun c K => ?_) (fun c K => ?_) (fun z hz => ?_)
  · refine e_iconst (v := 0) d_L_law_327 (by decide) ?_
    exact K
  · refine e_iconst (v := 1) d_L_law_323 (by decide) ?_
    refine e_gt d_L_law_324 ?_
    exact K
  obtain rfl : z = bz (xs (i + 3)) := bz_of hz
  refine e_aloadSn d_L_law_328 rfl (by decide) ?_
  refine e_iloadn d_L_law_329 rfl ?_
  refine e_iconst (v := 4) d_L_law_330 (by decide) ?_
  refine e_iadd d_L_law_331 ?_
  refine e_sldX (k := i + 4) hs d_L_law_332 (by simp only [fa_lit, nI_add]) (by omega) hL ?_
  have T := two_thing I G (xs (i + 1)) (xs (i + 2)) (bz (xs (i + 3))) (xs (i + 4)) (bz_01 _)
  refine e_c1 d_L_law_333 l_L_law_23 (fun q hq => by cases hq; rfl) I J T rfl rfl (fun X h1 g1 drn1 hs1 I1 G1 J1 S1 => ?_)
  have hs1 := hs1.trans hs
  refine e_aloadn d_L_law_336 rfl ?_
  refine e_aloadSn d_L_law_337 rfl (by decide) ?_
  refine e_iloadn d_L_law_338 rfl ?_
  refine e_iconst (v := 1) d_L_law_339 (by decide) ?_
  refine e_iadd d_L_law_340 ?_
  refine e_sldX (k := i + 1) hs1 d_L_law_341 (by simp only [fa_lit, nI_add]) (by omega) hL ?_
  refine e_aloadSn d_L_law_342 rfl (by decide) ?_
  refine e_iloadn d_L_law_343 rfl ?_
  refine e_iconst (v := 2) d_L_law_344 (by decide) ?_
  refine e_iadd d_L_law_345 ?_
  refine e_sldX (k := i + 2) hs1 d_L_law_346 (by simp only [fa_lit, nI_add]) (by omega) hL ?_
  refine e_aloadSn d_L_law_347 rfl (by decide) ?_
  refine e_iloadn d_L_law_348 rfl ?_
  refine e_iconst (v := 3) d_L_law_349 (by decide) ?_
  refine e_iadd d_L_law_350 ?_
  refine e_sldX (k := i + 3) hs1 d_L_law_351 (by simp only [fa_lit, nI_add]) (by omega) hL ?_
  refine e_dia 360 0 1 (fun kt kf => e_if_eq d_L_law_352 kt kf) (fun c K => ?_) (fun c K => ?_) (fun z hz => ?_)
  · refine e_iconst (v := 0) d_L_law_359 (by decide) ?_
    exact K
  · refine e_iconst (v := 1) d_L_law_355 (by decide) ?_
    refine e_gt d_L_law_356 ?_
    exact K
  obtain rfl : z = bz (xs (i + 3)) := bz_of hz
  refine e_aloadSn d_L_law_360 rfl (by decide) ?_
  refine e_iloadn d_L_law_361 rfl ?_
  refine e_iconst (v := 4) d_L_law_362 (by decide) ?_
  refine e_iadd d_L_law_363 ?_
  refine e_sldX (k := i + 4) hs1 d_L_law_364 (by simp only [fa_lit, nI_add]) (by omega) hL ?_
  refine e_c2 d_L_law_365 l_L_law_27 (fun q hq => by cases hq; rfl) J1 I1 G1 S1 rfl rfl (fun h2 hs2 I2 J2 => ?_)
  refine e_icmp_eq d_L_law_368 (fun _ => ?_) (fun z => absurd rfl z)
  exact law_next (nxt h2 g1 drn1 (hs2.trans hs1) I2 J2 G1)
theorem law_answer {Q : Option Value → AH → Prop} {h : AH} {g : Gh} {drn L i : Nat} {xs : Nat → Int32} (hs : h.1 = (L, xs)) (hi : i + 6 ≤ L) (hL : L ≤ 3072) (I : InvC h g drn) (J : InvM h g) (G : GhOK g) (nxt : ∀ (h' : AH) (g' : Gh) (drn' : Nat), h'.1 = (L, xs) → InvC h' g' drn' → InvM h' g' → GhOK g' → E M_L_law (16384 - drn', 2 * (16384 - drn')) Q 18 h' [some (.float 0), some (.ref 0), some (.ref 66), some (.int (nI (i + 6)))] []) : E M_L_law (16384 - drn, 2 * (16384 - drn)) Q 373 h [some (.float 0), some (.ref 0), some (.ref 66), some (.int (nI i))] [] := by
  refine e_aloadn d_L_law_373 rfl ?_
  refine e_aloadSn d_L_law_374 rfl (by decide) ?_
  refine e_iloadn d_L_law_375 rfl ?_
  refine e_iconst (v := 1) d_L_law_376 (by decide) ?_
  refine e_iadd d_L_law_377 ?_
  refine e_sldX (k := i + 1) hs d_L_law_378 (by simp only [fa_lit, nI_add]) (by omega) hL ?_
  refine e_aloadSn d_L_law_379 rfl (by decide) ?_
  refine e_iloadn d_L_law_380 rfl ?_
  refine e_iconst (v := 2) d_L_law_381 (by decide) ?_
  refine e_iadd d_L_law_382 ?_
  refine e_sldX (k := i + 2) hs d_L_law_383 (by simp only [fa_lit, nI_add]) (by omega) hL ?_
  refine e_aloadSn d_L_law_384 rfl (by decide) ?_
  refine e_iloadn d_L_law_385 rfl ?_
  refine e_iconst (v := 3) d_L_law_386 (by decide) ?_
  refine e_iadd d_L_law_387 ?_
  refine e_sldX (k := i + 3) hs d_L_law_388 (by simp only [fa_lit, nI_add]) (by omega) hL ?_
  have T := two_answer I G (xs (i + 1)) (xs (i + 2)) (xs (i + 3))
  refine e_c1 d_L_law_389 l_L_law_28 (fun q hq => by cases hq; rfl) I J T rfl rfl (fun X h1 g1 drn1 hs1 I1 G1 J1 S1 => ?_)
  have hs1 := hs1.trans hs
  refine e_aloadn d_L_law_392 rfl ?_
  refine e_aloadSn d_L_law_393 rfl (by decide) ?_
  refine e_iloadn d_L_law_394 rfl ?_
  refine e_iconst (v := 1) d_L_law_395 (by decide) ?_
  refine e_iadd d_L_law_396 ?_
  refine e_sldX (k := i + 1) hs1 d_L_law_397 (by simp only [fa_lit, nI_add]) (by omega) hL ?_
  refine e_aloadSn d_L_law_398 rfl (by decide) ?_
  refine e_iloadn d_L_law_399 rfl ?_
  refine e_iconst (v := 2) d_L_law_400 (by decide) ?_
  refine e_iadd d_L_law_401 ?_
  refine e_sldX (k := i + 2) hs1 d_L_law_402 (by simp only [fa_lit, nI_add]) (by omega) hL ?_
  refine e_aloadSn d_L_law_403 rfl (by decide) ?_
  refine e_iloadn d_L_law_404 rfl ?_
  refine e_iconst (v := 3) d_L_law_405 (by decide) ?_
  refine e_iadd d_L_law_406 ?_
  refine e_sldX (k := i + 3) hs1 d_L_law_407 (by simp only [fa_lit, nI_add]) (by omega) hL ?_
  refine e_c2 d_L_law_408 l_L_law_32 (fun q hq => by cases hq; rfl) J1 I1 G1 S1 rfl rfl (fun h2 hs2 I2 J2 => ?_)
  refine e_icmp_eq d_L_law_411 (fun _ => ?_) (fun z => absurd rfl z)
  exact law_next (nxt h2 g1 drn1 (hs2.trans hs1) I2 J2 G1)
theorem law_answered {Q : Option Value → AH → Prop} {h : AH} {g : Gh} {drn L i : Nat} {xs : Nat → Int32} (hs : h.1 = (L, xs)) (hi : i + 6 ≤ L) (hL : L ≤ 3072) (I : InvC h g drn) (J : InvM h g) (G : GhOK g) (nxt : ∀ (h' : AH) (g' : Gh) (drn' : Nat), h'.1 = (L, xs) → InvC h' g' drn' → InvM h' g' → GhOK g' → E M_L_law (16384 - drn', 2 * (16384 - drn')) Q 18 h' [some (.float 0), some (.ref 0), some (.ref 66), some (.int (nI (i + 6)))] []) : E M_L_law (16384 - drn, 2 * (16384 - drn)) Q 416 h [some (.float 0), some (.ref 0), some (.ref 66), some (.int (nI i))] [] := by
  refine e_aloadn d_L_law_416 rfl ?_
  refine e_aloadSn d_L_law_417 rfl (by decide) ?_
  refine e_iloadn d_L_law_418 rfl ?_
  refine e_iconst (v := 1) d_L_law_419 (by decide) ?_
  refine e_iadd d_L_law_420 ?_
  refine e_sldX (k := i + 1) hs d_L_law_421 (by simp only [fa_lit, nI_add]) (by omega) hL ?_
  refine e_aloadSn d_L_law_422 rfl (by decide) ?_
  refine e_iloadn d_L_law_423 rfl ?_
  refine e_iconst (v := 2) d_L_law_424 (by decide) ?_
  refine e_iadd d_L_law_425 ?_
  refine e_sldX (k := i + 2) hs d_L_law_426 (by simp only [fa_lit, nI_add]) (by omega) hL ?_
  have T := two_answered I G (xs (i + 1)) (xs (i + 2))
  refine e_c1 d_L_law_427 l_L_law_33 (fun q hq => by cases hq; rfl) I J T rfl rfl (fun X h1 g1 drn1 hs1 I1 G1 J1 S1 => ?_)
  have hs1 := hs1.trans hs
  refine e_aloadn d_L_law_430 rfl ?_
  refine e_aloadSn d_L_law_431 rfl (by decide) ?_
  refine e_iloadn d_L_law_432 rfl ?_
  refine e_iconst (v := 1) d_L_law_433 (by decide) ?_
  refine e_iadd d_L_law_434 ?_
  refine e_sldX (k := i + 1) hs1 d_L_law_435 (by simp only [fa_lit, nI_add]) (by omega) hL ?_
  refine e_aloadSn d_L_law_436 rfl (by decide) ?_
  refine e_iloadn d_L_law_437 rfl ?_
  refine e_iconst (v := 2) d_L_law_438 (by decide) ?_
  refine e_iadd d_L_law_439 ?_
  refine e_sldX (k := i + 2) hs1 d_L_law_440 (by simp only [fa_lit, nI_add]) (by omega) hL ?_
  refine e_c2 d_L_law_441 l_L_law_37 (fun q hq => by cases hq; rfl) J1 I1 G1 S1 rfl rfl (fun h2 hs2 I2 J2 => ?_)
  refine e_icmp_eq d_L_law_444 (fun _ => ?_) (fun z => absurd rfl z)
  exact law_next (nxt h2 g1 drn1 (hs2.trans hs1) I2 J2 G1)
theorem law_difference {Q : Option Value → AH → Prop} {h : AH} {g : Gh} {drn L i : Nat} {xs : Nat → Int32} (hs : h.1 = (L, xs)) (hi : i + 6 ≤ L) (hL : L ≤ 3072) (I : InvC h g drn) (J : InvM h g) (G : GhOK g) (nxt : ∀ (h' : AH) (g' : Gh) (drn' : Nat), h'.1 = (L, xs) → InvC h' g' drn' → InvM h' g' → GhOK g' → E M_L_law (16384 - drn', 2 * (16384 - drn')) Q 18 h' [some (.float 0), some (.ref 0), some (.ref 66), some (.int (nI (i + 6)))] []) : E M_L_law (16384 - drn, 2 * (16384 - drn)) Q 449 h [some (.float 0), some (.ref 0), some (.ref 66), some (.int (nI i))] [] := by
  refine e_aloadn d_L_law_449 rfl ?_
  refine e_aloadSn d_L_law_450 rfl (by decide) ?_
  refine e_iloadn d_L_law_451 rfl ?_
  refine e_iconst (v := 1) d_L_law_452 (by decide) ?_
  refine e_iadd d_L_law_453 ?_
  refine e_sldX (k := i + 1) hs d_L_law_454 (by simp only [fa_lit, nI_add]) (by omega) hL ?_
  refine e_aloadSn d_L_law_455 rfl (by decide) ?_
  refine e_iloadn d_L_law_456 rfl ?_
  refine e_iconst (v := 2) d_L_law_457 (by decide) ?_
  refine e_iadd d_L_law_458 ?_
  refine e_sldX (k := i + 2) hs d_L_law_459 (by simp only [fa_lit, nI_add]) (by omega) hL ?_
  refine e_aloadSn d_L_law_460 rfl (by decide) ?_
  refine e_iloadn d_L_law_461 rfl ?_
  refine e_iconst (v := 3) d_L_law_462 (by decide) ?_
  refine e_iadd d_L_law_463 ?_
  refine e_sldX (k := i + 3) hs d_L_law_464 (by simp only [fa_lit, nI_add]) (by omega) hL ?_
  have T := two_difference I G (xs (i + 1)) (xs (i + 2)) (xs (i + 3))
  refine e_c1 d_L_law_465 l_L_law_38 (fun q hq => by cases hq; rfl) I J T rfl rfl (fun X h1 g1 drn1 hs1 I1 G1 J1 S1 => ?_)
  have hs1 := hs1.trans hs
  refine e_aloadn d_L_law_468 rfl ?_
  refine e_aloadSn d_L_law_469 rfl (by decide) ?_
  refine e_iloadn d_L_law_470 rfl ?_
  refine e_iconst (v := 1) d_L_law_471 (by decide) ?_
  refine e_iadd d_L_law_472 ?_
  refine e_sldX (k := i + 1) hs1 d_L_law_473 (by simp only [fa_lit, nI_add]) (by omega) hL ?_
  refine e_aloadSn d_L_law_474 rfl (by decide) ?_
  refine e_iloadn d_L_law_475 rfl ?_
  refine e_iconst (v := 2) d_L_law_476 (by decide) ?_
  refine e_iadd d_L_law_477 ?_
  refine e_sldX (k := i + 2) hs1 d_L_law_478 (by simp only [fa_lit, nI_add]) (by omega) hL ?_
  refine e_aloadSn d_L_law_479 rfl (by decide) ?_
  refine e_iloadn d_L_law_480 rfl ?_
  refine e_iconst (v := 3) d_L_law_481 (by decide) ?_
  refine e_iadd d_L_law_482 ?_
  refine e_sldX (k := i + 3) hs1 d_L_law_483 (by simp only [fa_lit, nI_add]) (by omega) hL ?_
  refine e_c2 d_L_law_484 l_L_law_42 (fun q hq => by cases hq; rfl) J1 I1 G1 S1 rfl rfl (fun h2 hs2 I2 J2 => ?_)
  refine e_icmp_eq d_L_law_487 (fun _ => ?_) (fun z => absurd rfl z)
  exact law_next (nxt h2 g1 drn1 (hs2.trans hs1) I2 J2 G1)
theorem law_feed {Q : Option Value → AH → Prop} {h : AH} {g : Gh} {drn L i : Nat} {xs : Nat → Int32} (hs : h.1 = (L, xs)) (hi : i + 6 ≤ L) (hL : L ≤ 3072) (I : InvC h g drn) (J : InvM h g) (G : GhOK g) (nxt : ∀ (h' : AH) (g' : Gh) (drn' : Nat), h'.1 = (L, xs) → InvC h' g' drn' → InvM h' g' → GhOK g' → E M_L_law (16384 - drn', 2 * (16384 - drn')) Q 18 h' [some (.float 0), some (.ref 0), some (.ref 66), some (.int (nI (i + 6)))] []) : E M_L_law (16384 - drn, 2 * (16384 - drn)) Q 492 h [some (.float 0), some (.ref 0), some (.ref 66), some (.int (nI i))] [] := by
  refine e_aloadn d_L_law_492 rfl ?_
  refine e_aloadSn d_L_law_493 rfl (by decide) ?_
  refine e_iloadn d_L_law_494 rfl ?_
  refine e_iconst (v := 1) d_L_law_495 (by decide) ?_
  refine e_iadd d_L_law_496 ?_
  refine e_sldX (k := i + 1) hs d_L_law_497 (by simp only [fa_lit, nI_add]) (by omega) hL ?_
  refine e_aloadSn d_L_law_498 rfl (by decide) ?_
  refine e_iloadn d_L_law_499 rfl ?_
  refine e_iconst (v := 2) d_L_law_500 (by decide) ?_
  refine e_iadd d_L_law_501 ?_
  refine e_sldX (k := i + 2) hs d_L_law_502 (by simp only [fa_lit, nI_add]) (by omega) hL ?_
  refine e_aloadSn d_L_law_503 rfl (by decide) ?_
  refine e_iloadn d_L_law_504 rfl ?_
  refine e_iconst (v := 3) d_L_law_505 (by decide) ?_
  refine e_iadd d_L_law_506 ?_
  refine e_sldX (k := i + 3) hs d_L_law_507 (by simp only [fa_lit, nI_add]) (by omega) hL ?_
  refine e_aloadSn d_L_law_508 rfl (by decide) ?_
  refine e_iloadn d_L_law_509 rfl ?_
  refine e_iconst (v := 4) d_L_law_510 (by decide) ?_
  refine e_iadd d_L_law_511 ?_
  refine e_sldX (k := i + 4) hs d_L_law_512 (by simp only [fa_lit, nI_add]) (by omega) hL ?_
  refine e_aloadSn d_L_law_513 rfl (by decide) ?_
  refine e_iloadn d_L_law_514 rfl ?_
  refine e_iconst (v := 5) d_L_law_515 (by decide) ?_
  refine e_iadd d_L_law_516 ?_
  refine e_sldX (k := i + 5) hs d_L_law_517 (by simp only [fa_lit, nI_add]) (by omega) hL ?_
  have T := two_feed I G (xs (i + 1)) (xs (i + 2)) (xs (i + 3)) (xs (i + 4)) (xs (i + 5))
  refine e_c1 d_L_law_518 l_L_law_43 (fun q hq => by cases hq; rfl) I J T rfl rfl (fun X h1 g1 drn1 hs1 I1 G1 J1 S1 => ?_)
  have hs1 := hs1.trans hs
  refine e_aloadn d_L_law_521 rfl ?_
  refine e_aloadSn d_L_law_522 rfl (by decide) ?_
  refine e_iloadn d_L_law_523 rfl ?_
  refine e_iconst (v := 1) d_L_law_524 (by decide) ?_
  refine e_iadd d_L_law_525 ?_
  refine e_sldX (k := i + 1) hs1 d_L_law_526 (by simp only [fa_lit, nI_add]) (by omega) hL ?_
  refine e_aloadSn d_L_law_527 rfl (by decide) ?_
  refine e_iloadn d_L_law_528 rfl ?_
  refine e_iconst (v := 2) d_L_law_529 (by decide) ?_
  refine e_iadd d_L_law_530 ?_
  refine e_sldX (k := i + 2) hs1 d_L_law_531 (by simp only [fa_lit, nI_add]) (by omega) hL ?_
  refine e_aloadSn d_L_law_532 rfl (by decide) ?_
  refine e_iloadn d_L_law_533 rfl ?_
  refine e_iconst (v := 3) d_L_law_534 (by decide) ?_
  refine e_iadd d_L_law_535 ?_
  refine e_sldX (k := i + 3) hs1 d_L_law_536 (by simp only [fa_lit, nI_add]) (by omega) hL ?_
  refine e_aloadSn d_L_law_537 rfl (by decide) ?_
  refine e_iloadn d_L_law_538 rfl ?_
  refine e_iconst (v := 4) d_L_law_539 (by decide) ?_
  refine e_iadd d_L_law_540 ?_
  refine e_sldX (k := i + 4) hs1 d_L_law_541 (by simp only [fa_lit, nI_add]) (by omega) hL ?_
  refine e_aloadSn d_L_law_542 rfl (by decide) ?_
  refine e_iloadn d_L_law_543 rfl ?_
  refine e_iconst (v := 5) d_L_law_544 (by decide) ?_
  refine e_iadd d_L_law_545 ?_
  refine e_sldX (k := i + 5) hs1 d_L_law_546 (by simp only [fa_lit, nI_add]) (by omega) hL ?_
  refine e_c2 d_L_law_547 l_L_law_47 (fun q hq => by cases hq; rfl) J1 I1 G1 S1 rfl rfl (fun h2 hs2 I2 J2 => ?_)
  refine e_icmp_eq d_L_law_550 (fun _ => ?_) (fun z => absurd rfl z)
  exact law_next (nxt h2 g1 drn1 (hs2.trans hs1) I2 J2 G1)
theorem law_end {Q : Option Value → AH → Prop} {h : AH} {g : Gh} {drn L i : Nat} {xs : Nat → Int32} (hs : h.1 = (L, xs)) (hi : i + 6 ≤ L) (hL : L ≤ 3072) (I : InvC h g drn) (J : InvM h g) (G : GhOK g) (nxt : ∀ (h' : AH) (g' : Gh) (drn' : Nat), h'.1 = (L, xs) → InvC h' g' drn' → InvM h' g' → GhOK g' → E M_L_law (16384 - drn', 2 * (16384 - drn')) Q 18 h' [some (.float 0), some (.ref 0), some (.ref 66), some (.int (nI (i + 6)))] []) : E M_L_law (16384 - drn, 2 * (16384 - drn)) Q 555 h [some (.float 0), some (.ref 0), some (.ref 66), some (.int (nI i))] [] := by
  refine e_aloadn d_L_law_555 rfl ?_
  refine e_aloadSn d_L_law_556 rfl (by decide) ?_
  refine e_iloadn d_L_law_557 rfl ?_
  refine e_iconst (v := 1) d_L_law_558 (by decide) ?_
  refine e_iadd d_L_law_559 ?_
  refine e_sldX (k := i + 1) hs d_L_law_560 (by simp only [fa_lit, nI_add]) (by omega) hL ?_
  have T := two_end I G (xs (i + 1))
  refine e_c1 d_L_law_561 l_L_law_48 (fun q hq => by cases hq; rfl) I J T rfl rfl (fun X h1 g1 drn1 hs1 I1 G1 J1 S1 => ?_)
  have hs1 := hs1.trans hs
  refine e_aloadn d_L_law_564 rfl ?_
  refine e_aloadSn d_L_law_565 rfl (by decide) ?_
  refine e_iloadn d_L_law_566 rfl ?_
  refine e_iconst (v := 1) d_L_law_567 (by decide) ?_
  refine e_iadd d_L_law_568 ?_
  refine e_sldX (k := i + 1) hs1 d_L_law_569 (by simp only [fa_lit, nI_add]) (by omega) hL ?_
  refine e_c2 d_L_law_570 l_L_law_52 (fun q hq => by cases hq; rfl) J1 I1 G1 S1 rfl rfl (fun h2 hs2 I2 J2 => ?_)
  refine e_icmp_eq d_L_law_573 (fun _ => ?_) (fun z => absurd rfl z)
  exact law_next (nxt h2 g1 drn1 (hs2.trans hs1) I2 J2 G1)
theorem law_text {Q : Option Value → AH → Prop} {h : AH} {g : Gh} {drn L i : Nat} {xs : Nat → Int32} (hs : h.1 = (L, xs)) (hi : i + 6 ≤ L) (hL : L ≤ 3072) (I : InvC h g drn) (J : InvM h g) (G : GhOK g) (nxt : ∀ (h' : AH) (g' : Gh) (drn' : Nat), h'.1 = (L, xs) → InvC h' g' drn' → InvM h' g' → GhOK g' → E M_L_law (16384 - drn', 2 * (16384 - drn')) Q 18 h' [some (.float 0), some (.ref 0), some (.ref 66), some (.int (nI (i + 6)))] []) : E M_L_law (16384 - drn, 2 * (16384 - drn)) Q 578 h [some (.float 0), some (.ref 0), some (.ref 66), some (.int (nI i))] [] := by
  refine e_aloadn d_L_law_578 rfl ?_
  have T := two_text I G 
  refine e_c1 d_L_law_579 l_L_law_53 (fun q hq => by cases hq; rfl) I J T rfl rfl (fun X h1 g1 drn1 hs1 I1 G1 J1 S1 => ?_)
  have hs1 := hs1.trans hs
  refine e_aloadn d_L_law_582 rfl ?_
  refine e_c2 d_L_law_583 l_L_law_57 (fun q hq => by cases hq; rfl) J1 I1 G1 S1 rfl rfl (fun h2 hs2 I2 J2 => ?_)
  refine e_icmp_eq d_L_law_586 (fun _ => ?_) (fun z => absurd rfl z)
  exact law_next (nxt h2 g1 drn1 (hs2.trans hs1) I2 J2 G1)
theorem law_fault {Q : Option Value → AH → Prop} {h : AH} {g : Gh} {drn L i : Nat} {xs : Nat → Int32} (hs : h.1 = (L, xs)) (hi : i + 6 ≤ L) (hL : L ≤ 3072) (I : InvC h g drn) (J : InvM h g) (G : GhOK g) (nxt : ∀ (h' : AH) (g' : Gh) (drn' : Nat), h'.1 = (L, xs) → InvC h' g' drn' → InvM h' g' → GhOK g' → E M_L_law (16384 - drn', 2 * (16384 - drn')) Q 18 h' [some (.float 0), some (.ref 0), some (.ref 66), some (.int (nI (i + 6)))] []) : E M_L_law (16384 - drn, 2 * (16384 - drn)) Q 591 h [some (.float 0), some (.ref 0), some (.ref 66), some (.int (nI i))] [] := by
  refine e_aloadn d_L_law_591 rfl ?_
  refine e_aloadSn d_L_law_592 rfl (by decide) ?_
  refine e_iloadn d_L_law_593 rfl ?_
  refine e_iconst (v := 1) d_L_law_594 (by decide) ?_
  refine e_iadd d_L_law_595 ?_
  refine e_sldX (k := i + 1) hs d_L_law_596 (by simp only [fa_lit, nI_add]) (by omega) hL ?_
  have T := two_fault I G (xs (i + 1))
  refine e_c1 d_L_law_597 l_L_law_58 (fun q hq => by cases hq; rfl) I J T rfl rfl (fun X h1 g1 drn1 hs1 I1 G1 J1 S1 => ?_)
  have hs1 := hs1.trans hs
  refine e_aloadn d_L_law_600 rfl ?_
  refine e_aloadSn d_L_law_601 rfl (by decide) ?_
  refine e_iloadn d_L_law_602 rfl ?_
  refine e_iconst (v := 1) d_L_law_603 (by decide) ?_
  refine e_iadd d_L_law_604 ?_
  refine e_sldX (k := i + 1) hs1 d_L_law_605 (by simp only [fa_lit, nI_add]) (by omega) hL ?_
  refine e_c2 d_L_law_606 l_L_law_61 (fun q hq => by cases hq; rfl) J1 I1 G1 S1 rfl rfl (fun h2 hs2 I2 J2 => ?_)
  refine e_icmp_eq d_L_law_609 (fun _ => ?_) (fun z => absurd rfl z)
  exact law_next (nxt h2 g1 drn1 (hs2.trans hs1) I2 J2 G1)
theorem law_deals {Q : Option Value → AH → Prop} {h : AH} {g : Gh} {drn L i : Nat} {xs : Nat → Int32} (hs : h.1 = (L, xs)) (hi : i + 6 ≤ L) (hL : L ≤ 3072) (I : InvC h g drn) (J : InvM h g) (G : GhOK g) (nxt : ∀ (h' : AH) (g' : Gh) (drn' : Nat), h'.1 = (L, xs) → InvC h' g' drn' → InvM h' g' → GhOK g' → E M_L_law (16384 - drn', 2 * (16384 - drn')) Q 18 h' [some (.float 0), some (.ref 0), some (.ref 66), some (.int (nI (i + 6)))] []) : E M_L_law (16384 - drn, 2 * (16384 - drn)) Q 614 h [some (.float 0), some (.ref 0), some (.ref 66), some (.int (nI i))] [] := by
  refine e_aloadn d_L_law_614 rfl ?_
  refine e_aloadSn d_L_law_615 rfl (by decide) ?_
  refine e_iloadn d_L_law_616 rfl ?_
  refine e_iconst (v := 1) d_L_law_617 (by decide) ?_
  refine e_iadd d_L_law_618 ?_
  refine e_sldX (k := i + 1) hs d_L_law_619 (by simp only [fa_lit, nI_add]) (by omega) hL ?_
  refine e_aloadSn d_L_law_620 rfl (by decide) ?_
  refine e_iloadn d_L_law_621 rfl ?_
  refine e_iconst (v := 2) d_L_law_622 (by decide) ?_
  refine e_iadd d_L_law_623 ?_
  refine e_sldX (k := i + 2) hs d_L_law_624 (by simp only [fa_lit, nI_add]) (by omega) hL ?_
  have T := two_deals I G (xs (i + 1)) (xs (i + 2))
  refine e_c1 d_L_law_625 l_L_law_62 (fun q hq => by cases hq; rfl) I J T rfl rfl (fun X h1 g1 drn1 hs1 I1 G1 J1 S1 => ?_)
  have hs1 := hs1.trans hs
  refine e_aloadn d_L_law_628 rfl ?_
  refine e_aloadSn d_L_law_629 rfl (by decide) ?_
  refine e_iloadn d_L_law_630 rfl ?_
  refine e_iconst (v := 1) d_L_law_631 (by decide) ?_
  refine e_iadd d_L_law_632 ?_
  refine e_sldX (k := i + 1) hs1 d_L_law_633 (by simp only [fa_lit, nI_add]) (by omega) hL ?_
  refine e_aloadSn d_L_law_634 rfl (by decide) ?_
  refine e_iloadn d_L_law_635 rfl ?_
  refine e_iconst (v := 2) d_L_law_636 (by decide) ?_
  refine e_iadd d_L_law_637 ?_
  refine e_sldX (k := i + 2) hs1 d_L_law_638 (by simp only [fa_lit, nI_add]) (by omega) hL ?_
  refine e_c2 d_L_law_639 l_L_law_65 (fun q hq => by cases hq; rfl) J1 I1 G1 S1 rfl rfl (fun h2 hs2 I2 J2 => ?_)
  refine e_icmp_eq d_L_law_642 (fun _ => ?_) (fun z => absurd rfl z)
  exact law_next (nxt h2 g1 drn1 (hs2.trans hs1) I2 J2 G1)
theorem law_odds {Q : Option Value → AH → Prop} {h : AH} {g : Gh} {drn L i : Nat} {xs : Nat → Int32} (hs : h.1 = (L, xs)) (hi : i + 6 ≤ L) (hL : L ≤ 3072) (I : InvC h g drn) (J : InvM h g) (G : GhOK g) (nxt : ∀ (h' : AH) (g' : Gh) (drn' : Nat), h'.1 = (L, xs) → InvC h' g' drn' → InvM h' g' → GhOK g' → E M_L_law (16384 - drn', 2 * (16384 - drn')) Q 18 h' [some (.float 0), some (.ref 0), some (.ref 66), some (.int (nI (i + 6)))] []) : E M_L_law (16384 - drn, 2 * (16384 - drn)) Q 647 h [some (.float 0), some (.ref 0), some (.ref 66), some (.int (nI i))] [] := by
  refine e_aloadn d_L_law_647 rfl ?_
  refine e_aloadSn d_L_law_648 rfl (by decide) ?_
  refine e_iloadn d_L_law_649 rfl ?_
  refine e_iconst (v := 1) d_L_law_650 (by decide) ?_
  refine e_iadd d_L_law_651 ?_
  refine e_sldX (k := i + 1) hs d_L_law_652 (by simp only [fa_lit, nI_add]) (by omega) hL ?_
  refine e_aloadSn d_L_law_653 rfl (by decide) ?_
  refine e_iloadn d_L_law_654 rfl ?_
  refine e_iconst (v := 2) d_L_law_655 (by decide) ?_
  refine e_iadd d_L_law_656 ?_
  refine e_sldX (k := i + 2) hs d_L_law_657 (by simp only [fa_lit, nI_add]) (by omega) hL ?_
  refine e_aloadSn d_L_law_658 rfl (by decide) ?_
  refine e_iloadn d_L_law_659 rfl ?_
  refine e_iconst (v := 3) d_L_law_660 (by decide) ?_
  refine e_iadd d_L_law_661 ?_
  refine e_sldX (k := i + 3) hs d_L_law_662 (by simp only [fa_lit, nI_add]) (by omega) hL ?_
  have T := two_odds I G (xs (i + 1)) (xs (i + 2)) (xs (i + 3))
  refine e_c1 d_L_law_663 l_L_law_66 (fun q hq => by cases hq; rfl) I J T rfl rfl (fun X h1 g1 drn1 hs1 I1 G1 J1 S1 => ?_)
  have hs1 := hs1.trans hs
  refine e_aloadn d_L_law_666 rfl ?_
  refine e_aloadSn d_L_law_667 rfl (by decide) ?_
  refine e_iloadn d_L_law_668 rfl ?_
  refine e_iconst (v := 1) d_L_law_669 (by decide) ?_
  refine e_iadd d_L_law_670 ?_
  refine e_sldX (k := i + 1) hs1 d_L_law_671 (by simp only [fa_lit, nI_add]) (by omega) hL ?_
  refine e_aloadSn d_L_law_672 rfl (by decide) ?_
  refine e_iloadn d_L_law_673 rfl ?_
  refine e_iconst (v := 2) d_L_law_674 (by decide) ?_
  refine e_iadd d_L_law_675 ?_
  refine e_sldX (k := i + 2) hs1 d_L_law_676 (by simp only [fa_lit, nI_add]) (by omega) hL ?_
  refine e_aloadSn d_L_law_677 rfl (by decide) ?_
  refine e_iloadn d_L_law_678 rfl ?_
  refine e_iconst (v := 3) d_L_law_679 (by decide) ?_
  refine e_iadd d_L_law_680 ?_
  refine e_sldX (k := i + 3) hs1 d_L_law_681 (by simp only [fa_lit, nI_add]) (by omega) hL ?_
  refine e_c2 d_L_law_682 l_L_law_69 (fun q hq => by cases hq; rfl) J1 I1 G1 S1 rfl rfl (fun h2 hs2 I2 J2 => ?_)
  refine e_icmp_eq d_L_law_685 (fun _ => ?_) (fun z => absurd rfl z)
  exact law_next (nxt h2 g1 drn1 (hs2.trans hs1) I2 J2 G1)
theorem law_paid {Q : Option Value → AH → Prop} {h : AH} {g : Gh} {drn L i : Nat} {xs : Nat → Int32} (hs : h.1 = (L, xs)) (hi : i + 6 ≤ L) (hL : L ≤ 3072) (I : InvC h g drn) (J : InvM h g) (G : GhOK g) (nxt : ∀ (h' : AH) (g' : Gh) (drn' : Nat), h'.1 = (L, xs) → InvC h' g' drn' → InvM h' g' → GhOK g' → E M_L_law (16384 - drn', 2 * (16384 - drn')) Q 18 h' [some (.float 0), some (.ref 0), some (.ref 66), some (.int (nI (i + 6)))] []) : E M_L_law (16384 - drn, 2 * (16384 - drn)) Q 690 h [some (.float 0), some (.ref 0), some (.ref 66), some (.int (nI i))] [] := by
  refine e_aloadn d_L_law_690 rfl ?_
  refine e_aloadSn d_L_law_691 rfl (by decide) ?_
  refine e_iloadn d_L_law_692 rfl ?_
  refine e_iconst (v := 1) d_L_law_693 (by decide) ?_
  refine e_iadd d_L_law_694 ?_
  refine e_sldX (k := i + 1) hs d_L_law_695 (by simp only [fa_lit, nI_add]) (by omega) hL ?_
  refine e_aloadSn d_L_law_696 rfl (by decide) ?_
  refine e_iloadn d_L_law_697 rfl ?_
  refine e_iconst (v := 2) d_L_law_698 (by decide) ?_
  refine e_iadd d_L_law_699 ?_
  refine e_sldX (k := i + 2) hs d_L_law_700 (by simp only [fa_lit, nI_add]) (by omega) hL ?_
  refine e_aloadSn d_L_law_701 rfl (by decide) ?_
  refine e_iloadn d_L_law_702 rfl ?_
  refine e_iconst (v := 3) d_L_law_703 (by decide) ?_
  refine e_iadd d_L_law_704 ?_
  refine e_sldX (k := i + 3) hs d_L_law_705 (by simp only [fa_lit, nI_add]) (by omega) hL ?_
  have T := two_paid I G (xs (i + 1)) (xs (i + 2)) (xs (i + 3))
  refine e_c1 d_L_law_706 l_L_law_70 (fun q hq => by cases hq; rfl) I J T rfl rfl (fun X h1 g1 drn1 hs1 I1 G1 J1 S1 => ?_)
  have hs1 := hs1.trans hs
  refine e_aloadn d_L_law_709 rfl ?_
  refine e_aloadSn d_L_law_710 rfl (by decide) ?_
  refine e_iloadn d_L_law_711 rfl ?_
  refine e_iconst (v := 1) d_L_law_712 (by decide) ?_
  refine e_iadd d_L_law_713 ?_
  refine e_sldX (k := i + 1) hs1 d_L_law_714 (by simp only [fa_lit, nI_add]) (by omega) hL ?_
  refine e_aloadSn d_L_law_715 rfl (by decide) ?_
  refine e_iloadn d_L_law_716 rfl ?_
  refine e_iconst (v := 2) d_L_law_717 (by decide) ?_
  refine e_iadd d_L_law_718 ?_
  refine e_sldX (k := i + 2) hs1 d_L_law_719 (by simp only [fa_lit, nI_add]) (by omega) hL ?_
  refine e_aloadSn d_L_law_720 rfl (by decide) ?_
  refine e_iloadn d_L_law_721 rfl ?_
  refine e_iconst (v := 3) d_L_law_722 (by decide) ?_
  refine e_iadd d_L_law_723 ?_
  refine e_sldX (k := i + 3) hs1 d_L_law_724 (by simp only [fa_lit, nI_add]) (by omega) hL ?_
  refine e_c2 d_L_law_725 l_L_law_73 (fun q hq => by cases hq; rfl) J1 I1 G1 S1 rfl rfl (fun h2 hs2 I2 J2 => ?_)
  refine e_icmp_eq d_L_law_728 (fun _ => ?_) (fun z => absurd rfl z)
  exact law_next (nxt h2 g1 drn1 (hs2.trans hs1) I2 J2 G1)
theorem law_few {Q : Option Value → AH → Prop} {h : AH} {g : Gh} {drn L i : Nat} {xs : Nat → Int32} (hs : h.1 = (L, xs)) (hi : i + 6 ≤ L) (hL : L ≤ 3072) (I : InvC h g drn) (J : InvM h g) (G : GhOK g) (nxt : ∀ (h' : AH) (g' : Gh) (drn' : Nat), h'.1 = (L, xs) → InvC h' g' drn' → InvM h' g' → GhOK g' → E M_L_law (16384 - drn', 2 * (16384 - drn')) Q 18 h' [some (.float 0), some (.ref 0), some (.ref 66), some (.int (nI (i + 6)))] []) : E M_L_law (16384 - drn, 2 * (16384 - drn)) Q 733 h [some (.float 0), some (.ref 0), some (.ref 66), some (.int (nI i))] [] := by
  refine e_aloadn d_L_law_733 rfl ?_
  refine e_aloadSn d_L_law_734 rfl (by decide) ?_
  refine e_iloadn d_L_law_735 rfl ?_
  refine e_iconst (v := 1) d_L_law_736 (by decide) ?_
  refine e_iadd d_L_law_737 ?_
  refine e_sldX (k := i + 1) hs d_L_law_738 (by simp only [fa_lit, nI_add]) (by omega) hL ?_
  refine e_aloadSn d_L_law_739 rfl (by decide) ?_
  refine e_iloadn d_L_law_740 rfl ?_
  refine e_iconst (v := 2) d_L_law_741 (by decide) ?_
  refine e_iadd d_L_law_742 ?_
  refine e_sldX (k := i + 2) hs d_L_law_743 (by simp only [fa_lit, nI_add]) (by omega) hL ?_
  refine e_aloadSn d_L_law_744 rfl (by decide) ?_
  refine e_iloadn d_L_law_745 rfl ?_
  refine e_iconst (v := 3) d_L_law_746 (by decide) ?_
  refine e_iadd d_L_law_747 ?_
  refine e_sldX (k := i + 3) hs d_L_law_748 (by simp only [fa_lit, nI_add]) (by omega) hL ?_
  refine e_aloadSn d_L_law_749 rfl (by decide) ?_
  refine e_iloadn d_L_law_750 rfl ?_
  refine e_iconst (v := 4) d_L_law_751 (by decide) ?_
  refine e_iadd d_L_law_752 ?_
  refine e_sldX (k := i + 4) hs d_L_law_753 (by simp only [fa_lit, nI_add]) (by omega) hL ?_
  have T := two_few I G (xs (i + 1)) (xs (i + 2)) (xs (i + 3)) (xs (i + 4))
  refine e_c1 d_L_law_754 l_L_law_74 (fun q hq => by cases hq; rfl) I J T rfl rfl (fun X h1 g1 drn1 hs1 I1 G1 J1 S1 => ?_)
  have hs1 := hs1.trans hs
  refine e_aloadn d_L_law_757 rfl ?_
  refine e_aloadSn d_L_law_758 rfl (by decide) ?_
  refine e_iloadn d_L_law_759 rfl ?_
  refine e_iconst (v := 1) d_L_law_760 (by decide) ?_
  refine e_iadd d_L_law_761 ?_
  refine e_sldX (k := i + 1) hs1 d_L_law_762 (by simp only [fa_lit, nI_add]) (by omega) hL ?_
  refine e_aloadSn d_L_law_763 rfl (by decide) ?_
  refine e_iloadn d_L_law_764 rfl ?_
  refine e_iconst (v := 2) d_L_law_765 (by decide) ?_
  refine e_iadd d_L_law_766 ?_
  refine e_sldX (k := i + 2) hs1 d_L_law_767 (by simp only [fa_lit, nI_add]) (by omega) hL ?_
  refine e_aloadSn d_L_law_768 rfl (by decide) ?_
  refine e_iloadn d_L_law_769 rfl ?_
  refine e_iconst (v := 3) d_L_law_770 (by decide) ?_
  refine e_iadd d_L_law_771 ?_
  refine e_sldX (k := i + 3) hs1 d_L_law_772 (by simp only [fa_lit, nI_add]) (by omega) hL ?_
  refine e_aloadSn d_L_law_773 rfl (by decide) ?_
  refine e_iloadn d_L_law_774 rfl ?_
  refine e_iconst (v := 4) d_L_law_775 (by decide) ?_
  refine e_iadd d_L_law_776 ?_
  refine e_sldX (k := i + 4) hs1 d_L_law_777 (by simp only [fa_lit, nI_add]) (by omega) hL ?_
  refine e_c2 d_L_law_778 l_L_law_78 (fun q hq => by cases hq; rfl) J1 I1 G1 S1 rfl rfl (fun h2 hs2 I2 J2 => ?_)
  refine e_icmp_eq d_L_law_781 (fun _ => ?_) (fun z => absurd rfl z)
  exact law_next (nxt h2 g1 drn1 (hs2.trans hs1) I2 J2 G1)
theorem law_changed {Q : Option Value → AH → Prop} {h : AH} {g : Gh} {drn L i : Nat} {xs : Nat → Int32} (hs : h.1 = (L, xs)) (hi : i + 6 ≤ L) (hL : L ≤ 3072) (I : InvC h g drn) (J : InvM h g) (G : GhOK g) (nxt : ∀ (h' : AH) (g' : Gh) (drn' : Nat), h'.1 = (L, xs) → InvC h' g' drn' → InvM h' g' → GhOK g' → E M_L_law (16384 - drn', 2 * (16384 - drn')) Q 18 h' [some (.float 0), some (.ref 0), some (.ref 66), some (.int (nI (i + 6)))] []) : E M_L_law (16384 - drn, 2 * (16384 - drn)) Q 786 h [some (.float 0), some (.ref 0), some (.ref 66), some (.int (nI i))] [] := by
  refine e_aloadn d_L_law_786 rfl ?_
  refine e_aloadSn d_L_law_787 rfl (by decide) ?_
  refine e_iloadn d_L_law_788 rfl ?_
  refine e_iconst (v := 1) d_L_law_789 (by decide) ?_
  refine e_iadd d_L_law_790 ?_
  refine e_sldX (k := i + 1) hs d_L_law_791 (by simp only [fa_lit, nI_add]) (by omega) hL ?_
  refine e_aloadSn d_L_law_792 rfl (by decide) ?_
  refine e_iloadn d_L_law_793 rfl ?_
  refine e_iconst (v := 2) d_L_law_794 (by decide) ?_
  refine e_iadd d_L_law_795 ?_
  refine e_sldX (k := i + 2) hs d_L_law_796 (by simp only [fa_lit, nI_add]) (by omega) hL ?_
  refine e_aloadSn d_L_law_797 rfl (by decide) ?_
  refine e_iloadn d_L_law_798 rfl ?_
  refine e_iconst (v := 3) d_L_law_799 (by decide) ?_
  refine e_iadd d_L_law_800 ?_
  refine e_sldX (k := i + 3) hs d_L_law_801 (by simp only [fa_lit, nI_add]) (by omega) hL ?_
  refine e_dia 810 0 1 (fun kt kf => e_if_eq d_L_law_802 kt kf) (fun c K => ?_) (fun c K => ?_) (fun z hz => ?_)
  · refine e_iconst (v := 0) d_L_law_809 (by decide) ?_
    exact K
  · refine e_iconst (v := 1) d_L_law_805 (by decide) ?_
    refine e_gt d_L_law_806 ?_
    exact K
  obtain rfl : z = bz (xs (i + 3)) := bz_of hz
  have T := two_changed I G (xs (i + 1)) (xs (i + 2)) (!decide (xs (i + 3) = 0))
  rw [bz_b] at T
  refine e_c1 d_L_law_810 l_L_law_79 (fun q hq => by cases hq; rfl) I J T rfl rfl (fun X h1 g1 drn1 hs1 I1 G1 J1 S1 => ?_)
  have hs1 := hs1.trans hs
  refine e_aloadn d_L_law_813 rfl ?_
  refine e_aloadSn d_L_law_814 rfl (by decide) ?_
  refine e_iloadn d_L_law_815 rfl ?_
  refine e_iconst (v := 1) d_L_law_816 (by decide) ?_
  refine e_iadd d_L_law_817 ?_
  refine e_sldX (k := i + 1) hs1 d_L_law_818 (by simp only [fa_lit, nI_add]) (by omega) hL ?_
  refine e_aloadSn d_L_law_819 rfl (by decide) ?_
  refine e_iloadn d_L_law_820 rfl ?_
  refine e_iconst (v := 2) d_L_law_821 (by decide) ?_
  refine e_iadd d_L_law_822 ?_
  refine e_sldX (k := i + 2) hs1 d_L_law_823 (by simp only [fa_lit, nI_add]) (by omega) hL ?_
  refine e_aloadSn d_L_law_824 rfl (by decide) ?_
  refine e_iloadn d_L_law_825 rfl ?_
  refine e_iconst (v := 3) d_L_law_826 (by decide) ?_
  refine e_iadd d_L_law_827 ?_
  refine e_sldX (k := i + 3) hs1 d_L_law_828 (by simp only [fa_lit, nI_add]) (by omega) hL ?_
  refine e_dia 837 0 1 (fun kt kf => e_if_eq d_L_law_829 kt kf) (fun c K => ?_) (fun c K => ?_) (fun z hz => ?_)
  · refine e_iconst (v := 0) d_L_law_836 (by decide) ?_
    exact K
  · refine e_iconst (v := 1) d_L_law_832 (by decide) ?_
    refine e_gt d_L_law_833 ?_
    exact K
  obtain rfl : z = bz (xs (i + 3)) := bz_of hz
  refine e_c2 d_L_law_837 l_L_law_83 (fun q hq => by cases hq; rfl) J1 I1 G1 S1 rfl rfl (fun h2 hs2 I2 J2 => ?_)
  refine e_icmp_eq d_L_law_840 (fun _ => ?_) (fun z => absurd rfl z)
  exact law_next (nxt h2 g1 drn1 (hs2.trans hs1) I2 J2 G1)
theorem law_lost {Q : Option Value → AH → Prop} {h : AH} {g : Gh} {drn L i : Nat} {xs : Nat → Int32} (hs : h.1 = (L, xs)) (hi : i + 6 ≤ L) (hL : L ≤ 3072) (I : InvC h g drn) (J : InvM h g) (G : GhOK g) (nxt : ∀ (h' : AH) (g' : Gh) (drn' : Nat), h'.1 = (L, xs) → InvC h' g' drn' → InvM h' g' → GhOK g' → E M_L_law (16384 - drn', 2 * (16384 - drn')) Q 18 h' [some (.float 0), some (.ref 0), some (.ref 66), some (.int (nI (i + 6)))] []) : E M_L_law (16384 - drn, 2 * (16384 - drn)) Q 845 h [some (.float 0), some (.ref 0), some (.ref 66), some (.int (nI i))] [] := by
  refine e_aloadn d_L_law_845 rfl ?_
  refine e_aloadSn d_L_law_846 rfl (by decide) ?_
  refine e_iloadn d_L_law_847 rfl ?_
  refine e_iconst (v := 1) d_L_law_848 (by decide) ?_
  refine e_iadd d_L_law_849 ?_
  refine e_sldX (k := i + 1) hs d_L_law_850 (by simp only [fa_lit, nI_add]) (by omega) hL ?_
  refine e_aloadSn d_L_law_851 rfl (by decide) ?_
  refine e_iloadn d_L_law_852 rfl ?_
  refine e_iconst (v := 2) d_L_law_853 (by decide) ?_
  refine e_iadd d_L_law_854 ?_
  refine e_sldX (k := i + 2) hs d_L_law_855 (by simp only [fa_lit, nI_add]) (by omega) hL ?_
  refine e_dia 864 0 1 (fun kt kf => e_if_eq d_L_law_856 kt kf) (fun c K => ?_) (fun c K => ?_) (fun z hz => ?_)
  · refine e_iconst (v := 0) d_L_law_863 (by decide) ?_
    exact K
  · refine e_iconst (v := 1) d_L_law_859 (by decide) ?_
    refine e_gt d_L_law_860 ?_
    exact K
  obtain rfl : z = bz (xs (i + 2)) := bz_of hz
  have T := two_lost I G (xs (i + 1)) (!decide (xs (i + 2) = 0))
  rw [bz_b] at T
  refine e_c1 d_L_law_864 l_L_law_84 (fun q hq => by cases hq; rfl) I J T rfl rfl (fun X h1 g1 drn1 hs1 I1 G1 J1 S1 => ?_)
  have hs1 := hs1.trans hs
  refine e_aloadn d_L_law_867 rfl ?_
  refine e_aloadSn d_L_law_868 rfl (by decide) ?_
  refine e_iloadn d_L_law_869 rfl ?_
  refine e_iconst (v := 1) d_L_law_870 (by decide) ?_
  refine e_iadd d_L_law_871 ?_
  refine e_sldX (k := i + 1) hs1 d_L_law_872 (by simp only [fa_lit, nI_add]) (by omega) hL ?_
  refine e_aloadSn d_L_law_873 rfl (by decide) ?_
  refine e_iloadn d_L_law_874 rfl ?_
  refine e_iconst (v := 2) d_L_law_875 (by decide) ?_
  refine e_iadd d_L_law_876 ?_
  refine e_sldX (k := i + 2) hs1 d_L_law_877 (by simp only [fa_lit, nI_add]) (by omega) hL ?_
  refine e_dia 886 0 1 (fun kt kf => e_if_eq d_L_law_878 kt kf) (fun c K => ?_) (fun c K => ?_) (fun z hz => ?_)
  · refine e_iconst (v := 0) d_L_law_885 (by decide) ?_
    exact K
  · refine e_iconst (v := 1) d_L_law_881 (by decide) ?_
    refine e_gt d_L_law_882 ?_
    exact K
  obtain rfl : z = bz (xs (i + 2)) := bz_of hz
  refine e_c2 d_L_law_886 l_L_law_88 (fun q hq => by cases hq; rfl) J1 I1 G1 S1 rfl rfl (fun h2 hs2 I2 J2 => ?_)
  refine e_icmp_eq d_L_law_889 (fun _ => ?_) (fun z => absurd rfl z)
  exact law_next (nxt h2 g1 drn1 (hs2.trans hs1) I2 J2 G1)
theorem law_costs {Q : Option Value → AH → Prop} {h : AH} {g : Gh} {drn L i : Nat} {xs : Nat → Int32} (hs : h.1 = (L, xs)) (hi : i + 6 ≤ L) (hL : L ≤ 3072) (I : InvC h g drn) (J : InvM h g) (G : GhOK g) (nxt : ∀ (h' : AH) (g' : Gh) (drn' : Nat), h'.1 = (L, xs) → InvC h' g' drn' → InvM h' g' → GhOK g' → E M_L_law (16384 - drn', 2 * (16384 - drn')) Q 18 h' [some (.float 0), some (.ref 0), some (.ref 66), some (.int (nI (i + 6)))] []) : E M_L_law (16384 - drn, 2 * (16384 - drn)) Q 894 h [some (.float 0), some (.ref 0), some (.ref 66), some (.int (nI i))] [] := by
  refine e_aloadn d_L_law_894 rfl ?_
  refine e_aloadSn d_L_law_895 rfl (by decide) ?_
  refine e_iloadn d_L_law_896 rfl ?_
  refine e_iconst (v := 1) d_L_law_897 (by decide) ?_
  refine e_iadd d_L_law_898 ?_
  refine e_sldX (k := i + 1) hs d_L_law_899 (by simp only [fa_lit, nI_add]) (by omega) hL ?_
  have T := two_costs I G (xs (i + 1))
  refine e_c1 d_L_law_900 l_L_law_89 (fun q hq => by cases hq; rfl) I J T rfl rfl (fun X h1 g1 drn1 hs1 I1 G1 J1 S1 => ?_)
  have hs1 := hs1.trans hs
  refine e_aloadn d_L_law_903 rfl ?_
  refine e_aloadSn d_L_law_904 rfl (by decide) ?_
  refine e_iloadn d_L_law_905 rfl ?_
  refine e_iconst (v := 1) d_L_law_906 (by decide) ?_
  refine e_iadd d_L_law_907 ?_
  refine e_sldX (k := i + 1) hs1 d_L_law_908 (by simp only [fa_lit, nI_add]) (by omega) hL ?_
  refine e_c2 d_L_law_909 l_L_law_93 (fun q hq => by cases hq; rfl) J1 I1 G1 S1 rfl rfl (fun h2 hs2 I2 J2 => ?_)
  refine e_icmp_eq d_L_law_912 (fun _ => ?_) (fun z => absurd rfl z)
  exact law_next (nxt h2 g1 drn1 (hs2.trans hs1) I2 J2 G1)
theorem law_back {Q : Option Value → AH → Prop} {h : AH} {g : Gh} {drn L i : Nat} {xs : Nat → Int32} (hs : h.1 = (L, xs)) (hi : i + 6 ≤ L) (hL : L ≤ 3072) (I : InvC h g drn) (J : InvM h g) (G : GhOK g) (nxt : ∀ (h' : AH) (g' : Gh) (drn' : Nat), h'.1 = (L, xs) → InvC h' g' drn' → InvM h' g' → GhOK g' → E M_L_law (16384 - drn', 2 * (16384 - drn')) Q 18 h' [some (.float 0), some (.ref 0), some (.ref 66), some (.int (nI (i + 6)))] []) : E M_L_law (16384 - drn, 2 * (16384 - drn)) Q 917 h [some (.float 0), some (.ref 0), some (.ref 66), some (.int (nI i))] [] := by
  refine e_aloadn d_L_law_917 rfl ?_
  refine e_aloadSn d_L_law_918 rfl (by decide) ?_
  refine e_iloadn d_L_law_919 rfl ?_
  refine e_iconst (v := 1) d_L_law_920 (by decide) ?_
  refine e_iadd d_L_law_921 ?_
  refine e_sldX (k := i + 1) hs d_L_law_922 (by simp only [fa_lit, nI_add]) (by omega) hL ?_
  refine e_aloadSn d_L_law_923 rfl (by decide) ?_
  refine e_iloadn d_L_law_924 rfl ?_
  refine e_iconst (v := 2) d_L_law_925 (by decide) ?_
  refine e_iadd d_L_law_926 ?_
  refine e_sldX (k := i + 2) hs d_L_law_927 (by simp only [fa_lit, nI_add]) (by omega) hL ?_
  have T := two_back I G (xs (i + 1)) (xs (i + 2))
  refine e_c1 d_L_law_928 l_L_law_94 (fun q hq => by cases hq; rfl) I J T rfl rfl (fun X h1 g1 drn1 hs1 I1 G1 J1 S1 => ?_)
  have hs1 := hs1.trans hs
  refine e_aloadn d_L_law_931 rfl ?_
  refine e_aloadSn d_L_law_932 rfl (by decide) ?_
  refine e_iloadn d_L_law_933 rfl ?_
  refine e_iconst (v := 1) d_L_law_934 (by decide) ?_
  refine e_iadd d_L_law_935 ?_
  refine e_sldX (k := i + 1) hs1 d_L_law_936 (by simp only [fa_lit, nI_add]) (by omega) hL ?_
  refine e_aloadSn d_L_law_937 rfl (by decide) ?_
  refine e_iloadn d_L_law_938 rfl ?_
  refine e_iconst (v := 2) d_L_law_939 (by decide) ?_
  refine e_iadd d_L_law_940 ?_
  refine e_sldX (k := i + 2) hs1 d_L_law_941 (by simp only [fa_lit, nI_add]) (by omega) hL ?_
  refine e_c2 d_L_law_942 l_L_law_97 (fun q hq => by cases hq; rfl) J1 I1 G1 S1 rfl rfl (fun h2 hs2 I2 J2 => ?_)
  refine e_icmp_eq d_L_law_945 (fun _ => ?_) (fun z => absurd rfl z)
  exact law_next (nxt h2 g1 drn1 (hs2.trans hs1) I2 J2 G1)
theorem law_course {Q : Option Value → AH → Prop} {h : AH} {g : Gh} {drn L i : Nat} {xs : Nat → Int32} (hs : h.1 = (L, xs)) (hi : i + 6 ≤ L) (hL : L ≤ 3072) (I : InvC h g drn) (J : InvM h g) (G : GhOK g) (nxt : ∀ (h' : AH) (g' : Gh) (drn' : Nat), h'.1 = (L, xs) → InvC h' g' drn' → InvM h' g' → GhOK g' → E M_L_law (16384 - drn', 2 * (16384 - drn')) Q 18 h' [some (.float 0), some (.ref 0), some (.ref 66), some (.int (nI (i + 6)))] []) : E M_L_law (16384 - drn, 2 * (16384 - drn)) Q 950 h [some (.float 0), some (.ref 0), some (.ref 66), some (.int (nI i))] [] := by
  refine e_aloadn d_L_law_950 rfl ?_
  refine e_aloadSn d_L_law_951 rfl (by decide) ?_
  refine e_iloadn d_L_law_952 rfl ?_
  refine e_iconst (v := 1) d_L_law_953 (by decide) ?_
  refine e_iadd d_L_law_954 ?_
  refine e_sldX (k := i + 1) hs d_L_law_955 (by simp only [fa_lit, nI_add]) (by omega) hL ?_
  refine e_aloadSn d_L_law_956 rfl (by decide) ?_
  refine e_iloadn d_L_law_957 rfl ?_
  refine e_iconst (v := 2) d_L_law_958 (by decide) ?_
  refine e_iadd d_L_law_959 ?_
  refine e_sldX (k := i + 2) hs d_L_law_960 (by simp only [fa_lit, nI_add]) (by omega) hL ?_
  refine e_aloadSn d_L_law_961 rfl (by decide) ?_
  refine e_iloadn d_L_law_962 rfl ?_
  refine e_iconst (v := 3) d_L_law_963 (by decide) ?_
  refine e_iadd d_L_law_964 ?_
  refine e_sldX (k := i + 3) hs d_L_law_965 (by simp only [fa_lit, nI_add]) (by omega) hL ?_
  refine e_aloadSn d_L_law_966 rfl (by decide) ?_
  refine e_iloadn d_L_law_967 rfl ?_
  refine e_iconst (v := 4) d_L_law_968 (by decide) ?_
  refine e_iadd d_L_law_969 ?_
  refine e_sldX (k := i + 4) hs d_L_law_970 (by simp only [fa_lit, nI_add]) (by omega) hL ?_
  have T := two_course I G (xs (i + 1)) (xs (i + 2)) (xs (i + 3)) (xs (i + 4))
  refine e_c1 d_L_law_971 l_L_law_98 (fun q hq => by cases hq; rfl) I J T rfl rfl (fun X h1 g1 drn1 hs1 I1 G1 J1 S1 => ?_)
  have hs1 := hs1.trans hs
  refine e_aloadn d_L_law_974 rfl ?_
  refine e_aloadSn d_L_law_975 rfl (by decide) ?_
  refine e_iloadn d_L_law_976 rfl ?_
  refine e_iconst (v := 1) d_L_law_977 (by decide) ?_
  refine e_iadd d_L_law_978 ?_
  refine e_sldX (k := i + 1) hs1 d_L_law_979 (by simp only [fa_lit, nI_add]) (by omega) hL ?_
  refine e_aloadSn d_L_law_980 rfl (by decide) ?_
  refine e_iloadn d_L_law_981 rfl ?_
  refine e_iconst (v := 2) d_L_law_982 (by decide) ?_
  refine e_iadd d_L_law_983 ?_
  refine e_sldX (k := i + 2) hs1 d_L_law_984 (by simp only [fa_lit, nI_add]) (by omega) hL ?_
  refine e_aloadSn d_L_law_985 rfl (by decide) ?_
  refine e_iloadn d_L_law_986 rfl ?_
  refine e_iconst (v := 3) d_L_law_987 (by decide) ?_
  refine e_iadd d_L_law_988 ?_
  refine e_sldX (k := i + 3) hs1 d_L_law_989 (by simp only [fa_lit, nI_add]) (by omega) hL ?_
  refine e_aloadSn d_L_law_990 rfl (by decide) ?_
  refine e_iloadn d_L_law_991 rfl ?_
  refine e_iconst (v := 4) d_L_law_992 (by decide) ?_
  refine e_iadd d_L_law_993 ?_
  refine e_sldX (k := i + 4) hs1 d_L_law_994 (by simp only [fa_lit, nI_add]) (by omega) hL ?_
  refine e_c2 d_L_law_995 l_L_law_101 (fun q hq => by cases hq; rfl) J1 I1 G1 S1 rfl rfl (fun h2 hs2 I2 J2 => ?_)
  refine e_icmp_eq d_L_law_998 (fun _ => ?_) (fun z => absurd rfl z)
  exact law_next (nxt h2 g1 drn1 (hs2.trans hs1) I2 J2 G1)
theorem law_link {Q : Option Value → AH → Prop} {h : AH} {g : Gh} {drn L i : Nat} {xs : Nat → Int32} (hs : h.1 = (L, xs)) (hi : i + 6 ≤ L) (hL : L ≤ 3072) (I : InvC h g drn) (J : InvM h g) (G : GhOK g) (nxt : ∀ (h' : AH) (g' : Gh) (drn' : Nat), h'.1 = (L, xs) → InvC h' g' drn' → InvM h' g' → GhOK g' → E M_L_law (16384 - drn', 2 * (16384 - drn')) Q 18 h' [some (.float 0), some (.ref 0), some (.ref 66), some (.int (nI (i + 6)))] []) : E M_L_law (16384 - drn, 2 * (16384 - drn)) Q 1003 h [some (.float 0), some (.ref 0), some (.ref 66), some (.int (nI i))] [] := by
  refine e_aloadn d_L_law_1003 rfl ?_
  refine e_aloadSn d_L_law_1004 rfl (by decide) ?_
  refine e_iloadn d_L_law_1005 rfl ?_
  refine e_iconst (v := 1) d_L_law_1006 (by decide) ?_
  refine e_iadd d_L_law_1007 ?_
  refine e_sldX (k := i + 1) hs d_L_law_1008 (by simp only [fa_lit, nI_add]) (by omega) hL ?_
  refine e_aloadSn d_L_law_1009 rfl (by decide) ?_
  refine e_iloadn d_L_law_1010 rfl ?_
  refine e_iconst (v := 2) d_L_law_1011 (by decide) ?_
  refine e_iadd d_L_law_1012 ?_
  refine e_sldX (k := i + 2) hs d_L_law_1013 (by simp only [fa_lit, nI_add]) (by omega) hL ?_
  have T := two_link I G (xs (i + 1)) (xs (i + 2))
  refine e_c1 d_L_law_1014 l_L_law_102 (fun q hq => by cases hq; rfl) I J T rfl rfl (fun X h1 g1 drn1 hs1 I1 G1 J1 S1 => ?_)
  have hs1 := hs1.trans hs
  refine e_aloadn d_L_law_1017 rfl ?_
  refine e_aloadSn d_L_law_1018 rfl (by decide) ?_
  refine e_iloadn d_L_law_1019 rfl ?_
  refine e_iconst (v := 1) d_L_law_1020 (by decide) ?_
  refine e_iadd d_L_law_1021 ?_
  refine e_sldX (k := i + 1) hs1 d_L_law_1022 (by simp only [fa_lit, nI_add]) (by omega) hL ?_
  refine e_aloadSn d_L_law_1023 rfl (by decide) ?_
  refine e_iloadn d_L_law_1024 rfl ?_
  refine e_iconst (v := 2) d_L_law_1025 (by decide) ?_
  refine e_iadd d_L_law_1026 ?_
  refine e_sldX (k := i + 2) hs1 d_L_law_1027 (by simp only [fa_lit, nI_add]) (by omega) hL ?_
  refine e_c2 d_L_law_1028 l_L_law_105 (fun q hq => by cases hq; rfl) J1 I1 G1 S1 rfl rfl (fun h2 hs2 I2 J2 => ?_)
  refine e_icmp_eq d_L_law_1031 (fun _ => ?_) (fun z => absurd rfl z)
  exact law_next (nxt h2 g1 drn1 (hs2.trans hs1) I2 J2 G1)
theorem law_ways {Q : Option Value → AH → Prop} {h : AH} {g : Gh} {drn L i : Nat} {xs : Nat → Int32} (hs : h.1 = (L, xs)) (hi : i + 6 ≤ L) (hL : L ≤ 3072) (I : InvC h g drn) (J : InvM h g) (G : GhOK g) (nxt : ∀ (h' : AH) (g' : Gh) (drn' : Nat), h'.1 = (L, xs) → InvC h' g' drn' → InvM h' g' → GhOK g' → E M_L_law (16384 - drn', 2 * (16384 - drn')) Q 18 h' [some (.float 0), some (.ref 0), some (.ref 66), some (.int (nI (i + 6)))] []) : E M_L_law (16384 - drn, 2 * (16384 - drn)) Q 1036 h [some (.float 0), some (.ref 0), some (.ref 66), some (.int (nI i))] [] := by
  refine e_aloadn d_L_law_1036 rfl ?_
  refine e_aloadSn d_L_law_1037 rfl (by decide) ?_
  refine e_iloadn d_L_law_1038 rfl ?_
  refine e_iconst (v := 1) d_L_law_1039 (by decide) ?_
  refine e_iadd d_L_law_1040 ?_
  refine e_sldX (k := i + 1) hs d_L_law_1041 (by simp only [fa_lit, nI_add]) (by omega) hL ?_
  refine e_aloadSn d_L_law_1042 rfl (by decide) ?_
  refine e_iloadn d_L_law_1043 rfl ?_
  refine e_iconst (v := 2) d_L_law_1044 (by decide) ?_
  refine e_iadd d_L_law_1045 ?_
  refine e_sldX (k := i + 2) hs d_L_law_1046 (by simp only [fa_lit, nI_add]) (by omega) hL ?_
  refine e_aloadSn d_L_law_1047 rfl (by decide) ?_
  refine e_iloadn d_L_law_1048 rfl ?_
  refine e_iconst (v := 3) d_L_law_1049 (by decide) ?_
  refine e_iadd d_L_law_1050 ?_
  refine e_sldX (k := i + 3) hs d_L_law_1051 (by simp only [fa_lit, nI_add]) (by omega) hL ?_
  have T := two_ways I G (xs (i + 1)) (xs (i + 2)) (xs (i + 3))
  refine e_c1 d_L_law_1052 l_L_law_106 (fun q hq => by cases hq; rfl) I J T rfl rfl (fun X h1 g1 drn1 hs1 I1 G1 J1 S1 => ?_)
  have hs1 := hs1.trans hs
  refine e_aloadn d_L_law_1055 rfl ?_
  refine e_aloadSn d_L_law_1056 rfl (by decide) ?_
  refine e_iloadn d_L_law_1057 rfl ?_
  refine e_iconst (v := 1) d_L_law_1058 (by decide) ?_
  refine e_iadd d_L_law_1059 ?_
  refine e_sldX (k := i + 1) hs1 d_L_law_1060 (by simp only [fa_lit, nI_add]) (by omega) hL ?_
  refine e_aloadSn d_L_law_1061 rfl (by decide) ?_
  refine e_iloadn d_L_law_1062 rfl ?_
  refine e_iconst (v := 2) d_L_law_1063 (by decide) ?_
  refine e_iadd d_L_law_1064 ?_
  refine e_sldX (k := i + 2) hs1 d_L_law_1065 (by simp only [fa_lit, nI_add]) (by omega) hL ?_
  refine e_aloadSn d_L_law_1066 rfl (by decide) ?_
  refine e_iloadn d_L_law_1067 rfl ?_
  refine e_iconst (v := 3) d_L_law_1068 (by decide) ?_
  refine e_iadd d_L_law_1069 ?_
  refine e_sldX (k := i + 3) hs1 d_L_law_1070 (by simp only [fa_lit, nI_add]) (by omega) hL ?_
  refine e_c2 d_L_law_1071 l_L_law_109 (fun q hq => by cases hq; rfl) J1 I1 G1 S1 rfl rfl (fun h2 hs2 I2 J2 => ?_)
  refine e_icmp_eq d_L_law_1074 (fun _ => ?_) (fun z => absurd rfl z)
  exact law_next (nxt h2 g1 drn1 (hs2.trans hs1) I2 J2 G1)
theorem law_gap {Q : Option Value → AH → Prop} {h : AH} {g : Gh} {drn L i : Nat} {xs : Nat → Int32} (hs : h.1 = (L, xs)) (hi : i + 6 ≤ L) (hL : L ≤ 3072) (I : InvC h g drn) (J : InvM h g) (G : GhOK g) (nxt : ∀ (h' : AH) (g' : Gh) (drn' : Nat), h'.1 = (L, xs) → InvC h' g' drn' → InvM h' g' → GhOK g' → E M_L_law (16384 - drn', 2 * (16384 - drn')) Q 18 h' [some (.float 0), some (.ref 0), some (.ref 66), some (.int (nI (i + 6)))] []) : E M_L_law (16384 - drn, 2 * (16384 - drn)) Q 1079 h [some (.float 0), some (.ref 0), some (.ref 66), some (.int (nI i))] [] := by
  refine e_aloadn d_L_law_1079 rfl ?_
  refine e_aloadSn d_L_law_1080 rfl (by decide) ?_
  refine e_iloadn d_L_law_1081 rfl ?_
  refine e_iconst (v := 1) d_L_law_1082 (by decide) ?_
  refine e_iadd d_L_law_1083 ?_
  refine e_sldX (k := i + 1) hs d_L_law_1084 (by simp only [fa_lit, nI_add]) (by omega) hL ?_
  refine e_aloadSn d_L_law_1085 rfl (by decide) ?_
  refine e_iloadn d_L_law_1086 rfl ?_
  refine e_iconst (v := 2) d_L_law_1087 (by decide) ?_
  refine e_iadd d_L_law_1088 ?_
  refine e_sldX (k := i + 2) hs d_L_law_1089 (by simp only [fa_lit, nI_add]) (by omega) hL ?_
  have T := two_gap I G (xs (i + 1)) (xs (i + 2))
  refine e_c1 d_L_law_1090 l_L_law_110 (fun q hq => by cases hq; rfl) I J T rfl rfl (fun X h1 g1 drn1 hs1 I1 G1 J1 S1 => ?_)
  have hs1 := hs1.trans hs
  refine e_aloadn d_L_law_1093 rfl ?_
  refine e_aloadSn d_L_law_1094 rfl (by decide) ?_
  refine e_iloadn d_L_law_1095 rfl ?_
  refine e_iconst (v := 1) d_L_law_1096 (by decide) ?_
  refine e_iadd d_L_law_1097 ?_
  refine e_sldX (k := i + 1) hs1 d_L_law_1098 (by simp only [fa_lit, nI_add]) (by omega) hL ?_
  refine e_aloadSn d_L_law_1099 rfl (by decide) ?_
  refine e_iloadn d_L_law_1100 rfl ?_
  refine e_iconst (v := 2) d_L_law_1101 (by decide) ?_
  refine e_iadd d_L_law_1102 ?_
  refine e_sldX (k := i + 2) hs1 d_L_law_1103 (by simp only [fa_lit, nI_add]) (by omega) hL ?_
  refine e_c2 d_L_law_1104 l_L_law_113 (fun q hq => by cases hq; rfl) J1 I1 G1 S1 rfl rfl (fun h2 hs2 I2 J2 => ?_)
  refine e_icmp_eq d_L_law_1107 (fun _ => ?_) (fun z => absurd rfl z)
  exact law_next (nxt h2 g1 drn1 (hs2.trans hs1) I2 J2 G1)
theorem law_step {Q : Option Value → AH → Prop} {h : AH} {g : Gh} {drn L i : Nat} {xs : Nat → Int32} (hs : h.1 = (L, xs)) (hi : i + 6 ≤ L) (hL : L ≤ 3072) (I : InvC h g drn) (J : InvM h g) (G : GhOK g) (nxt : ∀ (h' : AH) (g' : Gh) (drn' : Nat), h'.1 = (L, xs) → InvC h' g' drn' → InvM h' g' → GhOK g' → E M_L_law (16384 - drn', 2 * (16384 - drn')) Q 18 h' [some (.float 0), some (.ref 0), some (.ref 66), some (.int (nI (i + 6)))] []) : E M_L_law (16384 - drn, 2 * (16384 - drn)) Q 1112 h [some (.float 0), some (.ref 0), some (.ref 66), some (.int (nI i))] [] := by
  refine e_aloadn d_L_law_1112 rfl ?_
  refine e_aloadSn d_L_law_1113 rfl (by decide) ?_
  refine e_iloadn d_L_law_1114 rfl ?_
  refine e_iconst (v := 1) d_L_law_1115 (by decide) ?_
  refine e_iadd d_L_law_1116 ?_
  refine e_sldX (k := i + 1) hs d_L_law_1117 (by simp only [fa_lit, nI_add]) (by omega) hL ?_
  refine e_aloadSn d_L_law_1118 rfl (by decide) ?_
  refine e_iloadn d_L_law_1119 rfl ?_
  refine e_iconst (v := 2) d_L_law_1120 (by decide) ?_
  refine e_iadd d_L_law_1121 ?_
  refine e_sldX (k := i + 2) hs d_L_law_1122 (by simp only [fa_lit, nI_add]) (by omega) hL ?_
  have T := two_step I G (xs (i + 1)) (xs (i + 2))
  refine e_c1 d_L_law_1123 l_L_law_114 (fun q hq => by cases hq; rfl) I J T rfl rfl (fun X h1 g1 drn1 hs1 I1 G1 J1 S1 => ?_)
  have hs1 := hs1.trans hs
  refine e_aloadn d_L_law_1126 rfl ?_
  refine e_aloadSn d_L_law_1127 rfl (by decide) ?_
  refine e_iloadn d_L_law_1128 rfl ?_
  refine e_iconst (v := 1) d_L_law_1129 (by decide) ?_
  refine e_iadd d_L_law_1130 ?_
  refine e_sldX (k := i + 1) hs1 d_L_law_1131 (by simp only [fa_lit, nI_add]) (by omega) hL ?_
  refine e_aloadSn d_L_law_1132 rfl (by decide) ?_
  refine e_iloadn d_L_law_1133 rfl ?_
  refine e_iconst (v := 2) d_L_law_1134 (by decide) ?_
  refine e_iadd d_L_law_1135 ?_
  refine e_sldX (k := i + 2) hs1 d_L_law_1136 (by simp only [fa_lit, nI_add]) (by omega) hL ?_
  refine e_c2 d_L_law_1137 l_L_law_117 (fun q hq => by cases hq; rfl) J1 I1 G1 S1 rfl rfl (fun h2 hs2 I2 J2 => ?_)
  refine e_icmp_eq d_L_law_1140 (fun _ => ?_) (fun z => absurd rfl z)
  exact law_next (nxt h2 g1 drn1 (hs2.trans hs1) I2 J2 G1)
theorem law_land {Q : Option Value → AH → Prop} {h : AH} {g : Gh} {drn L i : Nat} {xs : Nat → Int32} (hs : h.1 = (L, xs)) (hi : i + 6 ≤ L) (hL : L ≤ 3072) (I : InvC h g drn) (J : InvM h g) (G : GhOK g) (nxt : ∀ (h' : AH) (g' : Gh) (drn' : Nat), h'.1 = (L, xs) → InvC h' g' drn' → InvM h' g' → GhOK g' → E M_L_law (16384 - drn', 2 * (16384 - drn')) Q 18 h' [some (.float 0), some (.ref 0), some (.ref 66), some (.int (nI (i + 6)))] []) : E M_L_law (16384 - drn, 2 * (16384 - drn)) Q 1145 h [some (.float 0), some (.ref 0), some (.ref 66), some (.int (nI i))] [] := by
  refine e_aloadn d_L_law_1145 rfl ?_
  refine e_aloadSn d_L_law_1146 rfl (by decide) ?_
  refine e_iloadn d_L_law_1147 rfl ?_
  refine e_iconst (v := 1) d_L_law_1148 (by decide) ?_
  refine e_iadd d_L_law_1149 ?_
  refine e_sldX (k := i + 1) hs d_L_law_1150 (by simp only [fa_lit, nI_add]) (by omega) hL ?_
  refine e_aloadSn d_L_law_1151 rfl (by decide) ?_
  refine e_iloadn d_L_law_1152 rfl ?_
  refine e_iconst (v := 2) d_L_law_1153 (by decide) ?_
  refine e_iadd d_L_law_1154 ?_
  refine e_sldX (k := i + 2) hs d_L_law_1155 (by simp only [fa_lit, nI_add]) (by omega) hL ?_
  refine e_dia 1164 0 1 (fun kt kf => e_if_eq d_L_law_1156 kt kf) (fun c K => ?_) (fun c K => ?_) (fun z hz => ?_)
  · refine e_iconst (v := 0) d_L_law_1163 (by decide) ?_
    exact K
  · refine e_iconst (v := 1) d_L_law_1159 (by decide) ?_
    refine e_gt d_L_law_1160 ?_
    exact K
  obtain rfl : z = bz (xs (i + 2)) := bz_of hz
  have T := two_land I G (xs (i + 1)) (bz (xs (i + 2)))
  refine e_c1 d_L_law_1164 l_L_law_118 (fun q hq => by cases hq; rfl) I J T rfl rfl (fun X h1 g1 drn1 hs1 I1 G1 J1 S1 => ?_)
  have hs1 := hs1.trans hs
  refine e_aloadn d_L_law_1167 rfl ?_
  refine e_aloadSn d_L_law_1168 rfl (by decide) ?_
  refine e_iloadn d_L_law_1169 rfl ?_
  refine e_iconst (v := 1) d_L_law_1170 (by decide) ?_
  refine e_iadd d_L_law_1171 ?_
  refine e_sldX (k := i + 1) hs1 d_L_law_1172 (by simp only [fa_lit, nI_add]) (by omega) hL ?_
  refine e_aloadSn d_L_law_1173 rfl (by decide) ?_
  refine e_iloadn d_L_law_1174 rfl ?_
  refine e_iconst (v := 2) d_L_law_1175 (by decide) ?_
  refine e_iadd d_L_law_1176 ?_
  refine e_sldX (k := i + 2) hs1 d_L_law_1177 (by simp only [fa_lit, nI_add]) (by omega) hL ?_
  refine e_dia 1186 0 1 (fun kt kf => e_if_eq d_L_law_1178 kt kf) (fun c K => ?_) (fun c K => ?_) (fun z hz => ?_)
  · refine e_iconst (v := 0) d_L_law_1185 (by decide) ?_
    exact K
  · refine e_iconst (v := 1) d_L_law_1181 (by decide) ?_
    refine e_gt d_L_law_1182 ?_
    exact K
  obtain rfl : z = bz (xs (i + 2)) := bz_of hz
  refine e_c2 d_L_law_1186 l_L_law_121 (fun q hq => by cases hq; rfl) J1 I1 G1 S1 rfl rfl (fun h2 hs2 I2 J2 => ?_)
  refine e_icmp_eq d_L_law_1189 (fun _ => ?_) (fun z => absurd rfl z)
  exact law_next (nxt h2 g1 drn1 (hs2.trans hs1) I2 J2 G1)
theorem law_live {Q : Option Value → AH → Prop} {h : AH} {g : Gh} {drn L i : Nat} {xs : Nat → Int32} (hs : h.1 = (L, xs)) (hi : i + 6 ≤ L) (hL : L ≤ 3072) (I : InvC h g drn) (J : InvM h g) (G : GhOK g) (nxt : ∀ (h' : AH) (g' : Gh) (drn' : Nat), h'.1 = (L, xs) → InvC h' g' drn' → InvM h' g' → GhOK g' → E M_L_law (16384 - drn', 2 * (16384 - drn')) Q 18 h' [some (.float 0), some (.ref 0), some (.ref 66), some (.int (nI (i + 6)))] []) : E M_L_law (16384 - drn, 2 * (16384 - drn)) Q 1194 h [some (.float 0), some (.ref 0), some (.ref 66), some (.int (nI i))] [] := by
  refine e_aloadn d_L_law_1194 rfl ?_
  refine e_aloadSn d_L_law_1195 rfl (by decide) ?_
  refine e_iloadn d_L_law_1196 rfl ?_
  refine e_iconst (v := 1) d_L_law_1197 (by decide) ?_
  refine e_iadd d_L_law_1198 ?_
  refine e_sldX (k := i + 1) hs d_L_law_1199 (by simp only [fa_lit, nI_add]) (by omega) hL ?_
  refine e_aloadSn d_L_law_1200 rfl (by decide) ?_
  refine e_iloadn d_L_law_1201 rfl ?_
  refine e_iconst (v := 2) d_L_law_1202 (by decide) ?_
  refine e_iadd d_L_law_1203 ?_
  refine e_sldX (k := i + 2) hs d_L_law_1204 (by simp only [fa_lit, nI_add]) (by omega) hL ?_
  refine e_aloadSn d_L_law_1205 rfl (by decide) ?_
  refine e_iloadn d_L_law_1206 rfl ?_
  refine e_iconst (v := 3) d_L_law_1207 (by decide) ?_
  refine e_iadd d_L_law_1208 ?_
  refine e_sldX (k := i + 3) hs d_L_law_1209 (by simp only [fa_lit, nI_add]) (by omega) hL ?_
  have T := two_live I G (xs (i + 1)) (xs (i + 2)) (xs (i + 3))
  refine e_c1 d_L_law_1210 l_L_law_122 (fun q hq => by cases hq; rfl) I J T rfl rfl (fun X h1 g1 drn1 hs1 I1 G1 J1 S1 => ?_)
  have hs1 := hs1.trans hs
  refine e_aloadn d_L_law_1213 rfl ?_
  refine e_aloadSn d_L_law_1214 rfl (by decide) ?_
  refine e_iloadn d_L_law_1215 rfl ?_
  refine e_iconst (v := 1) d_L_law_1216 (by decide) ?_
  refine e_iadd d_L_law_1217 ?_
  refine e_sldX (k := i + 1) hs1 d_L_law_1218 (by simp only [fa_lit, nI_add]) (by omega) hL ?_
  refine e_aloadSn d_L_law_1219 rfl (by decide) ?_
  refine e_iloadn d_L_law_1220 rfl ?_
  refine e_iconst (v := 2) d_L_law_1221 (by decide) ?_
  refine e_iadd d_L_law_1222 ?_
  refine e_sldX (k := i + 2) hs1 d_L_law_1223 (by simp only [fa_lit, nI_add]) (by omega) hL ?_
  refine e_aloadSn d_L_law_1224 rfl (by decide) ?_
  refine e_iloadn d_L_law_1225 rfl ?_
  refine e_iconst (v := 3) d_L_law_1226 (by decide) ?_
  refine e_iadd d_L_law_1227 ?_
  refine e_sldX (k := i + 3) hs1 d_L_law_1228 (by simp only [fa_lit, nI_add]) (by omega) hL ?_
  refine e_c2 d_L_law_1229 l_L_law_125 (fun q hq => by cases hq; rfl) J1 I1 G1 S1 rfl rfl (fun h2 hs2 I2 J2 => ?_)
  refine e_icmp_eq d_L_law_1232 (fun _ => ?_) (fun z => absurd rfl z)
  exact law_next (nxt h2 g1 drn1 (hs2.trans hs1) I2 J2 G1)
theorem law_image {Q : Option Value → AH → Prop} {h : AH} {g : Gh} {drn L i : Nat} {xs : Nat → Int32} (hs : h.1 = (L, xs)) (hi : i + 6 ≤ L) (hL : L ≤ 3072) (I : InvC h g drn) (J : InvM h g) (G : GhOK g) (nxt : ∀ (h' : AH) (g' : Gh) (drn' : Nat), h'.1 = (L, xs) → InvC h' g' drn' → InvM h' g' → GhOK g' → E M_L_law (16384 - drn', 2 * (16384 - drn')) Q 18 h' [some (.float 0), some (.ref 0), some (.ref 66), some (.int (nI (i + 6)))] []) : E M_L_law (16384 - drn, 2 * (16384 - drn)) Q 1237 h [some (.float 0), some (.ref 0), some (.ref 66), some (.int (nI i))] [] := by
  refine e_aloadn d_L_law_1237 rfl ?_
  have T := two_image I G 
  refine e_c1 d_L_law_1238 l_L_law_126 (fun q hq => by cases hq; rfl) I J T rfl rfl (fun X h1 g1 drn1 hs1 I1 G1 J1 S1 => ?_)
  have hs1 := hs1.trans hs
  refine e_aloadn d_L_law_1241 rfl ?_
  refine e_c2 d_L_law_1242 l_L_law_129 (fun q hq => by cases hq; rfl) J1 I1 G1 S1 rfl rfl (fun h2 hs2 I2 J2 => ?_)
  refine e_icmp_eq d_L_law_1245 (fun _ => ?_) (fun z => absurd rfl z)
  exact law_next (nxt h2 g1 drn1 (hs2.trans hs1) I2 J2 G1)
theorem law_again {Q : Option Value → AH → Prop} {h : AH} {g : Gh} {drn L i : Nat} {xs : Nat → Int32} (hs : h.1 = (L, xs)) (hi : i + 6 ≤ L) (hL : L ≤ 3072) (I : InvC h g drn) (J : InvM h g) (G : GhOK g) (nxt : ∀ (h' : AH) (g' : Gh) (drn' : Nat), h'.1 = (L, xs) → InvC h' g' drn' → InvM h' g' → GhOK g' → E M_L_law (16384 - drn', 2 * (16384 - drn')) Q 18 h' [some (.float 0), some (.ref 0), some (.ref 66), some (.int (nI (i + 6)))] []) : E M_L_law (16384 - drn, 2 * (16384 - drn)) Q 1250 h [some (.float 0), some (.ref 0), some (.ref 66), some (.int (nI i))] [] := by
  refine e_aloadn d_L_law_1250 rfl ?_
  have T := two_again I G 
  refine e_c1 d_L_law_1251 l_L_law_130 (fun q hq => by cases hq; rfl) I J T rfl rfl (fun X h1 g1 drn1 hs1 I1 G1 J1 S1 => ?_)
  have hs1 := hs1.trans hs
  refine e_aloadn d_L_law_1254 rfl ?_
  refine e_c2 d_L_law_1255 l_L_law_133 (fun q hq => by cases hq; rfl) J1 I1 G1 S1 rfl rfl (fun h2 hs2 I2 J2 => ?_)
  refine e_icmp_eq d_L_law_1258 (fun _ => ?_) (fun z => absurd rfl z)
  exact law_next (nxt h2 g1 drn1 (hs2.trans hs1) I2 J2 G1)
theorem law_about {Q : Option Value → AH → Prop} {h : AH} {g : Gh} {drn L i : Nat} {xs : Nat → Int32} (hs : h.1 = (L, xs)) (hi : i + 6 ≤ L) (hL : L ≤ 3072) (I : InvC h g drn) (J : InvM h g) (G : GhOK g) (nxt : ∀ (h' : AH) (g' : Gh) (drn' : Nat), h'.1 = (L, xs) → InvC h' g' drn' → InvM h' g' → GhOK g' → E M_L_law (16384 - drn', 2 * (16384 - drn')) Q 18 h' [some (.float 0), some (.ref 0), some (.ref 66), some (.int (nI (i + 6)))] []) : E M_L_law (16384 - drn, 2 * (16384 - drn)) Q 1263 h [some (.float 0), some (.ref 0), some (.ref 66), some (.int (nI i))] [] := by
  refine e_aloadn d_L_law_1263 rfl ?_
  refine e_aloadSn d_L_law_1264 rfl (by decide) ?_
  refine e_iloadn d_L_law_1265 rfl ?_
  refine e_iconst (v := 1) d_L_law_1266 (by decide) ?_
  refine e_iadd d_L_law_1267 ?_
  refine e_sldX (k := i + 1) hs d_L_law_1268 (by simp only [fa_lit, nI_add]) (by omega) hL ?_
  have T := two_about I G (xs (i + 1))
  refine e_c1 d_L_law_1269 l_L_law_134 (fun q hq => by cases hq; rfl) I J T rfl rfl (fun X h1 g1 drn1 hs1 I1 G1 J1 S1 => ?_)
  have hs1 := hs1.trans hs
  refine e_aloadn d_L_law_1272 rfl ?_
  refine e_aloadSn d_L_law_1273 rfl (by decide) ?_
  refine e_iloadn d_L_law_1274 rfl ?_
  refine e_iconst (v := 1) d_L_law_1275 (by decide) ?_
  refine e_iadd d_L_law_1276 ?_
  refine e_sldX (k := i + 1) hs1 d_L_law_1277 (by simp only [fa_lit, nI_add]) (by omega) hL ?_
  refine e_c2 d_L_law_1278 l_L_law_137 (fun q hq => by cases hq; rfl) J1 I1 G1 S1 rfl rfl (fun h2 hs2 I2 J2 => ?_)
  refine e_icmp_eq d_L_law_1281 (fun _ => ?_) (fun z => absurd rfl z)
  exact law_next (nxt h2 g1 drn1 (hs2.trans hs1) I2 J2 G1)
theorem law_cmp {L i : Nat} (hL : L ≤ 3072) (hi : i ≤ L + 6) : nI L - 6 < nI i ↔ L < i + 6 := by
  by_cases h : 6 ≤ L
  · obtain ⟨m, rfl⟩ : ∃ m, L = m + 6 := ⟨L - 6, by omega⟩
    have e : nI (m + 6) - 6 = nI m := by
      have : nI (m + 6) = nI m + 6 := by simp only [fa_lit, nI_add]
      rw [this]; grind
    rw [e, nI_ltI (by omega) (by omega)]
    omega
  · refine ⟨fun _ => by omega, fun _ => ?_⟩
    have h0 : (0 : Int32) ≤ nI i := (nI_leI (a := 0) (by decide) (by omega)).mpr (Nat.zero_le _)
    have h1 : ∀ L, L < 6 → nI L - 6 < 0 := by decide +kernel
    exact Int32.lt_of_lt_of_le (h1 L (by omega)) h0
theorem law_32 (x : Int32) : ∃ k, k < 32 ∧ x &&& 31 = nI k := by
  refine ⟨x.toUInt32.toNat % 32, Nat.mod_lt _ (by decide), ?_⟩
  have h2 : (31 : Int32) = nI 31 := rfl
  rw [h2]
  conv => lhs; rw [x_nI x]
  rw [nI_and]
  congr 1
  exact Nat.and_two_pow_sub_one_eq_mod _ 5
theorem law_turn {Q : Option Value → AH → Prop} {h : AH} {g : Gh} {drn L i : Nat} {xs : Nat → Int32} (hs : h.1 = (L, xs)) (hi : i + 6 ≤ L) (hL : L ≤ 3072) (I : InvC h g drn) (J : InvM h g) (G : GhOK g) (nxt : ∀ (h' : AH) (g' : Gh) (drn' : Nat), h'.1 = (L, xs) → InvC h' g' drn' → InvM h' g' → GhOK g' → E M_L_law (16384 - drn', 2 * (16384 - drn')) Q 18 h' [some (.float 0), some (.ref 0), some (.ref 66), some (.int (nI (i + 6)))] []) : E M_L_law (16384 - drn, 2 * (16384 - drn)) Q 18 h [some (.float 0), some (.ref 0), some (.ref 66), some (.int (nI i))] [] := by
  have hs1 : h.1.1 = L := by rw [hs]
  refine e_iloadn d_L_law_18 rfl ?_
  refine e_aloadSn d_L_law_19 rfl (by decide) ?_
  refine e_slen d_L_law_20 ?_
  rw [hs1]
  refine e_bipush (v := 6) d_L_law_21 (by decide) ?_
  refine e_isub d_L_law_23 ?_
  refine e_icmp_gt d_L_law_24 (fun c => absurd ((law_cmp hL (by omega)).mp c) (by omega)) (fun _ => ?_)
  refine e_aloadSn d_L_law_27 rfl (by decide) ?_
  refine e_iloadn d_L_law_28 rfl ?_
  refine e_sldX (k := i) hs d_L_law_29 rfl (by omega) hL ?_
  refine e_bipush (v := 31) d_L_law_30 (by decide) ?_
  refine e_iand d_L_law_32 ?_
  obtain ⟨k, hk, e⟩ := law_32 (xs i)
  rw [e]
  have : k = 0 ∨ k = 1 ∨ k = 2 ∨ k = 3 ∨ k = 4 ∨ k = 5 ∨ k = 6 ∨ k = 7 ∨ k = 8 ∨ k = 9 ∨ k = 10 ∨ k = 11 ∨ k = 12 ∨ k = 13 ∨ k = 14 ∨ k = 15 ∨ k = 16 ∨ k = 17 ∨ k = 18 ∨ k = 19 ∨ k = 20 ∨ k = 21 ∨ k = 22 ∨ k = 23 ∨ k = 24 ∨ k = 25 ∨ k = 26 ∨ k = 27 ∨ 28 ≤ k := by omega
  rcases this with rfl | rfl | rfl | rfl | rfl | rfl | rfl | rfl | rfl | rfl | rfl | rfl | rfl | rfl | rfl | rfl | rfl | rfl | rfl | rfl | rfl | rfl | rfl | rfl | rfl | rfl | rfl | rfl | h28
  · exact e_tab d_L_law_33 127 160 (by decide) (by decide) (by decide) (by decide) (law_child hs hi hL I J G nxt)
  · exact e_tab d_L_law_33 222 255 (by decide) (by decide) (by decide) (by decide) (law_had hs hi hL I J G nxt)
  · exact e_tab d_L_law_33 271 304 (by decide) (by decide) (by decide) (by decide) (law_thing hs hi hL I J G nxt)
  · exact e_tab d_L_law_33 340 373 (by decide) (by decide) (by decide) (by decide) (law_answer hs hi hL I J G nxt)
  · exact e_tab d_L_law_33 383 416 (by decide) (by decide) (by decide) (by decide) (law_answered hs hi hL I J G nxt)
  · exact e_tab d_L_law_33 416 449 (by decide) (by decide) (by decide) (by decide) (law_difference hs hi hL I J G nxt)
  · exact e_tab d_L_law_33 459 492 (by decide) (by decide) (by decide) (by decide) (law_feed hs hi hL I J G nxt)
  · exact e_tab d_L_law_33 522 555 (by decide) (by decide) (by decide) (by decide) (law_end hs hi hL I J G nxt)
  · exact e_tab d_L_law_33 545 578 (by decide) (by decide) (by decide) (by decide) (law_text hs hi hL I J G nxt)
  · exact e_tab d_L_law_33 558 591 (by decide) (by decide) (by decide) (by decide) (law_fault hs hi hL I J G nxt)
  · exact e_tab d_L_law_33 581 614 (by decide) (by decide) (by decide) (by decide) (law_deals hs hi hL I J G nxt)
  · exact e_tab d_L_law_33 614 647 (by decide) (by decide) (by decide) (by decide) (law_odds hs hi hL I J G nxt)
  · exact e_tab d_L_law_33 657 690 (by decide) (by decide) (by decide) (by decide) (law_paid hs hi hL I J G nxt)
  · exact e_tab d_L_law_33 700 733 (by decide) (by decide) (by decide) (by decide) (law_few hs hi hL I J G nxt)
  · exact e_tab d_L_law_33 753 786 (by decide) (by decide) (by decide) (by decide) (law_changed hs hi hL I J G nxt)
  · exact e_tab d_L_law_33 812 845 (by decide) (by decide) (by decide) (by decide) (law_lost hs hi hL I J G nxt)
  · exact e_tab d_L_law_33 861 894 (by decide) (by decide) (by decide) (by decide) (law_costs hs hi hL I J G nxt)
  · exact e_tab d_L_law_33 884 917 (by decide) (by decide) (by decide) (by decide) (law_back hs hi hL I J G nxt)
  · exact e_tab d_L_law_33 917 950 (by decide) (by decide) (by decide) (by decide) (law_course hs hi hL I J G nxt)
  · exact e_tab d_L_law_33 970 1003 (by decide) (by decide) (by decide) (by decide) (law_link hs hi hL I J G nxt)
  · exact e_tab d_L_law_33 1003 1036 (by decide) (by decide) (by decide) (by decide) (law_ways hs hi hL I J G nxt)
  · exact e_tab d_L_law_33 1046 1079 (by decide) (by decide) (by decide) (by decide) (law_gap hs hi hL I J G nxt)
  · exact e_tab d_L_law_33 1079 1112 (by decide) (by decide) (by decide) (by decide) (law_step hs hi hL I J G nxt)
  · exact e_tab d_L_law_33 1112 1145 (by decide) (by decide) (by decide) (by decide) (law_land hs hi hL I J G nxt)
  · exact e_tab d_L_law_33 1161 1194 (by decide) (by decide) (by decide) (by decide) (law_live hs hi hL I J G nxt)
  · exact e_tab d_L_law_33 1204 1237 (by decide) (by decide) (by decide) (by decide) (law_image hs hi hL I J G nxt)
  · exact e_tab d_L_law_33 1217 1250 (by decide) (by decide) (by decide) (by decide) (law_again hs hi hL I J G nxt)
  · exact e_tab d_L_law_33 1230 1263 (by decide) (by decide) (by decide) (by decide) (law_about hs hi hL I J G nxt)
  · refine e_tabD d_L_law_33 1286 (Or.inr ?_) (by decide) (law_next (nxt h g drn hs I J G))
    have : ∀ k, k < 32 → 28 ≤ k → (27 : Int) < (nI k).toInt := by decide +kernel
    exact this k hk h28
theorem law_over {κ : Nat × Nat} {h : AH} {L i : Nat} {xs : Nat → Int32} (hL : L ≤ 3072) (hi : i ≤ L + 6) (hs : h.1 = (L, xs)) (ho : L < i + 6) : E M_L_law κ (fun v _ => v = some (.int 1)) 18 h [some (.float 0), some (.ref 0), some (.ref 66), some (.int (nI i))] [] := by
  have hs1 : h.1.1 = L := by rw [hs]
  refine e_iloadn d_L_law_18 rfl ?_
  refine e_aloadSn d_L_law_19 rfl (by decide) ?_
  refine e_slen d_L_law_20 ?_
  rw [hs1]
  refine e_bipush (v := 6) d_L_law_21 (by decide) ?_
  refine e_isub d_L_law_23 ?_
  refine e_icmp_gt d_L_law_24 (fun _ => ?_) (fun c => absurd ((law_cmp hL hi).mpr ho) c)
  refine e_iconst (v := 1) d_L_law_1292 (by decide) ?_
  exact e_iret d_L_law_1293 rfl rfl rfl
theorem law_loop {L : Nat} {xs : Nat → Int32} (hL : L ≤ 3072) : ∀ (n i : Nat) (h : AH) (g : Gh) (drn : Nat), L ≤ i + n → i ≤ L + 6 → h.1 = (L, xs) → InvC h g drn → InvM h g → GhOK g → E M_L_law (16384 - drn, 2 * (16384 - drn)) (fun v _ => v = some (.int 1)) 18 h [some (.float 0), some (.ref 0), some (.ref 66), some (.int (nI i))] [] := by
  intro n
  induction n with
  | zero =>
    intro i h g drn h1 h2 hs I J G
    exact law_over hL h2 hs (by omega)
  | succ n ih =>
    intro i h g drn h1 h2 hs I J G
    by_cases hi : i + 6 ≤ L
    · exact law_turn hs hi hL I J G (fun h' g' drn' hs' I' J' G' => ih (i + 6) h' g' drn' (by omega) (by omega) hs' I' J' G')
    · exact law_over hL h2 hs (by omega)
