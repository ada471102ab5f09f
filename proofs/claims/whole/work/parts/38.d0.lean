set_option maxHeartbeats 4000000 in
set_option maxRecDepth 100000 in
theorem lc_0 {x : zFx} (C : zC x code RL 4 room_1) {b L : Nat} {xs : Nat → Int32} (X : lwX x b L xs) {a a' : Nat → Nat} {v : tAL} {m : tMo} {n : Nat} {i : Int32} (hi : i.toInt = ((5 * n : Nat) : Int)) (hL : 5 * n + 5 ≤ L) (h : Rel n v m) (go : ∀ v' m', Rel (n + 1) v' m' → vV x 4 93 1926 (wA (z_g x) a v' ++ wM (z_g x) a' m') 1098 [(3, .int i), (2, .ref (a' 0)), (1, .ref (a 0)), (0, .ref b)] []) : vV x 4 93 1926 (wA (z_g x) a v ++ wM (z_g x) a' m) 184 [(3, .int i), (2, .ref (a' 0)), (1, .ref (a 0)), (0, .ref b)] [] := by
  have hb := X.2.2.2
  have h512 : n ≤ 512 := by omega
  obtain ⟨r, r', e1, e2, e3, e4⟩ := p_feed h (xs (5 * n + 1)) ((xs (5 * n + 2)).toInt64 <<< ((32 : Int32).toInt64 &&& 63) ||| (xs (5 * n + 3)).toInt64 &&& 4294967295)
  refine r_aload_n C eL_184 2 rfl rfl ?_
  refine r_aload_n C eL_185 3 rfl rfl ?_
  refine r_iload_n C eL_186 0 rfl rfl ?_
  refine r_iconst C (v := 1) eL_187 (by decide) ?_
  refine r_iadd C eL_188 ?_
  refine lw_sld C X (k := 5 * n + 1) eL_189 (ia_1 hi (by omega)) (by omega) ?_
  refine r_aload_n C eL_190 3 rfl rfl ?_
  refine r_iload_n C eL_191 0 rfl rfl ?_
  refine r_iconst C (v := 2) eL_192 (by decide) ?_
  refine r_iadd C eL_193 ?_
  refine lw_sld C X (k := 5 * n + 2) eL_194 (ia_2 hi (by omega)) (by omega) ?_
  refine r_i2l C eL_195 ?_
  refine r_bipush C (v := 32) eL_196 (by decide) ?_
  refine r_lshl C eL_198 ?_
  refine r_aload_n C eL_199 3 rfl rfl ?_
  refine r_iload_n C eL_200 0 rfl rfl ?_
  refine r_iconst C (v := 3) eL_201 (by decide) ?_
  refine r_iadd C eL_202 ?_
  refine lw_sld C X (k := 5 * n + 3) eL_203 (ia_3 hi (by omega)) (by omega) ?_
  refine r_i2l C eL_204 ?_
  refine r_ldc2 C eL_205 q1575 ?_
  refine r_land C eL_208 ?_
  refine r_lor C eL_209 ?_
  refine lw_Ai C (c_AL_feed (z_l x) (z_g x) a 0 v (xs (5 * n + 1)) ((xs (5 * n + 2)).toInt64 <<< ((32 : Int32).toInt64 &&& 63) ||| (xs (5 * n + 3)).toInt64 &&& 4294967295) r e1) eL_210 KL_AL_feed ⟨0, 10, _, (RX10, TX10, 15), rfl, rfl, rfl⟩ rfl rfl rfl rfl rfl rfl rfl rfl rfl ?_
  refine r_aload_n C eL_213 1 rfl rfl ?_
  refine r_aload_n C eL_214 3 rfl rfl ?_
  refine r_iload_n C eL_215 0 rfl rfl ?_
  refine r_iconst C (v := 1) eL_216 (by decide) ?_
  refine r_iadd C eL_217 ?_
  refine lw_sld C X (k := 5 * n + 1) eL_218 (ia_1 hi (by omega)) (by omega) ?_
  refine r_aload_n C eL_219 3 rfl rfl ?_
  refine r_iload_n C eL_220 0 rfl rfl ?_
  refine r_iconst C (v := 2) eL_221 (by decide) ?_
  refine r_iadd C eL_222 ?_
  refine lw_sld C X (k := 5 * n + 2) eL_223 (ia_2 hi (by omega)) (by omega) ?_
  refine r_i2l C eL_224 ?_
  refine r_bipush C (v := 32) eL_225 (by decide) ?_
  refine r_lshl C eL_227 ?_
  refine r_aload_n C eL_228 3 rfl rfl ?_
  refine r_iload_n C eL_229 0 rfl rfl ?_
  refine r_iconst C (v := 3) eL_230 (by decide) ?_
  refine r_iadd C eL_231 ?_
  refine lw_sld C X (k := 5 * n + 3) eL_232 (ia_3 hi (by omega)) (by omega) ?_
  refine r_i2l C eL_233 ?_
  refine r_ldc2 C eL_234 q1575 ?_
  refine r_land C eL_237 ?_
  refine r_lor C eL_238 ?_
  refine lw_Mi C (c_Mo_feed (z_l x) (z_g x) a' 0 m (xs (5 * n + 1)) ((xs (5 * n + 2)).toInt64 <<< ((32 : Int32).toInt64 &&& 63) ||| (xs (5 * n + 3)).toInt64 &&& 4294967295) r' e2) eL_239 KL_Mo_feed ⟨0, 11, _, (RX11, TX11, 34), rfl, rfl, rfl⟩ rfl rfl rfl rfl rfl rfl rfl rfl rfl ?_
  exact r_icmp_eq C eL_242 (fun _ => go _ _ e4) (fun z => absurd e3 z)
set_option maxHeartbeats 4000000 in
set_option maxRecDepth 100000 in
theorem lc_1 {x : zFx} (C : zC x code RL 4 room_1) {b L : Nat} {xs : Nat → Int32} (X : lwX x b L xs) {a a' : Nat → Nat} {v : tAL} {m : tMo} {n : Nat} {i : Int32} (hi : i.toInt = ((5 * n : Nat) : Int)) (hL : 5 * n + 5 ≤ L) (h : Rel n v m) (go : ∀ v' m', Rel (n + 1) v' m' → vV x 4 93 1926 (wA (z_g x) a v' ++ wM (z_g x) a' m') 1098 [(3, .int i), (2, .ref (a' 0)), (1, .ref (a 0)), (0, .ref b)] []) : vV x 4 93 1926 (wA (z_g x) a v ++ wM (z_g x) a' m) 247 [(3, .int i), (2, .ref (a' 0)), (1, .ref (a 0)), (0, .ref b)] [] := by
  have hb := X.2.2.2
  have h512 : n ≤ 512 := by omega
  obtain ⟨r, r', e1, e2, e3, e4⟩ := p_quay h
  refine r_aload_n C eL_247 2 rfl rfl ?_
  refine lw_Ai C (c_AL_quay (z_l x) (z_g x) a 0 v r e1) eL_248 KL_AL_quay ⟨0, 10, _, (RX10, TX10, 15), rfl, rfl, rfl⟩ rfl rfl rfl rfl rfl rfl rfl rfl rfl ?_
  refine r_aload_n C eL_251 1 rfl rfl ?_
  refine lw_Mi C (c_Mo_quay (z_l x) (z_g x) a' 0 m r' e2) eL_252 KL_Mo_quay ⟨0, 11, _, (RX11, TX11, 34), rfl, rfl, rfl⟩ rfl rfl rfl rfl rfl rfl rfl rfl rfl ?_
  exact r_icmp_eq C eL_255 (fun _ => go _ _ e4) (fun z => absurd e3 z)
set_option maxHeartbeats 4000000 in
set_option maxRecDepth 100000 in
theorem lc_2 {x : zFx} (C : zC x code RL 4 room_1) {b L : Nat} {xs : Nat → Int32} (X : lwX x b L xs) {a a' : Nat → Nat} {v : tAL} {m : tMo} {n : Nat} {i : Int32} (hi : i.toInt = ((5 * n : Nat) : Int)) (hL : 5 * n + 5 ≤ L) (h : Rel n v m) (go : ∀ v' m', Rel (n + 1) v' m' → vV x 4 93 1926 (wA (z_g x) a v' ++ wM (z_g x) a' m') 1098 [(3, .int i), (2, .ref (a' 0)), (1, .ref (a 0)), (0, .ref b)] []) : vV x 4 93 1926 (wA (z_g x) a v ++ wM (z_g x) a' m) 260 [(3, .int i), (2, .ref (a' 0)), (1, .ref (a 0)), (0, .ref b)] [] := by
  have hb := X.2.2.2
  have h512 : n ≤ 512 := by omega
  obtain ⟨r, r', e1, e2, e3, e4⟩ := p_plan h
  refine r_aload_n C eL_260 2 rfl rfl ?_
  refine lw_Ai C (c_AL_plan (z_l x) (z_g x) a 0 v r e1) eL_261 KL_AL_plan ⟨0, 10, _, (RX10, TX10, 15), rfl, rfl, rfl⟩ rfl rfl rfl rfl rfl rfl rfl rfl rfl ?_
  refine r_aload_n C eL_264 1 rfl rfl ?_
  refine lw_Mi C (c_Mo_plan (z_l x) (z_g x) a' 0 m r' e2) eL_265 KL_Mo_plan ⟨0, 11, _, (RX11, TX11, 34), rfl, rfl, rfl⟩ rfl rfl rfl rfl rfl rfl rfl rfl rfl ?_
  exact r_icmp_eq C eL_268 (fun _ => go _ _ e4) (fun z => absurd e3 z)
set_option maxHeartbeats 4000000 in
set_option maxRecDepth 100000 in
theorem lc_3 {x : zFx} (C : zC x code RL 4 room_1) {b L : Nat} {xs : Nat → Int32} (X : lwX x b L xs) {a a' : Nat → Nat} {v : tAL} {m : tMo} {n : Nat} {i : Int32} (hi : i.toInt = ((5 * n : Nat) : Int)) (hL : 5 * n + 5 ≤ L) (h : Rel n v m) (go : ∀ v' m', Rel (n + 1) v' m' → vV x 4 93 1926 (wA (z_g x) a v' ++ wM (z_g x) a' m') 1098 [(3, .int i), (2, .ref (a' 0)), (1, .ref (a 0)), (0, .ref b)] []) : vV x 4 93 1926 (wA (z_g x) a v ++ wM (z_g x) a' m) 273 [(3, .int i), (2, .ref (a' 0)), (1, .ref (a 0)), (0, .ref b)] [] := by
  have hb := X.2.2.2
  have h512 : n ≤ 512 := by omega
  obtain ⟨r, r', e1, e2, e3, e4⟩ := p_tide h
  refine r_aload_n C eL_273 2 rfl rfl ?_
  refine lw_Ai C (c_AL_tide (z_l x) (z_g x) a 0 v r e1) eL_274 KL_AL_tide ⟨0, 10, _, (RX10, TX10, 15), rfl, rfl, rfl⟩ rfl rfl rfl rfl rfl rfl rfl rfl rfl ?_
  refine r_aload_n C eL_277 1 rfl rfl ?_
  refine lw_Mi C (c_Mo_tide (z_l x) (z_g x) a' 0 m r' e2) eL_278 KL_Mo_tide ⟨0, 11, _, (RX11, TX11, 34), rfl, rfl, rfl⟩ rfl rfl rfl rfl rfl rfl rfl rfl rfl ?_
  exact r_icmp_eq C eL_281 (fun _ => go _ _ e4) (fun z => absurd e3 z)
set_option maxHeartbeats 4000000 in
set_option maxRecDepth 100000 in
theorem lc_4 {x : zFx} (C : zC x code RL 4 room_1) {b L : Nat} {xs : Nat → Int32} (X : lwX x b L xs) {a a' : Nat → Nat} {v : tAL} {m : tMo} {n : Nat} {i : Int32} (hi : i.toInt = ((5 * n : Nat) : Int)) (hL : 5 * n + 5 ≤ L) (h : Rel n v m) (go : ∀ v' m', Rel (n + 1) v' m' → vV x 4 93 1926 (wA (z_g x) a v' ++ wM (z_g x) a' m') 1098 [(3, .int i), (2, .ref (a' 0)), (1, .ref (a 0)), (0, .ref b)] []) : vV x 4 93 1926 (wA (z_g x) a v ++ wM (z_g x) a' m) 286 [(3, .int i), (2, .ref (a' 0)), (1, .ref (a 0)), (0, .ref b)] [] := by
  have hb := X.2.2.2
  have h512 : n ≤ 512 := by omega
  obtain ⟨e3, e4⟩ := p_fault h
  refine r_aload_n C eL_286 2 rfl rfl ?_
  refine lw_Ai C (c_AL_fault (z_l x) (z_g x) a 0 v _ rfl) eL_287 KL_AL_fault ⟨0, 10, _, (RX10, TX10, 15), rfl, rfl, rfl⟩ rfl rfl rfl rfl rfl rfl rfl rfl rfl ?_
  refine r_aload_n C eL_290 1 rfl rfl ?_
  refine lw_Mi C (c_Mo_fault (z_l x) (z_g x) a' 0 m _ rfl) eL_291 KL_Mo_fault ⟨0, 11, _, (RX11, TX11, 34), rfl, rfl, rfl⟩ rfl rfl rfl rfl rfl rfl rfl rfl rfl ?_
  exact r_icmp_eq C eL_294 (fun _ => go _ _ e4) (fun z => absurd e3 z)
set_option maxHeartbeats 4000000 in
set_option maxRecDepth 100000 in
theorem lc_5 {x : zFx} (C : zC x code RL 4 room_1) {b L : Nat} {xs : Nat → Int32} (X : lwX x b L xs) {a a' : Nat → Nat} {v : tAL} {m : tMo} {n : Nat} {i : Int32} (hi : i.toInt = ((5 * n : Nat) : Int)) (hL : 5 * n + 5 ≤ L) (h : Rel n v m) (go : ∀ v' m', Rel (n + 1) v' m' → vV x 4 93 1926 (wA (z_g x) a v' ++ wM (z_g x) a' m') 1098 [(3, .int i), (2, .ref (a' 0)), (1, .ref (a 0)), (0, .ref b)] []) : vV x 4 93 1926 (wA (z_g x) a v ++ wM (z_g x) a' m) 299 [(3, .int i), (2, .ref (a' 0)), (1, .ref (a 0)), (0, .ref b)] [] := by
  have hb := X.2.2.2
  have h512 : n ≤ 512 := by omega
  obtain ⟨r', e2, e3, e4⟩ := p_told h (xs (5 * n + 1))
  refine r_aload_n C eL_299 2 rfl rfl ?_
  refine r_aload_n C eL_300 3 rfl rfl ?_
  refine r_iload_n C eL_301 0 rfl rfl ?_
  refine r_iconst C (v := 1) eL_302 (by decide) ?_
  refine r_iadd C eL_303 ?_
  refine lw_sld C X (k := 5 * n + 1) eL_304 (ia_1 hi (by omega)) (by omega) ?_
  refine lw_Ai C (c_AL_told (z_l x) (z_g x) a 0 v (xs (5 * n + 1)) _ rfl) eL_305 KL_AL_told ⟨0, 10, _, (RX10, TX10, 15), rfl, rfl, rfl⟩ rfl rfl rfl rfl rfl rfl rfl rfl rfl ?_
  refine r_aload_n C eL_308 1 rfl rfl ?_
  refine r_aload_n C eL_309 3 rfl rfl ?_
  refine r_iload_n C eL_310 0 rfl rfl ?_
  refine r_iconst C (v := 1) eL_311 (by decide) ?_
  refine r_iadd C eL_312 ?_
  refine lw_sld C X (k := 5 * n + 1) eL_313 (ia_1 hi (by omega)) (by omega) ?_
  refine lw_Mi C (c_Mo_told (z_l x) (z_g x) a' 0 m (xs (5 * n + 1)) r' e2) eL_314 KL_Mo_told ⟨0, 11, _, (RX11, TX11, 34), rfl, rfl, rfl⟩ rfl rfl rfl rfl rfl rfl rfl rfl rfl ?_
  exact r_icmp_eq C eL_317 (fun _ => go _ _ e4) (fun z => absurd e3 z)
set_option maxHeartbeats 4000000 in
set_option maxRecDepth 100000 in
theorem lc_6 {x : zFx} (C : zC x code RL 4 room_1) {b L : Nat} {xs : Nat → Int32} (X : lwX x b L xs) {a a' : Nat → Nat} {v : tAL} {m : tMo} {n : Nat} {i : Int32} (hi : i.toInt = ((5 * n : Nat) : Int)) (hL : 5 * n + 5 ≤ L) (h : Rel n v m) (go : ∀ v' m', Rel (n + 1) v' m' → vV x 4 93 1926 (wA (z_g x) a v' ++ wM (z_g x) a' m') 1098 [(3, .int i), (2, .ref (a' 0)), (1, .ref (a 0)), (0, .ref b)] []) : vV x 4 93 1926 (wA (z_g x) a v ++ wM (z_g x) a' m) 322 [(3, .int i), (2, .ref (a' 0)), (1, .ref (a 0)), (0, .ref b)] [] := by
  have hb := X.2.2.2
  have h512 : n ≤ 512 := by omega
  obtain ⟨r, r', e1, e2, e3, e4⟩ := p_post h (xs (5 * n + 1)) (xs (5 * n + 2))
  refine r_aload_n C eL_322 2 rfl rfl ?_
  refine r_aload_n C eL_323 3 rfl rfl ?_
  refine r_iload_n C eL_324 0 rfl rfl ?_
  refine r_iconst C (v := 1) eL_325 (by decide) ?_
  refine r_iadd C eL_326 ?_
  refine lw_sld C X (k := 5 * n + 1) eL_327 (ia_1 hi (by omega)) (by omega) ?_
  refine r_aload_n C eL_328 3 rfl rfl ?_
  refine r_iload_n C eL_329 0 rfl rfl ?_
  refine r_iconst C (v := 2) eL_330 (by decide) ?_
  refine r_iadd C eL_331 ?_
  refine lw_sld C X (k := 5 * n + 2) eL_332 (ia_2 hi (by omega)) (by omega) ?_
  refine lw_Ai C (c_AL_post (z_l x) (z_g x) a 0 v (xs (5 * n + 1)) (xs (5 * n + 2)) r e1) eL_333 KL_AL_post ⟨0, 10, _, (RX10, TX10, 15), rfl, rfl, rfl⟩ rfl rfl rfl rfl rfl rfl rfl rfl rfl ?_
  refine r_aload_n C eL_336 1 rfl rfl ?_
  refine r_aload_n C eL_337 3 rfl rfl ?_
  refine r_iload_n C eL_338 0 rfl rfl ?_
  refine r_iconst C (v := 1) eL_339 (by decide) ?_
  refine r_iadd C eL_340 ?_
  refine lw_sld C X (k := 5 * n + 1) eL_341 (ia_1 hi (by omega)) (by omega) ?_
  refine r_aload_n C eL_342 3 rfl rfl ?_
  refine r_iload_n C eL_343 0 rfl rfl ?_
  refine r_iconst C (v := 2) eL_344 (by decide) ?_
  refine r_iadd C eL_345 ?_
  refine lw_sld C X (k := 5 * n + 2) eL_346 (ia_2 hi (by omega)) (by omega) ?_
  refine lw_Mi C (c_Mo_post (z_l x) (z_g x) a' 0 m (xs (5 * n + 1)) (xs (5 * n + 2)) r' e2) eL_347 KL_Mo_post ⟨0, 11, _, (RX11, TX11, 34), rfl, rfl, rfl⟩ rfl rfl rfl rfl rfl rfl rfl rfl rfl ?_
  exact r_icmp_eq C eL_350 (fun _ => go _ _ e4) (fun z => absurd e3 z)
