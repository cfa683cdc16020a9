/-! THE LAW: a case of its switch after another -/
section LW
variable {p : Program} {l : Launch} {e : Env} {s : State} {m : MethodId} {below : List Frame} {meth : Method} {c : Code} {H : Heap} {locs : List Loc} {Q : State → Prop} {ls : Array Slot} {b L : Nat} {xs : Nat → Int32} {E F : mw_E} {σ τ : mw_M} {i : Nat}
set_option maxHeartbeats 4000000 in
set_option maxRecDepth 100000 in
theorem lw_c_set (B : lwB p s m meth c b L xs E F) (I : lwI s E F σ τ H locs) (hl : lv_has ls 4 (lwL b E F i)) (hi : i + 6 ≤ L) (kk : ∀ (σ τ : mw_M) (H : Heap) (locs : List Loc), lwI s E F σ τ H locs → W p l e room_1 s m #[Value.ref b] below meth c H locs 88 3515 Q (F0 m 1064 ls [])) : W p l e room_1 s m #[Value.ref b] below meth c H locs 88 3515 Q (F0 m 164 ls []) := by
  obtain ⟨hR, hP, hP2, hS⟩ := I
  obtain ⟨C, -, -, ZX, ZM, hap⟩ := id B
  obtain ⟨PX, PM, mX, mM, hag⟩ := st_set l hR (xs (i + 1)) (xs (i + 2)) (xs (i + 3))
  refine lv_aload_n C.1 C.2.1 dL_law_164 rfl (lv_at hl 1 rfl) ?_
  refine lw_arg 1 B hS hl hi (by decide) (by decide) dL_law_165 dL_law_166 dL_law_167 dL_law_168 dL_law_169 ?_
  refine lw_arg 2 B hS hl hi (by decide) (by decide) dL_law_170 dL_law_171 dL_law_172 dL_law_173 dL_law_174 ?_
  refine lw_arg 3 B hS hl hi (by decide) (by decide) dL_law_175 dL_law_176 dL_law_177 dL_law_178 dL_law_179 ?_
  refine ge_cVi (As := [.int (xs (i + 1)), .int (xs (i + 2)), .int (xs (i + 3))]) (rest := []) C ZX hP hS 30 (mX E) vb_X11_set tw_3_34 ⟨rfl, rfl⟩ ⟨Nat.le_of_ble_eq_true rfl, Nat.le_of_ble_eq_true rfl⟩ (by decide) rfl rfl rfl rfl hl.1 rfl (Nat.le_of_ble_eq_true rfl) dL_law_180 ⟨Nat.le_of_ble_eq_true rfl, Nat.le_of_ble_eq_true rfl⟩ (fun r u H locs q1 hP hS hk1 => ?_)
  have hP2 := lw_kept hP2 hk1 (fun q h1 h2 => hap q h2 h1)
  refine lv_aload_n C.1 C.2.1 dL_law_183 rfl (lv_at hl 2 rfl) ?_
  refine lw_arg 1 B hS hl hi (by decide) (by decide) dL_law_184 dL_law_185 dL_law_186 dL_law_187 dL_law_188 ?_
  refine lw_arg 2 B hS hl hi (by decide) (by decide) dL_law_189 dL_law_190 dL_law_191 dL_law_192 dL_law_193 ?_
  refine lw_arg 3 B hS hl hi (by decide) (by decide) dL_law_194 dL_law_195 dL_law_196 dL_law_197 dL_law_198 ?_
  refine ge_cVi (As := [.int (xs (i + 1)), .int (xs (i + 2)), .int (xs (i + 3))]) (rest := [.int r]) C ZM hP2 hS 0 (mM F) vb_X12_set tw_5_28 ⟨rfl, rfl⟩ ⟨Nat.le_of_ble_eq_true rfl, Nat.le_of_ble_eq_true rfl⟩ (by decide) rfl rfl rfl rfl hl.1 rfl (Nat.le_of_ble_eq_true rfl) dL_law_199 ⟨Nat.le_of_ble_eq_true rfl, Nat.le_of_ble_eq_true rfl⟩ (fun r2 v H locs q2 hP2 hS hk2 => ?_)
  have hP := lw_kept hP hk2 hap
  obtain ⟨er, hR⟩ := hag r u r2 v q1 q2
  refine lv_icmp_eq (tgt := 1064) C.1 C.2.1 dL_law_202 (by decide) (fun _ => ?_) (fun c1 => absurd er c1)
  exact kk u v _ _ ⟨hR, hP, hP2, hS⟩
set_option maxHeartbeats 4000000 in
set_option maxRecDepth 100000 in
theorem lw_c_customer (B : lwB p s m meth c b L xs E F) (I : lwI s E F σ τ H locs) (hl : lv_has ls 4 (lwL b E F i)) (hi : i + 6 ≤ L) (kk : ∀ (σ τ : mw_M) (H : Heap) (locs : List Loc), lwI s E F σ τ H locs → W p l e room_1 s m #[Value.ref b] below meth c H locs 88 3515 Q (F0 m 1064 ls [])) : W p l e room_1 s m #[Value.ref b] below meth c H locs 88 3515 Q (F0 m 207 ls []) := by
  obtain ⟨hR, hP, hP2, hS⟩ := I
  obtain ⟨C, -, -, ZX, ZM, hap⟩ := id B
  obtain ⟨PX, PM, mX, mM, hag⟩ := st_customer l hR (xs (i + 1)) (xs (i + 2)) (xs (i + 3))
  refine lv_aload_n C.1 C.2.1 dL_law_207 rfl (lv_at hl 1 rfl) ?_
  refine lw_arg 1 B hS hl hi (by decide) (by decide) dL_law_208 dL_law_209 dL_law_210 dL_law_211 dL_law_212 ?_
  refine lw_arg 2 B hS hl hi (by decide) (by decide) dL_law_213 dL_law_214 dL_law_215 dL_law_216 dL_law_217 ?_
  refine lw_arg 3 B hS hl hi (by decide) (by decide) dL_law_218 dL_law_219 dL_law_220 dL_law_221 dL_law_222 ?_
  refine ge_cVi (As := [.int (xs (i + 1)), .int (xs (i + 2)), .int (xs (i + 3))]) (rest := []) C ZX hP hS 30 (mX E) vb_X11_customer tw_3_65 ⟨rfl, rfl⟩ ⟨Nat.le_of_ble_eq_true rfl, Nat.le_of_ble_eq_true rfl⟩ (by decide) rfl rfl rfl rfl hl.1 rfl (Nat.le_of_ble_eq_true rfl) dL_law_223 ⟨Nat.le_of_ble_eq_true rfl, Nat.le_of_ble_eq_true rfl⟩ (fun r u H locs q1 hP hS hk1 => ?_)
  have hP2 := lw_kept hP2 hk1 (fun q h1 h2 => hap q h2 h1)
  refine lv_aload_n C.1 C.2.1 dL_law_226 rfl (lv_at hl 2 rfl) ?_
  refine lw_arg 1 B hS hl hi (by decide) (by decide) dL_law_227 dL_law_228 dL_law_229 dL_law_230 dL_law_231 ?_
  refine lw_arg 2 B hS hl hi (by decide) (by decide) dL_law_232 dL_law_233 dL_law_234 dL_law_235 dL_law_236 ?_
  refine lw_arg 3 B hS hl hi (by decide) (by decide) dL_law_237 dL_law_238 dL_law_239 dL_law_240 dL_law_241 ?_
  refine ge_cVi (As := [.int (xs (i + 1)), .int (xs (i + 2)), .int (xs (i + 3))]) (rest := [.int r]) C ZM hP2 hS 0 (mM F) vb_X12_customer tw_6_38 ⟨rfl, rfl⟩ ⟨Nat.le_of_ble_eq_true rfl, Nat.le_of_ble_eq_true rfl⟩ (by decide) rfl rfl rfl rfl hl.1 rfl (Nat.le_of_ble_eq_true rfl) dL_law_242 ⟨Nat.le_of_ble_eq_true rfl, Nat.le_of_ble_eq_true rfl⟩ (fun r2 v H locs q2 hP2 hS hk2 => ?_)
  have hP := lw_kept hP hk2 hap
  obtain ⟨er, hR⟩ := hag r u r2 v q1 q2
  refine lv_icmp_eq (tgt := 1064) C.1 C.2.1 dL_law_245 (by decide) (fun _ => ?_) (fun c1 => absurd er c1)
  exact kk u v _ _ ⟨hR, hP, hP2, hS⟩
set_option maxHeartbeats 4000000 in
set_option maxRecDepth 100000 in
theorem lw_c_told (B : lwB p s m meth c b L xs E F) (I : lwI s E F σ τ H locs) (hl : lv_has ls 4 (lwL b E F i)) (hi : i + 6 ≤ L) (kk : ∀ (σ τ : mw_M) (H : Heap) (locs : List Loc), lwI s E F σ τ H locs → W p l e room_1 s m #[Value.ref b] below meth c H locs 88 3515 Q (F0 m 1064 ls [])) : W p l e room_1 s m #[Value.ref b] below meth c H locs 88 3515 Q (F0 m 250 ls []) := by
  obtain ⟨hR, hP, hP2, hS⟩ := I
  obtain ⟨C, -, -, ZX, ZM, hap⟩ := id B
  obtain ⟨PX, PM, mX, mM, hag⟩ := st_told l hR (xs (i + 1)) (xs (i + 2))
  refine lv_aload_n C.1 C.2.1 dL_law_250 rfl (lv_at hl 1 rfl) ?_
  refine lw_arg 1 B hS hl hi (by decide) (by decide) dL_law_251 dL_law_252 dL_law_253 dL_law_254 dL_law_255 ?_
  refine lw_arg 2 B hS hl hi (by decide) (by decide) dL_law_256 dL_law_257 dL_law_258 dL_law_259 dL_law_260 ?_
  refine ge_cVi (As := [.int (xs (i + 1)), .int (xs (i + 2))]) (rest := []) C ZX hP hS 30 (mX E) vb_X11_told tw_3_76 ⟨rfl, rfl⟩ ⟨Nat.le_of_ble_eq_true rfl, Nat.le_of_ble_eq_true rfl⟩ (by decide) rfl rfl rfl rfl hl.1 rfl (Nat.le_of_ble_eq_true rfl) dL_law_261 ⟨Nat.le_of_ble_eq_true rfl, Nat.le_of_ble_eq_true rfl⟩ (fun r u H locs q1 hP hS hk1 => ?_)
  have hP2 := lw_kept hP2 hk1 (fun q h1 h2 => hap q h2 h1)
  refine lv_aload_n C.1 C.2.1 dL_law_264 rfl (lv_at hl 2 rfl) ?_
  refine lw_arg 1 B hS hl hi (by decide) (by decide) dL_law_265 dL_law_266 dL_law_267 dL_law_268 dL_law_269 ?_
  refine lw_arg 2 B hS hl hi (by decide) (by decide) dL_law_270 dL_law_271 dL_law_272 dL_law_273 dL_law_274 ?_
  refine ge_cVi (As := [.int (xs (i + 1)), .int (xs (i + 2))]) (rest := [.int r]) C ZM hP2 hS 0 (mM F) vb_X12_told tw_6_44 ⟨rfl, rfl⟩ ⟨Nat.le_of_ble_eq_true rfl, Nat.le_of_ble_eq_true rfl⟩ (by decide) rfl rfl rfl rfl hl.1 rfl (Nat.le_of_ble_eq_true rfl) dL_law_275 ⟨Nat.le_of_ble_eq_true rfl, Nat.le_of_ble_eq_true rfl⟩ (fun r2 v H locs q2 hP2 hS hk2 => ?_)
  have hP := lw_kept hP hk2 hap
  obtain ⟨er, hR⟩ := hag r u r2 v q1 q2
  refine lv_icmp_eq (tgt := 1064) C.1 C.2.1 dL_law_278 (by decide) (fun _ => ?_) (fun c1 => absurd er c1)
  exact kk u v _ _ ⟨hR, hP, hP2, hS⟩
set_option maxHeartbeats 4000000 in
set_option maxRecDepth 100000 in
theorem lw_c_feed (B : lwB p s m meth c b L xs E F) (I : lwI s E F σ τ H locs) (hl : lv_has ls 4 (lwL b E F i)) (hi : i + 6 ≤ L) (kk : ∀ (σ τ : mw_M) (H : Heap) (locs : List Loc), lwI s E F σ τ H locs → W p l e room_1 s m #[Value.ref b] below meth c H locs 88 3515 Q (F0 m 1064 ls [])) : W p l e room_1 s m #[Value.ref b] below meth c H locs 88 3515 Q (F0 m 283 ls []) := by
  obtain ⟨hR, hP, hP2, hS⟩ := I
  obtain ⟨C, -, -, ZX, ZM, hap⟩ := id B
  obtain ⟨PX, PM, mX, mM, hag⟩ := st_feed l hR (xs (i + 1))
  refine lv_aload_n C.1 C.2.1 dL_law_283 rfl (lv_at hl 1 rfl) ?_
  refine lw_arg 1 B hS hl hi (by decide) (by decide) dL_law_284 dL_law_285 dL_law_286 dL_law_287 dL_law_288 ?_
  refine ge_cVi (As := [.int (xs (i + 1))]) (rest := []) C ZX hP hS 30 (mX E) vb_X11_feed tw_3_144 ⟨rfl, rfl⟩ ⟨Nat.le_of_ble_eq_true rfl, Nat.le_of_ble_eq_true rfl⟩ (by decide) rfl rfl rfl rfl hl.1 rfl (Nat.le_of_ble_eq_true rfl) dL_law_289 ⟨Nat.le_of_ble_eq_true rfl, Nat.le_of_ble_eq_true rfl⟩ (fun r u H locs q1 hP hS hk1 => ?_)
  have hP2 := lw_kept hP2 hk1 (fun q h1 h2 => hap q h2 h1)
  refine lv_aload_n C.1 C.2.1 dL_law_292 rfl (lv_at hl 2 rfl) ?_
  refine lw_arg 1 B hS hl hi (by decide) (by decide) dL_law_293 dL_law_294 dL_law_295 dL_law_296 dL_law_297 ?_
  refine ge_cVi (As := [.int (xs (i + 1))]) (rest := [.int r]) C ZM hP2 hS 0 (mM F) vb_X12_feed tw_6_45 ⟨rfl, rfl⟩ ⟨Nat.le_of_ble_eq_true rfl, Nat.le_of_ble_eq_true rfl⟩ (by decide) rfl rfl rfl rfl hl.1 rfl (Nat.le_of_ble_eq_true rfl) dL_law_298 ⟨Nat.le_of_ble_eq_true rfl, Nat.le_of_ble_eq_true rfl⟩ (fun r2 v H locs q2 hP2 hS hk2 => ?_)
  have hP := lw_kept hP hk2 hap
  obtain ⟨er, hR⟩ := hag r u r2 v q1 q2
  refine lv_icmp_eq (tgt := 1064) C.1 C.2.1 dL_law_301 (by decide) (fun _ => ?_) (fun c1 => absurd er c1)
  exact kk u v _ _ ⟨hR, hP, hP2, hS⟩
set_option maxHeartbeats 4000000 in
set_option maxRecDepth 100000 in
theorem lw_c_text (B : lwB p s m meth c b L xs E F) (I : lwI s E F σ τ H locs) (hl : lv_has ls 4 (lwL b E F i)) (hi : i + 6 ≤ L) (kk : ∀ (σ τ : mw_M) (H : Heap) (locs : List Loc), lwI s E F σ τ H locs → W p l e room_1 s m #[Value.ref b] below meth c H locs 88 3515 Q (F0 m 1064 ls [])) : W p l e room_1 s m #[Value.ref b] below meth c H locs 88 3515 Q (F0 m 306 ls []) := by
  obtain ⟨hR, hP, hP2, hS⟩ := I
  obtain ⟨C, -, -, ZX, ZM, hap⟩ := id B
  obtain ⟨PX, PM, mX, mM, hag⟩ := st_text l hR
  refine lv_aload_n C.1 C.2.1 dL_law_306 rfl (lv_at hl 1 rfl) ?_
  refine ge_cVi (As := []) (rest := []) C ZX hP hS 30 (mX E) vb_X11_text tw_3_148 ⟨rfl, rfl⟩ ⟨Nat.le_of_ble_eq_true rfl, Nat.le_of_ble_eq_true rfl⟩ (by decide) rfl rfl rfl rfl hl.1 rfl (Nat.le_of_ble_eq_true rfl) dL_law_307 ⟨Nat.le_of_ble_eq_true rfl, Nat.le_of_ble_eq_true rfl⟩ (fun r u H locs q1 hP hS hk1 => ?_)
  have hP2 := lw_kept hP2 hk1 (fun q h1 h2 => hap q h2 h1)
  refine lv_aload_n C.1 C.2.1 dL_law_310 rfl (lv_at hl 2 rfl) ?_
  refine ge_cVi (As := []) (rest := [.int r]) C ZM hP2 hS 0 (mM F) vb_X12_text tw_6_50 ⟨rfl, rfl⟩ ⟨Nat.le_of_ble_eq_true rfl, Nat.le_of_ble_eq_true rfl⟩ (by decide) rfl rfl rfl rfl hl.1 rfl (Nat.le_of_ble_eq_true rfl) dL_law_311 ⟨Nat.le_of_ble_eq_true rfl, Nat.le_of_ble_eq_true rfl⟩ (fun r2 v H locs q2 hP2 hS hk2 => ?_)
  have hP := lw_kept hP hk2 hap
  obtain ⟨er, hR⟩ := hag r u r2 v q1 q2
  refine lv_icmp_eq (tgt := 1064) C.1 C.2.1 dL_law_314 (by decide) (fun _ => ?_) (fun c1 => absurd er c1)
  exact kk u v _ _ ⟨hR, hP, hP2, hS⟩
set_option maxHeartbeats 4000000 in
set_option maxRecDepth 100000 in
theorem lw_c_force (B : lwB p s m meth c b L xs E F) (I : lwI s E F σ τ H locs) (hl : lv_has ls 4 (lwL b E F i)) (hi : i + 6 ≤ L) (kk : ∀ (σ τ : mw_M) (H : Heap) (locs : List Loc), lwI s E F σ τ H locs → W p l e room_1 s m #[Value.ref b] below meth c H locs 88 3515 Q (F0 m 1064 ls [])) : W p l e room_1 s m #[Value.ref b] below meth c H locs 88 3515 Q (F0 m 319 ls []) := by
  obtain ⟨hR, hP, hP2, hS⟩ := I
  obtain ⟨C, -, -, ZX, ZM, hap⟩ := id B
  obtain ⟨PX, PM, mX, mM, hag⟩ := st_force l hR (xs (i + 1))
  refine lv_aload_n C.1 C.2.1 dL_law_319 rfl (lv_at hl 1 rfl) ?_
  refine lw_arg 1 B hS hl hi (by decide) (by decide) dL_law_320 dL_law_321 dL_law_322 dL_law_323 dL_law_324 ?_
  refine ge_cVi (As := [.int (xs (i + 1))]) (rest := []) C ZX hP hS 30 (mX E) vb_X11_force tw_3_149 ⟨rfl, rfl⟩ ⟨Nat.le_of_ble_eq_true rfl, Nat.le_of_ble_eq_true rfl⟩ (by decide) rfl rfl rfl rfl hl.1 rfl (Nat.le_of_ble_eq_true rfl) dL_law_325 ⟨Nat.le_of_ble_eq_true rfl, Nat.le_of_ble_eq_true rfl⟩ (fun r u H locs q1 hP hS hk1 => ?_)
  have hP2 := lw_kept hP2 hk1 (fun q h1 h2 => hap q h2 h1)
  refine lv_aload_n C.1 C.2.1 dL_law_328 rfl (lv_at hl 2 rfl) ?_
  refine lw_arg 1 B hS hl hi (by decide) (by decide) dL_law_329 dL_law_330 dL_law_331 dL_law_332 dL_law_333 ?_
  refine ge_cVi (As := [.int (xs (i + 1))]) (rest := [.int r]) C ZM hP2 hS 0 (mM F) vb_X12_force tw_6_54 ⟨rfl, rfl⟩ ⟨Nat.le_of_ble_eq_true rfl, Nat.le_of_ble_eq_true rfl⟩ (by decide) rfl rfl rfl rfl hl.1 rfl (Nat.le_of_ble_eq_true rfl) dL_law_334 ⟨Nat.le_of_ble_eq_true rfl, Nat.le_of_ble_eq_true rfl⟩ (fun r2 v H locs q2 hP2 hS hk2 => ?_)
  have hP := lw_kept hP hk2 hap
  obtain ⟨er, hR⟩ := hag r u r2 v q1 q2
  refine lv_icmp_eq (tgt := 1064) C.1 C.2.1 dL_law_337 (by decide) (fun _ => ?_) (fun c1 => absurd er c1)
  exact kk u v _ _ ⟨hR, hP, hP2, hS⟩
set_option maxHeartbeats 4000000 in
set_option maxRecDepth 100000 in
theorem lw_c_board (B : lwB p s m meth c b L xs E F) (I : lwI s E F σ τ H locs) (hl : lv_has ls 4 (lwL b E F i)) (hi : i + 6 ≤ L) (kk : ∀ (σ τ : mw_M) (H : Heap) (locs : List Loc), lwI s E F σ τ H locs → W p l e room_1 s m #[Value.ref b] below meth c H locs 88 3515 Q (F0 m 1064 ls [])) : W p l e room_1 s m #[Value.ref b] below meth c H locs 88 3515 Q (F0 m 342 ls []) := by
  obtain ⟨hR, hP, hP2, hS⟩ := I
  obtain ⟨C, -, -, ZX, ZM, hap⟩ := id B
  obtain ⟨PX, PM, mX, mM, hag⟩ := st_board l hR (xs (i + 1))
  refine lv_aload_n C.1 C.2.1 dL_law_342 rfl (lv_at hl 1 rfl) ?_
  refine lw_arg 1 B hS hl hi (by decide) (by decide) dL_law_343 dL_law_344 dL_law_345 dL_law_346 dL_law_347 ?_
  refine ge_cVi (As := [.int (xs (i + 1))]) (rest := []) C ZX hP hS 30 (mX E) vb_X11_board tw_3_154 ⟨rfl, rfl⟩ ⟨Nat.le_of_ble_eq_true rfl, Nat.le_of_ble_eq_true rfl⟩ (by decide) rfl rfl rfl rfl hl.1 rfl (Nat.le_of_ble_eq_true rfl) dL_law_348 ⟨Nat.le_of_ble_eq_true rfl, Nat.le_of_ble_eq_true rfl⟩ (fun r u H locs q1 hP hS hk1 => ?_)
  have hP2 := lw_kept hP2 hk1 (fun q h1 h2 => hap q h2 h1)
  refine lv_aload_n C.1 C.2.1 dL_law_351 rfl (lv_at hl 2 rfl) ?_
  refine lw_arg 1 B hS hl hi (by decide) (by decide) dL_law_352 dL_law_353 dL_law_354 dL_law_355 dL_law_356 ?_
  refine ge_cVi (As := [.int (xs (i + 1))]) (rest := [.int r]) C ZM hP2 hS 0 (mM F) vb_X12_board tw_6_58 ⟨rfl, rfl⟩ ⟨Nat.le_of_ble_eq_true rfl, Nat.le_of_ble_eq_true rfl⟩ (by decide) rfl rfl rfl rfl hl.1 rfl (Nat.le_of_ble_eq_true rfl) dL_law_357 ⟨Nat.le_of_ble_eq_true rfl, Nat.le_of_ble_eq_true rfl⟩ (fun r2 v H locs q2 hP2 hS hk2 => ?_)
  have hP := lw_kept hP hk2 hap
  obtain ⟨er, hR⟩ := hag r u r2 v q1 q2
  refine lv_icmp_eq (tgt := 1064) C.1 C.2.1 dL_law_360 (by decide) (fun _ => ?_) (fun c1 => absurd er c1)
  exact kk u v _ _ ⟨hR, hP, hP2, hS⟩
set_option maxHeartbeats 4000000 in
set_option maxRecDepth 100000 in
theorem lw_c_fair (B : lwB p s m meth c b L xs E F) (I : lwI s E F σ τ H locs) (hl : lv_has ls 4 (lwL b E F i)) (hi : i + 6 ≤ L) (kk : ∀ (σ τ : mw_M) (H : Heap) (locs : List Loc), lwI s E F σ τ H locs → W p l e room_1 s m #[Value.ref b] below meth c H locs 88 3515 Q (F0 m 1064 ls [])) : W p l e room_1 s m #[Value.ref b] below meth c H locs 88 3515 Q (F0 m 365 ls []) := by
  obtain ⟨hR, hP, hP2, hS⟩ := I
  obtain ⟨C, -, -, ZX, ZM, hap⟩ := id B
  obtain ⟨PX, PM, mX, mM, hag⟩ := st_fair l hR (xs (i + 1))
  refine lv_aload_n C.1 C.2.1 dL_law_365 rfl (lv_at hl 1 rfl) ?_
  refine lw_arg 1 B hS hl hi (by decide) (by decide) dL_law_366 dL_law_367 dL_law_368 dL_law_369 dL_law_370 ?_
  refine ge_cVl (As := [.int (xs (i + 1))]) (rest := []) C ZX hP hS 30 (mX E) vb_X11_fair tw_3_198 ⟨rfl, rfl⟩ ⟨Nat.le_of_ble_eq_true rfl, Nat.le_of_ble_eq_true rfl⟩ (by decide) rfl rfl rfl rfl hl.1 rfl (Nat.le_of_ble_eq_true rfl) dL_law_371 ⟨Nat.le_of_ble_eq_true rfl, Nat.le_of_ble_eq_true rfl⟩ (fun r u H locs q1 hP hS hk1 => ?_)
  have hP2 := lw_kept hP2 hk1 (fun q h1 h2 => hap q h2 h1)
  refine lv_aload_n C.1 C.2.1 dL_law_374 rfl (lv_at hl 2 rfl) ?_
  refine lw_arg 1 B hS hl hi (by decide) (by decide) dL_law_375 dL_law_376 dL_law_377 dL_law_378 dL_law_379 ?_
  refine ge_cVl (As := [.int (xs (i + 1))]) (rest := [.long r]) C ZM hP2 hS 0 (mM F) vb_X12_fair tw_6_74 ⟨rfl, rfl⟩ ⟨Nat.le_of_ble_eq_true rfl, Nat.le_of_ble_eq_true rfl⟩ (by decide) rfl rfl rfl rfl hl.1 rfl (Nat.le_of_ble_eq_true rfl) dL_law_380 ⟨Nat.le_of_ble_eq_true rfl, Nat.le_of_ble_eq_true rfl⟩ (fun r2 v H locs q2 hP2 hS hk2 => ?_)
  have hP := lw_kept hP hk2 hap
  obtain ⟨er, hR⟩ := hag r u r2 v q1 q2
  refine W.lcmp C.1 C.2.1 dL_law_383 ?_
  refine lv_if_eq (tgt := 1064) C.1 C.2.1 dL_law_384 (by decide) (fun _ => ?_) (fun c1 => absurd ((lg_cmp_eq _ _).mpr er) c1)
  exact kk u v _ _ ⟨hR, hP, hP2, hS⟩
set_option maxHeartbeats 4000000 in
set_option maxRecDepth 100000 in
theorem lw_c_buysOne (B : lwB p s m meth c b L xs E F) (I : lwI s E F σ τ H locs) (hl : lv_has ls 4 (lwL b E F i)) (hi : i + 6 ≤ L) (kk : ∀ (σ τ : mw_M) (H : Heap) (locs : List Loc), lwI s E F σ τ H locs → W p l e room_1 s m #[Value.ref b] below meth c H locs 88 3515 Q (F0 m 1064 ls [])) : W p l e room_1 s m #[Value.ref b] below meth c H locs 88 3515 Q (F0 m 389 ls []) := by
  obtain ⟨hR, hP, hP2, hS⟩ := I
  obtain ⟨C, -, -, ZX, ZM, hap⟩ := id B
  obtain ⟨PX, PM, mX, mM, hag⟩ := st_buysOne l hR (xs (i + 1))
  refine lv_aload_n C.1 C.2.1 dL_law_389 rfl (lv_at hl 1 rfl) ?_
  refine lw_arg 1 B hS hl hi (by decide) (by decide) dL_law_390 dL_law_391 dL_law_392 dL_law_393 dL_law_394 ?_
  refine ge_cVl (As := [.int (xs (i + 1))]) (rest := []) C ZX hP hS 30 (mX E) vb_X11_buysOne tw_3_226 ⟨rfl, rfl⟩ ⟨Nat.le_of_ble_eq_true rfl, Nat.le_of_ble_eq_true rfl⟩ (by decide) rfl rfl rfl rfl hl.1 rfl (Nat.le_of_ble_eq_true rfl) dL_law_395 ⟨Nat.le_of_ble_eq_true rfl, Nat.le_of_ble_eq_true rfl⟩ (fun r u H locs q1 hP hS hk1 => ?_)
  have hP2 := lw_kept hP2 hk1 (fun q h1 h2 => hap q h2 h1)
  refine lv_aload_n C.1 C.2.1 dL_law_398 rfl (lv_at hl 2 rfl) ?_
  refine lw_arg 1 B hS hl hi (by decide) (by decide) dL_law_399 dL_law_400 dL_law_401 dL_law_402 dL_law_403 ?_
  refine ge_cVl (As := [.int (xs (i + 1))]) (rest := [.long r]) C ZM hP2 hS 0 (mM F) vb_X12_buysOne tw_6_86 ⟨rfl, rfl⟩ ⟨Nat.le_of_ble_eq_true rfl, Nat.le_of_ble_eq_true rfl⟩ (by decide) rfl rfl rfl rfl hl.1 rfl (Nat.le_of_ble_eq_true rfl) dL_law_404 ⟨Nat.le_of_ble_eq_true rfl, Nat.le_of_ble_eq_true rfl⟩ (fun r2 v H locs q2 hP2 hS hk2 => ?_)
  have hP := lw_kept hP hk2 hap
  obtain ⟨er, hR⟩ := hag r u r2 v q1 q2
  refine W.lcmp C.1 C.2.1 dL_law_407 ?_
  refine lv_if_eq (tgt := 1064) C.1 C.2.1 dL_law_408 (by decide) (fun _ => ?_) (fun c1 => absurd ((lg_cmp_eq _ _).mpr er) c1)
  exact kk u v _ _ ⟨hR, hP, hP2, hS⟩
set_option maxHeartbeats 4000000 in
set_option maxRecDepth 100000 in
theorem lw_c_hour (B : lwB p s m meth c b L xs E F) (I : lwI s E F σ τ H locs) (hl : lv_has ls 4 (lwL b E F i)) (hi : i + 6 ≤ L) (kk : ∀ (σ τ : mw_M) (H : Heap) (locs : List Loc), lwI s E F σ τ H locs → W p l e room_1 s m #[Value.ref b] below meth c H locs 88 3515 Q (F0 m 1064 ls [])) : W p l e room_1 s m #[Value.ref b] below meth c H locs 88 3515 Q (F0 m 413 ls []) := by
  obtain ⟨hR, hP, hP2, hS⟩ := I
  obtain ⟨C, -, -, ZX, ZM, hap⟩ := id B
  obtain ⟨PX, PM, mX, mM, hag⟩ := st_hour l hR (xs (i + 1)) (xs (i + 2))
  refine lv_aload_n C.1 C.2.1 dL_law_413 rfl (lv_at hl 1 rfl) ?_
  refine lw_arg 1 B hS hl hi (by decide) (by decide) dL_law_414 dL_law_415 dL_law_416 dL_law_417 dL_law_418 ?_
  refine lw_arg 2 B hS hl hi (by decide) (by decide) dL_law_419 dL_law_420 dL_law_421 dL_law_422 dL_law_423 ?_
  refine ge_cVi (As := [.int (xs (i + 1)), .int (xs (i + 2))]) (rest := []) C ZX hP hS 30 (mX E) vb_X11_hour tw_3_234 ⟨rfl, rfl⟩ ⟨Nat.le_of_ble_eq_true rfl, Nat.le_of_ble_eq_true rfl⟩ (by decide) rfl rfl rfl rfl hl.1 rfl (Nat.le_of_ble_eq_true rfl) dL_law_424 ⟨Nat.le_of_ble_eq_true rfl, Nat.le_of_ble_eq_true rfl⟩ (fun r u H locs q1 hP hS hk1 => ?_)
  have hP2 := lw_kept hP2 hk1 (fun q h1 h2 => hap q h2 h1)
  refine lv_aload_n C.1 C.2.1 dL_law_427 rfl (lv_at hl 2 rfl) ?_
  refine lw_arg 1 B hS hl hi (by decide) (by decide) dL_law_428 dL_law_429 dL_law_430 dL_law_431 dL_law_432 ?_
  refine lw_arg 2 B hS hl hi (by decide) (by decide) dL_law_433 dL_law_434 dL_law_435 dL_law_436 dL_law_437 ?_
  refine ge_cVi (As := [.int (xs (i + 1)), .int (xs (i + 2))]) (rest := [.int r]) C ZM hP2 hS 0 (mM F) vb_X12_hour tw_6_90 ⟨rfl, rfl⟩ ⟨Nat.le_of_ble_eq_true rfl, Nat.le_of_ble_eq_true rfl⟩ (by decide) rfl rfl rfl rfl hl.1 rfl (Nat.le_of_ble_eq_true rfl) dL_law_438 ⟨Nat.le_of_ble_eq_true rfl, Nat.le_of_ble_eq_true rfl⟩ (fun r2 v H locs q2 hP2 hS hk2 => ?_)
  have hP := lw_kept hP hk2 hap
  obtain ⟨er, hR⟩ := hag r u r2 v q1 q2
  refine lv_icmp_eq (tgt := 1064) C.1 C.2.1 dL_law_441 (by decide) (fun _ => ?_) (fun c1 => absurd er c1)
  exact kk u v _ _ ⟨hR, hP, hP2, hS⟩
set_option maxHeartbeats 4000000 in
set_option maxRecDepth 100000 in
theorem lw_c_cubes (B : lwB p s m meth c b L xs E F) (I : lwI s E F σ τ H locs) (hl : lv_has ls 4 (lwL b E F i)) (hi : i + 6 ≤ L) (kk : ∀ (σ τ : mw_M) (H : Heap) (locs : List Loc), lwI s E F σ τ H locs → W p l e room_1 s m #[Value.ref b] below meth c H locs 88 3515 Q (F0 m 1064 ls [])) : W p l e room_1 s m #[Value.ref b] below meth c H locs 88 3515 Q (F0 m 446 ls []) := by
  obtain ⟨hR, hP, hP2, hS⟩ := I
  obtain ⟨C, -, -, ZX, ZM, hap⟩ := id B
  obtain ⟨PX, PM, mX, mM, hag⟩ := st_cubes l hR (xs (i + 1))
  refine lv_aload_n C.1 C.2.1 dL_law_446 rfl (lv_at hl 1 rfl) ?_
  refine lw_arg 1 B hS hl hi (by decide) (by decide) dL_law_447 dL_law_448 dL_law_449 dL_law_450 dL_law_451 ?_
  refine ge_cVi (As := [.int (xs (i + 1))]) (rest := []) C ZX hP hS 30 (mX E) vb_X11_cubes tw_3_238 ⟨rfl, rfl⟩ ⟨Nat.le_of_ble_eq_true rfl, Nat.le_of_ble_eq_true rfl⟩ (by decide) rfl rfl rfl rfl hl.1 rfl (Nat.le_of_ble_eq_true rfl) dL_law_452 ⟨Nat.le_of_ble_eq_true rfl, Nat.le_of_ble_eq_true rfl⟩ (fun r u H locs q1 hP hS hk1 => ?_)
  have hP2 := lw_kept hP2 hk1 (fun q h1 h2 => hap q h2 h1)
  refine lv_aload_n C.1 C.2.1 dL_law_455 rfl (lv_at hl 2 rfl) ?_
  refine lw_arg 1 B hS hl hi (by decide) (by decide) dL_law_456 dL_law_457 dL_law_458 dL_law_459 dL_law_460 ?_
  refine ge_cVi (As := [.int (xs (i + 1))]) (rest := [.int r]) C ZM hP2 hS 0 (mM F) vb_X12_cubes tw_6_94 ⟨rfl, rfl⟩ ⟨Nat.le_of_ble_eq_true rfl, Nat.le_of_ble_eq_true rfl⟩ (by decide) rfl rfl rfl rfl hl.1 rfl (Nat.le_of_ble_eq_true rfl) dL_law_461 ⟨Nat.le_of_ble_eq_true rfl, Nat.le_of_ble_eq_true rfl⟩ (fun r2 v H locs q2 hP2 hS hk2 => ?_)
  have hP := lw_kept hP hk2 hap
  obtain ⟨er, hR⟩ := hag r u r2 v q1 q2
  refine lv_icmp_eq (tgt := 1064) C.1 C.2.1 dL_law_464 (by decide) (fun _ => ?_) (fun c1 => absurd er c1)
  exact kk u v _ _ ⟨hR, hP, hP2, hS⟩
set_option maxHeartbeats 4000000 in
set_option maxRecDepth 100000 in
theorem lw_c_shelf (B : lwB p s m meth c b L xs E F) (I : lwI s E F σ τ H locs) (hl : lv_has ls 4 (lwL b E F i)) (hi : i + 6 ≤ L) (kk : ∀ (σ τ : mw_M) (H : Heap) (locs : List Loc), lwI s E F σ τ H locs → W p l e room_1 s m #[Value.ref b] below meth c H locs 88 3515 Q (F0 m 1064 ls [])) : W p l e room_1 s m #[Value.ref b] below meth c H locs 88 3515 Q (F0 m 469 ls []) := by
  obtain ⟨hR, hP, hP2, hS⟩ := I
  obtain ⟨C, -, -, ZX, ZM, hap⟩ := id B
  obtain ⟨PX, PM, mX, mM, hag⟩ := st_shelf l hR (xs (i + 1))
  refine lv_aload_n C.1 C.2.1 dL_law_469 rfl (lv_at hl 1 rfl) ?_
  refine lw_arg 1 B hS hl hi (by decide) (by decide) dL_law_470 dL_law_471 dL_law_472 dL_law_473 dL_law_474 ?_
  refine ge_cVi (As := [.int (xs (i + 1))]) (rest := []) C ZX hP hS 30 (mX E) vb_X11_shelf tw_4_22 ⟨rfl, rfl⟩ ⟨Nat.le_of_ble_eq_true rfl, Nat.le_of_ble_eq_true rfl⟩ (by decide) rfl rfl rfl rfl hl.1 rfl (Nat.le_of_ble_eq_true rfl) dL_law_475 ⟨Nat.le_of_ble_eq_true rfl, Nat.le_of_ble_eq_true rfl⟩ (fun r u H locs q1 hP hS hk1 => ?_)
  have hP2 := lw_kept hP2 hk1 (fun q h1 h2 => hap q h2 h1)
  refine lv_aload_n C.1 C.2.1 dL_law_478 rfl (lv_at hl 2 rfl) ?_
  refine lw_arg 1 B hS hl hi (by decide) (by decide) dL_law_479 dL_law_480 dL_law_481 dL_law_482 dL_law_483 ?_
  refine ge_cVi (As := [.int (xs (i + 1))]) (rest := [.int r]) C ZM hP2 hS 0 (mM F) vb_X12_shelf tw_6_102 ⟨rfl, rfl⟩ ⟨Nat.le_of_ble_eq_true rfl, Nat.le_of_ble_eq_true rfl⟩ (by decide) rfl rfl rfl rfl hl.1 rfl (Nat.le_of_ble_eq_true rfl) dL_law_484 ⟨Nat.le_of_ble_eq_true rfl, Nat.le_of_ble_eq_true rfl⟩ (fun r2 v H locs q2 hP2 hS hk2 => ?_)
  have hP := lw_kept hP hk2 hap
  obtain ⟨er, hR⟩ := hag r u r2 v q1 q2
  refine lv_icmp_eq (tgt := 1064) C.1 C.2.1 dL_law_487 (by decide) (fun _ => ?_) (fun c1 => absurd er c1)
  exact kk u v _ _ ⟨hR, hP, hP2, hS⟩
set_option maxHeartbeats 4000000 in
set_option maxRecDepth 100000 in
theorem lw_c_apron (B : lwB p s m meth c b L xs E F) (I : lwI s E F σ τ H locs) (hl : lv_has ls 4 (lwL b E F i)) (hi : i + 6 ≤ L) (kk : ∀ (σ τ : mw_M) (H : Heap) (locs : List Loc), lwI s E F σ τ H locs → W p l e room_1 s m #[Value.ref b] below meth c H locs 88 3515 Q (F0 m 1064 ls [])) : W p l e room_1 s m #[Value.ref b] below meth c H locs 88 3515 Q (F0 m 492 ls []) := by
  obtain ⟨hR, hP, hP2, hS⟩ := I
  obtain ⟨C, -, -, ZX, ZM, hap⟩ := id B
  obtain ⟨PX, PM, mX, mM, hag⟩ := st_apron l hR (xs (i + 1))
  refine lv_aload_n C.1 C.2.1 dL_law_492 rfl (lv_at hl 1 rfl) ?_
  refine lw_arg 1 B hS hl hi (by decide) (by decide) dL_law_493 dL_law_494 dL_law_495 dL_law_496 dL_law_497 ?_
  refine ge_cVi (As := [.int (xs (i + 1))]) (rest := []) C ZX hP hS 30 (mX E) vb_X11_apron tw_4_26 ⟨rfl, rfl⟩ ⟨Nat.le_of_ble_eq_true rfl, Nat.le_of_ble_eq_true rfl⟩ (by decide) rfl rfl rfl rfl hl.1 rfl (Nat.le_of_ble_eq_true rfl) dL_law_498 ⟨Nat.le_of_ble_eq_true rfl, Nat.le_of_ble_eq_true rfl⟩ (fun r u H locs q1 hP hS hk1 => ?_)
  have hP2 := lw_kept hP2 hk1 (fun q h1 h2 => hap q h2 h1)
  refine lv_aload_n C.1 C.2.1 dL_law_501 rfl (lv_at hl 2 rfl) ?_
  refine lw_arg 1 B hS hl hi (by decide) (by decide) dL_law_502 dL_law_503 dL_law_504 dL_law_505 dL_law_506 ?_
  refine ge_cVi (As := [.int (xs (i + 1))]) (rest := [.int r]) C ZM hP2 hS 0 (mM F) vb_X12_apron tw_6_106 ⟨rfl, rfl⟩ ⟨Nat.le_of_ble_eq_true rfl, Nat.le_of_ble_eq_true rfl⟩ (by decide) rfl rfl rfl rfl hl.1 rfl (Nat.le_of_ble_eq_true rfl) dL_law_507 ⟨Nat.le_of_ble_eq_true rfl, Nat.le_of_ble_eq_true rfl⟩ (fun r2 v H locs q2 hP2 hS hk2 => ?_)
  have hP := lw_kept hP hk2 hap
  obtain ⟨er, hR⟩ := hag r u r2 v q1 q2
  refine lv_icmp_eq (tgt := 1064) C.1 C.2.1 dL_law_510 (by decide) (fun _ => ?_) (fun c1 => absurd er c1)
  exact kk u v _ _ ⟨hR, hP, hP2, hS⟩
set_option maxHeartbeats 4000000 in
set_option maxRecDepth 100000 in
theorem lw_c_stand (B : lwB p s m meth c b L xs E F) (I : lwI s E F σ τ H locs) (hl : lv_has ls 4 (lwL b E F i)) (hi : i + 6 ≤ L) (kk : ∀ (σ τ : mw_M) (H : Heap) (locs : List Loc), lwI s E F σ τ H locs → W p l e room_1 s m #[Value.ref b] below meth c H locs 88 3515 Q (F0 m 1064 ls [])) : W p l e room_1 s m #[Value.ref b] below meth c H locs 88 3515 Q (F0 m 515 ls []) := by
  obtain ⟨hR, hP, hP2, hS⟩ := I
  obtain ⟨C, -, -, ZX, ZM, hap⟩ := id B
  obtain ⟨PX, PM, mX, mM, hag⟩ := st_stand l hR (xs (i + 1)) (xs (i + 2))
  refine lv_aload_n C.1 C.2.1 dL_law_515 rfl (lv_at hl 1 rfl) ?_
  refine lw_arg 1 B hS hl hi (by decide) (by decide) dL_law_516 dL_law_517 dL_law_518 dL_law_519 dL_law_520 ?_
  refine lw_arg 2 B hS hl hi (by decide) (by decide) dL_law_521 dL_law_522 dL_law_523 dL_law_524 dL_law_525 ?_
  refine ge_cVi (As := [.int (xs (i + 1)), .int (xs (i + 2))]) (rest := []) C ZX hP hS 30 (mX E) vb_X11_stand tw_4_30 ⟨rfl, rfl⟩ ⟨Nat.le_of_ble_eq_true rfl, Nat.le_of_ble_eq_true rfl⟩ (by decide) rfl rfl rfl rfl hl.1 rfl (Nat.le_of_ble_eq_true rfl) dL_law_526 ⟨Nat.le_of_ble_eq_true rfl, Nat.le_of_ble_eq_true rfl⟩ (fun r u H locs q1 hP hS hk1 => ?_)
  have hP2 := lw_kept hP2 hk1 (fun q h1 h2 => hap q h2 h1)
  refine lv_aload_n C.1 C.2.1 dL_law_529 rfl (lv_at hl 2 rfl) ?_
  refine lw_arg 1 B hS hl hi (by decide) (by decide) dL_law_530 dL_law_531 dL_law_532 dL_law_533 dL_law_534 ?_
  refine lw_arg 2 B hS hl hi (by decide) (by decide) dL_law_535 dL_law_536 dL_law_537 dL_law_538 dL_law_539 ?_
  refine ge_cVi (As := [.int (xs (i + 1)), .int (xs (i + 2))]) (rest := [.int r]) C ZM hP2 hS 0 (mM F) vb_X12_stand tw_6_110 ⟨rfl, rfl⟩ ⟨Nat.le_of_ble_eq_true rfl, Nat.le_of_ble_eq_true rfl⟩ (by decide) rfl rfl rfl rfl hl.1 rfl (Nat.le_of_ble_eq_true rfl) dL_law_540 ⟨Nat.le_of_ble_eq_true rfl, Nat.le_of_ble_eq_true rfl⟩ (fun r2 v H locs q2 hP2 hS hk2 => ?_)
  have hP := lw_kept hP hk2 hap
  obtain ⟨er, hR⟩ := hag r u r2 v q1 q2
  refine lv_icmp_eq (tgt := 1064) C.1 C.2.1 dL_law_543 (by decide) (fun _ => ?_) (fun c1 => absurd er c1)
  exact kk u v _ _ ⟨hR, hP, hP2, hS⟩
set_option maxHeartbeats 4000000 in
set_option maxRecDepth 100000 in
theorem lw_c_setting (B : lwB p s m meth c b L xs E F) (I : lwI s E F σ τ H locs) (hl : lv_has ls 4 (lwL b E F i)) (hi : i + 6 ≤ L) (kk : ∀ (σ τ : mw_M) (H : Heap) (locs : List Loc), lwI s E F σ τ H locs → W p l e room_1 s m #[Value.ref b] below meth c H locs 88 3515 Q (F0 m 1064 ls [])) : W p l e room_1 s m #[Value.ref b] below meth c H locs 88 3515 Q (F0 m 548 ls []) := by
  obtain ⟨hR, hP, hP2, hS⟩ := I
  obtain ⟨C, -, -, ZX, ZM, hap⟩ := id B
  obtain ⟨PX, PM, mX, mM, hag⟩ := st_setting l hR (xs (i + 1))
  refine lv_aload_n C.1 C.2.1 dL_law_548 rfl (lv_at hl 1 rfl) ?_
  refine lw_arg 1 B hS hl hi (by decide) (by decide) dL_law_549 dL_law_550 dL_law_551 dL_law_552 dL_law_553 ?_
  refine ge_cVi (As := [.int (xs (i + 1))]) (rest := []) C ZX hP hS 30 (mX E) vb_X11_setting tw_4_34 ⟨rfl, rfl⟩ ⟨Nat.le_of_ble_eq_true rfl, Nat.le_of_ble_eq_true rfl⟩ (by decide) rfl rfl rfl rfl hl.1 rfl (Nat.le_of_ble_eq_true rfl) dL_law_554 ⟨Nat.le_of_ble_eq_true rfl, Nat.le_of_ble_eq_true rfl⟩ (fun r u H locs q1 hP hS hk1 => ?_)
  have hP2 := lw_kept hP2 hk1 (fun q h1 h2 => hap q h2 h1)
  refine lv_aload_n C.1 C.2.1 dL_law_557 rfl (lv_at hl 2 rfl) ?_
  refine lw_arg 1 B hS hl hi (by decide) (by decide) dL_law_558 dL_law_559 dL_law_560 dL_law_561 dL_law_562 ?_
  refine ge_cVi (As := [.int (xs (i + 1))]) (rest := [.int r]) C ZM hP2 hS 0 (mM F) vb_X12_setting tw_6_114 ⟨rfl, rfl⟩ ⟨Nat.le_of_ble_eq_true rfl, Nat.le_of_ble_eq_true rfl⟩ (by decide) rfl rfl rfl rfl hl.1 rfl (Nat.le_of_ble_eq_true rfl) dL_law_563 ⟨Nat.le_of_ble_eq_true rfl, Nat.le_of_ble_eq_true rfl⟩ (fun r2 v H locs q2 hP2 hS hk2 => ?_)
  have hP := lw_kept hP hk2 hap
  obtain ⟨er, hR⟩ := hag r u r2 v q1 q2
  refine lv_icmp_eq (tgt := 1064) C.1 C.2.1 dL_law_566 (by decide) (fun _ => ?_) (fun c1 => absurd er c1)
  exact kk u v _ _ ⟨hR, hP, hP2, hS⟩
set_option maxHeartbeats 4000000 in
set_option maxRecDepth 100000 in
theorem lw_c_sendAway (B : lwB p s m meth c b L xs E F) (I : lwI s E F σ τ H locs) (hl : lv_has ls 4 (lwL b E F i)) (hi : i + 6 ≤ L) (kk : ∀ (σ τ : mw_M) (H : Heap) (locs : List Loc), lwI s E F σ τ H locs → W p l e room_1 s m #[Value.ref b] below meth c H locs 88 3515 Q (F0 m 1064 ls [])) : W p l e room_1 s m #[Value.ref b] below meth c H locs 88 3515 Q (F0 m 571 ls []) := by
  obtain ⟨hR, hP, hP2, hS⟩ := I
  obtain ⟨C, -, -, ZX, ZM, hap⟩ := id B
  obtain ⟨PX, PM, mX, mM, hag⟩ := st_sendAway l hR (xs (i + 1))
  refine lv_aload_n C.1 C.2.1 dL_law_571 rfl (lv_at hl 1 rfl) ?_
  refine lw_arg 1 B hS hl hi (by decide) (by decide) dL_law_572 dL_law_573 dL_law_574 dL_law_575 dL_law_576 ?_
  refine ge_cVi (As := [.int (xs (i + 1))]) (rest := []) C ZX hP hS 30 (mX E) vb_X11_sendAway tw_4_38 ⟨rfl, rfl⟩ ⟨Nat.le_of_ble_eq_true rfl, Nat.le_of_ble_eq_true rfl⟩ (by decide) rfl rfl rfl rfl hl.1 rfl (Nat.le_of_ble_eq_true rfl) dL_law_577 ⟨Nat.le_of_ble_eq_true rfl, Nat.le_of_ble_eq_true rfl⟩ (fun r u H locs q1 hP hS hk1 => ?_)
  have hP2 := lw_kept hP2 hk1 (fun q h1 h2 => hap q h2 h1)
  refine lv_aload_n C.1 C.2.1 dL_law_580 rfl (lv_at hl 2 rfl) ?_
  refine lw_arg 1 B hS hl hi (by decide) (by decide) dL_law_581 dL_law_582 dL_law_583 dL_law_584 dL_law_585 ?_
  refine ge_cVi (As := [.int (xs (i + 1))]) (rest := [.int r]) C ZM hP2 hS 0 (mM F) vb_X12_sendAway tw_6_118 ⟨rfl, rfl⟩ ⟨Nat.le_of_ble_eq_true rfl, Nat.le_of_ble_eq_true rfl⟩ (by decide) rfl rfl rfl rfl hl.1 rfl (Nat.le_of_ble_eq_true rfl) dL_law_586 ⟨Nat.le_of_ble_eq_true rfl, Nat.le_of_ble_eq_true rfl⟩ (fun r2 v H locs q2 hP2 hS hk2 => ?_)
  have hP := lw_kept hP hk2 hap
  obtain ⟨er, hR⟩ := hag r u r2 v q1 q2
  refine lv_icmp_eq (tgt := 1064) C.1 C.2.1 dL_law_589 (by decide) (fun _ => ?_) (fun c1 => absurd er c1)
  exact kk u v _ _ ⟨hR, hP, hP2, hS⟩
set_option maxHeartbeats 4000000 in
set_option maxRecDepth 100000 in
theorem lw_c_lost (B : lwB p s m meth c b L xs E F) (I : lwI s E F σ τ H locs) (hl : lv_has ls 4 (lwL b E F i)) (hi : i + 6 ≤ L) (kk : ∀ (σ τ : mw_M) (H : Heap) (locs : List Loc), lwI s E F σ τ H locs → W p l e room_1 s m #[Value.ref b] below meth c H locs 88 3515 Q (F0 m 1064 ls [])) : W p l e room_1 s m #[Value.ref b] below meth c H locs 88 3515 Q (F0 m 594 ls []) := by
  obtain ⟨hR, hP, hP2, hS⟩ := I
  obtain ⟨C, -, -, ZX, ZM, hap⟩ := id B
  obtain ⟨PX, PM, mX, mM, hag⟩ := st_lost l hR (xs (i + 1))
  refine lv_aload_n C.1 C.2.1 dL_law_594 rfl (lv_at hl 1 rfl) ?_
  refine lw_arg 1 B hS hl hi (by decide) (by decide) dL_law_595 dL_law_596 dL_law_597 dL_law_598 dL_law_599 ?_
  refine ge_cVi (As := [.int (xs (i + 1))]) (rest := []) C ZX hP hS 30 (mX E) vb_X11_lost tw_4_42 ⟨rfl, rfl⟩ ⟨Nat.le_of_ble_eq_true rfl, Nat.le_of_ble_eq_true rfl⟩ (by decide) rfl rfl rfl rfl hl.1 rfl (Nat.le_of_ble_eq_true rfl) dL_law_600 ⟨Nat.le_of_ble_eq_true rfl, Nat.le_of_ble_eq_true rfl⟩ (fun r u H locs q1 hP hS hk1 => ?_)
  have hP2 := lw_kept hP2 hk1 (fun q h1 h2 => hap q h2 h1)
  refine lv_aload_n C.1 C.2.1 dL_law_603 rfl (lv_at hl 2 rfl) ?_
  refine lw_arg 1 B hS hl hi (by decide) (by decide) dL_law_604 dL_law_605 dL_law_606 dL_law_607 dL_law_608 ?_
  refine ge_cVi (As := [.int (xs (i + 1))]) (rest := [.int r]) C ZM hP2 hS 0 (mM F) vb_X12_lost tw_6_122 ⟨rfl, rfl⟩ ⟨Nat.le_of_ble_eq_true rfl, Nat.le_of_ble_eq_true rfl⟩ (by decide) rfl rfl rfl rfl hl.1 rfl (Nat.le_of_ble_eq_true rfl) dL_law_609 ⟨Nat.le_of_ble_eq_true rfl, Nat.le_of_ble_eq_true rfl⟩ (fun r2 v H locs q2 hP2 hS hk2 => ?_)
  have hP := lw_kept hP hk2 hap
  obtain ⟨er, hR⟩ := hag r u r2 v q1 q2
  refine lv_icmp_eq (tgt := 1064) C.1 C.2.1 dL_law_612 (by decide) (fun _ => ?_) (fun c1 => absurd er c1)
  exact kk u v _ _ ⟨hR, hP, hP2, hS⟩
set_option maxHeartbeats 4000000 in
set_option maxRecDepth 100000 in
theorem lw_c_tells (B : lwB p s m meth c b L xs E F) (I : lwI s E F σ τ H locs) (hl : lv_has ls 4 (lwL b E F i)) (hi : i + 6 ≤ L) (kk : ∀ (σ τ : mw_M) (H : Heap) (locs : List Loc), lwI s E F σ τ H locs → W p l e room_1 s m #[Value.ref b] below meth c H locs 88 3515 Q (F0 m 1064 ls [])) : W p l e room_1 s m #[Value.ref b] below meth c H locs 88 3515 Q (F0 m 617 ls []) := by
  obtain ⟨hR, hP, hP2, hS⟩ := I
  obtain ⟨C, -, -, ZX, ZM, hap⟩ := id B
  obtain ⟨PX, PM, mX, mM, hag⟩ := st_tells l hR (xs (i + 1)) (xs (i + 2)) (xs (i + 3))
  refine lv_aload_n C.1 C.2.1 dL_law_617 rfl (lv_at hl 1 rfl) ?_
  refine lw_arg 1 B hS hl hi (by decide) (by decide) dL_law_618 dL_law_619 dL_law_620 dL_law_621 dL_law_622 ?_
  refine lw_arg 2 B hS hl hi (by decide) (by decide) dL_law_623 dL_law_624 dL_law_625 dL_law_626 dL_law_627 ?_
  refine lw_arg 3 B hS hl hi (by decide) (by decide) dL_law_628 dL_law_629 dL_law_630 dL_law_631 dL_law_632 ?_
  refine ge_cVi (As := [.int (xs (i + 1)), .int (xs (i + 2)), .int (xs (i + 3))]) (rest := []) C ZX hP hS 30 (mX E) vb_X11_tells tw_4_46 ⟨rfl, rfl⟩ ⟨Nat.le_of_ble_eq_true rfl, Nat.le_of_ble_eq_true rfl⟩ (by decide) rfl rfl rfl rfl hl.1 rfl (Nat.le_of_ble_eq_true rfl) dL_law_633 ⟨Nat.le_of_ble_eq_true rfl, Nat.le_of_ble_eq_true rfl⟩ (fun r u H locs q1 hP hS hk1 => ?_)
  have hP2 := lw_kept hP2 hk1 (fun q h1 h2 => hap q h2 h1)
  refine lv_aload_n C.1 C.2.1 dL_law_636 rfl (lv_at hl 2 rfl) ?_
  refine lw_arg 1 B hS hl hi (by decide) (by decide) dL_law_637 dL_law_638 dL_law_639 dL_law_640 dL_law_641 ?_
  refine lw_arg 2 B hS hl hi (by decide) (by decide) dL_law_642 dL_law_643 dL_law_644 dL_law_645 dL_law_646 ?_
  refine lw_arg 3 B hS hl hi (by decide) (by decide) dL_law_647 dL_law_648 dL_law_649 dL_law_650 dL_law_651 ?_
  refine ge_cVi (As := [.int (xs (i + 1)), .int (xs (i + 2)), .int (xs (i + 3))]) (rest := [.int r]) C ZM hP2 hS 0 (mM F) vb_X12_tells tw_6_126 ⟨rfl, rfl⟩ ⟨Nat.le_of_ble_eq_true rfl, Nat.le_of_ble_eq_true rfl⟩ (by decide) rfl rfl rfl rfl hl.1 rfl (Nat.le_of_ble_eq_true rfl) dL_law_652 ⟨Nat.le_of_ble_eq_true rfl, Nat.le_of_ble_eq_true rfl⟩ (fun r2 v H locs q2 hP2 hS hk2 => ?_)
  have hP := lw_kept hP hk2 hap
  obtain ⟨er, hR⟩ := hag r u r2 v q1 q2
  refine lv_icmp_eq (tgt := 1064) C.1 C.2.1 dL_law_655 (by decide) (fun _ => ?_) (fun c1 => absurd er c1)
  exact kk u v _ _ ⟨hR, hP, hP2, hS⟩
set_option maxHeartbeats 4000000 in
set_option maxRecDepth 100000 in
theorem lw_c_film (B : lwB p s m meth c b L xs E F) (I : lwI s E F σ τ H locs) (hl : lv_has ls 4 (lwL b E F i)) (hi : i + 6 ≤ L) (kk : ∀ (σ τ : mw_M) (H : Heap) (locs : List Loc), lwI s E F σ τ H locs → W p l e room_1 s m #[Value.ref b] below meth c H locs 88 3515 Q (F0 m 1064 ls [])) : W p l e room_1 s m #[Value.ref b] below meth c H locs 88 3515 Q (F0 m 660 ls []) := by
  obtain ⟨hR, hP, hP2, hS⟩ := I
  obtain ⟨C, -, -, ZX, ZM, hap⟩ := id B
  obtain ⟨PX, PM, mX, mM, hag⟩ := st_film l hR (xs (i + 1)) (xs (i + 2)) (xs (i + 3))
  refine lv_aload_n C.1 C.2.1 dL_law_660 rfl (lv_at hl 1 rfl) ?_
  refine lw_arg 1 B hS hl hi (by decide) (by decide) dL_law_661 dL_law_662 dL_law_663 dL_law_664 dL_law_665 ?_
  refine lw_arg 2 B hS hl hi (by decide) (by decide) dL_law_666 dL_law_667 dL_law_668 dL_law_669 dL_law_670 ?_
  refine lw_arg 3 B hS hl hi (by decide) (by decide) dL_law_671 dL_law_672 dL_law_673 dL_law_674 dL_law_675 ?_
  refine ge_cVi (As := [.int (xs (i + 1)), .int (xs (i + 2)), .int (xs (i + 3))]) (rest := []) C ZX hP hS 30 (mX E) vb_X11_film tw_4_73 ⟨rfl, rfl⟩ ⟨Nat.le_of_ble_eq_true rfl, Nat.le_of_ble_eq_true rfl⟩ (by decide) rfl rfl rfl rfl hl.1 rfl (Nat.le_of_ble_eq_true rfl) dL_law_676 ⟨Nat.le_of_ble_eq_true rfl, Nat.le_of_ble_eq_true rfl⟩ (fun r u H locs q1 hP hS hk1 => ?_)
  have hP2 := lw_kept hP2 hk1 (fun q h1 h2 => hap q h2 h1)
  refine lv_aload_n C.1 C.2.1 dL_law_679 rfl (lv_at hl 2 rfl) ?_
  refine lw_arg 1 B hS hl hi (by decide) (by decide) dL_law_680 dL_law_681 dL_law_682 dL_law_683 dL_law_684 ?_
  refine lw_arg 2 B hS hl hi (by decide) (by decide) dL_law_685 dL_law_686 dL_law_687 dL_law_688 dL_law_689 ?_
  refine lw_arg 3 B hS hl hi (by decide) (by decide) dL_law_690 dL_law_691 dL_law_692 dL_law_693 dL_law_694 ?_
  refine ge_cVi (As := [.int (xs (i + 1)), .int (xs (i + 2)), .int (xs (i + 3))]) (rest := [.int r]) C ZM hP2 hS 0 (mM F) vb_X12_film tw_6_138 ⟨rfl, rfl⟩ ⟨Nat.le_of_ble_eq_true rfl, Nat.le_of_ble_eq_true rfl⟩ (by decide) rfl rfl rfl rfl hl.1 rfl (Nat.le_of_ble_eq_true rfl) dL_law_695 ⟨Nat.le_of_ble_eq_true rfl, Nat.le_of_ble_eq_true rfl⟩ (fun r2 v H locs q2 hP2 hS hk2 => ?_)
  have hP := lw_kept hP hk2 hap
  obtain ⟨er, hR⟩ := hag r u r2 v q1 q2
  refine lv_icmp_eq (tgt := 1064) C.1 C.2.1 dL_law_698 (by decide) (fun _ => ?_) (fun c1 => absurd er c1)
  exact kk u v _ _ ⟨hR, hP, hP2, hS⟩
set_option maxHeartbeats 4000000 in
set_option maxRecDepth 100000 in
theorem lw_c_sell (B : lwB p s m meth c b L xs E F) (I : lwI s E F σ τ H locs) (hl : lv_has ls 4 (lwL b E F i)) (hi : i + 6 ≤ L) (kk : ∀ (σ τ : mw_M) (H : Heap) (locs : List Loc), lwI s E F σ τ H locs → W p l e room_1 s m #[Value.ref b] below meth c H locs 88 3515 Q (F0 m 1064 ls [])) : W p l e room_1 s m #[Value.ref b] below meth c H locs 88 3515 Q (F0 m 703 ls []) := by
  obtain ⟨hR, hP, hP2, hS⟩ := I
  obtain ⟨C, -, -, ZX, ZM, hap⟩ := id B
  obtain ⟨PX, PM, mX, mM, hag⟩ := st_sell l hR (xs (i + 1))
  refine lv_aload_n C.1 C.2.1 dL_law_703 rfl (lv_at hl 1 rfl) ?_
  refine lw_arg 1 B hS hl hi (by decide) (by decide) dL_law_704 dL_law_705 dL_law_706 dL_law_707 dL_law_708 ?_
  refine ge_cVi (As := [.int (xs (i + 1))]) (rest := []) C ZX hP hS 30 (mX E) vb_X11_sell tw_4_90 ⟨rfl, rfl⟩ ⟨Nat.le_of_ble_eq_true rfl, Nat.le_of_ble_eq_true rfl⟩ (by decide) rfl rfl rfl rfl hl.1 rfl (Nat.le_of_ble_eq_true rfl) dL_law_709 ⟨Nat.le_of_ble_eq_true rfl, Nat.le_of_ble_eq_true rfl⟩ (fun r u H locs q1 hP hS hk1 => ?_)
  have hP2 := lw_kept hP2 hk1 (fun q h1 h2 => hap q h2 h1)
  refine lv_aload_n C.1 C.2.1 dL_law_712 rfl (lv_at hl 2 rfl) ?_
  refine lw_arg 1 B hS hl hi (by decide) (by decide) dL_law_713 dL_law_714 dL_law_715 dL_law_716 dL_law_717 ?_
  refine ge_cVi (As := [.int (xs (i + 1))]) (rest := [.int r]) C ZM hP2 hS 0 (mM F) vb_X12_sell tw_6_149 ⟨rfl, rfl⟩ ⟨Nat.le_of_ble_eq_true rfl, Nat.le_of_ble_eq_true rfl⟩ (by decide) rfl rfl rfl rfl hl.1 rfl (Nat.le_of_ble_eq_true rfl) dL_law_718 ⟨Nat.le_of_ble_eq_true rfl, Nat.le_of_ble_eq_true rfl⟩ (fun r2 v H locs q2 hP2 hS hk2 => ?_)
  have hP := lw_kept hP hk2 hap
  obtain ⟨er, hR⟩ := hag r u r2 v q1 q2
  refine lv_icmp_eq (tgt := 1064) C.1 C.2.1 dL_law_721 (by decide) (fun _ => ?_) (fun c1 => absurd er c1)
  exact kk u v _ _ ⟨hR, hP, hP2, hS⟩
set_option maxHeartbeats 4000000 in
set_option maxRecDepth 100000 in
theorem lw_c_chance (B : lwB p s m meth c b L xs E F) (I : lwI s E F σ τ H locs) (hl : lv_has ls 4 (lwL b E F i)) (hi : i + 6 ≤ L) (kk : ∀ (σ τ : mw_M) (H : Heap) (locs : List Loc), lwI s E F σ τ H locs → W p l e room_1 s m #[Value.ref b] below meth c H locs 88 3515 Q (F0 m 1064 ls [])) : W p l e room_1 s m #[Value.ref b] below meth c H locs 88 3515 Q (F0 m 726 ls []) := by
  obtain ⟨hR, hP, hP2, hS⟩ := I
  obtain ⟨C, -, -, ZX, ZM, hap⟩ := id B
  obtain ⟨PX, PM, mX, mM, hag⟩ := st_chance l hR (xs (i + 1)) (xs (i + 2)) (xs (i + 3)) (xs (i + 4))
  refine lv_aload_n C.1 C.2.1 dL_law_726 rfl (lv_at hl 1 rfl) ?_
  refine lw_arg 1 B hS hl hi (by decide) (by decide) dL_law_727 dL_law_728 dL_law_729 dL_law_730 dL_law_731 ?_
  refine lw_arg 2 B hS hl hi (by decide) (by decide) dL_law_732 dL_law_733 dL_law_734 dL_law_735 dL_law_736 ?_
  refine lw_arg 3 B hS hl hi (by decide) (by decide) dL_law_737 dL_law_738 dL_law_739 dL_law_740 dL_law_741 ?_
  refine lw_arg 4 B hS hl hi (by decide) (by decide) dL_law_742 dL_law_743 dL_law_744 dL_law_745 dL_law_746 ?_
  refine ge_cVl (As := [.int (xs (i + 1)), .int (xs (i + 2)), .int (xs (i + 3)), .int (xs (i + 4))]) (rest := []) C ZX hP hS 30 (mX E) vb_X11_chance tw_4_99 ⟨rfl, rfl⟩ ⟨Nat.le_of_ble_eq_true rfl, Nat.le_of_ble_eq_true rfl⟩ (by decide) rfl rfl rfl rfl hl.1 rfl (Nat.le_of_ble_eq_true rfl) dL_law_747 ⟨Nat.le_of_ble_eq_true rfl, Nat.le_of_ble_eq_true rfl⟩ (fun r u H locs q1 hP hS hk1 => ?_)
  have hP2 := lw_kept hP2 hk1 (fun q h1 h2 => hap q h2 h1)
  refine lv_aload_n C.1 C.2.1 dL_law_750 rfl (lv_at hl 2 rfl) ?_
  refine lw_arg 1 B hS hl hi (by decide) (by decide) dL_law_751 dL_law_752 dL_law_753 dL_law_754 dL_law_755 ?_
  refine lw_arg 2 B hS hl hi (by decide) (by decide) dL_law_756 dL_law_757 dL_law_758 dL_law_759 dL_law_760 ?_
  refine lw_arg 3 B hS hl hi (by decide) (by decide) dL_law_761 dL_law_762 dL_law_763 dL_law_764 dL_law_765 ?_
  refine lw_arg 4 B hS hl hi (by decide) (by decide) dL_law_766 dL_law_767 dL_law_768 dL_law_769 dL_law_770 ?_
  refine ge_cVl (As := [.int (xs (i + 1)), .int (xs (i + 2)), .int (xs (i + 3)), .int (xs (i + 4))]) (rest := [.long r]) C ZM hP2 hS 0 (mM F) vb_X12_chance tw_6_158 ⟨rfl, rfl⟩ ⟨Nat.le_of_ble_eq_true rfl, Nat.le_of_ble_eq_true rfl⟩ (by decide) rfl rfl rfl rfl hl.1 rfl (Nat.le_of_ble_eq_true rfl) dL_law_771 ⟨Nat.le_of_ble_eq_true rfl, Nat.le_of_ble_eq_true rfl⟩ (fun r2 v H locs q2 hP2 hS hk2 => ?_)
  have hP := lw_kept hP hk2 hap
  obtain ⟨er, hR⟩ := hag r u r2 v q1 q2
  refine W.lcmp C.1 C.2.1 dL_law_774 ?_
  refine lv_if_eq (tgt := 1064) C.1 C.2.1 dL_law_775 (by decide) (fun _ => ?_) (fun c1 => absurd ((lg_cmp_eq _ _).mpr er) c1)
  exact kk u v _ _ ⟨hR, hP, hP2, hS⟩
set_option maxHeartbeats 4000000 in
set_option maxRecDepth 100000 in
theorem lw_c_image (B : lwB p s m meth c b L xs E F) (I : lwI s E F σ τ H locs) (hl : lv_has ls 4 (lwL b E F i)) (hi : i + 6 ≤ L) (kk : ∀ (σ τ : mw_M) (H : Heap) (locs : List Loc), lwI s E F σ τ H locs → W p l e room_1 s m #[Value.ref b] below meth c H locs 88 3515 Q (F0 m 1064 ls [])) : W p l e room_1 s m #[Value.ref b] below meth c H locs 88 3515 Q (F0 m 780 ls []) := by
  obtain ⟨hR, hP, hP2, hS⟩ := I
  obtain ⟨C, -, -, ZX, ZM, hap⟩ := id B
  obtain ⟨PX, PM, mX, mM, hag⟩ := st_image l hR
  refine lv_aload_n C.1 C.2.1 dL_law_780 rfl (lv_at hl 1 rfl) ?_
  refine ge_cVi (As := []) (rest := []) C ZX hP hS 30 (mX E) vb_X11_image tw_4_103 ⟨rfl, rfl⟩ ⟨Nat.le_of_ble_eq_true rfl, Nat.le_of_ble_eq_true rfl⟩ (by decide) rfl rfl rfl rfl hl.1 rfl (Nat.le_of_ble_eq_true rfl) dL_law_781 ⟨Nat.le_of_ble_eq_true rfl, Nat.le_of_ble_eq_true rfl⟩ (fun r u H locs q1 hP hS hk1 => ?_)
  have hP2 := lw_kept hP2 hk1 (fun q h1 h2 => hap q h2 h1)
  refine lv_aload_n C.1 C.2.1 dL_law_784 rfl (lv_at hl 2 rfl) ?_
  refine ge_cVi (As := []) (rest := [.int r]) C ZM hP2 hS 0 (mM F) vb_X12_image tw_6_164 ⟨rfl, rfl⟩ ⟨Nat.le_of_ble_eq_true rfl, Nat.le_of_ble_eq_true rfl⟩ (by decide) rfl rfl rfl rfl hl.1 rfl (Nat.le_of_ble_eq_true rfl) dL_law_785 ⟨Nat.le_of_ble_eq_true rfl, Nat.le_of_ble_eq_true rfl⟩ (fun r2 v H locs q2 hP2 hS hk2 => ?_)
  have hP := lw_kept hP hk2 hap
  obtain ⟨er, hR⟩ := hag r u r2 v q1 q2
  refine lv_icmp_eq (tgt := 1064) C.1 C.2.1 dL_law_788 (by decide) (fun _ => ?_) (fun c1 => absurd er c1)
  exact kk u v _ _ ⟨hR, hP, hP2, hS⟩
set_option maxHeartbeats 4000000 in
set_option maxRecDepth 100000 in
theorem lw_c_back (B : lwB p s m meth c b L xs E F) (I : lwI s E F σ τ H locs) (hl : lv_has ls 4 (lwL b E F i)) (hi : i + 6 ≤ L) (kk : ∀ (σ τ : mw_M) (H : Heap) (locs : List Loc), lwI s E F σ τ H locs → W p l e room_1 s m #[Value.ref b] below meth c H locs 88 3515 Q (F0 m 1064 ls [])) : W p l e room_1 s m #[Value.ref b] below meth c H locs 88 3515 Q (F0 m 793 ls []) := by
  obtain ⟨hR, hP, hP2, hS⟩ := I
  obtain ⟨C, -, -, ZX, ZM, hap⟩ := id B
  obtain ⟨PX, PM, mX, mM, hag⟩ := st_back l hR
  refine lv_aload_n C.1 C.2.1 dL_law_793 rfl (lv_at hl 1 rfl) ?_
  refine ge_cVi (As := []) (rest := []) C ZX hP hS 30 (mX E) vb_X11_back tw_4_107 ⟨rfl, rfl⟩ ⟨Nat.le_of_ble_eq_true rfl, Nat.le_of_ble_eq_true rfl⟩ (by decide) rfl rfl rfl rfl hl.1 rfl (Nat.le_of_ble_eq_true rfl) dL_law_794 ⟨Nat.le_of_ble_eq_true rfl, Nat.le_of_ble_eq_true rfl⟩ (fun r u H locs q1 hP hS hk1 => ?_)
  have hP2 := lw_kept hP2 hk1 (fun q h1 h2 => hap q h2 h1)
  refine lv_aload_n C.1 C.2.1 dL_law_797 rfl (lv_at hl 2 rfl) ?_
  refine ge_cVi (As := []) (rest := [.int r]) C ZM hP2 hS 0 (mM F) vb_X12_back tw_6_168 ⟨rfl, rfl⟩ ⟨Nat.le_of_ble_eq_true rfl, Nat.le_of_ble_eq_true rfl⟩ (by decide) rfl rfl rfl rfl hl.1 rfl (Nat.le_of_ble_eq_true rfl) dL_law_798 ⟨Nat.le_of_ble_eq_true rfl, Nat.le_of_ble_eq_true rfl⟩ (fun r2 v H locs q2 hP2 hS hk2 => ?_)
  have hP := lw_kept hP hk2 hap
  obtain ⟨er, hR⟩ := hag r u r2 v q1 q2
  refine lv_icmp_eq (tgt := 1064) C.1 C.2.1 dL_law_801 (by decide) (fun _ => ?_) (fun c1 => absurd er c1)
  exact kk u v _ _ ⟨hR, hP, hP2, hS⟩
set_option maxHeartbeats 4000000 in
set_option maxRecDepth 100000 in
theorem lw_c_count (B : lwB p s m meth c b L xs E F) (I : lwI s E F σ τ H locs) (hl : lv_has ls 4 (lwL b E F i)) (hi : i + 6 ≤ L) (kk : ∀ (σ τ : mw_M) (H : Heap) (locs : List Loc), lwI s E F σ τ H locs → W p l e room_1 s m #[Value.ref b] below meth c H locs 88 3515 Q (F0 m 1064 ls [])) : W p l e room_1 s m #[Value.ref b] below meth c H locs 88 3515 Q (F0 m 806 ls []) := by
  obtain ⟨hR, hP, hP2, hS⟩ := I
  obtain ⟨C, -, -, ZX, ZM, hap⟩ := id B
  obtain ⟨PX, PM, mX, mM, hag⟩ := st_count l hR (xs (i + 1))
  refine lv_aload_n C.1 C.2.1 dL_law_806 rfl (lv_at hl 1 rfl) ?_
  refine lw_arg 1 B hS hl hi (by decide) (by decide) dL_law_807 dL_law_808 dL_law_809 dL_law_810 dL_law_811 ?_
  refine ge_cVi (As := [.int (xs (i + 1))]) (rest := []) C ZX hP hS 30 (mX E) vb_X11_count tw_4_111 ⟨rfl, rfl⟩ ⟨Nat.le_of_ble_eq_true rfl, Nat.le_of_ble_eq_true rfl⟩ (by decide) rfl rfl rfl rfl hl.1 rfl (Nat.le_of_ble_eq_true rfl) dL_law_812 ⟨Nat.le_of_ble_eq_true rfl, Nat.le_of_ble_eq_true rfl⟩ (fun r u H locs q1 hP hS hk1 => ?_)
  have hP2 := lw_kept hP2 hk1 (fun q h1 h2 => hap q h2 h1)
  refine lv_aload_n C.1 C.2.1 dL_law_815 rfl (lv_at hl 2 rfl) ?_
  refine lw_arg 1 B hS hl hi (by decide) (by decide) dL_law_816 dL_law_817 dL_law_818 dL_law_819 dL_law_820 ?_
  refine ge_cVi (As := [.int (xs (i + 1))]) (rest := [.int r]) C ZM hP2 hS 0 (mM F) vb_X12_count tw_6_172 ⟨rfl, rfl⟩ ⟨Nat.le_of_ble_eq_true rfl, Nat.le_of_ble_eq_true rfl⟩ (by decide) rfl rfl rfl rfl hl.1 rfl (Nat.le_of_ble_eq_true rfl) dL_law_821 ⟨Nat.le_of_ble_eq_true rfl, Nat.le_of_ble_eq_true rfl⟩ (fun r2 v H locs q2 hP2 hS hk2 => ?_)
  have hP := lw_kept hP hk2 hap
  obtain ⟨er, hR⟩ := hag r u r2 v q1 q2
  refine lv_icmp_eq (tgt := 1064) C.1 C.2.1 dL_law_824 (by decide) (fun _ => ?_) (fun c1 => absurd er c1)
  exact kk u v _ _ ⟨hR, hP, hP2, hS⟩
set_option maxHeartbeats 4000000 in
set_option maxRecDepth 100000 in
theorem lw_c_sheet (B : lwB p s m meth c b L xs E F) (I : lwI s E F σ τ H locs) (hl : lv_has ls 4 (lwL b E F i)) (hi : i + 6 ≤ L) (kk : ∀ (σ τ : mw_M) (H : Heap) (locs : List Loc), lwI s E F σ τ H locs → W p l e room_1 s m #[Value.ref b] below meth c H locs 88 3515 Q (F0 m 1064 ls [])) : W p l e room_1 s m #[Value.ref b] below meth c H locs 88 3515 Q (F0 m 829 ls []) := by
  obtain ⟨hR, hP, hP2, hS⟩ := I
  obtain ⟨C, -, -, ZX, ZM, hap⟩ := id B
  obtain ⟨PX, PM, mX, mM, hag⟩ := st_sheet l hR (xs (i + 1)) (xs (i + 2)) (xs (i + 3))
  refine lv_aload_n C.1 C.2.1 dL_law_829 rfl (lv_at hl 1 rfl) ?_
  refine lw_arg 1 B hS hl hi (by decide) (by decide) dL_law_830 dL_law_831 dL_law_832 dL_law_833 dL_law_834 ?_
  refine lw_arg 2 B hS hl hi (by decide) (by decide) dL_law_835 dL_law_836 dL_law_837 dL_law_838 dL_law_839 ?_
  refine lw_arg 3 B hS hl hi (by decide) (by decide) dL_law_840 dL_law_841 dL_law_842 dL_law_843 dL_law_844 ?_
  refine ge_cVi (As := [.int (xs (i + 1)), .int (xs (i + 2)), .int (xs (i + 3))]) (rest := []) C ZX hP hS 30 (mX E) vb_X11_sheet tw_4_125 ⟨rfl, rfl⟩ ⟨Nat.le_of_ble_eq_true rfl, Nat.le_of_ble_eq_true rfl⟩ (by decide) rfl rfl rfl rfl hl.1 rfl (Nat.le_of_ble_eq_true rfl) dL_law_845 ⟨Nat.le_of_ble_eq_true rfl, Nat.le_of_ble_eq_true rfl⟩ (fun r u H locs q1 hP hS hk1 => ?_)
  have hP2 := lw_kept hP2 hk1 (fun q h1 h2 => hap q h2 h1)
  refine lv_aload_n C.1 C.2.1 dL_law_848 rfl (lv_at hl 2 rfl) ?_
  refine lw_arg 1 B hS hl hi (by decide) (by decide) dL_law_849 dL_law_850 dL_law_851 dL_law_852 dL_law_853 ?_
  refine lw_arg 2 B hS hl hi (by decide) (by decide) dL_law_854 dL_law_855 dL_law_856 dL_law_857 dL_law_858 ?_
  refine lw_arg 3 B hS hl hi (by decide) (by decide) dL_law_859 dL_law_860 dL_law_861 dL_law_862 dL_law_863 ?_
  refine ge_cVi (As := [.int (xs (i + 1)), .int (xs (i + 2)), .int (xs (i + 3))]) (rest := [.int r]) C ZM hP2 hS 0 (mM F) vb_X12_sheet tw_6_176 ⟨rfl, rfl⟩ ⟨Nat.le_of_ble_eq_true rfl, Nat.le_of_ble_eq_true rfl⟩ (by decide) rfl rfl rfl rfl hl.1 rfl (Nat.le_of_ble_eq_true rfl) dL_law_864 ⟨Nat.le_of_ble_eq_true rfl, Nat.le_of_ble_eq_true rfl⟩ (fun r2 v H locs q2 hP2 hS hk2 => ?_)
  have hP := lw_kept hP hk2 hap
  obtain ⟨er, hR⟩ := hag r u r2 v q1 q2
  refine lv_icmp_eq (tgt := 1064) C.1 C.2.1 dL_law_867 (by decide) (fun _ => ?_) (fun c1 => absurd er c1)
  exact kk u v _ _ ⟨hR, hP, hP2, hS⟩
set_option maxHeartbeats 4000000 in
set_option maxRecDepth 100000 in
theorem lw_c_cell (B : lwB p s m meth c b L xs E F) (I : lwI s E F σ τ H locs) (hl : lv_has ls 4 (lwL b E F i)) (hi : i + 6 ≤ L) (kk : ∀ (σ τ : mw_M) (H : Heap) (locs : List Loc), lwI s E F σ τ H locs → W p l e room_1 s m #[Value.ref b] below meth c H locs 88 3515 Q (F0 m 1064 ls [])) : W p l e room_1 s m #[Value.ref b] below meth c H locs 88 3515 Q (F0 m 872 ls []) := by
  obtain ⟨hR, hP, hP2, hS⟩ := I
  obtain ⟨C, -, -, ZX, ZM, hap⟩ := id B
  obtain ⟨PX, PM, mX, mM, hag⟩ := st_cell l hR (xs (i + 1)) (xs (i + 2)) (xs (i + 3))
  refine lv_aload_n C.1 C.2.1 dL_law_872 rfl (lv_at hl 1 rfl) ?_
  refine lw_arg 1 B hS hl hi (by decide) (by decide) dL_law_873 dL_law_874 dL_law_875 dL_law_876 dL_law_877 ?_
  refine lw_arg 2 B hS hl hi (by decide) (by decide) dL_law_878 dL_law_879 dL_law_880 dL_law_881 dL_law_882 ?_
  refine lw_arg 3 B hS hl hi (by decide) (by decide) dL_law_883 dL_law_884 dL_law_885 dL_law_886 dL_law_887 ?_
  refine ge_cVi (As := [.int (xs (i + 1)), .int (xs (i + 2)), .int (xs (i + 3))]) (rest := []) C ZX hP hS 30 (mX E) vb_X11_cell tw_4_129 ⟨rfl, rfl⟩ ⟨Nat.le_of_ble_eq_true rfl, Nat.le_of_ble_eq_true rfl⟩ (by decide) rfl rfl rfl rfl hl.1 rfl (Nat.le_of_ble_eq_true rfl) dL_law_888 ⟨Nat.le_of_ble_eq_true rfl, Nat.le_of_ble_eq_true rfl⟩ (fun r u H locs q1 hP hS hk1 => ?_)
  have hP2 := lw_kept hP2 hk1 (fun q h1 h2 => hap q h2 h1)
  refine lv_aload_n C.1 C.2.1 dL_law_891 rfl (lv_at hl 2 rfl) ?_
  refine lw_arg 1 B hS hl hi (by decide) (by decide) dL_law_892 dL_law_893 dL_law_894 dL_law_895 dL_law_896 ?_
  refine lw_arg 2 B hS hl hi (by decide) (by decide) dL_law_897 dL_law_898 dL_law_899 dL_law_900 dL_law_901 ?_
  refine lw_arg 3 B hS hl hi (by decide) (by decide) dL_law_902 dL_law_903 dL_law_904 dL_law_905 dL_law_906 ?_
  refine ge_cVi (As := [.int (xs (i + 1)), .int (xs (i + 2)), .int (xs (i + 3))]) (rest := [.int r]) C ZM hP2 hS 0 (mM F) vb_X12_cell tw_6_177 ⟨rfl, rfl⟩ ⟨Nat.le_of_ble_eq_true rfl, Nat.le_of_ble_eq_true rfl⟩ (by decide) rfl rfl rfl rfl hl.1 rfl (Nat.le_of_ble_eq_true rfl) dL_law_907 ⟨Nat.le_of_ble_eq_true rfl, Nat.le_of_ble_eq_true rfl⟩ (fun r2 v H locs q2 hP2 hS hk2 => ?_)
  have hP := lw_kept hP hk2 hap
  obtain ⟨er, hR⟩ := hag r u r2 v q1 q2
  refine lv_icmp_eq (tgt := 1064) C.1 C.2.1 dL_law_910 (by decide) (fun _ => ?_) (fun c1 => absurd er c1)
  exact kk u v _ _ ⟨hR, hP, hP2, hS⟩
set_option maxHeartbeats 4000000 in
set_option maxRecDepth 100000 in
theorem lw_c_copy (B : lwB p s m meth c b L xs E F) (I : lwI s E F σ τ H locs) (hl : lv_has ls 4 (lwL b E F i)) (hi : i + 6 ≤ L) (kk : ∀ (σ τ : mw_M) (H : Heap) (locs : List Loc), lwI s E F σ τ H locs → W p l e room_1 s m #[Value.ref b] below meth c H locs 88 3515 Q (F0 m 1064 ls [])) : W p l e room_1 s m #[Value.ref b] below meth c H locs 88 3515 Q (F0 m 915 ls []) := by
  obtain ⟨hR, hP, hP2, hS⟩ := I
  obtain ⟨C, -, -, ZX, ZM, hap⟩ := id B
  obtain ⟨PX, PM, mX, mM, hag⟩ := st_copy l hR (xs (i + 1)) (xs (i + 2)) (xs (i + 3)) (xs (i + 4)) (xs (i + 5))
  refine lv_aload_n C.1 C.2.1 dL_law_915 rfl (lv_at hl 1 rfl) ?_
  refine lw_arg 1 B hS hl hi (by decide) (by decide) dL_law_916 dL_law_917 dL_law_918 dL_law_919 dL_law_920 ?_
  refine lw_arg 2 B hS hl hi (by decide) (by decide) dL_law_921 dL_law_922 dL_law_923 dL_law_924 dL_law_925 ?_
  refine lw_arg 3 B hS hl hi (by decide) (by decide) dL_law_926 dL_law_927 dL_law_928 dL_law_929 dL_law_930 ?_
  refine lw_arg 4 B hS hl hi (by decide) (by decide) dL_law_931 dL_law_932 dL_law_933 dL_law_934 dL_law_935 ?_
  refine lw_arg 5 B hS hl hi (by decide) (by decide) dL_law_936 dL_law_937 dL_law_938 dL_law_939 dL_law_940 ?_
  refine ge_cVi (As := [.int (xs (i + 1)), .int (xs (i + 2)), .int (xs (i + 3)), .int (xs (i + 4)), .int (xs (i + 5))]) (rest := []) C ZX hP hS 30 (mX E) vb_X11_copy tw_4_134 ⟨rfl, rfl⟩ ⟨Nat.le_of_ble_eq_true rfl, Nat.le_of_ble_eq_true rfl⟩ (by decide) rfl rfl rfl rfl hl.1 rfl (Nat.le_of_ble_eq_true rfl) dL_law_941 ⟨Nat.le_of_ble_eq_true rfl, Nat.le_of_ble_eq_true rfl⟩ (fun r u H locs q1 hP hS hk1 => ?_)
  have hP2 := lw_kept hP2 hk1 (fun q h1 h2 => hap q h2 h1)
  refine lv_aload_n C.1 C.2.1 dL_law_944 rfl (lv_at hl 2 rfl) ?_
  refine lw_arg 1 B hS hl hi (by decide) (by decide) dL_law_945 dL_law_946 dL_law_947 dL_law_948 dL_law_949 ?_
  refine lw_arg 2 B hS hl hi (by decide) (by decide) dL_law_950 dL_law_951 dL_law_952 dL_law_953 dL_law_954 ?_
  refine lw_arg 3 B hS hl hi (by decide) (by decide) dL_law_955 dL_law_956 dL_law_957 dL_law_958 dL_law_959 ?_
  refine lw_arg 4 B hS hl hi (by decide) (by decide) dL_law_960 dL_law_961 dL_law_962 dL_law_963 dL_law_964 ?_
  refine lw_arg 5 B hS hl hi (by decide) (by decide) dL_law_965 dL_law_966 dL_law_967 dL_law_968 dL_law_969 ?_
  refine ge_cVi (As := [.int (xs (i + 1)), .int (xs (i + 2)), .int (xs (i + 3)), .int (xs (i + 4)), .int (xs (i + 5))]) (rest := [.int r]) C ZM hP2 hS 0 (mM F) vb_X12_copy tw_6_181 ⟨rfl, rfl⟩ ⟨Nat.le_of_ble_eq_true rfl, Nat.le_of_ble_eq_true rfl⟩ (by decide) rfl rfl rfl rfl hl.1 rfl (Nat.le_of_ble_eq_true rfl) dL_law_970 ⟨Nat.le_of_ble_eq_true rfl, Nat.le_of_ble_eq_true rfl⟩ (fun r2 v H locs q2 hP2 hS hk2 => ?_)
  have hP := lw_kept hP hk2 hap
  obtain ⟨er, hR⟩ := hag r u r2 v q1 q2
  refine lv_icmp_eq (tgt := 1064) C.1 C.2.1 dL_law_973 (by decide) (fun _ => ?_) (fun c1 => absurd er c1)
  exact kk u v _ _ ⟨hR, hP, hP2, hS⟩
set_option maxHeartbeats 4000000 in
set_option maxRecDepth 100000 in
theorem lw_c_customers (B : lwB p s m meth c b L xs E F) (I : lwI s E F σ τ H locs) (hl : lv_has ls 4 (lwL b E F i)) (hi : i + 6 ≤ L) (kk : ∀ (σ τ : mw_M) (H : Heap) (locs : List Loc), lwI s E F σ τ H locs → W p l e room_1 s m #[Value.ref b] below meth c H locs 88 3515 Q (F0 m 1064 ls [])) : W p l e room_1 s m #[Value.ref b] below meth c H locs 88 3515 Q (F0 m 978 ls []) := by
  obtain ⟨hR, hP, hP2, hS⟩ := I
  obtain ⟨C, -, -, ZX, ZM, hap⟩ := id B
  obtain ⟨PX, PM, mX, mM, hag⟩ := st_customers l hR (xs (i + 1)) (xs (i + 2)) (xs (i + 3)) (xs (i + 4))
  refine lv_aload_n C.1 C.2.1 dL_law_978 rfl (lv_at hl 1 rfl) ?_
  refine lw_arg 1 B hS hl hi (by decide) (by decide) dL_law_979 dL_law_980 dL_law_981 dL_law_982 dL_law_983 ?_
  refine lw_arg 2 B hS hl hi (by decide) (by decide) dL_law_984 dL_law_985 dL_law_986 dL_law_987 dL_law_988 ?_
  refine lw_arg 3 B hS hl hi (by decide) (by decide) dL_law_989 dL_law_990 dL_law_991 dL_law_992 dL_law_993 ?_
  refine lw_arg 4 B hS hl hi (by decide) (by decide) dL_law_994 dL_law_995 dL_law_996 dL_law_997 dL_law_998 ?_
  refine ge_cVi (As := [.int (xs (i + 1)), .int (xs (i + 2)), .int (xs (i + 3)), .int (xs (i + 4))]) (rest := []) C ZX hP hS 30 (mX E) vb_X11_customers tw_4_141 ⟨rfl, rfl⟩ ⟨Nat.le_of_ble_eq_true rfl, Nat.le_of_ble_eq_true rfl⟩ (by decide) rfl rfl rfl rfl hl.1 rfl (Nat.le_of_ble_eq_true rfl) dL_law_999 ⟨Nat.le_of_ble_eq_true rfl, Nat.le_of_ble_eq_true rfl⟩ (fun r u H locs q1 hP hS hk1 => ?_)
  have hP2 := lw_kept hP2 hk1 (fun q h1 h2 => hap q h2 h1)
  refine lv_aload_n C.1 C.2.1 dL_law_1002 rfl (lv_at hl 2 rfl) ?_
  refine lw_arg 1 B hS hl hi (by decide) (by decide) dL_law_1003 dL_law_1004 dL_law_1005 dL_law_1006 dL_law_1007 ?_
  refine lw_arg 2 B hS hl hi (by decide) (by decide) dL_law_1008 dL_law_1009 dL_law_1010 dL_law_1011 dL_law_1012 ?_
  refine lw_arg 3 B hS hl hi (by decide) (by decide) dL_law_1013 dL_law_1014 dL_law_1015 dL_law_1016 dL_law_1017 ?_
  refine lw_arg 4 B hS hl hi (by decide) (by decide) dL_law_1018 dL_law_1019 dL_law_1020 dL_law_1021 dL_law_1022 ?_
  refine ge_cVi (As := [.int (xs (i + 1)), .int (xs (i + 2)), .int (xs (i + 3)), .int (xs (i + 4))]) (rest := [.int r]) C ZM hP2 hS 0 (mM F) vb_X12_customers tw_6_185 ⟨rfl, rfl⟩ ⟨Nat.le_of_ble_eq_true rfl, Nat.le_of_ble_eq_true rfl⟩ (by decide) rfl rfl rfl rfl hl.1 rfl (Nat.le_of_ble_eq_true rfl) dL_law_1023 ⟨Nat.le_of_ble_eq_true rfl, Nat.le_of_ble_eq_true rfl⟩ (fun r2 v H locs q2 hP2 hS hk2 => ?_)
  have hP := lw_kept hP hk2 hap
  obtain ⟨er, hR⟩ := hag r u r2 v q1 q2
  refine lv_icmp_eq (tgt := 1064) C.1 C.2.1 dL_law_1026 (by decide) (fun _ => ?_) (fun c1 => absurd er c1)
  exact kk u v _ _ ⟨hR, hP, hP2, hS⟩
set_option maxHeartbeats 4000000 in
set_option maxRecDepth 100000 in
theorem lw_c_taken (B : lwB p s m meth c b L xs E F) (I : lwI s E F σ τ H locs) (hl : lv_has ls 4 (lwL b E F i)) (hi : i + 6 ≤ L) (kk : ∀ (σ τ : mw_M) (H : Heap) (locs : List Loc), lwI s E F σ τ H locs → W p l e room_1 s m #[Value.ref b] below meth c H locs 88 3515 Q (F0 m 1064 ls [])) : W p l e room_1 s m #[Value.ref b] below meth c H locs 88 3515 Q (F0 m 1031 ls []) := by
  obtain ⟨hR, hP, hP2, hS⟩ := I
  obtain ⟨C, -, -, ZX, ZM, hap⟩ := id B
  obtain ⟨PX, PM, mX, mM, hag⟩ := st_taken l hR (xs (i + 1)) (xs (i + 2))
  refine lv_aload_n C.1 C.2.1 dL_law_1031 rfl (lv_at hl 1 rfl) ?_
  refine lw_arg 1 B hS hl hi (by decide) (by decide) dL_law_1032 dL_law_1033 dL_law_1034 dL_law_1035 dL_law_1036 ?_
  refine lw_arg 2 B hS hl hi (by decide) (by decide) dL_law_1037 dL_law_1038 dL_law_1039 dL_law_1040 dL_law_1041 ?_
  refine ge_cVi (As := [.int (xs (i + 1)), .int (xs (i + 2))]) (rest := []) C ZX hP hS 30 (mX E) vb_X11_taken tw_4_146 ⟨rfl, rfl⟩ ⟨Nat.le_of_ble_eq_true rfl, Nat.le_of_ble_eq_true rfl⟩ (by decide) rfl rfl rfl rfl hl.1 rfl (Nat.le_of_ble_eq_true rfl) dL_law_1042 ⟨Nat.le_of_ble_eq_true rfl, Nat.le_of_ble_eq_true rfl⟩ (fun r u H locs q1 hP hS hk1 => ?_)
  have hP2 := lw_kept hP2 hk1 (fun q h1 h2 => hap q h2 h1)
  refine lv_aload_n C.1 C.2.1 dL_law_1045 rfl (lv_at hl 2 rfl) ?_
  refine lw_arg 1 B hS hl hi (by decide) (by decide) dL_law_1046 dL_law_1047 dL_law_1048 dL_law_1049 dL_law_1050 ?_
  refine lw_arg 2 B hS hl hi (by decide) (by decide) dL_law_1051 dL_law_1052 dL_law_1053 dL_law_1054 dL_law_1055 ?_
  refine ge_cVi (As := [.int (xs (i + 1)), .int (xs (i + 2))]) (rest := [.int r]) C ZM hP2 hS 0 (mM F) vb_X12_taken tw_6_191 ⟨rfl, rfl⟩ ⟨Nat.le_of_ble_eq_true rfl, Nat.le_of_ble_eq_true rfl⟩ (by decide) rfl rfl rfl rfl hl.1 rfl (Nat.le_of_ble_eq_true rfl) dL_law_1056 ⟨Nat.le_of_ble_eq_true rfl, Nat.le_of_ble_eq_true rfl⟩ (fun r2 v H locs q2 hP2 hS hk2 => ?_)
  have hP := lw_kept hP hk2 hap
  obtain ⟨er, hR⟩ := hag r u r2 v q1 q2
  refine lv_icmp_eq (tgt := 1064) C.1 C.2.1 dL_law_1059 (by decide) (fun _ => ?_) (fun c1 => absurd er c1)
  exact kk u v _ _ ⟨hR, hP, hP2, hS⟩
end LW
