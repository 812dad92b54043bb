set_option maxHeartbeats 1000000 in
set_option maxRecDepth 100000 in
theorem law_row {L : Nat} {xs : Nat → Int32} {nm : String} {g : Nat → Nat → List xE → Nat → List (Option Value) → List Value → Prop} (C : SemL room_1 L xs nm g) (hL : L ≤ 384) (i : Nat) (hi : i + 6 ≤ L) (θ : List xE) (S : Nat → Nat → Nat → Int32) (M : Nat → Nat → Int32) (hw : LWp θ S M) (hR : Rel S M) (kk : ∀ (θ' : List xE) (S' : Nat → Nat → Nat → Int32) (M' : Nat → Nat → Int32), LWp θ' S' M' → Rel S' M' → g 69 3053 θ' 1222 [some (.ref 1000000), some (.ref 0), some (.ref 55), some (.int (nI i))] []) : g 69 3053 θ 176 [some (.ref 1000000), some (.ref 0), some (.ref 55), some (.int (nI i))] [] := by
  obtain ⟨z, o, q, ln, tr, h⟩ := hR
  have hrel := rel_row h (xs (i + 1)) (xs (i + 2)) (xs (i + 3))
  refine r_aload_n (pc := 176) C.sem dL_law_176 rfl rfl ?_
  refine r_aload_n (pc := 177) C.sem dL_law_177 rfl rfl ?_
  refine r_iload_n (pc := 178) C.sem dL_law_178 rfl rfl ?_
  refine r_iconst (pc := 179) (v := 1) C.sem dL_law_179 (by decide) ?_
  refine r_iadd (pc := 180) C.sem dL_law_180 ?_
  refine r_sld (pc := 181) C (i + 1) dL_law_181 (nI_sum (m := i) (n := 1) rfl rfl) (by omega) (by omega) (by have := hw.1; omega) ?_
  refine r_aload_n (pc := 182) C.sem dL_law_182 rfl rfl ?_
  refine r_iload_n (pc := 183) C.sem dL_law_183 rfl rfl ?_
  refine r_iconst (pc := 184) (v := 2) C.sem dL_law_184 (by decide) ?_
  refine r_iadd (pc := 185) C.sem dL_law_185 ?_
  refine r_sld (pc := 186) C (i + 2) dL_law_186 (nI_sum (m := i) (n := 2) rfl rfl) (by omega) (by omega) (by have := hw.1; omega) ?_
  refine r_aload_n (pc := 187) C.sem dL_law_187 rfl rfl ?_
  refine r_iload_n (pc := 188) C.sem dL_law_188 rfl rfl ?_
  refine r_iconst (pc := 189) (v := 3) C.sem dL_law_189 (by decide) ?_
  refine r_iadd (pc := 190) C.sem dL_law_190 ?_
  refine r_sld (pc := 191) C (i + 3) dL_law_191 (nI_sum (m := i) (n := 3) rfl rfl) (by omega) (by omega) (by have := hw.1; omega) ?_
  refine r_callVD (pc := 192) (b := 0) (b' := 0) (As := [.int (xs (i + 1)), .int (xs (i + 2)), .int (xs (i + 3))]) (st := []) (r2 := some (.int ((rowC S (xs (i + 1)) (xs (i + 2)) (xs (i + 3))).1))) C.sem isC (c_X5_row S (xs (i + 1)) (xs (i + 2)) (xs (i + 3)) ) xm_X5_row xk_L_13 dL_law_192 (LWp_cT hw) isC_nd rfl (LWp_c0 hw) rfl rfl rfl (Nat.le_of_ble_eq_true rfl) ⟨Nat.le_of_ble_eq_true rfl, Nat.le_of_ble_eq_true rfl⟩ ⟨rfl, rfl⟩ ⟨Nat.le_of_ble_eq_true rfl, Nat.le_of_ble_eq_true rfl⟩ rfl ((wC_len _).trans (wC_len _).symm) rfl rfl ?_
  have hw1 := LWp_c hw ((rowC S (xs (i + 1)) (xs (i + 2)) (xs (i + 3))).2)
  show g 69 3053 (xSet θ isC ((wC ((rowC S (xs (i + 1)) (xs (i + 2)) (xs (i + 3))).2)).map (xEr (xS isC θ.length)))) 195 [some (.ref 1000000), some (.ref 0), some (.ref 55), some (.int (nI i))] [.int ((rowC S (xs (i + 1)) (xs (i + 2)) (xs (i + 3))).1)]
  generalize xSet θ isC ((wC ((rowC S (xs (i + 1)) (xs (i + 2)) (xs (i + 3))).2)).map (xEr (xS isC θ.length))) = θ1 at hw1 ⊢
  refine r_aload_n (pc := 195) C.sem dL_law_195 rfl rfl ?_
  refine r_aload_n (pc := 196) C.sem dL_law_196 rfl rfl ?_
  refine r_iload_n (pc := 197) C.sem dL_law_197 rfl rfl ?_
  refine r_iconst (pc := 198) (v := 1) C.sem dL_law_198 (by decide) ?_
  refine r_iadd (pc := 199) C.sem dL_law_199 ?_
  refine r_sld (pc := 200) C (i + 1) dL_law_200 (nI_sum (m := i) (n := 1) rfl rfl) (by omega) (by omega) (by have := hw1.1; omega) ?_
  refine r_aload_n (pc := 201) C.sem dL_law_201 rfl rfl ?_
  refine r_iload_n (pc := 202) C.sem dL_law_202 rfl rfl ?_
  refine r_iconst (pc := 203) (v := 2) C.sem dL_law_203 (by decide) ?_
  refine r_iadd (pc := 204) C.sem dL_law_204 ?_
  refine r_sld (pc := 205) C (i + 2) dL_law_205 (nI_sum (m := i) (n := 2) rfl rfl) (by omega) (by omega) (by have := hw1.1; omega) ?_
  refine r_aload_n (pc := 206) C.sem dL_law_206 rfl rfl ?_
  refine r_iload_n (pc := 207) C.sem dL_law_207 rfl rfl ?_
  refine r_iconst (pc := 208) (v := 3) C.sem dL_law_208 (by decide) ?_
  refine r_iadd (pc := 209) C.sem dL_law_209 ?_
  refine r_sld (pc := 210) C (i + 3) dL_law_210 (nI_sum (m := i) (n := 3) rfl rfl) (by omega) (by omega) (by have := hw1.1; omega) ?_
  obtain ⟨fs1, hf1⟩ := LWp_m0 hw1
  refine r_callVD (pc := 211) (b := 55) (b' := 0) (As := [.int (xs (i + 1)), .int (xs (i + 2)), .int (xs (i + 3))]) (st := [.int ((rowC S (xs (i + 1)) (xs (i + 2)) (xs (i + 3))).1)]) (r2 := some (.int ((rowM M (xs (i + 1)) (xs (i + 2)) (xs (i + 3))).1))) C.sem isM (c_X6_row M (xs (i + 1)) (xs (i + 2)) (xs (i + 3)) ) xm_X6_row xk_L_17 dL_law_211 (LWp_mT hw1) isM_nd rfl hf1 rfl rfl rfl (Nat.le_of_ble_eq_true rfl) ⟨Nat.le_of_ble_eq_true rfl, Nat.le_of_ble_eq_true rfl⟩ ⟨rfl, rfl⟩ ⟨Nat.le_of_ble_eq_true rfl, Nat.le_of_ble_eq_true rfl⟩ rfl ((wM_len _).trans (wM_len _).symm) rfl rfl ?_
  have hw2 := LWp_m hw1 ((rowM M (xs (i + 1)) (xs (i + 2)) (xs (i + 3))).2)
  show g 69 3053 (xSet θ1 isM ((wM ((rowM M (xs (i + 1)) (xs (i + 2)) (xs (i + 3))).2)).map (xEr (xS isM θ1.length)))) 214 [some (.ref 1000000), some (.ref 0), some (.ref 55), some (.int (nI i))] [.int ((rowM M (xs (i + 1)) (xs (i + 2)) (xs (i + 3))).1), .int ((rowC S (xs (i + 1)) (xs (i + 2)) (xs (i + 3))).1)]
  generalize xSet θ1 isM ((wM ((rowM M (xs (i + 1)) (xs (i + 2)) (xs (i + 3))).2)).map (xEr (xS isM θ1.length))) = θ2 at hw2 ⊢
  refine r_icmp_eq (pc := 214) (tgt := 1222) C.sem dL_law_214 (by decide) (fun _ => ?_) (fun hne => absurd hrel.1 hne)
  exact kk _ _ _ hw2 hrel.2
set_option maxHeartbeats 1000000 in
set_option maxRecDepth 100000 in
theorem law_set {L : Nat} {xs : Nat → Int32} {nm : String} {g : Nat → Nat → List xE → Nat → List (Option Value) → List Value → Prop} (C : SemL room_1 L xs nm g) (hL : L ≤ 384) (i : Nat) (hi : i + 6 ≤ L) (θ : List xE) (S : Nat → Nat → Nat → Int32) (M : Nat → Nat → Int32) (hw : LWp θ S M) (hR : Rel S M) (kk : ∀ (θ' : List xE) (S' : Nat → Nat → Nat → Int32) (M' : Nat → Nat → Int32), LWp θ' S' M' → Rel S' M' → g 69 3053 θ' 1222 [some (.ref 1000000), some (.ref 0), some (.ref 55), some (.int (nI i))] []) : g 69 3053 θ 219 [some (.ref 1000000), some (.ref 0), some (.ref 55), some (.int (nI i))] [] := by
  obtain ⟨z, o, q, ln, tr, h⟩ := hR
  have hrel := rel_set h (xs (i + 1)) (xs (i + 2)) (xs (i + 3))
  refine r_aload_n (pc := 219) C.sem dL_law_219 rfl rfl ?_
  refine r_aload_n (pc := 220) C.sem dL_law_220 rfl rfl ?_
  refine r_iload_n (pc := 221) C.sem dL_law_221 rfl rfl ?_
  refine r_iconst (pc := 222) (v := 1) C.sem dL_law_222 (by decide) ?_
  refine r_iadd (pc := 223) C.sem dL_law_223 ?_
  refine r_sld (pc := 224) C (i + 1) dL_law_224 (nI_sum (m := i) (n := 1) rfl rfl) (by omega) (by omega) (by have := hw.1; omega) ?_
  refine r_aload_n (pc := 225) C.sem dL_law_225 rfl rfl ?_
  refine r_iload_n (pc := 226) C.sem dL_law_226 rfl rfl ?_
  refine r_iconst (pc := 227) (v := 2) C.sem dL_law_227 (by decide) ?_
  refine r_iadd (pc := 228) C.sem dL_law_228 ?_
  refine r_sld (pc := 229) C (i + 2) dL_law_229 (nI_sum (m := i) (n := 2) rfl rfl) (by omega) (by omega) (by have := hw.1; omega) ?_
  refine r_aload_n (pc := 230) C.sem dL_law_230 rfl rfl ?_
  refine r_iload_n (pc := 231) C.sem dL_law_231 rfl rfl ?_
  refine r_iconst (pc := 232) (v := 3) C.sem dL_law_232 (by decide) ?_
  refine r_iadd (pc := 233) C.sem dL_law_233 ?_
  refine r_sld (pc := 234) C (i + 3) dL_law_234 (nI_sum (m := i) (n := 3) rfl rfl) (by omega) (by omega) (by have := hw.1; omega) ?_
  refine r_callVD (pc := 235) (b := 0) (b' := 0) (As := [.int (xs (i + 1)), .int (xs (i + 2)), .int (xs (i + 3))]) (st := []) (r2 := some (.int ((setC S (xs (i + 1)) (xs (i + 2)) (xs (i + 3))).1))) C.sem isC (c_X5_set S (xs (i + 1)) (xs (i + 2)) (xs (i + 3)) (rp_sz h)) xm_X5_set xk_L_18 dL_law_235 (LWp_cT hw) isC_nd rfl (LWp_c0 hw) rfl rfl rfl (Nat.le_of_ble_eq_true rfl) ⟨Nat.le_of_ble_eq_true rfl, Nat.le_of_ble_eq_true rfl⟩ ⟨rfl, rfl⟩ ⟨Nat.le_of_ble_eq_true rfl, Nat.le_of_ble_eq_true rfl⟩ rfl ((wC_len _).trans (wC_len _).symm) rfl rfl ?_
  have hw1 := LWp_c hw ((setC S (xs (i + 1)) (xs (i + 2)) (xs (i + 3))).2)
  show g 69 3053 (xSet θ isC ((wC ((setC S (xs (i + 1)) (xs (i + 2)) (xs (i + 3))).2)).map (xEr (xS isC θ.length)))) 238 [some (.ref 1000000), some (.ref 0), some (.ref 55), some (.int (nI i))] [.int ((setC S (xs (i + 1)) (xs (i + 2)) (xs (i + 3))).1)]
  generalize xSet θ isC ((wC ((setC S (xs (i + 1)) (xs (i + 2)) (xs (i + 3))).2)).map (xEr (xS isC θ.length))) = θ1 at hw1 ⊢
  refine r_aload_n (pc := 238) C.sem dL_law_238 rfl rfl ?_
  refine r_aload_n (pc := 239) C.sem dL_law_239 rfl rfl ?_
  refine r_iload_n (pc := 240) C.sem dL_law_240 rfl rfl ?_
  refine r_iconst (pc := 241) (v := 1) C.sem dL_law_241 (by decide) ?_
  refine r_iadd (pc := 242) C.sem dL_law_242 ?_
  refine r_sld (pc := 243) C (i + 1) dL_law_243 (nI_sum (m := i) (n := 1) rfl rfl) (by omega) (by omega) (by have := hw1.1; omega) ?_
  refine r_aload_n (pc := 244) C.sem dL_law_244 rfl rfl ?_
  refine r_iload_n (pc := 245) C.sem dL_law_245 rfl rfl ?_
  refine r_iconst (pc := 246) (v := 2) C.sem dL_law_246 (by decide) ?_
  refine r_iadd (pc := 247) C.sem dL_law_247 ?_
  refine r_sld (pc := 248) C (i + 2) dL_law_248 (nI_sum (m := i) (n := 2) rfl rfl) (by omega) (by omega) (by have := hw1.1; omega) ?_
  refine r_aload_n (pc := 249) C.sem dL_law_249 rfl rfl ?_
  refine r_iload_n (pc := 250) C.sem dL_law_250 rfl rfl ?_
  refine r_iconst (pc := 251) (v := 3) C.sem dL_law_251 (by decide) ?_
  refine r_iadd (pc := 252) C.sem dL_law_252 ?_
  refine r_sld (pc := 253) C (i + 3) dL_law_253 (nI_sum (m := i) (n := 3) rfl rfl) (by omega) (by omega) (by have := hw1.1; omega) ?_
  obtain ⟨fs1, hf1⟩ := LWp_m0 hw1
  refine r_callVD (pc := 254) (b := 55) (b' := 0) (As := [.int (xs (i + 1)), .int (xs (i + 2)), .int (xs (i + 3))]) (st := [.int ((setC S (xs (i + 1)) (xs (i + 2)) (xs (i + 3))).1)]) (r2 := some (.int ((setM_ M (xs (i + 1)) (xs (i + 2)) (xs (i + 3))).1))) C.sem isM (c_X6_set M (xs (i + 1)) (xs (i + 2)) (xs (i + 3)) (rp_mz h)) xm_X6_set xk_L_21 dL_law_254 (LWp_mT hw1) isM_nd rfl hf1 rfl rfl rfl (Nat.le_of_ble_eq_true rfl) ⟨Nat.le_of_ble_eq_true rfl, Nat.le_of_ble_eq_true rfl⟩ ⟨rfl, rfl⟩ ⟨Nat.le_of_ble_eq_true rfl, Nat.le_of_ble_eq_true rfl⟩ rfl ((wM_len _).trans (wM_len _).symm) rfl rfl ?_
  have hw2 := LWp_m hw1 ((setM_ M (xs (i + 1)) (xs (i + 2)) (xs (i + 3))).2)
  show g 69 3053 (xSet θ1 isM ((wM ((setM_ M (xs (i + 1)) (xs (i + 2)) (xs (i + 3))).2)).map (xEr (xS isM θ1.length)))) 257 [some (.ref 1000000), some (.ref 0), some (.ref 55), some (.int (nI i))] [.int ((setM_ M (xs (i + 1)) (xs (i + 2)) (xs (i + 3))).1), .int ((setC S (xs (i + 1)) (xs (i + 2)) (xs (i + 3))).1)]
  generalize xSet θ1 isM ((wM ((setM_ M (xs (i + 1)) (xs (i + 2)) (xs (i + 3))).2)).map (xEr (xS isM θ1.length))) = θ2 at hw2 ⊢
  refine r_icmp_eq (pc := 257) (tgt := 1222) C.sem dL_law_257 (by decide) (fun _ => ?_) (fun hne => absurd hrel.1 hne)
  exact kk _ _ _ hw2 hrel.2
set_option maxHeartbeats 1000000 in
set_option maxRecDepth 100000 in
theorem law_copy {L : Nat} {xs : Nat → Int32} {nm : String} {g : Nat → Nat → List xE → Nat → List (Option Value) → List Value → Prop} (C : SemL room_1 L xs nm g) (hL : L ≤ 384) (i : Nat) (hi : i + 6 ≤ L) (θ : List xE) (S : Nat → Nat → Nat → Int32) (M : Nat → Nat → Int32) (hw : LWp θ S M) (hR : Rel S M) (kk : ∀ (θ' : List xE) (S' : Nat → Nat → Nat → Int32) (M' : Nat → Nat → Int32), LWp θ' S' M' → Rel S' M' → g 69 3053 θ' 1222 [some (.ref 1000000), some (.ref 0), some (.ref 55), some (.int (nI i))] []) : g 69 3053 θ 262 [some (.ref 1000000), some (.ref 0), some (.ref 55), some (.int (nI i))] [] := by
  obtain ⟨z, o, q, ln, tr, h⟩ := hR
  have hrel := rel_copy h (xs (i + 1)) (xs (i + 2)) (xs (i + 3)) (xs (i + 4)) (xs (i + 5))
  refine r_aload_n (pc := 262) C.sem dL_law_262 rfl rfl ?_
  refine r_aload_n (pc := 263) C.sem dL_law_263 rfl rfl ?_
  refine r_iload_n (pc := 264) C.sem dL_law_264 rfl rfl ?_
  refine r_iconst (pc := 265) (v := 1) C.sem dL_law_265 (by decide) ?_
  refine r_iadd (pc := 266) C.sem dL_law_266 ?_
  refine r_sld (pc := 267) C (i + 1) dL_law_267 (nI_sum (m := i) (n := 1) rfl rfl) (by omega) (by omega) (by have := hw.1; omega) ?_
  refine r_aload_n (pc := 268) C.sem dL_law_268 rfl rfl ?_
  refine r_iload_n (pc := 269) C.sem dL_law_269 rfl rfl ?_
  refine r_iconst (pc := 270) (v := 2) C.sem dL_law_270 (by decide) ?_
  refine r_iadd (pc := 271) C.sem dL_law_271 ?_
  refine r_sld (pc := 272) C (i + 2) dL_law_272 (nI_sum (m := i) (n := 2) rfl rfl) (by omega) (by omega) (by have := hw.1; omega) ?_
  refine r_aload_n (pc := 273) C.sem dL_law_273 rfl rfl ?_
  refine r_iload_n (pc := 274) C.sem dL_law_274 rfl rfl ?_
  refine r_iconst (pc := 275) (v := 3) C.sem dL_law_275 (by decide) ?_
  refine r_iadd (pc := 276) C.sem dL_law_276 ?_
  refine r_sld (pc := 277) C (i + 3) dL_law_277 (nI_sum (m := i) (n := 3) rfl rfl) (by omega) (by omega) (by have := hw.1; omega) ?_
  refine r_aload_n (pc := 278) C.sem dL_law_278 rfl rfl ?_
  refine r_iload_n (pc := 279) C.sem dL_law_279 rfl rfl ?_
  refine r_iconst (pc := 280) (v := 4) C.sem dL_law_280 (by decide) ?_
  refine r_iadd (pc := 281) C.sem dL_law_281 ?_
  refine r_sld (pc := 282) C (i + 4) dL_law_282 (nI_sum (m := i) (n := 4) rfl rfl) (by omega) (by omega) (by have := hw.1; omega) ?_
  refine r_aload_n (pc := 283) C.sem dL_law_283 rfl rfl ?_
  refine r_iload_n (pc := 284) C.sem dL_law_284 rfl rfl ?_
  refine r_iconst (pc := 285) (v := 5) C.sem dL_law_285 (by decide) ?_
  refine r_iadd (pc := 286) C.sem dL_law_286 ?_
  refine r_sld (pc := 287) C (i + 5) dL_law_287 (nI_sum (m := i) (n := 5) rfl rfl) (by omega) (by omega) (by have := hw.1; omega) ?_
  refine r_callVD (pc := 288) (b := 0) (b' := 0) (As := [.int (xs (i + 1)), .int (xs (i + 2)), .int (xs (i + 3)), .int (xs (i + 4)), .int (xs (i + 5))]) (st := []) (r2 := some (.int ((copyC S (xs (i + 1)) (xs (i + 2)) (xs (i + 3)) (xs (i + 4)) (xs (i + 5))).1))) C.sem isC (c_X5_copy S (xs (i + 1)) (xs (i + 2)) (xs (i + 3)) (xs (i + 4)) (xs (i + 5)) (rp_sz h)) xm_X5_copy xk_L_22 dL_law_288 (LWp_cT hw) isC_nd rfl (LWp_c0 hw) rfl rfl rfl (Nat.le_of_ble_eq_true rfl) ⟨Nat.le_of_ble_eq_true rfl, Nat.le_of_ble_eq_true rfl⟩ ⟨rfl, rfl⟩ ⟨Nat.le_of_ble_eq_true rfl, Nat.le_of_ble_eq_true rfl⟩ rfl ((wC_len _).trans (wC_len _).symm) rfl rfl ?_
  have hw1 := LWp_c hw ((copyC S (xs (i + 1)) (xs (i + 2)) (xs (i + 3)) (xs (i + 4)) (xs (i + 5))).2)
  show g 69 3053 (xSet θ isC ((wC ((copyC S (xs (i + 1)) (xs (i + 2)) (xs (i + 3)) (xs (i + 4)) (xs (i + 5))).2)).map (xEr (xS isC θ.length)))) 291 [some (.ref 1000000), some (.ref 0), some (.ref 55), some (.int (nI i))] [.int ((copyC S (xs (i + 1)) (xs (i + 2)) (xs (i + 3)) (xs (i + 4)) (xs (i + 5))).1)]
  generalize xSet θ isC ((wC ((copyC S (xs (i + 1)) (xs (i + 2)) (xs (i + 3)) (xs (i + 4)) (xs (i + 5))).2)).map (xEr (xS isC θ.length))) = θ1 at hw1 ⊢
  refine r_aload_n (pc := 291) C.sem dL_law_291 rfl rfl ?_
  refine r_aload_n (pc := 292) C.sem dL_law_292 rfl rfl ?_
  refine r_iload_n (pc := 293) C.sem dL_law_293 rfl rfl ?_
  refine r_iconst (pc := 294) (v := 1) C.sem dL_law_294 (by decide) ?_
  refine r_iadd (pc := 295) C.sem dL_law_295 ?_
  refine r_sld (pc := 296) C (i + 1) dL_law_296 (nI_sum (m := i) (n := 1) rfl rfl) (by omega) (by omega) (by have := hw1.1; omega) ?_
  refine r_aload_n (pc := 297) C.sem dL_law_297 rfl rfl ?_
  refine r_iload_n (pc := 298) C.sem dL_law_298 rfl rfl ?_
  refine r_iconst (pc := 299) (v := 2) C.sem dL_law_299 (by decide) ?_
  refine r_iadd (pc := 300) C.sem dL_law_300 ?_
  refine r_sld (pc := 301) C (i + 2) dL_law_301 (nI_sum (m := i) (n := 2) rfl rfl) (by omega) (by omega) (by have := hw1.1; omega) ?_
  refine r_aload_n (pc := 302) C.sem dL_law_302 rfl rfl ?_
  refine r_iload_n (pc := 303) C.sem dL_law_303 rfl rfl ?_
  refine r_iconst (pc := 304) (v := 3) C.sem dL_law_304 (by decide) ?_
  refine r_iadd (pc := 305) C.sem dL_law_305 ?_
  refine r_sld (pc := 306) C (i + 3) dL_law_306 (nI_sum (m := i) (n := 3) rfl rfl) (by omega) (by omega) (by have := hw1.1; omega) ?_
  refine r_aload_n (pc := 307) C.sem dL_law_307 rfl rfl ?_
  refine r_iload_n (pc := 308) C.sem dL_law_308 rfl rfl ?_
  refine r_iconst (pc := 309) (v := 4) C.sem dL_law_309 (by decide) ?_
  refine r_iadd (pc := 310) C.sem dL_law_310 ?_
  refine r_sld (pc := 311) C (i + 4) dL_law_311 (nI_sum (m := i) (n := 4) rfl rfl) (by omega) (by omega) (by have := hw1.1; omega) ?_
  refine r_aload_n (pc := 312) C.sem dL_law_312 rfl rfl ?_
  refine r_iload_n (pc := 313) C.sem dL_law_313 rfl rfl ?_
  refine r_iconst (pc := 314) (v := 5) C.sem dL_law_314 (by decide) ?_
  refine r_iadd (pc := 315) C.sem dL_law_315 ?_
  refine r_sld (pc := 316) C (i + 5) dL_law_316 (nI_sum (m := i) (n := 5) rfl rfl) (by omega) (by omega) (by have := hw1.1; omega) ?_
  obtain ⟨fs1, hf1⟩ := LWp_m0 hw1
  refine r_callVD (pc := 317) (b := 55) (b' := 0) (As := [.int (xs (i + 1)), .int (xs (i + 2)), .int (xs (i + 3)), .int (xs (i + 4)), .int (xs (i + 5))]) (st := [.int ((copyC S (xs (i + 1)) (xs (i + 2)) (xs (i + 3)) (xs (i + 4)) (xs (i + 5))).1)]) (r2 := some (.int ((copyM M (xs (i + 1)) (xs (i + 2)) (xs (i + 3)) (xs (i + 4)) (xs (i + 5))).1))) C.sem isM (c_X6_copy M (xs (i + 1)) (xs (i + 2)) (xs (i + 3)) (xs (i + 4)) (xs (i + 5)) (rp_mz h)) xm_X6_copy xk_L_26 dL_law_317 (LWp_mT hw1) isM_nd rfl hf1 rfl rfl rfl (Nat.le_of_ble_eq_true rfl) ⟨Nat.le_of_ble_eq_true rfl, Nat.le_of_ble_eq_true rfl⟩ ⟨rfl, rfl⟩ ⟨Nat.le_of_ble_eq_true rfl, Nat.le_of_ble_eq_true rfl⟩ rfl ((wM_len _).trans (wM_len _).symm) rfl rfl ?_
  have hw2 := LWp_m hw1 ((copyM M (xs (i + 1)) (xs (i + 2)) (xs (i + 3)) (xs (i + 4)) (xs (i + 5))).2)
  show g 69 3053 (xSet θ1 isM ((wM ((copyM M (xs (i + 1)) (xs (i + 2)) (xs (i + 3)) (xs (i + 4)) (xs (i + 5))).2)).map (xEr (xS isM θ1.length)))) 320 [some (.ref 1000000), some (.ref 0), some (.ref 55), some (.int (nI i))] [.int ((copyM M (xs (i + 1)) (xs (i + 2)) (xs (i + 3)) (xs (i + 4)) (xs (i + 5))).1), .int ((copyC S (xs (i + 1)) (xs (i + 2)) (xs (i + 3)) (xs (i + 4)) (xs (i + 5))).1)]
  generalize xSet θ1 isM ((wM ((copyM M (xs (i + 1)) (xs (i + 2)) (xs (i + 3)) (xs (i + 4)) (xs (i + 5))).2)).map (xEr (xS isM θ1.length))) = θ2 at hw2 ⊢
  refine r_icmp_eq (pc := 320) (tgt := 1222) C.sem dL_law_320 (by decide) (fun _ => ?_) (fun hne => absurd hrel.1 hne)
  exact kk _ _ _ hw2 hrel.2
set_option maxHeartbeats 1000000 in
set_option maxRecDepth 100000 in
theorem law_drop {L : Nat} {xs : Nat → Int32} {nm : String} {g : Nat → Nat → List xE → Nat → List (Option Value) → List Value → Prop} (C : SemL room_1 L xs nm g) (hL : L ≤ 384) (i : Nat) (hi : i + 6 ≤ L) (θ : List xE) (S : Nat → Nat → Nat → Int32) (M : Nat → Nat → Int32) (hw : LWp θ S M) (hR : Rel S M) (kk : ∀ (θ' : List xE) (S' : Nat → Nat → Nat → Int32) (M' : Nat → Nat → Int32), LWp θ' S' M' → Rel S' M' → g 69 3053 θ' 1222 [some (.ref 1000000), some (.ref 0), some (.ref 55), some (.int (nI i))] []) : g 69 3053 θ 325 [some (.ref 1000000), some (.ref 0), some (.ref 55), some (.int (nI i))] [] := by
  obtain ⟨z, o, q, ln, tr, h⟩ := hR
  have hrel := rel_drop h (xs (i + 1))
  refine r_aload_n (pc := 325) C.sem dL_law_325 rfl rfl ?_
  refine r_aload_n (pc := 326) C.sem dL_law_326 rfl rfl ?_
  refine r_iload_n (pc := 327) C.sem dL_law_327 rfl rfl ?_
  refine r_iconst (pc := 328) (v := 1) C.sem dL_law_328 (by decide) ?_
  refine r_iadd (pc := 329) C.sem dL_law_329 ?_
  refine r_sld (pc := 330) C (i + 1) dL_law_330 (nI_sum (m := i) (n := 1) rfl rfl) (by omega) (by omega) (by have := hw.1; omega) ?_
  refine r_callVD (pc := 331) (b := 0) (b' := 0) (As := [.int (xs (i + 1))]) (st := []) (r2 := some (.int ((dropC S (xs (i + 1))).1))) C.sem isC (c_X5_drop S (xs (i + 1)) ) xm_X5_drop xk_L_27 dL_law_331 (LWp_cT hw) isC_nd rfl (LWp_c0 hw) rfl rfl rfl (Nat.le_of_ble_eq_true rfl) ⟨Nat.le_of_ble_eq_true rfl, Nat.le_of_ble_eq_true rfl⟩ ⟨rfl, rfl⟩ ⟨Nat.le_of_ble_eq_true rfl, Nat.le_of_ble_eq_true rfl⟩ rfl ((wC_len _).trans (wC_len _).symm) rfl rfl ?_
  have hw1 := LWp_c hw ((dropC S (xs (i + 1))).2)
  show g 69 3053 (xSet θ isC ((wC ((dropC S (xs (i + 1))).2)).map (xEr (xS isC θ.length)))) 334 [some (.ref 1000000), some (.ref 0), some (.ref 55), some (.int (nI i))] [.int ((dropC S (xs (i + 1))).1)]
  generalize xSet θ isC ((wC ((dropC S (xs (i + 1))).2)).map (xEr (xS isC θ.length))) = θ1 at hw1 ⊢
  refine r_aload_n (pc := 334) C.sem dL_law_334 rfl rfl ?_
  refine r_aload_n (pc := 335) C.sem dL_law_335 rfl rfl ?_
  refine r_iload_n (pc := 336) C.sem dL_law_336 rfl rfl ?_
  refine r_iconst (pc := 337) (v := 1) C.sem dL_law_337 (by decide) ?_
  refine r_iadd (pc := 338) C.sem dL_law_338 ?_
  refine r_sld (pc := 339) C (i + 1) dL_law_339 (nI_sum (m := i) (n := 1) rfl rfl) (by omega) (by omega) (by have := hw1.1; omega) ?_
  obtain ⟨fs1, hf1⟩ := LWp_m0 hw1
  refine r_callVD (pc := 340) (b := 55) (b' := 0) (As := [.int (xs (i + 1))]) (st := [.int ((dropC S (xs (i + 1))).1)]) (r2 := some (.int ((dropM M (xs (i + 1))).1))) C.sem isM (c_X6_drop M (xs (i + 1)) ) xm_X6_drop xk_L_31 dL_law_340 (LWp_mT hw1) isM_nd rfl hf1 rfl rfl rfl (Nat.le_of_ble_eq_true rfl) ⟨Nat.le_of_ble_eq_true rfl, Nat.le_of_ble_eq_true rfl⟩ ⟨rfl, rfl⟩ ⟨Nat.le_of_ble_eq_true rfl, Nat.le_of_ble_eq_true rfl⟩ rfl ((wM_len _).trans (wM_len _).symm) rfl rfl ?_
  have hw2 := LWp_m hw1 ((dropM M (xs (i + 1))).2)
  show g 69 3053 (xSet θ1 isM ((wM ((dropM M (xs (i + 1))).2)).map (xEr (xS isM θ1.length)))) 343 [some (.ref 1000000), some (.ref 0), some (.ref 55), some (.int (nI i))] [.int ((dropM M (xs (i + 1))).1), .int ((dropC S (xs (i + 1))).1)]
  generalize xSet θ1 isM ((wM ((dropM M (xs (i + 1))).2)).map (xEr (xS isM θ1.length))) = θ2 at hw2 ⊢
  refine r_icmp_eq (pc := 343) (tgt := 1222) C.sem dL_law_343 (by decide) (fun _ => ?_) (fun hne => absurd hrel.1 hne)
  exact kk _ _ _ hw2 hrel.2
set_option maxHeartbeats 1000000 in
set_option maxRecDepth 100000 in
theorem law_feed {L : Nat} {xs : Nat → Int32} {nm : String} {g : Nat → Nat → List xE → Nat → List (Option Value) → List Value → Prop} (C : SemL room_1 L xs nm g) (hL : L ≤ 384) (i : Nat) (hi : i + 6 ≤ L) (θ : List xE) (S : Nat → Nat → Nat → Int32) (M : Nat → Nat → Int32) (hw : LWp θ S M) (hR : Rel S M) (kk : ∀ (θ' : List xE) (S' : Nat → Nat → Nat → Int32) (M' : Nat → Nat → Int32), LWp θ' S' M' → Rel S' M' → g 69 3053 θ' 1222 [some (.ref 1000000), some (.ref 0), some (.ref 55), some (.int (nI i))] []) : g 69 3053 θ 348 [some (.ref 1000000), some (.ref 0), some (.ref 55), some (.int (nI i))] [] := by
  obtain ⟨z, o, q, ln, tr, h⟩ := hR
  have hrel := rel_feed h (xs (i + 1))
  refine r_aload_n (pc := 348) C.sem dL_law_348 rfl rfl ?_
  refine r_aload_n (pc := 349) C.sem dL_law_349 rfl rfl ?_
  refine r_iload_n (pc := 350) C.sem dL_law_350 rfl rfl ?_
  refine r_iconst (pc := 351) (v := 1) C.sem dL_law_351 (by decide) ?_
  refine r_iadd (pc := 352) C.sem dL_law_352 ?_
  refine r_sld (pc := 353) C (i + 1) dL_law_353 (nI_sum (m := i) (n := 1) rfl rfl) (by omega) (by omega) (by have := hw.1; omega) ?_
  refine r_callVD (pc := 354) (b := 0) (b' := 0) (As := [.int (xs (i + 1))]) (st := []) (r2 := some (.int ((feedC S ln (xs (i + 1))).1))) C.sem isC (c_X5_feed S (xs (i + 1)) ln h.2.2.1.1 h.2.2.1.2.1) xm_X5_feed xk_L_32 dL_law_354 (LWp_cT hw) isC_nd rfl (LWp_c0 hw) rfl rfl rfl (Nat.le_of_ble_eq_true rfl) ⟨Nat.le_of_ble_eq_true rfl, Nat.le_of_ble_eq_true rfl⟩ ⟨rfl, rfl⟩ ⟨Nat.le_of_ble_eq_true rfl, Nat.le_of_ble_eq_true rfl⟩ rfl ((wC_len _).trans (wC_len _).symm) rfl rfl ?_
  have hw1 := LWp_c hw ((feedC S ln (xs (i + 1))).2)
  show g 69 3053 (xSet θ isC ((wC ((feedC S ln (xs (i + 1))).2)).map (xEr (xS isC θ.length)))) 357 [some (.ref 1000000), some (.ref 0), some (.ref 55), some (.int (nI i))] [.int ((feedC S ln (xs (i + 1))).1)]
  generalize xSet θ isC ((wC ((feedC S ln (xs (i + 1))).2)).map (xEr (xS isC θ.length))) = θ1 at hw1 ⊢
  refine r_aload_n (pc := 357) C.sem dL_law_357 rfl rfl ?_
  refine r_aload_n (pc := 358) C.sem dL_law_358 rfl rfl ?_
  refine r_iload_n (pc := 359) C.sem dL_law_359 rfl rfl ?_
  refine r_iconst (pc := 360) (v := 1) C.sem dL_law_360 (by decide) ?_
  refine r_iadd (pc := 361) C.sem dL_law_361 ?_
  refine r_sld (pc := 362) C (i + 1) dL_law_362 (nI_sum (m := i) (n := 1) rfl rfl) (by omega) (by omega) (by have := hw1.1; omega) ?_
  obtain ⟨fs1, hf1⟩ := LWp_m0 hw1
  refine r_callVD (pc := 363) (b := 55) (b' := 0) (As := [.int (xs (i + 1))]) (st := [.int ((feedC S ln (xs (i + 1))).1)]) (r2 := some (.int ((feedM M ln (xs (i + 1))).1))) C.sem isM (c_X6_feed M ln (xs (i + 1)) h.2.2.1.2.2.1 h.2.2.1.2.1) xm_X6_feed xk_L_35 dL_law_363 (LWp_mT hw1) isM_nd rfl hf1 rfl rfl rfl (Nat.le_of_ble_eq_true rfl) ⟨Nat.le_of_ble_eq_true rfl, Nat.le_of_ble_eq_true rfl⟩ ⟨rfl, rfl⟩ ⟨Nat.le_of_ble_eq_true rfl, Nat.le_of_ble_eq_true rfl⟩ rfl ((wM_len _).trans (wM_len _).symm) rfl rfl ?_
  have hw2 := LWp_m hw1 ((feedM M ln (xs (i + 1))).2)
  show g 69 3053 (xSet θ1 isM ((wM ((feedM M ln (xs (i + 1))).2)).map (xEr (xS isM θ1.length)))) 366 [some (.ref 1000000), some (.ref 0), some (.ref 55), some (.int (nI i))] [.int ((feedM M ln (xs (i + 1))).1), .int ((feedC S ln (xs (i + 1))).1)]
  generalize xSet θ1 isM ((wM ((feedM M ln (xs (i + 1))).2)).map (xEr (xS isM θ1.length))) = θ2 at hw2 ⊢
  refine r_icmp_eq (pc := 366) (tgt := 1222) C.sem dL_law_366 (by decide) (fun _ => ?_) (fun hne => absurd hrel.1 hne)
  exact kk _ _ _ hw2 hrel.2
set_option maxHeartbeats 1000000 in
set_option maxRecDepth 100000 in
theorem law_forest {L : Nat} {xs : Nat → Int32} {nm : String} {g : Nat → Nat → List xE → Nat → List (Option Value) → List Value → Prop} (C : SemL room_1 L xs nm g) (hL : L ≤ 384) (i : Nat) (hi : i + 6 ≤ L) (θ : List xE) (S : Nat → Nat → Nat → Int32) (M : Nat → Nat → Int32) (hw : LWp θ S M) (hR : Rel S M) (kk : ∀ (θ' : List xE) (S' : Nat → Nat → Nat → Int32) (M' : Nat → Nat → Int32), LWp θ' S' M' → Rel S' M' → g 69 3053 θ' 1222 [some (.ref 1000000), some (.ref 0), some (.ref 55), some (.int (nI i))] []) : g 69 3053 θ 371 [some (.ref 1000000), some (.ref 0), some (.ref 55), some (.int (nI i))] [] := by
  obtain ⟨z, o, q, ln, tr, h⟩ := hR
  have hrel := rel_forest h 
  refine r_aload_n (pc := 371) C.sem dL_law_371 rfl rfl ?_
  refine r_callVD (pc := 372) (b := 0) (b' := 0) (As := []) (st := []) (r2 := some (.int ((forC S ln).1))) C.sem isC (c_X5_forest S ln h.2.2.1.1 h.2.2.1.2.1 (ri_5 _ _ _ _ _)) xm_X5_forest xk_L_36 dL_law_372 (LWp_cT hw) isC_nd rfl (LWp_c0 hw) rfl rfl rfl (Nat.le_of_ble_eq_true rfl) ⟨Nat.le_of_ble_eq_true rfl, Nat.le_of_ble_eq_true rfl⟩ ⟨rfl, rfl⟩ ⟨Nat.le_of_ble_eq_true rfl, Nat.le_of_ble_eq_true rfl⟩ rfl ((wC_len _).trans (wC_len _).symm) rfl rfl ?_
  have hw1 := LWp_c hw ((forC S ln).2)
  show g 69 3053 (xSet θ isC ((wC ((forC S ln).2)).map (xEr (xS isC θ.length)))) 375 [some (.ref 1000000), some (.ref 0), some (.ref 55), some (.int (nI i))] [.int ((forC S ln).1)]
  generalize xSet θ isC ((wC ((forC S ln).2)).map (xEr (xS isC θ.length))) = θ1 at hw1 ⊢
  refine r_aload_n (pc := 375) C.sem dL_law_375 rfl rfl ?_
  obtain ⟨fs1, hf1⟩ := LWp_m0 hw1
  refine r_callVD (pc := 376) (b := 55) (b' := 0) (As := []) (st := [.int ((forC S ln).1)]) (r2 := some (.int ((forM M ln).1))) C.sem isM (c_X6_forest M ln h.2.2.1.2.2.1 h.2.2.1.2.1) xm_X6_forest xk_L_40 dL_law_376 (LWp_mT hw1) isM_nd rfl hf1 rfl rfl rfl (Nat.le_of_ble_eq_true rfl) ⟨Nat.le_of_ble_eq_true rfl, Nat.le_of_ble_eq_true rfl⟩ ⟨rfl, rfl⟩ ⟨Nat.le_of_ble_eq_true rfl, Nat.le_of_ble_eq_true rfl⟩ rfl ((wM_len _).trans (wM_len _).symm) rfl rfl ?_
  have hw2 := LWp_m hw1 ((forM M ln).2)
  show g 69 3053 (xSet θ1 isM ((wM ((forM M ln).2)).map (xEr (xS isM θ1.length)))) 379 [some (.ref 1000000), some (.ref 0), some (.ref 55), some (.int (nI i))] [.int ((forM M ln).1), .int ((forC S ln).1)]
  generalize xSet θ1 isM ((wM ((forM M ln).2)).map (xEr (xS isM θ1.length))) = θ2 at hw2 ⊢
  refine r_icmp_eq (pc := 379) (tgt := 1222) C.sem dL_law_379 (by decide) (fun _ => ?_) (fun hne => absurd hrel.1 hne)
  exact kk _ _ _ hw2 hrel.2
set_option maxHeartbeats 1000000 in
set_option maxRecDepth 100000 in
theorem law_fault {L : Nat} {xs : Nat → Int32} {nm : String} {g : Nat → Nat → List xE → Nat → List (Option Value) → List Value → Prop} (C : SemL room_1 L xs nm g) (hL : L ≤ 384) (i : Nat) (hi : i + 6 ≤ L) (θ : List xE) (S : Nat → Nat → Nat → Int32) (M : Nat → Nat → Int32) (hw : LWp θ S M) (hR : Rel S M) (kk : ∀ (θ' : List xE) (S' : Nat → Nat → Nat → Int32) (M' : Nat → Nat → Int32), LWp θ' S' M' → Rel S' M' → g 69 3053 θ' 1222 [some (.ref 1000000), some (.ref 0), some (.ref 55), some (.int (nI i))] []) : g 69 3053 θ 384 [some (.ref 1000000), some (.ref 0), some (.ref 55), some (.int (nI i))] [] := by
  obtain ⟨z, o, q, ln, tr, h⟩ := hR
  have hrel := rel_fault h 
  refine r_aload_n (pc := 384) C.sem dL_law_384 rfl rfl ?_
  refine r_callVD (pc := 385) (b := 0) (b' := 0) (As := []) (st := []) (r2 := some (.int (S 1 3 0))) C.sem isC (c_X5_fault S  ) xm_X5_fault xk_L_41 dL_law_385 (LWp_cT hw) isC_nd rfl (LWp_c0 hw) rfl rfl rfl (Nat.le_of_ble_eq_true rfl) ⟨Nat.le_of_ble_eq_true rfl, Nat.le_of_ble_eq_true rfl⟩ ⟨rfl, rfl⟩ ⟨Nat.le_of_ble_eq_true rfl, Nat.le_of_ble_eq_true rfl⟩ rfl ((wC_len _).trans (wC_len _).symm) rfl rfl ?_
  have hw1 := LWp_c hw (S)
  show g 69 3053 (xSet θ isC ((wC (S)).map (xEr (xS isC θ.length)))) 388 [some (.ref 1000000), some (.ref 0), some (.ref 55), some (.int (nI i))] [.int (S 1 3 0)]
  generalize xSet θ isC ((wC (S)).map (xEr (xS isC θ.length))) = θ1 at hw1 ⊢
  refine r_aload_n (pc := 388) C.sem dL_law_388 rfl rfl ?_
  obtain ⟨fs1, hf1⟩ := LWp_m0 hw1
  refine r_callVD (pc := 389) (b := 55) (b' := 0) (As := []) (st := [.int (S 1 3 0)]) (r2 := some (.int (M 13 0))) C.sem isM (c_X6_fault M  ) xm_X6_fault xk_L_44 dL_law_389 (LWp_mT hw1) isM_nd rfl hf1 rfl rfl rfl (Nat.le_of_ble_eq_true rfl) ⟨Nat.le_of_ble_eq_true rfl, Nat.le_of_ble_eq_true rfl⟩ ⟨rfl, rfl⟩ ⟨Nat.le_of_ble_eq_true rfl, Nat.le_of_ble_eq_true rfl⟩ rfl ((wM_len _).trans (wM_len _).symm) rfl rfl ?_
  have hw2 := LWp_m hw1 (M)
  show g 69 3053 (xSet θ1 isM ((wM (M)).map (xEr (xS isM θ1.length)))) 392 [some (.ref 1000000), some (.ref 0), some (.ref 55), some (.int (nI i))] [.int (M 13 0), .int (S 1 3 0)]
  generalize xSet θ1 isM ((wM (M)).map (xEr (xS isM θ1.length))) = θ2 at hw2 ⊢
  refine r_icmp_eq (pc := 392) (tgt := 1222) C.sem dL_law_392 (by decide) (fun _ => ?_) (fun hne => absurd hrel.1 hne)
  exact kk _ _ _ hw2 hrel.2
set_option maxHeartbeats 1000000 in
set_option maxRecDepth 100000 in
theorem law_minutes {L : Nat} {xs : Nat → Int32} {nm : String} {g : Nat → Nat → List xE → Nat → List (Option Value) → List Value → Prop} (C : SemL room_1 L xs nm g) (hL : L ≤ 384) (i : Nat) (hi : i + 6 ≤ L) (θ : List xE) (S : Nat → Nat → Nat → Int32) (M : Nat → Nat → Int32) (hw : LWp θ S M) (hR : Rel S M) (kk : ∀ (θ' : List xE) (S' : Nat → Nat → Nat → Int32) (M' : Nat → Nat → Int32), LWp θ' S' M' → Rel S' M' → g 69 3053 θ' 1222 [some (.ref 1000000), some (.ref 0), some (.ref 55), some (.int (nI i))] []) : g 69 3053 θ 397 [some (.ref 1000000), some (.ref 0), some (.ref 55), some (.int (nI i))] [] := by
  obtain ⟨z, o, q, ln, tr, h⟩ := hR
  have hrel := rel_minutes h (xs (i + 1))
  refine r_aload_n (pc := 397) C.sem dL_law_397 rfl rfl ?_
  refine r_aload_n (pc := 398) C.sem dL_law_398 rfl rfl ?_
  refine r_iload_n (pc := 399) C.sem dL_law_399 rfl rfl ?_
  refine r_iconst (pc := 400) (v := 1) C.sem dL_law_400 (by decide) ?_
  refine r_iadd (pc := 401) C.sem dL_law_401 ?_
  refine r_sld (pc := 402) C (i + 1) dL_law_402 (nI_sum (m := i) (n := 1) rfl rfl) (by omega) (by omega) (by have := hw.1; omega) ?_
  refine r_callVD (pc := 403) (b := 0) (b' := 0) (As := [.int (xs (i + 1))]) (st := []) (r2 := some (.int ((minC S z o q (xs (i + 1))).1))) C.sem isC (c_X5_minutes S (xs (i + 1)) z (rp_S h) o q (rp_A h)) xm_X5_minutes xk_L_45 dL_law_403 (LWp_cT hw) isC_nd rfl (LWp_c0 hw) rfl rfl rfl (Nat.le_of_ble_eq_true rfl) ⟨Nat.le_of_ble_eq_true rfl, Nat.le_of_ble_eq_true rfl⟩ ⟨rfl, rfl⟩ ⟨Nat.le_of_ble_eq_true rfl, Nat.le_of_ble_eq_true rfl⟩ rfl ((wC_len _).trans (wC_len _).symm) rfl rfl ?_
  have hw1 := LWp_c hw ((minC S z o q (xs (i + 1))).2)
  show g 69 3053 (xSet θ isC ((wC ((minC S z o q (xs (i + 1))).2)).map (xEr (xS isC θ.length)))) 406 [some (.ref 1000000), some (.ref 0), some (.ref 55), some (.int (nI i))] [.int ((minC S z o q (xs (i + 1))).1)]
  generalize xSet θ isC ((wC ((minC S z o q (xs (i + 1))).2)).map (xEr (xS isC θ.length))) = θ1 at hw1 ⊢
  refine r_aload_n (pc := 406) C.sem dL_law_406 rfl rfl ?_
  refine r_aload_n (pc := 407) C.sem dL_law_407 rfl rfl ?_
  refine r_iload_n (pc := 408) C.sem dL_law_408 rfl rfl ?_
  refine r_iconst (pc := 409) (v := 1) C.sem dL_law_409 (by decide) ?_
  refine r_iadd (pc := 410) C.sem dL_law_410 ?_
  refine r_sld (pc := 411) C (i + 1) dL_law_411 (nI_sum (m := i) (n := 1) rfl rfl) (by omega) (by omega) (by have := hw1.1; omega) ?_
  obtain ⟨fs1, hf1⟩ := LWp_m0 hw1
  refine r_callVD (pc := 412) (b := 55) (b' := 0) (As := [.int (xs (i + 1))]) (st := [.int ((minC S z o q (xs (i + 1))).1)]) (r2 := some (.int ((minM M z q (xs (i + 1))).1))) C.sem isM (c_X6_minutes M (xs (i + 1)) z (rp_M h) q h.2.1.2.1 (rp_A h).2.2.2) xm_X6_minutes xk_L_48 dL_law_412 (LWp_mT hw1) isM_nd rfl hf1 rfl rfl rfl (Nat.le_of_ble_eq_true rfl) ⟨Nat.le_of_ble_eq_true rfl, Nat.le_of_ble_eq_true rfl⟩ ⟨rfl, rfl⟩ ⟨Nat.le_of_ble_eq_true rfl, Nat.le_of_ble_eq_true rfl⟩ rfl ((wM_len _).trans (wM_len _).symm) rfl rfl ?_
  have hw2 := LWp_m hw1 ((minM M z q (xs (i + 1))).2)
  show g 69 3053 (xSet θ1 isM ((wM ((minM M z q (xs (i + 1))).2)).map (xEr (xS isM θ1.length)))) 415 [some (.ref 1000000), some (.ref 0), some (.ref 55), some (.int (nI i))] [.int ((minM M z q (xs (i + 1))).1), .int ((minC S z o q (xs (i + 1))).1)]
  generalize xSet θ1 isM ((wM ((minM M z q (xs (i + 1))).2)).map (xEr (xS isM θ1.length))) = θ2 at hw2 ⊢
  refine r_icmp_eq (pc := 415) (tgt := 1222) C.sem dL_law_415 (by decide) (fun _ => ?_) (fun hne => absurd hrel.1 hne)
  exact kk _ _ _ hw2 hrel.2
set_option maxHeartbeats 1000000 in
set_option maxRecDepth 100000 in
theorem law_sling {L : Nat} {xs : Nat → Int32} {nm : String} {g : Nat → Nat → List xE → Nat → List (Option Value) → List Value → Prop} (C : SemL room_1 L xs nm g) (hL : L ≤ 384) (i : Nat) (hi : i + 6 ≤ L) (θ : List xE) (S : Nat → Nat → Nat → Int32) (M : Nat → Nat → Int32) (hw : LWp θ S M) (hR : Rel S M) (kk : ∀ (θ' : List xE) (S' : Nat → Nat → Nat → Int32) (M' : Nat → Nat → Int32), LWp θ' S' M' → Rel S' M' → g 69 3053 θ' 1222 [some (.ref 1000000), some (.ref 0), some (.ref 55), some (.int (nI i))] []) : g 69 3053 θ 420 [some (.ref 1000000), some (.ref 0), some (.ref 55), some (.int (nI i))] [] := by
  obtain ⟨z, o, q, ln, tr, h⟩ := hR
  have hrel := rel_sling h (xs (i + 1)) (xs (i + 2)) (xs (i + 3))
  refine r_aload_n (pc := 420) C.sem dL_law_420 rfl rfl ?_
  refine r_aload_n (pc := 421) C.sem dL_law_421 rfl rfl ?_
  refine r_iload_n (pc := 422) C.sem dL_law_422 rfl rfl ?_
  refine r_iconst (pc := 423) (v := 1) C.sem dL_law_423 (by decide) ?_
  refine r_iadd (pc := 424) C.sem dL_law_424 ?_
  refine r_sld (pc := 425) C (i + 1) dL_law_425 (nI_sum (m := i) (n := 1) rfl rfl) (by omega) (by omega) (by have := hw.1; omega) ?_
  refine r_aload_n (pc := 426) C.sem dL_law_426 rfl rfl ?_
  refine r_iload_n (pc := 427) C.sem dL_law_427 rfl rfl ?_
  refine r_iconst (pc := 428) (v := 2) C.sem dL_law_428 (by decide) ?_
  refine r_iadd (pc := 429) C.sem dL_law_429 ?_
  refine r_sld (pc := 430) C (i + 2) dL_law_430 (nI_sum (m := i) (n := 2) rfl rfl) (by omega) (by omega) (by have := hw.1; omega) ?_
  refine r_aload_n (pc := 431) C.sem dL_law_431 rfl rfl ?_
  refine r_iload_n (pc := 432) C.sem dL_law_432 rfl rfl ?_
  refine r_iconst (pc := 433) (v := 3) C.sem dL_law_433 (by decide) ?_
  refine r_iadd (pc := 434) C.sem dL_law_434 ?_
  refine r_sld (pc := 435) C (i + 3) dL_law_435 (nI_sum (m := i) (n := 3) rfl rfl) (by omega) (by omega) (by have := hw.1; omega) ?_
  refine r_callVD (pc := 436) (b := 0) (b' := 0) (As := [.int (xs (i + 1)), .int (xs (i + 2)), .int (xs (i + 3))]) (st := []) (r2 := some (.int ((slingC S o q (xs (i + 1)) (xs (i + 2)) (xs (i + 3))).1))) C.sem isC (c_X5_sling S (xs (i + 1)) (xs (i + 2)) (xs (i + 3)) z (rp_S h) o q (rp_A h)) xm_X5_sling xk_L_49 dL_law_436 (LWp_cT hw) isC_nd rfl (LWp_c0 hw) rfl rfl rfl (Nat.le_of_ble_eq_true rfl) ⟨Nat.le_of_ble_eq_true rfl, Nat.le_of_ble_eq_true rfl⟩ ⟨rfl, rfl⟩ ⟨Nat.le_of_ble_eq_true rfl, Nat.le_of_ble_eq_true rfl⟩ rfl ((wC_len _).trans (wC_len _).symm) rfl rfl ?_
  have hw1 := LWp_c hw ((slingC S o q (xs (i + 1)) (xs (i + 2)) (xs (i + 3))).2)
  show g 69 3053 (xSet θ isC ((wC ((slingC S o q (xs (i + 1)) (xs (i + 2)) (xs (i + 3))).2)).map (xEr (xS isC θ.length)))) 439 [some (.ref 1000000), some (.ref 0), some (.ref 55), some (.int (nI i))] [.int ((slingC S o q (xs (i + 1)) (xs (i + 2)) (xs (i + 3))).1)]
  generalize xSet θ isC ((wC ((slingC S o q (xs (i + 1)) (xs (i + 2)) (xs (i + 3))).2)).map (xEr (xS isC θ.length))) = θ1 at hw1 ⊢
  refine r_aload_n (pc := 439) C.sem dL_law_439 rfl rfl ?_
  refine r_aload_n (pc := 440) C.sem dL_law_440 rfl rfl ?_
  refine r_iload_n (pc := 441) C.sem dL_law_441 rfl rfl ?_
  refine r_iconst (pc := 442) (v := 1) C.sem dL_law_442 (by decide) ?_
  refine r_iadd (pc := 443) C.sem dL_law_443 ?_
  refine r_sld (pc := 444) C (i + 1) dL_law_444 (nI_sum (m := i) (n := 1) rfl rfl) (by omega) (by omega) (by have := hw1.1; omega) ?_
  refine r_aload_n (pc := 445) C.sem dL_law_445 rfl rfl ?_
  refine r_iload_n (pc := 446) C.sem dL_law_446 rfl rfl ?_
  refine r_iconst (pc := 447) (v := 2) C.sem dL_law_447 (by decide) ?_
  refine r_iadd (pc := 448) C.sem dL_law_448 ?_
  refine r_sld (pc := 449) C (i + 2) dL_law_449 (nI_sum (m := i) (n := 2) rfl rfl) (by omega) (by omega) (by have := hw1.1; omega) ?_
  refine r_aload_n (pc := 450) C.sem dL_law_450 rfl rfl ?_
  refine r_iload_n (pc := 451) C.sem dL_law_451 rfl rfl ?_
  refine r_iconst (pc := 452) (v := 3) C.sem dL_law_452 (by decide) ?_
  refine r_iadd (pc := 453) C.sem dL_law_453 ?_
  refine r_sld (pc := 454) C (i + 3) dL_law_454 (nI_sum (m := i) (n := 3) rfl rfl) (by omega) (by omega) (by have := hw1.1; omega) ?_
  obtain ⟨fs1, hf1⟩ := LWp_m0 hw1
  refine r_callVD (pc := 455) (b := 55) (b' := 0) (As := [.int (xs (i + 1)), .int (xs (i + 2)), .int (xs (i + 3))]) (st := [.int ((slingC S o q (xs (i + 1)) (xs (i + 2)) (xs (i + 3))).1)]) (r2 := some (.int ((slingM M q (xs (i + 1)) (xs (i + 2)) (xs (i + 3))).1))) C.sem isM (c_X6_sling M (xs (i + 1)) (xs (i + 2)) (xs (i + 3)) z (rp_M h) q h.2.1.2.1 (rp_A h).2.2.2) xm_X6_sling xk_L_52 dL_law_455 (LWp_mT hw1) isM_nd rfl hf1 rfl rfl rfl (Nat.le_of_ble_eq_true rfl) ⟨Nat.le_of_ble_eq_true rfl, Nat.le_of_ble_eq_true rfl⟩ ⟨rfl, rfl⟩ ⟨Nat.le_of_ble_eq_true rfl, Nat.le_of_ble_eq_true rfl⟩ rfl ((wM_len _).trans (wM_len _).symm) rfl rfl ?_
  have hw2 := LWp_m hw1 ((slingM M q (xs (i + 1)) (xs (i + 2)) (xs (i + 3))).2)
  show g 69 3053 (xSet θ1 isM ((wM ((slingM M q (xs (i + 1)) (xs (i + 2)) (xs (i + 3))).2)).map (xEr (xS isM θ1.length)))) 458 [some (.ref 1000000), some (.ref 0), some (.ref 55), some (.int (nI i))] [.int ((slingM M q (xs (i + 1)) (xs (i + 2)) (xs (i + 3))).1), .int ((slingC S o q (xs (i + 1)) (xs (i + 2)) (xs (i + 3))).1)]
  generalize xSet θ1 isM ((wM ((slingM M q (xs (i + 1)) (xs (i + 2)) (xs (i + 3))).2)).map (xEr (xS isM θ1.length))) = θ2 at hw2 ⊢
  refine r_icmp_eq (pc := 458) (tgt := 1222) C.sem dL_law_458 (by decide) (fun _ => ?_) (fun hne => absurd hrel.1 hne)
  exact kk _ _ _ hw2 hrel.2
set_option maxHeartbeats 1000000 in
set_option maxRecDepth 100000 in
theorem law_load {L : Nat} {xs : Nat → Int32} {nm : String} {g : Nat → Nat → List xE → Nat → List (Option Value) → List Value → Prop} (C : SemL room_1 L xs nm g) (hL : L ≤ 384) (i : Nat) (hi : i + 6 ≤ L) (θ : List xE) (S : Nat → Nat → Nat → Int32) (M : Nat → Nat → Int32) (hw : LWp θ S M) (hR : Rel S M) (kk : ∀ (θ' : List xE) (S' : Nat → Nat → Nat → Int32) (M' : Nat → Nat → Int32), LWp θ' S' M' → Rel S' M' → g 69 3053 θ' 1222 [some (.ref 1000000), some (.ref 0), some (.ref 55), some (.int (nI i))] []) : g 69 3053 θ 463 [some (.ref 1000000), some (.ref 0), some (.ref 55), some (.int (nI i))] [] := by
  obtain ⟨z, o, q, ln, tr, h⟩ := hR
  have hrel := rel_load h (xs (i + 1)) (xs (i + 2))
  refine r_aload_n (pc := 463) C.sem dL_law_463 rfl rfl ?_
  refine r_aload_n (pc := 464) C.sem dL_law_464 rfl rfl ?_
  refine r_iload_n (pc := 465) C.sem dL_law_465 rfl rfl ?_
  refine r_iconst (pc := 466) (v := 1) C.sem dL_law_466 (by decide) ?_
  refine r_iadd (pc := 467) C.sem dL_law_467 ?_
  refine r_sld (pc := 468) C (i + 1) dL_law_468 (nI_sum (m := i) (n := 1) rfl rfl) (by omega) (by omega) (by have := hw.1; omega) ?_
  refine r_aload_n (pc := 469) C.sem dL_law_469 rfl rfl ?_
  refine r_iload_n (pc := 470) C.sem dL_law_470 rfl rfl ?_
  refine r_iconst (pc := 471) (v := 2) C.sem dL_law_471 (by decide) ?_
  refine r_iadd (pc := 472) C.sem dL_law_472 ?_
  refine r_sld (pc := 473) C (i + 2) dL_law_473 (nI_sum (m := i) (n := 2) rfl rfl) (by omega) (by omega) (by have := hw.1; omega) ?_
  refine r_callVD (pc := 474) (b := 0) (b' := 0) (As := [.int (xs (i + 1)), .int (xs (i + 2))]) (st := []) (r2 := some (.int ((loadC S o q (xs (i + 1)) (xs (i + 2))).1))) C.sem isC (c_X5_load S (xs (i + 1)) (xs (i + 2)) z (rp_S h) o q (rp_A h)) xm_X5_load xk_L_53 dL_law_474 (LWp_cT hw) isC_nd rfl (LWp_c0 hw) rfl rfl rfl (Nat.le_of_ble_eq_true rfl) ⟨Nat.le_of_ble_eq_true rfl, Nat.le_of_ble_eq_true rfl⟩ ⟨rfl, rfl⟩ ⟨Nat.le_of_ble_eq_true rfl, Nat.le_of_ble_eq_true rfl⟩ rfl ((wC_len _).trans (wC_len _).symm) rfl rfl ?_
  have hw1 := LWp_c hw ((loadC S o q (xs (i + 1)) (xs (i + 2))).2)
  show g 69 3053 (xSet θ isC ((wC ((loadC S o q (xs (i + 1)) (xs (i + 2))).2)).map (xEr (xS isC θ.length)))) 477 [some (.ref 1000000), some (.ref 0), some (.ref 55), some (.int (nI i))] [.int ((loadC S o q (xs (i + 1)) (xs (i + 2))).1)]
  generalize xSet θ isC ((wC ((loadC S o q (xs (i + 1)) (xs (i + 2))).2)).map (xEr (xS isC θ.length))) = θ1 at hw1 ⊢
  refine r_aload_n (pc := 477) C.sem dL_law_477 rfl rfl ?_
  refine r_aload_n (pc := 478) C.sem dL_law_478 rfl rfl ?_
  refine r_iload_n (pc := 479) C.sem dL_law_479 rfl rfl ?_
  refine r_iconst (pc := 480) (v := 1) C.sem dL_law_480 (by decide) ?_
  refine r_iadd (pc := 481) C.sem dL_law_481 ?_
  refine r_sld (pc := 482) C (i + 1) dL_law_482 (nI_sum (m := i) (n := 1) rfl rfl) (by omega) (by omega) (by have := hw1.1; omega) ?_
  refine r_aload_n (pc := 483) C.sem dL_law_483 rfl rfl ?_
  refine r_iload_n (pc := 484) C.sem dL_law_484 rfl rfl ?_
  refine r_iconst (pc := 485) (v := 2) C.sem dL_law_485 (by decide) ?_
  refine r_iadd (pc := 486) C.sem dL_law_486 ?_
  refine r_sld (pc := 487) C (i + 2) dL_law_487 (nI_sum (m := i) (n := 2) rfl rfl) (by omega) (by omega) (by have := hw1.1; omega) ?_
  obtain ⟨fs1, hf1⟩ := LWp_m0 hw1
  refine r_callVD (pc := 488) (b := 55) (b' := 0) (As := [.int (xs (i + 1)), .int (xs (i + 2))]) (st := [.int ((loadC S o q (xs (i + 1)) (xs (i + 2))).1)]) (r2 := some (.int ((loadM M q (xs (i + 1)) (xs (i + 2))).1))) C.sem isM (c_X6_load M (xs (i + 1)) (xs (i + 2)) z (rp_M h) q h.2.1.2.1 (rp_A h).2.2.2) xm_X6_load xk_L_57 dL_law_488 (LWp_mT hw1) isM_nd rfl hf1 rfl rfl rfl (Nat.le_of_ble_eq_true rfl) ⟨Nat.le_of_ble_eq_true rfl, Nat.le_of_ble_eq_true rfl⟩ ⟨rfl, rfl⟩ ⟨Nat.le_of_ble_eq_true rfl, Nat.le_of_ble_eq_true rfl⟩ rfl ((wM_len _).trans (wM_len _).symm) rfl rfl ?_
  have hw2 := LWp_m hw1 ((loadM M q (xs (i + 1)) (xs (i + 2))).2)
  show g 69 3053 (xSet θ1 isM ((wM ((loadM M q (xs (i + 1)) (xs (i + 2))).2)).map (xEr (xS isM θ1.length)))) 491 [some (.ref 1000000), some (.ref 0), some (.ref 55), some (.int (nI i))] [.int ((loadM M q (xs (i + 1)) (xs (i + 2))).1), .int ((loadC S o q (xs (i + 1)) (xs (i + 2))).1)]
  generalize xSet θ1 isM ((wM ((loadM M q (xs (i + 1)) (xs (i + 2))).2)).map (xEr (xS isM θ1.length))) = θ2 at hw2 ⊢
  refine r_icmp_eq (pc := 491) (tgt := 1222) C.sem dL_law_491 (by decide) (fun _ => ?_) (fun hne => absurd hrel.1 hne)
  exact kk _ _ _ hw2 hrel.2
set_option maxHeartbeats 1000000 in
set_option maxRecDepth 100000 in
theorem law_cord {L : Nat} {xs : Nat → Int32} {nm : String} {g : Nat → Nat → List xE → Nat → List (Option Value) → List Value → Prop} (C : SemL room_1 L xs nm g) (hL : L ≤ 384) (i : Nat) (hi : i + 6 ≤ L) (θ : List xE) (S : Nat → Nat → Nat → Int32) (M : Nat → Nat → Int32) (hw : LWp θ S M) (hR : Rel S M) (kk : ∀ (θ' : List xE) (S' : Nat → Nat → Nat → Int32) (M' : Nat → Nat → Int32), LWp θ' S' M' → Rel S' M' → g 69 3053 θ' 1222 [some (.ref 1000000), some (.ref 0), some (.ref 55), some (.int (nI i))] []) : g 69 3053 θ 496 [some (.ref 1000000), some (.ref 0), some (.ref 55), some (.int (nI i))] [] := by
  obtain ⟨z, o, q, ln, tr, h⟩ := hR
  have hrel := rel_cord h (xs (i + 1)) (xs (i + 2))
  refine r_aload_n (pc := 496) C.sem dL_law_496 rfl rfl ?_
  refine r_aload_n (pc := 497) C.sem dL_law_497 rfl rfl ?_
  refine r_iload_n (pc := 498) C.sem dL_law_498 rfl rfl ?_
  refine r_iconst (pc := 499) (v := 1) C.sem dL_law_499 (by decide) ?_
  refine r_iadd (pc := 500) C.sem dL_law_500 ?_
  refine r_sld (pc := 501) C (i + 1) dL_law_501 (nI_sum (m := i) (n := 1) rfl rfl) (by omega) (by omega) (by have := hw.1; omega) ?_
  refine r_aload_n (pc := 502) C.sem dL_law_502 rfl rfl ?_
  refine r_iload_n (pc := 503) C.sem dL_law_503 rfl rfl ?_
  refine r_iconst (pc := 504) (v := 2) C.sem dL_law_504 (by decide) ?_
  refine r_iadd (pc := 505) C.sem dL_law_505 ?_
  refine r_sld (pc := 506) C (i + 2) dL_law_506 (nI_sum (m := i) (n := 2) rfl rfl) (by omega) (by omega) (by have := hw.1; omega) ?_
  refine r_callVD (pc := 507) (b := 0) (b' := 0) (As := [.int (xs (i + 1)), .int (xs (i + 2))]) (st := []) (r2 := some (.int ((cordC S o q (xs (i + 1)) (xs (i + 2))).1))) C.sem isC (c_X5_cord S (xs (i + 1)) (xs (i + 2)) z (rp_S h) o q (rp_A h)) xm_X5_cord xk_L_58 dL_law_507 (LWp_cT hw) isC_nd rfl (LWp_c0 hw) rfl rfl rfl (Nat.le_of_ble_eq_true rfl) ⟨Nat.le_of_ble_eq_true rfl, Nat.le_of_ble_eq_true rfl⟩ ⟨rfl, rfl⟩ ⟨Nat.le_of_ble_eq_true rfl, Nat.le_of_ble_eq_true rfl⟩ rfl ((wC_len _).trans (wC_len _).symm) rfl rfl ?_
  have hw1 := LWp_c hw ((cordC S o q (xs (i + 1)) (xs (i + 2))).2)
  show g 69 3053 (xSet θ isC ((wC ((cordC S o q (xs (i + 1)) (xs (i + 2))).2)).map (xEr (xS isC θ.length)))) 510 [some (.ref 1000000), some (.ref 0), some (.ref 55), some (.int (nI i))] [.int ((cordC S o q (xs (i + 1)) (xs (i + 2))).1)]
  generalize xSet θ isC ((wC ((cordC S o q (xs (i + 1)) (xs (i + 2))).2)).map (xEr (xS isC θ.length))) = θ1 at hw1 ⊢
  refine r_aload_n (pc := 510) C.sem dL_law_510 rfl rfl ?_
  refine r_aload_n (pc := 511) C.sem dL_law_511 rfl rfl ?_
  refine r_iload_n (pc := 512) C.sem dL_law_512 rfl rfl ?_
  refine r_iconst (pc := 513) (v := 1) C.sem dL_law_513 (by decide) ?_
  refine r_iadd (pc := 514) C.sem dL_law_514 ?_
  refine r_sld (pc := 515) C (i + 1) dL_law_515 (nI_sum (m := i) (n := 1) rfl rfl) (by omega) (by omega) (by have := hw1.1; omega) ?_
  refine r_aload_n (pc := 516) C.sem dL_law_516 rfl rfl ?_
  refine r_iload_n (pc := 517) C.sem dL_law_517 rfl rfl ?_
  refine r_iconst (pc := 518) (v := 2) C.sem dL_law_518 (by decide) ?_
  refine r_iadd (pc := 519) C.sem dL_law_519 ?_
  refine r_sld (pc := 520) C (i + 2) dL_law_520 (nI_sum (m := i) (n := 2) rfl rfl) (by omega) (by omega) (by have := hw1.1; omega) ?_
  obtain ⟨fs1, hf1⟩ := LWp_m0 hw1
  refine r_callVD (pc := 521) (b := 55) (b' := 0) (As := [.int (xs (i + 1)), .int (xs (i + 2))]) (st := [.int ((cordC S o q (xs (i + 1)) (xs (i + 2))).1)]) (r2 := some (.int ((cordM M q (xs (i + 1)) (xs (i + 2))).1))) C.sem isM (c_X6_cord M (xs (i + 1)) (xs (i + 2)) z (rp_M h) q h.2.1.2.1 (rp_A h).2.2.2) xm_X6_cord xk_L_61 dL_law_521 (LWp_mT hw1) isM_nd rfl hf1 rfl rfl rfl (Nat.le_of_ble_eq_true rfl) ⟨Nat.le_of_ble_eq_true rfl, Nat.le_of_ble_eq_true rfl⟩ ⟨rfl, rfl⟩ ⟨Nat.le_of_ble_eq_true rfl, Nat.le_of_ble_eq_true rfl⟩ rfl ((wM_len _).trans (wM_len _).symm) rfl rfl ?_
  have hw2 := LWp_m hw1 ((cordM M q (xs (i + 1)) (xs (i + 2))).2)
  show g 69 3053 (xSet θ1 isM ((wM ((cordM M q (xs (i + 1)) (xs (i + 2))).2)).map (xEr (xS isM θ1.length)))) 524 [some (.ref 1000000), some (.ref 0), some (.ref 55), some (.int (nI i))] [.int ((cordM M q (xs (i + 1)) (xs (i + 2))).1), .int ((cordC S o q (xs (i + 1)) (xs (i + 2))).1)]
  generalize xSet θ1 isM ((wM ((cordM M q (xs (i + 1)) (xs (i + 2))).2)).map (xEr (xS isM θ1.length))) = θ2 at hw2 ⊢
  refine r_icmp_eq (pc := 524) (tgt := 1222) C.sem dL_law_524 (by decide) (fun _ => ?_) (fun hne => absurd hrel.1 hne)
  exact kk _ _ _ hw2 hrel.2
set_option maxHeartbeats 1000000 in
set_option maxRecDepth 100000 in
theorem law_undo {L : Nat} {xs : Nat → Int32} {nm : String} {g : Nat → Nat → List xE → Nat → List (Option Value) → List Value → Prop} (C : SemL room_1 L xs nm g) (hL : L ≤ 384) (i : Nat) (hi : i + 6 ≤ L) (θ : List xE) (S : Nat → Nat → Nat → Int32) (M : Nat → Nat → Int32) (hw : LWp θ S M) (hR : Rel S M) (kk : ∀ (θ' : List xE) (S' : Nat → Nat → Nat → Int32) (M' : Nat → Nat → Int32), LWp θ' S' M' → Rel S' M' → g 69 3053 θ' 1222 [some (.ref 1000000), some (.ref 0), some (.ref 55), some (.int (nI i))] []) : g 69 3053 θ 529 [some (.ref 1000000), some (.ref 0), some (.ref 55), some (.int (nI i))] [] := by
  obtain ⟨z, o, q, ln, tr, h⟩ := hR
  rcases Nat.eq_zero_or_pos q with hq0 | hq0
  · subst hq0
    refine r_aload_n (pc := 529) C.sem dL_law_529 rfl rfl ?_
    refine r_callVD (pc := 530) (b := 0) (b' := 0) (As := []) (st := []) (r2 := some (.int ((-1000002)))) C.sem isC (c_X5_undo_0 S (rp_A h).2.2.1) xm_X5_undo xk_L_62 dL_law_530 (LWp_cT hw) isC_nd rfl (LWp_c0 hw) rfl rfl rfl (Nat.le_of_ble_eq_true rfl) ⟨Nat.le_of_ble_eq_true rfl, Nat.le_of_ble_eq_true rfl⟩ ⟨rfl, rfl⟩ ⟨Nat.le_of_ble_eq_true rfl, Nat.le_of_ble_eq_true rfl⟩ rfl ((wC_len _).trans (wC_len _).symm) rfl rfl ?_
    have hw1 := LWp_c hw (S)
    show g 69 3053 (xSet θ isC ((wC (S)).map (xEr (xS isC θ.length)))) 533 [some (.ref 1000000), some (.ref 0), some (.ref 55), some (.int (nI i))] [.int ((-1000002))]
    generalize xSet θ isC ((wC (S)).map (xEr (xS isC θ.length))) = θ1 at hw1 ⊢
    refine r_aload_n (pc := 533) C.sem dL_law_533 rfl rfl ?_
    obtain ⟨fs1, hf1⟩ := LWp_m0 hw1
    refine r_callVD (pc := 534) (b := 55) (b' := 0) (As := []) (st := [.int ((-1000002))]) (r2 := some (.int ((-1000002)))) C.sem isM (c_X6_undo_0 M h.2.1.2.1) xm_X6_undo xk_L_65 dL_law_534 (LWp_mT hw1) isM_nd rfl hf1 rfl rfl rfl (Nat.le_of_ble_eq_true rfl) ⟨Nat.le_of_ble_eq_true rfl, Nat.le_of_ble_eq_true rfl⟩ ⟨rfl, rfl⟩ ⟨Nat.le_of_ble_eq_true rfl, Nat.le_of_ble_eq_true rfl⟩ rfl ((wM_len _).trans (wM_len _).symm) rfl rfl ?_
    have hw2 := LWp_m hw1 (M)
    show g 69 3053 (xSet θ1 isM ((wM (M)).map (xEr (xS isM θ1.length)))) 537 [some (.ref 1000000), some (.ref 0), some (.ref 55), some (.int (nI i))] [.int ((-1000002)), .int ((-1000002))]
    generalize xSet θ1 isM ((wM (M)).map (xEr (xS isM θ1.length))) = θ2 at hw2 ⊢
    refine r_icmp_eq (pc := 537) (tgt := 1222) C.sem dL_law_537 (by decide) (fun _ => ?_) (fun hne => absurd rfl hne)
    exact kk _ _ _ hw2 ⟨z, o, 0, ln, tr, h⟩
  · obtain ⟨⟨j, hj6, hj⟩, -⟩ := h.2.1.2.2 0 hq0
    have hrel := rel_undo h hq0 j hj hj6
    refine r_aload_n (pc := 529) C.sem dL_law_529 rfl rfl ?_
    refine r_callVD (pc := 530) (b := 0) (b' := 0) (As := []) (st := []) (r2 := some (.int (nI (q - 1)))) C.sem isC (c_X5_undo S o q (rp_A h) hq0 j hj hj6) xm_X5_undo xk_L_62 dL_law_530 (LWp_cT hw) isC_nd rfl (LWp_c0 hw) rfl rfl rfl (Nat.le_of_ble_eq_true rfl) ⟨Nat.le_of_ble_eq_true rfl, Nat.le_of_ble_eq_true rfl⟩ ⟨rfl, rfl⟩ ⟨Nat.le_of_ble_eq_true rfl, Nat.le_of_ble_eq_true rfl⟩ rfl ((wC_len _).trans (wC_len _).symm) rfl rfl ?_
    have hw1 := LWp_c hw ((up3 (up3 S 2 (tbS (S 2) (S 6 0 ((o + (q - 1)) % 24)) j (S 6 2 ((o + (q - 1)) % 24)) (S 6 3 ((o + (q - 1)) % 24)))) 6 (up2 (S 6) 5 (k1 (nI (q - 1))))))
    show g 69 3053 (xSet θ isC ((wC ((up3 (up3 S 2 (tbS (S 2) (S 6 0 ((o + (q - 1)) % 24)) j (S 6 2 ((o + (q - 1)) % 24)) (S 6 3 ((o + (q - 1)) % 24)))) 6 (up2 (S 6) 5 (k1 (nI (q - 1))))))).map (xEr (xS isC θ.length)))) 533 [some (.ref 1000000), some (.ref 0), some (.ref 55), some (.int (nI i))] [.int (nI (q - 1))]
    generalize xSet θ isC ((wC ((up3 (up3 S 2 (tbS (S 2) (S 6 0 ((o + (q - 1)) % 24)) j (S 6 2 ((o + (q - 1)) % 24)) (S 6 3 ((o + (q - 1)) % 24)))) 6 (up2 (S 6) 5 (k1 (nI (q - 1))))))).map (xEr (xS isC θ.length))) = θ1 at hw1 ⊢
    refine r_aload_n (pc := 533) C.sem dL_law_533 rfl rfl ?_
    obtain ⟨fs1, hf1⟩ := LWp_m0 hw1
    refine r_callVD (pc := 534) (b := 55) (b' := 0) (As := []) (st := [.int (nI (q - 1))]) (r2 := some (.int (nI (q - 1)))) C.sem isM (c_X6_undo M q h.2.1.2.1 hq0 (rp_A h).2.2.2) xm_X6_undo xk_L_65 dL_law_534 (LWp_mT hw1) isM_nd rfl hf1 rfl rfl rfl (Nat.le_of_ble_eq_true rfl) ⟨Nat.le_of_ble_eq_true rfl, Nat.le_of_ble_eq_true rfl⟩ ⟨rfl, rfl⟩ ⟨Nat.le_of_ble_eq_true rfl, Nat.le_of_ble_eq_true rfl⟩ rfl ((wM_len _).trans (wM_len _).symm) rfl rfl ?_
    have hw2 := LWp_m hw1 ((up2 (up2 M 8 (k1 (nI (q - 1)))) 4 (va_cpy (M 7) (M 4) (36 * (q - 1)) 0 36)))
    show g 69 3053 (xSet θ1 isM ((wM ((up2 (up2 M 8 (k1 (nI (q - 1)))) 4 (va_cpy (M 7) (M 4) (36 * (q - 1)) 0 36)))).map (xEr (xS isM θ1.length)))) 537 [some (.ref 1000000), some (.ref 0), some (.ref 55), some (.int (nI i))] [.int (nI (q - 1)), .int (nI (q - 1))]
    generalize xSet θ1 isM ((wM ((up2 (up2 M 8 (k1 (nI (q - 1)))) 4 (va_cpy (M 7) (M 4) (36 * (q - 1)) 0 36)))).map (xEr (xS isM θ1.length))) = θ2 at hw2 ⊢
    refine r_icmp_eq (pc := 537) (tgt := 1222) C.sem dL_law_537 (by decide) (fun _ => ?_) (fun hne => absurd rfl hne)
    exact kk _ _ _ hw2 hrel
set_option maxHeartbeats 1000000 in
set_option maxRecDepth 100000 in
theorem law_hammock {L : Nat} {xs : Nat → Int32} {nm : String} {g : Nat → Nat → List xE → Nat → List (Option Value) → List Value → Prop} (C : SemL room_1 L xs nm g) (hL : L ≤ 384) (i : Nat) (hi : i + 6 ≤ L) (θ : List xE) (S : Nat → Nat → Nat → Int32) (M : Nat → Nat → Int32) (hw : LWp θ S M) (hR : Rel S M) (kk : ∀ (θ' : List xE) (S' : Nat → Nat → Nat → Int32) (M' : Nat → Nat → Int32), LWp θ' S' M' → Rel S' M' → g 69 3053 θ' 1222 [some (.ref 1000000), some (.ref 0), some (.ref 55), some (.int (nI i))] []) : g 69 3053 θ 542 [some (.ref 1000000), some (.ref 0), some (.ref 55), some (.int (nI i))] [] := by
  obtain ⟨z, o, q, ln, tr, h⟩ := hR
  have hrel := rel_hammock h (xs (i + 1)) (xs (i + 2))
  refine r_aload_n (pc := 542) C.sem dL_law_542 rfl rfl ?_
  refine r_aload_n (pc := 543) C.sem dL_law_543 rfl rfl ?_
  refine r_iload_n (pc := 544) C.sem dL_law_544 rfl rfl ?_
  refine r_iconst (pc := 545) (v := 1) C.sem dL_law_545 (by decide) ?_
  refine r_iadd (pc := 546) C.sem dL_law_546 ?_
  refine r_sld (pc := 547) C (i + 1) dL_law_547 (nI_sum (m := i) (n := 1) rfl rfl) (by omega) (by omega) (by have := hw.1; omega) ?_
  refine r_aload_n (pc := 548) C.sem dL_law_548 rfl rfl ?_
  refine r_iload_n (pc := 549) C.sem dL_law_549 rfl rfl ?_
  refine r_iconst (pc := 550) (v := 2) C.sem dL_law_550 (by decide) ?_
  refine r_iadd (pc := 551) C.sem dL_law_551 ?_
  refine r_sld (pc := 552) C (i + 2) dL_law_552 (nI_sum (m := i) (n := 2) rfl rfl) (by omega) (by omega) (by have := hw.1; omega) ?_
  refine r_callVD (pc := 553) (b := 0) (b' := 0) (As := [.int (xs (i + 1)), .int (xs (i + 2))]) (st := []) (r2 := some (.int (hamC S (xs (i + 1)) (xs (i + 2))))) C.sem isC (c_X5_hammock S (xs (i + 1)) (xs (i + 2)) z (rp_S h)) xm_X5_hammock xk_L_66 dL_law_553 (LWp_cT hw) isC_nd rfl (LWp_c0 hw) rfl rfl rfl (Nat.le_of_ble_eq_true rfl) ⟨Nat.le_of_ble_eq_true rfl, Nat.le_of_ble_eq_true rfl⟩ ⟨rfl, rfl⟩ ⟨Nat.le_of_ble_eq_true rfl, Nat.le_of_ble_eq_true rfl⟩ rfl ((wC_len _).trans (wC_len _).symm) rfl rfl ?_
  have hw1 := LWp_c hw (S)
  show g 69 3053 (xSet θ isC ((wC (S)).map (xEr (xS isC θ.length)))) 556 [some (.ref 1000000), some (.ref 0), some (.ref 55), some (.int (nI i))] [.int (hamC S (xs (i + 1)) (xs (i + 2)))]
  generalize xSet θ isC ((wC (S)).map (xEr (xS isC θ.length))) = θ1 at hw1 ⊢
  refine r_aload_n (pc := 556) C.sem dL_law_556 rfl rfl ?_
  refine r_aload_n (pc := 557) C.sem dL_law_557 rfl rfl ?_
  refine r_iload_n (pc := 558) C.sem dL_law_558 rfl rfl ?_
  refine r_iconst (pc := 559) (v := 1) C.sem dL_law_559 (by decide) ?_
  refine r_iadd (pc := 560) C.sem dL_law_560 ?_
  refine r_sld (pc := 561) C (i + 1) dL_law_561 (nI_sum (m := i) (n := 1) rfl rfl) (by omega) (by omega) (by have := hw1.1; omega) ?_
  refine r_aload_n (pc := 562) C.sem dL_law_562 rfl rfl ?_
  refine r_iload_n (pc := 563) C.sem dL_law_563 rfl rfl ?_
  refine r_iconst (pc := 564) (v := 2) C.sem dL_law_564 (by decide) ?_
  refine r_iadd (pc := 565) C.sem dL_law_565 ?_
  refine r_sld (pc := 566) C (i + 2) dL_law_566 (nI_sum (m := i) (n := 2) rfl rfl) (by omega) (by omega) (by have := hw1.1; omega) ?_
  obtain ⟨fs1, hf1⟩ := LWp_m0 hw1
  refine r_callVD (pc := 567) (b := 55) (b' := 0) (As := [.int (xs (i + 1)), .int (xs (i + 2))]) (st := [.int (hamC S (xs (i + 1)) (xs (i + 2)))]) (r2 := some (.int ((hamM M (xs (i + 1)) (xs (i + 2))).1))) C.sem isM (c_X6_hammock M (xs (i + 1)) (xs (i + 2)) z (rp_M h)) xm_X6_hammock xk_L_69 dL_law_567 (LWp_mT hw1) isM_nd rfl hf1 rfl rfl rfl (Nat.le_of_ble_eq_true rfl) ⟨Nat.le_of_ble_eq_true rfl, Nat.le_of_ble_eq_true rfl⟩ ⟨rfl, rfl⟩ ⟨Nat.le_of_ble_eq_true rfl, Nat.le_of_ble_eq_true rfl⟩ rfl ((wM_len _).trans (wM_len _).symm) rfl rfl ?_
  have hw2 := LWp_m hw1 ((hamM M (xs (i + 1)) (xs (i + 2))).2)
  show g 69 3053 (xSet θ1 isM ((wM ((hamM M (xs (i + 1)) (xs (i + 2))).2)).map (xEr (xS isM θ1.length)))) 570 [some (.ref 1000000), some (.ref 0), some (.ref 55), some (.int (nI i))] [.int ((hamM M (xs (i + 1)) (xs (i + 2))).1), .int (hamC S (xs (i + 1)) (xs (i + 2)))]
  generalize xSet θ1 isM ((wM ((hamM M (xs (i + 1)) (xs (i + 2))).2)).map (xEr (xS isM θ1.length))) = θ2 at hw2 ⊢
  refine r_icmp_eq (pc := 570) (tgt := 1222) C.sem dL_law_570 (by decide) (fun _ => ?_) (fun hne => absurd hrel.1 hne)
  exact kk _ _ _ hw2 hrel.2
set_option maxHeartbeats 1000000 in
set_option maxRecDepth 100000 in
theorem law_ahead {L : Nat} {xs : Nat → Int32} {nm : String} {g : Nat → Nat → List xE → Nat → List (Option Value) → List Value → Prop} (C : SemL room_1 L xs nm g) (hL : L ≤ 384) (i : Nat) (hi : i + 6 ≤ L) (θ : List xE) (S : Nat → Nat → Nat → Int32) (M : Nat → Nat → Int32) (hw : LWp θ S M) (hR : Rel S M) (kk : ∀ (θ' : List xE) (S' : Nat → Nat → Nat → Int32) (M' : Nat → Nat → Int32), LWp θ' S' M' → Rel S' M' → g 69 3053 θ' 1222 [some (.ref 1000000), some (.ref 0), some (.ref 55), some (.int (nI i))] []) : g 69 3053 θ 575 [some (.ref 1000000), some (.ref 0), some (.ref 55), some (.int (nI i))] [] := by
  obtain ⟨z, o, q, ln, tr, h⟩ := hR
  have hrel := rel_ahead h (xs (i + 1)) (xs (i + 2)) (xs (i + 3))
  refine r_aload_n (pc := 575) C.sem dL_law_575 rfl rfl ?_
  refine r_aload_n (pc := 576) C.sem dL_law_576 rfl rfl ?_
  refine r_iload_n (pc := 577) C.sem dL_law_577 rfl rfl ?_
  refine r_iconst (pc := 578) (v := 1) C.sem dL_law_578 (by decide) ?_
  refine r_iadd (pc := 579) C.sem dL_law_579 ?_
  refine r_sld (pc := 580) C (i + 1) dL_law_580 (nI_sum (m := i) (n := 1) rfl rfl) (by omega) (by omega) (by have := hw.1; omega) ?_
  refine r_aload_n (pc := 581) C.sem dL_law_581 rfl rfl ?_
  refine r_iload_n (pc := 582) C.sem dL_law_582 rfl rfl ?_
  refine r_iconst (pc := 583) (v := 2) C.sem dL_law_583 (by decide) ?_
  refine r_iadd (pc := 584) C.sem dL_law_584 ?_
  refine r_sld (pc := 585) C (i + 2) dL_law_585 (nI_sum (m := i) (n := 2) rfl rfl) (by omega) (by omega) (by have := hw.1; omega) ?_
  refine r_aload_n (pc := 586) C.sem dL_law_586 rfl rfl ?_
  refine r_iload_n (pc := 587) C.sem dL_law_587 rfl rfl ?_
  refine r_iconst (pc := 588) (v := 3) C.sem dL_law_588 (by decide) ?_
  refine r_iadd (pc := 589) C.sem dL_law_589 ?_
  refine r_sld (pc := 590) C (i + 3) dL_law_590 (nI_sum (m := i) (n := 3) rfl rfl) (by omega) (by omega) (by have := hw.1; omega) ?_
  refine r_callVD (pc := 591) (b := 0) (b' := 0) (As := [.int (xs (i + 1)), .int (xs (i + 2)), .int (xs (i + 3))]) (st := []) (r2 := some (.int (aheadC S (xs (i + 1)) (xs (i + 2)) (xs (i + 3))))) C.sem isC (c_X5_ahead S (xs (i + 1)) (xs (i + 2)) (xs (i + 3)) z (rp_S h)) xm_X5_ahead xk_L_70 dL_law_591 (LWp_cT hw) isC_nd rfl (LWp_c0 hw) rfl rfl rfl (Nat.le_of_ble_eq_true rfl) ⟨Nat.le_of_ble_eq_true rfl, Nat.le_of_ble_eq_true rfl⟩ ⟨rfl, rfl⟩ ⟨Nat.le_of_ble_eq_true rfl, Nat.le_of_ble_eq_true rfl⟩ rfl ((wC_len _).trans (wC_len _).symm) rfl rfl ?_
  have hw1 := LWp_c hw (S)
  show g 69 3053 (xSet θ isC ((wC (S)).map (xEr (xS isC θ.length)))) 594 [some (.ref 1000000), some (.ref 0), some (.ref 55), some (.int (nI i))] [.int (aheadC S (xs (i + 1)) (xs (i + 2)) (xs (i + 3)))]
  generalize xSet θ isC ((wC (S)).map (xEr (xS isC θ.length))) = θ1 at hw1 ⊢
  refine r_aload_n (pc := 594) C.sem dL_law_594 rfl rfl ?_
  refine r_aload_n (pc := 595) C.sem dL_law_595 rfl rfl ?_
  refine r_iload_n (pc := 596) C.sem dL_law_596 rfl rfl ?_
  refine r_iconst (pc := 597) (v := 1) C.sem dL_law_597 (by decide) ?_
  refine r_iadd (pc := 598) C.sem dL_law_598 ?_
  refine r_sld (pc := 599) C (i + 1) dL_law_599 (nI_sum (m := i) (n := 1) rfl rfl) (by omega) (by omega) (by have := hw1.1; omega) ?_
  refine r_aload_n (pc := 600) C.sem dL_law_600 rfl rfl ?_
  refine r_iload_n (pc := 601) C.sem dL_law_601 rfl rfl ?_
  refine r_iconst (pc := 602) (v := 2) C.sem dL_law_602 (by decide) ?_
  refine r_iadd (pc := 603) C.sem dL_law_603 ?_
  refine r_sld (pc := 604) C (i + 2) dL_law_604 (nI_sum (m := i) (n := 2) rfl rfl) (by omega) (by omega) (by have := hw1.1; omega) ?_
  refine r_aload_n (pc := 605) C.sem dL_law_605 rfl rfl ?_
  refine r_iload_n (pc := 606) C.sem dL_law_606 rfl rfl ?_
  refine r_iconst (pc := 607) (v := 3) C.sem dL_law_607 (by decide) ?_
  refine r_iadd (pc := 608) C.sem dL_law_608 ?_
  refine r_sld (pc := 609) C (i + 3) dL_law_609 (nI_sum (m := i) (n := 3) rfl rfl) (by omega) (by omega) (by have := hw1.1; omega) ?_
  obtain ⟨fs1, hf1⟩ := LWp_m0 hw1
  refine r_callVD (pc := 610) (b := 55) (b' := 0) (As := [.int (xs (i + 1)), .int (xs (i + 2)), .int (xs (i + 3))]) (st := [.int (aheadC S (xs (i + 1)) (xs (i + 2)) (xs (i + 3)))]) (r2 := some (.int (aheadM M (xs (i + 1)) (xs (i + 2)) (xs (i + 3))))) C.sem isM (c_X6_ahead M (xs (i + 1)) (xs (i + 2)) (xs (i + 3)) z (rp_M h)) xm_X6_ahead xk_L_73 dL_law_610 (LWp_mT hw1) isM_nd rfl hf1 rfl rfl rfl (Nat.le_of_ble_eq_true rfl) ⟨Nat.le_of_ble_eq_true rfl, Nat.le_of_ble_eq_true rfl⟩ ⟨rfl, rfl⟩ ⟨Nat.le_of_ble_eq_true rfl, Nat.le_of_ble_eq_true rfl⟩ rfl ((wM_len _).trans (wM_len _).symm) rfl rfl ?_
  have hw2 := LWp_m hw1 (M)
  show g 69 3053 (xSet θ1 isM ((wM (M)).map (xEr (xS isM θ1.length)))) 613 [some (.ref 1000000), some (.ref 0), some (.ref 55), some (.int (nI i))] [.int (aheadM M (xs (i + 1)) (xs (i + 2)) (xs (i + 3))), .int (aheadC S (xs (i + 1)) (xs (i + 2)) (xs (i + 3)))]
  generalize xSet θ1 isM ((wM (M)).map (xEr (xS isM θ1.length))) = θ2 at hw2 ⊢
  refine r_icmp_eq (pc := 613) (tgt := 1222) C.sem dL_law_613 (by decide) (fun _ => ?_) (fun hne => absurd hrel.1 hne)
  exact kk _ _ _ hw2 hrel.2
set_option maxHeartbeats 1000000 in
set_option maxRecDepth 100000 in
theorem law_down {L : Nat} {xs : Nat → Int32} {nm : String} {g : Nat → Nat → List xE → Nat → List (Option Value) → List Value → Prop} (C : SemL room_1 L xs nm g) (hL : L ≤ 384) (i : Nat) (hi : i + 6 ≤ L) (θ : List xE) (S : Nat → Nat → Nat → Int32) (M : Nat → Nat → Int32) (hw : LWp θ S M) (hR : Rel S M) (kk : ∀ (θ' : List xE) (S' : Nat → Nat → Nat → Int32) (M' : Nat → Nat → Int32), LWp θ' S' M' → Rel S' M' → g 69 3053 θ' 1222 [some (.ref 1000000), some (.ref 0), some (.ref 55), some (.int (nI i))] []) : g 69 3053 θ 618 [some (.ref 1000000), some (.ref 0), some (.ref 55), some (.int (nI i))] [] := by
  obtain ⟨z, o, q, ln, tr, h⟩ := hR
  have hrel := rel_down h (xs (i + 1))
  refine r_aload_n (pc := 618) C.sem dL_law_618 rfl rfl ?_
  refine r_aload_n (pc := 619) C.sem dL_law_619 rfl rfl ?_
  refine r_iload_n (pc := 620) C.sem dL_law_620 rfl rfl ?_
  refine r_iconst (pc := 621) (v := 1) C.sem dL_law_621 (by decide) ?_
  refine r_iadd (pc := 622) C.sem dL_law_622 ?_
  refine r_sld (pc := 623) C (i + 1) dL_law_623 (nI_sum (m := i) (n := 1) rfl rfl) (by omega) (by omega) (by have := hw.1; omega) ?_
  refine r_callVD (pc := 624) (b := 0) (b' := 0) (As := [.int (xs (i + 1))]) (st := []) (r2 := some (.int (downC S z (xs (i + 1))))) C.sem isC (c_X5_down S (xs (i + 1)) z (rp_S h)) xm_X5_down xk_L_74 dL_law_624 (LWp_cT hw) isC_nd rfl (LWp_c0 hw) rfl rfl rfl (Nat.le_of_ble_eq_true rfl) ⟨Nat.le_of_ble_eq_true rfl, Nat.le_of_ble_eq_true rfl⟩ ⟨rfl, rfl⟩ ⟨Nat.le_of_ble_eq_true rfl, Nat.le_of_ble_eq_true rfl⟩ rfl ((wC_len _).trans (wC_len _).symm) rfl rfl ?_
  have hw1 := LWp_c hw (S)
  show g 69 3053 (xSet θ isC ((wC (S)).map (xEr (xS isC θ.length)))) 627 [some (.ref 1000000), some (.ref 0), some (.ref 55), some (.int (nI i))] [.int (downC S z (xs (i + 1)))]
  generalize xSet θ isC ((wC (S)).map (xEr (xS isC θ.length))) = θ1 at hw1 ⊢
  refine r_aload_n (pc := 627) C.sem dL_law_627 rfl rfl ?_
  refine r_aload_n (pc := 628) C.sem dL_law_628 rfl rfl ?_
  refine r_iload_n (pc := 629) C.sem dL_law_629 rfl rfl ?_
  refine r_iconst (pc := 630) (v := 1) C.sem dL_law_630 (by decide) ?_
  refine r_iadd (pc := 631) C.sem dL_law_631 ?_
  refine r_sld (pc := 632) C (i + 1) dL_law_632 (nI_sum (m := i) (n := 1) rfl rfl) (by omega) (by omega) (by have := hw1.1; omega) ?_
  obtain ⟨fs1, hf1⟩ := LWp_m0 hw1
  refine r_callVD (pc := 633) (b := 55) (b' := 0) (As := [.int (xs (i + 1))]) (st := [.int (downC S z (xs (i + 1)))]) (r2 := some (.int (downM M z (xs (i + 1))))) C.sem isM (c_X6_down M (xs (i + 1)) z (rp_M h)) xm_X6_down xk_L_77 dL_law_633 (LWp_mT hw1) isM_nd rfl hf1 rfl rfl rfl (Nat.le_of_ble_eq_true rfl) ⟨Nat.le_of_ble_eq_true rfl, Nat.le_of_ble_eq_true rfl⟩ ⟨rfl, rfl⟩ ⟨Nat.le_of_ble_eq_true rfl, Nat.le_of_ble_eq_true rfl⟩ rfl ((wM_len _).trans (wM_len _).symm) rfl rfl ?_
  have hw2 := LWp_m hw1 (M)
  show g 69 3053 (xSet θ1 isM ((wM (M)).map (xEr (xS isM θ1.length)))) 636 [some (.ref 1000000), some (.ref 0), some (.ref 55), some (.int (nI i))] [.int (downM M z (xs (i + 1))), .int (downC S z (xs (i + 1)))]
  generalize xSet θ1 isM ((wM (M)).map (xEr (xS isM θ1.length))) = θ2 at hw2 ⊢
  refine r_icmp_eq (pc := 636) (tgt := 1222) C.sem dL_law_636 (by decide) (fun _ => ?_) (fun hne => absurd hrel.1 hne)
  exact kk _ _ _ hw2 hrel.2
set_option maxHeartbeats 1000000 in
set_option maxRecDepth 100000 in
theorem law_reach {L : Nat} {xs : Nat → Int32} {nm : String} {g : Nat → Nat → List xE → Nat → List (Option Value) → List Value → Prop} (C : SemL room_1 L xs nm g) (hL : L ≤ 384) (i : Nat) (hi : i + 6 ≤ L) (θ : List xE) (S : Nat → Nat → Nat → Int32) (M : Nat → Nat → Int32) (hw : LWp θ S M) (hR : Rel S M) (kk : ∀ (θ' : List xE) (S' : Nat → Nat → Nat → Int32) (M' : Nat → Nat → Int32), LWp θ' S' M' → Rel S' M' → g 69 3053 θ' 1222 [some (.ref 1000000), some (.ref 0), some (.ref 55), some (.int (nI i))] []) : g 69 3053 θ 641 [some (.ref 1000000), some (.ref 0), some (.ref 55), some (.int (nI i))] [] := by
  obtain ⟨z, o, q, ln, tr, h⟩ := hR
  have hrel := rel_reach h (xs (i + 1)) (xs (i + 2))
  refine r_aload_n (pc := 641) C.sem dL_law_641 rfl rfl ?_
  refine r_aload_n (pc := 642) C.sem dL_law_642 rfl rfl ?_
  refine r_iload_n (pc := 643) C.sem dL_law_643 rfl rfl ?_
  refine r_iconst (pc := 644) (v := 1) C.sem dL_law_644 (by decide) ?_
  refine r_iadd (pc := 645) C.sem dL_law_645 ?_
  refine r_sld (pc := 646) C (i + 1) dL_law_646 (nI_sum (m := i) (n := 1) rfl rfl) (by omega) (by omega) (by have := hw.1; omega) ?_
  refine r_aload_n (pc := 647) C.sem dL_law_647 rfl rfl ?_
  refine r_iload_n (pc := 648) C.sem dL_law_648 rfl rfl ?_
  refine r_iconst (pc := 649) (v := 2) C.sem dL_law_649 (by decide) ?_
  refine r_iadd (pc := 650) C.sem dL_law_650 ?_
  refine r_sld (pc := 651) C (i + 2) dL_law_651 (nI_sum (m := i) (n := 2) rfl rfl) (by omega) (by omega) (by have := hw.1; omega) ?_
  refine r_callVD (pc := 652) (b := 0) (b' := 0) (As := [.int (xs (i + 1)), .int (xs (i + 2))]) (st := []) (r2 := some (.int (reachC S z (xs (i + 1)) (xs (i + 2))))) C.sem isC (c_X5_reach S (xs (i + 1)) (xs (i + 2)) z (rp_S h)) xm_X5_reach xk_L_78 dL_law_652 (LWp_cT hw) isC_nd rfl (LWp_c0 hw) rfl rfl rfl (Nat.le_of_ble_eq_true rfl) ⟨Nat.le_of_ble_eq_true rfl, Nat.le_of_ble_eq_true rfl⟩ ⟨rfl, rfl⟩ ⟨Nat.le_of_ble_eq_true rfl, Nat.le_of_ble_eq_true rfl⟩ rfl ((wC_len _).trans (wC_len _).symm) rfl rfl ?_
  have hw1 := LWp_c hw (S)
  show g 69 3053 (xSet θ isC ((wC (S)).map (xEr (xS isC θ.length)))) 655 [some (.ref 1000000), some (.ref 0), some (.ref 55), some (.int (nI i))] [.int (reachC S z (xs (i + 1)) (xs (i + 2)))]
  generalize xSet θ isC ((wC (S)).map (xEr (xS isC θ.length))) = θ1 at hw1 ⊢
  refine r_aload_n (pc := 655) C.sem dL_law_655 rfl rfl ?_
  refine r_aload_n (pc := 656) C.sem dL_law_656 rfl rfl ?_
  refine r_iload_n (pc := 657) C.sem dL_law_657 rfl rfl ?_
  refine r_iconst (pc := 658) (v := 1) C.sem dL_law_658 (by decide) ?_
  refine r_iadd (pc := 659) C.sem dL_law_659 ?_
  refine r_sld (pc := 660) C (i + 1) dL_law_660 (nI_sum (m := i) (n := 1) rfl rfl) (by omega) (by omega) (by have := hw1.1; omega) ?_
  refine r_aload_n (pc := 661) C.sem dL_law_661 rfl rfl ?_
  refine r_iload_n (pc := 662) C.sem dL_law_662 rfl rfl ?_
  refine r_iconst (pc := 663) (v := 2) C.sem dL_law_663 (by decide) ?_
  refine r_iadd (pc := 664) C.sem dL_law_664 ?_
  refine r_sld (pc := 665) C (i + 2) dL_law_665 (nI_sum (m := i) (n := 2) rfl rfl) (by omega) (by omega) (by have := hw1.1; omega) ?_
  obtain ⟨fs1, hf1⟩ := LWp_m0 hw1
  refine r_callVD (pc := 666) (b := 55) (b' := 0) (As := [.int (xs (i + 1)), .int (xs (i + 2))]) (st := [.int (reachC S z (xs (i + 1)) (xs (i + 2)))]) (r2 := some (.int (reaM M z (xs (i + 1)) (xs (i + 2))))) C.sem isM (c_X6_reach M (xs (i + 1)) (xs (i + 2)) z (rp_M h)) xm_X6_reach xk_L_81 dL_law_666 (LWp_mT hw1) isM_nd rfl hf1 rfl rfl rfl (Nat.le_of_ble_eq_true rfl) ⟨Nat.le_of_ble_eq_true rfl, Nat.le_of_ble_eq_true rfl⟩ ⟨rfl, rfl⟩ ⟨Nat.le_of_ble_eq_true rfl, Nat.le_of_ble_eq_true rfl⟩ rfl ((wM_len _).trans (wM_len _).symm) rfl rfl ?_
  have hw2 := LWp_m hw1 (M)
  show g 69 3053 (xSet θ1 isM ((wM (M)).map (xEr (xS isM θ1.length)))) 669 [some (.ref 1000000), some (.ref 0), some (.ref 55), some (.int (nI i))] [.int (reaM M z (xs (i + 1)) (xs (i + 2))), .int (reachC S z (xs (i + 1)) (xs (i + 2)))]
  generalize xSet θ1 isM ((wM (M)).map (xEr (xS isM θ1.length))) = θ2 at hw2 ⊢
  refine r_icmp_eq (pc := 669) (tgt := 1222) C.sem dL_law_669 (by decide) (fun _ => ?_) (fun hne => absurd hrel.1 hne)
  exact kk _ _ _ hw2 hrel.2
set_option maxHeartbeats 1000000 in
set_option maxRecDepth 100000 in
theorem law_meet {L : Nat} {xs : Nat → Int32} {nm : String} {g : Nat → Nat → List xE → Nat → List (Option Value) → List Value → Prop} (C : SemL room_1 L xs nm g) (hL : L ≤ 384) (i : Nat) (hi : i + 6 ≤ L) (θ : List xE) (S : Nat → Nat → Nat → Int32) (M : Nat → Nat → Int32) (hw : LWp θ S M) (hR : Rel S M) (kk : ∀ (θ' : List xE) (S' : Nat → Nat → Nat → Int32) (M' : Nat → Nat → Int32), LWp θ' S' M' → Rel S' M' → g 69 3053 θ' 1222 [some (.ref 1000000), some (.ref 0), some (.ref 55), some (.int (nI i))] []) : g 69 3053 θ 674 [some (.ref 1000000), some (.ref 0), some (.ref 55), some (.int (nI i))] [] := by
  obtain ⟨z, o, q, ln, tr, h⟩ := hR
  have hrel := rel_meet h (xs (i + 1)) (xs (i + 2))
  refine r_aload_n (pc := 674) C.sem dL_law_674 rfl rfl ?_
  refine r_aload_n (pc := 675) C.sem dL_law_675 rfl rfl ?_
  refine r_iload_n (pc := 676) C.sem dL_law_676 rfl rfl ?_
  refine r_iconst (pc := 677) (v := 1) C.sem dL_law_677 (by decide) ?_
  refine r_iadd (pc := 678) C.sem dL_law_678 ?_
  refine r_sld (pc := 679) C (i + 1) dL_law_679 (nI_sum (m := i) (n := 1) rfl rfl) (by omega) (by omega) (by have := hw.1; omega) ?_
  refine r_aload_n (pc := 680) C.sem dL_law_680 rfl rfl ?_
  refine r_iload_n (pc := 681) C.sem dL_law_681 rfl rfl ?_
  refine r_iconst (pc := 682) (v := 2) C.sem dL_law_682 (by decide) ?_
  refine r_iadd (pc := 683) C.sem dL_law_683 ?_
  refine r_sld (pc := 684) C (i + 2) dL_law_684 (nI_sum (m := i) (n := 2) rfl rfl) (by omega) (by omega) (by have := hw.1; omega) ?_
  refine r_callVD (pc := 685) (b := 0) (b' := 0) (As := [.int (xs (i + 1)), .int (xs (i + 2))]) (st := []) (r2 := some (.int (meetC S (xs (i + 1)) (xs (i + 2))))) C.sem isC (c_X5_meet S (xs (i + 1)) (xs (i + 2)) z (rp_S h)) xm_X5_meet xk_L_82 dL_law_685 (LWp_cT hw) isC_nd rfl (LWp_c0 hw) rfl rfl rfl (Nat.le_of_ble_eq_true rfl) ⟨Nat.le_of_ble_eq_true rfl, Nat.le_of_ble_eq_true rfl⟩ ⟨rfl, rfl⟩ ⟨Nat.le_of_ble_eq_true rfl, Nat.le_of_ble_eq_true rfl⟩ rfl ((wC_len _).trans (wC_len _).symm) rfl rfl ?_
  have hw1 := LWp_c hw (S)
  show g 69 3053 (xSet θ isC ((wC (S)).map (xEr (xS isC θ.length)))) 688 [some (.ref 1000000), some (.ref 0), some (.ref 55), some (.int (nI i))] [.int (meetC S (xs (i + 1)) (xs (i + 2)))]
  generalize xSet θ isC ((wC (S)).map (xEr (xS isC θ.length))) = θ1 at hw1 ⊢
  refine r_aload_n (pc := 688) C.sem dL_law_688 rfl rfl ?_
  refine r_aload_n (pc := 689) C.sem dL_law_689 rfl rfl ?_
  refine r_iload_n (pc := 690) C.sem dL_law_690 rfl rfl ?_
  refine r_iconst (pc := 691) (v := 1) C.sem dL_law_691 (by decide) ?_
  refine r_iadd (pc := 692) C.sem dL_law_692 ?_
  refine r_sld (pc := 693) C (i + 1) dL_law_693 (nI_sum (m := i) (n := 1) rfl rfl) (by omega) (by omega) (by have := hw1.1; omega) ?_
  refine r_aload_n (pc := 694) C.sem dL_law_694 rfl rfl ?_
  refine r_iload_n (pc := 695) C.sem dL_law_695 rfl rfl ?_
  refine r_iconst (pc := 696) (v := 2) C.sem dL_law_696 (by decide) ?_
  refine r_iadd (pc := 697) C.sem dL_law_697 ?_
  refine r_sld (pc := 698) C (i + 2) dL_law_698 (nI_sum (m := i) (n := 2) rfl rfl) (by omega) (by omega) (by have := hw1.1; omega) ?_
  obtain ⟨fs1, hf1⟩ := LWp_m0 hw1
  refine r_callVD (pc := 699) (b := 55) (b' := 0) (As := [.int (xs (i + 1)), .int (xs (i + 2))]) (st := [.int (meetC S (xs (i + 1)) (xs (i + 2)))]) (r2 := some (.int ((meetM M (xs (i + 1)) (xs (i + 2))).1))) C.sem isM (c_X6_meet M (xs (i + 1)) (xs (i + 2)) z (rp_M h)) xm_X6_meet xk_L_85 dL_law_699 (LWp_mT hw1) isM_nd rfl hf1 rfl rfl rfl (Nat.le_of_ble_eq_true rfl) ⟨Nat.le_of_ble_eq_true rfl, Nat.le_of_ble_eq_true rfl⟩ ⟨rfl, rfl⟩ ⟨Nat.le_of_ble_eq_true rfl, Nat.le_of_ble_eq_true rfl⟩ rfl ((wM_len _).trans (wM_len _).symm) rfl rfl ?_
  have hw2 := LWp_m hw1 ((meetM M (xs (i + 1)) (xs (i + 2))).2)
  show g 69 3053 (xSet θ1 isM ((wM ((meetM M (xs (i + 1)) (xs (i + 2))).2)).map (xEr (xS isM θ1.length)))) 702 [some (.ref 1000000), some (.ref 0), some (.ref 55), some (.int (nI i))] [.int ((meetM M (xs (i + 1)) (xs (i + 2))).1), .int (meetC S (xs (i + 1)) (xs (i + 2)))]
  generalize xSet θ1 isM ((wM ((meetM M (xs (i + 1)) (xs (i + 2))).2)).map (xEr (xS isM θ1.length))) = θ2 at hw2 ⊢
  refine r_icmp_eq (pc := 702) (tgt := 1222) C.sem dL_law_702 (by decide) (fun _ => ?_) (fun hne => absurd hrel.1 hne)
  exact kk _ _ _ hw2 hrel.2
set_option maxHeartbeats 1000000 in
set_option maxRecDepth 100000 in
theorem law_soonest {L : Nat} {xs : Nat → Int32} {nm : String} {g : Nat → Nat → List xE → Nat → List (Option Value) → List Value → Prop} (C : SemL room_1 L xs nm g) (hL : L ≤ 384) (i : Nat) (hi : i + 6 ≤ L) (θ : List xE) (S : Nat → Nat → Nat → Int32) (M : Nat → Nat → Int32) (hw : LWp θ S M) (hR : Rel S M) (kk : ∀ (θ' : List xE) (S' : Nat → Nat → Nat → Int32) (M' : Nat → Nat → Int32), LWp θ' S' M' → Rel S' M' → g 69 3053 θ' 1222 [some (.ref 1000000), some (.ref 0), some (.ref 55), some (.int (nI i))] []) : g 69 3053 θ 707 [some (.ref 1000000), some (.ref 0), some (.ref 55), some (.int (nI i))] [] := by
  obtain ⟨z, o, q, ln, tr, h⟩ := hR
  have hrel := rel_soonest h (xs (i + 1)) (xs (i + 2))
  refine r_aload_n (pc := 707) C.sem dL_law_707 rfl rfl ?_
  refine r_aload_n (pc := 708) C.sem dL_law_708 rfl rfl ?_
  refine r_iload_n (pc := 709) C.sem dL_law_709 rfl rfl ?_
  refine r_iconst (pc := 710) (v := 1) C.sem dL_law_710 (by decide) ?_
  refine r_iadd (pc := 711) C.sem dL_law_711 ?_
  refine r_sld (pc := 712) C (i + 1) dL_law_712 (nI_sum (m := i) (n := 1) rfl rfl) (by omega) (by omega) (by have := hw.1; omega) ?_
  refine r_aload_n (pc := 713) C.sem dL_law_713 rfl rfl ?_
  refine r_iload_n (pc := 714) C.sem dL_law_714 rfl rfl ?_
  refine r_iconst (pc := 715) (v := 2) C.sem dL_law_715 (by decide) ?_
  refine r_iadd (pc := 716) C.sem dL_law_716 ?_
  refine r_sld (pc := 717) C (i + 2) dL_law_717 (nI_sum (m := i) (n := 2) rfl rfl) (by omega) (by omega) (by have := hw.1; omega) ?_
  refine r_callVE (pc := 718) (b := 0) (b' := 0) (As := [.int (xs (i + 1)), .int (xs (i + 2))]) (st := []) (r2 := some (.int (soonC S z (xs (i + 1)) (xs (i + 2))))) (θ2 := fun O => xSet θ isC ((wC (up3 S 7 O)).map (xEr (xS isC θ.length)))) C.sem isC (c_X5_soonest S (xs (i + 1)) (xs (i + 2)) z (rp_S h)) xm_X5_soonest xk_L_86 dL_law_718 (LWp_cT hw) isC_nd rfl (LWp_c0 hw) rfl rfl rfl (Nat.le_of_ble_eq_true rfl) ⟨Nat.le_of_ble_eq_true rfl, Nat.le_of_ble_eq_true rfl⟩ ⟨rfl, rfl⟩ ⟨Nat.le_of_ble_eq_true rfl, Nat.le_of_ble_eq_true rfl⟩ rfl (fun O => (wC_len _).trans (wC_len _).symm) (fun O => rfl) rfl (fun O => ?_)
  have hw1 := LWp_c hw ((up3 S 7 O))
  show g 69 3053 (xSet θ isC ((wC ((up3 S 7 O))).map (xEr (xS isC θ.length)))) 721 [some (.ref 1000000), some (.ref 0), some (.ref 55), some (.int (nI i))] [.int (soonC S z (xs (i + 1)) (xs (i + 2)))]
  generalize xSet θ isC ((wC ((up3 S 7 O))).map (xEr (xS isC θ.length))) = θ1 at hw1 ⊢
  refine r_aload_n (pc := 721) C.sem dL_law_721 rfl rfl ?_
  refine r_aload_n (pc := 722) C.sem dL_law_722 rfl rfl ?_
  refine r_iload_n (pc := 723) C.sem dL_law_723 rfl rfl ?_
  refine r_iconst (pc := 724) (v := 1) C.sem dL_law_724 (by decide) ?_
  refine r_iadd (pc := 725) C.sem dL_law_725 ?_
  refine r_sld (pc := 726) C (i + 1) dL_law_726 (nI_sum (m := i) (n := 1) rfl rfl) (by omega) (by omega) (by have := hw1.1; omega) ?_
  refine r_aload_n (pc := 727) C.sem dL_law_727 rfl rfl ?_
  refine r_iload_n (pc := 728) C.sem dL_law_728 rfl rfl ?_
  refine r_iconst (pc := 729) (v := 2) C.sem dL_law_729 (by decide) ?_
  refine r_iadd (pc := 730) C.sem dL_law_730 ?_
  refine r_sld (pc := 731) C (i + 2) dL_law_731 (nI_sum (m := i) (n := 2) rfl rfl) (by omega) (by omega) (by have := hw1.1; omega) ?_
  obtain ⟨fs1, hf1⟩ := LWp_m0 hw1
  refine r_callVD (pc := 732) (b := 55) (b' := 0) (As := [.int (xs (i + 1)), .int (xs (i + 2))]) (st := [.int (soonC S z (xs (i + 1)) (xs (i + 2)))]) (r2 := some (.int (sooM M z (xs (i + 1)) (xs (i + 2))))) C.sem isM (c_X6_soonest M (xs (i + 1)) (xs (i + 2)) z (rp_M h)) xm_X6_soonest xk_L_89 dL_law_732 (LWp_mT hw1) isM_nd rfl hf1 rfl rfl rfl (Nat.le_of_ble_eq_true rfl) ⟨Nat.le_of_ble_eq_true rfl, Nat.le_of_ble_eq_true rfl⟩ ⟨rfl, rfl⟩ ⟨Nat.le_of_ble_eq_true rfl, Nat.le_of_ble_eq_true rfl⟩ rfl ((wM_len _).trans (wM_len _).symm) rfl rfl ?_
  have hw2 := LWp_m hw1 (M)
  show g 69 3053 (xSet θ1 isM ((wM (M)).map (xEr (xS isM θ1.length)))) 735 [some (.ref 1000000), some (.ref 0), some (.ref 55), some (.int (nI i))] [.int (sooM M z (xs (i + 1)) (xs (i + 2))), .int (soonC S z (xs (i + 1)) (xs (i + 2)))]
  generalize xSet θ1 isM ((wM (M)).map (xEr (xS isM θ1.length))) = θ2 at hw2 ⊢
  refine r_icmp_eq (pc := 735) (tgt := 1222) C.sem dL_law_735 (by decide) (fun _ => ?_) (fun hne => absurd hrel.1 hne)
  exact kk _ _ _ hw2 ⟨z, o, q, ln, tr, rp_7 O h⟩
set_option maxHeartbeats 1000000 in
set_option maxRecDepth 100000 in
theorem law_hands {L : Nat} {xs : Nat → Int32} {nm : String} {g : Nat → Nat → List xE → Nat → List (Option Value) → List Value → Prop} (C : SemL room_1 L xs nm g) (hL : L ≤ 384) (i : Nat) (hi : i + 6 ≤ L) (θ : List xE) (S : Nat → Nat → Nat → Int32) (M : Nat → Nat → Int32) (hw : LWp θ S M) (hR : Rel S M) (kk : ∀ (θ' : List xE) (S' : Nat → Nat → Nat → Int32) (M' : Nat → Nat → Int32), LWp θ' S' M' → Rel S' M' → g 69 3053 θ' 1222 [some (.ref 1000000), some (.ref 0), some (.ref 55), some (.int (nI i))] []) : g 69 3053 θ 740 [some (.ref 1000000), some (.ref 0), some (.ref 55), some (.int (nI i))] [] := by
  obtain ⟨z, o, q, ln, tr, h⟩ := hR
  have hrel := rel_hands h (xs (i + 1)) (xs (i + 2))
  refine r_aload_n (pc := 740) C.sem dL_law_740 rfl rfl ?_
  refine r_aload_n (pc := 741) C.sem dL_law_741 rfl rfl ?_
  refine r_iload_n (pc := 742) C.sem dL_law_742 rfl rfl ?_
  refine r_iconst (pc := 743) (v := 1) C.sem dL_law_743 (by decide) ?_
  refine r_iadd (pc := 744) C.sem dL_law_744 ?_
  refine r_sld (pc := 745) C (i + 1) dL_law_745 (nI_sum (m := i) (n := 1) rfl rfl) (by omega) (by omega) (by have := hw.1; omega) ?_
  refine r_aload_n (pc := 746) C.sem dL_law_746 rfl rfl ?_
  refine r_iload_n (pc := 747) C.sem dL_law_747 rfl rfl ?_
  refine r_iconst (pc := 748) (v := 2) C.sem dL_law_748 (by decide) ?_
  refine r_iadd (pc := 749) C.sem dL_law_749 ?_
  refine r_sld (pc := 750) C (i + 2) dL_law_750 (nI_sum (m := i) (n := 2) rfl rfl) (by omega) (by omega) (by have := hw.1; omega) ?_
  refine r_callVD (pc := 751) (b := 0) (b' := 0) (As := [.int (xs (i + 1)), .int (xs (i + 2))]) (st := []) (r2 := some (.int ((handsC S z (xs (i + 1)) (xs (i + 2))).1))) C.sem isC (c_X5_hands S (xs (i + 1)) (xs (i + 2)) z (rp_S h)) xm_X5_hands xk_L_90 dL_law_751 (LWp_cT hw) isC_nd rfl (LWp_c0 hw) rfl rfl rfl (Nat.le_of_ble_eq_true rfl) ⟨Nat.le_of_ble_eq_true rfl, Nat.le_of_ble_eq_true rfl⟩ ⟨rfl, rfl⟩ ⟨Nat.le_of_ble_eq_true rfl, Nat.le_of_ble_eq_true rfl⟩ rfl ((wC_len _).trans (wC_len _).symm) rfl rfl ?_
  have hw1 := LWp_c hw ((handsC S z (xs (i + 1)) (xs (i + 2))).2)
  show g 69 3053 (xSet θ isC ((wC ((handsC S z (xs (i + 1)) (xs (i + 2))).2)).map (xEr (xS isC θ.length)))) 754 [some (.ref 1000000), some (.ref 0), some (.ref 55), some (.int (nI i))] [.int ((handsC S z (xs (i + 1)) (xs (i + 2))).1)]
  generalize xSet θ isC ((wC ((handsC S z (xs (i + 1)) (xs (i + 2))).2)).map (xEr (xS isC θ.length))) = θ1 at hw1 ⊢
  refine r_aload_n (pc := 754) C.sem dL_law_754 rfl rfl ?_
  refine r_aload_n (pc := 755) C.sem dL_law_755 rfl rfl ?_
  refine r_iload_n (pc := 756) C.sem dL_law_756 rfl rfl ?_
  refine r_iconst (pc := 757) (v := 1) C.sem dL_law_757 (by decide) ?_
  refine r_iadd (pc := 758) C.sem dL_law_758 ?_
  refine r_sld (pc := 759) C (i + 1) dL_law_759 (nI_sum (m := i) (n := 1) rfl rfl) (by omega) (by omega) (by have := hw1.1; omega) ?_
  refine r_aload_n (pc := 760) C.sem dL_law_760 rfl rfl ?_
  refine r_iload_n (pc := 761) C.sem dL_law_761 rfl rfl ?_
  refine r_iconst (pc := 762) (v := 2) C.sem dL_law_762 (by decide) ?_
  refine r_iadd (pc := 763) C.sem dL_law_763 ?_
  refine r_sld (pc := 764) C (i + 2) dL_law_764 (nI_sum (m := i) (n := 2) rfl rfl) (by omega) (by omega) (by have := hw1.1; omega) ?_
  obtain ⟨fs1, hf1⟩ := LWp_m0 hw1
  refine r_callVD (pc := 765) (b := 55) (b' := 0) (As := [.int (xs (i + 1)), .int (xs (i + 2))]) (st := [.int ((handsC S z (xs (i + 1)) (xs (i + 2))).1)]) (r2 := some (.int ((handsM M z (xs (i + 1)) (xs (i + 2))).1))) C.sem isM (c_X6_hands M (xs (i + 1)) (xs (i + 2)) z (rp_M h)) xm_X6_hands xk_L_93 dL_law_765 (LWp_mT hw1) isM_nd rfl hf1 rfl rfl rfl (Nat.le_of_ble_eq_true rfl) ⟨Nat.le_of_ble_eq_true rfl, Nat.le_of_ble_eq_true rfl⟩ ⟨rfl, rfl⟩ ⟨Nat.le_of_ble_eq_true rfl, Nat.le_of_ble_eq_true rfl⟩ rfl ((wM_len _).trans (wM_len _).symm) rfl rfl ?_
  have hw2 := LWp_m hw1 ((handsM M z (xs (i + 1)) (xs (i + 2))).2)
  show g 69 3053 (xSet θ1 isM ((wM ((handsM M z (xs (i + 1)) (xs (i + 2))).2)).map (xEr (xS isM θ1.length)))) 768 [some (.ref 1000000), some (.ref 0), some (.ref 55), some (.int (nI i))] [.int ((handsM M z (xs (i + 1)) (xs (i + 2))).1), .int ((handsC S z (xs (i + 1)) (xs (i + 2))).1)]
  generalize xSet θ1 isM ((wM ((handsM M z (xs (i + 1)) (xs (i + 2))).2)).map (xEr (xS isM θ1.length))) = θ2 at hw2 ⊢
  refine r_icmp_eq (pc := 768) (tgt := 1222) C.sem dL_law_768 (by decide) (fun _ => ?_) (fun hne => absurd hrel.1 hne)
  exact kk _ _ _ hw2 hrel.2
set_option maxHeartbeats 1000000 in
set_option maxRecDepth 100000 in
theorem law_everywhere {L : Nat} {xs : Nat → Int32} {nm : String} {g : Nat → Nat → List xE → Nat → List (Option Value) → List Value → Prop} (C : SemL room_1 L xs nm g) (hL : L ≤ 384) (i : Nat) (hi : i + 6 ≤ L) (θ : List xE) (S : Nat → Nat → Nat → Int32) (M : Nat → Nat → Int32) (hw : LWp θ S M) (hR : Rel S M) (kk : ∀ (θ' : List xE) (S' : Nat → Nat → Nat → Int32) (M' : Nat → Nat → Int32), LWp θ' S' M' → Rel S' M' → g 69 3053 θ' 1222 [some (.ref 1000000), some (.ref 0), some (.ref 55), some (.int (nI i))] []) : g 69 3053 θ 773 [some (.ref 1000000), some (.ref 0), some (.ref 55), some (.int (nI i))] [] := by
  obtain ⟨z, o, q, ln, tr, h⟩ := hR
  have hrel := rel_everywhere h (xs (i + 1)) (xs (i + 2))
  refine r_aload_n (pc := 773) C.sem dL_law_773 rfl rfl ?_
  refine r_aload_n (pc := 774) C.sem dL_law_774 rfl rfl ?_
  refine r_iload_n (pc := 775) C.sem dL_law_775 rfl rfl ?_
  refine r_iconst (pc := 776) (v := 1) C.sem dL_law_776 (by decide) ?_
  refine r_iadd (pc := 777) C.sem dL_law_777 ?_
  refine r_sld (pc := 778) C (i + 1) dL_law_778 (nI_sum (m := i) (n := 1) rfl rfl) (by omega) (by omega) (by have := hw.1; omega) ?_
  refine r_aload_n (pc := 779) C.sem dL_law_779 rfl rfl ?_
  refine r_iload_n (pc := 780) C.sem dL_law_780 rfl rfl ?_
  refine r_iconst (pc := 781) (v := 2) C.sem dL_law_781 (by decide) ?_
  refine r_iadd (pc := 782) C.sem dL_law_782 ?_
  refine r_sld (pc := 783) C (i + 2) dL_law_783 (nI_sum (m := i) (n := 2) rfl rfl) (by omega) (by omega) (by have := hw.1; omega) ?_
  refine r_callVE (pc := 784) (b := 0) (b' := 0) (As := [.int (xs (i + 1)), .int (xs (i + 2))]) (st := []) (r2 := some (.int (everyC S z (xs (i + 1)) (xs (i + 2))))) (θ2 := fun O => xSet θ isC ((wC (up3 S 7 O)).map (xEr (xS isC θ.length)))) C.sem isC (c_X5_everywhere S (xs (i + 1)) (xs (i + 2)) z (rp_S h)) xm_X5_everywhere xk_L_94 dL_law_784 (LWp_cT hw) isC_nd rfl (LWp_c0 hw) rfl rfl rfl (Nat.le_of_ble_eq_true rfl) ⟨Nat.le_of_ble_eq_true rfl, Nat.le_of_ble_eq_true rfl⟩ ⟨rfl, rfl⟩ ⟨Nat.le_of_ble_eq_true rfl, Nat.le_of_ble_eq_true rfl⟩ rfl (fun O => (wC_len _).trans (wC_len _).symm) (fun O => rfl) rfl (fun O => ?_)
  have hw1 := LWp_c hw ((up3 S 7 O))
  show g 69 3053 (xSet θ isC ((wC ((up3 S 7 O))).map (xEr (xS isC θ.length)))) 787 [some (.ref 1000000), some (.ref 0), some (.ref 55), some (.int (nI i))] [.int (everyC S z (xs (i + 1)) (xs (i + 2)))]
  generalize xSet θ isC ((wC ((up3 S 7 O))).map (xEr (xS isC θ.length))) = θ1 at hw1 ⊢
  refine r_aload_n (pc := 787) C.sem dL_law_787 rfl rfl ?_
  refine r_aload_n (pc := 788) C.sem dL_law_788 rfl rfl ?_
  refine r_iload_n (pc := 789) C.sem dL_law_789 rfl rfl ?_
  refine r_iconst (pc := 790) (v := 1) C.sem dL_law_790 (by decide) ?_
  refine r_iadd (pc := 791) C.sem dL_law_791 ?_
  refine r_sld (pc := 792) C (i + 1) dL_law_792 (nI_sum (m := i) (n := 1) rfl rfl) (by omega) (by omega) (by have := hw1.1; omega) ?_
  refine r_aload_n (pc := 793) C.sem dL_law_793 rfl rfl ?_
  refine r_iload_n (pc := 794) C.sem dL_law_794 rfl rfl ?_
  refine r_iconst (pc := 795) (v := 2) C.sem dL_law_795 (by decide) ?_
  refine r_iadd (pc := 796) C.sem dL_law_796 ?_
  refine r_sld (pc := 797) C (i + 2) dL_law_797 (nI_sum (m := i) (n := 2) rfl rfl) (by omega) (by omega) (by have := hw1.1; omega) ?_
  obtain ⟨fs1, hf1⟩ := LWp_m0 hw1
  refine r_callVD (pc := 798) (b := 55) (b' := 0) (As := [.int (xs (i + 1)), .int (xs (i + 2))]) (st := [.int (everyC S z (xs (i + 1)) (xs (i + 2)))]) (r2 := some (.int (evM M z (xs (i + 1)) (xs (i + 2))))) C.sem isM (c_X6_everywhere M (xs (i + 1)) (xs (i + 2)) z (rp_M h)) xm_X6_everywhere xk_L_97 dL_law_798 (LWp_mT hw1) isM_nd rfl hf1 rfl rfl rfl (Nat.le_of_ble_eq_true rfl) ⟨Nat.le_of_ble_eq_true rfl, Nat.le_of_ble_eq_true rfl⟩ ⟨rfl, rfl⟩ ⟨Nat.le_of_ble_eq_true rfl, Nat.le_of_ble_eq_true rfl⟩ rfl ((wM_len _).trans (wM_len _).symm) rfl rfl ?_
  have hw2 := LWp_m hw1 (M)
  show g 69 3053 (xSet θ1 isM ((wM (M)).map (xEr (xS isM θ1.length)))) 801 [some (.ref 1000000), some (.ref 0), some (.ref 55), some (.int (nI i))] [.int (evM M z (xs (i + 1)) (xs (i + 2))), .int (everyC S z (xs (i + 1)) (xs (i + 2)))]
  generalize xSet θ1 isM ((wM (M)).map (xEr (xS isM θ1.length))) = θ2 at hw2 ⊢
  refine r_icmp_eq (pc := 801) (tgt := 1222) C.sem dL_law_801 (by decide) (fun _ => ?_) (fun hne => absurd hrel.1 hne)
  exact kk _ _ _ hw2 ⟨z, o, q, ln, tr, rp_7 O h⟩
set_option maxHeartbeats 1000000 in
set_option maxRecDepth 100000 in
theorem law_stops {L : Nat} {xs : Nat → Int32} {nm : String} {g : Nat → Nat → List xE → Nat → List (Option Value) → List Value → Prop} (C : SemL room_1 L xs nm g) (hL : L ≤ 384) (i : Nat) (hi : i + 6 ≤ L) (θ : List xE) (S : Nat → Nat → Nat → Int32) (M : Nat → Nat → Int32) (hw : LWp θ S M) (hR : Rel S M) (kk : ∀ (θ' : List xE) (S' : Nat → Nat → Nat → Int32) (M' : Nat → Nat → Int32), LWp θ' S' M' → Rel S' M' → g 69 3053 θ' 1222 [some (.ref 1000000), some (.ref 0), some (.ref 55), some (.int (nI i))] []) : g 69 3053 θ 806 [some (.ref 1000000), some (.ref 0), some (.ref 55), some (.int (nI i))] [] := by
  obtain ⟨z, o, q, ln, tr, h⟩ := hR
  have hrel := rel_stops h (xs (i + 1)) (xs (i + 2)) (xs (i + 3))
  refine r_aload_n (pc := 806) C.sem dL_law_806 rfl rfl ?_
  refine r_aload_n (pc := 807) C.sem dL_law_807 rfl rfl ?_
  refine r_iload_n (pc := 808) C.sem dL_law_808 rfl rfl ?_
  refine r_iconst (pc := 809) (v := 1) C.sem dL_law_809 (by decide) ?_
  refine r_iadd (pc := 810) C.sem dL_law_810 ?_
  refine r_sld (pc := 811) C (i + 1) dL_law_811 (nI_sum (m := i) (n := 1) rfl rfl) (by omega) (by omega) (by have := hw.1; omega) ?_
  refine r_aload_n (pc := 812) C.sem dL_law_812 rfl rfl ?_
  refine r_iload_n (pc := 813) C.sem dL_law_813 rfl rfl ?_
  refine r_iconst (pc := 814) (v := 2) C.sem dL_law_814 (by decide) ?_
  refine r_iadd (pc := 815) C.sem dL_law_815 ?_
  refine r_sld (pc := 816) C (i + 2) dL_law_816 (nI_sum (m := i) (n := 2) rfl rfl) (by omega) (by omega) (by have := hw.1; omega) ?_
  refine r_aload_n (pc := 817) C.sem dL_law_817 rfl rfl ?_
  refine r_iload_n (pc := 818) C.sem dL_law_818 rfl rfl ?_
  refine r_iconst (pc := 819) (v := 3) C.sem dL_law_819 (by decide) ?_
  refine r_iadd (pc := 820) C.sem dL_law_820 ?_
  refine r_sld (pc := 821) C (i + 3) dL_law_821 (nI_sum (m := i) (n := 3) rfl rfl) (by omega) (by omega) (by have := hw.1; omega) ?_
  refine r_callVD (pc := 822) (b := 0) (b' := 0) (As := [.int (xs (i + 1)), .int (xs (i + 2)), .int (xs (i + 3))]) (st := []) (r2 := some (.int ((stopsC S z (xs (i + 1)) (xs (i + 2)) (xs (i + 3))).1))) C.sem isC (c_X5_stops S (xs (i + 1)) (xs (i + 2)) (xs (i + 3)) z (rp_S h)) xm_X5_stops xk_L_98 dL_law_822 (LWp_cT hw) isC_nd rfl (LWp_c0 hw) rfl rfl rfl (Nat.le_of_ble_eq_true rfl) ⟨Nat.le_of_ble_eq_true rfl, Nat.le_of_ble_eq_true rfl⟩ ⟨rfl, rfl⟩ ⟨Nat.le_of_ble_eq_true rfl, Nat.le_of_ble_eq_true rfl⟩ rfl ((wC_len _).trans (wC_len _).symm) rfl rfl ?_
  have hw1 := LWp_c hw ((stopsC S z (xs (i + 1)) (xs (i + 2)) (xs (i + 3))).2)
  show g 69 3053 (xSet θ isC ((wC ((stopsC S z (xs (i + 1)) (xs (i + 2)) (xs (i + 3))).2)).map (xEr (xS isC θ.length)))) 825 [some (.ref 1000000), some (.ref 0), some (.ref 55), some (.int (nI i))] [.int ((stopsC S z (xs (i + 1)) (xs (i + 2)) (xs (i + 3))).1)]
  generalize xSet θ isC ((wC ((stopsC S z (xs (i + 1)) (xs (i + 2)) (xs (i + 3))).2)).map (xEr (xS isC θ.length))) = θ1 at hw1 ⊢
  refine r_aload_n (pc := 825) C.sem dL_law_825 rfl rfl ?_
  refine r_aload_n (pc := 826) C.sem dL_law_826 rfl rfl ?_
  refine r_iload_n (pc := 827) C.sem dL_law_827 rfl rfl ?_
  refine r_iconst (pc := 828) (v := 1) C.sem dL_law_828 (by decide) ?_
  refine r_iadd (pc := 829) C.sem dL_law_829 ?_
  refine r_sld (pc := 830) C (i + 1) dL_law_830 (nI_sum (m := i) (n := 1) rfl rfl) (by omega) (by omega) (by have := hw1.1; omega) ?_
  refine r_aload_n (pc := 831) C.sem dL_law_831 rfl rfl ?_
  refine r_iload_n (pc := 832) C.sem dL_law_832 rfl rfl ?_
  refine r_iconst (pc := 833) (v := 2) C.sem dL_law_833 (by decide) ?_
  refine r_iadd (pc := 834) C.sem dL_law_834 ?_
  refine r_sld (pc := 835) C (i + 2) dL_law_835 (nI_sum (m := i) (n := 2) rfl rfl) (by omega) (by omega) (by have := hw1.1; omega) ?_
  refine r_aload_n (pc := 836) C.sem dL_law_836 rfl rfl ?_
  refine r_iload_n (pc := 837) C.sem dL_law_837 rfl rfl ?_
  refine r_iconst (pc := 838) (v := 3) C.sem dL_law_838 (by decide) ?_
  refine r_iadd (pc := 839) C.sem dL_law_839 ?_
  refine r_sld (pc := 840) C (i + 3) dL_law_840 (nI_sum (m := i) (n := 3) rfl rfl) (by omega) (by omega) (by have := hw1.1; omega) ?_
  obtain ⟨fs1, hf1⟩ := LWp_m0 hw1
  refine r_callVD (pc := 841) (b := 55) (b' := 0) (As := [.int (xs (i + 1)), .int (xs (i + 2)), .int (xs (i + 3))]) (st := [.int ((stopsC S z (xs (i + 1)) (xs (i + 2)) (xs (i + 3))).1)]) (r2 := some (.int ((stopsM M z (xs (i + 1)) (xs (i + 2)) (xs (i + 3))).1))) C.sem isM (c_X6_stops M (xs (i + 1)) (xs (i + 2)) (xs (i + 3)) z (rp_M h)) xm_X6_stops xk_L_101 dL_law_841 (LWp_mT hw1) isM_nd rfl hf1 rfl rfl rfl (Nat.le_of_ble_eq_true rfl) ⟨Nat.le_of_ble_eq_true rfl, Nat.le_of_ble_eq_true rfl⟩ ⟨rfl, rfl⟩ ⟨Nat.le_of_ble_eq_true rfl, Nat.le_of_ble_eq_true rfl⟩ rfl ((wM_len _).trans (wM_len _).symm) rfl rfl ?_
  have hw2 := LWp_m hw1 ((stopsM M z (xs (i + 1)) (xs (i + 2)) (xs (i + 3))).2)
  show g 69 3053 (xSet θ1 isM ((wM ((stopsM M z (xs (i + 1)) (xs (i + 2)) (xs (i + 3))).2)).map (xEr (xS isM θ1.length)))) 844 [some (.ref 1000000), some (.ref 0), some (.ref 55), some (.int (nI i))] [.int ((stopsM M z (xs (i + 1)) (xs (i + 2)) (xs (i + 3))).1), .int ((stopsC S z (xs (i + 1)) (xs (i + 2)) (xs (i + 3))).1)]
  generalize xSet θ1 isM ((wM ((stopsM M z (xs (i + 1)) (xs (i + 2)) (xs (i + 3))).2)).map (xEr (xS isM θ1.length))) = θ2 at hw2 ⊢
  refine r_icmp_eq (pc := 844) (tgt := 1222) C.sem dL_law_844 (by decide) (fun _ => ?_) (fun hne => absurd hrel.1 hne)
  exact kk _ _ _ hw2 hrel.2
set_option maxHeartbeats 1000000 in
set_option maxRecDepth 100000 in
theorem law_toSling {L : Nat} {xs : Nat → Int32} {nm : String} {g : Nat → Nat → List xE → Nat → List (Option Value) → List Value → Prop} (C : SemL room_1 L xs nm g) (hL : L ≤ 384) (i : Nat) (hi : i + 6 ≤ L) (θ : List xE) (S : Nat → Nat → Nat → Int32) (M : Nat → Nat → Int32) (hw : LWp θ S M) (hR : Rel S M) (kk : ∀ (θ' : List xE) (S' : Nat → Nat → Nat → Int32) (M' : Nat → Nat → Int32), LWp θ' S' M' → Rel S' M' → g 69 3053 θ' 1222 [some (.ref 1000000), some (.ref 0), some (.ref 55), some (.int (nI i))] []) : g 69 3053 θ 849 [some (.ref 1000000), some (.ref 0), some (.ref 55), some (.int (nI i))] [] := by
  obtain ⟨z, o, q, ln, tr, h⟩ := hR
  have hrel := rel_toSling h (xs (i + 1)) (xs (i + 2)) (xs (i + 3)) (xs (i + 4))
  refine r_aload_n (pc := 849) C.sem dL_law_849 rfl rfl ?_
  refine r_aload_n (pc := 850) C.sem dL_law_850 rfl rfl ?_
  refine r_iload_n (pc := 851) C.sem dL_law_851 rfl rfl ?_
  refine r_iconst (pc := 852) (v := 1) C.sem dL_law_852 (by decide) ?_
  refine r_iadd (pc := 853) C.sem dL_law_853 ?_
  refine r_sld (pc := 854) C (i + 1) dL_law_854 (nI_sum (m := i) (n := 1) rfl rfl) (by omega) (by omega) (by have := hw.1; omega) ?_
  refine r_aload_n (pc := 855) C.sem dL_law_855 rfl rfl ?_
  refine r_iload_n (pc := 856) C.sem dL_law_856 rfl rfl ?_
  refine r_iconst (pc := 857) (v := 2) C.sem dL_law_857 (by decide) ?_
  refine r_iadd (pc := 858) C.sem dL_law_858 ?_
  refine r_sld (pc := 859) C (i + 2) dL_law_859 (nI_sum (m := i) (n := 2) rfl rfl) (by omega) (by omega) (by have := hw.1; omega) ?_
  refine r_aload_n (pc := 860) C.sem dL_law_860 rfl rfl ?_
  refine r_iload_n (pc := 861) C.sem dL_law_861 rfl rfl ?_
  refine r_iconst (pc := 862) (v := 3) C.sem dL_law_862 (by decide) ?_
  refine r_iadd (pc := 863) C.sem dL_law_863 ?_
  refine r_sld (pc := 864) C (i + 3) dL_law_864 (nI_sum (m := i) (n := 3) rfl rfl) (by omega) (by omega) (by have := hw.1; omega) ?_
  refine r_aload_n (pc := 865) C.sem dL_law_865 rfl rfl ?_
  refine r_iload_n (pc := 866) C.sem dL_law_866 rfl rfl ?_
  refine r_iconst (pc := 867) (v := 4) C.sem dL_law_867 (by decide) ?_
  refine r_iadd (pc := 868) C.sem dL_law_868 ?_
  refine r_sld (pc := 869) C (i + 4) dL_law_869 (nI_sum (m := i) (n := 4) rfl rfl) (by omega) (by omega) (by have := hw.1; omega) ?_
  refine r_callVD (pc := 870) (b := 0) (b' := 0) (As := [.int (xs (i + 1)), .int (xs (i + 2)), .int (xs (i + 3)), .int (xs (i + 4))]) (st := []) (r2 := some (.int ((slingToC S z (xs (i + 1)) (xs (i + 2)) (xs (i + 3)) (xs (i + 4))).1))) C.sem isC (c_X5_toSling S (xs (i + 1)) (xs (i + 2)) (xs (i + 3)) (xs (i + 4)) z (rp_S h) (rp_52 h)) xm_X5_toSling xk_L_102 dL_law_870 (LWp_cT hw) isC_nd rfl (LWp_c0 hw) rfl rfl rfl (Nat.le_of_ble_eq_true rfl) ⟨Nat.le_of_ble_eq_true rfl, Nat.le_of_ble_eq_true rfl⟩ ⟨rfl, rfl⟩ ⟨Nat.le_of_ble_eq_true rfl, Nat.le_of_ble_eq_true rfl⟩ rfl ((wC_len _).trans (wC_len _).symm) rfl rfl ?_
  have hw1 := LWp_c hw ((slingToC S z (xs (i + 1)) (xs (i + 2)) (xs (i + 3)) (xs (i + 4))).2)
  show g 69 3053 (xSet θ isC ((wC ((slingToC S z (xs (i + 1)) (xs (i + 2)) (xs (i + 3)) (xs (i + 4))).2)).map (xEr (xS isC θ.length)))) 873 [some (.ref 1000000), some (.ref 0), some (.ref 55), some (.int (nI i))] [.int ((slingToC S z (xs (i + 1)) (xs (i + 2)) (xs (i + 3)) (xs (i + 4))).1)]
  generalize xSet θ isC ((wC ((slingToC S z (xs (i + 1)) (xs (i + 2)) (xs (i + 3)) (xs (i + 4))).2)).map (xEr (xS isC θ.length))) = θ1 at hw1 ⊢
  refine r_aload_n (pc := 873) C.sem dL_law_873 rfl rfl ?_
  refine r_aload_n (pc := 874) C.sem dL_law_874 rfl rfl ?_
  refine r_iload_n (pc := 875) C.sem dL_law_875 rfl rfl ?_
  refine r_iconst (pc := 876) (v := 1) C.sem dL_law_876 (by decide) ?_
  refine r_iadd (pc := 877) C.sem dL_law_877 ?_
  refine r_sld (pc := 878) C (i + 1) dL_law_878 (nI_sum (m := i) (n := 1) rfl rfl) (by omega) (by omega) (by have := hw1.1; omega) ?_
  refine r_aload_n (pc := 879) C.sem dL_law_879 rfl rfl ?_
  refine r_iload_n (pc := 880) C.sem dL_law_880 rfl rfl ?_
  refine r_iconst (pc := 881) (v := 2) C.sem dL_law_881 (by decide) ?_
  refine r_iadd (pc := 882) C.sem dL_law_882 ?_
  refine r_sld (pc := 883) C (i + 2) dL_law_883 (nI_sum (m := i) (n := 2) rfl rfl) (by omega) (by omega) (by have := hw1.1; omega) ?_
  refine r_aload_n (pc := 884) C.sem dL_law_884 rfl rfl ?_
  refine r_iload_n (pc := 885) C.sem dL_law_885 rfl rfl ?_
  refine r_iconst (pc := 886) (v := 3) C.sem dL_law_886 (by decide) ?_
  refine r_iadd (pc := 887) C.sem dL_law_887 ?_
  refine r_sld (pc := 888) C (i + 3) dL_law_888 (nI_sum (m := i) (n := 3) rfl rfl) (by omega) (by omega) (by have := hw1.1; omega) ?_
  refine r_aload_n (pc := 889) C.sem dL_law_889 rfl rfl ?_
  refine r_iload_n (pc := 890) C.sem dL_law_890 rfl rfl ?_
  refine r_iconst (pc := 891) (v := 4) C.sem dL_law_891 (by decide) ?_
  refine r_iadd (pc := 892) C.sem dL_law_892 ?_
  refine r_sld (pc := 893) C (i + 4) dL_law_893 (nI_sum (m := i) (n := 4) rfl rfl) (by omega) (by omega) (by have := hw1.1; omega) ?_
  obtain ⟨fs1, hf1⟩ := LWp_m0 hw1
  refine r_callVD (pc := 894) (b := 55) (b' := 0) (As := [.int (xs (i + 1)), .int (xs (i + 2)), .int (xs (i + 3)), .int (xs (i + 4))]) (st := [.int ((slingToC S z (xs (i + 1)) (xs (i + 2)) (xs (i + 3)) (xs (i + 4))).1)]) (r2 := some (.int ((slingToM M z (xs (i + 1)) (xs (i + 2)) (xs (i + 3)) (xs (i + 4))).1))) C.sem isM (c_X6_toSling M (xs (i + 1)) (xs (i + 2)) (xs (i + 3)) (xs (i + 4)) z (rp_M h)) xm_X6_toSling xk_L_106 dL_law_894 (LWp_mT hw1) isM_nd rfl hf1 rfl rfl rfl (Nat.le_of_ble_eq_true rfl) ⟨Nat.le_of_ble_eq_true rfl, Nat.le_of_ble_eq_true rfl⟩ ⟨rfl, rfl⟩ ⟨Nat.le_of_ble_eq_true rfl, Nat.le_of_ble_eq_true rfl⟩ rfl ((wM_len _).trans (wM_len _).symm) rfl rfl ?_
  have hw2 := LWp_m hw1 ((slingToM M z (xs (i + 1)) (xs (i + 2)) (xs (i + 3)) (xs (i + 4))).2)
  show g 69 3053 (xSet θ1 isM ((wM ((slingToM M z (xs (i + 1)) (xs (i + 2)) (xs (i + 3)) (xs (i + 4))).2)).map (xEr (xS isM θ1.length)))) 897 [some (.ref 1000000), some (.ref 0), some (.ref 55), some (.int (nI i))] [.int ((slingToM M z (xs (i + 1)) (xs (i + 2)) (xs (i + 3)) (xs (i + 4))).1), .int ((slingToC S z (xs (i + 1)) (xs (i + 2)) (xs (i + 3)) (xs (i + 4))).1)]
  generalize xSet θ1 isM ((wM ((slingToM M z (xs (i + 1)) (xs (i + 2)) (xs (i + 3)) (xs (i + 4))).2)).map (xEr (xS isM θ1.length))) = θ2 at hw2 ⊢
  refine r_icmp_eq (pc := 897) (tgt := 1222) C.sem dL_law_897 (by decide) (fun _ => ?_) (fun hne => absurd hrel.1 hne)
  exact kk _ _ _ hw2 hrel.2
set_option maxHeartbeats 1000000 in
set_option maxRecDepth 100000 in
theorem law_fits {L : Nat} {xs : Nat → Int32} {nm : String} {g : Nat → Nat → List xE → Nat → List (Option Value) → List Value → Prop} (C : SemL room_1 L xs nm g) (hL : L ≤ 384) (i : Nat) (hi : i + 6 ≤ L) (θ : List xE) (S : Nat → Nat → Nat → Int32) (M : Nat → Nat → Int32) (hw : LWp θ S M) (hR : Rel S M) (kk : ∀ (θ' : List xE) (S' : Nat → Nat → Nat → Int32) (M' : Nat → Nat → Int32), LWp θ' S' M' → Rel S' M' → g 69 3053 θ' 1222 [some (.ref 1000000), some (.ref 0), some (.ref 55), some (.int (nI i))] []) : g 69 3053 θ 902 [some (.ref 1000000), some (.ref 0), some (.ref 55), some (.int (nI i))] [] := by
  obtain ⟨z, o, q, ln, tr, h⟩ := hR
  have hrel := rel_fits h (xs (i + 1)) (xs (i + 2)) (xs (i + 3)) (xs (i + 4)) (xs (i + 5))
  refine r_aload_n (pc := 902) C.sem dL_law_902 rfl rfl ?_
  refine r_aload_n (pc := 903) C.sem dL_law_903 rfl rfl ?_
  refine r_iload_n (pc := 904) C.sem dL_law_904 rfl rfl ?_
  refine r_iconst (pc := 905) (v := 1) C.sem dL_law_905 (by decide) ?_
  refine r_iadd (pc := 906) C.sem dL_law_906 ?_
  refine r_sld (pc := 907) C (i + 1) dL_law_907 (nI_sum (m := i) (n := 1) rfl rfl) (by omega) (by omega) (by have := hw.1; omega) ?_
  refine r_aload_n (pc := 908) C.sem dL_law_908 rfl rfl ?_
  refine r_iload_n (pc := 909) C.sem dL_law_909 rfl rfl ?_
  refine r_iconst (pc := 910) (v := 2) C.sem dL_law_910 (by decide) ?_
  refine r_iadd (pc := 911) C.sem dL_law_911 ?_
  refine r_sld (pc := 912) C (i + 2) dL_law_912 (nI_sum (m := i) (n := 2) rfl rfl) (by omega) (by omega) (by have := hw.1; omega) ?_
  refine r_aload_n (pc := 913) C.sem dL_law_913 rfl rfl ?_
  refine r_iload_n (pc := 914) C.sem dL_law_914 rfl rfl ?_
  refine r_iconst (pc := 915) (v := 3) C.sem dL_law_915 (by decide) ?_
  refine r_iadd (pc := 916) C.sem dL_law_916 ?_
  refine r_sld (pc := 917) C (i + 3) dL_law_917 (nI_sum (m := i) (n := 3) rfl rfl) (by omega) (by omega) (by have := hw.1; omega) ?_
  refine r_aload_n (pc := 918) C.sem dL_law_918 rfl rfl ?_
  refine r_iload_n (pc := 919) C.sem dL_law_919 rfl rfl ?_
  refine r_iconst (pc := 920) (v := 4) C.sem dL_law_920 (by decide) ?_
  refine r_iadd (pc := 921) C.sem dL_law_921 ?_
  refine r_sld (pc := 922) C (i + 4) dL_law_922 (nI_sum (m := i) (n := 4) rfl rfl) (by omega) (by omega) (by have := hw.1; omega) ?_
  refine r_aload_n (pc := 923) C.sem dL_law_923 rfl rfl ?_
  refine r_iload_n (pc := 924) C.sem dL_law_924 rfl rfl ?_
  refine r_iconst (pc := 925) (v := 5) C.sem dL_law_925 (by decide) ?_
  refine r_iadd (pc := 926) C.sem dL_law_926 ?_
  refine r_sld (pc := 927) C (i + 5) dL_law_927 (nI_sum (m := i) (n := 5) rfl rfl) (by omega) (by omega) (by have := hw.1; omega) ?_
  refine r_callVD (pc := 928) (b := 0) (b' := 0) (As := [.int (xs (i + 1)), .int (xs (i + 2)), .int (xs (i + 3)), .int (xs (i + 4)), .int (xs (i + 5))]) (st := []) (r2 := some (.int ((fitsC S z (xs (i + 1)) (xs (i + 2)) (xs (i + 3)) (xs (i + 4)) (xs (i + 5))).1))) C.sem isC (c_X5_fits S (xs (i + 1)) (xs (i + 2)) (xs (i + 3)) (xs (i + 4)) (xs (i + 5)) z (rp_S h) (rp_52 h) (rp_sz h)) xm_X5_fits xk_L_107 dL_law_928 (LWp_cT hw) isC_nd rfl (LWp_c0 hw) rfl rfl rfl (Nat.le_of_ble_eq_true rfl) ⟨Nat.le_of_ble_eq_true rfl, Nat.le_of_ble_eq_true rfl⟩ ⟨rfl, rfl⟩ ⟨Nat.le_of_ble_eq_true rfl, Nat.le_of_ble_eq_true rfl⟩ rfl ((wC_len _).trans (wC_len _).symm) rfl rfl ?_
  have hw1 := LWp_c hw ((fitsC S z (xs (i + 1)) (xs (i + 2)) (xs (i + 3)) (xs (i + 4)) (xs (i + 5))).2)
  show g 69 3053 (xSet θ isC ((wC ((fitsC S z (xs (i + 1)) (xs (i + 2)) (xs (i + 3)) (xs (i + 4)) (xs (i + 5))).2)).map (xEr (xS isC θ.length)))) 931 [some (.ref 1000000), some (.ref 0), some (.ref 55), some (.int (nI i))] [.int ((fitsC S z (xs (i + 1)) (xs (i + 2)) (xs (i + 3)) (xs (i + 4)) (xs (i + 5))).1)]
  generalize xSet θ isC ((wC ((fitsC S z (xs (i + 1)) (xs (i + 2)) (xs (i + 3)) (xs (i + 4)) (xs (i + 5))).2)).map (xEr (xS isC θ.length))) = θ1 at hw1 ⊢
  refine r_aload_n (pc := 931) C.sem dL_law_931 rfl rfl ?_
  refine r_aload_n (pc := 932) C.sem dL_law_932 rfl rfl ?_
  refine r_iload_n (pc := 933) C.sem dL_law_933 rfl rfl ?_
  refine r_iconst (pc := 934) (v := 1) C.sem dL_law_934 (by decide) ?_
  refine r_iadd (pc := 935) C.sem dL_law_935 ?_
  refine r_sld (pc := 936) C (i + 1) dL_law_936 (nI_sum (m := i) (n := 1) rfl rfl) (by omega) (by omega) (by have := hw1.1; omega) ?_
  refine r_aload_n (pc := 937) C.sem dL_law_937 rfl rfl ?_
  refine r_iload_n (pc := 938) C.sem dL_law_938 rfl rfl ?_
  refine r_iconst (pc := 939) (v := 2) C.sem dL_law_939 (by decide) ?_
  refine r_iadd (pc := 940) C.sem dL_law_940 ?_
  refine r_sld (pc := 941) C (i + 2) dL_law_941 (nI_sum (m := i) (n := 2) rfl rfl) (by omega) (by omega) (by have := hw1.1; omega) ?_
  refine r_aload_n (pc := 942) C.sem dL_law_942 rfl rfl ?_
  refine r_iload_n (pc := 943) C.sem dL_law_943 rfl rfl ?_
  refine r_iconst (pc := 944) (v := 3) C.sem dL_law_944 (by decide) ?_
  refine r_iadd (pc := 945) C.sem dL_law_945 ?_
  refine r_sld (pc := 946) C (i + 3) dL_law_946 (nI_sum (m := i) (n := 3) rfl rfl) (by omega) (by omega) (by have := hw1.1; omega) ?_
  refine r_aload_n (pc := 947) C.sem dL_law_947 rfl rfl ?_
  refine r_iload_n (pc := 948) C.sem dL_law_948 rfl rfl ?_
  refine r_iconst (pc := 949) (v := 4) C.sem dL_law_949 (by decide) ?_
  refine r_iadd (pc := 950) C.sem dL_law_950 ?_
  refine r_sld (pc := 951) C (i + 4) dL_law_951 (nI_sum (m := i) (n := 4) rfl rfl) (by omega) (by omega) (by have := hw1.1; omega) ?_
  refine r_aload_n (pc := 952) C.sem dL_law_952 rfl rfl ?_
  refine r_iload_n (pc := 953) C.sem dL_law_953 rfl rfl ?_
  refine r_iconst (pc := 954) (v := 5) C.sem dL_law_954 (by decide) ?_
  refine r_iadd (pc := 955) C.sem dL_law_955 ?_
  refine r_sld (pc := 956) C (i + 5) dL_law_956 (nI_sum (m := i) (n := 5) rfl rfl) (by omega) (by omega) (by have := hw1.1; omega) ?_
  obtain ⟨fs1, hf1⟩ := LWp_m0 hw1
  refine r_callVD (pc := 957) (b := 55) (b' := 0) (As := [.int (xs (i + 1)), .int (xs (i + 2)), .int (xs (i + 3)), .int (xs (i + 4)), .int (xs (i + 5))]) (st := [.int ((fitsC S z (xs (i + 1)) (xs (i + 2)) (xs (i + 3)) (xs (i + 4)) (xs (i + 5))).1)]) (r2 := some (.int ((fitsM M z (xs (i + 1)) (xs (i + 2)) (xs (i + 3)) (xs (i + 4)) (xs (i + 5))).1))) C.sem isM (c_X6_fits M (xs (i + 1)) (xs (i + 2)) (xs (i + 3)) (xs (i + 4)) (xs (i + 5)) z (rp_M h) (rp_mz h)) xm_X6_fits xk_L_110 dL_law_957 (LWp_mT hw1) isM_nd rfl hf1 rfl rfl rfl (Nat.le_of_ble_eq_true rfl) ⟨Nat.le_of_ble_eq_true rfl, Nat.le_of_ble_eq_true rfl⟩ ⟨rfl, rfl⟩ ⟨Nat.le_of_ble_eq_true rfl, Nat.le_of_ble_eq_true rfl⟩ rfl ((wM_len _).trans (wM_len _).symm) rfl rfl ?_
  have hw2 := LWp_m hw1 ((fitsM M z (xs (i + 1)) (xs (i + 2)) (xs (i + 3)) (xs (i + 4)) (xs (i + 5))).2)
  show g 69 3053 (xSet θ1 isM ((wM ((fitsM M z (xs (i + 1)) (xs (i + 2)) (xs (i + 3)) (xs (i + 4)) (xs (i + 5))).2)).map (xEr (xS isM θ1.length)))) 960 [some (.ref 1000000), some (.ref 0), some (.ref 55), some (.int (nI i))] [.int ((fitsM M z (xs (i + 1)) (xs (i + 2)) (xs (i + 3)) (xs (i + 4)) (xs (i + 5))).1), .int ((fitsC S z (xs (i + 1)) (xs (i + 2)) (xs (i + 3)) (xs (i + 4)) (xs (i + 5))).1)]
  generalize xSet θ1 isM ((wM ((fitsM M z (xs (i + 1)) (xs (i + 2)) (xs (i + 3)) (xs (i + 4)) (xs (i + 5))).2)).map (xEr (xS isM θ1.length))) = θ2 at hw2 ⊢
  refine r_icmp_eq (pc := 960) (tgt := 1222) C.sem dL_law_960 (by decide) (fun _ => ?_) (fun hne => absurd hrel.1 hne)
  exact kk _ _ _ hw2 hrel.2
set_option maxHeartbeats 1000000 in
set_option maxRecDepth 100000 in
theorem law_breaks {L : Nat} {xs : Nat → Int32} {nm : String} {g : Nat → Nat → List xE → Nat → List (Option Value) → List Value → Prop} (C : SemL room_1 L xs nm g) (hL : L ≤ 384) (i : Nat) (hi : i + 6 ≤ L) (θ : List xE) (S : Nat → Nat → Nat → Int32) (M : Nat → Nat → Int32) (hw : LWp θ S M) (hR : Rel S M) (kk : ∀ (θ' : List xE) (S' : Nat → Nat → Nat → Int32) (M' : Nat → Nat → Int32), LWp θ' S' M' → Rel S' M' → g 69 3053 θ' 1222 [some (.ref 1000000), some (.ref 0), some (.ref 55), some (.int (nI i))] []) : g 69 3053 θ 965 [some (.ref 1000000), some (.ref 0), some (.ref 55), some (.int (nI i))] [] := by
  obtain ⟨z, o, q, ln, tr, h⟩ := hR
  have hrel := rel_breaks h (xs (i + 1)) (xs (i + 2)) (xs (i + 3)) (xs (i + 4)) (xs (i + 5))
  refine r_aload_n (pc := 965) C.sem dL_law_965 rfl rfl ?_
  refine r_aload_n (pc := 966) C.sem dL_law_966 rfl rfl ?_
  refine r_iload_n (pc := 967) C.sem dL_law_967 rfl rfl ?_
  refine r_iconst (pc := 968) (v := 1) C.sem dL_law_968 (by decide) ?_
  refine r_iadd (pc := 969) C.sem dL_law_969 ?_
  refine r_sld (pc := 970) C (i + 1) dL_law_970 (nI_sum (m := i) (n := 1) rfl rfl) (by omega) (by omega) (by have := hw.1; omega) ?_
  refine r_aload_n (pc := 971) C.sem dL_law_971 rfl rfl ?_
  refine r_iload_n (pc := 972) C.sem dL_law_972 rfl rfl ?_
  refine r_iconst (pc := 973) (v := 2) C.sem dL_law_973 (by decide) ?_
  refine r_iadd (pc := 974) C.sem dL_law_974 ?_
  refine r_sld (pc := 975) C (i + 2) dL_law_975 (nI_sum (m := i) (n := 2) rfl rfl) (by omega) (by omega) (by have := hw.1; omega) ?_
  refine r_aload_n (pc := 976) C.sem dL_law_976 rfl rfl ?_
  refine r_iload_n (pc := 977) C.sem dL_law_977 rfl rfl ?_
  refine r_iconst (pc := 978) (v := 3) C.sem dL_law_978 (by decide) ?_
  refine r_iadd (pc := 979) C.sem dL_law_979 ?_
  refine r_sld (pc := 980) C (i + 3) dL_law_980 (nI_sum (m := i) (n := 3) rfl rfl) (by omega) (by omega) (by have := hw.1; omega) ?_
  refine r_aload_n (pc := 981) C.sem dL_law_981 rfl rfl ?_
  refine r_iload_n (pc := 982) C.sem dL_law_982 rfl rfl ?_
  refine r_iconst (pc := 983) (v := 4) C.sem dL_law_983 (by decide) ?_
  refine r_iadd (pc := 984) C.sem dL_law_984 ?_
  refine r_sld (pc := 985) C (i + 4) dL_law_985 (nI_sum (m := i) (n := 4) rfl rfl) (by omega) (by omega) (by have := hw.1; omega) ?_
  refine r_aload_n (pc := 986) C.sem dL_law_986 rfl rfl ?_
  refine r_iload_n (pc := 987) C.sem dL_law_987 rfl rfl ?_
  refine r_iconst (pc := 988) (v := 5) C.sem dL_law_988 (by decide) ?_
  refine r_iadd (pc := 989) C.sem dL_law_989 ?_
  refine r_sld (pc := 990) C (i + 5) dL_law_990 (nI_sum (m := i) (n := 5) rfl rfl) (by omega) (by omega) (by have := hw.1; omega) ?_
  refine r_callVD (pc := 991) (b := 0) (b' := 0) (As := [.int (xs (i + 1)), .int (xs (i + 2)), .int (xs (i + 3)), .int (xs (i + 4)), .int (xs (i + 5))]) (st := []) (r2 := some (.int ((breaksC S z (xs (i + 1)) (xs (i + 2)) (xs (i + 3)) (xs (i + 4)) (xs (i + 5))).1))) C.sem isC (c_X5_breaks S (xs (i + 1)) (xs (i + 2)) (xs (i + 3)) (xs (i + 4)) (xs (i + 5)) z (rp_S h)) xm_X5_breaks xk_L_111 dL_law_991 (LWp_cT hw) isC_nd rfl (LWp_c0 hw) rfl rfl rfl (Nat.le_of_ble_eq_true rfl) ⟨Nat.le_of_ble_eq_true rfl, Nat.le_of_ble_eq_true rfl⟩ ⟨rfl, rfl⟩ ⟨Nat.le_of_ble_eq_true rfl, Nat.le_of_ble_eq_true rfl⟩ rfl ((wC_len _).trans (wC_len _).symm) rfl rfl ?_
  have hw1 := LWp_c hw ((breaksC S z (xs (i + 1)) (xs (i + 2)) (xs (i + 3)) (xs (i + 4)) (xs (i + 5))).2)
  show g 69 3053 (xSet θ isC ((wC ((breaksC S z (xs (i + 1)) (xs (i + 2)) (xs (i + 3)) (xs (i + 4)) (xs (i + 5))).2)).map (xEr (xS isC θ.length)))) 994 [some (.ref 1000000), some (.ref 0), some (.ref 55), some (.int (nI i))] [.int ((breaksC S z (xs (i + 1)) (xs (i + 2)) (xs (i + 3)) (xs (i + 4)) (xs (i + 5))).1)]
  generalize xSet θ isC ((wC ((breaksC S z (xs (i + 1)) (xs (i + 2)) (xs (i + 3)) (xs (i + 4)) (xs (i + 5))).2)).map (xEr (xS isC θ.length))) = θ1 at hw1 ⊢
  refine r_aload_n (pc := 994) C.sem dL_law_994 rfl rfl ?_
  refine r_aload_n (pc := 995) C.sem dL_law_995 rfl rfl ?_
  refine r_iload_n (pc := 996) C.sem dL_law_996 rfl rfl ?_
  refine r_iconst (pc := 997) (v := 1) C.sem dL_law_997 (by decide) ?_
  refine r_iadd (pc := 998) C.sem dL_law_998 ?_
  refine r_sld (pc := 999) C (i + 1) dL_law_999 (nI_sum (m := i) (n := 1) rfl rfl) (by omega) (by omega) (by have := hw1.1; omega) ?_
  refine r_aload_n (pc := 1000) C.sem dL_law_1000 rfl rfl ?_
  refine r_iload_n (pc := 1001) C.sem dL_law_1001 rfl rfl ?_
  refine r_iconst (pc := 1002) (v := 2) C.sem dL_law_1002 (by decide) ?_
  refine r_iadd (pc := 1003) C.sem dL_law_1003 ?_
  refine r_sld (pc := 1004) C (i + 2) dL_law_1004 (nI_sum (m := i) (n := 2) rfl rfl) (by omega) (by omega) (by have := hw1.1; omega) ?_
  refine r_aload_n (pc := 1005) C.sem dL_law_1005 rfl rfl ?_
  refine r_iload_n (pc := 1006) C.sem dL_law_1006 rfl rfl ?_
  refine r_iconst (pc := 1007) (v := 3) C.sem dL_law_1007 (by decide) ?_
  refine r_iadd (pc := 1008) C.sem dL_law_1008 ?_
  refine r_sld (pc := 1009) C (i + 3) dL_law_1009 (nI_sum (m := i) (n := 3) rfl rfl) (by omega) (by omega) (by have := hw1.1; omega) ?_
  refine r_aload_n (pc := 1010) C.sem dL_law_1010 rfl rfl ?_
  refine r_iload_n (pc := 1011) C.sem dL_law_1011 rfl rfl ?_
  refine r_iconst (pc := 1012) (v := 4) C.sem dL_law_1012 (by decide) ?_
  refine r_iadd (pc := 1013) C.sem dL_law_1013 ?_
  refine r_sld (pc := 1014) C (i + 4) dL_law_1014 (nI_sum (m := i) (n := 4) rfl rfl) (by omega) (by omega) (by have := hw1.1; omega) ?_
  refine r_aload_n (pc := 1015) C.sem dL_law_1015 rfl rfl ?_
  refine r_iload_n (pc := 1016) C.sem dL_law_1016 rfl rfl ?_
  refine r_iconst (pc := 1017) (v := 5) C.sem dL_law_1017 (by decide) ?_
  refine r_iadd (pc := 1018) C.sem dL_law_1018 ?_
  refine r_sld (pc := 1019) C (i + 5) dL_law_1019 (nI_sum (m := i) (n := 5) rfl rfl) (by omega) (by omega) (by have := hw1.1; omega) ?_
  obtain ⟨fs1, hf1⟩ := LWp_m0 hw1
  refine r_callVD (pc := 1020) (b := 55) (b' := 0) (As := [.int (xs (i + 1)), .int (xs (i + 2)), .int (xs (i + 3)), .int (xs (i + 4)), .int (xs (i + 5))]) (st := [.int ((breaksC S z (xs (i + 1)) (xs (i + 2)) (xs (i + 3)) (xs (i + 4)) (xs (i + 5))).1)]) (r2 := some (.int ((breaksM M z (xs (i + 1)) (xs (i + 2)) (xs (i + 3)) (xs (i + 4)) (xs (i + 5))).1))) C.sem isM (c_X6_breaks M (xs (i + 1)) (xs (i + 2)) (xs (i + 3)) (xs (i + 4)) (xs (i + 5)) z (rp_M h) (rel_bel h) (rel_br h)) xm_X6_breaks xk_L_114 dL_law_1020 (LWp_mT hw1) isM_nd rfl hf1 rfl rfl rfl (Nat.le_of_ble_eq_true rfl) ⟨Nat.le_of_ble_eq_true rfl, Nat.le_of_ble_eq_true rfl⟩ ⟨rfl, rfl⟩ ⟨Nat.le_of_ble_eq_true rfl, Nat.le_of_ble_eq_true rfl⟩ rfl ((wM_len _).trans (wM_len _).symm) rfl rfl ?_
  have hw2 := LWp_m hw1 ((breaksM M z (xs (i + 1)) (xs (i + 2)) (xs (i + 3)) (xs (i + 4)) (xs (i + 5))).2)
  show g 69 3053 (xSet θ1 isM ((wM ((breaksM M z (xs (i + 1)) (xs (i + 2)) (xs (i + 3)) (xs (i + 4)) (xs (i + 5))).2)).map (xEr (xS isM θ1.length)))) 1023 [some (.ref 1000000), some (.ref 0), some (.ref 55), some (.int (nI i))] [.int ((breaksM M z (xs (i + 1)) (xs (i + 2)) (xs (i + 3)) (xs (i + 4)) (xs (i + 5))).1), .int ((breaksC S z (xs (i + 1)) (xs (i + 2)) (xs (i + 3)) (xs (i + 4)) (xs (i + 5))).1)]
  generalize xSet θ1 isM ((wM ((breaksM M z (xs (i + 1)) (xs (i + 2)) (xs (i + 3)) (xs (i + 4)) (xs (i + 5))).2)).map (xEr (xS isM θ1.length))) = θ2 at hw2 ⊢
  refine r_icmp_eq (pc := 1023) (tgt := 1222) C.sem dL_law_1023 (by decide) (fun _ => ?_) (fun hne => absurd hrel.1 hne)
  exact kk _ _ _ hw2 hrel.2
set_option maxHeartbeats 1000000 in
set_option maxRecDepth 100000 in
theorem law_image {L : Nat} {xs : Nat → Int32} {nm : String} {g : Nat → Nat → List xE → Nat → List (Option Value) → List Value → Prop} (C : SemL room_1 L xs nm g) (hL : L ≤ 384) (i : Nat) (hi : i + 6 ≤ L) (θ : List xE) (S : Nat → Nat → Nat → Int32) (M : Nat → Nat → Int32) (hw : LWp θ S M) (hR : Rel S M) (kk : ∀ (θ' : List xE) (S' : Nat → Nat → Nat → Int32) (M' : Nat → Nat → Int32), LWp θ' S' M' → Rel S' M' → g 69 3053 θ' 1222 [some (.ref 1000000), some (.ref 0), some (.ref 55), some (.int (nI i))] []) : g 69 3053 θ 1028 [some (.ref 1000000), some (.ref 0), some (.ref 55), some (.int (nI i))] [] := by
  obtain ⟨z, o, q, ln, tr, h⟩ := hR
  have hrel := rel_image h (xs (i + 1))
  refine r_aload_n (pc := 1028) C.sem dL_law_1028 rfl rfl ?_
  refine r_aload_n (pc := 1029) C.sem dL_law_1029 rfl rfl ?_
  refine r_iload_n (pc := 1030) C.sem dL_law_1030 rfl rfl ?_
  refine r_iconst (pc := 1031) (v := 1) C.sem dL_law_1031 (by decide) ?_
  refine r_iadd (pc := 1032) C.sem dL_law_1032 ?_
  refine r_sld (pc := 1033) C (i + 1) dL_law_1033 (nI_sum (m := i) (n := 1) rfl rfl) (by omega) (by omega) (by have := hw.1; omega) ?_
  refine r_callVD (pc := 1034) (b := 0) (b' := 0) (As := [.int (xs (i + 1))]) (st := []) (r2 := some (.int ((imgC S (xs (i + 1))).1))) C.sem isC (c_X5_image S (xs (i + 1)) (rp_52 h)) xm_X5_image xk_L_115 dL_law_1034 (LWp_cT hw) isC_nd rfl (LWp_c0 hw) rfl rfl rfl (Nat.le_of_ble_eq_true rfl) ⟨Nat.le_of_ble_eq_true rfl, Nat.le_of_ble_eq_true rfl⟩ ⟨rfl, rfl⟩ ⟨Nat.le_of_ble_eq_true rfl, Nat.le_of_ble_eq_true rfl⟩ rfl ((wC_len _).trans (wC_len _).symm) rfl rfl ?_
  have hw1 := LWp_c hw ((imgC S (xs (i + 1))).2)
  show g 69 3053 (xSet θ isC ((wC ((imgC S (xs (i + 1))).2)).map (xEr (xS isC θ.length)))) 1037 [some (.ref 1000000), some (.ref 0), some (.ref 55), some (.int (nI i))] [.int ((imgC S (xs (i + 1))).1)]
  generalize xSet θ isC ((wC ((imgC S (xs (i + 1))).2)).map (xEr (xS isC θ.length))) = θ1 at hw1 ⊢
  refine r_aload_n (pc := 1037) C.sem dL_law_1037 rfl rfl ?_
  refine r_aload_n (pc := 1038) C.sem dL_law_1038 rfl rfl ?_
  refine r_iload_n (pc := 1039) C.sem dL_law_1039 rfl rfl ?_
  refine r_iconst (pc := 1040) (v := 1) C.sem dL_law_1040 (by decide) ?_
  refine r_iadd (pc := 1041) C.sem dL_law_1041 ?_
  refine r_sld (pc := 1042) C (i + 1) dL_law_1042 (nI_sum (m := i) (n := 1) rfl rfl) (by omega) (by omega) (by have := hw1.1; omega) ?_
  obtain ⟨fs1, hf1⟩ := LWp_m0 hw1
  refine r_callVD (pc := 1043) (b := 55) (b' := 0) (As := [.int (xs (i + 1))]) (st := [.int ((imgC S (xs (i + 1))).1)]) (r2 := some (.int ((imgM M (xs (i + 1))).1))) C.sem isM (c_X6_image M (xs (i + 1)) ) xm_X6_image xk_L_118 dL_law_1043 (LWp_mT hw1) isM_nd rfl hf1 rfl rfl rfl (Nat.le_of_ble_eq_true rfl) ⟨Nat.le_of_ble_eq_true rfl, Nat.le_of_ble_eq_true rfl⟩ ⟨rfl, rfl⟩ ⟨Nat.le_of_ble_eq_true rfl, Nat.le_of_ble_eq_true rfl⟩ rfl ((wM_len _).trans (wM_len _).symm) rfl rfl ?_
  have hw2 := LWp_m hw1 ((imgM M (xs (i + 1))).2)
  show g 69 3053 (xSet θ1 isM ((wM ((imgM M (xs (i + 1))).2)).map (xEr (xS isM θ1.length)))) 1046 [some (.ref 1000000), some (.ref 0), some (.ref 55), some (.int (nI i))] [.int ((imgM M (xs (i + 1))).1), .int ((imgC S (xs (i + 1))).1)]
  generalize xSet θ1 isM ((wM ((imgM M (xs (i + 1))).2)).map (xEr (xS isM θ1.length))) = θ2 at hw2 ⊢
  refine r_icmp_eq (pc := 1046) (tgt := 1222) C.sem dL_law_1046 (by decide) (fun _ => ?_) (fun hne => absurd hrel.1 hne)
  exact kk _ _ _ hw2 hrel.2
set_option maxHeartbeats 1000000 in
set_option maxRecDepth 100000 in
theorem law_restore {L : Nat} {xs : Nat → Int32} {nm : String} {g : Nat → Nat → List xE → Nat → List (Option Value) → List Value → Prop} (C : SemL room_1 L xs nm g) (hL : L ≤ 384) (i : Nat) (hi : i + 6 ≤ L) (θ : List xE) (S : Nat → Nat → Nat → Int32) (M : Nat → Nat → Int32) (hw : LWp θ S M) (hR : Rel S M) (kk : ∀ (θ' : List xE) (S' : Nat → Nat → Nat → Int32) (M' : Nat → Nat → Int32), LWp θ' S' M' → Rel S' M' → g 69 3053 θ' 1222 [some (.ref 1000000), some (.ref 0), some (.ref 55), some (.int (nI i))] []) : g 69 3053 θ 1051 [some (.ref 1000000), some (.ref 0), some (.ref 55), some (.int (nI i))] [] := by
  obtain ⟨z, o, q, ln, tr, h⟩ := hR
  have hrel := rel_restore h (xs (i + 1))
  refine r_aload_n (pc := 1051) C.sem dL_law_1051 rfl rfl ?_
  refine r_aload_n (pc := 1052) C.sem dL_law_1052 rfl rfl ?_
  refine r_iload_n (pc := 1053) C.sem dL_law_1053 rfl rfl ?_
  refine r_iconst (pc := 1054) (v := 1) C.sem dL_law_1054 (by decide) ?_
  refine r_iadd (pc := 1055) C.sem dL_law_1055 ?_
  refine r_sld (pc := 1056) C (i + 1) dL_law_1056 (nI_sum (m := i) (n := 1) rfl rfl) (by omega) (by omega) (by have := hw.1; omega) ?_
  refine r_callVD (pc := 1057) (b := 0) (b' := 0) (As := [.int (xs (i + 1))]) (st := []) (r2 := some (.int ((restC S (xs (i + 1))).1))) C.sem isC (c_X5_restore S (xs (i + 1)) (rp_5k h 0 (by decide)) (rp_5k h 1 (by decide))) xm_X5_restore xk_L_119 dL_law_1057 (LWp_cT hw) isC_nd rfl (LWp_c0 hw) rfl rfl rfl (Nat.le_of_ble_eq_true rfl) ⟨Nat.le_of_ble_eq_true rfl, Nat.le_of_ble_eq_true rfl⟩ ⟨rfl, rfl⟩ ⟨Nat.le_of_ble_eq_true rfl, Nat.le_of_ble_eq_true rfl⟩ rfl ((wC_len _).trans (wC_len _).symm) rfl rfl ?_
  have hw1 := LWp_c hw ((restC S (xs (i + 1))).2)
  show g 69 3053 (xSet θ isC ((wC ((restC S (xs (i + 1))).2)).map (xEr (xS isC θ.length)))) 1060 [some (.ref 1000000), some (.ref 0), some (.ref 55), some (.int (nI i))] [.int ((restC S (xs (i + 1))).1)]
  generalize xSet θ isC ((wC ((restC S (xs (i + 1))).2)).map (xEr (xS isC θ.length))) = θ1 at hw1 ⊢
  refine r_aload_n (pc := 1060) C.sem dL_law_1060 rfl rfl ?_
  refine r_aload_n (pc := 1061) C.sem dL_law_1061 rfl rfl ?_
  refine r_iload_n (pc := 1062) C.sem dL_law_1062 rfl rfl ?_
  refine r_iconst (pc := 1063) (v := 1) C.sem dL_law_1063 (by decide) ?_
  refine r_iadd (pc := 1064) C.sem dL_law_1064 ?_
  refine r_sld (pc := 1065) C (i + 1) dL_law_1065 (nI_sum (m := i) (n := 1) rfl rfl) (by omega) (by omega) (by have := hw1.1; omega) ?_
  obtain ⟨fs1, hf1⟩ := LWp_m0 hw1
  refine r_callVD (pc := 1066) (b := 55) (b' := 0) (As := [.int (xs (i + 1))]) (st := [.int ((restC S (xs (i + 1))).1)]) (r2 := some (.int ((restM M (xs (i + 1))).1))) C.sem isM (c_X6_restore M (xs (i + 1)) ) xm_X6_restore xk_L_122 dL_law_1066 (LWp_mT hw1) isM_nd rfl hf1 rfl rfl rfl (Nat.le_of_ble_eq_true rfl) ⟨Nat.le_of_ble_eq_true rfl, Nat.le_of_ble_eq_true rfl⟩ ⟨rfl, rfl⟩ ⟨Nat.le_of_ble_eq_true rfl, Nat.le_of_ble_eq_true rfl⟩ rfl ((wM_len _).trans (wM_len _).symm) rfl rfl ?_
  have hw2 := LWp_m hw1 ((restM M (xs (i + 1))).2)
  show g 69 3053 (xSet θ1 isM ((wM ((restM M (xs (i + 1))).2)).map (xEr (xS isM θ1.length)))) 1069 [some (.ref 1000000), some (.ref 0), some (.ref 55), some (.int (nI i))] [.int ((restM M (xs (i + 1))).1), .int ((restC S (xs (i + 1))).1)]
  generalize xSet θ1 isM ((wM ((restM M (xs (i + 1))).2)).map (xEr (xS isM θ1.length))) = θ2 at hw2 ⊢
  refine r_icmp_eq (pc := 1069) (tgt := 1222) C.sem dL_law_1069 (by decide) (fun _ => ?_) (fun hne => absurd hrel.1 hne)
  exact kk _ _ _ hw2 hrel.2
set_option maxHeartbeats 1000000 in
set_option maxRecDepth 100000 in
theorem law_kind {L : Nat} {xs : Nat → Int32} {nm : String} {g : Nat → Nat → List xE → Nat → List (Option Value) → List Value → Prop} (C : SemL room_1 L xs nm g) (hL : L ≤ 384) (i : Nat) (hi : i + 6 ≤ L) (θ : List xE) (S : Nat → Nat → Nat → Int32) (M : Nat → Nat → Int32) (hw : LWp θ S M) (hR : Rel S M) (kk : ∀ (θ' : List xE) (S' : Nat → Nat → Nat → Int32) (M' : Nat → Nat → Int32), LWp θ' S' M' → Rel S' M' → g 69 3053 θ' 1222 [some (.ref 1000000), some (.ref 0), some (.ref 55), some (.int (nI i))] []) : g 69 3053 θ 1074 [some (.ref 1000000), some (.ref 0), some (.ref 55), some (.int (nI i))] [] := by
  obtain ⟨z, o, q, ln, tr, h⟩ := hR
  have hrel := rel_kind h (xs (i + 1))
  refine r_aload_n (pc := 1074) C.sem dL_law_1074 rfl rfl ?_
  refine r_aload_n (pc := 1075) C.sem dL_law_1075 rfl rfl ?_
  refine r_iload_n (pc := 1076) C.sem dL_law_1076 rfl rfl ?_
  refine r_iconst (pc := 1077) (v := 1) C.sem dL_law_1077 (by decide) ?_
  refine r_iadd (pc := 1078) C.sem dL_law_1078 ?_
  refine r_sld (pc := 1079) C (i + 1) dL_law_1079 (nI_sum (m := i) (n := 1) rfl rfl) (by omega) (by omega) (by have := hw.1; omega) ?_
  refine r_callVD (pc := 1080) (b := 0) (b' := 0) (As := [.int (xs (i + 1))]) (st := []) (r2 := some (.int (kindC S (xs (i + 1))))) C.sem isC (c_X5_kind S (xs (i + 1)) z (rp_S h)) xm_X5_kind xk_L_123 dL_law_1080 (LWp_cT hw) isC_nd rfl (LWp_c0 hw) rfl rfl rfl (Nat.le_of_ble_eq_true rfl) ⟨Nat.le_of_ble_eq_true rfl, Nat.le_of_ble_eq_true rfl⟩ ⟨rfl, rfl⟩ ⟨Nat.le_of_ble_eq_true rfl, Nat.le_of_ble_eq_true rfl⟩ rfl ((wC_len _).trans (wC_len _).symm) rfl rfl ?_
  have hw1 := LWp_c hw (S)
  show g 69 3053 (xSet θ isC ((wC (S)).map (xEr (xS isC θ.length)))) 1083 [some (.ref 1000000), some (.ref 0), some (.ref 55), some (.int (nI i))] [.int (kindC S (xs (i + 1)))]
  generalize xSet θ isC ((wC (S)).map (xEr (xS isC θ.length))) = θ1 at hw1 ⊢
  refine r_aload_n (pc := 1083) C.sem dL_law_1083 rfl rfl ?_
  refine r_aload_n (pc := 1084) C.sem dL_law_1084 rfl rfl ?_
  refine r_iload_n (pc := 1085) C.sem dL_law_1085 rfl rfl ?_
  refine r_iconst (pc := 1086) (v := 1) C.sem dL_law_1086 (by decide) ?_
  refine r_iadd (pc := 1087) C.sem dL_law_1087 ?_
  refine r_sld (pc := 1088) C (i + 1) dL_law_1088 (nI_sum (m := i) (n := 1) rfl rfl) (by omega) (by omega) (by have := hw1.1; omega) ?_
  obtain ⟨fs1, hf1⟩ := LWp_m0 hw1
  refine r_callVD (pc := 1089) (b := 55) (b' := 0) (As := [.int (xs (i + 1))]) (st := [.int (kindC S (xs (i + 1)))]) (r2 := some (.int (kindM M (xs (i + 1))))) C.sem isM (c_X6_kind M (xs (i + 1)) z (rp_M h).1 (rp_M h).2.1) xm_X6_kind xk_L_126 dL_law_1089 (LWp_mT hw1) isM_nd rfl hf1 rfl rfl rfl (Nat.le_of_ble_eq_true rfl) ⟨Nat.le_of_ble_eq_true rfl, Nat.le_of_ble_eq_true rfl⟩ ⟨rfl, rfl⟩ ⟨Nat.le_of_ble_eq_true rfl, Nat.le_of_ble_eq_true rfl⟩ rfl ((wM_len _).trans (wM_len _).symm) rfl rfl ?_
  have hw2 := LWp_m hw1 (M)
  show g 69 3053 (xSet θ1 isM ((wM (M)).map (xEr (xS isM θ1.length)))) 1092 [some (.ref 1000000), some (.ref 0), some (.ref 55), some (.int (nI i))] [.int (kindM M (xs (i + 1))), .int (kindC S (xs (i + 1)))]
  generalize xSet θ1 isM ((wM (M)).map (xEr (xS isM θ1.length))) = θ2 at hw2 ⊢
  refine r_icmp_eq (pc := 1092) (tgt := 1222) C.sem dL_law_1092 (by decide) (fun _ => ?_) (fun hne => absurd hrel.1 hne)
  exact kk _ _ _ hw2 hrel.2
set_option maxHeartbeats 1000000 in
set_option maxRecDepth 100000 in
theorem law_as {L : Nat} {xs : Nat → Int32} {nm : String} {g : Nat → Nat → List xE → Nat → List (Option Value) → List Value → Prop} (C : SemL room_1 L xs nm g) (hL : L ≤ 384) (i : Nat) (hi : i + 6 ≤ L) (θ : List xE) (S : Nat → Nat → Nat → Int32) (M : Nat → Nat → Int32) (hw : LWp θ S M) (hR : Rel S M) (kk : ∀ (θ' : List xE) (S' : Nat → Nat → Nat → Int32) (M' : Nat → Nat → Int32), LWp θ' S' M' → Rel S' M' → g 69 3053 θ' 1222 [some (.ref 1000000), some (.ref 0), some (.ref 55), some (.int (nI i))] []) : g 69 3053 θ 1097 [some (.ref 1000000), some (.ref 0), some (.ref 55), some (.int (nI i))] [] := by
  obtain ⟨z, o, q, ln, tr, h⟩ := hR
  have hrel := rel_as h (xs (i + 1)) (xs (i + 2))
  refine r_aload_n (pc := 1097) C.sem dL_law_1097 rfl rfl ?_
  refine r_aload_n (pc := 1098) C.sem dL_law_1098 rfl rfl ?_
  refine r_iload_n (pc := 1099) C.sem dL_law_1099 rfl rfl ?_
  refine r_iconst (pc := 1100) (v := 1) C.sem dL_law_1100 (by decide) ?_
  refine r_iadd (pc := 1101) C.sem dL_law_1101 ?_
  refine r_sld (pc := 1102) C (i + 1) dL_law_1102 (nI_sum (m := i) (n := 1) rfl rfl) (by omega) (by omega) (by have := hw.1; omega) ?_
  refine r_aload_n (pc := 1103) C.sem dL_law_1103 rfl rfl ?_
  refine r_iload_n (pc := 1104) C.sem dL_law_1104 rfl rfl ?_
  refine r_iconst (pc := 1105) (v := 2) C.sem dL_law_1105 (by decide) ?_
  refine r_iadd (pc := 1106) C.sem dL_law_1106 ?_
  refine r_sld (pc := 1107) C (i + 2) dL_law_1107 (nI_sum (m := i) (n := 2) rfl rfl) (by omega) (by omega) (by have := hw.1; omega) ?_
  refine r_callVD (pc := 1108) (b := 0) (b' := 0) (As := [.int (xs (i + 1)), .int (xs (i + 2))]) (st := []) (r2 := some (.int ((asC S (xs (i + 1)) (xs (i + 2))).1))) C.sem isC (c_X5_as S (xs (i + 1)) (xs (i + 2)) z (rp_S h) (rp_k h)) xm_X5_as xk_L_127 dL_law_1108 (LWp_cT hw) isC_nd rfl (LWp_c0 hw) rfl rfl rfl (Nat.le_of_ble_eq_true rfl) ⟨Nat.le_of_ble_eq_true rfl, Nat.le_of_ble_eq_true rfl⟩ ⟨rfl, rfl⟩ ⟨Nat.le_of_ble_eq_true rfl, Nat.le_of_ble_eq_true rfl⟩ rfl ((wC_len _).trans (wC_len _).symm) rfl rfl ?_
  have hw1 := LWp_c hw ((asC S (xs (i + 1)) (xs (i + 2))).2)
  show g 69 3053 (xSet θ isC ((wC ((asC S (xs (i + 1)) (xs (i + 2))).2)).map (xEr (xS isC θ.length)))) 1111 [some (.ref 1000000), some (.ref 0), some (.ref 55), some (.int (nI i))] [.int ((asC S (xs (i + 1)) (xs (i + 2))).1)]
  generalize xSet θ isC ((wC ((asC S (xs (i + 1)) (xs (i + 2))).2)).map (xEr (xS isC θ.length))) = θ1 at hw1 ⊢
  refine r_aload_n (pc := 1111) C.sem dL_law_1111 rfl rfl ?_
  refine r_aload_n (pc := 1112) C.sem dL_law_1112 rfl rfl ?_
  refine r_iload_n (pc := 1113) C.sem dL_law_1113 rfl rfl ?_
  refine r_iconst (pc := 1114) (v := 1) C.sem dL_law_1114 (by decide) ?_
  refine r_iadd (pc := 1115) C.sem dL_law_1115 ?_
  refine r_sld (pc := 1116) C (i + 1) dL_law_1116 (nI_sum (m := i) (n := 1) rfl rfl) (by omega) (by omega) (by have := hw1.1; omega) ?_
  refine r_aload_n (pc := 1117) C.sem dL_law_1117 rfl rfl ?_
  refine r_iload_n (pc := 1118) C.sem dL_law_1118 rfl rfl ?_
  refine r_iconst (pc := 1119) (v := 2) C.sem dL_law_1119 (by decide) ?_
  refine r_iadd (pc := 1120) C.sem dL_law_1120 ?_
  refine r_sld (pc := 1121) C (i + 2) dL_law_1121 (nI_sum (m := i) (n := 2) rfl rfl) (by omega) (by omega) (by have := hw1.1; omega) ?_
  obtain ⟨fs1, hf1⟩ := LWp_m0 hw1
  refine r_callVD (pc := 1122) (b := 55) (b' := 0) (As := [.int (xs (i + 1)), .int (xs (i + 2))]) (st := [.int ((asC S (xs (i + 1)) (xs (i + 2))).1)]) (r2 := some (.int ((asM M (xs (i + 1)) (xs (i + 2))).1))) C.sem isM (c_X6_as M (xs (i + 1)) (xs (i + 2)) z (rp_M h)) xm_X6_as xk_L_130 dL_law_1122 (LWp_mT hw1) isM_nd rfl hf1 rfl rfl rfl (Nat.le_of_ble_eq_true rfl) ⟨Nat.le_of_ble_eq_true rfl, Nat.le_of_ble_eq_true rfl⟩ ⟨rfl, rfl⟩ ⟨Nat.le_of_ble_eq_true rfl, Nat.le_of_ble_eq_true rfl⟩ rfl ((wM_len _).trans (wM_len _).symm) rfl rfl ?_
  have hw2 := LWp_m hw1 ((asM M (xs (i + 1)) (xs (i + 2))).2)
  show g 69 3053 (xSet θ1 isM ((wM ((asM M (xs (i + 1)) (xs (i + 2))).2)).map (xEr (xS isM θ1.length)))) 1125 [some (.ref 1000000), some (.ref 0), some (.ref 55), some (.int (nI i))] [.int ((asM M (xs (i + 1)) (xs (i + 2))).1), .int ((asC S (xs (i + 1)) (xs (i + 2))).1)]
  generalize xSet θ1 isM ((wM ((asM M (xs (i + 1)) (xs (i + 2))).2)).map (xEr (xS isM θ1.length))) = θ2 at hw2 ⊢
  refine r_icmp_eq (pc := 1125) (tgt := 1222) C.sem dL_law_1125 (by decide) (fun _ => ?_) (fun hne => absurd hrel.1 hne)
  exact kk _ _ _ hw2 hrel.2
set_option maxHeartbeats 1000000 in
set_option maxRecDepth 100000 in
theorem law_ask {L : Nat} {xs : Nat → Int32} {nm : String} {g : Nat → Nat → List xE → Nat → List (Option Value) → List Value → Prop} (C : SemL room_1 L xs nm g) (hL : L ≤ 384) (i : Nat) (hi : i + 6 ≤ L) (θ : List xE) (S : Nat → Nat → Nat → Int32) (M : Nat → Nat → Int32) (hw : LWp θ S M) (hR : Rel S M) (kk : ∀ (θ' : List xE) (S' : Nat → Nat → Nat → Int32) (M' : Nat → Nat → Int32), LWp θ' S' M' → Rel S' M' → g 69 3053 θ' 1222 [some (.ref 1000000), some (.ref 0), some (.ref 55), some (.int (nI i))] []) : g 69 3053 θ 1130 [some (.ref 1000000), some (.ref 0), some (.ref 55), some (.int (nI i))] [] := by
  obtain ⟨z, o, q, ln, tr, h⟩ := hR
  have hrel := rel_ask h (xs (i + 1)) (xs (i + 2))
  refine r_aload_n (pc := 1130) C.sem dL_law_1130 rfl rfl ?_
  refine r_aload_n (pc := 1131) C.sem dL_law_1131 rfl rfl ?_
  refine r_iload_n (pc := 1132) C.sem dL_law_1132 rfl rfl ?_
  refine r_iconst (pc := 1133) (v := 1) C.sem dL_law_1133 (by decide) ?_
  refine r_iadd (pc := 1134) C.sem dL_law_1134 ?_
  refine r_sld (pc := 1135) C (i + 1) dL_law_1135 (nI_sum (m := i) (n := 1) rfl rfl) (by omega) (by omega) (by have := hw.1; omega) ?_
  refine r_aload_n (pc := 1136) C.sem dL_law_1136 rfl rfl ?_
  refine r_iload_n (pc := 1137) C.sem dL_law_1137 rfl rfl ?_
  refine r_iconst (pc := 1138) (v := 2) C.sem dL_law_1138 (by decide) ?_
  refine r_iadd (pc := 1139) C.sem dL_law_1139 ?_
  refine r_sld (pc := 1140) C (i + 2) dL_law_1140 (nI_sum (m := i) (n := 2) rfl rfl) (by omega) (by omega) (by have := hw.1; omega) ?_
  refine r_callVD (pc := 1141) (b := 0) (b' := 0) (As := [.int (xs (i + 1)), .int (xs (i + 2))]) (st := []) (r2 := some (.int ((askC S (xs (i + 1)) (xs (i + 2))).1))) C.sem isC (c_X5_ask S (xs (i + 1)) (xs (i + 2)) z (rp_S h) (rp_k h)) xm_X5_ask xk_L_131 dL_law_1141 (LWp_cT hw) isC_nd rfl (LWp_c0 hw) rfl rfl rfl (Nat.le_of_ble_eq_true rfl) ⟨Nat.le_of_ble_eq_true rfl, Nat.le_of_ble_eq_true rfl⟩ ⟨rfl, rfl⟩ ⟨Nat.le_of_ble_eq_true rfl, Nat.le_of_ble_eq_true rfl⟩ rfl ((wC_len _).trans (wC_len _).symm) rfl rfl ?_
  have hw1 := LWp_c hw ((askC S (xs (i + 1)) (xs (i + 2))).2)
  show g 69 3053 (xSet θ isC ((wC ((askC S (xs (i + 1)) (xs (i + 2))).2)).map (xEr (xS isC θ.length)))) 1144 [some (.ref 1000000), some (.ref 0), some (.ref 55), some (.int (nI i))] [.int ((askC S (xs (i + 1)) (xs (i + 2))).1)]
  generalize xSet θ isC ((wC ((askC S (xs (i + 1)) (xs (i + 2))).2)).map (xEr (xS isC θ.length))) = θ1 at hw1 ⊢
  refine r_aload_n (pc := 1144) C.sem dL_law_1144 rfl rfl ?_
  refine r_aload_n (pc := 1145) C.sem dL_law_1145 rfl rfl ?_
  refine r_iload_n (pc := 1146) C.sem dL_law_1146 rfl rfl ?_
  refine r_iconst (pc := 1147) (v := 1) C.sem dL_law_1147 (by decide) ?_
  refine r_iadd (pc := 1148) C.sem dL_law_1148 ?_
  refine r_sld (pc := 1149) C (i + 1) dL_law_1149 (nI_sum (m := i) (n := 1) rfl rfl) (by omega) (by omega) (by have := hw1.1; omega) ?_
  refine r_aload_n (pc := 1150) C.sem dL_law_1150 rfl rfl ?_
  refine r_iload_n (pc := 1151) C.sem dL_law_1151 rfl rfl ?_
  refine r_iconst (pc := 1152) (v := 2) C.sem dL_law_1152 (by decide) ?_
  refine r_iadd (pc := 1153) C.sem dL_law_1153 ?_
  refine r_sld (pc := 1154) C (i + 2) dL_law_1154 (nI_sum (m := i) (n := 2) rfl rfl) (by omega) (by omega) (by have := hw1.1; omega) ?_
  obtain ⟨fs1, hf1⟩ := LWp_m0 hw1
  refine r_callVD (pc := 1155) (b := 55) (b' := 0) (As := [.int (xs (i + 1)), .int (xs (i + 2))]) (st := [.int ((askC S (xs (i + 1)) (xs (i + 2))).1)]) (r2 := some (.int ((askM M (xs (i + 1)) (xs (i + 2))).1))) C.sem isM (c_X6_ask M (xs (i + 1)) (xs (i + 2)) z (rp_M h)) xm_X6_ask xk_L_134 dL_law_1155 (LWp_mT hw1) isM_nd rfl hf1 rfl rfl rfl (Nat.le_of_ble_eq_true rfl) ⟨Nat.le_of_ble_eq_true rfl, Nat.le_of_ble_eq_true rfl⟩ ⟨rfl, rfl⟩ ⟨Nat.le_of_ble_eq_true rfl, Nat.le_of_ble_eq_true rfl⟩ rfl ((wM_len _).trans (wM_len _).symm) rfl rfl ?_
  have hw2 := LWp_m hw1 ((askM M (xs (i + 1)) (xs (i + 2))).2)
  show g 69 3053 (xSet θ1 isM ((wM ((askM M (xs (i + 1)) (xs (i + 2))).2)).map (xEr (xS isM θ1.length)))) 1158 [some (.ref 1000000), some (.ref 0), some (.ref 55), some (.int (nI i))] [.int ((askM M (xs (i + 1)) (xs (i + 2))).1), .int ((askC S (xs (i + 1)) (xs (i + 2))).1)]
  generalize xSet θ1 isM ((wM ((askM M (xs (i + 1)) (xs (i + 2))).2)).map (xEr (xS isM θ1.length))) = θ2 at hw2 ⊢
  refine r_icmp_eq (pc := 1158) (tgt := 1222) C.sem dL_law_1158 (by decide) (fun _ => ?_) (fun hne => absurd hrel.1 hne)
  exact kk _ _ _ hw2 hrel.2
set_option maxHeartbeats 1000000 in
set_option maxRecDepth 100000 in
theorem law_trace {L : Nat} {xs : Nat → Int32} {nm : String} {g : Nat → Nat → List xE → Nat → List (Option Value) → List Value → Prop} (C : SemL room_1 L xs nm g) (hL : L ≤ 384) (i : Nat) (hi : i + 6 ≤ L) (θ : List xE) (S : Nat → Nat → Nat → Int32) (M : Nat → Nat → Int32) (hw : LWp θ S M) (hR : Rel S M) (kk : ∀ (θ' : List xE) (S' : Nat → Nat → Nat → Int32) (M' : Nat → Nat → Int32), LWp θ' S' M' → Rel S' M' → g 69 3053 θ' 1222 [some (.ref 1000000), some (.ref 0), some (.ref 55), some (.int (nI i))] []) : g 69 3053 θ 1163 [some (.ref 1000000), some (.ref 0), some (.ref 55), some (.int (nI i))] [] := by
  obtain ⟨z, o, q, ln, tr, h⟩ := hR
  have hrel := rel_trace h (xs (i + 1))
  refine r_aload_n (pc := 1163) C.sem dL_law_1163 rfl rfl ?_
  refine r_aload_n (pc := 1164) C.sem dL_law_1164 rfl rfl ?_
  refine r_iload_n (pc := 1165) C.sem dL_law_1165 rfl rfl ?_
  refine r_iconst (pc := 1166) (v := 1) C.sem dL_law_1166 (by decide) ?_
  refine r_iadd (pc := 1167) C.sem dL_law_1167 ?_
  refine r_sld (pc := 1168) C (i + 1) dL_law_1168 (nI_sum (m := i) (n := 1) rfl rfl) (by omega) (by omega) (by have := hw.1; omega) ?_
  refine r_callVD (pc := 1169) (b := 0) (b' := 0) (As := [.int (xs (i + 1))]) (st := []) (r2 := some (.int (traceC S (xs (i + 1))))) C.sem isC (c_X5_trace S (xs (i + 1)) tr h.2.2.2.1.1 h.2.2.2.1.2.1) xm_X5_trace xk_L_135 dL_law_1169 (LWp_cT hw) isC_nd rfl (LWp_c0 hw) rfl rfl rfl (Nat.le_of_ble_eq_true rfl) ⟨Nat.le_of_ble_eq_true rfl, Nat.le_of_ble_eq_true rfl⟩ ⟨rfl, rfl⟩ ⟨Nat.le_of_ble_eq_true rfl, Nat.le_of_ble_eq_true rfl⟩ rfl ((wC_len _).trans (wC_len _).symm) rfl rfl ?_
  have hw1 := LWp_c hw (S)
  show g 69 3053 (xSet θ isC ((wC (S)).map (xEr (xS isC θ.length)))) 1172 [some (.ref 1000000), some (.ref 0), some (.ref 55), some (.int (nI i))] [.int (traceC S (xs (i + 1)))]
  generalize xSet θ isC ((wC (S)).map (xEr (xS isC θ.length))) = θ1 at hw1 ⊢
  refine r_aload_n (pc := 1172) C.sem dL_law_1172 rfl rfl ?_
  refine r_aload_n (pc := 1173) C.sem dL_law_1173 rfl rfl ?_
  refine r_iload_n (pc := 1174) C.sem dL_law_1174 rfl rfl ?_
  refine r_iconst (pc := 1175) (v := 1) C.sem dL_law_1175 (by decide) ?_
  refine r_iadd (pc := 1176) C.sem dL_law_1176 ?_
  refine r_sld (pc := 1177) C (i + 1) dL_law_1177 (nI_sum (m := i) (n := 1) rfl rfl) (by omega) (by omega) (by have := hw1.1; omega) ?_
  obtain ⟨fs1, hf1⟩ := LWp_m0 hw1
  refine r_callVD (pc := 1178) (b := 55) (b' := 0) (As := [.int (xs (i + 1))]) (st := [.int (traceC S (xs (i + 1)))]) (r2 := some (.int ((traceM M (xs (i + 1))).1))) C.sem isM (c_X6_trace M (xs (i + 1)) tr h.2.2.2.1.2.2.1 h.2.2.2.1.2.1) xm_X6_trace xk_L_138 dL_law_1178 (LWp_mT hw1) isM_nd rfl hf1 rfl rfl rfl (Nat.le_of_ble_eq_true rfl) ⟨Nat.le_of_ble_eq_true rfl, Nat.le_of_ble_eq_true rfl⟩ ⟨rfl, rfl⟩ ⟨Nat.le_of_ble_eq_true rfl, Nat.le_of_ble_eq_true rfl⟩ rfl ((wM_len _).trans (wM_len _).symm) rfl rfl ?_
  have hw2 := LWp_m hw1 ((traceM M (xs (i + 1))).2)
  show g 69 3053 (xSet θ1 isM ((wM ((traceM M (xs (i + 1))).2)).map (xEr (xS isM θ1.length)))) 1181 [some (.ref 1000000), some (.ref 0), some (.ref 55), some (.int (nI i))] [.int ((traceM M (xs (i + 1))).1), .int (traceC S (xs (i + 1)))]
  generalize xSet θ1 isM ((wM ((traceM M (xs (i + 1))).2)).map (xEr (xS isM θ1.length))) = θ2 at hw2 ⊢
  refine r_icmp_eq (pc := 1181) (tgt := 1222) C.sem dL_law_1181 (by decide) (fun _ => ?_) (fun hne => absurd hrel.1 hne)
  exact kk _ _ _ hw2 hrel.2
set_option maxHeartbeats 1000000 in
set_option maxRecDepth 100000 in
theorem law_count {L : Nat} {xs : Nat → Int32} {nm : String} {g : Nat → Nat → List xE → Nat → List (Option Value) → List Value → Prop} (C : SemL room_1 L xs nm g) (hL : L ≤ 384) (i : Nat) (hi : i + 6 ≤ L) (θ : List xE) (S : Nat → Nat → Nat → Int32) (M : Nat → Nat → Int32) (hw : LWp θ S M) (hR : Rel S M) (kk : ∀ (θ' : List xE) (S' : Nat → Nat → Nat → Int32) (M' : Nat → Nat → Int32), LWp θ' S' M' → Rel S' M' → g 69 3053 θ' 1222 [some (.ref 1000000), some (.ref 0), some (.ref 55), some (.int (nI i))] []) : g 69 3053 θ 1186 [some (.ref 1000000), some (.ref 0), some (.ref 55), some (.int (nI i))] [] := by
  obtain ⟨z, o, q, ln, tr, h⟩ := hR
  have hrel := rel_count h (xs (i + 1))
  refine r_aload_n (pc := 1186) C.sem dL_law_1186 rfl rfl ?_
  refine r_aload_n (pc := 1187) C.sem dL_law_1187 rfl rfl ?_
  refine r_iload_n (pc := 1188) C.sem dL_law_1188 rfl rfl ?_
  refine r_iconst (pc := 1189) (v := 1) C.sem dL_law_1189 (by decide) ?_
  refine r_iadd (pc := 1190) C.sem dL_law_1190 ?_
  refine r_sld (pc := 1191) C (i + 1) dL_law_1191 (nI_sum (m := i) (n := 1) rfl rfl) (by omega) (by omega) (by have := hw.1; omega) ?_
  refine r_callVD (pc := 1192) (b := 0) (b' := 0) (As := [.int (xs (i + 1))]) (st := []) (r2 := some (.int ((countC S (xs (i + 1))).1))) C.sem isC (c_X5_count S (xs (i + 1)) ) xm_X5_count xk_L_139 dL_law_1192 (LWp_cT hw) isC_nd rfl (LWp_c0 hw) rfl rfl rfl (Nat.le_of_ble_eq_true rfl) ⟨Nat.le_of_ble_eq_true rfl, Nat.le_of_ble_eq_true rfl⟩ ⟨rfl, rfl⟩ ⟨Nat.le_of_ble_eq_true rfl, Nat.le_of_ble_eq_true rfl⟩ rfl ((wC_len _).trans (wC_len _).symm) rfl rfl ?_
  have hw1 := LWp_c hw ((countC S (xs (i + 1))).2)
  show g 69 3053 (xSet θ isC ((wC ((countC S (xs (i + 1))).2)).map (xEr (xS isC θ.length)))) 1195 [some (.ref 1000000), some (.ref 0), some (.ref 55), some (.int (nI i))] [.int ((countC S (xs (i + 1))).1)]
  generalize xSet θ isC ((wC ((countC S (xs (i + 1))).2)).map (xEr (xS isC θ.length))) = θ1 at hw1 ⊢
  refine r_aload_n (pc := 1195) C.sem dL_law_1195 rfl rfl ?_
  refine r_aload_n (pc := 1196) C.sem dL_law_1196 rfl rfl ?_
  refine r_iload_n (pc := 1197) C.sem dL_law_1197 rfl rfl ?_
  refine r_iconst (pc := 1198) (v := 1) C.sem dL_law_1198 (by decide) ?_
  refine r_iadd (pc := 1199) C.sem dL_law_1199 ?_
  refine r_sld (pc := 1200) C (i + 1) dL_law_1200 (nI_sum (m := i) (n := 1) rfl rfl) (by omega) (by omega) (by have := hw1.1; omega) ?_
  obtain ⟨fs1, hf1⟩ := LWp_m0 hw1
  refine r_callVD (pc := 1201) (b := 55) (b' := 0) (As := [.int (xs (i + 1))]) (st := [.int ((countC S (xs (i + 1))).1)]) (r2 := some (.int ((countM M (xs (i + 1))).1))) C.sem isM (c_X6_count M (xs (i + 1)) ) xm_X6_count xk_L_142 dL_law_1201 (LWp_mT hw1) isM_nd rfl hf1 rfl rfl rfl (Nat.le_of_ble_eq_true rfl) ⟨Nat.le_of_ble_eq_true rfl, Nat.le_of_ble_eq_true rfl⟩ ⟨rfl, rfl⟩ ⟨Nat.le_of_ble_eq_true rfl, Nat.le_of_ble_eq_true rfl⟩ rfl ((wM_len _).trans (wM_len _).symm) rfl rfl ?_
  have hw2 := LWp_m hw1 ((countM M (xs (i + 1))).2)
  show g 69 3053 (xSet θ1 isM ((wM ((countM M (xs (i + 1))).2)).map (xEr (xS isM θ1.length)))) 1204 [some (.ref 1000000), some (.ref 0), some (.ref 55), some (.int (nI i))] [.int ((countM M (xs (i + 1))).1), .int ((countC S (xs (i + 1))).1)]
  generalize xSet θ1 isM ((wM ((countM M (xs (i + 1))).2)).map (xEr (xS isM θ1.length))) = θ2 at hw2 ⊢
  refine r_icmp_eq (pc := 1204) (tgt := 1222) C.sem dL_law_1204 (by decide) (fun _ => ?_) (fun hne => absurd hrel.1 hne)
  exact kk _ _ _ hw2 hrel.2
set_option maxHeartbeats 1000000 in
set_option maxRecDepth 100000 in
theorem law_status {L : Nat} {xs : Nat → Int32} {nm : String} {g : Nat → Nat → List xE → Nat → List (Option Value) → List Value → Prop} (C : SemL room_1 L xs nm g) (hL : L ≤ 384) (i : Nat) (hi : i + 6 ≤ L) (θ : List xE) (S : Nat → Nat → Nat → Int32) (M : Nat → Nat → Int32) (hw : LWp θ S M) (hR : Rel S M) (kk : ∀ (θ' : List xE) (S' : Nat → Nat → Nat → Int32) (M' : Nat → Nat → Int32), LWp θ' S' M' → Rel S' M' → g 69 3053 θ' 1222 [some (.ref 1000000), some (.ref 0), some (.ref 55), some (.int (nI i))] []) : g 69 3053 θ 1209 [some (.ref 1000000), some (.ref 0), some (.ref 55), some (.int (nI i))] [] := by
  obtain ⟨z, o, q, ln, tr, h⟩ := hR
  have hrel := rel_status h 
  refine r_aload_n (pc := 1209) C.sem dL_law_1209 rfl rfl ?_
  refine r_callVD (pc := 1210) (b := 0) (b' := 0) (As := []) (st := []) (r2 := some (.int (S 0 9 0))) C.sem isC (c_X5_status S  ) xm_X5_status xk_L_143 dL_law_1210 (LWp_cT hw) isC_nd rfl (LWp_c0 hw) rfl rfl rfl (Nat.le_of_ble_eq_true rfl) ⟨Nat.le_of_ble_eq_true rfl, Nat.le_of_ble_eq_true rfl⟩ ⟨rfl, rfl⟩ ⟨Nat.le_of_ble_eq_true rfl, Nat.le_of_ble_eq_true rfl⟩ rfl ((wC_len _).trans (wC_len _).symm) rfl rfl ?_
  have hw1 := LWp_c hw (S)
  show g 69 3053 (xSet θ isC ((wC (S)).map (xEr (xS isC θ.length)))) 1213 [some (.ref 1000000), some (.ref 0), some (.ref 55), some (.int (nI i))] [.int (S 0 9 0)]
  generalize xSet θ isC ((wC (S)).map (xEr (xS isC θ.length))) = θ1 at hw1 ⊢
  refine r_aload_n (pc := 1213) C.sem dL_law_1213 rfl rfl ?_
  obtain ⟨fs1, hf1⟩ := LWp_m0 hw1
  refine r_callVD (pc := 1214) (b := 55) (b' := 0) (As := []) (st := [.int (S 0 9 0)]) (r2 := some (.int (M 3 0))) C.sem isM (c_X6_status M  ) xm_X6_status xk_L_146 dL_law_1214 (LWp_mT hw1) isM_nd rfl hf1 rfl rfl rfl (Nat.le_of_ble_eq_true rfl) ⟨Nat.le_of_ble_eq_true rfl, Nat.le_of_ble_eq_true rfl⟩ ⟨rfl, rfl⟩ ⟨Nat.le_of_ble_eq_true rfl, Nat.le_of_ble_eq_true rfl⟩ rfl ((wM_len _).trans (wM_len _).symm) rfl rfl ?_
  have hw2 := LWp_m hw1 (M)
  show g 69 3053 (xSet θ1 isM ((wM (M)).map (xEr (xS isM θ1.length)))) 1217 [some (.ref 1000000), some (.ref 0), some (.ref 55), some (.int (nI i))] [.int (M 3 0), .int (S 0 9 0)]
  generalize xSet θ1 isM ((wM (M)).map (xEr (xS isM θ1.length))) = θ2 at hw2 ⊢
  refine r_icmp_eq (pc := 1217) (tgt := 1222) C.sem dL_law_1217 (by decide) (fun _ => ?_) (fun hne => absurd hrel.1 hne)
  exact kk _ _ _ hw2 hrel.2
