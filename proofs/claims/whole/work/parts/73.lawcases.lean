/-! the law, call by call -/
set_option maxHeartbeats 4000000 in
set_option maxRecDepth 100000 in
theorem law_c0 {GX GZ : q_G} {E : q_E} {b0 Ln : Nat} {xs : Nat → Int32} {MX MZ : q_M} (F : q_LF GX GZ E b0 Ln xs) (hg : GZ.1 = GX.1 ∧ GZ.2.1 = GX.2.1 ∧ GZ.2.2.1 = GX.2.2.1 ∧ GZ.2.2.2.1 = GX.2.2.2.1) (hIX : q_inj GX) (hIZ : q_inj GZ) (hx : q_lh GX) (hm : q_mo GZ) (hL : Ln ≤ 2560) {i : Int} (i0 : 0 ≤ i) (i5 : i + 5 ≤ Ln) (r : q_rel MX MZ) (kk : ∀ MX' MZ' : q_M, q_rel MX' MZ' → q_LY GX GZ E MX' MZ' [(3, .int (q_I i)), (0, .ref b0), (1, .ref (q_ad GX 0)), (2, .ref (q_ad GZ 0))] 1058 []) : q_LY GX GZ E MX MZ [(3, .int (q_I i)), (0, .ref b0), (1, .ref (q_ad GX 0)), (2, .ref (q_ad GZ 0))] 164 [] := by
  refine l_aload_n F dL_law_164 2 rfl ?_
  refine l_aload_n F dL_law_165 1 rfl ?_
  refine l_iload_n F dL_law_166 0 rfl ?_
  refine l_iconst F dL_law_167 ?_
  refine l_iadd F dL_law_168 ?_
  refine l_sld F (by omega) hL dL_law_169 ?_
  refine l_aload_n F dL_law_170 1 rfl ?_
  refine l_iload_n F dL_law_171 0 rfl ?_
  refine l_iconst F dL_law_172 ?_
  refine l_iadd F dL_law_173 ?_
  refine l_sld F (by omega) hL dL_law_174 ?_
  refine l_aload_n F dL_law_175 1 rfl ?_
  refine l_iload_n F dL_law_176 0 rfl ?_
  refine l_iconst F dL_law_177 ?_
  refine l_iadd F dL_law_178 ?_
  refine l_sld F (by omega) hL dL_law_179 ?_
  refine l_aload_n F dL_law_180 1 rfl ?_
  refine l_iload_n F dL_law_181 0 rfl ?_
  refine l_iconst F dL_law_182 ?_
  refine l_iadd F dL_law_183 ?_
  refine l_sld F (by omega) hL dL_law_184 ?_
  refine l_callXI (n := 4) (T := TX8) F (c_X8_guest GX hIX MX hx r.1 (q_sc xs (i + 1)) (q_sc xs (i + 2)) (q_sc xs (i + 3)) (q_sc xs (i + 4)) (q_sc_R _ _) (q_sc_R _ _) (q_sc_R _ _) (q_sc_R _ _)) rfl rfl hx.1 gL_law_X8_guest rfl ⟨by decide, by decide, by decide +kernel⟩ rfl ⟨rfl, rfl, Nat.le_of_ble_eq_true rfl, Nat.le_of_ble_eq_true rfl⟩ rfl (Nat.le_of_ble_eq_true rfl) dL_law_185 (fun zX NX hzX pX => ?_)
  refine l_aload_n F dL_law_188 3 rfl ?_
  refine l_aload_n F dL_law_189 1 rfl ?_
  refine l_iload_n F dL_law_190 0 rfl ?_
  refine l_iconst F dL_law_191 ?_
  refine l_iadd F dL_law_192 ?_
  refine l_sld F (by omega) hL dL_law_193 ?_
  refine l_aload_n F dL_law_194 1 rfl ?_
  refine l_iload_n F dL_law_195 0 rfl ?_
  refine l_iconst F dL_law_196 ?_
  refine l_iadd F dL_law_197 ?_
  refine l_sld F (by omega) hL dL_law_198 ?_
  refine l_aload_n F dL_law_199 1 rfl ?_
  refine l_iload_n F dL_law_200 0 rfl ?_
  refine l_iconst F dL_law_201 ?_
  refine l_iadd F dL_law_202 ?_
  refine l_sld F (by omega) hL dL_law_203 ?_
  refine l_aload_n F dL_law_204 1 rfl ?_
  refine l_iload_n F dL_law_205 0 rfl ?_
  refine l_iconst F dL_law_206 ?_
  refine l_iadd F dL_law_207 ?_
  refine l_sld F (by omega) hL dL_law_208 ?_
  refine l_callZI (n := 4) (T := TX9) F hg (c_X9_guest GZ hIZ MZ hm (q_sc xs (i + 1)) (q_sc xs (i + 2)) (q_sc xs (i + 3)) (q_sc xs (i + 4)) (q_sc_R _ _) (q_sc_R _ _) (q_sc_R _ _) (q_sc_R _ _) r.2.1.1) rfl rfl hm.1 gL_law_X9_guest rfl ⟨by decide, by decide, by decide +kernel⟩ rfl ⟨rfl, rfl, Nat.le_of_ble_eq_true rfl, Nat.le_of_ble_eq_true rfl⟩ rfl (Nat.le_of_ble_eq_true rfl) dL_law_209 (fun zZ NZ hzZ pZ => ?_)
  obtain ⟨he, hr⟩ := q_rel_guest r pX pZ
  refine l_icmp_eq F 1058 dL_law_212 (by decide) ⟨hzX, hzZ⟩ (fun _ => ?_) (fun h => absurd he h)
  exact kk _ _ hr
set_option maxHeartbeats 4000000 in
set_option maxRecDepth 100000 in
theorem law_c1 {GX GZ : q_G} {E : q_E} {b0 Ln : Nat} {xs : Nat → Int32} {MX MZ : q_M} (F : q_LF GX GZ E b0 Ln xs) (hg : GZ.1 = GX.1 ∧ GZ.2.1 = GX.2.1 ∧ GZ.2.2.1 = GX.2.2.1 ∧ GZ.2.2.2.1 = GX.2.2.2.1) (hIX : q_inj GX) (hIZ : q_inj GZ) (hx : q_lh GX) (hm : q_mo GZ) (hL : Ln ≤ 2560) {i : Int} (i0 : 0 ≤ i) (i5 : i + 5 ≤ Ln) (r : q_rel MX MZ) (kk : ∀ MX' MZ' : q_M, q_rel MX' MZ' → q_LY GX GZ E MX' MZ' [(3, .int (q_I i)), (0, .ref b0), (1, .ref (q_ad GX 0)), (2, .ref (q_ad GZ 0))] 1058 []) : q_LY GX GZ E MX MZ [(3, .int (q_I i)), (0, .ref b0), (1, .ref (q_ad GX 0)), (2, .ref (q_ad GZ 0))] 217 [] := by
  refine l_aload_n F dL_law_217 2 rfl ?_
  refine l_aload_n F dL_law_218 1 rfl ?_
  refine l_iload_n F dL_law_219 0 rfl ?_
  refine l_iconst F dL_law_220 ?_
  refine l_iadd F dL_law_221 ?_
  refine l_sld F (by omega) hL dL_law_222 ?_
  refine l_callXI (n := 1) (T := TX8) F (c_X8_leave GX hIX MX hx r.1 (q_sc xs (i + 1)) (q_sc_R _ _)) rfl rfl hx.1 gL_law_X8_leave rfl ⟨by decide, by decide, by decide +kernel⟩ rfl ⟨rfl, rfl, Nat.le_of_ble_eq_true rfl, Nat.le_of_ble_eq_true rfl⟩ rfl (Nat.le_of_ble_eq_true rfl) dL_law_223 (fun zX NX hzX pX => ?_)
  refine l_aload_n F dL_law_226 3 rfl ?_
  refine l_aload_n F dL_law_227 1 rfl ?_
  refine l_iload_n F dL_law_228 0 rfl ?_
  refine l_iconst F dL_law_229 ?_
  refine l_iadd F dL_law_230 ?_
  refine l_sld F (by omega) hL dL_law_231 ?_
  refine l_callZI (n := 1) (T := TX9) F hg (c_X9_leave GZ hIZ MZ hm (q_sc xs (i + 1)) (q_sc_R _ _) r.2.1.1 r.2.1.2.2.1) rfl rfl hm.1 gL_law_X9_leave rfl ⟨by decide, by decide, by decide +kernel⟩ rfl ⟨rfl, rfl, Nat.le_of_ble_eq_true rfl, Nat.le_of_ble_eq_true rfl⟩ rfl (Nat.le_of_ble_eq_true rfl) dL_law_232 (fun zZ NZ hzZ pZ => ?_)
  obtain ⟨he, hr⟩ := q_rel_leave r pX pZ
  refine l_icmp_eq F 1058 dL_law_235 (by decide) ⟨hzX, hzZ⟩ (fun _ => ?_) (fun h => absurd he h)
  exact kk _ _ hr
set_option maxHeartbeats 4000000 in
set_option maxRecDepth 100000 in
theorem law_c2 {GX GZ : q_G} {E : q_E} {b0 Ln : Nat} {xs : Nat → Int32} {MX MZ : q_M} (F : q_LF GX GZ E b0 Ln xs) (hg : GZ.1 = GX.1 ∧ GZ.2.1 = GX.2.1 ∧ GZ.2.2.1 = GX.2.2.1 ∧ GZ.2.2.2.1 = GX.2.2.2.1) (hIX : q_inj GX) (hIZ : q_inj GZ) (hx : q_lh GX) (hm : q_mo GZ) (hL : Ln ≤ 2560) {i : Int} (i0 : 0 ≤ i) (i5 : i + 5 ≤ Ln) (r : q_rel MX MZ) (kk : ∀ MX' MZ' : q_M, q_rel MX' MZ' → q_LY GX GZ E MX' MZ' [(3, .int (q_I i)), (0, .ref b0), (1, .ref (q_ad GX 0)), (2, .ref (q_ad GZ 0))] 1058 []) : q_LY GX GZ E MX MZ [(3, .int (q_I i)), (0, .ref b0), (1, .ref (q_ad GX 0)), (2, .ref (q_ad GZ 0))] 240 [] := by
  refine l_aload_n F dL_law_240 2 rfl ?_
  refine l_aload_n F dL_law_241 1 rfl ?_
  refine l_iload_n F dL_law_242 0 rfl ?_
  refine l_iconst F dL_law_243 ?_
  refine l_iadd F dL_law_244 ?_
  refine l_sld F (by omega) hL dL_law_245 ?_
  refine l_callXI (n := 1) (T := TX8) F (c_X8_keen GX hIX MX hx r.1 (q_sc xs (i + 1)) (q_sc_R _ _)) rfl rfl hx.1 gL_law_X8_keen rfl ⟨by decide, by decide, by decide +kernel⟩ rfl ⟨rfl, rfl, Nat.le_of_ble_eq_true rfl, Nat.le_of_ble_eq_true rfl⟩ rfl (Nat.le_of_ble_eq_true rfl) dL_law_246 (fun zX NX hzX pX => ?_)
  refine l_aload_n F dL_law_249 3 rfl ?_
  refine l_aload_n F dL_law_250 1 rfl ?_
  refine l_iload_n F dL_law_251 0 rfl ?_
  refine l_iconst F dL_law_252 ?_
  refine l_iadd F dL_law_253 ?_
  refine l_sld F (by omega) hL dL_law_254 ?_
  refine l_callZI (n := 1) (T := TX9) F hg (c_X9_keen GZ hIZ MZ hm (q_sc xs (i + 1)) (q_sc_R _ _)) rfl rfl hm.1 gL_law_X9_keen rfl ⟨by decide, by decide, by decide +kernel⟩ rfl ⟨rfl, rfl, Nat.le_of_ble_eq_true rfl, Nat.le_of_ble_eq_true rfl⟩ rfl (Nat.le_of_ble_eq_true rfl) dL_law_255 (fun zZ NZ hzZ pZ => ?_)
  obtain ⟨he, hr⟩ := q_rel_keen r pX pZ
  refine l_icmp_eq F 1058 dL_law_258 (by decide) ⟨hzX, hzZ⟩ (fun _ => ?_) (fun h => absurd he h)
  exact kk _ _ hr
set_option maxHeartbeats 4000000 in
set_option maxRecDepth 100000 in
theorem law_c3 {GX GZ : q_G} {E : q_E} {b0 Ln : Nat} {xs : Nat → Int32} {MX MZ : q_M} (F : q_LF GX GZ E b0 Ln xs) (hg : GZ.1 = GX.1 ∧ GZ.2.1 = GX.2.1 ∧ GZ.2.2.1 = GX.2.2.1 ∧ GZ.2.2.2.1 = GX.2.2.2.1) (hIX : q_inj GX) (hIZ : q_inj GZ) (hx : q_lh GX) (hm : q_mo GZ) (hL : Ln ≤ 2560) {i : Int} (i0 : 0 ≤ i) (i5 : i + 5 ≤ Ln) (r : q_rel MX MZ) (kk : ∀ MX' MZ' : q_M, q_rel MX' MZ' → q_LY GX GZ E MX' MZ' [(3, .int (q_I i)), (0, .ref b0), (1, .ref (q_ad GX 0)), (2, .ref (q_ad GZ 0))] 1058 []) : q_LY GX GZ E MX MZ [(3, .int (q_I i)), (0, .ref b0), (1, .ref (q_ad GX 0)), (2, .ref (q_ad GZ 0))] 263 [] := by
  refine l_aload_n F dL_law_263 2 rfl ?_
  refine l_aload_n F dL_law_264 1 rfl ?_
  refine l_iload_n F dL_law_265 0 rfl ?_
  refine l_iconst F dL_law_266 ?_
  refine l_iadd F dL_law_267 ?_
  refine l_sld F (by omega) hL dL_law_268 ?_
  refine l_aload_n F dL_law_269 1 rfl ?_
  refine l_iload_n F dL_law_270 0 rfl ?_
  refine l_iconst F dL_law_271 ?_
  refine l_iadd F dL_law_272 ?_
  refine l_sld F (by omega) hL dL_law_273 ?_
  refine l_aload_n F dL_law_274 1 rfl ?_
  refine l_iload_n F dL_law_275 0 rfl ?_
  refine l_iconst F dL_law_276 ?_
  refine l_iadd F dL_law_277 ?_
  refine l_sld F (by omega) hL dL_law_278 ?_
  refine l_if_eq F 286 dL_law_279 (by decide) (q_sc_R _ _) (fun c1 => ?_) (fun c1 => ?_)
  · refine l_iconst F dL_law_286 ?_
    refine l_callXI (n := 3) (T := TX8) F (c_X8_feud GX hIX MX hx r.1 (q_sc xs (i + 1)) (q_sc xs (i + 2)) 0 (q_sc_R _ _) (q_sc_R _ _) (by omega) (by omega)) rfl rfl hx.1 gL_law_X8_feud rfl ⟨by decide, by decide, by decide +kernel⟩ rfl ⟨rfl, rfl, Nat.le_of_ble_eq_true rfl, Nat.le_of_ble_eq_true rfl⟩ rfl (Nat.le_of_ble_eq_true rfl) dL_law_287 (fun zX NX hzX pX => ?_)
    refine l_aload_n F dL_law_290 3 rfl ?_
    refine l_aload_n F dL_law_291 1 rfl ?_
    refine l_iload_n F dL_law_292 0 rfl ?_
    refine l_iconst F dL_law_293 ?_
    refine l_iadd F dL_law_294 ?_
    refine l_sld F (by omega) hL dL_law_295 ?_
    refine l_aload_n F dL_law_296 1 rfl ?_
    refine l_iload_n F dL_law_297 0 rfl ?_
    refine l_iconst F dL_law_298 ?_
    refine l_iadd F dL_law_299 ?_
    refine l_sld F (by omega) hL dL_law_300 ?_
    refine l_aload_n F dL_law_301 1 rfl ?_
    refine l_iload_n F dL_law_302 0 rfl ?_
    refine l_iconst F dL_law_303 ?_
    refine l_iadd F dL_law_304 ?_
    refine l_sld F (by omega) hL dL_law_305 ?_
    refine l_if_eq F 313 dL_law_306 (by decide) (q_sc_R _ _) (fun _ => ?_) (fun h => absurd c1 h)
    refine l_iconst F dL_law_313 ?_
    refine l_callZI (n := 3) (T := TX9) F hg (c_X9_feud GZ hIZ MZ hm (q_sc xs (i + 1)) (q_sc xs (i + 2)) 0 (q_sc_R _ _) (q_sc_R _ _) (by omega) r.2.1.1 r.2.1.2.2.1 (by omega)) rfl rfl hm.1 gL_law_X9_feud rfl ⟨by decide, by decide, by decide +kernel⟩ rfl ⟨rfl, rfl, Nat.le_of_ble_eq_true rfl, Nat.le_of_ble_eq_true rfl⟩ rfl (Nat.le_of_ble_eq_true rfl) dL_law_314 (fun zZ NZ hzZ pZ => ?_)
    obtain ⟨he, hr⟩ := q_rel_feud r pX pZ
    refine l_icmp_eq F 1058 dL_law_317 (by decide) ⟨hzX, hzZ⟩ (fun _ => ?_) (fun h => absurd he h)
    exact kk _ _ hr
  · refine l_iconst F dL_law_282 ?_
    refine l_goto F 287 dL_law_283 (by decide) ?_
    refine l_callXI (n := 3) (T := TX8) F (c_X8_feud GX hIX MX hx r.1 (q_sc xs (i + 1)) (q_sc xs (i + 2)) 1 (q_sc_R _ _) (q_sc_R _ _) (by omega) (by omega)) rfl rfl hx.1 gL_law_X8_feud rfl ⟨by decide, by decide, by decide +kernel⟩ rfl ⟨rfl, rfl, Nat.le_of_ble_eq_true rfl, Nat.le_of_ble_eq_true rfl⟩ rfl (Nat.le_of_ble_eq_true rfl) dL_law_287 (fun zX NX hzX pX => ?_)
    refine l_aload_n F dL_law_290 3 rfl ?_
    refine l_aload_n F dL_law_291 1 rfl ?_
    refine l_iload_n F dL_law_292 0 rfl ?_
    refine l_iconst F dL_law_293 ?_
    refine l_iadd F dL_law_294 ?_
    refine l_sld F (by omega) hL dL_law_295 ?_
    refine l_aload_n F dL_law_296 1 rfl ?_
    refine l_iload_n F dL_law_297 0 rfl ?_
    refine l_iconst F dL_law_298 ?_
    refine l_iadd F dL_law_299 ?_
    refine l_sld F (by omega) hL dL_law_300 ?_
    refine l_aload_n F dL_law_301 1 rfl ?_
    refine l_iload_n F dL_law_302 0 rfl ?_
    refine l_iconst F dL_law_303 ?_
    refine l_iadd F dL_law_304 ?_
    refine l_sld F (by omega) hL dL_law_305 ?_
    refine l_if_eq F 313 dL_law_306 (by decide) (q_sc_R _ _) (fun h => absurd h c1) (fun _ => ?_)
    refine l_iconst F dL_law_309 ?_
    refine l_goto F 314 dL_law_310 (by decide) ?_
    refine l_callZI (n := 3) (T := TX9) F hg (c_X9_feud GZ hIZ MZ hm (q_sc xs (i + 1)) (q_sc xs (i + 2)) 1 (q_sc_R _ _) (q_sc_R _ _) (by omega) r.2.1.1 r.2.1.2.2.1 (by omega)) rfl rfl hm.1 gL_law_X9_feud rfl ⟨by decide, by decide, by decide +kernel⟩ rfl ⟨rfl, rfl, Nat.le_of_ble_eq_true rfl, Nat.le_of_ble_eq_true rfl⟩ rfl (Nat.le_of_ble_eq_true rfl) dL_law_314 (fun zZ NZ hzZ pZ => ?_)
    obtain ⟨he, hr⟩ := q_rel_feud r pX pZ
    refine l_icmp_eq F 1058 dL_law_317 (by decide) ⟨hzX, hzZ⟩ (fun _ => ?_) (fun h => absurd he h)
    exact kk _ _ hr
set_option maxHeartbeats 4000000 in
set_option maxRecDepth 100000 in
theorem law_c4 {GX GZ : q_G} {E : q_E} {b0 Ln : Nat} {xs : Nat → Int32} {MX MZ : q_M} (F : q_LF GX GZ E b0 Ln xs) (hg : GZ.1 = GX.1 ∧ GZ.2.1 = GX.2.1 ∧ GZ.2.2.1 = GX.2.2.1 ∧ GZ.2.2.2.1 = GX.2.2.2.1) (hIX : q_inj GX) (hIZ : q_inj GZ) (hx : q_lh GX) (hm : q_mo GZ) (hL : Ln ≤ 2560) {i : Int} (i0 : 0 ≤ i) (i5 : i + 5 ≤ Ln) (r : q_rel MX MZ) (kk : ∀ MX' MZ' : q_M, q_rel MX' MZ' → q_LY GX GZ E MX' MZ' [(3, .int (q_I i)), (0, .ref b0), (1, .ref (q_ad GX 0)), (2, .ref (q_ad GZ 0))] 1058 []) : q_LY GX GZ E MX MZ [(3, .int (q_I i)), (0, .ref b0), (1, .ref (q_ad GX 0)), (2, .ref (q_ad GZ 0))] 322 [] := by
  refine l_aload_n F dL_law_322 2 rfl ?_
  refine l_aload_n F dL_law_323 1 rfl ?_
  refine l_iload_n F dL_law_324 0 rfl ?_
  refine l_iconst F dL_law_325 ?_
  refine l_iadd F dL_law_326 ?_
  refine l_sld F (by omega) hL dL_law_327 ?_
  refine l_callXI (n := 1) (T := TX8) F (c_X8_say GX hIX MX hx r.1 (q_sc xs (i + 1)) (q_sc_R _ _)) rfl rfl hx.1 gL_law_X8_say rfl ⟨by decide, by decide, by decide +kernel⟩ rfl ⟨rfl, rfl, Nat.le_of_ble_eq_true rfl, Nat.le_of_ble_eq_true rfl⟩ rfl (Nat.le_of_ble_eq_true rfl) dL_law_328 (fun zX NX hzX pX => ?_)
  refine l_aload_n F dL_law_331 3 rfl ?_
  refine l_aload_n F dL_law_332 1 rfl ?_
  refine l_iload_n F dL_law_333 0 rfl ?_
  refine l_iconst F dL_law_334 ?_
  refine l_iadd F dL_law_335 ?_
  refine l_sld F (by omega) hL dL_law_336 ?_
  refine l_callZI (n := 1) (T := TX9) F hg (c_X9_say GZ hIZ MZ hm (q_sc xs (i + 1)) (q_sc_R _ _) r.2.1.2.2.2.2.1) rfl rfl hm.1 gL_law_X9_say rfl ⟨by decide, by decide, by decide +kernel⟩ rfl ⟨rfl, rfl, Nat.le_of_ble_eq_true rfl, Nat.le_of_ble_eq_true rfl⟩ rfl (Nat.le_of_ble_eq_true rfl) dL_law_337 (fun zZ NZ hzZ pZ => ?_)
  obtain ⟨he, hr⟩ := q_rel_say r pX pZ
  refine l_icmp_eq F 1058 dL_law_340 (by decide) ⟨hzX, hzZ⟩ (fun _ => ?_) (fun h => absurd he h)
  exact kk _ _ hr
set_option maxHeartbeats 4000000 in
set_option maxRecDepth 100000 in
theorem law_c5 {GX GZ : q_G} {E : q_E} {b0 Ln : Nat} {xs : Nat → Int32} {MX MZ : q_M} (F : q_LF GX GZ E b0 Ln xs) (hg : GZ.1 = GX.1 ∧ GZ.2.1 = GX.2.1 ∧ GZ.2.2.1 = GX.2.2.1 ∧ GZ.2.2.2.1 = GX.2.2.2.1) (hIX : q_inj GX) (hIZ : q_inj GZ) (hx : q_lh GX) (hm : q_mo GZ) (hL : Ln ≤ 2560) {i : Int} (i0 : 0 ≤ i) (i5 : i + 5 ≤ Ln) (r : q_rel MX MZ) (kk : ∀ MX' MZ' : q_M, q_rel MX' MZ' → q_LY GX GZ E MX' MZ' [(3, .int (q_I i)), (0, .ref b0), (1, .ref (q_ad GX 0)), (2, .ref (q_ad GZ 0))] 1058 []) : q_LY GX GZ E MX MZ [(3, .int (q_I i)), (0, .ref b0), (1, .ref (q_ad GX 0)), (2, .ref (q_ad GZ 0))] 345 [] := by
  refine l_aload_n F dL_law_345 2 rfl ?_
  refine l_callXI (n := 0) (T := TX8) F (c_X8_wipe GX hIX MX hx r.1) rfl rfl hx.1 gL_law_X8_wipe rfl ⟨by decide, by decide, by decide +kernel⟩ rfl ⟨rfl, rfl, Nat.le_of_ble_eq_true rfl, Nat.le_of_ble_eq_true rfl⟩ rfl (Nat.le_of_ble_eq_true rfl) dL_law_346 (fun zX NX hzX pX => ?_)
  refine l_aload_n F dL_law_349 3 rfl ?_
  refine l_callZI (n := 0) (T := TX9) F hg (c_X9_wipe GZ hIZ MZ hm) rfl rfl hm.1 gL_law_X9_wipe rfl ⟨by decide, by decide, by decide +kernel⟩ rfl ⟨rfl, rfl, Nat.le_of_ble_eq_true rfl, Nat.le_of_ble_eq_true rfl⟩ rfl (Nat.le_of_ble_eq_true rfl) dL_law_350 (fun zZ NZ hzZ pZ => ?_)
  obtain ⟨he, hr⟩ := q_rel_wipe r pX pZ
  refine l_icmp_eq F 1058 dL_law_353 (by decide) ⟨hzX, hzZ⟩ (fun _ => ?_) (fun h => absurd he h)
  exact kk _ _ hr
set_option maxHeartbeats 4000000 in
set_option maxRecDepth 100000 in
theorem law_c6 {GX GZ : q_G} {E : q_E} {b0 Ln : Nat} {xs : Nat → Int32} {MX MZ : q_M} (F : q_LF GX GZ E b0 Ln xs) (hg : GZ.1 = GX.1 ∧ GZ.2.1 = GX.2.1 ∧ GZ.2.2.1 = GX.2.2.1 ∧ GZ.2.2.2.1 = GX.2.2.2.1) (hIX : q_inj GX) (hIZ : q_inj GZ) (hx : q_lh GX) (hm : q_mo GZ) (hL : Ln ≤ 2560) {i : Int} (i0 : 0 ≤ i) (i5 : i + 5 ≤ Ln) (r : q_rel MX MZ) (kk : ∀ MX' MZ' : q_M, q_rel MX' MZ' → q_LY GX GZ E MX' MZ' [(3, .int (q_I i)), (0, .ref b0), (1, .ref (q_ad GX 0)), (2, .ref (q_ad GZ 0))] 1058 []) : q_LY GX GZ E MX MZ [(3, .int (q_I i)), (0, .ref b0), (1, .ref (q_ad GX 0)), (2, .ref (q_ad GZ 0))] 358 [] := by
  refine l_aload_n F dL_law_358 2 rfl ?_
  refine l_callXI (n := 0) (T := TX8) F (c_X8_fault GX hIX MX hx r.1) rfl rfl hx.1 gL_law_X8_fault rfl ⟨by decide, by decide, by decide +kernel⟩ rfl ⟨rfl, rfl, Nat.le_of_ble_eq_true rfl, Nat.le_of_ble_eq_true rfl⟩ rfl (Nat.le_of_ble_eq_true rfl) dL_law_359 (fun zX NX hzX pX => ?_)
  refine l_aload_n F dL_law_362 3 rfl ?_
  refine l_callZI (n := 0) (T := TX9) F hg (c_X9_fault GZ hIZ MZ hm r.2.1.2.2.2.2.1) rfl rfl hm.1 gL_law_X9_fault rfl ⟨by decide, by decide, by decide +kernel⟩ rfl ⟨rfl, rfl, Nat.le_of_ble_eq_true rfl, Nat.le_of_ble_eq_true rfl⟩ rfl (Nat.le_of_ble_eq_true rfl) dL_law_363 (fun zZ NZ hzZ pZ => ?_)
  obtain ⟨he, hr⟩ := q_st_fault r pX pZ
  refine l_icmp_eq F 1058 dL_law_366 (by decide) ⟨hzX, hzZ⟩ (fun _ => ?_) (fun h => absurd he h)
  exact kk _ _ hr
set_option maxHeartbeats 4000000 in
set_option maxRecDepth 100000 in
theorem law_c7 {GX GZ : q_G} {E : q_E} {b0 Ln : Nat} {xs : Nat → Int32} {MX MZ : q_M} (F : q_LF GX GZ E b0 Ln xs) (hg : GZ.1 = GX.1 ∧ GZ.2.1 = GX.2.1 ∧ GZ.2.2.1 = GX.2.2.1 ∧ GZ.2.2.2.1 = GX.2.2.2.1) (hIX : q_inj GX) (hIZ : q_inj GZ) (hx : q_lh GX) (hm : q_mo GZ) (hL : Ln ≤ 2560) {i : Int} (i0 : 0 ≤ i) (i5 : i + 5 ≤ Ln) (r : q_rel MX MZ) (kk : ∀ MX' MZ' : q_M, q_rel MX' MZ' → q_LY GX GZ E MX' MZ' [(3, .int (q_I i)), (0, .ref b0), (1, .ref (q_ad GX 0)), (2, .ref (q_ad GZ 0))] 1058 []) : q_LY GX GZ E MX MZ [(3, .int (q_I i)), (0, .ref b0), (1, .ref (q_ad GX 0)), (2, .ref (q_ad GZ 0))] 371 [] := by
  refine l_aload_n F dL_law_371 2 rfl ?_
  refine l_aload_n F dL_law_372 1 rfl ?_
  refine l_iload_n F dL_law_373 0 rfl ?_
  refine l_iconst F dL_law_374 ?_
  refine l_iadd F dL_law_375 ?_
  refine l_sld F (by omega) hL dL_law_376 ?_
  refine l_callXI (n := 1) (T := TX8) F (c_X8_judge GX hIX MX hx r.1 (q_sc xs (i + 1)) (q_sc_R _ _)) rfl rfl hx.1 gL_law_X8_judge rfl ⟨by decide, by decide, by decide +kernel⟩ rfl ⟨rfl, rfl, Nat.le_of_ble_eq_true rfl, Nat.le_of_ble_eq_true rfl⟩ rfl (Nat.le_of_ble_eq_true rfl) dL_law_377 (fun zX NX hzX pX => ?_)
  refine l_aload_n F dL_law_380 3 rfl ?_
  refine l_aload_n F dL_law_381 1 rfl ?_
  refine l_iload_n F dL_law_382 0 rfl ?_
  refine l_iconst F dL_law_383 ?_
  refine l_iadd F dL_law_384 ?_
  refine l_sld F (by omega) hL dL_law_385 ?_
  refine l_callZI (n := 1) (T := TX9) F hg (c_X9_judge GZ hIZ MZ hm (q_sc xs (i + 1)) (q_sc_R _ _) r.2.1) rfl rfl hm.1 gL_law_X9_judge rfl ⟨by decide, by decide, by decide +kernel⟩ rfl ⟨rfl, rfl, Nat.le_of_ble_eq_true rfl, Nat.le_of_ble_eq_true rfl⟩ rfl (Nat.le_of_ble_eq_true rfl) dL_law_386 (fun zZ NZ hzZ pZ => ?_)
  obtain ⟨he, hr⟩ := q_st_judge r pX pZ
  refine l_icmp_eq F 1058 dL_law_389 (by decide) ⟨hzX, hzZ⟩ (fun _ => ?_) (fun h => absurd he h)
  exact kk _ _ hr
set_option maxHeartbeats 4000000 in
set_option maxRecDepth 100000 in
theorem law_c8 {GX GZ : q_G} {E : q_E} {b0 Ln : Nat} {xs : Nat → Int32} {MX MZ : q_M} (F : q_LF GX GZ E b0 Ln xs) (hg : GZ.1 = GX.1 ∧ GZ.2.1 = GX.2.1 ∧ GZ.2.2.1 = GX.2.2.1 ∧ GZ.2.2.2.1 = GX.2.2.2.1) (hIX : q_inj GX) (hIZ : q_inj GZ) (hx : q_lh GX) (hm : q_mo GZ) (hL : Ln ≤ 2560) {i : Int} (i0 : 0 ≤ i) (i5 : i + 5 ≤ Ln) (r : q_rel MX MZ) (kk : ∀ MX' MZ' : q_M, q_rel MX' MZ' → q_LY GX GZ E MX' MZ' [(3, .int (q_I i)), (0, .ref b0), (1, .ref (q_ad GX 0)), (2, .ref (q_ad GZ 0))] 1058 []) : q_LY GX GZ E MX MZ [(3, .int (q_I i)), (0, .ref b0), (1, .ref (q_ad GX 0)), (2, .ref (q_ad GZ 0))] 394 [] := by
  refine l_aload_n F dL_law_394 2 rfl ?_
  refine l_callXI (n := 0) (T := TX8) F (c_X8_done GX hIX MX hx r.1) rfl rfl hx.1 gL_law_X8_done rfl ⟨by decide, by decide, by decide +kernel⟩ rfl ⟨rfl, rfl, Nat.le_of_ble_eq_true rfl, Nat.le_of_ble_eq_true rfl⟩ rfl (Nat.le_of_ble_eq_true rfl) dL_law_395 (fun zX NX hzX pX => ?_)
  refine l_aload_n F dL_law_398 3 rfl ?_
  refine l_callZI (n := 0) (T := TX9) F hg (c_X9_done GZ hIZ MZ hm r.2.1) rfl rfl hm.1 gL_law_X9_done rfl ⟨by decide, by decide, by decide +kernel⟩ rfl ⟨rfl, rfl, Nat.le_of_ble_eq_true rfl, Nat.le_of_ble_eq_true rfl⟩ rfl (Nat.le_of_ble_eq_true rfl) dL_law_399 (fun zZ NZ hzZ pZ => ?_)
  obtain ⟨he, hr⟩ := q_rel_done r pX pZ
  refine l_icmp_eq F 1058 dL_law_402 (by decide) ⟨hzX, hzZ⟩ (fun _ => ?_) (fun h => absurd he h)
  exact kk _ _ hr
set_option maxHeartbeats 4000000 in
set_option maxRecDepth 100000 in
theorem law_c9 {GX GZ : q_G} {E : q_E} {b0 Ln : Nat} {xs : Nat → Int32} {MX MZ : q_M} (F : q_LF GX GZ E b0 Ln xs) (hg : GZ.1 = GX.1 ∧ GZ.2.1 = GX.2.1 ∧ GZ.2.2.1 = GX.2.2.1 ∧ GZ.2.2.2.1 = GX.2.2.2.1) (hIX : q_inj GX) (hIZ : q_inj GZ) (hx : q_lh GX) (hm : q_mo GZ) (hL : Ln ≤ 2560) {i : Int} (i0 : 0 ≤ i) (i5 : i + 5 ≤ Ln) (r : q_rel MX MZ) (kk : ∀ MX' MZ' : q_M, q_rel MX' MZ' → q_LY GX GZ E MX' MZ' [(3, .int (q_I i)), (0, .ref b0), (1, .ref (q_ad GX 0)), (2, .ref (q_ad GZ 0))] 1058 []) : q_LY GX GZ E MX MZ [(3, .int (q_I i)), (0, .ref b0), (1, .ref (q_ad GX 0)), (2, .ref (q_ad GZ 0))] 407 [] := by
  refine l_aload_n F dL_law_407 2 rfl ?_
  refine l_aload_n F dL_law_408 1 rfl ?_
  refine l_iload_n F dL_law_409 0 rfl ?_
  refine l_iconst F dL_law_410 ?_
  refine l_iadd F dL_law_411 ?_
  refine l_sld F (by omega) hL dL_law_412 ?_
  refine l_aload_n F dL_law_413 1 rfl ?_
  refine l_iload_n F dL_law_414 0 rfl ?_
  refine l_iconst F dL_law_415 ?_
  refine l_iadd F dL_law_416 ?_
  refine l_sld F (by omega) hL dL_law_417 ?_
  refine l_callXI (n := 2) (T := TX8) F (c_X8_state GX hIX MX hx r.1 (q_sc xs (i + 1)) (q_sc xs (i + 2)) (q_sc_R _ _) (q_sc_R _ _)) rfl rfl hx.1 gL_law_X8_state rfl ⟨by decide, by decide, by decide +kernel⟩ rfl ⟨rfl, rfl, Nat.le_of_ble_eq_true rfl, Nat.le_of_ble_eq_true rfl⟩ rfl (Nat.le_of_ble_eq_true rfl) dL_law_418 (fun zX NX hzX pX => ?_)
  refine l_aload_n F dL_law_421 3 rfl ?_
  refine l_aload_n F dL_law_422 1 rfl ?_
  refine l_iload_n F dL_law_423 0 rfl ?_
  refine l_iconst F dL_law_424 ?_
  refine l_iadd F dL_law_425 ?_
  refine l_sld F (by omega) hL dL_law_426 ?_
  refine l_aload_n F dL_law_427 1 rfl ?_
  refine l_iload_n F dL_law_428 0 rfl ?_
  refine l_iconst F dL_law_429 ?_
  refine l_iadd F dL_law_430 ?_
  refine l_sld F (by omega) hL dL_law_431 ?_
  refine l_callZI (n := 2) (T := TX9) F hg (c_X9_state GZ hIZ MZ hm (q_sc xs (i + 1)) (q_sc xs (i + 2)) (q_sc_R _ _) (q_sc_R _ _) r.2.1) rfl rfl hm.1 gL_law_X9_state rfl ⟨by decide, by decide, by decide +kernel⟩ rfl ⟨rfl, rfl, Nat.le_of_ble_eq_true rfl, Nat.le_of_ble_eq_true rfl⟩ rfl (Nat.le_of_ble_eq_true rfl) dL_law_432 (fun zZ NZ hzZ pZ => ?_)
  obtain ⟨he, hr⟩ := q_st_state r pX pZ
  refine l_icmp_eq F 1058 dL_law_435 (by decide) ⟨hzX, hzZ⟩ (fun _ => ?_) (fun h => absurd he h)
  exact kk _ _ hr
set_option maxHeartbeats 4000000 in
set_option maxRecDepth 100000 in
theorem law_c10 {GX GZ : q_G} {E : q_E} {b0 Ln : Nat} {xs : Nat → Int32} {MX MZ : q_M} (F : q_LF GX GZ E b0 Ln xs) (hg : GZ.1 = GX.1 ∧ GZ.2.1 = GX.2.1 ∧ GZ.2.2.1 = GX.2.2.1 ∧ GZ.2.2.2.1 = GX.2.2.2.1) (hIX : q_inj GX) (hIZ : q_inj GZ) (hx : q_lh GX) (hm : q_mo GZ) (hL : Ln ≤ 2560) {i : Int} (i0 : 0 ≤ i) (i5 : i + 5 ≤ Ln) (r : q_rel MX MZ) (kk : ∀ MX' MZ' : q_M, q_rel MX' MZ' → q_LY GX GZ E MX' MZ' [(3, .int (q_I i)), (0, .ref b0), (1, .ref (q_ad GX 0)), (2, .ref (q_ad GZ 0))] 1058 []) : q_LY GX GZ E MX MZ [(3, .int (q_I i)), (0, .ref b0), (1, .ref (q_ad GX 0)), (2, .ref (q_ad GZ 0))] 440 [] := by
  refine l_aload_n F dL_law_440 2 rfl ?_
  refine l_aload_n F dL_law_441 1 rfl ?_
  refine l_iload_n F dL_law_442 0 rfl ?_
  refine l_iconst F dL_law_443 ?_
  refine l_iadd F dL_law_444 ?_
  refine l_sld F (by omega) hL dL_law_445 ?_
  refine l_aload_n F dL_law_446 1 rfl ?_
  refine l_iload_n F dL_law_447 0 rfl ?_
  refine l_iconst F dL_law_448 ?_
  refine l_iadd F dL_law_449 ?_
  refine l_sld F (by omega) hL dL_law_450 ?_
  refine l_callXI (n := 2) (T := TX8) F (c_X8_behind GX hIX MX hx r.1 (q_sc xs (i + 1)) (q_sc xs (i + 2)) (q_sc_R _ _) (q_sc_R _ _)) rfl rfl hx.1 gL_law_X8_behind rfl ⟨by decide, by decide, by decide +kernel⟩ rfl ⟨rfl, rfl, Nat.le_of_ble_eq_true rfl, Nat.le_of_ble_eq_true rfl⟩ rfl (Nat.le_of_ble_eq_true rfl) dL_law_451 (fun zX NX hzX pX => ?_)
  refine l_aload_n F dL_law_454 3 rfl ?_
  refine l_aload_n F dL_law_455 1 rfl ?_
  refine l_iload_n F dL_law_456 0 rfl ?_
  refine l_iconst F dL_law_457 ?_
  refine l_iadd F dL_law_458 ?_
  refine l_sld F (by omega) hL dL_law_459 ?_
  refine l_aload_n F dL_law_460 1 rfl ?_
  refine l_iload_n F dL_law_461 0 rfl ?_
  refine l_iconst F dL_law_462 ?_
  refine l_iadd F dL_law_463 ?_
  refine l_sld F (by omega) hL dL_law_464 ?_
  refine l_callZI (n := 2) (T := TX9) F hg (c_X9_behind GZ hIZ MZ hm (q_sc xs (i + 1)) (q_sc xs (i + 2)) (q_sc_R _ _) (q_sc_R _ _) r.2.1) rfl rfl hm.1 gL_law_X9_behind rfl ⟨by decide, by decide, by decide +kernel⟩ rfl ⟨rfl, rfl, Nat.le_of_ble_eq_true rfl, Nat.le_of_ble_eq_true rfl⟩ rfl (Nat.le_of_ble_eq_true rfl) dL_law_465 (fun zZ NZ hzZ pZ => ?_)
  obtain ⟨he, hr⟩ := q_st_behind r pX pZ
  refine l_icmp_eq F 1058 dL_law_468 (by decide) ⟨hzX, hzZ⟩ (fun _ => ?_) (fun h => absurd he h)
  exact kk _ _ hr
set_option maxHeartbeats 4000000 in
set_option maxRecDepth 100000 in
theorem law_c11 {GX GZ : q_G} {E : q_E} {b0 Ln : Nat} {xs : Nat → Int32} {MX MZ : q_M} (F : q_LF GX GZ E b0 Ln xs) (hg : GZ.1 = GX.1 ∧ GZ.2.1 = GX.2.1 ∧ GZ.2.2.1 = GX.2.2.1 ∧ GZ.2.2.2.1 = GX.2.2.2.1) (hIX : q_inj GX) (hIZ : q_inj GZ) (hx : q_lh GX) (hm : q_mo GZ) (hL : Ln ≤ 2560) {i : Int} (i0 : 0 ≤ i) (i5 : i + 5 ≤ Ln) (r : q_rel MX MZ) (kk : ∀ MX' MZ' : q_M, q_rel MX' MZ' → q_LY GX GZ E MX' MZ' [(3, .int (q_I i)), (0, .ref b0), (1, .ref (q_ad GX 0)), (2, .ref (q_ad GZ 0))] 1058 []) : q_LY GX GZ E MX MZ [(3, .int (q_I i)), (0, .ref b0), (1, .ref (q_ad GX 0)), (2, .ref (q_ad GZ 0))] 473 [] := by
  refine l_aload_n F dL_law_473 2 rfl ?_
  refine l_aload_n F dL_law_474 1 rfl ?_
  refine l_iload_n F dL_law_475 0 rfl ?_
  refine l_iconst F dL_law_476 ?_
  refine l_iadd F dL_law_477 ?_
  refine l_sld F (by omega) hL dL_law_478 ?_
  refine l_callXI (n := 1) (T := TX8) F (c_X8_waste GX hIX MX hx r.1 (q_sc xs (i + 1)) (q_sc_R _ _)) rfl rfl hx.1 gL_law_X8_waste rfl ⟨by decide, by decide, by decide +kernel⟩ rfl ⟨rfl, rfl, Nat.le_of_ble_eq_true rfl, Nat.le_of_ble_eq_true rfl⟩ rfl (Nat.le_of_ble_eq_true rfl) dL_law_479 (fun zX NX hzX pX => ?_)
  refine l_aload_n F dL_law_482 3 rfl ?_
  refine l_aload_n F dL_law_483 1 rfl ?_
  refine l_iload_n F dL_law_484 0 rfl ?_
  refine l_iconst F dL_law_485 ?_
  refine l_iadd F dL_law_486 ?_
  refine l_sld F (by omega) hL dL_law_487 ?_
  refine l_callZI (n := 1) (T := TX9) F hg (c_X9_waste GZ hIZ MZ hm (q_sc xs (i + 1)) (q_sc_R _ _) r.2.1) rfl rfl hm.1 gL_law_X9_waste rfl ⟨by decide, by decide, by decide +kernel⟩ rfl ⟨rfl, rfl, Nat.le_of_ble_eq_true rfl, Nat.le_of_ble_eq_true rfl⟩ rfl (Nat.le_of_ble_eq_true rfl) dL_law_488 (fun zZ NZ hzZ pZ => ?_)
  obtain ⟨he, hr⟩ := q_st_waste r pX pZ
  refine l_icmp_eq F 1058 dL_law_491 (by decide) ⟨hzX, hzZ⟩ (fun _ => ?_) (fun h => absurd he h)
  exact kk _ _ hr
set_option maxHeartbeats 4000000 in
set_option maxRecDepth 100000 in
theorem law_c12 {GX GZ : q_G} {E : q_E} {b0 Ln : Nat} {xs : Nat → Int32} {MX MZ : q_M} (F : q_LF GX GZ E b0 Ln xs) (hg : GZ.1 = GX.1 ∧ GZ.2.1 = GX.2.1 ∧ GZ.2.2.1 = GX.2.2.1 ∧ GZ.2.2.2.1 = GX.2.2.2.1) (hIX : q_inj GX) (hIZ : q_inj GZ) (hx : q_lh GX) (hm : q_mo GZ) (hL : Ln ≤ 2560) {i : Int} (i0 : 0 ≤ i) (i5 : i + 5 ≤ Ln) (r : q_rel MX MZ) (kk : ∀ MX' MZ' : q_M, q_rel MX' MZ' → q_LY GX GZ E MX' MZ' [(3, .int (q_I i)), (0, .ref b0), (1, .ref (q_ad GX 0)), (2, .ref (q_ad GZ 0))] 1058 []) : q_LY GX GZ E MX MZ [(3, .int (q_I i)), (0, .ref b0), (1, .ref (q_ad GX 0)), (2, .ref (q_ad GZ 0))] 496 [] := by
  refine l_aload_n F dL_law_496 2 rfl ?_
  refine l_aload_n F dL_law_497 1 rfl ?_
  refine l_iload_n F dL_law_498 0 rfl ?_
  refine l_iconst F dL_law_499 ?_
  refine l_iadd F dL_law_500 ?_
  refine l_sld F (by omega) hL dL_law_501 ?_
  refine l_aload_n F dL_law_502 1 rfl ?_
  refine l_iload_n F dL_law_503 0 rfl ?_
  refine l_iconst F dL_law_504 ?_
  refine l_iadd F dL_law_505 ?_
  refine l_sld F (by omega) hL dL_law_506 ?_
  refine l_callXI (n := 2) (T := TX8) F (c_X8_served GX hIX MX hx r.1 (q_sc xs (i + 1)) (q_sc xs (i + 2)) (q_sc_R _ _) (q_sc_R _ _)) rfl rfl hx.1 gL_law_X8_served rfl ⟨by decide, by decide, by decide +kernel⟩ rfl ⟨rfl, rfl, Nat.le_of_ble_eq_true rfl, Nat.le_of_ble_eq_true rfl⟩ rfl (Nat.le_of_ble_eq_true rfl) dL_law_507 (fun zX NX hzX pX => ?_)
  refine l_aload_n F dL_law_510 3 rfl ?_
  refine l_aload_n F dL_law_511 1 rfl ?_
  refine l_iload_n F dL_law_512 0 rfl ?_
  refine l_iconst F dL_law_513 ?_
  refine l_iadd F dL_law_514 ?_
  refine l_sld F (by omega) hL dL_law_515 ?_
  refine l_aload_n F dL_law_516 1 rfl ?_
  refine l_iload_n F dL_law_517 0 rfl ?_
  refine l_iconst F dL_law_518 ?_
  refine l_iadd F dL_law_519 ?_
  refine l_sld F (by omega) hL dL_law_520 ?_
  refine l_callZI (n := 2) (T := TX9) F hg (c_X9_served GZ hIZ MZ hm (q_sc xs (i + 1)) (q_sc xs (i + 2)) (q_sc_R _ _) (q_sc_R _ _) r.2.1) rfl rfl hm.1 gL_law_X9_served rfl ⟨by decide, by decide, by decide +kernel⟩ rfl ⟨rfl, rfl, Nat.le_of_ble_eq_true rfl, Nat.le_of_ble_eq_true rfl⟩ rfl (Nat.le_of_ble_eq_true rfl) dL_law_521 (fun zZ NZ hzZ pZ => ?_)
  obtain ⟨he, hr⟩ := q_st_served r pX pZ
  refine l_icmp_eq F 1058 dL_law_524 (by decide) ⟨hzX, hzZ⟩ (fun _ => ?_) (fun h => absurd he h)
  exact kk _ _ hr
set_option maxHeartbeats 4000000 in
set_option maxRecDepth 100000 in
theorem law_c13 {GX GZ : q_G} {E : q_E} {b0 Ln : Nat} {xs : Nat → Int32} {MX MZ : q_M} (F : q_LF GX GZ E b0 Ln xs) (hg : GZ.1 = GX.1 ∧ GZ.2.1 = GX.2.1 ∧ GZ.2.2.1 = GX.2.2.1 ∧ GZ.2.2.2.1 = GX.2.2.2.1) (hIX : q_inj GX) (hIZ : q_inj GZ) (hx : q_lh GX) (hm : q_mo GZ) (hL : Ln ≤ 2560) {i : Int} (i0 : 0 ≤ i) (i5 : i + 5 ≤ Ln) (r : q_rel MX MZ) (kk : ∀ MX' MZ' : q_M, q_rel MX' MZ' → q_LY GX GZ E MX' MZ' [(3, .int (q_I i)), (0, .ref b0), (1, .ref (q_ad GX 0)), (2, .ref (q_ad GZ 0))] 1058 []) : q_LY GX GZ E MX MZ [(3, .int (q_I i)), (0, .ref b0), (1, .ref (q_ad GX 0)), (2, .ref (q_ad GZ 0))] 529 [] := by
  refine l_aload_n F dL_law_529 2 rfl ?_
  refine l_aload_n F dL_law_530 1 rfl ?_
  refine l_iload_n F dL_law_531 0 rfl ?_
  refine l_iconst F dL_law_532 ?_
  refine l_iadd F dL_law_533 ?_
  refine l_sld F (by omega) hL dL_law_534 ?_
  refine l_aload_n F dL_law_535 1 rfl ?_
  refine l_iload_n F dL_law_536 0 rfl ?_
  refine l_iconst F dL_law_537 ?_
  refine l_iadd F dL_law_538 ?_
  refine l_sld F (by omega) hL dL_law_539 ?_
  refine l_callXI (n := 2) (T := TX8) F (c_X8_feign GX hIX MX hx r.1 (q_sc xs (i + 1)) (q_sc xs (i + 2)) (q_sc_R _ _) (q_sc_R _ _)) rfl rfl hx.1 gL_law_X8_feign rfl ⟨by decide, by decide, by decide +kernel⟩ rfl ⟨rfl, rfl, Nat.le_of_ble_eq_true rfl, Nat.le_of_ble_eq_true rfl⟩ rfl (Nat.le_of_ble_eq_true rfl) dL_law_540 (fun zX NX hzX pX => ?_)
  refine l_aload_n F dL_law_543 3 rfl ?_
  refine l_aload_n F dL_law_544 1 rfl ?_
  refine l_iload_n F dL_law_545 0 rfl ?_
  refine l_iconst F dL_law_546 ?_
  refine l_iadd F dL_law_547 ?_
  refine l_sld F (by omega) hL dL_law_548 ?_
  refine l_aload_n F dL_law_549 1 rfl ?_
  refine l_iload_n F dL_law_550 0 rfl ?_
  refine l_iconst F dL_law_551 ?_
  refine l_iadd F dL_law_552 ?_
  refine l_sld F (by omega) hL dL_law_553 ?_
  refine l_callZI (n := 2) (T := TX9) F hg (c_X9_feign GZ hIZ MZ hm (q_sc xs (i + 1)) (q_sc xs (i + 2)) (q_sc_R _ _) (q_sc_R _ _) r.2.1) rfl rfl hm.1 gL_law_X9_feign rfl ⟨by decide, by decide, by decide +kernel⟩ rfl ⟨rfl, rfl, Nat.le_of_ble_eq_true rfl, Nat.le_of_ble_eq_true rfl⟩ rfl (Nat.le_of_ble_eq_true rfl) dL_law_554 (fun zZ NZ hzZ pZ => ?_)
  obtain ⟨he, hr⟩ := q_st_feign r pX pZ
  refine l_icmp_eq F 1058 dL_law_557 (by decide) ⟨hzX, hzZ⟩ (fun _ => ?_) (fun h => absurd he h)
  exact kk _ _ hr
set_option maxHeartbeats 4000000 in
set_option maxRecDepth 100000 in
theorem law_c14 {GX GZ : q_G} {E : q_E} {b0 Ln : Nat} {xs : Nat → Int32} {MX MZ : q_M} (F : q_LF GX GZ E b0 Ln xs) (hg : GZ.1 = GX.1 ∧ GZ.2.1 = GX.2.1 ∧ GZ.2.2.1 = GX.2.2.1 ∧ GZ.2.2.2.1 = GX.2.2.2.1) (hIX : q_inj GX) (hIZ : q_inj GZ) (hx : q_lh GX) (hm : q_mo GZ) (hL : Ln ≤ 2560) {i : Int} (i0 : 0 ≤ i) (i5 : i + 5 ≤ Ln) (r : q_rel MX MZ) (kk : ∀ MX' MZ' : q_M, q_rel MX' MZ' → q_LY GX GZ E MX' MZ' [(3, .int (q_I i)), (0, .ref b0), (1, .ref (q_ad GX 0)), (2, .ref (q_ad GZ 0))] 1058 []) : q_LY GX GZ E MX MZ [(3, .int (q_I i)), (0, .ref b0), (1, .ref (q_ad GX 0)), (2, .ref (q_ad GZ 0))] 562 [] := by
  refine l_aload_n F dL_law_562 2 rfl ?_
  refine l_aload_n F dL_law_563 1 rfl ?_
  refine l_iload_n F dL_law_564 0 rfl ?_
  refine l_iconst F dL_law_565 ?_
  refine l_iadd F dL_law_566 ?_
  refine l_sld F (by omega) hL dL_law_567 ?_
  refine l_aload_n F dL_law_568 1 rfl ?_
  refine l_iload_n F dL_law_569 0 rfl ?_
  refine l_iconst F dL_law_570 ?_
  refine l_iadd F dL_law_571 ?_
  refine l_sld F (by omega) hL dL_law_572 ?_
  refine l_aload_n F dL_law_573 1 rfl ?_
  refine l_iload_n F dL_law_574 0 rfl ?_
  refine l_iconst F dL_law_575 ?_
  refine l_iadd F dL_law_576 ?_
  refine l_sld F (by omega) hL dL_law_577 ?_
  refine l_callXI (n := 3) (T := TX8) F (c_X8_rests GX hIX MX hx r.1 (q_sc xs (i + 1)) (q_sc xs (i + 2)) (q_sc xs (i + 3)) (q_sc_R _ _) (q_sc_R _ _) (q_sc_R _ _)) rfl rfl hx.1 gL_law_X8_rests rfl ⟨by decide, by decide, by decide +kernel⟩ rfl ⟨rfl, rfl, Nat.le_of_ble_eq_true rfl, Nat.le_of_ble_eq_true rfl⟩ rfl (Nat.le_of_ble_eq_true rfl) dL_law_578 (fun zX NX hzX pX => ?_)
  refine l_aload_n F dL_law_581 3 rfl ?_
  refine l_aload_n F dL_law_582 1 rfl ?_
  refine l_iload_n F dL_law_583 0 rfl ?_
  refine l_iconst F dL_law_584 ?_
  refine l_iadd F dL_law_585 ?_
  refine l_sld F (by omega) hL dL_law_586 ?_
  refine l_aload_n F dL_law_587 1 rfl ?_
  refine l_iload_n F dL_law_588 0 rfl ?_
  refine l_iconst F dL_law_589 ?_
  refine l_iadd F dL_law_590 ?_
  refine l_sld F (by omega) hL dL_law_591 ?_
  refine l_aload_n F dL_law_592 1 rfl ?_
  refine l_iload_n F dL_law_593 0 rfl ?_
  refine l_iconst F dL_law_594 ?_
  refine l_iadd F dL_law_595 ?_
  refine l_sld F (by omega) hL dL_law_596 ?_
  refine l_callZI (n := 3) (T := TX9) F hg (c_X9_rests GZ hIZ MZ hm (q_sc xs (i + 1)) (q_sc xs (i + 2)) (q_sc xs (i + 3)) (q_sc_R _ _) (q_sc_R _ _) (q_sc_R _ _) r.2.1) rfl rfl hm.1 gL_law_X9_rests rfl ⟨by decide, by decide, by decide +kernel⟩ rfl ⟨rfl, rfl, Nat.le_of_ble_eq_true rfl, Nat.le_of_ble_eq_true rfl⟩ rfl (Nat.le_of_ble_eq_true rfl) dL_law_597 (fun zZ NZ hzZ pZ => ?_)
  obtain ⟨he, hr⟩ := q_st_rests r pX pZ
  refine l_icmp_eq F 1058 dL_law_600 (by decide) ⟨hzX, hzZ⟩ (fun _ => ?_) (fun h => absurd he h)
  exact kk _ _ hr
set_option maxHeartbeats 4000000 in
set_option maxRecDepth 100000 in
theorem law_c15 {GX GZ : q_G} {E : q_E} {b0 Ln : Nat} {xs : Nat → Int32} {MX MZ : q_M} (F : q_LF GX GZ E b0 Ln xs) (hg : GZ.1 = GX.1 ∧ GZ.2.1 = GX.2.1 ∧ GZ.2.2.1 = GX.2.2.1 ∧ GZ.2.2.2.1 = GX.2.2.2.1) (hIX : q_inj GX) (hIZ : q_inj GZ) (hx : q_lh GX) (hm : q_mo GZ) (hL : Ln ≤ 2560) {i : Int} (i0 : 0 ≤ i) (i5 : i + 5 ≤ Ln) (r : q_rel MX MZ) (kk : ∀ MX' MZ' : q_M, q_rel MX' MZ' → q_LY GX GZ E MX' MZ' [(3, .int (q_I i)), (0, .ref b0), (1, .ref (q_ad GX 0)), (2, .ref (q_ad GZ 0))] 1058 []) : q_LY GX GZ E MX MZ [(3, .int (q_I i)), (0, .ref b0), (1, .ref (q_ad GX 0)), (2, .ref (q_ad GZ 0))] 605 [] := by
  refine l_aload_n F dL_law_605 2 rfl ?_
  refine l_aload_n F dL_law_606 1 rfl ?_
  refine l_iload_n F dL_law_607 0 rfl ?_
  refine l_iconst F dL_law_608 ?_
  refine l_iadd F dL_law_609 ?_
  refine l_sld F (by omega) hL dL_law_610 ?_
  refine l_aload_n F dL_law_611 1 rfl ?_
  refine l_iload_n F dL_law_612 0 rfl ?_
  refine l_iconst F dL_law_613 ?_
  refine l_iadd F dL_law_614 ?_
  refine l_sld F (by omega) hL dL_law_615 ?_
  refine l_aload_n F dL_law_616 1 rfl ?_
  refine l_iload_n F dL_law_617 0 rfl ?_
  refine l_iconst F dL_law_618 ?_
  refine l_iadd F dL_law_619 ?_
  refine l_sld F (by omega) hL dL_law_620 ?_
  refine l_aload_n F dL_law_621 1 rfl ?_
  refine l_iload_n F dL_law_622 0 rfl ?_
  refine l_iconst F dL_law_623 ?_
  refine l_iadd F dL_law_624 ?_
  refine l_sld F (by omega) hL dL_law_625 ?_
  refine l_callXI (n := 4) (T := TX8) F (c_X8_round GX hIX MX hx r.1 (q_sc xs (i + 1)) (q_sc xs (i + 2)) (q_sc xs (i + 3)) (q_sc xs (i + 4)) (q_sc_R _ _) (q_sc_R _ _) (q_sc_R _ _) (q_sc_R _ _)) rfl rfl hx.1 gL_law_X8_round rfl ⟨by decide, by decide, by decide +kernel⟩ rfl ⟨rfl, rfl, Nat.le_of_ble_eq_true rfl, Nat.le_of_ble_eq_true rfl⟩ rfl (Nat.le_of_ble_eq_true rfl) dL_law_626 (fun zX NX hzX pX => ?_)
  refine l_aload_n F dL_law_629 3 rfl ?_
  refine l_aload_n F dL_law_630 1 rfl ?_
  refine l_iload_n F dL_law_631 0 rfl ?_
  refine l_iconst F dL_law_632 ?_
  refine l_iadd F dL_law_633 ?_
  refine l_sld F (by omega) hL dL_law_634 ?_
  refine l_aload_n F dL_law_635 1 rfl ?_
  refine l_iload_n F dL_law_636 0 rfl ?_
  refine l_iconst F dL_law_637 ?_
  refine l_iadd F dL_law_638 ?_
  refine l_sld F (by omega) hL dL_law_639 ?_
  refine l_aload_n F dL_law_640 1 rfl ?_
  refine l_iload_n F dL_law_641 0 rfl ?_
  refine l_iconst F dL_law_642 ?_
  refine l_iadd F dL_law_643 ?_
  refine l_sld F (by omega) hL dL_law_644 ?_
  refine l_aload_n F dL_law_645 1 rfl ?_
  refine l_iload_n F dL_law_646 0 rfl ?_
  refine l_iconst F dL_law_647 ?_
  refine l_iadd F dL_law_648 ?_
  refine l_sld F (by omega) hL dL_law_649 ?_
  refine l_callZI (n := 4) (T := TX9) F hg (c_X9_round GZ hIZ MZ hm (q_sc xs (i + 1)) (q_sc xs (i + 2)) (q_sc xs (i + 3)) (q_sc xs (i + 4)) (q_sc_R _ _) (q_sc_R _ _) (q_sc_R _ _) (q_sc_R _ _) r.2.1) rfl rfl hm.1 gL_law_X9_round rfl ⟨by decide, by decide, by decide +kernel⟩ rfl ⟨rfl, rfl, Nat.le_of_ble_eq_true rfl, Nat.le_of_ble_eq_true rfl⟩ rfl (Nat.le_of_ble_eq_true rfl) dL_law_650 (fun zZ NZ hzZ pZ => ?_)
  obtain ⟨he, hr⟩ := q_st_round r pX pZ
  refine l_icmp_eq F 1058 dL_law_653 (by decide) ⟨hzX, hzZ⟩ (fun _ => ?_) (fun h => absurd he h)
  exact kk _ _ hr
set_option maxHeartbeats 4000000 in
set_option maxRecDepth 100000 in
theorem law_c16 {GX GZ : q_G} {E : q_E} {b0 Ln : Nat} {xs : Nat → Int32} {MX MZ : q_M} (F : q_LF GX GZ E b0 Ln xs) (hg : GZ.1 = GX.1 ∧ GZ.2.1 = GX.2.1 ∧ GZ.2.2.1 = GX.2.2.1 ∧ GZ.2.2.2.1 = GX.2.2.2.1) (hIX : q_inj GX) (hIZ : q_inj GZ) (hx : q_lh GX) (hm : q_mo GZ) (hL : Ln ≤ 2560) {i : Int} (i0 : 0 ≤ i) (i5 : i + 5 ≤ Ln) (r : q_rel MX MZ) (kk : ∀ MX' MZ' : q_M, q_rel MX' MZ' → q_LY GX GZ E MX' MZ' [(3, .int (q_I i)), (0, .ref b0), (1, .ref (q_ad GX 0)), (2, .ref (q_ad GZ 0))] 1058 []) : q_LY GX GZ E MX MZ [(3, .int (q_I i)), (0, .ref b0), (1, .ref (q_ad GX 0)), (2, .ref (q_ad GZ 0))] 658 [] := by
  refine l_aload_n F dL_law_658 2 rfl ?_
  refine l_aload_n F dL_law_659 1 rfl ?_
  refine l_iload_n F dL_law_660 0 rfl ?_
  refine l_iconst F dL_law_661 ?_
  refine l_iadd F dL_law_662 ?_
  refine l_sld F (by omega) hL dL_law_663 ?_
  refine l_aload_n F dL_law_664 1 rfl ?_
  refine l_iload_n F dL_law_665 0 rfl ?_
  refine l_iconst F dL_law_666 ?_
  refine l_iadd F dL_law_667 ?_
  refine l_sld F (by omega) hL dL_law_668 ?_
  refine l_aload_n F dL_law_669 1 rfl ?_
  refine l_iload_n F dL_law_670 0 rfl ?_
  refine l_iconst F dL_law_671 ?_
  refine l_iadd F dL_law_672 ?_
  refine l_sld F (by omega) hL dL_law_673 ?_
  refine l_aload_n F dL_law_674 1 rfl ?_
  refine l_iload_n F dL_law_675 0 rfl ?_
  refine l_iconst F dL_law_676 ?_
  refine l_iadd F dL_law_677 ?_
  refine l_sld F (by omega) hL dL_law_678 ?_
  refine l_callXI (n := 4) (T := TX8) F (c_X8_rules GX hIX MX hx r.1 (q_sc xs (i + 1)) (q_sc xs (i + 2)) (q_sc xs (i + 3)) (q_sc xs (i + 4)) (q_sc_R _ _) (q_sc_R _ _) (q_sc_R _ _) (q_sc_R _ _)) rfl rfl hx.1 gL_law_X8_rules rfl ⟨by decide, by decide, by decide +kernel⟩ rfl ⟨rfl, rfl, Nat.le_of_ble_eq_true rfl, Nat.le_of_ble_eq_true rfl⟩ rfl (Nat.le_of_ble_eq_true rfl) dL_law_679 (fun zX NX hzX pX => ?_)
  refine l_aload_n F dL_law_682 3 rfl ?_
  refine l_aload_n F dL_law_683 1 rfl ?_
  refine l_iload_n F dL_law_684 0 rfl ?_
  refine l_iconst F dL_law_685 ?_
  refine l_iadd F dL_law_686 ?_
  refine l_sld F (by omega) hL dL_law_687 ?_
  refine l_aload_n F dL_law_688 1 rfl ?_
  refine l_iload_n F dL_law_689 0 rfl ?_
  refine l_iconst F dL_law_690 ?_
  refine l_iadd F dL_law_691 ?_
  refine l_sld F (by omega) hL dL_law_692 ?_
  refine l_aload_n F dL_law_693 1 rfl ?_
  refine l_iload_n F dL_law_694 0 rfl ?_
  refine l_iconst F dL_law_695 ?_
  refine l_iadd F dL_law_696 ?_
  refine l_sld F (by omega) hL dL_law_697 ?_
  refine l_aload_n F dL_law_698 1 rfl ?_
  refine l_iload_n F dL_law_699 0 rfl ?_
  refine l_iconst F dL_law_700 ?_
  refine l_iadd F dL_law_701 ?_
  refine l_sld F (by omega) hL dL_law_702 ?_
  refine l_callZI (n := 4) (T := TX9) F hg (c_X9_rules GZ hIZ MZ hm (q_sc xs (i + 1)) (q_sc xs (i + 2)) (q_sc xs (i + 3)) (q_sc xs (i + 4)) (q_sc_R _ _) (q_sc_R _ _) (q_sc_R _ _) (q_sc_R _ _) r.2.1) rfl rfl hm.1 gL_law_X9_rules rfl ⟨by decide, by decide, by decide +kernel⟩ rfl ⟨rfl, rfl, Nat.le_of_ble_eq_true rfl, Nat.le_of_ble_eq_true rfl⟩ rfl (Nat.le_of_ble_eq_true rfl) dL_law_703 (fun zZ NZ hzZ pZ => ?_)
  obtain ⟨he, hr⟩ := q_st_rules r pX pZ
  refine l_icmp_eq F 1058 dL_law_706 (by decide) ⟨hzX, hzZ⟩ (fun _ => ?_) (fun h => absurd he h)
  exact kk _ _ hr
set_option maxHeartbeats 4000000 in
set_option maxRecDepth 100000 in
theorem law_c17 {GX GZ : q_G} {E : q_E} {b0 Ln : Nat} {xs : Nat → Int32} {MX MZ : q_M} (F : q_LF GX GZ E b0 Ln xs) (hg : GZ.1 = GX.1 ∧ GZ.2.1 = GX.2.1 ∧ GZ.2.2.1 = GX.2.2.1 ∧ GZ.2.2.2.1 = GX.2.2.2.1) (hIX : q_inj GX) (hIZ : q_inj GZ) (hx : q_lh GX) (hm : q_mo GZ) (hL : Ln ≤ 2560) {i : Int} (i0 : 0 ≤ i) (i5 : i + 5 ≤ Ln) (r : q_rel MX MZ) (kk : ∀ MX' MZ' : q_M, q_rel MX' MZ' → q_LY GX GZ E MX' MZ' [(3, .int (q_I i)), (0, .ref b0), (1, .ref (q_ad GX 0)), (2, .ref (q_ad GZ 0))] 1058 []) : q_LY GX GZ E MX MZ [(3, .int (q_I i)), (0, .ref b0), (1, .ref (q_ad GX 0)), (2, .ref (q_ad GZ 0))] 711 [] := by
  refine l_aload_n F dL_law_711 2 rfl ?_
  refine l_aload_n F dL_law_712 1 rfl ?_
  refine l_iload_n F dL_law_713 0 rfl ?_
  refine l_iconst F dL_law_714 ?_
  refine l_iadd F dL_law_715 ?_
  refine l_sld F (by omega) hL dL_law_716 ?_
  refine l_aload_n F dL_law_717 1 rfl ?_
  refine l_iload_n F dL_law_718 0 rfl ?_
  refine l_iconst F dL_law_719 ?_
  refine l_iadd F dL_law_720 ?_
  refine l_sld F (by omega) hL dL_law_721 ?_
  refine l_callXI (n := 2) (T := TX8) F (c_X8_seen GX hIX MX hx r.1 (q_sc xs (i + 1)) (q_sc xs (i + 2)) (q_sc_R _ _) (q_sc_R _ _)) rfl rfl hx.1 gL_law_X8_seen rfl ⟨by decide, by decide, by decide +kernel⟩ rfl ⟨rfl, rfl, Nat.le_of_ble_eq_true rfl, Nat.le_of_ble_eq_true rfl⟩ rfl (Nat.le_of_ble_eq_true rfl) dL_law_722 (fun zX NX hzX pX => ?_)
  refine l_aload_n F dL_law_725 3 rfl ?_
  refine l_aload_n F dL_law_726 1 rfl ?_
  refine l_iload_n F dL_law_727 0 rfl ?_
  refine l_iconst F dL_law_728 ?_
  refine l_iadd F dL_law_729 ?_
  refine l_sld F (by omega) hL dL_law_730 ?_
  refine l_aload_n F dL_law_731 1 rfl ?_
  refine l_iload_n F dL_law_732 0 rfl ?_
  refine l_iconst F dL_law_733 ?_
  refine l_iadd F dL_law_734 ?_
  refine l_sld F (by omega) hL dL_law_735 ?_
  refine l_callZI (n := 2) (T := TX9) F hg (c_X9_seen GZ hIZ MZ hm (q_sc xs (i + 1)) (q_sc xs (i + 2)) (q_sc_R _ _) (q_sc_R _ _) r.2.1.2.2.2.1.1) rfl rfl hm.1 gL_law_X9_seen rfl ⟨by decide, by decide, by decide +kernel⟩ rfl ⟨rfl, rfl, Nat.le_of_ble_eq_true rfl, Nat.le_of_ble_eq_true rfl⟩ rfl (Nat.le_of_ble_eq_true rfl) dL_law_736 (fun zZ NZ hzZ pZ => ?_)
  obtain ⟨he, hr⟩ := q_rel_seen r pX pZ
  refine l_icmp_eq F 1058 dL_law_739 (by decide) ⟨hzX, hzZ⟩ (fun _ => ?_) (fun h => absurd he h)
  exact kk _ _ hr
set_option maxHeartbeats 4000000 in
set_option maxRecDepth 100000 in
theorem law_c18 {GX GZ : q_G} {E : q_E} {b0 Ln : Nat} {xs : Nat → Int32} {MX MZ : q_M} (F : q_LF GX GZ E b0 Ln xs) (hg : GZ.1 = GX.1 ∧ GZ.2.1 = GX.2.1 ∧ GZ.2.2.1 = GX.2.2.1 ∧ GZ.2.2.2.1 = GX.2.2.2.1) (hIX : q_inj GX) (hIZ : q_inj GZ) (hx : q_lh GX) (hm : q_mo GZ) (hL : Ln ≤ 2560) {i : Int} (i0 : 0 ≤ i) (i5 : i + 5 ≤ Ln) (r : q_rel MX MZ) (kk : ∀ MX' MZ' : q_M, q_rel MX' MZ' → q_LY GX GZ E MX' MZ' [(3, .int (q_I i)), (0, .ref b0), (1, .ref (q_ad GX 0)), (2, .ref (q_ad GZ 0))] 1058 []) : q_LY GX GZ E MX MZ [(3, .int (q_I i)), (0, .ref b0), (1, .ref (q_ad GX 0)), (2, .ref (q_ad GZ 0))] 744 [] := by
  refine l_aload_n F dL_law_744 2 rfl ?_
  refine l_callXI (n := 0) (T := TX8) F (c_X8_forget GX hIX MX hx r.1) rfl rfl hx.1 gL_law_X8_forget rfl ⟨by decide, by decide, by decide +kernel⟩ rfl ⟨rfl, rfl, Nat.le_of_ble_eq_true rfl, Nat.le_of_ble_eq_true rfl⟩ rfl (Nat.le_of_ble_eq_true rfl) dL_law_745 (fun zX NX hzX pX => ?_)
  refine l_aload_n F dL_law_748 3 rfl ?_
  refine l_callZI (n := 0) (T := TX9) F hg (c_X9_forget GZ hIZ MZ hm) rfl rfl hm.1 gL_law_X9_forget rfl ⟨by decide, by decide, by decide +kernel⟩ rfl ⟨rfl, rfl, Nat.le_of_ble_eq_true rfl, Nat.le_of_ble_eq_true rfl⟩ rfl (Nat.le_of_ble_eq_true rfl) dL_law_749 (fun zZ NZ hzZ pZ => ?_)
  obtain ⟨he, hr⟩ := q_rel_forget r pX pZ
  refine l_icmp_eq F 1058 dL_law_752 (by decide) ⟨hzX, hzZ⟩ (fun _ => ?_) (fun h => absurd he h)
  exact kk _ _ hr
set_option maxHeartbeats 4000000 in
set_option maxRecDepth 100000 in
theorem law_c19 {GX GZ : q_G} {E : q_E} {b0 Ln : Nat} {xs : Nat → Int32} {MX MZ : q_M} (F : q_LF GX GZ E b0 Ln xs) (hg : GZ.1 = GX.1 ∧ GZ.2.1 = GX.2.1 ∧ GZ.2.2.1 = GX.2.2.1 ∧ GZ.2.2.2.1 = GX.2.2.2.1) (hIX : q_inj GX) (hIZ : q_inj GZ) (hx : q_lh GX) (hm : q_mo GZ) (hL : Ln ≤ 2560) {i : Int} (i0 : 0 ≤ i) (i5 : i + 5 ≤ Ln) (r : q_rel MX MZ) (kk : ∀ MX' MZ' : q_M, q_rel MX' MZ' → q_LY GX GZ E MX' MZ' [(3, .int (q_I i)), (0, .ref b0), (1, .ref (q_ad GX 0)), (2, .ref (q_ad GZ 0))] 1058 []) : q_LY GX GZ E MX MZ [(3, .int (q_I i)), (0, .ref b0), (1, .ref (q_ad GX 0)), (2, .ref (q_ad GZ 0))] 757 [] := by
  refine l_aload_n F dL_law_757 2 rfl ?_
  refine l_aload_n F dL_law_758 1 rfl ?_
  refine l_iload_n F dL_law_759 0 rfl ?_
  refine l_iconst F dL_law_760 ?_
  refine l_iadd F dL_law_761 ?_
  refine l_sld F (by omega) hL dL_law_762 ?_
  refine l_aload_n F dL_law_763 1 rfl ?_
  refine l_iload_n F dL_law_764 0 rfl ?_
  refine l_iconst F dL_law_765 ?_
  refine l_iadd F dL_law_766 ?_
  refine l_sld F (by omega) hL dL_law_767 ?_
  refine l_callXI (n := 2) (T := TX8) F (c_X8_worlds GX hIX MX hx r.1 (q_sc xs (i + 1)) (q_sc xs (i + 2)) (q_sc_R _ _) (q_sc_R _ _)) rfl rfl hx.1 gL_law_X8_worlds rfl ⟨by decide, by decide, by decide +kernel⟩ rfl ⟨rfl, rfl, Nat.le_of_ble_eq_true rfl, Nat.le_of_ble_eq_true rfl⟩ rfl (Nat.le_of_ble_eq_true rfl) dL_law_768 (fun zX NX hzX pX => ?_)
  refine l_aload_n F dL_law_771 3 rfl ?_
  refine l_aload_n F dL_law_772 1 rfl ?_
  refine l_iload_n F dL_law_773 0 rfl ?_
  refine l_iconst F dL_law_774 ?_
  refine l_iadd F dL_law_775 ?_
  refine l_sld F (by omega) hL dL_law_776 ?_
  refine l_aload_n F dL_law_777 1 rfl ?_
  refine l_iload_n F dL_law_778 0 rfl ?_
  refine l_iconst F dL_law_779 ?_
  refine l_iadd F dL_law_780 ?_
  refine l_sld F (by omega) hL dL_law_781 ?_
  refine l_callZI (n := 2) (T := TX9) F hg (c_X9_worlds GZ hIZ MZ hm (q_sc xs (i + 1)) (q_sc xs (i + 2)) (q_sc_R _ _) (q_sc_R _ _) r.2.1) rfl rfl hm.1 gL_law_X9_worlds rfl ⟨by decide, by decide, by decide +kernel⟩ rfl ⟨rfl, rfl, Nat.le_of_ble_eq_true rfl, Nat.le_of_ble_eq_true rfl⟩ rfl (Nat.le_of_ble_eq_true rfl) dL_law_782 (fun zZ NZ hzZ pZ => ?_)
  obtain ⟨he, hr⟩ := q_st_worlds r pX pZ
  refine l_icmp_eq F 1058 dL_law_785 (by decide) ⟨hzX, hzZ⟩ (fun _ => ?_) (fun h => absurd he h)
  exact kk _ _ hr
set_option maxHeartbeats 4000000 in
set_option maxRecDepth 100000 in
theorem law_c20 {GX GZ : q_G} {E : q_E} {b0 Ln : Nat} {xs : Nat → Int32} {MX MZ : q_M} (F : q_LF GX GZ E b0 Ln xs) (hg : GZ.1 = GX.1 ∧ GZ.2.1 = GX.2.1 ∧ GZ.2.2.1 = GX.2.2.1 ∧ GZ.2.2.2.1 = GX.2.2.2.1) (hIX : q_inj GX) (hIZ : q_inj GZ) (hx : q_lh GX) (hm : q_mo GZ) (hL : Ln ≤ 2560) {i : Int} (i0 : 0 ≤ i) (i5 : i + 5 ≤ Ln) (r : q_rel MX MZ) (kk : ∀ MX' MZ' : q_M, q_rel MX' MZ' → q_LY GX GZ E MX' MZ' [(3, .int (q_I i)), (0, .ref b0), (1, .ref (q_ad GX 0)), (2, .ref (q_ad GZ 0))] 1058 []) : q_LY GX GZ E MX MZ [(3, .int (q_I i)), (0, .ref b0), (1, .ref (q_ad GX 0)), (2, .ref (q_ad GZ 0))] 790 [] := by
  refine l_aload_n F dL_law_790 2 rfl ?_
  refine l_aload_n F dL_law_791 1 rfl ?_
  refine l_iload_n F dL_law_792 0 rfl ?_
  refine l_iconst F dL_law_793 ?_
  refine l_iadd F dL_law_794 ?_
  refine l_sld F (by omega) hL dL_law_795 ?_
  refine l_callXI (n := 1) (T := TX8) F (c_X8_tells GX hIX MX hx r.1 (q_sc xs (i + 1)) (q_sc_R _ _)) rfl rfl hx.1 gL_law_X8_tells rfl ⟨by decide, by decide, by decide +kernel⟩ rfl ⟨rfl, rfl, Nat.le_of_ble_eq_true rfl, Nat.le_of_ble_eq_true rfl⟩ rfl (Nat.le_of_ble_eq_true rfl) dL_law_796 (fun zX NX hzX pX => ?_)
  refine l_aload_n F dL_law_799 3 rfl ?_
  refine l_aload_n F dL_law_800 1 rfl ?_
  refine l_iload_n F dL_law_801 0 rfl ?_
  refine l_iconst F dL_law_802 ?_
  refine l_iadd F dL_law_803 ?_
  refine l_sld F (by omega) hL dL_law_804 ?_
  refine l_callZI (n := 1) (T := TX9) F hg (c_X9_tells GZ hIZ MZ hm (q_sc xs (i + 1)) (q_sc_R _ _) r.2.1) rfl rfl hm.1 gL_law_X9_tells rfl ⟨by decide, by decide, by decide +kernel⟩ rfl ⟨rfl, rfl, Nat.le_of_ble_eq_true rfl, Nat.le_of_ble_eq_true rfl⟩ rfl (Nat.le_of_ble_eq_true rfl) dL_law_805 (fun zZ NZ hzZ pZ => ?_)
  obtain ⟨he, hr⟩ := q_st_tells r pX pZ
  refine l_icmp_eq F 1058 dL_law_808 (by decide) ⟨hzX, hzZ⟩ (fun _ => ?_) (fun h => absurd he h)
  exact kk _ _ hr
set_option maxHeartbeats 4000000 in
set_option maxRecDepth 100000 in
theorem law_c21 {GX GZ : q_G} {E : q_E} {b0 Ln : Nat} {xs : Nat → Int32} {MX MZ : q_M} (F : q_LF GX GZ E b0 Ln xs) (hg : GZ.1 = GX.1 ∧ GZ.2.1 = GX.2.1 ∧ GZ.2.2.1 = GX.2.2.1 ∧ GZ.2.2.2.1 = GX.2.2.2.1) (hIX : q_inj GX) (hIZ : q_inj GZ) (hx : q_lh GX) (hm : q_mo GZ) (hL : Ln ≤ 2560) {i : Int} (i0 : 0 ≤ i) (i5 : i + 5 ≤ Ln) (r : q_rel MX MZ) (kk : ∀ MX' MZ' : q_M, q_rel MX' MZ' → q_LY GX GZ E MX' MZ' [(3, .int (q_I i)), (0, .ref b0), (1, .ref (q_ad GX 0)), (2, .ref (q_ad GZ 0))] 1058 []) : q_LY GX GZ E MX MZ [(3, .int (q_I i)), (0, .ref b0), (1, .ref (q_ad GX 0)), (2, .ref (q_ad GZ 0))] 813 [] := by
  refine l_aload_n F dL_law_813 2 rfl ?_
  refine l_aload_n F dL_law_814 1 rfl ?_
  refine l_iload_n F dL_law_815 0 rfl ?_
  refine l_iconst F dL_law_816 ?_
  refine l_iadd F dL_law_817 ?_
  refine l_sld F (by omega) hL dL_law_818 ?_
  refine l_aload_n F dL_law_819 1 rfl ?_
  refine l_iload_n F dL_law_820 0 rfl ?_
  refine l_iconst F dL_law_821 ?_
  refine l_iadd F dL_law_822 ?_
  refine l_sld F (by omega) hL dL_law_823 ?_
  refine l_callXI (n := 2) (T := TX8) F (c_X8_portions GX hIX MX hx r.1 (q_sc xs (i + 1)) (q_sc xs (i + 2)) (q_sc_R _ _) (q_sc_R _ _)) rfl rfl hx.1 gL_law_X8_portions rfl ⟨by decide, by decide, by decide +kernel⟩ rfl ⟨rfl, rfl, Nat.le_of_ble_eq_true rfl, Nat.le_of_ble_eq_true rfl⟩ rfl (Nat.le_of_ble_eq_true rfl) dL_law_824 (fun zX NX hzX pX => ?_)
  refine l_aload_n F dL_law_827 3 rfl ?_
  refine l_aload_n F dL_law_828 1 rfl ?_
  refine l_iload_n F dL_law_829 0 rfl ?_
  refine l_iconst F dL_law_830 ?_
  refine l_iadd F dL_law_831 ?_
  refine l_sld F (by omega) hL dL_law_832 ?_
  refine l_aload_n F dL_law_833 1 rfl ?_
  refine l_iload_n F dL_law_834 0 rfl ?_
  refine l_iconst F dL_law_835 ?_
  refine l_iadd F dL_law_836 ?_
  refine l_sld F (by omega) hL dL_law_837 ?_
  refine l_callZI (n := 2) (T := TX9) F hg (c_X9_portions GZ hIZ MZ hm (q_sc xs (i + 1)) (q_sc xs (i + 2)) (q_sc_R _ _) (q_sc_R _ _) r.2.1) rfl rfl hm.1 gL_law_X9_portions rfl ⟨by decide, by decide, by decide +kernel⟩ rfl ⟨rfl, rfl, Nat.le_of_ble_eq_true rfl, Nat.le_of_ble_eq_true rfl⟩ rfl (Nat.le_of_ble_eq_true rfl) dL_law_838 (fun zZ NZ hzZ pZ => ?_)
  obtain ⟨he, hr⟩ := q_st_portions r pX pZ
  refine l_icmp_eq F 1058 dL_law_841 (by decide) ⟨hzX, hzZ⟩ (fun _ => ?_) (fun h => absurd he h)
  exact kk _ _ hr
set_option maxHeartbeats 4000000 in
set_option maxRecDepth 100000 in
theorem law_c22 {GX GZ : q_G} {E : q_E} {b0 Ln : Nat} {xs : Nat → Int32} {MX MZ : q_M} (F : q_LF GX GZ E b0 Ln xs) (hg : GZ.1 = GX.1 ∧ GZ.2.1 = GX.2.1 ∧ GZ.2.2.1 = GX.2.2.1 ∧ GZ.2.2.2.1 = GX.2.2.2.1) (hIX : q_inj GX) (hIZ : q_inj GZ) (hx : q_lh GX) (hm : q_mo GZ) (hL : Ln ≤ 2560) {i : Int} (i0 : 0 ≤ i) (i5 : i + 5 ≤ Ln) (r : q_rel MX MZ) (kk : ∀ MX' MZ' : q_M, q_rel MX' MZ' → q_LY GX GZ E MX' MZ' [(3, .int (q_I i)), (0, .ref b0), (1, .ref (q_ad GX 0)), (2, .ref (q_ad GZ 0))] 1058 []) : q_LY GX GZ E MX MZ [(3, .int (q_I i)), (0, .ref b0), (1, .ref (q_ad GX 0)), (2, .ref (q_ad GZ 0))] 846 [] := by
  refine l_aload_n F dL_law_846 2 rfl ?_
  refine l_aload_n F dL_law_847 1 rfl ?_
  refine l_iload_n F dL_law_848 0 rfl ?_
  refine l_iconst F dL_law_849 ?_
  refine l_iadd F dL_law_850 ?_
  refine l_sld F (by omega) hL dL_law_851 ?_
  refine l_aload_n F dL_law_852 1 rfl ?_
  refine l_iload_n F dL_law_853 0 rfl ?_
  refine l_iconst F dL_law_854 ?_
  refine l_iadd F dL_law_855 ?_
  refine l_sld F (by omega) hL dL_law_856 ?_
  refine l_callXI (n := 2) (T := TX8) F (c_X8_seats GX hIX MX hx r.1 (q_sc xs (i + 1)) (q_sc xs (i + 2)) (q_sc_R _ _) (q_sc_R _ _)) rfl rfl hx.1 gL_law_X8_seats rfl ⟨by decide, by decide, by decide +kernel⟩ rfl ⟨rfl, rfl, Nat.le_of_ble_eq_true rfl, Nat.le_of_ble_eq_true rfl⟩ rfl (Nat.le_of_ble_eq_true rfl) dL_law_857 (fun zX NX hzX pX => ?_)
  refine l_aload_n F dL_law_860 3 rfl ?_
  refine l_aload_n F dL_law_861 1 rfl ?_
  refine l_iload_n F dL_law_862 0 rfl ?_
  refine l_iconst F dL_law_863 ?_
  refine l_iadd F dL_law_864 ?_
  refine l_sld F (by omega) hL dL_law_865 ?_
  refine l_aload_n F dL_law_866 1 rfl ?_
  refine l_iload_n F dL_law_867 0 rfl ?_
  refine l_iconst F dL_law_868 ?_
  refine l_iadd F dL_law_869 ?_
  refine l_sld F (by omega) hL dL_law_870 ?_
  refine l_callZI (n := 2) (T := TX9) F hg (c_X9_seats GZ hIZ MZ hm (q_sc xs (i + 1)) (q_sc xs (i + 2)) (q_sc_R _ _) (q_sc_R _ _) r.2.1 r.2.2.1) rfl rfl hm.1 gL_law_X9_seats rfl ⟨by decide, by decide, by decide +kernel⟩ rfl ⟨rfl, rfl, Nat.le_of_ble_eq_true rfl, Nat.le_of_ble_eq_true rfl⟩ rfl (Nat.le_of_ble_eq_true rfl) dL_law_871 (fun zZ NZ hzZ pZ => ?_)
  obtain ⟨he, hr⟩ := q_st_seats r pX pZ
  refine l_icmp_eq F 1058 dL_law_874 (by decide) ⟨hzX, hzZ⟩ (fun _ => ?_) (fun h => absurd he h)
  exact kk _ _ hr
set_option maxHeartbeats 4000000 in
set_option maxRecDepth 100000 in
theorem law_c23 {GX GZ : q_G} {E : q_E} {b0 Ln : Nat} {xs : Nat → Int32} {MX MZ : q_M} (F : q_LF GX GZ E b0 Ln xs) (hg : GZ.1 = GX.1 ∧ GZ.2.1 = GX.2.1 ∧ GZ.2.2.1 = GX.2.2.1 ∧ GZ.2.2.2.1 = GX.2.2.2.1) (hIX : q_inj GX) (hIZ : q_inj GZ) (hx : q_lh GX) (hm : q_mo GZ) (hL : Ln ≤ 2560) {i : Int} (i0 : 0 ≤ i) (i5 : i + 5 ≤ Ln) (r : q_rel MX MZ) (kk : ∀ MX' MZ' : q_M, q_rel MX' MZ' → q_LY GX GZ E MX' MZ' [(3, .int (q_I i)), (0, .ref b0), (1, .ref (q_ad GX 0)), (2, .ref (q_ad GZ 0))] 1058 []) : q_LY GX GZ E MX MZ [(3, .int (q_I i)), (0, .ref b0), (1, .ref (q_ad GX 0)), (2, .ref (q_ad GZ 0))] 879 [] := by
  refine l_aload_n F dL_law_879 2 rfl ?_
  refine l_aload_n F dL_law_880 1 rfl ?_
  refine l_iload_n F dL_law_881 0 rfl ?_
  refine l_iconst F dL_law_882 ?_
  refine l_iadd F dL_law_883 ?_
  refine l_sld F (by omega) hL dL_law_884 ?_
  refine l_aload_n F dL_law_885 1 rfl ?_
  refine l_iload_n F dL_law_886 0 rfl ?_
  refine l_iconst F dL_law_887 ?_
  refine l_iadd F dL_law_888 ?_
  refine l_sld F (by omega) hL dL_law_889 ?_
  refine l_aload_n F dL_law_890 1 rfl ?_
  refine l_iload_n F dL_law_891 0 rfl ?_
  refine l_iconst F dL_law_892 ?_
  refine l_iadd F dL_law_893 ?_
  refine l_sld F (by omega) hL dL_law_894 ?_
  refine l_aload_n F dL_law_895 1 rfl ?_
  refine l_iload_n F dL_law_896 0 rfl ?_
  refine l_iconst F dL_law_897 ?_
  refine l_iadd F dL_law_898 ?_
  refine l_sld F (by omega) hL dL_law_899 ?_
  refine l_callXL (n := 4) (T := TX8) F (c_X8_belch GX hIX MX hx r.1 (q_sc xs (i + 1)) (q_sc xs (i + 2)) (q_sc xs (i + 3)) (q_sc xs (i + 4)) (q_sc_R _ _) (q_sc_R _ _) (q_sc_R _ _) (q_sc_R _ _)) rfl rfl hx.1 gL_law_X8_belch rfl ⟨by decide, by decide, by decide +kernel⟩ rfl ⟨rfl, rfl, Nat.le_of_ble_eq_true rfl, Nat.le_of_ble_eq_true rfl⟩ rfl (Nat.le_of_ble_eq_true rfl) dL_law_900 (fun zX NX pX => ?_)
  refine l_aload_n F dL_law_903 3 rfl ?_
  refine l_aload_n F dL_law_904 1 rfl ?_
  refine l_iload_n F dL_law_905 0 rfl ?_
  refine l_iconst F dL_law_906 ?_
  refine l_iadd F dL_law_907 ?_
  refine l_sld F (by omega) hL dL_law_908 ?_
  refine l_aload_n F dL_law_909 1 rfl ?_
  refine l_iload_n F dL_law_910 0 rfl ?_
  refine l_iconst F dL_law_911 ?_
  refine l_iadd F dL_law_912 ?_
  refine l_sld F (by omega) hL dL_law_913 ?_
  refine l_aload_n F dL_law_914 1 rfl ?_
  refine l_iload_n F dL_law_915 0 rfl ?_
  refine l_iconst F dL_law_916 ?_
  refine l_iadd F dL_law_917 ?_
  refine l_sld F (by omega) hL dL_law_918 ?_
  refine l_aload_n F dL_law_919 1 rfl ?_
  refine l_iload_n F dL_law_920 0 rfl ?_
  refine l_iconst F dL_law_921 ?_
  refine l_iadd F dL_law_922 ?_
  refine l_sld F (by omega) hL dL_law_923 ?_
  refine l_callZL (n := 4) (T := TX9) F hg (c_X9_belch GZ hIZ MZ hm (q_sc xs (i + 1)) (q_sc xs (i + 2)) (q_sc xs (i + 3)) (q_sc xs (i + 4)) (q_sc_R _ _) (q_sc_R _ _) (q_sc_R _ _) (q_sc_R _ _) r.2.1) rfl rfl hm.1 gL_law_X9_belch rfl ⟨by decide, by decide, by decide +kernel⟩ rfl ⟨rfl, rfl, Nat.le_of_ble_eq_true rfl, Nat.le_of_ble_eq_true rfl⟩ rfl (Nat.le_of_ble_eq_true rfl) dL_law_924 (fun zZ NZ pZ => ?_)
  obtain ⟨he, hr⟩ := q_st_belch r pX pZ
  subst he
  refine l_lcmpS F dL_law_927 ?_
  refine l_if_eq F 1058 dL_law_928 (by decide) (by omega) (fun _ => ?_) (fun h => absurd rfl h)
  exact kk _ _ hr
set_option maxHeartbeats 4000000 in
set_option maxRecDepth 100000 in
theorem law_c24 {GX GZ : q_G} {E : q_E} {b0 Ln : Nat} {xs : Nat → Int32} {MX MZ : q_M} (F : q_LF GX GZ E b0 Ln xs) (hg : GZ.1 = GX.1 ∧ GZ.2.1 = GX.2.1 ∧ GZ.2.2.1 = GX.2.2.1 ∧ GZ.2.2.2.1 = GX.2.2.2.1) (hIX : q_inj GX) (hIZ : q_inj GZ) (hx : q_lh GX) (hm : q_mo GZ) (hL : Ln ≤ 2560) {i : Int} (i0 : 0 ≤ i) (i5 : i + 5 ≤ Ln) (r : q_rel MX MZ) (kk : ∀ MX' MZ' : q_M, q_rel MX' MZ' → q_LY GX GZ E MX' MZ' [(3, .int (q_I i)), (0, .ref b0), (1, .ref (q_ad GX 0)), (2, .ref (q_ad GZ 0))] 1058 []) : q_LY GX GZ E MX MZ [(3, .int (q_I i)), (0, .ref b0), (1, .ref (q_ad GX 0)), (2, .ref (q_ad GZ 0))] 933 [] := by
  refine l_aload_n F dL_law_933 2 rfl ?_
  refine l_callXI (n := 0) (T := TX8) F (c_X8_host GX hIX MX hx r.1) rfl rfl hx.1 gL_law_X8_host rfl ⟨by decide, by decide, by decide +kernel⟩ rfl ⟨rfl, rfl, Nat.le_of_ble_eq_true rfl, Nat.le_of_ble_eq_true rfl⟩ rfl (Nat.le_of_ble_eq_true rfl) dL_law_934 (fun zX NX hzX pX => ?_)
  refine l_aload_n F dL_law_937 3 rfl ?_
  refine l_callZI (n := 0) (T := TX9) F hg (c_X9_host GZ hIZ MZ hm r.2.1) rfl rfl hm.1 gL_law_X9_host rfl ⟨by decide, by decide, by decide +kernel⟩ rfl ⟨rfl, rfl, Nat.le_of_ble_eq_true rfl, Nat.le_of_ble_eq_true rfl⟩ rfl (Nat.le_of_ble_eq_true rfl) dL_law_938 (fun zZ NZ hzZ pZ => ?_)
  obtain ⟨he, hr⟩ := q_st_host r pX pZ
  refine l_icmp_eq F 1058 dL_law_941 (by decide) ⟨hzX, hzZ⟩ (fun _ => ?_) (fun h => absurd he h)
  exact kk _ _ hr
set_option maxHeartbeats 4000000 in
set_option maxRecDepth 100000 in
theorem law_c25 {GX GZ : q_G} {E : q_E} {b0 Ln : Nat} {xs : Nat → Int32} {MX MZ : q_M} (F : q_LF GX GZ E b0 Ln xs) (hg : GZ.1 = GX.1 ∧ GZ.2.1 = GX.2.1 ∧ GZ.2.2.1 = GX.2.2.1 ∧ GZ.2.2.2.1 = GX.2.2.2.1) (hIX : q_inj GX) (hIZ : q_inj GZ) (hx : q_lh GX) (hm : q_mo GZ) (hL : Ln ≤ 2560) {i : Int} (i0 : 0 ≤ i) (i5 : i + 5 ≤ Ln) (r : q_rel MX MZ) (kk : ∀ MX' MZ' : q_M, q_rel MX' MZ' → q_LY GX GZ E MX' MZ' [(3, .int (q_I i)), (0, .ref b0), (1, .ref (q_ad GX 0)), (2, .ref (q_ad GZ 0))] 1058 []) : q_LY GX GZ E MX MZ [(3, .int (q_I i)), (0, .ref b0), (1, .ref (q_ad GX 0)), (2, .ref (q_ad GZ 0))] 946 [] := by
  refine l_aload_n F dL_law_946 2 rfl ?_
  refine l_aload_n F dL_law_947 1 rfl ?_
  refine l_iload_n F dL_law_948 0 rfl ?_
  refine l_iconst F dL_law_949 ?_
  refine l_iadd F dL_law_950 ?_
  refine l_sld F (by omega) hL dL_law_951 ?_
  refine l_aload_n F dL_law_952 1 rfl ?_
  refine l_iload_n F dL_law_953 0 rfl ?_
  refine l_iconst F dL_law_954 ?_
  refine l_iadd F dL_law_955 ?_
  refine l_sld F (by omega) hL dL_law_956 ?_
  refine l_aload_n F dL_law_957 1 rfl ?_
  refine l_iload_n F dL_law_958 0 rfl ?_
  refine l_iconst F dL_law_959 ?_
  refine l_iadd F dL_law_960 ?_
  refine l_sld F (by omega) hL dL_law_961 ?_
  refine l_callXI (n := 3) (T := TX8) F (c_X8_year GX hIX MX hx r.1 (q_sc xs (i + 1)) (q_sc xs (i + 2)) (q_sc xs (i + 3)) (q_sc_R _ _) (q_sc_R _ _) (q_sc_R _ _)) rfl rfl hx.1 gL_law_X8_year rfl ⟨by decide, by decide, by decide +kernel⟩ rfl ⟨rfl, rfl, Nat.le_of_ble_eq_true rfl, Nat.le_of_ble_eq_true rfl⟩ rfl (Nat.le_of_ble_eq_true rfl) dL_law_962 (fun zX NX hzX pX => ?_)
  refine l_aload_n F dL_law_965 3 rfl ?_
  refine l_aload_n F dL_law_966 1 rfl ?_
  refine l_iload_n F dL_law_967 0 rfl ?_
  refine l_iconst F dL_law_968 ?_
  refine l_iadd F dL_law_969 ?_
  refine l_sld F (by omega) hL dL_law_970 ?_
  refine l_aload_n F dL_law_971 1 rfl ?_
  refine l_iload_n F dL_law_972 0 rfl ?_
  refine l_iconst F dL_law_973 ?_
  refine l_iadd F dL_law_974 ?_
  refine l_sld F (by omega) hL dL_law_975 ?_
  refine l_aload_n F dL_law_976 1 rfl ?_
  refine l_iload_n F dL_law_977 0 rfl ?_
  refine l_iconst F dL_law_978 ?_
  refine l_iadd F dL_law_979 ?_
  refine l_sld F (by omega) hL dL_law_980 ?_
  refine l_callZI (n := 3) (T := TX9) F hg (c_X9_year GZ hIZ MZ hm (q_sc xs (i + 1)) (q_sc xs (i + 2)) (q_sc xs (i + 3)) (q_sc_R _ _) (q_sc_R _ _) (q_sc_R _ _) r.2.1) rfl rfl hm.1 gL_law_X9_year rfl ⟨by decide, by decide, by decide +kernel⟩ rfl ⟨rfl, rfl, Nat.le_of_ble_eq_true rfl, Nat.le_of_ble_eq_true rfl⟩ rfl (Nat.le_of_ble_eq_true rfl) dL_law_981 (fun zZ NZ hzZ pZ => ?_)
  obtain ⟨he, hr⟩ := q_st_year r pX pZ
  refine l_icmp_eq F 1058 dL_law_984 (by decide) ⟨hzX, hzZ⟩ (fun _ => ?_) (fun h => absurd he h)
  exact kk _ _ hr
set_option maxHeartbeats 4000000 in
set_option maxRecDepth 100000 in
theorem law_c26 {GX GZ : q_G} {E : q_E} {b0 Ln : Nat} {xs : Nat → Int32} {MX MZ : q_M} (F : q_LF GX GZ E b0 Ln xs) (hg : GZ.1 = GX.1 ∧ GZ.2.1 = GX.2.1 ∧ GZ.2.2.1 = GX.2.2.1 ∧ GZ.2.2.2.1 = GX.2.2.2.1) (hIX : q_inj GX) (hIZ : q_inj GZ) (hx : q_lh GX) (hm : q_mo GZ) (hL : Ln ≤ 2560) {i : Int} (i0 : 0 ≤ i) (i5 : i + 5 ≤ Ln) (r : q_rel MX MZ) (kk : ∀ MX' MZ' : q_M, q_rel MX' MZ' → q_LY GX GZ E MX' MZ' [(3, .int (q_I i)), (0, .ref b0), (1, .ref (q_ad GX 0)), (2, .ref (q_ad GZ 0))] 1058 []) : q_LY GX GZ E MX MZ [(3, .int (q_I i)), (0, .ref b0), (1, .ref (q_ad GX 0)), (2, .ref (q_ad GZ 0))] 989 [] := by
  refine l_aload_n F dL_law_989 2 rfl ?_
  refine l_aload_n F dL_law_990 1 rfl ?_
  refine l_iload_n F dL_law_991 0 rfl ?_
  refine l_iconst F dL_law_992 ?_
  refine l_iadd F dL_law_993 ?_
  refine l_sld F (by omega) hL dL_law_994 ?_
  refine l_callXI (n := 1) (T := TX8) F (c_X8_image GX hIX MX hx r.1 (q_sc xs (i + 1)) (q_sc_R _ _)) rfl rfl hx.1 gL_law_X8_image rfl ⟨by decide, by decide, by decide +kernel⟩ rfl ⟨rfl, rfl, Nat.le_of_ble_eq_true rfl, Nat.le_of_ble_eq_true rfl⟩ rfl (Nat.le_of_ble_eq_true rfl) dL_law_995 (fun zX NX hzX pX => ?_)
  refine l_aload_n F dL_law_998 3 rfl ?_
  refine l_aload_n F dL_law_999 1 rfl ?_
  refine l_iload_n F dL_law_1000 0 rfl ?_
  refine l_iconst F dL_law_1001 ?_
  refine l_iadd F dL_law_1002 ?_
  refine l_sld F (by omega) hL dL_law_1003 ?_
  refine l_callZI (n := 1) (T := TX9) F hg (c_X9_image GZ hIZ MZ hm (q_sc xs (i + 1)) (q_sc_R _ _)) rfl rfl hm.1 gL_law_X9_image rfl ⟨by decide, by decide, by decide +kernel⟩ rfl ⟨rfl, rfl, Nat.le_of_ble_eq_true rfl, Nat.le_of_ble_eq_true rfl⟩ rfl (Nat.le_of_ble_eq_true rfl) dL_law_1004 (fun zZ NZ hzZ pZ => ?_)
  obtain ⟨he, hr⟩ := q_rel_image r pX pZ
  refine l_icmp_eq F 1058 dL_law_1007 (by decide) ⟨hzX, hzZ⟩ (fun _ => ?_) (fun h => absurd he h)
  exact kk _ _ hr
set_option maxHeartbeats 4000000 in
set_option maxRecDepth 100000 in
theorem law_c27 {GX GZ : q_G} {E : q_E} {b0 Ln : Nat} {xs : Nat → Int32} {MX MZ : q_M} (F : q_LF GX GZ E b0 Ln xs) (hg : GZ.1 = GX.1 ∧ GZ.2.1 = GX.2.1 ∧ GZ.2.2.1 = GX.2.2.1 ∧ GZ.2.2.2.1 = GX.2.2.2.1) (hIX : q_inj GX) (hIZ : q_inj GZ) (hx : q_lh GX) (hm : q_mo GZ) (hL : Ln ≤ 2560) {i : Int} (i0 : 0 ≤ i) (i5 : i + 5 ≤ Ln) (r : q_rel MX MZ) (kk : ∀ MX' MZ' : q_M, q_rel MX' MZ' → q_LY GX GZ E MX' MZ' [(3, .int (q_I i)), (0, .ref b0), (1, .ref (q_ad GX 0)), (2, .ref (q_ad GZ 0))] 1058 []) : q_LY GX GZ E MX MZ [(3, .int (q_I i)), (0, .ref b0), (1, .ref (q_ad GX 0)), (2, .ref (q_ad GZ 0))] 1012 [] := by
  refine l_aload_n F dL_law_1012 2 rfl ?_
  refine l_aload_n F dL_law_1013 1 rfl ?_
  refine l_iload_n F dL_law_1014 0 rfl ?_
  refine l_iconst F dL_law_1015 ?_
  refine l_iadd F dL_law_1016 ?_
  refine l_sld F (by omega) hL dL_law_1017 ?_
  refine l_callXI (n := 1) (T := TX8) F (c_X8_restore GX hIX MX hx r.1 (q_sc xs (i + 1)) (q_sc_R _ _)) rfl rfl hx.1 gL_law_X8_restore rfl ⟨by decide, by decide, by decide +kernel⟩ rfl ⟨rfl, rfl, Nat.le_of_ble_eq_true rfl, Nat.le_of_ble_eq_true rfl⟩ rfl (Nat.le_of_ble_eq_true rfl) dL_law_1018 (fun zX NX hzX pX => ?_)
  refine l_aload_n F dL_law_1021 3 rfl ?_
  refine l_aload_n F dL_law_1022 1 rfl ?_
  refine l_iload_n F dL_law_1023 0 rfl ?_
  refine l_iconst F dL_law_1024 ?_
  refine l_iadd F dL_law_1025 ?_
  refine l_sld F (by omega) hL dL_law_1026 ?_
  refine l_callZI (n := 1) (T := TX9) F hg (c_X9_restore GZ hIZ MZ hm (q_sc xs (i + 1)) (q_sc_R _ _)) rfl rfl hm.1 gL_law_X9_restore rfl ⟨by decide, by decide, by decide +kernel⟩ rfl ⟨rfl, rfl, Nat.le_of_ble_eq_true rfl, Nat.le_of_ble_eq_true rfl⟩ rfl (Nat.le_of_ble_eq_true rfl) dL_law_1027 (fun zZ NZ hzZ pZ => ?_)
  obtain ⟨he, hr⟩ := q_rel_restore r pX pZ
  refine l_icmp_eq F 1058 dL_law_1030 (by decide) ⟨hzX, hzZ⟩ (fun _ => ?_) (fun h => absurd he h)
  exact kk _ _ hr
set_option maxHeartbeats 4000000 in
set_option maxRecDepth 100000 in
theorem law_c28 {GX GZ : q_G} {E : q_E} {b0 Ln : Nat} {xs : Nat → Int32} {MX MZ : q_M} (F : q_LF GX GZ E b0 Ln xs) (hg : GZ.1 = GX.1 ∧ GZ.2.1 = GX.2.1 ∧ GZ.2.2.1 = GX.2.2.1 ∧ GZ.2.2.2.1 = GX.2.2.2.1) (hIX : q_inj GX) (hIZ : q_inj GZ) (hx : q_lh GX) (hm : q_mo GZ) (hL : Ln ≤ 2560) {i : Int} (i0 : 0 ≤ i) (i5 : i + 5 ≤ Ln) (r : q_rel MX MZ) (kk : ∀ MX' MZ' : q_M, q_rel MX' MZ' → q_LY GX GZ E MX' MZ' [(3, .int (q_I i)), (0, .ref b0), (1, .ref (q_ad GX 0)), (2, .ref (q_ad GZ 0))] 1058 []) : q_LY GX GZ E MX MZ [(3, .int (q_I i)), (0, .ref b0), (1, .ref (q_ad GX 0)), (2, .ref (q_ad GZ 0))] 1035 [] := by
  refine l_aload_n F dL_law_1035 2 rfl ?_
  refine l_aload_n F dL_law_1036 1 rfl ?_
  refine l_iload_n F dL_law_1037 0 rfl ?_
  refine l_iconst F dL_law_1038 ?_
  refine l_iadd F dL_law_1039 ?_
  refine l_sld F (by omega) hL dL_law_1040 ?_
  refine l_callXI (n := 1) (T := TX8) F (c_X8_told GX hIX MX hx r.1 (q_sc xs (i + 1)) (q_sc_R _ _)) rfl rfl hx.1 gL_law_X8_told rfl ⟨by decide, by decide, by decide +kernel⟩ rfl ⟨rfl, rfl, Nat.le_of_ble_eq_true rfl, Nat.le_of_ble_eq_true rfl⟩ rfl (Nat.le_of_ble_eq_true rfl) dL_law_1041 (fun zX NX hzX pX => ?_)
  refine l_aload_n F dL_law_1044 3 rfl ?_
  refine l_aload_n F dL_law_1045 1 rfl ?_
  refine l_iload_n F dL_law_1046 0 rfl ?_
  refine l_iconst F dL_law_1047 ?_
  refine l_iadd F dL_law_1048 ?_
  refine l_sld F (by omega) hL dL_law_1049 ?_
  refine l_callZI (n := 1) (T := TX9) F hg (c_X9_told GZ hIZ MZ hm (q_sc xs (i + 1)) (q_sc_R _ _) r.2.1) rfl rfl hm.1 gL_law_X9_told rfl ⟨by decide, by decide, by decide +kernel⟩ rfl ⟨rfl, rfl, Nat.le_of_ble_eq_true rfl, Nat.le_of_ble_eq_true rfl⟩ rfl (Nat.le_of_ble_eq_true rfl) dL_law_1050 (fun zZ NZ hzZ pZ => ?_)
  obtain ⟨he, hr⟩ := q_st_told r pX pZ
  refine l_icmp_eq F 1058 dL_law_1053 (by decide) ⟨hzX, hzZ⟩ (fun _ => ?_) (fun h => absurd he h)
  exact kk _ _ hr
