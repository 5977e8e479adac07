theorem gw_law81 : Cond.constantLong RL 81 (4294967295) ∈ lw_tbl := lwt_4 (List.mem_of_getElem? (i := 201) (by decide +kernel))
theorem lc_write {g : GT} {b Ln i t : Nat} {xs : Nat → Int32} {M : MM} {L : LL} {S : ST} (hi : i + 5 < Ln) (h31 : Ln < 2 ^ 31) (hC : RC M L S) (hR : RR M L S) (ok : StOK t S) (hb : t + 1 < 2 ^ 20) (K : ∀ (M' : MM) (L' : LL) (S' : ST), RC M' L' S' → RR M' L' S' → StOK (t + 1) S' → JL g b Ln xs M' L' 1027 [some (.ref b), some (.ref (dq_A g 0)), some (.ref (dq_A g 102)), some (.int (nI i))] []) : JL g b Ln xs M L 160 [some (.ref b), some (.ref (dq_A g 0)), some (.ref (dq_A g 102)), some (.int (nI i))] [] := by
  refine lo_aload_n dL_law_160 rfl rfl ?_
  refine lo_aload_n dL_law_161 rfl rfl ?_
  refine lo_iload_n dL_law_162 rfl rfl ?_
  refine lo_iconst (v := 1) dL_law_163 (by decide) ?_
  refine lo_iadd dL_law_164 ?_
  refine lo_top (show _ = nI (i + 1) from nI_add i 1) ?_
  refine lo_sld (j := i + 1) (by omega) (by omega) dL_law_165 ?_
  refine lo_call1 ok_X5_write (ct_write hC ok) ce_X5 rfl rfl gL_X5_write (Nat.le_of_ble_eq_true rfl) (Nat.le_of_ble_eq_true rfl) dL_law_166 (fun v1 M1 L1 q1 => ?_)
  obtain ⟨rfl, hC1, hO1, hL1⟩ := q1
  have hR1 := hR.off hO1 hL1
  refine lo_aload_n dL_law_169 rfl rfl ?_
  refine lo_aload_n dL_law_170 rfl rfl ?_
  refine lo_iload_n dL_law_171 rfl rfl ?_
  refine lo_iconst (v := 1) dL_law_172 (by decide) ?_
  refine lo_iadd dL_law_173 ?_
  refine lo_top (show _ = nI (i + 1) from nI_add i 1) ?_
  refine lo_sld (j := i + 1) (by omega) (by omega) dL_law_174 ?_
  refine lo_call1 ok_X6_write (cr_write hR1 ok) ce_X6 rfl rfl gL_X6_write (Nat.le_of_ble_eq_true rfl) (Nat.le_of_ble_eq_true rfl) dL_law_175 (fun v2 M2 L2 q2 => ?_)
  obtain ⟨rfl, hR2, hO2, hL2⟩ := q2
  have hC2 := hC1.off hO2 hL2
  refine lo_icmp_eq 1027 dL_law_178 (by decide) (fun _ => ?_) (fun h => absurd rfl h)
  exact K M2 L2 _ hC2 hR2 (so_write ok hb _)
theorem lc_wipe {g : GT} {b Ln i t : Nat} {xs : Nat → Int32} {M : MM} {L : LL} {S : ST} (hi : i + 5 < Ln) (h31 : Ln < 2 ^ 31) (hC : RC M L S) (hR : RR M L S) (ok : StOK t S) (hb : t + 1 < 2 ^ 20) (K : ∀ (M' : MM) (L' : LL) (S' : ST), RC M' L' S' → RR M' L' S' → StOK (t + 1) S' → JL g b Ln xs M' L' 1027 [some (.ref b), some (.ref (dq_A g 0)), some (.ref (dq_A g 102)), some (.int (nI i))] []) : JL g b Ln xs M L 183 [some (.ref b), some (.ref (dq_A g 0)), some (.ref (dq_A g 102)), some (.int (nI i))] [] := by
  refine lo_aload_n dL_law_183 rfl rfl ?_
  refine lo_call0 ok_X5_wipe (ct_wipe hC ok) ce_X5 rfl rfl gL_X5_wipe (Nat.le_of_ble_eq_true rfl) (Nat.le_of_ble_eq_true rfl) dL_law_184 (fun v1 M1 L1 q1 => ?_)
  obtain ⟨rfl, hC1, hO1, hL1⟩ := q1
  have hR1 := hR.off hO1 hL1
  refine lo_aload_n dL_law_187 rfl rfl ?_
  refine lo_call0 ok_X6_wipe (cr_wipe hR1 ok) ce_X6 rfl rfl gL_X6_wipe (Nat.le_of_ble_eq_true rfl) (Nat.le_of_ble_eq_true rfl) dL_law_188 (fun v2 M2 L2 q2 => ?_)
  obtain ⟨rfl, hR2, hO2, hL2⟩ := q2
  have hC2 := hC1.off hO2 hL2
  refine lo_icmp_eq 1027 dL_law_191 (by decide) (fun _ => ?_) (fun h => absurd rfl h)
  exact K M2 L2 _ hC2 hR2 (so_wipe ok hb)
theorem lc_fault {g : GT} {b Ln i t : Nat} {xs : Nat → Int32} {M : MM} {L : LL} {S : ST} (hi : i + 5 < Ln) (h31 : Ln < 2 ^ 31) (hC : RC M L S) (hR : RR M L S) (ok : StOK t S) (hb : t + 1 < 2 ^ 20) (K : ∀ (M' : MM) (L' : LL) (S' : ST), RC M' L' S' → RR M' L' S' → StOK (t + 1) S' → JL g b Ln xs M' L' 1027 [some (.ref b), some (.ref (dq_A g 0)), some (.ref (dq_A g 102)), some (.int (nI i))] []) : JL g b Ln xs M L 196 [some (.ref b), some (.ref (dq_A g 0)), some (.ref (dq_A g 102)), some (.int (nI i))] [] := by
  refine lo_aload_n dL_law_196 rfl rfl ?_
  refine lo_call0 ok_X5_fault (ct_fault hC ok) ce_X5 rfl rfl gL_X5_fault (Nat.le_of_ble_eq_true rfl) (Nat.le_of_ble_eq_true rfl) dL_law_197 (fun v1 M1 L1 q1 => ?_)
  obtain ⟨rfl, hC1, hO1, hL1⟩ := q1
  have hR1 := hR.off hO1 hL1
  refine lo_aload_n dL_law_200 rfl rfl ?_
  refine lo_call0 ok_X6_fault (cr_fault hR1 ok) ce_X6 rfl rfl gL_X6_fault (Nat.le_of_ble_eq_true rfl) (Nat.le_of_ble_eq_true rfl) dL_law_201 (fun v2 M2 L2 q2 => ?_)
  obtain ⟨rfl, hR2, hO2, hL2⟩ := q2
  have hC2 := hC1.off hO2 hL2
  refine lo_icmp_eq 1027 dL_law_204 (by decide) (fun _ => ?_) (fun h => absurd rfl h)
  exact K M2 L2 _ hC2 hR2 (so_fault ok hb)
theorem lc_lane {g : GT} {b Ln i t : Nat} {xs : Nat → Int32} {M : MM} {L : LL} {S : ST} (hi : i + 5 < Ln) (h31 : Ln < 2 ^ 31) (hC : RC M L S) (hR : RR M L S) (ok : StOK t S) (hb : t + 1 < 2 ^ 20) (K : ∀ (M' : MM) (L' : LL) (S' : ST), RC M' L' S' → RR M' L' S' → StOK (t + 1) S' → JL g b Ln xs M' L' 1027 [some (.ref b), some (.ref (dq_A g 0)), some (.ref (dq_A g 102)), some (.int (nI i))] []) : JL g b Ln xs M L 209 [some (.ref b), some (.ref (dq_A g 0)), some (.ref (dq_A g 102)), some (.int (nI i))] [] := by
  refine lo_aload_n dL_law_209 rfl rfl ?_
  refine lo_call0 ok_X5_lane (ct_lane hC ok) ce_X5 rfl rfl gL_X5_lane (Nat.le_of_ble_eq_true rfl) (Nat.le_of_ble_eq_true rfl) dL_law_210 (fun v1 M1 L1 q1 => ?_)
  obtain ⟨rfl, hC1, hO1, hL1⟩ := q1
  have hR1 := hR.off hO1 hL1
  refine lo_aload_n dL_law_213 rfl rfl ?_
  refine lo_call0 ok_X6_lane (cr_lane hR1 ok) ce_X6 rfl rfl gL_X6_lane (Nat.le_of_ble_eq_true rfl) (Nat.le_of_ble_eq_true rfl) dL_law_214 (fun v2 M2 L2 q2 => ?_)
  obtain ⟨rfl, hR2, hO2, hL2⟩ := q2
  have hC2 := hC1.off hO2 hL2
  refine lo_icmp_eq 1027 dL_law_217 (by decide) (fun _ => ?_) (fun h => absurd rfl h)
  exact K M2 L2 _ hC2 hR2 (so_lane ok hb)
theorem lc_house {g : GT} {b Ln i t : Nat} {xs : Nat → Int32} {M : MM} {L : LL} {S : ST} (hi : i + 5 < Ln) (h31 : Ln < 2 ^ 31) (hC : RC M L S) (hR : RR M L S) (ok : StOK t S) (hb : t + 1 < 2 ^ 20) (K : ∀ (M' : MM) (L' : LL) (S' : ST), RC M' L' S' → RR M' L' S' → StOK (t + 1) S' → JL g b Ln xs M' L' 1027 [some (.ref b), some (.ref (dq_A g 0)), some (.ref (dq_A g 102)), some (.int (nI i))] []) : JL g b Ln xs M L 222 [some (.ref b), some (.ref (dq_A g 0)), some (.ref (dq_A g 102)), some (.int (nI i))] [] := by
  refine lo_aload_n dL_law_222 rfl rfl ?_
  refine lo_aload_n dL_law_223 rfl rfl ?_
  refine lo_iload_n dL_law_224 rfl rfl ?_
  refine lo_iconst (v := 1) dL_law_225 (by decide) ?_
  refine lo_iadd dL_law_226 ?_
  refine lo_top (show _ = nI (i + 1) from nI_add i 1) ?_
  refine lo_sld (j := i + 1) (by omega) (by omega) dL_law_227 ?_
  refine lo_aload_n dL_law_228 rfl rfl ?_
  refine lo_iload_n dL_law_229 rfl rfl ?_
  refine lo_iconst (v := 2) dL_law_230 (by decide) ?_
  refine lo_iadd dL_law_231 ?_
  refine lo_top (show _ = nI (i + 2) from nI_add i 2) ?_
  refine lo_sld (j := i + 2) (by omega) (by omega) dL_law_232 ?_
  refine lo_call2 ok_X5_house (ct_house hC ok) ce_X5 rfl rfl gL_X5_house (Nat.le_of_ble_eq_true rfl) (Nat.le_of_ble_eq_true rfl) dL_law_233 (fun v1 M1 L1 q1 => ?_)
  obtain ⟨rfl, hC1, hO1, hL1⟩ := q1
  have hR1 := hR.off hO1 hL1
  refine lo_aload_n dL_law_236 rfl rfl ?_
  refine lo_aload_n dL_law_237 rfl rfl ?_
  refine lo_iload_n dL_law_238 rfl rfl ?_
  refine lo_iconst (v := 1) dL_law_239 (by decide) ?_
  refine lo_iadd dL_law_240 ?_
  refine lo_top (show _ = nI (i + 1) from nI_add i 1) ?_
  refine lo_sld (j := i + 1) (by omega) (by omega) dL_law_241 ?_
  refine lo_aload_n dL_law_242 rfl rfl ?_
  refine lo_iload_n dL_law_243 rfl rfl ?_
  refine lo_iconst (v := 2) dL_law_244 (by decide) ?_
  refine lo_iadd dL_law_245 ?_
  refine lo_top (show _ = nI (i + 2) from nI_add i 2) ?_
  refine lo_sld (j := i + 2) (by omega) (by omega) dL_law_246 ?_
  refine lo_call2 ok_X6_house (cr_house hR1 ok) ce_X6 rfl rfl gL_X6_house (Nat.le_of_ble_eq_true rfl) (Nat.le_of_ble_eq_true rfl) dL_law_247 (fun v2 M2 L2 q2 => ?_)
  obtain ⟨rfl, hR2, hO2, hL2⟩ := q2
  have hC2 := hC1.off hO2 hL2
  refine lo_icmp_eq 1027 dL_law_250 (by decide) (fun _ => ?_) (fun h => absurd rfl h)
  exact K M2 L2 _ hC2 hR2 (so_house ok hb _ _)
theorem lc_saying {g : GT} {b Ln i t : Nat} {xs : Nat → Int32} {M : MM} {L : LL} {S : ST} (hi : i + 5 < Ln) (h31 : Ln < 2 ^ 31) (hC : RC M L S) (hR : RR M L S) (ok : StOK t S) (hb : t + 1 < 2 ^ 20) (K : ∀ (M' : MM) (L' : LL) (S' : ST), RC M' L' S' → RR M' L' S' → StOK (t + 1) S' → JL g b Ln xs M' L' 1027 [some (.ref b), some (.ref (dq_A g 0)), some (.ref (dq_A g 102)), some (.int (nI i))] []) : JL g b Ln xs M L 255 [some (.ref b), some (.ref (dq_A g 0)), some (.ref (dq_A g 102)), some (.int (nI i))] [] := by
  refine lo_aload_n dL_law_255 rfl rfl ?_
  refine lo_aload_n dL_law_256 rfl rfl ?_
  refine lo_iload_n dL_law_257 rfl rfl ?_
  refine lo_iconst (v := 1) dL_law_258 (by decide) ?_
  refine lo_iadd dL_law_259 ?_
  refine lo_top (show _ = nI (i + 1) from nI_add i 1) ?_
  refine lo_sld (j := i + 1) (by omega) (by omega) dL_law_260 ?_
  refine lo_aload_n dL_law_261 rfl rfl ?_
  refine lo_iload_n dL_law_262 rfl rfl ?_
  refine lo_iconst (v := 2) dL_law_263 (by decide) ?_
  refine lo_iadd dL_law_264 ?_
  refine lo_top (show _ = nI (i + 2) from nI_add i 2) ?_
  refine lo_sld (j := i + 2) (by omega) (by omega) dL_law_265 ?_
  refine lo_call2 ok_X5_saying (ct_saying hC ok) ce_X5 rfl rfl gL_X5_saying (Nat.le_of_ble_eq_true rfl) (Nat.le_of_ble_eq_true rfl) dL_law_266 (fun v1 M1 L1 q1 => ?_)
  obtain ⟨rfl, hC1, hO1, hL1⟩ := q1
  have hR1 := hR.off hO1 hL1
  refine lo_aload_n dL_law_269 rfl rfl ?_
  refine lo_aload_n dL_law_270 rfl rfl ?_
  refine lo_iload_n dL_law_271 rfl rfl ?_
  refine lo_iconst (v := 1) dL_law_272 (by decide) ?_
  refine lo_iadd dL_law_273 ?_
  refine lo_top (show _ = nI (i + 1) from nI_add i 1) ?_
  refine lo_sld (j := i + 1) (by omega) (by omega) dL_law_274 ?_
  refine lo_aload_n dL_law_275 rfl rfl ?_
  refine lo_iload_n dL_law_276 rfl rfl ?_
  refine lo_iconst (v := 2) dL_law_277 (by decide) ?_
  refine lo_iadd dL_law_278 ?_
  refine lo_top (show _ = nI (i + 2) from nI_add i 2) ?_
  refine lo_sld (j := i + 2) (by omega) (by omega) dL_law_279 ?_
  refine lo_call2 ok_X6_saying (cr_saying hR1 ok) ce_X6 rfl rfl gL_X6_saying (Nat.le_of_ble_eq_true rfl) (Nat.le_of_ble_eq_true rfl) dL_law_280 (fun v2 M2 L2 q2 => ?_)
  obtain ⟨rfl, hR2, hO2, hL2⟩ := q2
  have hC2 := hC1.off hO2 hL2
  refine lo_icmp_eq 1027 dL_law_283 (by decide) (fun _ => ?_) (fun h => absurd rfl h)
  exact K M2 L2 _ hC2 hR2 (so_saying ok hb _ _)
theorem lc_hour {g : GT} {b Ln i t : Nat} {xs : Nat → Int32} {M : MM} {L : LL} {S : ST} (hi : i + 5 < Ln) (h31 : Ln < 2 ^ 31) (hC : RC M L S) (hR : RR M L S) (ok : StOK t S) (hb : t + 1 < 2 ^ 20) (K : ∀ (M' : MM) (L' : LL) (S' : ST), RC M' L' S' → RR M' L' S' → StOK (t + 1) S' → JL g b Ln xs M' L' 1027 [some (.ref b), some (.ref (dq_A g 0)), some (.ref (dq_A g 102)), some (.int (nI i))] []) : JL g b Ln xs M L 288 [some (.ref b), some (.ref (dq_A g 0)), some (.ref (dq_A g 102)), some (.int (nI i))] [] := by
  refine lo_aload_n dL_law_288 rfl rfl ?_
  refine lo_call0 ok_X5_hour (ct_hour hC ok) ce_X5 rfl rfl gL_X5_hour (Nat.le_of_ble_eq_true rfl) (Nat.le_of_ble_eq_true rfl) dL_law_289 (fun v1 M1 L1 q1 => ?_)
  obtain ⟨rfl, hC1, hO1, hL1⟩ := q1
  have hR1 := hR.off hO1 hL1
  refine lo_aload_n dL_law_292 rfl rfl ?_
  refine lo_call0 ok_X6_hour (cr_hour hR1 ok) ce_X6 rfl rfl gL_X6_hour (Nat.le_of_ble_eq_true rfl) (Nat.le_of_ble_eq_true rfl) dL_law_293 (fun v2 M2 L2 q2 => ?_)
  obtain ⟨rfl, hR2, hO2, hL2⟩ := q2
  have hC2 := hC1.off hO2 hL2
  refine lo_icmp_eq 1027 dL_law_296 (by decide) (fun _ => ?_) (fun h => absurd rfl h)
  exact K M2 L2 _ hC2 hR2 (so_hour ok hb)
theorem lc_lower {g : GT} {b Ln i t : Nat} {xs : Nat → Int32} {M : MM} {L : LL} {S : ST} (hi : i + 5 < Ln) (h31 : Ln < 2 ^ 31) (hC : RC M L S) (hR : RR M L S) (ok : StOK t S) (hb : t + 1 < 2 ^ 20) (K : ∀ (M' : MM) (L' : LL) (S' : ST), RC M' L' S' → RR M' L' S' → StOK (t + 1) S' → JL g b Ln xs M' L' 1027 [some (.ref b), some (.ref (dq_A g 0)), some (.ref (dq_A g 102)), some (.int (nI i))] []) : JL g b Ln xs M L 301 [some (.ref b), some (.ref (dq_A g 0)), some (.ref (dq_A g 102)), some (.int (nI i))] [] := by
  refine lo_aload_n dL_law_301 rfl rfl ?_
  refine lo_aload_n dL_law_302 rfl rfl ?_
  refine lo_iload_n dL_law_303 rfl rfl ?_
  refine lo_iconst (v := 1) dL_law_304 (by decide) ?_
  refine lo_iadd dL_law_305 ?_
  refine lo_top (show _ = nI (i + 1) from nI_add i 1) ?_
  refine lo_sld (j := i + 1) (by omega) (by omega) dL_law_306 ?_
  refine lo_call1 ok_X5_lower (ct_lower hC ok) ce_X5 rfl rfl gL_X5_lower (Nat.le_of_ble_eq_true rfl) (Nat.le_of_ble_eq_true rfl) dL_law_307 (fun v1 M1 L1 q1 => ?_)
  obtain ⟨rfl, hC1, hO1, hL1⟩ := q1
  have hR1 := hR.off hO1 hL1
  refine lo_aload_n dL_law_310 rfl rfl ?_
  refine lo_aload_n dL_law_311 rfl rfl ?_
  refine lo_iload_n dL_law_312 rfl rfl ?_
  refine lo_iconst (v := 1) dL_law_313 (by decide) ?_
  refine lo_iadd dL_law_314 ?_
  refine lo_top (show _ = nI (i + 1) from nI_add i 1) ?_
  refine lo_sld (j := i + 1) (by omega) (by omega) dL_law_315 ?_
  refine lo_call1 ok_X6_lower (cr_lower hR1 ok) ce_X6 rfl rfl gL_X6_lower (Nat.le_of_ble_eq_true rfl) (Nat.le_of_ble_eq_true rfl) dL_law_316 (fun v2 M2 L2 q2 => ?_)
  obtain ⟨rfl, hR2, hO2, hL2⟩ := q2
  have hC2 := hC1.off hO2 hL2
  refine lo_icmp_eq 1027 dL_law_319 (by decide) (fun _ => ?_) (fun h => absurd rfl h)
  exact K M2 L2 _ hC2 hR2 (so_lower ok hb _)
theorem lc_raise {g : GT} {b Ln i t : Nat} {xs : Nat → Int32} {M : MM} {L : LL} {S : ST} (hi : i + 5 < Ln) (h31 : Ln < 2 ^ 31) (hC : RC M L S) (hR : RR M L S) (ok : StOK t S) (hb : t + 1 < 2 ^ 20) (K : ∀ (M' : MM) (L' : LL) (S' : ST), RC M' L' S' → RR M' L' S' → StOK (t + 1) S' → JL g b Ln xs M' L' 1027 [some (.ref b), some (.ref (dq_A g 0)), some (.ref (dq_A g 102)), some (.int (nI i))] []) : JL g b Ln xs M L 324 [some (.ref b), some (.ref (dq_A g 0)), some (.ref (dq_A g 102)), some (.int (nI i))] [] := by
  refine lo_aload_n dL_law_324 rfl rfl ?_
  refine lo_aload_n dL_law_325 rfl rfl ?_
  refine lo_iload_n dL_law_326 rfl rfl ?_
  refine lo_iconst (v := 1) dL_law_327 (by decide) ?_
  refine lo_iadd dL_law_328 ?_
  refine lo_top (show _ = nI (i + 1) from nI_add i 1) ?_
  refine lo_sld (j := i + 1) (by omega) (by omega) dL_law_329 ?_
  refine lo_call1 ok_X5_raise (ct_raise hC ok) ce_X5 rfl rfl gL_X5_raise (Nat.le_of_ble_eq_true rfl) (Nat.le_of_ble_eq_true rfl) dL_law_330 (fun v1 M1 L1 q1 => ?_)
  obtain ⟨rfl, hC1, hO1, hL1⟩ := q1
  have hR1 := hR.off hO1 hL1
  refine lo_aload_n dL_law_333 rfl rfl ?_
  refine lo_aload_n dL_law_334 rfl rfl ?_
  refine lo_iload_n dL_law_335 rfl rfl ?_
  refine lo_iconst (v := 1) dL_law_336 (by decide) ?_
  refine lo_iadd dL_law_337 ?_
  refine lo_top (show _ = nI (i + 1) from nI_add i 1) ?_
  refine lo_sld (j := i + 1) (by omega) (by omega) dL_law_338 ?_
  refine lo_call1 ok_X6_raise (cr_raise hR1 ok) ce_X6 rfl rfl gL_X6_raise (Nat.le_of_ble_eq_true rfl) (Nat.le_of_ble_eq_true rfl) dL_law_339 (fun v2 M2 L2 q2 => ?_)
  obtain ⟨rfl, hR2, hO2, hL2⟩ := q2
  have hC2 := hC1.off hO2 hL2
  refine lo_icmp_eq 1027 dL_law_342 (by decide) (fun _ => ?_) (fun h => absurd rfl h)
  exact K M2 L2 _ hC2 hR2 (so_raise ok hb _)
theorem lc_change {g : GT} {b Ln i t : Nat} {xs : Nat → Int32} {M : MM} {L : LL} {S : ST} (hi : i + 5 < Ln) (h31 : Ln < 2 ^ 31) (hC : RC M L S) (hR : RR M L S) (ok : StOK t S) (hb : t + 1 < 2 ^ 20) (K : ∀ (M' : MM) (L' : LL) (S' : ST), RC M' L' S' → RR M' L' S' → StOK (t + 1) S' → JL g b Ln xs M' L' 1027 [some (.ref b), some (.ref (dq_A g 0)), some (.ref (dq_A g 102)), some (.int (nI i))] []) : JL g b Ln xs M L 347 [some (.ref b), some (.ref (dq_A g 0)), some (.ref (dq_A g 102)), some (.int (nI i))] [] := by
  refine lo_aload_n dL_law_347 rfl rfl ?_
  refine lo_aload_n dL_law_348 rfl rfl ?_
  refine lo_iload_n dL_law_349 rfl rfl ?_
  refine lo_iconst (v := 1) dL_law_350 (by decide) ?_
  refine lo_iadd dL_law_351 ?_
  refine lo_top (show _ = nI (i + 1) from nI_add i 1) ?_
  refine lo_sld (j := i + 1) (by omega) (by omega) dL_law_352 ?_
  refine lo_aload_n dL_law_353 rfl rfl ?_
  refine lo_iload_n dL_law_354 rfl rfl ?_
  refine lo_iconst (v := 2) dL_law_355 (by decide) ?_
  refine lo_iadd dL_law_356 ?_
  refine lo_top (show _ = nI (i + 2) from nI_add i 2) ?_
  refine lo_sld (j := i + 2) (by omega) (by omega) dL_law_357 ?_
  refine lo_call2 ok_X5_change (ct_change hC ok) ce_X5 rfl rfl gL_X5_change (Nat.le_of_ble_eq_true rfl) (Nat.le_of_ble_eq_true rfl) dL_law_358 (fun v1 M1 L1 q1 => ?_)
  obtain ⟨rfl, hC1, hO1, hL1⟩ := q1
  have hR1 := hR.off hO1 hL1
  refine lo_aload_n dL_law_361 rfl rfl ?_
  refine lo_aload_n dL_law_362 rfl rfl ?_
  refine lo_iload_n dL_law_363 rfl rfl ?_
  refine lo_iconst (v := 1) dL_law_364 (by decide) ?_
  refine lo_iadd dL_law_365 ?_
  refine lo_top (show _ = nI (i + 1) from nI_add i 1) ?_
  refine lo_sld (j := i + 1) (by omega) (by omega) dL_law_366 ?_
  refine lo_aload_n dL_law_367 rfl rfl ?_
  refine lo_iload_n dL_law_368 rfl rfl ?_
  refine lo_iconst (v := 2) dL_law_369 (by decide) ?_
  refine lo_iadd dL_law_370 ?_
  refine lo_top (show _ = nI (i + 2) from nI_add i 2) ?_
  refine lo_sld (j := i + 2) (by omega) (by omega) dL_law_371 ?_
  refine lo_call2 ok_X6_change (cr_change hR1 ok) ce_X6 rfl rfl gL_X6_change (Nat.le_of_ble_eq_true rfl) (Nat.le_of_ble_eq_true rfl) dL_law_372 (fun v2 M2 L2 q2 => ?_)
  obtain ⟨rfl, hR2, hO2, hL2⟩ := q2
  have hC2 := hC1.off hO2 hL2
  refine lo_icmp_eq 1027 dL_law_375 (by decide) (fun _ => ?_) (fun h => absurd rfl h)
  exact K M2 L2 _ hC2 hR2 (so_change ok hb _ _)
theorem lc_plate {g : GT} {b Ln i t : Nat} {xs : Nat → Int32} {M : MM} {L : LL} {S : ST} (hi : i + 5 < Ln) (h31 : Ln < 2 ^ 31) (hC : RC M L S) (hR : RR M L S) (ok : StOK t S) (hb : t + 1 < 2 ^ 20) (K : ∀ (M' : MM) (L' : LL) (S' : ST), RC M' L' S' → RR M' L' S' → StOK (t + 1) S' → JL g b Ln xs M' L' 1027 [some (.ref b), some (.ref (dq_A g 0)), some (.ref (dq_A g 102)), some (.int (nI i))] []) : JL g b Ln xs M L 380 [some (.ref b), some (.ref (dq_A g 0)), some (.ref (dq_A g 102)), some (.int (nI i))] [] := by
  refine lo_aload_n dL_law_380 rfl rfl ?_
  refine lo_aload_n dL_law_381 rfl rfl ?_
  refine lo_iload_n dL_law_382 rfl rfl ?_
  refine lo_iconst (v := 1) dL_law_383 (by decide) ?_
  refine lo_iadd dL_law_384 ?_
  refine lo_top (show _ = nI (i + 1) from nI_add i 1) ?_
  refine lo_sld (j := i + 1) (by omega) (by omega) dL_law_385 ?_
  refine lo_call1 ok_X5_plate (ct_plate hC ok) ce_X5 rfl rfl gL_X5_plate (Nat.le_of_ble_eq_true rfl) (Nat.le_of_ble_eq_true rfl) dL_law_386 (fun v1 M1 L1 q1 => ?_)
  obtain ⟨rfl, hC1, hO1, hL1⟩ := q1
  have hR1 := hR.off hO1 hL1
  refine lo_aload_n dL_law_389 rfl rfl ?_
  refine lo_aload_n dL_law_390 rfl rfl ?_
  refine lo_iload_n dL_law_391 rfl rfl ?_
  refine lo_iconst (v := 1) dL_law_392 (by decide) ?_
  refine lo_iadd dL_law_393 ?_
  refine lo_top (show _ = nI (i + 1) from nI_add i 1) ?_
  refine lo_sld (j := i + 1) (by omega) (by omega) dL_law_394 ?_
  refine lo_call1 ok_X6_plate (cr_plate hR1 ok) ce_X6 rfl rfl gL_X6_plate (Nat.le_of_ble_eq_true rfl) (Nat.le_of_ble_eq_true rfl) dL_law_395 (fun v2 M2 L2 q2 => ?_)
  obtain ⟨rfl, hR2, hO2, hL2⟩ := q2
  have hC2 := hC1.off hO2 hL2
  refine lo_icmp_eq 1027 dL_law_398 (by decide) (fun _ => ?_) (fun h => absurd rfl h)
  exact K M2 L2 _ hC2 hR2 (so_plate ok hb _)
theorem lc_undo {g : GT} {b Ln i t : Nat} {xs : Nat → Int32} {M : MM} {L : LL} {S : ST} (hi : i + 5 < Ln) (h31 : Ln < 2 ^ 31) (hC : RC M L S) (hR : RR M L S) (ok : StOK t S) (hb : t + 1 < 2 ^ 20) (K : ∀ (M' : MM) (L' : LL) (S' : ST), RC M' L' S' → RR M' L' S' → StOK (t + 1) S' → JL g b Ln xs M' L' 1027 [some (.ref b), some (.ref (dq_A g 0)), some (.ref (dq_A g 102)), some (.int (nI i))] []) : JL g b Ln xs M L 403 [some (.ref b), some (.ref (dq_A g 0)), some (.ref (dq_A g 102)), some (.int (nI i))] [] := by
  refine lo_aload_n dL_law_403 rfl rfl ?_
  refine lo_call0 ok_X5_undo (ct_undo hC ok) ce_X5 rfl rfl gL_X5_undo (Nat.le_of_ble_eq_true rfl) (Nat.le_of_ble_eq_true rfl) dL_law_404 (fun v1 M1 L1 q1 => ?_)
  obtain ⟨rfl, hC1, hO1, hL1⟩ := q1
  have hR1 := hR.off hO1 hL1
  refine lo_aload_n dL_law_407 rfl rfl ?_
  refine lo_call0 ok_X6_undo (cr_undo hR1 ok) ce_X6 rfl rfl gL_X6_undo (Nat.le_of_ble_eq_true rfl) (Nat.le_of_ble_eq_true rfl) dL_law_408 (fun v2 M2 L2 q2 => ?_)
  obtain ⟨rfl, hR2, hO2, hL2⟩ := q2
  have hC2 := hC1.off hO2 hL2
  refine lo_icmp_eq 1027 dL_law_411 (by decide) (fun _ => ?_) (fun h => absurd rfl h)
  exact K M2 L2 _ hC2 hR2 (so_undo ok hb)
theorem lc_later {g : GT} {b Ln i t : Nat} {xs : Nat → Int32} {M : MM} {L : LL} {S : ST} (hi : i + 5 < Ln) (h31 : Ln < 2 ^ 31) (hC : RC M L S) (hR : RR M L S) (ok : StOK t S) (hb : t + 1 < 2 ^ 20) (K : ∀ (M' : MM) (L' : LL) (S' : ST), RC M' L' S' → RR M' L' S' → StOK (t + 1) S' → JL g b Ln xs M' L' 1027 [some (.ref b), some (.ref (dq_A g 0)), some (.ref (dq_A g 102)), some (.int (nI i))] []) : JL g b Ln xs M L 416 [some (.ref b), some (.ref (dq_A g 0)), some (.ref (dq_A g 102)), some (.int (nI i))] [] := by
  refine lo_aload_n dL_law_416 rfl rfl ?_
  refine lo_aload_n dL_law_417 rfl rfl ?_
  refine lo_iload_n dL_law_418 rfl rfl ?_
  refine lo_iconst (v := 1) dL_law_419 (by decide) ?_
  refine lo_iadd dL_law_420 ?_
  refine lo_top (show _ = nI (i + 1) from nI_add i 1) ?_
  refine lo_sld (j := i + 1) (by omega) (by omega) dL_law_421 ?_
  refine lo_aload_n dL_law_422 rfl rfl ?_
  refine lo_iload_n dL_law_423 rfl rfl ?_
  refine lo_iconst (v := 2) dL_law_424 (by decide) ?_
  refine lo_iadd dL_law_425 ?_
  refine lo_top (show _ = nI (i + 2) from nI_add i 2) ?_
  refine lo_sld (j := i + 2) (by omega) (by omega) dL_law_426 ?_
  refine lo_call2 ok_X5_later (ct_later hC ok) ce_X5 rfl rfl gL_X5_later (Nat.le_of_ble_eq_true rfl) (Nat.le_of_ble_eq_true rfl) dL_law_427 (fun v1 M1 L1 q1 => ?_)
  obtain ⟨rfl, hC1, hO1, hL1⟩ := q1
  have hR1 := hR.off hO1 hL1
  refine lo_aload_n dL_law_430 rfl rfl ?_
  refine lo_aload_n dL_law_431 rfl rfl ?_
  refine lo_iload_n dL_law_432 rfl rfl ?_
  refine lo_iconst (v := 1) dL_law_433 (by decide) ?_
  refine lo_iadd dL_law_434 ?_
  refine lo_top (show _ = nI (i + 1) from nI_add i 1) ?_
  refine lo_sld (j := i + 1) (by omega) (by omega) dL_law_435 ?_
  refine lo_aload_n dL_law_436 rfl rfl ?_
  refine lo_iload_n dL_law_437 rfl rfl ?_
  refine lo_iconst (v := 2) dL_law_438 (by decide) ?_
  refine lo_iadd dL_law_439 ?_
  refine lo_top (show _ = nI (i + 2) from nI_add i 2) ?_
  refine lo_sld (j := i + 2) (by omega) (by omega) dL_law_440 ?_
  refine lo_call2 ok_X6_later (cr_later hR1 ok) ce_X6 rfl rfl gL_X6_later (Nat.le_of_ble_eq_true rfl) (Nat.le_of_ble_eq_true rfl) dL_law_441 (fun v2 M2 L2 q2 => ?_)
  obtain ⟨rfl, hR2, hO2, hL2⟩ := q2
  have hC2 := hC1.off hO2 hL2
  refine lo_icmp_eq 1027 dL_law_444 (by decide) (fun _ => ?_) (fun h => absurd rfl h)
  exact K M2 L2 _ hC2 hR2 (so_later ok hb _ _)
theorem lc_first {g : GT} {b Ln i t : Nat} {xs : Nat → Int32} {M : MM} {L : LL} {S : ST} (hi : i + 5 < Ln) (h31 : Ln < 2 ^ 31) (hC : RC M L S) (hR : RR M L S) (ok : StOK t S) (hb : t + 1 < 2 ^ 20) (K : ∀ (M' : MM) (L' : LL) (S' : ST), RC M' L' S' → RR M' L' S' → StOK (t + 1) S' → JL g b Ln xs M' L' 1027 [some (.ref b), some (.ref (dq_A g 0)), some (.ref (dq_A g 102)), some (.int (nI i))] []) : JL g b Ln xs M L 449 [some (.ref b), some (.ref (dq_A g 0)), some (.ref (dq_A g 102)), some (.int (nI i))] [] := by
  refine lo_aload_n dL_law_449 rfl rfl ?_
  refine lo_aload_n dL_law_450 rfl rfl ?_
  refine lo_iload_n dL_law_451 rfl rfl ?_
  refine lo_iconst (v := 1) dL_law_452 (by decide) ?_
  refine lo_iadd dL_law_453 ?_
  refine lo_top (show _ = nI (i + 1) from nI_add i 1) ?_
  refine lo_sld (j := i + 1) (by omega) (by omega) dL_law_454 ?_
  refine lo_aload_n dL_law_455 rfl rfl ?_
  refine lo_iload_n dL_law_456 rfl rfl ?_
  refine lo_iconst (v := 2) dL_law_457 (by decide) ?_
  refine lo_iadd dL_law_458 ?_
  refine lo_top (show _ = nI (i + 2) from nI_add i 2) ?_
  refine lo_sld (j := i + 2) (by omega) (by omega) dL_law_459 ?_
  refine lo_call2 ok_X5_first (ct_first hC ok) ce_X5 rfl rfl gL_X5_first (Nat.le_of_ble_eq_true rfl) (Nat.le_of_ble_eq_true rfl) dL_law_460 (fun v1 M1 L1 q1 => ?_)
  obtain ⟨rfl, hC1, hO1, hL1⟩ := q1
  have hR1 := hR.off hO1 hL1
  refine lo_aload_n dL_law_463 rfl rfl ?_
  refine lo_aload_n dL_law_464 rfl rfl ?_
  refine lo_iload_n dL_law_465 rfl rfl ?_
  refine lo_iconst (v := 1) dL_law_466 (by decide) ?_
  refine lo_iadd dL_law_467 ?_
  refine lo_top (show _ = nI (i + 1) from nI_add i 1) ?_
  refine lo_sld (j := i + 1) (by omega) (by omega) dL_law_468 ?_
  refine lo_aload_n dL_law_469 rfl rfl ?_
  refine lo_iload_n dL_law_470 rfl rfl ?_
  refine lo_iconst (v := 2) dL_law_471 (by decide) ?_
  refine lo_iadd dL_law_472 ?_
  refine lo_top (show _ = nI (i + 2) from nI_add i 2) ?_
  refine lo_sld (j := i + 2) (by omega) (by omega) dL_law_473 ?_
  refine lo_call2 ok_X6_first (cr_first hR1 ok) ce_X6 rfl rfl gL_X6_first (Nat.le_of_ble_eq_true rfl) (Nat.le_of_ble_eq_true rfl) dL_law_474 (fun v2 M2 L2 q2 => ?_)
  obtain ⟨rfl, hR2, hO2, hL2⟩ := q2
  have hC2 := hC1.off hO2 hL2
  refine lo_icmp_eq 1027 dL_law_477 (by decide) (fun _ => ?_) (fun h => absurd rfl h)
  exact K M2 L2 _ hC2 hR2 (so_first ok hb _ _)
theorem lc_keeps {g : GT} {b Ln i t : Nat} {xs : Nat → Int32} {M : MM} {L : LL} {S : ST} (hi : i + 5 < Ln) (h31 : Ln < 2 ^ 31) (hC : RC M L S) (hR : RR M L S) (ok : StOK t S) (hb : t + 1 < 2 ^ 20) (K : ∀ (M' : MM) (L' : LL) (S' : ST), RC M' L' S' → RR M' L' S' → StOK (t + 1) S' → JL g b Ln xs M' L' 1027 [some (.ref b), some (.ref (dq_A g 0)), some (.ref (dq_A g 102)), some (.int (nI i))] []) : JL g b Ln xs M L 482 [some (.ref b), some (.ref (dq_A g 0)), some (.ref (dq_A g 102)), some (.int (nI i))] [] := by
  refine lo_aload_n dL_law_482 rfl rfl ?_
  refine lo_aload_n dL_law_483 rfl rfl ?_
  refine lo_iload_n dL_law_484 rfl rfl ?_
  refine lo_iconst (v := 1) dL_law_485 (by decide) ?_
  refine lo_iadd dL_law_486 ?_
  refine lo_top (show _ = nI (i + 1) from nI_add i 1) ?_
  refine lo_sld (j := i + 1) (by omega) (by omega) dL_law_487 ?_
  refine lo_aload_n dL_law_488 rfl rfl ?_
  refine lo_iload_n dL_law_489 rfl rfl ?_
  refine lo_iconst (v := 2) dL_law_490 (by decide) ?_
  refine lo_iadd dL_law_491 ?_
  refine lo_top (show _ = nI (i + 2) from nI_add i 2) ?_
  refine lo_sld (j := i + 2) (by omega) (by omega) dL_law_492 ?_
  refine lo_aload_n dL_law_493 rfl rfl ?_
  refine lo_iload_n dL_law_494 rfl rfl ?_
  refine lo_iconst (v := 3) dL_law_495 (by decide) ?_
  refine lo_iadd dL_law_496 ?_
  refine lo_top (show _ = nI (i + 3) from nI_add i 3) ?_
  refine lo_sld (j := i + 3) (by omega) (by omega) dL_law_497 ?_
  refine lo_aload_n dL_law_498 rfl rfl ?_
  refine lo_iload_n dL_law_499 rfl rfl ?_
  refine lo_iconst (v := 4) dL_law_500 (by decide) ?_
  refine lo_iadd dL_law_501 ?_
  refine lo_top (show _ = nI (i + 4) from nI_add i 4) ?_
  refine lo_sld (j := i + 4) (by omega) (by omega) dL_law_502 ?_
  refine lo_call4 ok_X5_keeps (ct_keeps hC ok) ce_X5 rfl rfl gL_X5_keeps (Nat.le_of_ble_eq_true rfl) (Nat.le_of_ble_eq_true rfl) dL_law_503 (fun v1 M1 L1 q1 => ?_)
  obtain ⟨rfl, hC1, hO1, hL1⟩ := q1
  have hR1 := hR.off hO1 hL1
  refine lo_aload_n dL_law_506 rfl rfl ?_
  refine lo_aload_n dL_law_507 rfl rfl ?_
  refine lo_iload_n dL_law_508 rfl rfl ?_
  refine lo_iconst (v := 1) dL_law_509 (by decide) ?_
  refine lo_iadd dL_law_510 ?_
  refine lo_top (show _ = nI (i + 1) from nI_add i 1) ?_
  refine lo_sld (j := i + 1) (by omega) (by omega) dL_law_511 ?_
  refine lo_aload_n dL_law_512 rfl rfl ?_
  refine lo_iload_n dL_law_513 rfl rfl ?_
  refine lo_iconst (v := 2) dL_law_514 (by decide) ?_
  refine lo_iadd dL_law_515 ?_
  refine lo_top (show _ = nI (i + 2) from nI_add i 2) ?_
  refine lo_sld (j := i + 2) (by omega) (by omega) dL_law_516 ?_
  refine lo_aload_n dL_law_517 rfl rfl ?_
  refine lo_iload_n dL_law_518 rfl rfl ?_
  refine lo_iconst (v := 3) dL_law_519 (by decide) ?_
  refine lo_iadd dL_law_520 ?_
  refine lo_top (show _ = nI (i + 3) from nI_add i 3) ?_
  refine lo_sld (j := i + 3) (by omega) (by omega) dL_law_521 ?_
  refine lo_aload_n dL_law_522 rfl rfl ?_
  refine lo_iload_n dL_law_523 rfl rfl ?_
  refine lo_iconst (v := 4) dL_law_524 (by decide) ?_
  refine lo_iadd dL_law_525 ?_
  refine lo_top (show _ = nI (i + 4) from nI_add i 4) ?_
  refine lo_sld (j := i + 4) (by omega) (by omega) dL_law_526 ?_
  refine lo_call4 ok_X6_keeps (cr_keeps hR1 ok) ce_X6 rfl rfl gL_X6_keeps (Nat.le_of_ble_eq_true rfl) (Nat.le_of_ble_eq_true rfl) dL_law_527 (fun v2 M2 L2 q2 => ?_)
  obtain ⟨rfl, hR2, hO2, hL2⟩ := q2
  have hC2 := hC1.off hO2 hL2
  refine lo_icmp_eq 1027 dL_law_530 (by decide) (fun _ => ?_) (fun h => absurd rfl h)
  exact K M2 L2 _ hC2 hR2 (so_keeps ok hb _ _ _ _)
theorem lc_tells {g : GT} {b Ln i t : Nat} {xs : Nat → Int32} {M : MM} {L : LL} {S : ST} (hi : i + 5 < Ln) (h31 : Ln < 2 ^ 31) (hC : RC M L S) (hR : RR M L S) (ok : StOK t S) (hb : t + 1 < 2 ^ 20) (K : ∀ (M' : MM) (L' : LL) (S' : ST), RC M' L' S' → RR M' L' S' → StOK (t + 1) S' → JL g b Ln xs M' L' 1027 [some (.ref b), some (.ref (dq_A g 0)), some (.ref (dq_A g 102)), some (.int (nI i))] []) : JL g b Ln xs M L 535 [some (.ref b), some (.ref (dq_A g 0)), some (.ref (dq_A g 102)), some (.int (nI i))] [] := by
  refine lo_aload_n dL_law_535 rfl rfl ?_
  refine lo_aload_n dL_law_536 rfl rfl ?_
  refine lo_iload_n dL_law_537 rfl rfl ?_
  refine lo_iconst (v := 1) dL_law_538 (by decide) ?_
  refine lo_iadd dL_law_539 ?_
  refine lo_top (show _ = nI (i + 1) from nI_add i 1) ?_
  refine lo_sld (j := i + 1) (by omega) (by omega) dL_law_540 ?_
  refine lo_aload_n dL_law_541 rfl rfl ?_
  refine lo_iload_n dL_law_542 rfl rfl ?_
  refine lo_iconst (v := 2) dL_law_543 (by decide) ?_
  refine lo_iadd dL_law_544 ?_
  refine lo_top (show _ = nI (i + 2) from nI_add i 2) ?_
  refine lo_sld (j := i + 2) (by omega) (by omega) dL_law_545 ?_
  refine lo_call2 ok_X5_tells (ct_tells hC ok) ce_X5 rfl rfl gL_X5_tells (Nat.le_of_ble_eq_true rfl) (Nat.le_of_ble_eq_true rfl) dL_law_546 (fun v1 M1 L1 q1 => ?_)
  obtain ⟨rfl, hC1, hO1, hL1⟩ := q1
  have hR1 := hR.off hO1 hL1
  refine lo_aload_n dL_law_549 rfl rfl ?_
  refine lo_aload_n dL_law_550 rfl rfl ?_
  refine lo_iload_n dL_law_551 rfl rfl ?_
  refine lo_iconst (v := 1) dL_law_552 (by decide) ?_
  refine lo_iadd dL_law_553 ?_
  refine lo_top (show _ = nI (i + 1) from nI_add i 1) ?_
  refine lo_sld (j := i + 1) (by omega) (by omega) dL_law_554 ?_
  refine lo_aload_n dL_law_555 rfl rfl ?_
  refine lo_iload_n dL_law_556 rfl rfl ?_
  refine lo_iconst (v := 2) dL_law_557 (by decide) ?_
  refine lo_iadd dL_law_558 ?_
  refine lo_top (show _ = nI (i + 2) from nI_add i 2) ?_
  refine lo_sld (j := i + 2) (by omega) (by omega) dL_law_559 ?_
  refine lo_call2 ok_X6_tells (cr_tells hR1 ok) ce_X6 rfl rfl gL_X6_tells (Nat.le_of_ble_eq_true rfl) (Nat.le_of_ble_eq_true rfl) dL_law_560 (fun v2 M2 L2 q2 => ?_)
  obtain ⟨rfl, hR2, hO2, hL2⟩ := q2
  have hC2 := hC1.off hO2 hL2
  refine lo_icmp_eq 1027 dL_law_563 (by decide) (fun _ => ?_) (fun h => absurd rfl h)
  exact K M2 L2 _ hC2 hR2 (so_tells ok hb _ _)
theorem lc_judge {g : GT} {b Ln i t : Nat} {xs : Nat → Int32} {M : MM} {L : LL} {S : ST} (hi : i + 5 < Ln) (h31 : Ln < 2 ^ 31) (hC : RC M L S) (hR : RR M L S) (ok : StOK t S) (hb : t + 1 < 2 ^ 20) (K : ∀ (M' : MM) (L' : LL) (S' : ST), RC M' L' S' → RR M' L' S' → StOK (t + 1) S' → JL g b Ln xs M' L' 1027 [some (.ref b), some (.ref (dq_A g 0)), some (.ref (dq_A g 102)), some (.int (nI i))] []) : JL g b Ln xs M L 568 [some (.ref b), some (.ref (dq_A g 0)), some (.ref (dq_A g 102)), some (.int (nI i))] [] := by
  refine lo_aload_n dL_law_568 rfl rfl ?_
  refine lo_aload_n dL_law_569 rfl rfl ?_
  refine lo_iload_n dL_law_570 rfl rfl ?_
  refine lo_iconst (v := 1) dL_law_571 (by decide) ?_
  refine lo_iadd dL_law_572 ?_
  refine lo_top (show _ = nI (i + 1) from nI_add i 1) ?_
  refine lo_sld (j := i + 1) (by omega) (by omega) dL_law_573 ?_
  refine lo_aload_n dL_law_574 rfl rfl ?_
  refine lo_iload_n dL_law_575 rfl rfl ?_
  refine lo_iconst (v := 2) dL_law_576 (by decide) ?_
  refine lo_iadd dL_law_577 ?_
  refine lo_top (show _ = nI (i + 2) from nI_add i 2) ?_
  refine lo_sld (j := i + 2) (by omega) (by omega) dL_law_578 ?_
  refine lo_i2l dL_law_579 ?_
  refine lo_bipush (v := 32) dL_law_580 (by decide) ?_
  refine lo_lshl dL_law_582 ?_
  refine lo_aload_n dL_law_583 rfl rfl ?_
  refine lo_iload_n dL_law_584 rfl rfl ?_
  refine lo_iconst (v := 3) dL_law_585 (by decide) ?_
  refine lo_iadd dL_law_586 ?_
  refine lo_top (show _ = nI (i + 3) from nI_add i 3) ?_
  refine lo_sld (j := i + 3) (by omega) (by omega) dL_law_587 ?_
  refine lo_i2l dL_law_588 ?_
  refine lo_ldc2 dL_law_589 gw_law81 ?_
  refine lo_land dL_law_592 ?_
  refine lo_lor dL_law_593 ?_
  refine lo_call2 ok_X5_judge (ct_judge hC ok) ce_X5 rfl rfl gL_X5_judge (Nat.le_of_ble_eq_true rfl) (Nat.le_of_ble_eq_true rfl) dL_law_594 (fun v1 M1 L1 q1 => ?_)
  obtain ⟨rfl, hC1, hO1, hL1⟩ := q1
  have hR1 := hR.off hO1 hL1
  refine lo_aload_n dL_law_597 rfl rfl ?_
  refine lo_aload_n dL_law_598 rfl rfl ?_
  refine lo_iload_n dL_law_599 rfl rfl ?_
  refine lo_iconst (v := 1) dL_law_600 (by decide) ?_
  refine lo_iadd dL_law_601 ?_
  refine lo_top (show _ = nI (i + 1) from nI_add i 1) ?_
  refine lo_sld (j := i + 1) (by omega) (by omega) dL_law_602 ?_
  refine lo_aload_n dL_law_603 rfl rfl ?_
  refine lo_iload_n dL_law_604 rfl rfl ?_
  refine lo_iconst (v := 2) dL_law_605 (by decide) ?_
  refine lo_iadd dL_law_606 ?_
  refine lo_top (show _ = nI (i + 2) from nI_add i 2) ?_
  refine lo_sld (j := i + 2) (by omega) (by omega) dL_law_607 ?_
  refine lo_i2l dL_law_608 ?_
  refine lo_bipush (v := 32) dL_law_609 (by decide) ?_
  refine lo_lshl dL_law_611 ?_
  refine lo_aload_n dL_law_612 rfl rfl ?_
  refine lo_iload_n dL_law_613 rfl rfl ?_
  refine lo_iconst (v := 3) dL_law_614 (by decide) ?_
  refine lo_iadd dL_law_615 ?_
  refine lo_top (show _ = nI (i + 3) from nI_add i 3) ?_
  refine lo_sld (j := i + 3) (by omega) (by omega) dL_law_616 ?_
  refine lo_i2l dL_law_617 ?_
  refine lo_ldc2 dL_law_618 gw_law81 ?_
  refine lo_land dL_law_621 ?_
  refine lo_lor dL_law_622 ?_
  refine lo_call2 ok_X6_judge (cr_judge hR1 ok) ce_X6 rfl rfl gL_X6_judge (Nat.le_of_ble_eq_true rfl) (Nat.le_of_ble_eq_true rfl) dL_law_623 (fun v2 M2 L2 q2 => ?_)
  obtain ⟨rfl, hR2, hO2, hL2⟩ := q2
  have hC2 := hC1.off hO2 hL2
  refine lo_icmp_eq 1027 dL_law_626 (by decide) (fun _ => ?_) (fun h => absurd rfl h)
  exact K M2 L2 _ hC2 hR2 (so_judge ok hb _ _)
theorem lc_hear {g : GT} {b Ln i t : Nat} {xs : Nat → Int32} {M : MM} {L : LL} {S : ST} (hi : i + 5 < Ln) (h31 : Ln < 2 ^ 31) (hC : RC M L S) (hR : RR M L S) (ok : StOK t S) (hb : t + 1 < 2 ^ 20) (K : ∀ (M' : MM) (L' : LL) (S' : ST), RC M' L' S' → RR M' L' S' → StOK (t + 1) S' → JL g b Ln xs M' L' 1027 [some (.ref b), some (.ref (dq_A g 0)), some (.ref (dq_A g 102)), some (.int (nI i))] []) : JL g b Ln xs M L 631 [some (.ref b), some (.ref (dq_A g 0)), some (.ref (dq_A g 102)), some (.int (nI i))] [] := by
  refine lo_aload_n dL_law_631 rfl rfl ?_
  refine lo_aload_n dL_law_632 rfl rfl ?_
  refine lo_iload_n dL_law_633 rfl rfl ?_
  refine lo_iconst (v := 1) dL_law_634 (by decide) ?_
  refine lo_iadd dL_law_635 ?_
  refine lo_top (show _ = nI (i + 1) from nI_add i 1) ?_
  refine lo_sld (j := i + 1) (by omega) (by omega) dL_law_636 ?_
  refine lo_aload_n dL_law_637 rfl rfl ?_
  refine lo_iload_n dL_law_638 rfl rfl ?_
  refine lo_iconst (v := 2) dL_law_639 (by decide) ?_
  refine lo_iadd dL_law_640 ?_
  refine lo_top (show _ = nI (i + 2) from nI_add i 2) ?_
  refine lo_sld (j := i + 2) (by omega) (by omega) dL_law_641 ?_
  refine lo_aload_n dL_law_642 rfl rfl ?_
  refine lo_iload_n dL_law_643 rfl rfl ?_
  refine lo_iconst (v := 3) dL_law_644 (by decide) ?_
  refine lo_iadd dL_law_645 ?_
  refine lo_top (show _ = nI (i + 3) from nI_add i 3) ?_
  refine lo_sld (j := i + 3) (by omega) (by omega) dL_law_646 ?_
  refine lo_call3 ok_X5_hear (ct_hear hC ok) ce_X5 rfl rfl gL_X5_hear (Nat.le_of_ble_eq_true rfl) (Nat.le_of_ble_eq_true rfl) dL_law_647 (fun v1 M1 L1 q1 => ?_)
  obtain ⟨rfl, hC1, hO1, hL1⟩ := q1
  have hR1 := hR.off hO1 hL1
  refine lo_aload_n dL_law_650 rfl rfl ?_
  refine lo_aload_n dL_law_651 rfl rfl ?_
  refine lo_iload_n dL_law_652 rfl rfl ?_
  refine lo_iconst (v := 1) dL_law_653 (by decide) ?_
  refine lo_iadd dL_law_654 ?_
  refine lo_top (show _ = nI (i + 1) from nI_add i 1) ?_
  refine lo_sld (j := i + 1) (by omega) (by omega) dL_law_655 ?_
  refine lo_aload_n dL_law_656 rfl rfl ?_
  refine lo_iload_n dL_law_657 rfl rfl ?_
  refine lo_iconst (v := 2) dL_law_658 (by decide) ?_
  refine lo_iadd dL_law_659 ?_
  refine lo_top (show _ = nI (i + 2) from nI_add i 2) ?_
  refine lo_sld (j := i + 2) (by omega) (by omega) dL_law_660 ?_
  refine lo_aload_n dL_law_661 rfl rfl ?_
  refine lo_iload_n dL_law_662 rfl rfl ?_
  refine lo_iconst (v := 3) dL_law_663 (by decide) ?_
  refine lo_iadd dL_law_664 ?_
  refine lo_top (show _ = nI (i + 3) from nI_add i 3) ?_
  refine lo_sld (j := i + 3) (by omega) (by omega) dL_law_665 ?_
  refine lo_call3 ok_X6_hear (cr_hear hR1 ok) ce_X6 rfl rfl gL_X6_hear (Nat.le_of_ble_eq_true rfl) (Nat.le_of_ble_eq_true rfl) dL_law_666 (fun v2 M2 L2 q2 => ?_)
  obtain ⟨rfl, hR2, hO2, hL2⟩ := q2
  have hC2 := hC1.off hO2 hL2
  refine lo_icmp_eq 1027 dL_law_669 (by decide) (fun _ => ?_) (fun h => absurd rfl h)
  exact K M2 L2 _ hC2 hR2 (so_hear ok hb _ _ _)
theorem lc_unhear {g : GT} {b Ln i t : Nat} {xs : Nat → Int32} {M : MM} {L : LL} {S : ST} (hi : i + 5 < Ln) (h31 : Ln < 2 ^ 31) (hC : RC M L S) (hR : RR M L S) (ok : StOK t S) (hb : t + 1 < 2 ^ 20) (K : ∀ (M' : MM) (L' : LL) (S' : ST), RC M' L' S' → RR M' L' S' → StOK (t + 1) S' → JL g b Ln xs M' L' 1027 [some (.ref b), some (.ref (dq_A g 0)), some (.ref (dq_A g 102)), some (.int (nI i))] []) : JL g b Ln xs M L 674 [some (.ref b), some (.ref (dq_A g 0)), some (.ref (dq_A g 102)), some (.int (nI i))] [] := by
  refine lo_aload_n dL_law_674 rfl rfl ?_
  refine lo_call0 ok_X5_unhear (ct_unhear hC ok) ce_X5 rfl rfl gL_X5_unhear (Nat.le_of_ble_eq_true rfl) (Nat.le_of_ble_eq_true rfl) dL_law_675 (fun v1 M1 L1 q1 => ?_)
  obtain ⟨rfl, hC1, hO1, hL1⟩ := q1
  have hR1 := hR.off hO1 hL1
  refine lo_aload_n dL_law_678 rfl rfl ?_
  refine lo_call0 ok_X6_unhear (cr_unhear hR1 ok) ce_X6 rfl rfl gL_X6_unhear (Nat.le_of_ble_eq_true rfl) (Nat.le_of_ble_eq_true rfl) dL_law_679 (fun v2 M2 L2 q2 => ?_)
  obtain ⟨rfl, hR2, hO2, hL2⟩ := q2
  have hC2 := hC1.off hO2 hL2
  refine lo_icmp_eq 1027 dL_law_682 (by decide) (fun _ => ?_) (fun h => absurd rfl h)
  exact K M2 L2 _ hC2 hR2 (so_unhear ok hb)
theorem lc_ears {g : GT} {b Ln i t : Nat} {xs : Nat → Int32} {M : MM} {L : LL} {S : ST} (hi : i + 5 < Ln) (h31 : Ln < 2 ^ 31) (hC : RC M L S) (hR : RR M L S) (ok : StOK t S) (hb : t + 1 < 2 ^ 20) (K : ∀ (M' : MM) (L' : LL) (S' : ST), RC M' L' S' → RR M' L' S' → StOK (t + 1) S' → JL g b Ln xs M' L' 1027 [some (.ref b), some (.ref (dq_A g 0)), some (.ref (dq_A g 102)), some (.int (nI i))] []) : JL g b Ln xs M L 687 [some (.ref b), some (.ref (dq_A g 0)), some (.ref (dq_A g 102)), some (.int (nI i))] [] := by
  refine lo_aload_n dL_law_687 rfl rfl ?_
  refine lo_aload_n dL_law_688 rfl rfl ?_
  refine lo_iload_n dL_law_689 rfl rfl ?_
  refine lo_iconst (v := 1) dL_law_690 (by decide) ?_
  refine lo_iadd dL_law_691 ?_
  refine lo_top (show _ = nI (i + 1) from nI_add i 1) ?_
  refine lo_sld (j := i + 1) (by omega) (by omega) dL_law_692 ?_
  refine lo_call1 ok_X5_ears (ct_ears hC ok) ce_X5 rfl rfl gL_X5_ears (Nat.le_of_ble_eq_true rfl) (Nat.le_of_ble_eq_true rfl) dL_law_693 (fun v1 M1 L1 q1 => ?_)
  obtain ⟨rfl, hC1, hO1, hL1⟩ := q1
  have hR1 := hR.off hO1 hL1
  refine lo_aload_n dL_law_696 rfl rfl ?_
  refine lo_aload_n dL_law_697 rfl rfl ?_
  refine lo_iload_n dL_law_698 rfl rfl ?_
  refine lo_iconst (v := 1) dL_law_699 (by decide) ?_
  refine lo_iadd dL_law_700 ?_
  refine lo_top (show _ = nI (i + 1) from nI_add i 1) ?_
  refine lo_sld (j := i + 1) (by omega) (by omega) dL_law_701 ?_
  refine lo_call1 ok_X6_ears (cr_ears hR1 ok) ce_X6 rfl rfl gL_X6_ears (Nat.le_of_ble_eq_true rfl) (Nat.le_of_ble_eq_true rfl) dL_law_702 (fun v2 M2 L2 q2 => ?_)
  obtain ⟨rfl, hR2, hO2, hL2⟩ := q2
  have hC2 := hC1.off hO2 hL2
  refine lo_icmp_eq 1027 dL_law_705 (by decide) (fun _ => ?_) (fun h => absurd rfl h)
  exact K M2 L2 _ hC2 hR2 (so_ears ok hb _)
theorem lc_share {g : GT} {b Ln i t : Nat} {xs : Nat → Int32} {M : MM} {L : LL} {S : ST} (hi : i + 5 < Ln) (h31 : Ln < 2 ^ 31) (hC : RC M L S) (hR : RR M L S) (ok : StOK t S) (hb : t + 1 < 2 ^ 20) (K : ∀ (M' : MM) (L' : LL) (S' : ST), RC M' L' S' → RR M' L' S' → StOK (t + 1) S' → JL g b Ln xs M' L' 1027 [some (.ref b), some (.ref (dq_A g 0)), some (.ref (dq_A g 102)), some (.int (nI i))] []) : JL g b Ln xs M L 710 [some (.ref b), some (.ref (dq_A g 0)), some (.ref (dq_A g 102)), some (.int (nI i))] [] := by
  refine lo_aload_n dL_law_710 rfl rfl ?_
  refine lo_aload_n dL_law_711 rfl rfl ?_
  refine lo_iload_n dL_law_712 rfl rfl ?_
  refine lo_iconst (v := 1) dL_law_713 (by decide) ?_
  refine lo_iadd dL_law_714 ?_
  refine lo_top (show _ = nI (i + 1) from nI_add i 1) ?_
  refine lo_sld (j := i + 1) (by omega) (by omega) dL_law_715 ?_
  refine lo_aload_n dL_law_716 rfl rfl ?_
  refine lo_iload_n dL_law_717 rfl rfl ?_
  refine lo_iconst (v := 2) dL_law_718 (by decide) ?_
  refine lo_iadd dL_law_719 ?_
  refine lo_top (show _ = nI (i + 2) from nI_add i 2) ?_
  refine lo_sld (j := i + 2) (by omega) (by omega) dL_law_720 ?_
  refine lo_if_eq 728 dL_law_721 (by decide) (fun b721 => ?_) (fun b721 => ?_)
  · refine lo_iconst (v := 0) dL_law_728 (by decide) ?_
    refine lo_call2 ok_X5_share (ct_share hC ok) ce_X5 rfl rfl gL_X5_share (Nat.le_of_ble_eq_true rfl) (Nat.le_of_ble_eq_true rfl) dL_law_729 (fun v1 M1 L1 q1 => ?_)
    obtain ⟨rfl, hC1, hO1, hL1⟩ := q1
    have hR1 := hR.off hO1 hL1
    refine lo_aload_n dL_law_732 rfl rfl ?_
    refine lo_aload_n dL_law_733 rfl rfl ?_
    refine lo_iload_n dL_law_734 rfl rfl ?_
    refine lo_iconst (v := 1) dL_law_735 (by decide) ?_
    refine lo_iadd dL_law_736 ?_
    refine lo_top (show _ = nI (i + 1) from nI_add i 1) ?_
    refine lo_sld (j := i + 1) (by omega) (by omega) dL_law_737 ?_
    refine lo_aload_n dL_law_738 rfl rfl ?_
    refine lo_iload_n dL_law_739 rfl rfl ?_
    refine lo_iconst (v := 2) dL_law_740 (by decide) ?_
    refine lo_iadd dL_law_741 ?_
    refine lo_top (show _ = nI (i + 2) from nI_add i 2) ?_
    refine lo_sld (j := i + 2) (by omega) (by omega) dL_law_742 ?_
    refine lo_if_eq 750 dL_law_743 (by decide) (fun b743 => ?_) (fun b743 => ?_)
    · refine lo_iconst (v := 0) dL_law_750 (by decide) ?_
      refine lo_call2 ok_X6_share (cr_share hR1 ok) ce_X6 rfl rfl gL_X6_share (Nat.le_of_ble_eq_true rfl) (Nat.le_of_ble_eq_true rfl) dL_law_751 (fun v2 M2 L2 q2 => ?_)
      obtain ⟨rfl, hR2, hO2, hL2⟩ := q2
      have hC2 := hC1.off hO2 hL2
      refine lo_icmp_eq 1027 dL_law_754 (by decide) (fun _ => ?_) (fun h => absurd rfl h)
      exact K M2 L2 _ hC2 hR2 (so_share ok hb _ _)
    · exact absurd b721 b743
  · refine lo_iconst (v := 1) dL_law_724 (by decide) ?_
    refine lo_goto 729 dL_law_725 (by decide) ?_
    refine lo_call2 ok_X5_share (ct_share hC ok) ce_X5 rfl rfl gL_X5_share (Nat.le_of_ble_eq_true rfl) (Nat.le_of_ble_eq_true rfl) dL_law_729 (fun v1 M1 L1 q1 => ?_)
    obtain ⟨rfl, hC1, hO1, hL1⟩ := q1
    have hR1 := hR.off hO1 hL1
    refine lo_aload_n dL_law_732 rfl rfl ?_
    refine lo_aload_n dL_law_733 rfl rfl ?_
    refine lo_iload_n dL_law_734 rfl rfl ?_
    refine lo_iconst (v := 1) dL_law_735 (by decide) ?_
    refine lo_iadd dL_law_736 ?_
    refine lo_top (show _ = nI (i + 1) from nI_add i 1) ?_
    refine lo_sld (j := i + 1) (by omega) (by omega) dL_law_737 ?_
    refine lo_aload_n dL_law_738 rfl rfl ?_
    refine lo_iload_n dL_law_739 rfl rfl ?_
    refine lo_iconst (v := 2) dL_law_740 (by decide) ?_
    refine lo_iadd dL_law_741 ?_
    refine lo_top (show _ = nI (i + 2) from nI_add i 2) ?_
    refine lo_sld (j := i + 2) (by omega) (by omega) dL_law_742 ?_
    refine lo_if_eq 750 dL_law_743 (by decide) (fun b743 => ?_) (fun b743 => ?_)
    · exact absurd b743 b721
    · refine lo_iconst (v := 1) dL_law_746 (by decide) ?_
      refine lo_goto 751 dL_law_747 (by decide) ?_
      refine lo_call2 ok_X6_share (cr_share hR1 ok) ce_X6 rfl rfl gL_X6_share (Nat.le_of_ble_eq_true rfl) (Nat.le_of_ble_eq_true rfl) dL_law_751 (fun v2 M2 L2 q2 => ?_)
      obtain ⟨rfl, hR2, hO2, hL2⟩ := q2
      have hC2 := hC1.off hO2 hL2
      refine lo_icmp_eq 1027 dL_law_754 (by decide) (fun _ => ?_) (fun h => absurd rfl h)
      exact K M2 L2 _ hC2 hR2 (so_share ok hb _ _)
theorem lc_rests {g : GT} {b Ln i t : Nat} {xs : Nat → Int32} {M : MM} {L : LL} {S : ST} (hi : i + 5 < Ln) (h31 : Ln < 2 ^ 31) (hC : RC M L S) (hR : RR M L S) (ok : StOK t S) (hb : t + 1 < 2 ^ 20) (K : ∀ (M' : MM) (L' : LL) (S' : ST), RC M' L' S' → RR M' L' S' → StOK (t + 1) S' → JL g b Ln xs M' L' 1027 [some (.ref b), some (.ref (dq_A g 0)), some (.ref (dq_A g 102)), some (.int (nI i))] []) : JL g b Ln xs M L 759 [some (.ref b), some (.ref (dq_A g 0)), some (.ref (dq_A g 102)), some (.int (nI i))] [] := by
  refine lo_aload_n dL_law_759 rfl rfl ?_
  refine lo_aload_n dL_law_760 rfl rfl ?_
  refine lo_iload_n dL_law_761 rfl rfl ?_
  refine lo_iconst (v := 1) dL_law_762 (by decide) ?_
  refine lo_iadd dL_law_763 ?_
  refine lo_top (show _ = nI (i + 1) from nI_add i 1) ?_
  refine lo_sld (j := i + 1) (by omega) (by omega) dL_law_764 ?_
  refine lo_aload_n dL_law_765 rfl rfl ?_
  refine lo_iload_n dL_law_766 rfl rfl ?_
  refine lo_iconst (v := 2) dL_law_767 (by decide) ?_
  refine lo_iadd dL_law_768 ?_
  refine lo_top (show _ = nI (i + 2) from nI_add i 2) ?_
  refine lo_sld (j := i + 2) (by omega) (by omega) dL_law_769 ?_
  refine lo_aload_n dL_law_770 rfl rfl ?_
  refine lo_iload_n dL_law_771 rfl rfl ?_
  refine lo_iconst (v := 3) dL_law_772 (by decide) ?_
  refine lo_iadd dL_law_773 ?_
  refine lo_top (show _ = nI (i + 3) from nI_add i 3) ?_
  refine lo_sld (j := i + 3) (by omega) (by omega) dL_law_774 ?_
  refine lo_call3 ok_X5_rests (ct_rests hC ok) ce_X5 rfl rfl gL_X5_rests (Nat.le_of_ble_eq_true rfl) (Nat.le_of_ble_eq_true rfl) dL_law_775 (fun v1 M1 L1 q1 => ?_)
  obtain ⟨rfl, hC1, hO1, hL1⟩ := q1
  have hR1 := hR.off hO1 hL1
  refine lo_aload_n dL_law_778 rfl rfl ?_
  refine lo_aload_n dL_law_779 rfl rfl ?_
  refine lo_iload_n dL_law_780 rfl rfl ?_
  refine lo_iconst (v := 1) dL_law_781 (by decide) ?_
  refine lo_iadd dL_law_782 ?_
  refine lo_top (show _ = nI (i + 1) from nI_add i 1) ?_
  refine lo_sld (j := i + 1) (by omega) (by omega) dL_law_783 ?_
  refine lo_aload_n dL_law_784 rfl rfl ?_
  refine lo_iload_n dL_law_785 rfl rfl ?_
  refine lo_iconst (v := 2) dL_law_786 (by decide) ?_
  refine lo_iadd dL_law_787 ?_
  refine lo_top (show _ = nI (i + 2) from nI_add i 2) ?_
  refine lo_sld (j := i + 2) (by omega) (by omega) dL_law_788 ?_
  refine lo_aload_n dL_law_789 rfl rfl ?_
  refine lo_iload_n dL_law_790 rfl rfl ?_
  refine lo_iconst (v := 3) dL_law_791 (by decide) ?_
  refine lo_iadd dL_law_792 ?_
  refine lo_top (show _ = nI (i + 3) from nI_add i 3) ?_
  refine lo_sld (j := i + 3) (by omega) (by omega) dL_law_793 ?_
  refine lo_call3 ok_X6_rests (cr_rests hR1 ok) ce_X6 rfl rfl gL_X6_rests (Nat.le_of_ble_eq_true rfl) (Nat.le_of_ble_eq_true rfl) dL_law_794 (fun v2 M2 L2 q2 => ?_)
  obtain ⟨rfl, hR2, hO2, hL2⟩ := q2
  have hC2 := hC1.off hO2 hL2
  refine lo_icmp_eq 1027 dL_law_797 (by decide) (fun _ => ?_) (fun h => absurd rfl h)
  exact K M2 L2 _ hC2 hR2 (so_rests ok hb _ _ _)
theorem lc_dries {g : GT} {b Ln i t : Nat} {xs : Nat → Int32} {M : MM} {L : LL} {S : ST} (hi : i + 5 < Ln) (h31 : Ln < 2 ^ 31) (hC : RC M L S) (hR : RR M L S) (ok : StOK t S) (hb : t + 1 < 2 ^ 20) (K : ∀ (M' : MM) (L' : LL) (S' : ST), RC M' L' S' → RR M' L' S' → StOK (t + 1) S' → JL g b Ln xs M' L' 1027 [some (.ref b), some (.ref (dq_A g 0)), some (.ref (dq_A g 102)), some (.int (nI i))] []) : JL g b Ln xs M L 802 [some (.ref b), some (.ref (dq_A g 0)), some (.ref (dq_A g 102)), some (.int (nI i))] [] := by
  refine lo_aload_n dL_law_802 rfl rfl ?_
  refine lo_aload_n dL_law_803 rfl rfl ?_
  refine lo_iload_n dL_law_804 rfl rfl ?_
  refine lo_iconst (v := 1) dL_law_805 (by decide) ?_
  refine lo_iadd dL_law_806 ?_
  refine lo_top (show _ = nI (i + 1) from nI_add i 1) ?_
  refine lo_sld (j := i + 1) (by omega) (by omega) dL_law_807 ?_
  refine lo_aload_n dL_law_808 rfl rfl ?_
  refine lo_iload_n dL_law_809 rfl rfl ?_
  refine lo_iconst (v := 2) dL_law_810 (by decide) ?_
  refine lo_iadd dL_law_811 ?_
  refine lo_top (show _ = nI (i + 2) from nI_add i 2) ?_
  refine lo_sld (j := i + 2) (by omega) (by omega) dL_law_812 ?_
  refine lo_aload_n dL_law_813 rfl rfl ?_
  refine lo_iload_n dL_law_814 rfl rfl ?_
  refine lo_iconst (v := 3) dL_law_815 (by decide) ?_
  refine lo_iadd dL_law_816 ?_
  refine lo_top (show _ = nI (i + 3) from nI_add i 3) ?_
  refine lo_sld (j := i + 3) (by omega) (by omega) dL_law_817 ?_
  refine lo_aload_n dL_law_818 rfl rfl ?_
  refine lo_iload_n dL_law_819 rfl rfl ?_
  refine lo_iconst (v := 4) dL_law_820 (by decide) ?_
  refine lo_iadd dL_law_821 ?_
  refine lo_top (show _ = nI (i + 4) from nI_add i 4) ?_
  refine lo_sld (j := i + 4) (by omega) (by omega) dL_law_822 ?_
  refine lo_aload_n dL_law_823 rfl rfl ?_
  refine lo_iload_n dL_law_824 rfl rfl ?_
  refine lo_iconst (v := 5) dL_law_825 (by decide) ?_
  refine lo_iadd dL_law_826 ?_
  refine lo_top (show _ = nI (i + 5) from nI_add i 5) ?_
  refine lo_sld (j := i + 5) (by omega) (by omega) dL_law_827 ?_
  refine lo_if_eq 835 dL_law_828 (by decide) (fun b828 => ?_) (fun b828 => ?_)
  · refine lo_iconst (v := 0) dL_law_835 (by decide) ?_
    refine lo_call5 ok_X5_dries (ct_dries hC ok) ce_X5 rfl rfl gL_X5_dries (Nat.le_of_ble_eq_true rfl) (Nat.le_of_ble_eq_true rfl) dL_law_836 (fun v1 M1 L1 q1 => ?_)
    obtain ⟨rfl, hC1, hO1, hL1⟩ := q1
    have hR1 := hR.off hO1 hL1
    refine lo_aload_n dL_law_839 rfl rfl ?_
    refine lo_aload_n dL_law_840 rfl rfl ?_
    refine lo_iload_n dL_law_841 rfl rfl ?_
    refine lo_iconst (v := 1) dL_law_842 (by decide) ?_
    refine lo_iadd dL_law_843 ?_
    refine lo_top (show _ = nI (i + 1) from nI_add i 1) ?_
    refine lo_sld (j := i + 1) (by omega) (by omega) dL_law_844 ?_
    refine lo_aload_n dL_law_845 rfl rfl ?_
    refine lo_iload_n dL_law_846 rfl rfl ?_
    refine lo_iconst (v := 2) dL_law_847 (by decide) ?_
    refine lo_iadd dL_law_848 ?_
    refine lo_top (show _ = nI (i + 2) from nI_add i 2) ?_
    refine lo_sld (j := i + 2) (by omega) (by omega) dL_law_849 ?_
    refine lo_aload_n dL_law_850 rfl rfl ?_
    refine lo_iload_n dL_law_851 rfl rfl ?_
    refine lo_iconst (v := 3) dL_law_852 (by decide) ?_
    refine lo_iadd dL_law_853 ?_
    refine lo_top (show _ = nI (i + 3) from nI_add i 3) ?_
    refine lo_sld (j := i + 3) (by omega) (by omega) dL_law_854 ?_
    refine lo_aload_n dL_law_855 rfl rfl ?_
    refine lo_iload_n dL_law_856 rfl rfl ?_
    refine lo_iconst (v := 4) dL_law_857 (by decide) ?_
    refine lo_iadd dL_law_858 ?_
    refine lo_top (show _ = nI (i + 4) from nI_add i 4) ?_
    refine lo_sld (j := i + 4) (by omega) (by omega) dL_law_859 ?_
    refine lo_aload_n dL_law_860 rfl rfl ?_
    refine lo_iload_n dL_law_861 rfl rfl ?_
    refine lo_iconst (v := 5) dL_law_862 (by decide) ?_
    refine lo_iadd dL_law_863 ?_
    refine lo_top (show _ = nI (i + 5) from nI_add i 5) ?_
    refine lo_sld (j := i + 5) (by omega) (by omega) dL_law_864 ?_
    refine lo_if_eq 872 dL_law_865 (by decide) (fun b865 => ?_) (fun b865 => ?_)
    · refine lo_iconst (v := 0) dL_law_872 (by decide) ?_
      refine lo_call5 ok_X6_dries (cr_dries hR1 ok) ce_X6 rfl rfl gL_X6_dries (Nat.le_of_ble_eq_true rfl) (Nat.le_of_ble_eq_true rfl) dL_law_873 (fun v2 M2 L2 q2 => ?_)
      obtain ⟨rfl, hR2, hO2, hL2⟩ := q2
      have hC2 := hC1.off hO2 hL2
      refine lo_icmp_eq 1027 dL_law_876 (by decide) (fun _ => ?_) (fun h => absurd rfl h)
      exact K M2 L2 _ hC2 hR2 (so_dries ok hb _ _ _ _ _)
    · exact absurd b828 b865
  · refine lo_iconst (v := 1) dL_law_831 (by decide) ?_
    refine lo_goto 836 dL_law_832 (by decide) ?_
    refine lo_call5 ok_X5_dries (ct_dries hC ok) ce_X5 rfl rfl gL_X5_dries (Nat.le_of_ble_eq_true rfl) (Nat.le_of_ble_eq_true rfl) dL_law_836 (fun v1 M1 L1 q1 => ?_)
    obtain ⟨rfl, hC1, hO1, hL1⟩ := q1
    have hR1 := hR.off hO1 hL1
    refine lo_aload_n dL_law_839 rfl rfl ?_
    refine lo_aload_n dL_law_840 rfl rfl ?_
    refine lo_iload_n dL_law_841 rfl rfl ?_
    refine lo_iconst (v := 1) dL_law_842 (by decide) ?_
    refine lo_iadd dL_law_843 ?_
    refine lo_top (show _ = nI (i + 1) from nI_add i 1) ?_
    refine lo_sld (j := i + 1) (by omega) (by omega) dL_law_844 ?_
    refine lo_aload_n dL_law_845 rfl rfl ?_
    refine lo_iload_n dL_law_846 rfl rfl ?_
    refine lo_iconst (v := 2) dL_law_847 (by decide) ?_
    refine lo_iadd dL_law_848 ?_
    refine lo_top (show _ = nI (i + 2) from nI_add i 2) ?_
    refine lo_sld (j := i + 2) (by omega) (by omega) dL_law_849 ?_
    refine lo_aload_n dL_law_850 rfl rfl ?_
    refine lo_iload_n dL_law_851 rfl rfl ?_
    refine lo_iconst (v := 3) dL_law_852 (by decide) ?_
    refine lo_iadd dL_law_853 ?_
    refine lo_top (show _ = nI (i + 3) from nI_add i 3) ?_
    refine lo_sld (j := i + 3) (by omega) (by omega) dL_law_854 ?_
    refine lo_aload_n dL_law_855 rfl rfl ?_
    refine lo_iload_n dL_law_856 rfl rfl ?_
    refine lo_iconst (v := 4) dL_law_857 (by decide) ?_
    refine lo_iadd dL_law_858 ?_
    refine lo_top (show _ = nI (i + 4) from nI_add i 4) ?_
    refine lo_sld (j := i + 4) (by omega) (by omega) dL_law_859 ?_
    refine lo_aload_n dL_law_860 rfl rfl ?_
    refine lo_iload_n dL_law_861 rfl rfl ?_
    refine lo_iconst (v := 5) dL_law_862 (by decide) ?_
    refine lo_iadd dL_law_863 ?_
    refine lo_top (show _ = nI (i + 5) from nI_add i 5) ?_
    refine lo_sld (j := i + 5) (by omega) (by omega) dL_law_864 ?_
    refine lo_if_eq 872 dL_law_865 (by decide) (fun b865 => ?_) (fun b865 => ?_)
    · exact absurd b865 b828
    · refine lo_iconst (v := 1) dL_law_868 (by decide) ?_
      refine lo_goto 873 dL_law_869 (by decide) ?_
      refine lo_call5 ok_X6_dries (cr_dries hR1 ok) ce_X6 rfl rfl gL_X6_dries (Nat.le_of_ble_eq_true rfl) (Nat.le_of_ble_eq_true rfl) dL_law_873 (fun v2 M2 L2 q2 => ?_)
      obtain ⟨rfl, hR2, hO2, hL2⟩ := q2
      have hC2 := hC1.off hO2 hL2
      refine lo_icmp_eq 1027 dL_law_876 (by decide) (fun _ => ?_) (fun h => absurd rfl h)
      exact K M2 L2 _ hC2 hR2 (so_dries ok hb _ _ _ _ _)
theorem lc_seed {g : GT} {b Ln i t : Nat} {xs : Nat → Int32} {M : MM} {L : LL} {S : ST} (hi : i + 5 < Ln) (h31 : Ln < 2 ^ 31) (hC : RC M L S) (hR : RR M L S) (ok : StOK t S) (hb : t + 1 < 2 ^ 20) (K : ∀ (M' : MM) (L' : LL) (S' : ST), RC M' L' S' → RR M' L' S' → StOK (t + 1) S' → JL g b Ln xs M' L' 1027 [some (.ref b), some (.ref (dq_A g 0)), some (.ref (dq_A g 102)), some (.int (nI i))] []) : JL g b Ln xs M L 881 [some (.ref b), some (.ref (dq_A g 0)), some (.ref (dq_A g 102)), some (.int (nI i))] [] := by
  refine lo_aload_n dL_law_881 rfl rfl ?_
  refine lo_aload_n dL_law_882 rfl rfl ?_
  refine lo_iload_n dL_law_883 rfl rfl ?_
  refine lo_iconst (v := 1) dL_law_884 (by decide) ?_
  refine lo_iadd dL_law_885 ?_
  refine lo_top (show _ = nI (i + 1) from nI_add i 1) ?_
  refine lo_sld (j := i + 1) (by omega) (by omega) dL_law_886 ?_
  refine lo_i2l dL_law_887 ?_
  refine lo_bipush (v := 32) dL_law_888 (by decide) ?_
  refine lo_lshl dL_law_890 ?_
  refine lo_aload_n dL_law_891 rfl rfl ?_
  refine lo_iload_n dL_law_892 rfl rfl ?_
  refine lo_iconst (v := 2) dL_law_893 (by decide) ?_
  refine lo_iadd dL_law_894 ?_
  refine lo_top (show _ = nI (i + 2) from nI_add i 2) ?_
  refine lo_sld (j := i + 2) (by omega) (by omega) dL_law_895 ?_
  refine lo_i2l dL_law_896 ?_
  refine lo_ldc2 dL_law_897 gw_law81 ?_
  refine lo_land dL_law_900 ?_
  refine lo_lor dL_law_901 ?_
  refine lo_call1 ok_X5_seed (ct_seed hC ok) ce_X5 rfl rfl gL_X5_seed (Nat.le_of_ble_eq_true rfl) (Nat.le_of_ble_eq_true rfl) dL_law_902 (fun v1 M1 L1 q1 => ?_)
  obtain ⟨rfl, hC1, hO1, hL1⟩ := q1
  have hR1 := hR.off hO1 hL1
  refine lo_aload_n dL_law_905 rfl rfl ?_
  refine lo_aload_n dL_law_906 rfl rfl ?_
  refine lo_iload_n dL_law_907 rfl rfl ?_
  refine lo_iconst (v := 1) dL_law_908 (by decide) ?_
  refine lo_iadd dL_law_909 ?_
  refine lo_top (show _ = nI (i + 1) from nI_add i 1) ?_
  refine lo_sld (j := i + 1) (by omega) (by omega) dL_law_910 ?_
  refine lo_i2l dL_law_911 ?_
  refine lo_bipush (v := 32) dL_law_912 (by decide) ?_
  refine lo_lshl dL_law_914 ?_
  refine lo_aload_n dL_law_915 rfl rfl ?_
  refine lo_iload_n dL_law_916 rfl rfl ?_
  refine lo_iconst (v := 2) dL_law_917 (by decide) ?_
  refine lo_iadd dL_law_918 ?_
  refine lo_top (show _ = nI (i + 2) from nI_add i 2) ?_
  refine lo_sld (j := i + 2) (by omega) (by omega) dL_law_919 ?_
  refine lo_i2l dL_law_920 ?_
  refine lo_ldc2 dL_law_921 gw_law81 ?_
  refine lo_land dL_law_924 ?_
  refine lo_lor dL_law_925 ?_
  refine lo_call1 ok_X6_seed (cr_seed hR1 ok) ce_X6 rfl rfl gL_X6_seed (Nat.le_of_ble_eq_true rfl) (Nat.le_of_ble_eq_true rfl) dL_law_926 (fun v2 M2 L2 q2 => ?_)
  obtain ⟨rfl, hR2, hO2, hL2⟩ := q2
  have hC2 := hC1.off hO2 hL2
  refine lo_lcmp dL_law_929 ?_
  refine lo_if_eq 1027 dL_law_930 (by decide) (fun _ => ?_) (fun h => absurd (by rw [lg_cmp_eq]) h)
  exact K M2 L2 _ hC2 hR2 (so_seed ok hb _)
theorem lc_years {g : GT} {b Ln i t : Nat} {xs : Nat → Int32} {M : MM} {L : LL} {S : ST} (hi : i + 5 < Ln) (h31 : Ln < 2 ^ 31) (hC : RC M L S) (hR : RR M L S) (ok : StOK t S) (hb : t + 1 < 2 ^ 20) (K : ∀ (M' : MM) (L' : LL) (S' : ST), RC M' L' S' → RR M' L' S' → StOK (t + 1) S' → JL g b Ln xs M' L' 1027 [some (.ref b), some (.ref (dq_A g 0)), some (.ref (dq_A g 102)), some (.int (nI i))] []) : JL g b Ln xs M L 935 [some (.ref b), some (.ref (dq_A g 0)), some (.ref (dq_A g 102)), some (.int (nI i))] [] := by
  refine lo_aload_n dL_law_935 rfl rfl ?_
  refine lo_aload_n dL_law_936 rfl rfl ?_
  refine lo_iload_n dL_law_937 rfl rfl ?_
  refine lo_iconst (v := 1) dL_law_938 (by decide) ?_
  refine lo_iadd dL_law_939 ?_
  refine lo_top (show _ = nI (i + 1) from nI_add i 1) ?_
  refine lo_sld (j := i + 1) (by omega) (by omega) dL_law_940 ?_
  refine lo_call1 ok_X5_years (ct_years hC ok) ce_X5 rfl rfl gL_X5_years (Nat.le_of_ble_eq_true rfl) (Nat.le_of_ble_eq_true rfl) dL_law_941 (fun v1 M1 L1 q1 => ?_)
  obtain ⟨rfl, hC1, hO1, hL1⟩ := q1
  have hR1 := hR.off hO1 hL1
  refine lo_aload_n dL_law_944 rfl rfl ?_
  refine lo_aload_n dL_law_945 rfl rfl ?_
  refine lo_iload_n dL_law_946 rfl rfl ?_
  refine lo_iconst (v := 1) dL_law_947 (by decide) ?_
  refine lo_iadd dL_law_948 ?_
  refine lo_top (show _ = nI (i + 1) from nI_add i 1) ?_
  refine lo_sld (j := i + 1) (by omega) (by omega) dL_law_949 ?_
  refine lo_call1 ok_X6_years (cr_years hR1 ok) ce_X6 rfl rfl gL_X6_years (Nat.le_of_ble_eq_true rfl) (Nat.le_of_ble_eq_true rfl) dL_law_950 (fun v2 M2 L2 q2 => ?_)
  obtain ⟨rfl, hR2, hO2, hL2⟩ := q2
  have hC2 := hC1.off hO2 hL2
  refine lo_icmp_eq 1027 dL_law_953 (by decide) (fun _ => ?_) (fun h => absurd rfl h)
  exact K M2 L2 _ hC2 hR2 (so_years ok hb _)
theorem lc_keep {g : GT} {b Ln i t : Nat} {xs : Nat → Int32} {M : MM} {L : LL} {S : ST} (hi : i + 5 < Ln) (h31 : Ln < 2 ^ 31) (hC : RC M L S) (hR : RR M L S) (ok : StOK t S) (hb : t + 1 < 2 ^ 20) (K : ∀ (M' : MM) (L' : LL) (S' : ST), RC M' L' S' → RR M' L' S' → StOK (t + 1) S' → JL g b Ln xs M' L' 1027 [some (.ref b), some (.ref (dq_A g 0)), some (.ref (dq_A g 102)), some (.int (nI i))] []) : JL g b Ln xs M L 958 [some (.ref b), some (.ref (dq_A g 0)), some (.ref (dq_A g 102)), some (.int (nI i))] [] := by
  refine lo_aload_n dL_law_958 rfl rfl ?_
  refine lo_aload_n dL_law_959 rfl rfl ?_
  refine lo_iload_n dL_law_960 rfl rfl ?_
  refine lo_iconst (v := 1) dL_law_961 (by decide) ?_
  refine lo_iadd dL_law_962 ?_
  refine lo_top (show _ = nI (i + 1) from nI_add i 1) ?_
  refine lo_sld (j := i + 1) (by omega) (by omega) dL_law_963 ?_
  refine lo_call1 ok_X5_keep (ct_keep hC ok) ce_X5 rfl rfl gL_X5_keep (Nat.le_of_ble_eq_true rfl) (Nat.le_of_ble_eq_true rfl) dL_law_964 (fun v1 M1 L1 q1 => ?_)
  obtain ⟨rfl, hC1, hO1, hL1⟩ := q1
  have hR1 := hR.off hO1 hL1
  refine lo_aload_n dL_law_967 rfl rfl ?_
  refine lo_aload_n dL_law_968 rfl rfl ?_
  refine lo_iload_n dL_law_969 rfl rfl ?_
  refine lo_iconst (v := 1) dL_law_970 (by decide) ?_
  refine lo_iadd dL_law_971 ?_
  refine lo_top (show _ = nI (i + 1) from nI_add i 1) ?_
  refine lo_sld (j := i + 1) (by omega) (by omega) dL_law_972 ?_
  refine lo_call1 ok_X6_keep (cr_keep hR1 ok) ce_X6 rfl rfl gL_X6_keep (Nat.le_of_ble_eq_true rfl) (Nat.le_of_ble_eq_true rfl) dL_law_973 (fun v2 M2 L2 q2 => ?_)
  obtain ⟨rfl, hR2, hO2, hL2⟩ := q2
  have hC2 := hC1.off hO2 hL2
  refine lo_icmp_eq 1027 dL_law_976 (by decide) (fun _ => ?_) (fun h => absurd rfl h)
  exact K M2 L2 _ hC2 hR2 (so_keep ok hb _)
theorem lc_again {g : GT} {b Ln i t : Nat} {xs : Nat → Int32} {M : MM} {L : LL} {S : ST} (hi : i + 5 < Ln) (h31 : Ln < 2 ^ 31) (hC : RC M L S) (hR : RR M L S) (ok : StOK t S) (hb : t + 1 < 2 ^ 20) (K : ∀ (M' : MM) (L' : LL) (S' : ST), RC M' L' S' → RR M' L' S' → StOK (t + 1) S' → JL g b Ln xs M' L' 1027 [some (.ref b), some (.ref (dq_A g 0)), some (.ref (dq_A g 102)), some (.int (nI i))] []) : JL g b Ln xs M L 981 [some (.ref b), some (.ref (dq_A g 0)), some (.ref (dq_A g 102)), some (.int (nI i))] [] := by
  refine lo_aload_n dL_law_981 rfl rfl ?_
  refine lo_aload_n dL_law_982 rfl rfl ?_
  refine lo_iload_n dL_law_983 rfl rfl ?_
  refine lo_iconst (v := 1) dL_law_984 (by decide) ?_
  refine lo_iadd dL_law_985 ?_
  refine lo_top (show _ = nI (i + 1) from nI_add i 1) ?_
  refine lo_sld (j := i + 1) (by omega) (by omega) dL_law_986 ?_
  refine lo_call1 ok_X5_again (ct_again hC ok) ce_X5 rfl rfl gL_X5_again (Nat.le_of_ble_eq_true rfl) (Nat.le_of_ble_eq_true rfl) dL_law_987 (fun v1 M1 L1 q1 => ?_)
  obtain ⟨rfl, hC1, hO1, hL1⟩ := q1
  have hR1 := hR.off hO1 hL1
  refine lo_aload_n dL_law_990 rfl rfl ?_
  refine lo_aload_n dL_law_991 rfl rfl ?_
  refine lo_iload_n dL_law_992 rfl rfl ?_
  refine lo_iconst (v := 1) dL_law_993 (by decide) ?_
  refine lo_iadd dL_law_994 ?_
  refine lo_top (show _ = nI (i + 1) from nI_add i 1) ?_
  refine lo_sld (j := i + 1) (by omega) (by omega) dL_law_995 ?_
  refine lo_call1 ok_X6_again (cr_again hR1 ok) ce_X6 rfl rfl gL_X6_again (Nat.le_of_ble_eq_true rfl) (Nat.le_of_ble_eq_true rfl) dL_law_996 (fun v2 M2 L2 q2 => ?_)
  obtain ⟨rfl, hR2, hO2, hL2⟩ := q2
  have hC2 := hC1.off hO2 hL2
  refine lo_icmp_eq 1027 dL_law_999 (by decide) (fun _ => ?_) (fun h => absurd rfl h)
  exact K M2 L2 _ hC2 hR2 (so_again ok hb _)
theorem lc_count {g : GT} {b Ln i t : Nat} {xs : Nat → Int32} {M : MM} {L : LL} {S : ST} (hi : i + 5 < Ln) (h31 : Ln < 2 ^ 31) (hC : RC M L S) (hR : RR M L S) (ok : StOK t S) (hb : t + 1 < 2 ^ 20) (K : ∀ (M' : MM) (L' : LL) (S' : ST), RC M' L' S' → RR M' L' S' → StOK (t + 1) S' → JL g b Ln xs M' L' 1027 [some (.ref b), some (.ref (dq_A g 0)), some (.ref (dq_A g 102)), some (.int (nI i))] []) : JL g b Ln xs M L 1004 [some (.ref b), some (.ref (dq_A g 0)), some (.ref (dq_A g 102)), some (.int (nI i))] [] := by
  refine lo_aload_n dL_law_1004 rfl rfl ?_
  refine lo_aload_n dL_law_1005 rfl rfl ?_
  refine lo_iload_n dL_law_1006 rfl rfl ?_
  refine lo_iconst (v := 1) dL_law_1007 (by decide) ?_
  refine lo_iadd dL_law_1008 ?_
  refine lo_top (show _ = nI (i + 1) from nI_add i 1) ?_
  refine lo_sld (j := i + 1) (by omega) (by omega) dL_law_1009 ?_
  refine lo_call1 ok_X5_count (ct_count hC ok) ce_X5 rfl rfl gL_X5_count (Nat.le_of_ble_eq_true rfl) (Nat.le_of_ble_eq_true rfl) dL_law_1010 (fun v1 M1 L1 q1 => ?_)
  obtain ⟨rfl, hC1, hO1, hL1⟩ := q1
  have hR1 := hR.off hO1 hL1
  refine lo_aload_n dL_law_1013 rfl rfl ?_
  refine lo_aload_n dL_law_1014 rfl rfl ?_
  refine lo_iload_n dL_law_1015 rfl rfl ?_
  refine lo_iconst (v := 1) dL_law_1016 (by decide) ?_
  refine lo_iadd dL_law_1017 ?_
  refine lo_top (show _ = nI (i + 1) from nI_add i 1) ?_
  refine lo_sld (j := i + 1) (by omega) (by omega) dL_law_1018 ?_
  refine lo_call1 ok_X6_count (cr_count hR1 ok) ce_X6 rfl rfl gL_X6_count (Nat.le_of_ble_eq_true rfl) (Nat.le_of_ble_eq_true rfl) dL_law_1019 (fun v2 M2 L2 q2 => ?_)
  obtain ⟨rfl, hR2, hO2, hL2⟩ := q2
  have hC2 := hC1.off hO2 hL2
  refine lo_icmp_eq 1027 dL_law_1022 (by decide) (fun _ => ?_) (fun h => absurd rfl h)
  exact K M2 L2 _ hC2 hR2 (so_count ok hb _)
