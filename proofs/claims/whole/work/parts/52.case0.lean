/-! the calls of the law, each of the class and of the reference -/
set_option maxRecDepth 100000 in
theorem law_c0 {p : Program} {l : Launch} {e : Env} {s : State} {m : MethodId} {below : List Frame} {meth : Method} {c : Code} {b L : Nat} {xs : Nat → Int32} (C0 : lw_At p s m meth c b L xs) (hL : L ≤ 3072) {D : va_G} {ad : Nat → Nat → Nat} {cI cT cS : ClassId} (hK : va_K D vwCl (Tys cI cT cS) s) (hNW : NWs s) {i : Nat} (hi : i + 6 ≤ L) {x : Mem} {H : Heap} {locs : List Loc} {ls : Array Slot} (hI : Inv x) (hW : WO D ad cI cT cS (AL s) s.heap x H locs) (hl : lv_has ls 4 (LV b ad i)) (kk : ∀ (x1 : Mem) (H1 : Heap) (locs1 : List Loc), Inv x1 → WO D ad cI cT cS (AL s) s.heap x1 H1 locs1 → LG p l e s m b below meth c H1 locs1 (F0 m 1144 ls [])) : LG p l e s m b below meth c H locs (F0 m 176 ls []) := by
  obtain ⟨hx, hb, hr, hml, hown, hts, hX, hbl, hlocks, hgv⟩ := id C0
  refine lv_aload_n hx hb dL_law_176 rfl (lv_at hl 1 rfl) ?_
  refine law_arg C0 hL (k := 1) (by omega) hW.2.2 hl (by decide +kernel) dL_law_177 dL_law_178 dL_law_179 dL_law_180 dL_law_181 ?_
  refine law_arg C0 hL (k := 2) (by omega) hW.2.2 hl (by decide +kernel) dL_law_182 dL_law_183 dL_law_184 dL_law_185 dL_law_186 ?_
  refine law_arg C0 hL (k := 3) (by omega) hW.2.2 hl (by decide +kernel) dL_law_187 dL_law_188 dL_law_189 dL_law_190 dL_law_191 ?_
  refine law_arg C0 hL (k := 4) (by omega) hW.2.2 hl (by decide +kernel) dL_law_192 dL_law_193 dL_law_194 dL_law_195 dL_law_196 ?_
  refine law_call C0 hK hNW LIM (k := 0) (mm := 28) (i2 := 4) (av := [vi (xs (i + 1)), vi (xs (i + 2)), vi (xs (i + 3)), vi (xs (i + 4))]) (r := []) (op_hall hI) (by decide) (lw_inst (by decide) rfl) (lw_sel (by decide) rfl) rfl (by decide) rfl rfl (ROKi [xs (i + 1), xs (i + 2), xs (i + 3), xs (i + 4)]) (lwt1 (i := 173) rfl) dL_law_197 hl.1 (Nat.le_of_ble_eq_true rfl) hW (fun v x1 H1 locs1 hq hW1 => ?_)
  obtain ⟨r0, rfl, hq2⟩ := hq
  refine lv_aload_n hx hb dL_law_200 rfl (lv_at hl 2 rfl) ?_
  refine law_arg C0 hL (k := 1) (by omega) hW1.2.2 hl (by decide +kernel) dL_law_201 dL_law_202 dL_law_203 dL_law_204 dL_law_205 ?_
  refine law_arg C0 hL (k := 2) (by omega) hW1.2.2 hl (by decide +kernel) dL_law_206 dL_law_207 dL_law_208 dL_law_209 dL_law_210 ?_
  refine law_arg C0 hL (k := 3) (by omega) hW1.2.2 hl (by decide +kernel) dL_law_211 dL_law_212 dL_law_213 dL_law_214 dL_law_215 ?_
  refine law_arg C0 hL (k := 4) (by omega) hW1.2.2 hl (by decide +kernel) dL_law_216 dL_law_217 dL_law_218 dL_law_219 dL_law_220 ?_
  refine law_call C0 hK hNW LIM (k := 13) (mm := 97) (i2 := 4) (av := [vi (xs (i + 1)), vi (xs (i + 2)), vi (xs (i + 3)), vi (xs (i + 4))]) (r := [vi r0]) hq2 (by decide) (lw_inst (by decide) rfl) (lw_sel (by decide) rfl) rfl (by decide) rfl rfl (ROKi [xs (i + 1), xs (i + 2), xs (i + 3), xs (i + 4)]) (lwt3 (i := 142) rfl) dL_law_221 hl.1 (Nat.le_of_ble_eq_true rfl) hW1 (fun v x2 H2 locs2 hq hW2 => ?_)
  obtain ⟨rfl, hI2⟩ := hq
  exact lv_icmp_eq (tgt := 1144) hx hb dL_law_224 (by decide) (fun _ => kk x2 H2 locs2 hI2 hW2) (fun q => absurd rfl q)
set_option maxRecDepth 100000 in
theorem law_c1 {p : Program} {l : Launch} {e : Env} {s : State} {m : MethodId} {below : List Frame} {meth : Method} {c : Code} {b L : Nat} {xs : Nat → Int32} (C0 : lw_At p s m meth c b L xs) (hL : L ≤ 3072) {D : va_G} {ad : Nat → Nat → Nat} {cI cT cS : ClassId} (hK : va_K D vwCl (Tys cI cT cS) s) (hNW : NWs s) {i : Nat} (hi : i + 6 ≤ L) {x : Mem} {H : Heap} {locs : List Loc} {ls : Array Slot} (hI : Inv x) (hW : WO D ad cI cT cS (AL s) s.heap x H locs) (hl : lv_has ls 4 (LV b ad i)) (kk : ∀ (x1 : Mem) (H1 : Heap) (locs1 : List Loc), Inv x1 → WO D ad cI cT cS (AL s) s.heap x1 H1 locs1 → LG p l e s m b below meth c H1 locs1 (F0 m 1144 ls [])) : LG p l e s m b below meth c H locs (F0 m 229 ls []) := by
  obtain ⟨hx, hb, hr, hml, hown, hts, hX, hbl, hlocks, hgv⟩ := id C0
  refine lv_aload_n hx hb dL_law_229 rfl (lv_at hl 1 rfl) ?_
  refine law_arg C0 hL (k := 1) (by omega) hW.2.2 hl (by decide +kernel) dL_law_230 dL_law_231 dL_law_232 dL_law_233 dL_law_234 ?_
  refine law_arg C0 hL (k := 2) (by omega) hW.2.2 hl (by decide +kernel) dL_law_235 dL_law_236 dL_law_237 dL_law_238 dL_law_239 ?_
  refine law_call C0 hK hNW LIM (k := 0) (mm := 29) (i2 := 2) (av := [vi (xs (i + 1)), vi (xs (i + 2))]) (r := []) (op_ofTable hI) (by decide) (lw_inst (by decide) rfl) (lw_sel (by decide) rfl) rfl (by decide) rfl rfl (ROKi [xs (i + 1), xs (i + 2)]) (lwt1 (i := 228) rfl) dL_law_240 hl.1 (Nat.le_of_ble_eq_true rfl) hW (fun v x1 H1 locs1 hq hW1 => ?_)
  obtain ⟨r0, rfl, hq2⟩ := hq
  refine lv_aload_n hx hb dL_law_243 rfl (lv_at hl 2 rfl) ?_
  refine law_arg C0 hL (k := 1) (by omega) hW1.2.2 hl (by decide +kernel) dL_law_244 dL_law_245 dL_law_246 dL_law_247 dL_law_248 ?_
  refine law_arg C0 hL (k := 2) (by omega) hW1.2.2 hl (by decide +kernel) dL_law_249 dL_law_250 dL_law_251 dL_law_252 dL_law_253 ?_
  refine law_call C0 hK hNW LIM (k := 13) (mm := 99) (i2 := 2) (av := [vi (xs (i + 1)), vi (xs (i + 2))]) (r := [vi r0]) hq2 (by decide) (lw_inst (by decide) rfl) (lw_sel (by decide) rfl) rfl (by decide) rfl rfl (ROKi [xs (i + 1), xs (i + 2)]) (lwt3 (i := 189) rfl) dL_law_254 hl.1 (Nat.le_of_ble_eq_true rfl) hW1 (fun v x2 H2 locs2 hq hW2 => ?_)
  obtain ⟨rfl, hI2⟩ := hq
  exact lv_icmp_eq (tgt := 1144) hx hb dL_law_257 (by decide) (fun _ => kk x2 H2 locs2 hI2 hW2) (fun q => absurd rfl q)
set_option maxRecDepth 100000 in
theorem law_c2 {p : Program} {l : Launch} {e : Env} {s : State} {m : MethodId} {below : List Frame} {meth : Method} {c : Code} {b L : Nat} {xs : Nat → Int32} (C0 : lw_At p s m meth c b L xs) (hL : L ≤ 3072) {D : va_G} {ad : Nat → Nat → Nat} {cI cT cS : ClassId} (hK : va_K D vwCl (Tys cI cT cS) s) (hNW : NWs s) {i : Nat} (hi : i + 6 ≤ L) {x : Mem} {H : Heap} {locs : List Loc} {ls : Array Slot} (hI : Inv x) (hW : WO D ad cI cT cS (AL s) s.heap x H locs) (hl : lv_has ls 4 (LV b ad i)) (kk : ∀ (x1 : Mem) (H1 : Heap) (locs1 : List Loc), Inv x1 → WO D ad cI cT cS (AL s) s.heap x1 H1 locs1 → LG p l e s m b below meth c H1 locs1 (F0 m 1144 ls [])) : LG p l e s m b below meth c H locs (F0 m 262 ls []) := by
  obtain ⟨hx, hb, hr, hml, hown, hts, hX, hbl, hlocks, hgv⟩ := id C0
  refine lv_aload_n hx hb dL_law_262 rfl (lv_at hl 1 rfl) ?_
  refine law_arg C0 hL (k := 1) (by omega) hW.2.2 hl (by decide +kernel) dL_law_263 dL_law_264 dL_law_265 dL_law_266 dL_law_267 ?_
  refine law_arg C0 hL (k := 2) (by omega) hW.2.2 hl (by decide +kernel) dL_law_268 dL_law_269 dL_law_270 dL_law_271 dL_law_272 ?_
  refine law_call C0 hK hNW LIM (k := 0) (mm := 30) (i2 := 2) (av := [vi (xs (i + 1)), vi (xs (i + 2))]) (r := []) (op_bow hI) (by decide) (lw_inst (by decide) rfl) (lw_sel (by decide) rfl) rfl (by decide) rfl rfl (ROKi [xs (i + 1), xs (i + 2)]) (lwt2 (i := 4) rfl) dL_law_273 hl.1 (Nat.le_of_ble_eq_true rfl) hW (fun v x1 H1 locs1 hq hW1 => ?_)
  obtain ⟨r0, rfl, hq2⟩ := hq
  refine lv_aload_n hx hb dL_law_276 rfl (lv_at hl 2 rfl) ?_
  refine law_arg C0 hL (k := 1) (by omega) hW1.2.2 hl (by decide +kernel) dL_law_277 dL_law_278 dL_law_279 dL_law_280 dL_law_281 ?_
  refine law_arg C0 hL (k := 2) (by omega) hW1.2.2 hl (by decide +kernel) dL_law_282 dL_law_283 dL_law_284 dL_law_285 dL_law_286 ?_
  refine law_call C0 hK hNW LIM (k := 13) (mm := 100) (i2 := 2) (av := [vi (xs (i + 1)), vi (xs (i + 2))]) (r := [vi r0]) hq2 (by decide) (lw_inst (by decide) rfl) (lw_sel (by decide) rfl) rfl (by decide) rfl rfl (ROKi [xs (i + 1), xs (i + 2)]) (lwt3 (i := 201) rfl) dL_law_287 hl.1 (Nat.le_of_ble_eq_true rfl) hW1 (fun v x2 H2 locs2 hq hW2 => ?_)
  obtain ⟨rfl, hI2⟩ := hq
  exact lv_icmp_eq (tgt := 1144) hx hb dL_law_290 (by decide) (fun _ => kk x2 H2 locs2 hI2 hW2) (fun q => absurd rfl q)
set_option maxRecDepth 100000 in
theorem law_c3 {p : Program} {l : Launch} {e : Env} {s : State} {m : MethodId} {below : List Frame} {meth : Method} {c : Code} {b L : Nat} {xs : Nat → Int32} (C0 : lw_At p s m meth c b L xs) (hL : L ≤ 3072) {D : va_G} {ad : Nat → Nat → Nat} {cI cT cS : ClassId} (hK : va_K D vwCl (Tys cI cT cS) s) (hNW : NWs s) {i : Nat} (hi : i + 6 ≤ L) {x : Mem} {H : Heap} {locs : List Loc} {ls : Array Slot} (hI : Inv x) (hW : WO D ad cI cT cS (AL s) s.heap x H locs) (hl : lv_has ls 4 (LV b ad i)) (kk : ∀ (x1 : Mem) (H1 : Heap) (locs1 : List Loc), Inv x1 → WO D ad cI cT cS (AL s) s.heap x1 H1 locs1 → LG p l e s m b below meth c H1 locs1 (F0 m 1144 ls [])) : LG p l e s m b below meth c H locs (F0 m 295 ls []) := by
  obtain ⟨hx, hb, hr, hml, hown, hts, hX, hbl, hlocks, hgv⟩ := id C0
  refine lv_aload_n hx hb dL_law_295 rfl (lv_at hl 1 rfl) ?_
  refine law_arg C0 hL (k := 1) (by omega) hW.2.2 hl (by decide +kernel) dL_law_296 dL_law_297 dL_law_298 dL_law_299 dL_law_300 ?_
  refine law_arg C0 hL (k := 2) (by omega) hW.2.2 hl (by decide +kernel) dL_law_301 dL_law_302 dL_law_303 dL_law_304 dL_law_305 ?_
  refine law_call C0 hK hNW LIM (k := 0) (mm := 31) (i2 := 2) (av := [vi (xs (i + 1)), vi (xs (i + 2))]) (r := []) (op_heat hI) (by decide) (lw_inst (by decide) rfl) (lw_sel (by decide) rfl) rfl (by decide) rfl rfl (ROKi [xs (i + 1), xs (i + 2)]) (lwt2 (i := 16) rfl) dL_law_306 hl.1 (Nat.le_of_ble_eq_true rfl) hW (fun v x1 H1 locs1 hq hW1 => ?_)
  obtain ⟨r0, rfl, hq2⟩ := hq
  refine lv_aload_n hx hb dL_law_309 rfl (lv_at hl 2 rfl) ?_
  refine law_arg C0 hL (k := 1) (by omega) hW1.2.2 hl (by decide +kernel) dL_law_310 dL_law_311 dL_law_312 dL_law_313 dL_law_314 ?_
  refine law_arg C0 hL (k := 2) (by omega) hW1.2.2 hl (by decide +kernel) dL_law_315 dL_law_316 dL_law_317 dL_law_318 dL_law_319 ?_
  refine law_call C0 hK hNW LIM (k := 13) (mm := 101) (i2 := 2) (av := [vi (xs (i + 1)), vi (xs (i + 2))]) (r := [vi r0]) hq2 (by decide) (lw_inst (by decide) rfl) (lw_sel (by decide) rfl) rfl (by decide) rfl rfl (ROKi [xs (i + 1), xs (i + 2)]) (lwt3 (i := 206) rfl) dL_law_320 hl.1 (Nat.le_of_ble_eq_true rfl) hW1 (fun v x2 H2 locs2 hq hW2 => ?_)
  obtain ⟨rfl, hI2⟩ := hq
  exact lv_icmp_eq (tgt := 1144) hx hb dL_law_323 (by decide) (fun _ => kk x2 H2 locs2 hI2 hW2) (fun q => absurd rfl q)
set_option maxRecDepth 100000 in
theorem law_c4 {p : Program} {l : Launch} {e : Env} {s : State} {m : MethodId} {below : List Frame} {meth : Method} {c : Code} {b L : Nat} {xs : Nat → Int32} (C0 : lw_At p s m meth c b L xs) (hL : L ≤ 3072) {D : va_G} {ad : Nat → Nat → Nat} {cI cT cS : ClassId} (hK : va_K D vwCl (Tys cI cT cS) s) (hNW : NWs s) {i : Nat} (hi : i + 6 ≤ L) {x : Mem} {H : Heap} {locs : List Loc} {ls : Array Slot} (hI : Inv x) (hW : WO D ad cI cT cS (AL s) s.heap x H locs) (hl : lv_has ls 4 (LV b ad i)) (kk : ∀ (x1 : Mem) (H1 : Heap) (locs1 : List Loc), Inv x1 → WO D ad cI cT cS (AL s) s.heap x1 H1 locs1 → LG p l e s m b below meth c H1 locs1 (F0 m 1144 ls [])) : LG p l e s m b below meth c H locs (F0 m 328 ls []) := by
  obtain ⟨hx, hb, hr, hml, hown, hts, hX, hbl, hlocks, hgv⟩ := id C0
  refine lv_aload_n hx hb dL_law_328 rfl (lv_at hl 1 rfl) ?_
  refine law_arg C0 hL (k := 1) (by omega) hW.2.2 hl (by decide +kernel) dL_law_329 dL_law_330 dL_law_331 dL_law_332 dL_law_333 ?_
  refine law_call C0 hK hNW LIM (k := 0) (mm := 32) (i2 := 1) (av := [vi (xs (i + 1))]) (r := []) (op_load hI) (by decide) (lw_inst (by decide) rfl) (lw_sel (by decide) rfl) rfl (by decide) rfl rfl (ROKi [xs (i + 1)]) (lwt2 (i := 20) rfl) dL_law_334 hl.1 (Nat.le_of_ble_eq_true rfl) hW (fun v x1 H1 locs1 hq hW1 => ?_)
  obtain ⟨r0, rfl, hq2⟩ := hq
  refine lv_aload_n hx hb dL_law_337 rfl (lv_at hl 2 rfl) ?_
  refine law_arg C0 hL (k := 1) (by omega) hW1.2.2 hl (by decide +kernel) dL_law_338 dL_law_339 dL_law_340 dL_law_341 dL_law_342 ?_
  refine law_call C0 hK hNW LIM (k := 13) (mm := 102) (i2 := 1) (av := [vi (xs (i + 1))]) (r := [vi r0]) hq2 (by decide) (lw_inst (by decide) rfl) (lw_sel (by decide) rfl) rfl (by decide) rfl rfl (ROKi [xs (i + 1)]) (lwt3 (i := 211) rfl) dL_law_343 hl.1 (Nat.le_of_ble_eq_true rfl) hW1 (fun v x2 H2 locs2 hq hW2 => ?_)
  obtain ⟨rfl, hI2⟩ := hq
  exact lv_icmp_eq (tgt := 1144) hx hb dL_law_346 (by decide) (fun _ => kk x2 H2 locs2 hI2 hW2) (fun q => absurd rfl q)
set_option maxRecDepth 100000 in
theorem law_c5 {p : Program} {l : Launch} {e : Env} {s : State} {m : MethodId} {below : List Frame} {meth : Method} {c : Code} {b L : Nat} {xs : Nat → Int32} (C0 : lw_At p s m meth c b L xs) (hL : L ≤ 3072) {D : va_G} {ad : Nat → Nat → Nat} {cI cT cS : ClassId} (hK : va_K D vwCl (Tys cI cT cS) s) (hNW : NWs s) {i : Nat} (hi : i + 6 ≤ L) {x : Mem} {H : Heap} {locs : List Loc} {ls : Array Slot} (hI : Inv x) (hW : WO D ad cI cT cS (AL s) s.heap x H locs) (hl : lv_has ls 4 (LV b ad i)) (kk : ∀ (x1 : Mem) (H1 : Heap) (locs1 : List Loc), Inv x1 → WO D ad cI cT cS (AL s) s.heap x1 H1 locs1 → LG p l e s m b below meth c H1 locs1 (F0 m 1144 ls [])) : LG p l e s m b below meth c H locs (F0 m 351 ls []) := by
  obtain ⟨hx, hb, hr, hml, hown, hts, hX, hbl, hlocks, hgv⟩ := id C0
  refine lv_aload_n hx hb dL_law_351 rfl (lv_at hl 1 rfl) ?_
  refine law_call C0 hK hNW LIM (k := 0) (mm := 33) (i2 := 0) (av := []) (r := []) (op_sweet hI) (by decide) (lw_inst (by decide) rfl) (lw_sel (by decide) rfl) rfl (by decide) rfl rfl (ROKi []) (lwt2 (i := 28) rfl) dL_law_352 hl.1 (Nat.le_of_ble_eq_true rfl) hW (fun v x1 H1 locs1 hq hW1 => ?_)
  obtain ⟨r0, rfl, hq2⟩ := hq
  refine lv_aload_n hx hb dL_law_355 rfl (lv_at hl 2 rfl) ?_
  refine law_call C0 hK hNW LIM (k := 13) (mm := 110) (i2 := 0) (av := []) (r := [vi r0]) hq2 (by decide) (lw_inst (by decide) rfl) (lw_sel (by decide) rfl) rfl (by decide) rfl rfl (ROKi []) (lwt3 (i := 216) rfl) dL_law_356 hl.1 (Nat.le_of_ble_eq_true rfl) hW1 (fun v x2 H2 locs2 hq hW2 => ?_)
  obtain ⟨rfl, hI2⟩ := hq
  exact lv_icmp_eq (tgt := 1144) hx hb dL_law_359 (by decide) (fun _ => kk x2 H2 locs2 hI2 hW2) (fun q => absurd rfl q)
set_option maxRecDepth 100000 in
theorem law_c6 {p : Program} {l : Launch} {e : Env} {s : State} {m : MethodId} {below : List Frame} {meth : Method} {c : Code} {b L : Nat} {xs : Nat → Int32} (C0 : lw_At p s m meth c b L xs) (hL : L ≤ 3072) {D : va_G} {ad : Nat → Nat → Nat} {cI cT cS : ClassId} (hK : va_K D vwCl (Tys cI cT cS) s) (hNW : NWs s) {i : Nat} (hi : i + 6 ≤ L) {x : Mem} {H : Heap} {locs : List Loc} {ls : Array Slot} (hI : Inv x) (hW : WO D ad cI cT cS (AL s) s.heap x H locs) (hl : lv_has ls 4 (LV b ad i)) (kk : ∀ (x1 : Mem) (H1 : Heap) (locs1 : List Loc), Inv x1 → WO D ad cI cT cS (AL s) s.heap x1 H1 locs1 → LG p l e s m b below meth c H1 locs1 (F0 m 1144 ls [])) : LG p l e s m b below meth c H locs (F0 m 364 ls []) := by
  obtain ⟨hx, hb, hr, hml, hown, hts, hX, hbl, hlocks, hgv⟩ := id C0
  refine lv_aload_n hx hb dL_law_364 rfl (lv_at hl 1 rfl) ?_
  refine law_arg C0 hL (k := 1) (by omega) hW.2.2 hl (by decide +kernel) dL_law_365 dL_law_366 dL_law_367 dL_law_368 dL_law_369 ?_
  refine law_call C0 hK hNW LIM (k := 0) (mm := 34) (i2 := 1) (av := [vi (xs (i + 1))]) (r := []) (op_go hI) (by decide) (lw_inst (by decide) rfl) (lw_sel (by decide) rfl) rfl (by decide) rfl rfl (ROKi [xs (i + 1)]) (lwt2 (i := 44) rfl) dL_law_370 hl.1 (Nat.le_of_ble_eq_true rfl) hW (fun v x1 H1 locs1 hq hW1 => ?_)
  obtain ⟨r0, rfl, hq2⟩ := hq
  refine lv_aload_n hx hb dL_law_373 rfl (lv_at hl 2 rfl) ?_
  refine law_arg C0 hL (k := 1) (by omega) hW1.2.2 hl (by decide +kernel) dL_law_374 dL_law_375 dL_law_376 dL_law_377 dL_law_378 ?_
  refine law_call C0 hK hNW LIM (k := 13) (mm := 111) (i2 := 1) (av := [vi (xs (i + 1))]) (r := [vi r0]) hq2 (by decide) (lw_inst (by decide) rfl) (lw_sel (by decide) rfl) rfl (by decide) rfl rfl (ROKi [xs (i + 1)]) (lwt3 (i := 228) rfl) dL_law_379 hl.1 (Nat.le_of_ble_eq_true rfl) hW1 (fun v x2 H2 locs2 hq hW2 => ?_)
  obtain ⟨rfl, hI2⟩ := hq
  exact lv_icmp_eq (tgt := 1144) hx hb dL_law_382 (by decide) (fun _ => kk x2 H2 locs2 hI2 hW2) (fun q => absurd rfl q)
set_option maxRecDepth 100000 in
theorem law_c7 {p : Program} {l : Launch} {e : Env} {s : State} {m : MethodId} {below : List Frame} {meth : Method} {c : Code} {b L : Nat} {xs : Nat → Int32} (C0 : lw_At p s m meth c b L xs) (hL : L ≤ 3072) {D : va_G} {ad : Nat → Nat → Nat} {cI cT cS : ClassId} (hK : va_K D vwCl (Tys cI cT cS) s) (hNW : NWs s) {i : Nat} (hi : i + 6 ≤ L) {x : Mem} {H : Heap} {locs : List Loc} {ls : Array Slot} (hI : Inv x) (hW : WO D ad cI cT cS (AL s) s.heap x H locs) (hl : lv_has ls 4 (LV b ad i)) (kk : ∀ (x1 : Mem) (H1 : Heap) (locs1 : List Loc), Inv x1 → WO D ad cI cT cS (AL s) s.heap x1 H1 locs1 → LG p l e s m b below meth c H1 locs1 (F0 m 1144 ls [])) : LG p l e s m b below meth c H locs (F0 m 387 ls []) := by
  obtain ⟨hx, hb, hr, hml, hown, hts, hX, hbl, hlocks, hgv⟩ := id C0
  refine lv_aload_n hx hb dL_law_387 rfl (lv_at hl 1 rfl) ?_
  refine law_call C0 hK hNW LIM (k := 0) (mm := 35) (i2 := 0) (av := []) (r := []) (op_clear hI) (by decide) (lw_inst (by decide) rfl) (lw_sel (by decide) rfl) rfl (by decide) rfl rfl (ROKi []) (lwt2 (i := 80) rfl) dL_law_388 hl.1 (Nat.le_of_ble_eq_true rfl) hW (fun v x1 H1 locs1 hq hW1 => ?_)
  obtain ⟨r0, rfl, hq2⟩ := hq
  refine lv_aload_n hx hb dL_law_391 rfl (lv_at hl 2 rfl) ?_
  refine law_call C0 hK hNW LIM (k := 13) (mm := 112) (i2 := 0) (av := []) (r := [vi r0]) hq2 (by decide) (lw_inst (by decide) rfl) (lw_sel (by decide) rfl) rfl (by decide) rfl rfl (ROKi []) (lwt4 (i := 7) rfl) dL_law_392 hl.1 (Nat.le_of_ble_eq_true rfl) hW1 (fun v x2 H2 locs2 hq hW2 => ?_)
  obtain ⟨rfl, hI2⟩ := hq
  exact lv_icmp_eq (tgt := 1144) hx hb dL_law_395 (by decide) (fun _ => kk x2 H2 locs2 hI2 hW2) (fun q => absurd rfl q)
