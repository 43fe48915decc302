/-! THE LAW's CASES, laid by wip/gen_law.py: each call of the class, then of the reference, and the compare -/
theorem lw_cmpr (r : Int64) : lg_cmp r r = 0 := by simp [lg_cmp]
set_option maxHeartbeats 4000000 in
set_option maxRecDepth 100000 in
theorem lw_c0 {p : Program} {l : Launch} {e : Env} {s : State} {m : MethodId} {args : Array Value} {below : List Frame} {meth : Method} {c : Code} {X : gw_X} {Q : State → Prop} {b L : Nat} {xs : Nat → Int32} (C0 : gm_At p s m args meth c X cL_law 4 RL wsL_law ret) (hXs : va_X b L xs s s.heap) (hbl : b < s.heap.size) (hbA : ¬ gw_A X b) (hL : L ≤ 3072) (i : Nat) (hi : i + 6 ≤ L) (σ : gs_S) (hI : inv σ) {H : Heap} {locs : List Loc} {ls : Array Slot} (hP : gw_P X σ H) (hS : va_S (gw_A X) s.heap H locs) (hl : lv_has ls 4 [(0, .ref b), (1, .ref (X.1 0)), (2, .ref (X.1 63)), (3, .int (nI i))]) (kk : ∀ (τ : gs_S) (H : Heap) (locs : List Loc) (ls : Array Slot), inv τ → gw_P X τ H → va_S (gw_A X) s.heap H locs → lv_has ls 4 [(0, .ref b), (1, .ref (X.1 0)), (2, .ref (X.1 63)), (3, .int (nI i))] → W p l e room_1 s m args below meth c H locs 84 3429 Q (F0 m 1280 ls [])) : W p l e room_1 s m args below meth c H locs 84 3429 Q (F0 m 180 ls []) := by
  obtain ⟨hx, hb, hml, hown, hts, hr, hlocks, hC⟩ := id C0
  have hin1 : vp_in (nI i + (1 : Int32)) L := by rw [show (nI i + (1 : Int32)) = nI (i + 1) from nI_add i 1]; exact vp_in_nI (by omega) (by omega)
  have hin2 : vp_in (nI i + (2 : Int32)) L := by rw [show (nI i + (2 : Int32)) = nI (i + 2) from nI_add i 2]; exact vp_in_nI (by omega) (by omega)
  have hin3 : vp_in (nI i + (3 : Int32)) L := by rw [show (nI i + (3 : Int32)) = nI (i + 3) from nI_add i 3]; exact vp_in_nI (by omega) (by omega)
  obtain ⟨r, σ1, σ2, hc, hm, hI2⟩ := op_make σ hI (xs ((nI i) + (1 : Int32)).toNatClampNeg) (xs ((nI i) + (2 : Int32)).toNatClampNeg) (xs ((nI i) + (3 : Int32)).toNatClampNeg)
  refine lv_aload_n hx hb dL_law_180 rfl (lv_at hl 1 rfl) ?_
  refine lv_aload_n hx hb dL_law_181 rfl (lv_at hl 0 rfl) ?_
  refine lv_iload_n hx hb dL_law_182 rfl (lv_at hl 3 rfl) ?_
  refine lv_iconst (v := 1) hx hb dL_law_183 (by decide) ?_
  refine lv_iadd hx hb dL_law_184 ?_
  refine va_sld hx hb hXs hbl hbA hS hin1 dL_law_185 ?_
  refine lv_aload_n hx hb dL_law_186 rfl (lv_at hl 0 rfl) ?_
  refine lv_iload_n hx hb dL_law_187 rfl (lv_at hl 3 rfl) ?_
  refine lv_iconst (v := 2) hx hb dL_law_188 (by decide) ?_
  refine lv_iadd hx hb dL_law_189 ?_
  refine va_sld hx hb hXs hbl hbA hS hin2 dL_law_190 ?_
  refine lv_aload_n hx hb dL_law_191 rfl (lv_at hl 0 rfl) ?_
  refine lv_iload_n hx hb dL_law_192 rfl (lv_at hl 3 rfl) ?_
  refine lv_iconst (v := 3) hx hb dL_law_193 (by decide) ?_
  refine lv_iadd hx hb dL_law_194 ?_
  refine va_sld hx hb hXs hbl hbA hS hin3 dL_law_195 ?_
  refine gv_ri (gv_runV (n := 3) (rest := []) C0 (mX10_make l X σ (xs ((nI i) + (1 : Int32)).toNatClampNeg) (xs ((nI i) + (2 : Int32)).toNatClampNeg) (xs ((nI i) + (3 : Int32)).toNatClampNeg) hc) gL_law_X10_make rfl ⟨rfl, rfl⟩ (by decide +kernel) ⟨by decide, by decide⟩ gk_0.1 (by decide) rfl hP hS rfl hl.1 rfl (Nat.le_of_ble_eq_true rfl) dL_law_196 ⟨by decide, by decide⟩) hS (fun H locs hP hS => ?_)
  refine lv_aload_n hx hb dL_law_199 rfl (lv_at hl 2 rfl) ?_
  refine lv_aload_n hx hb dL_law_200 rfl (lv_at hl 0 rfl) ?_
  refine lv_iload_n hx hb dL_law_201 rfl (lv_at hl 3 rfl) ?_
  refine lv_iconst (v := 1) hx hb dL_law_202 (by decide) ?_
  refine lv_iadd hx hb dL_law_203 ?_
  refine va_sld hx hb hXs hbl hbA hS hin1 dL_law_204 ?_
  refine lv_aload_n hx hb dL_law_205 rfl (lv_at hl 0 rfl) ?_
  refine lv_iload_n hx hb dL_law_206 rfl (lv_at hl 3 rfl) ?_
  refine lv_iconst (v := 2) hx hb dL_law_207 (by decide) ?_
  refine lv_iadd hx hb dL_law_208 ?_
  refine va_sld hx hb hXs hbl hbA hS hin2 dL_law_209 ?_
  refine lv_aload_n hx hb dL_law_210 rfl (lv_at hl 0 rfl) ?_
  refine lv_iload_n hx hb dL_law_211 rfl (lv_at hl 3 rfl) ?_
  refine lv_iconst (v := 3) hx hb dL_law_212 (by decide) ?_
  refine lv_iadd hx hb dL_law_213 ?_
  refine va_sld hx hb hXs hbl hbA hS hin3 dL_law_214 ?_
  refine gv_ri (gv_runV (n := 3) (rest := [.int r]) C0 (mX11_make l X σ1 (xs ((nI i) + (1 : Int32)).toNatClampNeg) (xs ((nI i) + (2 : Int32)).toNatClampNeg) (xs ((nI i) + (3 : Int32)).toNatClampNeg) hm) gL_law_X11_make rfl ⟨rfl, rfl⟩ (by decide +kernel) ⟨by decide, by decide⟩ gk_63.1 (by decide) rfl hP hS rfl hl.1 rfl (Nat.le_of_ble_eq_true rfl) dL_law_215 ⟨by decide, by decide⟩) hS (fun H locs hP hS => ?_)
  refine lv_icmp_eq (tgt := 1280) hx hb dL_law_218 (by decide) (fun hc => ?_) (fun hc => absurd rfl hc)
  exact kk σ2 H locs ls hI2 hP hS hl
set_option maxHeartbeats 4000000 in
set_option maxRecDepth 100000 in
theorem lw_c1 {p : Program} {l : Launch} {e : Env} {s : State} {m : MethodId} {args : Array Value} {below : List Frame} {meth : Method} {c : Code} {X : gw_X} {Q : State → Prop} {b L : Nat} {xs : Nat → Int32} (C0 : gm_At p s m args meth c X cL_law 4 RL wsL_law ret) (hXs : va_X b L xs s s.heap) (hbl : b < s.heap.size) (hbA : ¬ gw_A X b) (hL : L ≤ 3072) (i : Nat) (hi : i + 6 ≤ L) (σ : gs_S) (hI : inv σ) {H : Heap} {locs : List Loc} {ls : Array Slot} (hP : gw_P X σ H) (hS : va_S (gw_A X) s.heap H locs) (hl : lv_has ls 4 [(0, .ref b), (1, .ref (X.1 0)), (2, .ref (X.1 63)), (3, .int (nI i))]) (kk : ∀ (τ : gs_S) (H : Heap) (locs : List Loc) (ls : Array Slot), inv τ → gw_P X τ H → va_S (gw_A X) s.heap H locs → lv_has ls 4 [(0, .ref b), (1, .ref (X.1 0)), (2, .ref (X.1 63)), (3, .int (nI i))] → W p l e room_1 s m args below meth c H locs 84 3429 Q (F0 m 1280 ls [])) : W p l e room_1 s m args below meth c H locs 84 3429 Q (F0 m 223 ls []) := by
  obtain ⟨hx, hb, hml, hown, hts, hr, hlocks, hC⟩ := id C0
  have hin1 : vp_in (nI i + (1 : Int32)) L := by rw [show (nI i + (1 : Int32)) = nI (i + 1) from nI_add i 1]; exact vp_in_nI (by omega) (by omega)
  have hin2 : vp_in (nI i + (2 : Int32)) L := by rw [show (nI i + (2 : Int32)) = nI (i + 2) from nI_add i 2]; exact vp_in_nI (by omega) (by omega)
  obtain ⟨r, hc, hm⟩ := op_told σ hI (xs ((nI i) + (1 : Int32)).toNatClampNeg) (xs ((nI i) + (2 : Int32)).toNatClampNeg)
  have hI2 := hI
  refine lv_aload_n hx hb dL_law_223 rfl (lv_at hl 1 rfl) ?_
  refine lv_aload_n hx hb dL_law_224 rfl (lv_at hl 0 rfl) ?_
  refine lv_iload_n hx hb dL_law_225 rfl (lv_at hl 3 rfl) ?_
  refine lv_iconst (v := 1) hx hb dL_law_226 (by decide) ?_
  refine lv_iadd hx hb dL_law_227 ?_
  refine va_sld hx hb hXs hbl hbA hS hin1 dL_law_228 ?_
  refine lv_aload_n hx hb dL_law_229 rfl (lv_at hl 0 rfl) ?_
  refine lv_iload_n hx hb dL_law_230 rfl (lv_at hl 3 rfl) ?_
  refine lv_iconst (v := 2) hx hb dL_law_231 (by decide) ?_
  refine lv_iadd hx hb dL_law_232 ?_
  refine va_sld hx hb hXs hbl hbA hS hin2 dL_law_233 ?_
  refine gv_ri (gv_runV (n := 2) (rest := []) C0 (mX10_told l X σ (xs ((nI i) + (1 : Int32)).toNatClampNeg) (xs ((nI i) + (2 : Int32)).toNatClampNeg) hc) gL_law_X10_told rfl ⟨rfl, rfl⟩ (by decide +kernel) ⟨by decide, by decide⟩ gk_0.1 (by decide) rfl hP hS rfl hl.1 rfl (Nat.le_of_ble_eq_true rfl) dL_law_234 ⟨by decide, by decide⟩) hS (fun H locs hP hS => ?_)
  refine lv_aload_n hx hb dL_law_237 rfl (lv_at hl 2 rfl) ?_
  refine lv_aload_n hx hb dL_law_238 rfl (lv_at hl 0 rfl) ?_
  refine lv_iload_n hx hb dL_law_239 rfl (lv_at hl 3 rfl) ?_
  refine lv_iconst (v := 1) hx hb dL_law_240 (by decide) ?_
  refine lv_iadd hx hb dL_law_241 ?_
  refine va_sld hx hb hXs hbl hbA hS hin1 dL_law_242 ?_
  refine lv_aload_n hx hb dL_law_243 rfl (lv_at hl 0 rfl) ?_
  refine lv_iload_n hx hb dL_law_244 rfl (lv_at hl 3 rfl) ?_
  refine lv_iconst (v := 2) hx hb dL_law_245 (by decide) ?_
  refine lv_iadd hx hb dL_law_246 ?_
  refine va_sld hx hb hXs hbl hbA hS hin2 dL_law_247 ?_
  refine gv_ri (gv_runV (n := 2) (rest := [.int r]) C0 (mX11_told l X σ (xs ((nI i) + (1 : Int32)).toNatClampNeg) (xs ((nI i) + (2 : Int32)).toNatClampNeg) hm) gL_law_X11_told rfl ⟨rfl, rfl⟩ (by decide +kernel) ⟨by decide, by decide⟩ gk_63.1 (by decide) rfl hP hS rfl hl.1 rfl (Nat.le_of_ble_eq_true rfl) dL_law_248 ⟨by decide, by decide⟩) hS (fun H locs hP hS => ?_)
  refine lv_icmp_eq (tgt := 1280) hx hb dL_law_251 (by decide) (fun hc => ?_) (fun hc => absurd rfl hc)
  exact kk σ H locs ls hI2 hP hS hl
set_option maxHeartbeats 4000000 in
set_option maxRecDepth 100000 in
theorem lw_c2 {p : Program} {l : Launch} {e : Env} {s : State} {m : MethodId} {args : Array Value} {below : List Frame} {meth : Method} {c : Code} {X : gw_X} {Q : State → Prop} {b L : Nat} {xs : Nat → Int32} (C0 : gm_At p s m args meth c X cL_law 4 RL wsL_law ret) (hXs : va_X b L xs s s.heap) (hbl : b < s.heap.size) (hbA : ¬ gw_A X b) (hL : L ≤ 3072) (i : Nat) (hi : i + 6 ≤ L) (σ : gs_S) (hI : inv σ) {H : Heap} {locs : List Loc} {ls : Array Slot} (hP : gw_P X σ H) (hS : va_S (gw_A X) s.heap H locs) (hl : lv_has ls 4 [(0, .ref b), (1, .ref (X.1 0)), (2, .ref (X.1 63)), (3, .int (nI i))]) (kk : ∀ (τ : gs_S) (H : Heap) (locs : List Loc) (ls : Array Slot), inv τ → gw_P X τ H → va_S (gw_A X) s.heap H locs → lv_has ls 4 [(0, .ref b), (1, .ref (X.1 0)), (2, .ref (X.1 63)), (3, .int (nI i))] → W p l e room_1 s m args below meth c H locs 84 3429 Q (F0 m 1280 ls [])) : W p l e room_1 s m args below meth c H locs 84 3429 Q (F0 m 256 ls []) := by
  obtain ⟨hx, hb, hml, hown, hts, hr, hlocks, hC⟩ := id C0
  have hin1 : vp_in (nI i + (1 : Int32)) L := by rw [show (nI i + (1 : Int32)) = nI (i + 1) from nI_add i 1]; exact vp_in_nI (by omega) (by omega)
  have hin2 : vp_in (nI i + (2 : Int32)) L := by rw [show (nI i + (2 : Int32)) = nI (i + 2) from nI_add i 2]; exact vp_in_nI (by omega) (by omega)
  obtain ⟨r, σ1, σ2, hc, hm, hI2⟩ := op_days σ hI (xs ((nI i) + (1 : Int32)).toNatClampNeg) (xs ((nI i) + (2 : Int32)).toNatClampNeg)
  refine lv_aload_n hx hb dL_law_256 rfl (lv_at hl 1 rfl) ?_
  refine lv_aload_n hx hb dL_law_257 rfl (lv_at hl 0 rfl) ?_
  refine lv_iload_n hx hb dL_law_258 rfl (lv_at hl 3 rfl) ?_
  refine lv_iconst (v := 1) hx hb dL_law_259 (by decide) ?_
  refine lv_iadd hx hb dL_law_260 ?_
  refine va_sld hx hb hXs hbl hbA hS hin1 dL_law_261 ?_
  refine lv_aload_n hx hb dL_law_262 rfl (lv_at hl 0 rfl) ?_
  refine lv_iload_n hx hb dL_law_263 rfl (lv_at hl 3 rfl) ?_
  refine lv_iconst (v := 2) hx hb dL_law_264 (by decide) ?_
  refine lv_iadd hx hb dL_law_265 ?_
  refine va_sld hx hb hXs hbl hbA hS hin2 dL_law_266 ?_
  refine gv_ri (gv_runV (n := 2) (rest := []) C0 (mX10_days l X σ (xs ((nI i) + (1 : Int32)).toNatClampNeg) (xs ((nI i) + (2 : Int32)).toNatClampNeg) hc) gL_law_X10_days rfl ⟨rfl, rfl⟩ (by decide +kernel) ⟨by decide, by decide⟩ gk_0.1 (by decide) rfl hP hS rfl hl.1 rfl (Nat.le_of_ble_eq_true rfl) dL_law_267 ⟨by decide, by decide⟩) hS (fun H locs hP hS => ?_)
  refine lv_aload_n hx hb dL_law_270 rfl (lv_at hl 2 rfl) ?_
  refine lv_aload_n hx hb dL_law_271 rfl (lv_at hl 0 rfl) ?_
  refine lv_iload_n hx hb dL_law_272 rfl (lv_at hl 3 rfl) ?_
  refine lv_iconst (v := 1) hx hb dL_law_273 (by decide) ?_
  refine lv_iadd hx hb dL_law_274 ?_
  refine va_sld hx hb hXs hbl hbA hS hin1 dL_law_275 ?_
  refine lv_aload_n hx hb dL_law_276 rfl (lv_at hl 0 rfl) ?_
  refine lv_iload_n hx hb dL_law_277 rfl (lv_at hl 3 rfl) ?_
  refine lv_iconst (v := 2) hx hb dL_law_278 (by decide) ?_
  refine lv_iadd hx hb dL_law_279 ?_
  refine va_sld hx hb hXs hbl hbA hS hin2 dL_law_280 ?_
  refine gv_ri (gv_runV (n := 2) (rest := [.int r]) C0 (mX11_days l X σ1 (xs ((nI i) + (1 : Int32)).toNatClampNeg) (xs ((nI i) + (2 : Int32)).toNatClampNeg) hm) gL_law_X11_days rfl ⟨rfl, rfl⟩ (by decide +kernel) ⟨by decide, by decide⟩ gk_63.1 (by decide) rfl hP hS rfl hl.1 rfl (Nat.le_of_ble_eq_true rfl) dL_law_281 ⟨by decide, by decide⟩) hS (fun H locs hP hS => ?_)
  refine lv_icmp_eq (tgt := 1280) hx hb dL_law_284 (by decide) (fun hc => ?_) (fun hc => absurd rfl hc)
  exact kk σ2 H locs ls hI2 hP hS hl
set_option maxHeartbeats 4000000 in
set_option maxRecDepth 100000 in
theorem lw_c3 {p : Program} {l : Launch} {e : Env} {s : State} {m : MethodId} {args : Array Value} {below : List Frame} {meth : Method} {c : Code} {X : gw_X} {Q : State → Prop} {b L : Nat} {xs : Nat → Int32} (C0 : gm_At p s m args meth c X cL_law 4 RL wsL_law ret) (hXs : va_X b L xs s s.heap) (hbl : b < s.heap.size) (hbA : ¬ gw_A X b) (hL : L ≤ 3072) (i : Nat) (hi : i + 6 ≤ L) (σ : gs_S) (hI : inv σ) {H : Heap} {locs : List Loc} {ls : Array Slot} (hP : gw_P X σ H) (hS : va_S (gw_A X) s.heap H locs) (hl : lv_has ls 4 [(0, .ref b), (1, .ref (X.1 0)), (2, .ref (X.1 63)), (3, .int (nI i))]) (kk : ∀ (τ : gs_S) (H : Heap) (locs : List Loc) (ls : Array Slot), inv τ → gw_P X τ H → va_S (gw_A X) s.heap H locs → lv_has ls 4 [(0, .ref b), (1, .ref (X.1 0)), (2, .ref (X.1 63)), (3, .int (nI i))] → W p l e room_1 s m args below meth c H locs 84 3429 Q (F0 m 1280 ls [])) : W p l e room_1 s m args below meth c H locs 84 3429 Q (F0 m 289 ls []) := by
  obtain ⟨hx, hb, hml, hown, hts, hr, hlocks, hC⟩ := id C0
  have hin1 : vp_in (nI i + (1 : Int32)) L := by rw [show (nI i + (1 : Int32)) = nI (i + 1) from nI_add i 1]; exact vp_in_nI (by omega) (by omega)
  have hin2 : vp_in (nI i + (2 : Int32)) L := by rw [show (nI i + (2 : Int32)) = nI (i + 2) from nI_add i 2]; exact vp_in_nI (by omega) (by omega)
  obtain ⟨r, σ1, σ2, hc, hm, hI2⟩ := op_set σ hI (xs ((nI i) + (1 : Int32)).toNatClampNeg) (xs ((nI i) + (2 : Int32)).toNatClampNeg)
  refine lv_aload_n hx hb dL_law_289 rfl (lv_at hl 1 rfl) ?_
  refine lv_aload_n hx hb dL_law_290 rfl (lv_at hl 0 rfl) ?_
  refine lv_iload_n hx hb dL_law_291 rfl (lv_at hl 3 rfl) ?_
  refine lv_iconst (v := 1) hx hb dL_law_292 (by decide) ?_
  refine lv_iadd hx hb dL_law_293 ?_
  refine va_sld hx hb hXs hbl hbA hS hin1 dL_law_294 ?_
  refine lv_aload_n hx hb dL_law_295 rfl (lv_at hl 0 rfl) ?_
  refine lv_iload_n hx hb dL_law_296 rfl (lv_at hl 3 rfl) ?_
  refine lv_iconst (v := 2) hx hb dL_law_297 (by decide) ?_
  refine lv_iadd hx hb dL_law_298 ?_
  refine va_sld hx hb hXs hbl hbA hS hin2 dL_law_299 ?_
  refine gv_ri (gv_runV (n := 2) (rest := []) C0 (mX10_set l X σ (xs ((nI i) + (1 : Int32)).toNatClampNeg) (xs ((nI i) + (2 : Int32)).toNatClampNeg) hc) gL_law_X10_set rfl ⟨rfl, rfl⟩ (by decide +kernel) ⟨by decide, by decide⟩ gk_0.1 (by decide) rfl hP hS rfl hl.1 rfl (Nat.le_of_ble_eq_true rfl) dL_law_300 ⟨by decide, by decide⟩) hS (fun H locs hP hS => ?_)
  refine lv_aload_n hx hb dL_law_303 rfl (lv_at hl 2 rfl) ?_
  refine lv_aload_n hx hb dL_law_304 rfl (lv_at hl 0 rfl) ?_
  refine lv_iload_n hx hb dL_law_305 rfl (lv_at hl 3 rfl) ?_
  refine lv_iconst (v := 1) hx hb dL_law_306 (by decide) ?_
  refine lv_iadd hx hb dL_law_307 ?_
  refine va_sld hx hb hXs hbl hbA hS hin1 dL_law_308 ?_
  refine lv_aload_n hx hb dL_law_309 rfl (lv_at hl 0 rfl) ?_
  refine lv_iload_n hx hb dL_law_310 rfl (lv_at hl 3 rfl) ?_
  refine lv_iconst (v := 2) hx hb dL_law_311 (by decide) ?_
  refine lv_iadd hx hb dL_law_312 ?_
  refine va_sld hx hb hXs hbl hbA hS hin2 dL_law_313 ?_
  refine gv_ri (gv_runV (n := 2) (rest := [.int r]) C0 (mX11_set l X σ1 (xs ((nI i) + (1 : Int32)).toNatClampNeg) (xs ((nI i) + (2 : Int32)).toNatClampNeg) hm) gL_law_X11_set rfl ⟨rfl, rfl⟩ (by decide +kernel) ⟨by decide, by decide⟩ gk_63.1 (by decide) rfl hP hS rfl hl.1 rfl (Nat.le_of_ble_eq_true rfl) dL_law_314 ⟨by decide, by decide⟩) hS (fun H locs hP hS => ?_)
  refine lv_icmp_eq (tgt := 1280) hx hb dL_law_317 (by decide) (fun hc => ?_) (fun hc => absurd rfl hc)
  exact kk σ2 H locs ls hI2 hP hS hl
set_option maxHeartbeats 4000000 in
set_option maxRecDepth 100000 in
theorem lw_c4 {p : Program} {l : Launch} {e : Env} {s : State} {m : MethodId} {args : Array Value} {below : List Frame} {meth : Method} {c : Code} {X : gw_X} {Q : State → Prop} {b L : Nat} {xs : Nat → Int32} (C0 : gm_At p s m args meth c X cL_law 4 RL wsL_law ret) (hXs : va_X b L xs s s.heap) (hbl : b < s.heap.size) (hbA : ¬ gw_A X b) (hL : L ≤ 3072) (i : Nat) (hi : i + 6 ≤ L) (σ : gs_S) (hI : inv σ) {H : Heap} {locs : List Loc} {ls : Array Slot} (hP : gw_P X σ H) (hS : va_S (gw_A X) s.heap H locs) (hl : lv_has ls 4 [(0, .ref b), (1, .ref (X.1 0)), (2, .ref (X.1 63)), (3, .int (nI i))]) (kk : ∀ (τ : gs_S) (H : Heap) (locs : List Loc) (ls : Array Slot), inv τ → gw_P X τ H → va_S (gw_A X) s.heap H locs → lv_has ls 4 [(0, .ref b), (1, .ref (X.1 0)), (2, .ref (X.1 63)), (3, .int (nI i))] → W p l e room_1 s m args below meth c H locs 84 3429 Q (F0 m 1280 ls [])) : W p l e room_1 s m args below meth c H locs 84 3429 Q (F0 m 322 ls []) := by
  obtain ⟨hx, hb, hml, hown, hts, hr, hlocks, hC⟩ := id C0
  have hin1 : vp_in (nI i + (1 : Int32)) L := by rw [show (nI i + (1 : Int32)) = nI (i + 1) from nI_add i 1]; exact vp_in_nI (by omega) (by omega)
  have hin2 : vp_in (nI i + (2 : Int32)) L := by rw [show (nI i + (2 : Int32)) = nI (i + 2) from nI_add i 2]; exact vp_in_nI (by omega) (by omega)
  have hin3 : vp_in (nI i + (3 : Int32)) L := by rw [show (nI i + (3 : Int32)) = nI (i + 3) from nI_add i 3]; exact vp_in_nI (by omega) (by omega)
  obtain ⟨r, σ1, σ2, hc, hm, hI2⟩ := op_type σ hI ((((xs ((nI i) + (1 : Int32)).toNatClampNeg).toInt64) <<< ((32 : Int32).toInt64 &&& 63)) ||| (((xs ((nI i) + (2 : Int32)).toNatClampNeg).toInt64) &&& (4294967295 : Int64))) (xs ((nI i) + (3 : Int32)).toNatClampNeg)
  refine lv_aload_n hx hb dL_law_322 rfl (lv_at hl 1 rfl) ?_
  refine lv_aload_n hx hb dL_law_323 rfl (lv_at hl 0 rfl) ?_
  refine lv_iload_n hx hb dL_law_324 rfl (lv_at hl 3 rfl) ?_
  refine lv_iconst (v := 1) hx hb dL_law_325 (by decide) ?_
  refine lv_iadd hx hb dL_law_326 ?_
  refine va_sld hx hb hXs hbl hbA hS hin1 dL_law_327 ?_
  refine lv_i2l hx hb dL_law_328 rfl ?_
  refine lv_bipush (v := 32) hx hb dL_law_329 (by decide) ?_
  refine lv_lshl hx hb dL_law_331 rfl ?_
  refine lv_aload_n hx hb dL_law_332 rfl (lv_at hl 0 rfl) ?_
  refine lv_iload_n hx hb dL_law_333 rfl (lv_at hl 3 rfl) ?_
  refine lv_iconst (v := 2) hx hb dL_law_334 (by decide) ?_
  refine lv_iadd hx hb dL_law_335 ?_
  refine va_sld hx hb hXs hbl hbA hS hin2 dL_law_336 ?_
  refine lv_i2l hx hb dL_law_337 rfl ?_
  refine lv_ldc2 (v := 4294967295) hx hb hown (hts (.constantLong RL 31 (4294967295)) (List.mem_append_left _ (by decide +kernel))) dL_law_338 ?_
  refine lv_land hx hb dL_law_341 ?_
  refine lv_lor hx hb dL_law_342 ?_
  refine lv_aload_n hx hb dL_law_343 rfl (lv_at hl 0 rfl) ?_
  refine lv_iload_n hx hb dL_law_344 rfl (lv_at hl 3 rfl) ?_
  refine lv_iconst (v := 3) hx hb dL_law_345 (by decide) ?_
  refine lv_iadd hx hb dL_law_346 ?_
  refine va_sld hx hb hXs hbl hbA hS hin3 dL_law_347 ?_
  refine gv_ri (gv_runV (n := 2) (rest := []) C0 (mX10_type l X σ ((((xs ((nI i) + (1 : Int32)).toNatClampNeg).toInt64) <<< ((32 : Int32).toInt64 &&& 63)) ||| (((xs ((nI i) + (2 : Int32)).toNatClampNeg).toInt64) &&& (4294967295 : Int64))) (xs ((nI i) + (3 : Int32)).toNatClampNeg) hc) gL_law_X10_type rfl ⟨rfl, rfl⟩ (by decide +kernel) ⟨by decide, by decide⟩ gk_0.1 (by decide) rfl hP hS rfl hl.1 rfl (Nat.le_of_ble_eq_true rfl) dL_law_348 ⟨by decide, by decide⟩) hS (fun H locs hP hS => ?_)
  refine lv_aload_n hx hb dL_law_351 rfl (lv_at hl 2 rfl) ?_
  refine lv_aload_n hx hb dL_law_352 rfl (lv_at hl 0 rfl) ?_
  refine lv_iload_n hx hb dL_law_353 rfl (lv_at hl 3 rfl) ?_
  refine lv_iconst (v := 1) hx hb dL_law_354 (by decide) ?_
  refine lv_iadd hx hb dL_law_355 ?_
  refine va_sld hx hb hXs hbl hbA hS hin1 dL_law_356 ?_
  refine lv_i2l hx hb dL_law_357 rfl ?_
  refine lv_bipush (v := 32) hx hb dL_law_358 (by decide) ?_
  refine lv_lshl hx hb dL_law_360 rfl ?_
  refine lv_aload_n hx hb dL_law_361 rfl (lv_at hl 0 rfl) ?_
  refine lv_iload_n hx hb dL_law_362 rfl (lv_at hl 3 rfl) ?_
  refine lv_iconst (v := 2) hx hb dL_law_363 (by decide) ?_
  refine lv_iadd hx hb dL_law_364 ?_
  refine va_sld hx hb hXs hbl hbA hS hin2 dL_law_365 ?_
  refine lv_i2l hx hb dL_law_366 rfl ?_
  refine lv_ldc2 (v := 4294967295) hx hb hown (hts (.constantLong RL 31 (4294967295)) (List.mem_append_left _ (by decide +kernel))) dL_law_367 ?_
  refine lv_land hx hb dL_law_370 ?_
  refine lv_lor hx hb dL_law_371 ?_
  refine lv_aload_n hx hb dL_law_372 rfl (lv_at hl 0 rfl) ?_
  refine lv_iload_n hx hb dL_law_373 rfl (lv_at hl 3 rfl) ?_
  refine lv_iconst (v := 3) hx hb dL_law_374 (by decide) ?_
  refine lv_iadd hx hb dL_law_375 ?_
  refine va_sld hx hb hXs hbl hbA hS hin3 dL_law_376 ?_
  refine gv_ri (gv_runV (n := 2) (rest := [.int r]) C0 (mX11_type l X σ1 ((((xs ((nI i) + (1 : Int32)).toNatClampNeg).toInt64) <<< ((32 : Int32).toInt64 &&& 63)) ||| (((xs ((nI i) + (2 : Int32)).toNatClampNeg).toInt64) &&& (4294967295 : Int64))) (xs ((nI i) + (3 : Int32)).toNatClampNeg) hm) gL_law_X11_type rfl ⟨rfl, rfl⟩ (by decide +kernel) ⟨by decide, by decide⟩ gk_63.1 (by decide) rfl hP hS rfl hl.1 rfl (Nat.le_of_ble_eq_true rfl) dL_law_377 ⟨by decide, by decide⟩) hS (fun H locs hP hS => ?_)
  refine lv_icmp_eq (tgt := 1280) hx hb dL_law_380 (by decide) (fun hc => ?_) (fun hc => absurd rfl hc)
  exact kk σ2 H locs ls hI2 hP hS hl
set_option maxHeartbeats 4000000 in
set_option maxRecDepth 100000 in
theorem lw_c5 {p : Program} {l : Launch} {e : Env} {s : State} {m : MethodId} {args : Array Value} {below : List Frame} {meth : Method} {c : Code} {X : gw_X} {Q : State → Prop} {b L : Nat} {xs : Nat → Int32} (C0 : gm_At p s m args meth c X cL_law 4 RL wsL_law ret) (hXs : va_X b L xs s s.heap) (hbl : b < s.heap.size) (hbA : ¬ gw_A X b) (hL : L ≤ 3072) (i : Nat) (hi : i + 6 ≤ L) (σ : gs_S) (hI : inv σ) {H : Heap} {locs : List Loc} {ls : Array Slot} (hP : gw_P X σ H) (hS : va_S (gw_A X) s.heap H locs) (hl : lv_has ls 4 [(0, .ref b), (1, .ref (X.1 0)), (2, .ref (X.1 63)), (3, .int (nI i))]) (kk : ∀ (τ : gs_S) (H : Heap) (locs : List Loc) (ls : Array Slot), inv τ → gw_P X τ H → va_S (gw_A X) s.heap H locs → lv_has ls 4 [(0, .ref b), (1, .ref (X.1 0)), (2, .ref (X.1 63)), (3, .int (nI i))] → W p l e room_1 s m args below meth c H locs 84 3429 Q (F0 m 1280 ls [])) : W p l e room_1 s m args below meth c H locs 84 3429 Q (F0 m 385 ls []) := by
  obtain ⟨hx, hb, hml, hown, hts, hr, hlocks, hC⟩ := id C0
  obtain ⟨r, σ1, σ2, hc, hm, hI2⟩ := op_ice σ hI 
  refine lv_aload_n hx hb dL_law_385 rfl (lv_at hl 1 rfl) ?_
  refine gv_ri (gv_runV (n := 0) (rest := []) C0 (mX10_ice l X σ  hc) gL_law_X10_ice rfl ⟨rfl, rfl⟩ (by decide +kernel) ⟨by decide, by decide⟩ gk_0.1 (by decide) rfl hP hS rfl hl.1 rfl (Nat.le_of_ble_eq_true rfl) dL_law_386 ⟨by decide, by decide⟩) hS (fun H locs hP hS => ?_)
  refine lv_aload_n hx hb dL_law_389 rfl (lv_at hl 2 rfl) ?_
  refine gv_ri (gv_runV (n := 0) (rest := [.int r]) C0 (mX11_ice l X σ1  hm) gL_law_X11_ice rfl ⟨rfl, rfl⟩ (by decide +kernel) ⟨by decide, by decide⟩ gk_63.1 (by decide) rfl hP hS rfl hl.1 rfl (Nat.le_of_ble_eq_true rfl) dL_law_390 ⟨by decide, by decide⟩) hS (fun H locs hP hS => ?_)
  refine lv_icmp_eq (tgt := 1280) hx hb dL_law_393 (by decide) (fun hc => ?_) (fun hc => absurd rfl hc)
  exact kk σ2 H locs ls hI2 hP hS hl
set_option maxHeartbeats 4000000 in
set_option maxRecDepth 100000 in
theorem lw_c6 {p : Program} {l : Launch} {e : Env} {s : State} {m : MethodId} {args : Array Value} {below : List Frame} {meth : Method} {c : Code} {X : gw_X} {Q : State → Prop} {b L : Nat} {xs : Nat → Int32} (C0 : gm_At p s m args meth c X cL_law 4 RL wsL_law ret) (hXs : va_X b L xs s s.heap) (hbl : b < s.heap.size) (hbA : ¬ gw_A X b) (hL : L ≤ 3072) (i : Nat) (hi : i + 6 ≤ L) (σ : gs_S) (hI : inv σ) {H : Heap} {locs : List Loc} {ls : Array Slot} (hP : gw_P X σ H) (hS : va_S (gw_A X) s.heap H locs) (hl : lv_has ls 4 [(0, .ref b), (1, .ref (X.1 0)), (2, .ref (X.1 63)), (3, .int (nI i))]) (kk : ∀ (τ : gs_S) (H : Heap) (locs : List Loc) (ls : Array Slot), inv τ → gw_P X τ H → va_S (gw_A X) s.heap H locs → lv_has ls 4 [(0, .ref b), (1, .ref (X.1 0)), (2, .ref (X.1 63)), (3, .int (nI i))] → W p l e room_1 s m args below meth c H locs 84 3429 Q (F0 m 1280 ls [])) : W p l e room_1 s m args below meth c H locs 84 3429 Q (F0 m 398 ls []) := by
  obtain ⟨hx, hb, hml, hown, hts, hr, hlocks, hC⟩ := id C0
  obtain ⟨r, σ1, σ2, hc, hm, hI2⟩ := op_sleighs σ hI 
  refine lv_aload_n hx hb dL_law_398 rfl (lv_at hl 1 rfl) ?_
  refine gv_ri (gv_runV (n := 0) (rest := []) C0 (mX10_sleighs l X σ  hc) gL_law_X10_sleighs rfl ⟨rfl, rfl⟩ (by decide +kernel) ⟨by decide, by decide⟩ gk_0.1 (by decide) rfl hP hS rfl hl.1 rfl (Nat.le_of_ble_eq_true rfl) dL_law_399 ⟨by decide, by decide⟩) hS (fun H locs hP hS => ?_)
  refine lv_aload_n hx hb dL_law_402 rfl (lv_at hl 2 rfl) ?_
  refine gv_ri (gv_runV (n := 0) (rest := [.int r]) C0 (mX11_sleighs l X σ1  hm) gL_law_X11_sleighs rfl ⟨rfl, rfl⟩ (by decide +kernel) ⟨by decide, by decide⟩ gk_63.1 (by decide) rfl hP hS rfl hl.1 rfl (Nat.le_of_ble_eq_true rfl) dL_law_403 ⟨by decide, by decide⟩) hS (fun H locs hP hS => ?_)
  refine lv_icmp_eq (tgt := 1280) hx hb dL_law_406 (by decide) (fun hc => ?_) (fun hc => absurd rfl hc)
  exact kk σ2 H locs ls hI2 hP hS hl
set_option maxHeartbeats 4000000 in
set_option maxRecDepth 100000 in
theorem lw_c7 {p : Program} {l : Launch} {e : Env} {s : State} {m : MethodId} {args : Array Value} {below : List Frame} {meth : Method} {c : Code} {X : gw_X} {Q : State → Prop} {b L : Nat} {xs : Nat → Int32} (C0 : gm_At p s m args meth c X cL_law 4 RL wsL_law ret) (hXs : va_X b L xs s s.heap) (hbl : b < s.heap.size) (hbA : ¬ gw_A X b) (hL : L ≤ 3072) (i : Nat) (hi : i + 6 ≤ L) (σ : gs_S) (hI : inv σ) {H : Heap} {locs : List Loc} {ls : Array Slot} (hP : gw_P X σ H) (hS : va_S (gw_A X) s.heap H locs) (hl : lv_has ls 4 [(0, .ref b), (1, .ref (X.1 0)), (2, .ref (X.1 63)), (3, .int (nI i))]) (kk : ∀ (τ : gs_S) (H : Heap) (locs : List Loc) (ls : Array Slot), inv τ → gw_P X τ H → va_S (gw_A X) s.heap H locs → lv_has ls 4 [(0, .ref b), (1, .ref (X.1 0)), (2, .ref (X.1 63)), (3, .int (nI i))] → W p l e room_1 s m args below meth c H locs 84 3429 Q (F0 m 1280 ls [])) : W p l e room_1 s m args below meth c H locs 84 3429 Q (F0 m 411 ls []) := by
  obtain ⟨hx, hb, hml, hown, hts, hr, hlocks, hC⟩ := id C0
  have hin1 : vp_in (nI i + (1 : Int32)) L := by rw [show (nI i + (1 : Int32)) = nI (i + 1) from nI_add i 1]; exact vp_in_nI (by omega) (by omega)
  obtain ⟨r, hc, hm⟩ := op_count σ hI (xs ((nI i) + (1 : Int32)).toNatClampNeg)
  have hI2 := hI
  refine lv_aload_n hx hb dL_law_411 rfl (lv_at hl 1 rfl) ?_
  refine lv_aload_n hx hb dL_law_412 rfl (lv_at hl 0 rfl) ?_
  refine lv_iload_n hx hb dL_law_413 rfl (lv_at hl 3 rfl) ?_
  refine lv_iconst (v := 1) hx hb dL_law_414 (by decide) ?_
  refine lv_iadd hx hb dL_law_415 ?_
  refine va_sld hx hb hXs hbl hbA hS hin1 dL_law_416 ?_
  refine gv_ri (gv_runV (n := 1) (rest := []) C0 (mX10_count l X σ (xs ((nI i) + (1 : Int32)).toNatClampNeg) hc) gL_law_X10_count rfl ⟨rfl, rfl⟩ (by decide +kernel) ⟨by decide, by decide⟩ gk_0.1 (by decide) rfl hP hS rfl hl.1 rfl (Nat.le_of_ble_eq_true rfl) dL_law_417 ⟨by decide, by decide⟩) hS (fun H locs hP hS => ?_)
  refine lv_aload_n hx hb dL_law_420 rfl (lv_at hl 2 rfl) ?_
  refine lv_aload_n hx hb dL_law_421 rfl (lv_at hl 0 rfl) ?_
  refine lv_iload_n hx hb dL_law_422 rfl (lv_at hl 3 rfl) ?_
  refine lv_iconst (v := 1) hx hb dL_law_423 (by decide) ?_
  refine lv_iadd hx hb dL_law_424 ?_
  refine va_sld hx hb hXs hbl hbA hS hin1 dL_law_425 ?_
  refine gv_ri (gv_runV (n := 1) (rest := [.int r]) C0 (mX11_count l X σ (xs ((nI i) + (1 : Int32)).toNatClampNeg) hm) gL_law_X11_count rfl ⟨rfl, rfl⟩ (by decide +kernel) ⟨by decide, by decide⟩ gk_63.1 (by decide) rfl hP hS rfl hl.1 rfl (Nat.le_of_ble_eq_true rfl) dL_law_426 ⟨by decide, by decide⟩) hS (fun H locs hP hS => ?_)
  refine lv_icmp_eq (tgt := 1280) hx hb dL_law_429 (by decide) (fun hc => ?_) (fun hc => absurd rfl hc)
  exact kk σ H locs ls hI2 hP hS hl
set_option maxHeartbeats 4000000 in
set_option maxRecDepth 100000 in
theorem lw_c8 {p : Program} {l : Launch} {e : Env} {s : State} {m : MethodId} {args : Array Value} {below : List Frame} {meth : Method} {c : Code} {X : gw_X} {Q : State → Prop} {b L : Nat} {xs : Nat → Int32} (C0 : gm_At p s m args meth c X cL_law 4 RL wsL_law ret) (hXs : va_X b L xs s s.heap) (hbl : b < s.heap.size) (hbA : ¬ gw_A X b) (hL : L ≤ 3072) (i : Nat) (hi : i + 6 ≤ L) (σ : gs_S) (hI : inv σ) {H : Heap} {locs : List Loc} {ls : Array Slot} (hP : gw_P X σ H) (hS : va_S (gw_A X) s.heap H locs) (hl : lv_has ls 4 [(0, .ref b), (1, .ref (X.1 0)), (2, .ref (X.1 63)), (3, .int (nI i))]) (kk : ∀ (τ : gs_S) (H : Heap) (locs : List Loc) (ls : Array Slot), inv τ → gw_P X τ H → va_S (gw_A X) s.heap H locs → lv_has ls 4 [(0, .ref b), (1, .ref (X.1 0)), (2, .ref (X.1 63)), (3, .int (nI i))] → W p l e room_1 s m args below meth c H locs 84 3429 Q (F0 m 1280 ls [])) : W p l e room_1 s m args below meth c H locs 84 3429 Q (F0 m 434 ls []) := by
  obtain ⟨hx, hb, hml, hown, hts, hr, hlocks, hC⟩ := id C0
  have hin1 : vp_in (nI i + (1 : Int32)) L := by rw [show (nI i + (1 : Int32)) = nI (i + 1) from nI_add i 1]; exact vp_in_nI (by omega) (by omega)
  have hin2 : vp_in (nI i + (2 : Int32)) L := by rw [show (nI i + (2 : Int32)) = nI (i + 2) from nI_add i 2]; exact vp_in_nI (by omega) (by omega)
  have hin3 : vp_in (nI i + (3 : Int32)) L := by rw [show (nI i + (3 : Int32)) = nI (i + 3) from nI_add i 3]; exact vp_in_nI (by omega) (by omega)
  obtain ⟨r, σ1, σ2, hc, hm, hI2⟩ := op_sleigh σ hI (xs ((nI i) + (1 : Int32)).toNatClampNeg) (xs ((nI i) + (2 : Int32)).toNatClampNeg) (xs ((nI i) + (3 : Int32)).toNatClampNeg)
  refine lv_aload_n hx hb dL_law_434 rfl (lv_at hl 1 rfl) ?_
  refine lv_aload_n hx hb dL_law_435 rfl (lv_at hl 0 rfl) ?_
  refine lv_iload_n hx hb dL_law_436 rfl (lv_at hl 3 rfl) ?_
  refine lv_iconst (v := 1) hx hb dL_law_437 (by decide) ?_
  refine lv_iadd hx hb dL_law_438 ?_
  refine va_sld hx hb hXs hbl hbA hS hin1 dL_law_439 ?_
  refine lv_aload_n hx hb dL_law_440 rfl (lv_at hl 0 rfl) ?_
  refine lv_iload_n hx hb dL_law_441 rfl (lv_at hl 3 rfl) ?_
  refine lv_iconst (v := 2) hx hb dL_law_442 (by decide) ?_
  refine lv_iadd hx hb dL_law_443 ?_
  refine va_sld hx hb hXs hbl hbA hS hin2 dL_law_444 ?_
  refine lv_aload_n hx hb dL_law_445 rfl (lv_at hl 0 rfl) ?_
  refine lv_iload_n hx hb dL_law_446 rfl (lv_at hl 3 rfl) ?_
  refine lv_iconst (v := 3) hx hb dL_law_447 (by decide) ?_
  refine lv_iadd hx hb dL_law_448 ?_
  refine va_sld hx hb hXs hbl hbA hS hin3 dL_law_449 ?_
  refine gv_ri (gv_runV (n := 3) (rest := []) C0 (mX10_sleigh l X σ (xs ((nI i) + (1 : Int32)).toNatClampNeg) (xs ((nI i) + (2 : Int32)).toNatClampNeg) (xs ((nI i) + (3 : Int32)).toNatClampNeg) hc) gL_law_X10_sleigh rfl ⟨rfl, rfl⟩ (by decide +kernel) ⟨by decide, by decide⟩ gk_0.1 (by decide) rfl hP hS rfl hl.1 rfl (Nat.le_of_ble_eq_true rfl) dL_law_450 ⟨by decide, by decide⟩) hS (fun H locs hP hS => ?_)
  refine lv_aload_n hx hb dL_law_453 rfl (lv_at hl 2 rfl) ?_
  refine lv_aload_n hx hb dL_law_454 rfl (lv_at hl 0 rfl) ?_
  refine lv_iload_n hx hb dL_law_455 rfl (lv_at hl 3 rfl) ?_
  refine lv_iconst (v := 1) hx hb dL_law_456 (by decide) ?_
  refine lv_iadd hx hb dL_law_457 ?_
  refine va_sld hx hb hXs hbl hbA hS hin1 dL_law_458 ?_
  refine lv_aload_n hx hb dL_law_459 rfl (lv_at hl 0 rfl) ?_
  refine lv_iload_n hx hb dL_law_460 rfl (lv_at hl 3 rfl) ?_
  refine lv_iconst (v := 2) hx hb dL_law_461 (by decide) ?_
  refine lv_iadd hx hb dL_law_462 ?_
  refine va_sld hx hb hXs hbl hbA hS hin2 dL_law_463 ?_
  refine lv_aload_n hx hb dL_law_464 rfl (lv_at hl 0 rfl) ?_
  refine lv_iload_n hx hb dL_law_465 rfl (lv_at hl 3 rfl) ?_
  refine lv_iconst (v := 3) hx hb dL_law_466 (by decide) ?_
  refine lv_iadd hx hb dL_law_467 ?_
  refine va_sld hx hb hXs hbl hbA hS hin3 dL_law_468 ?_
  refine gv_ri (gv_runV (n := 3) (rest := [.int r]) C0 (mX11_sleigh l X σ1 (xs ((nI i) + (1 : Int32)).toNatClampNeg) (xs ((nI i) + (2 : Int32)).toNatClampNeg) (xs ((nI i) + (3 : Int32)).toNatClampNeg) hm) gL_law_X11_sleigh rfl ⟨rfl, rfl⟩ (by decide +kernel) ⟨by decide, by decide⟩ gk_63.1 (by decide) rfl hP hS rfl hl.1 rfl (Nat.le_of_ble_eq_true rfl) dL_law_469 ⟨by decide, by decide⟩) hS (fun H locs hP hS => ?_)
  refine lv_icmp_eq (tgt := 1280) hx hb dL_law_472 (by decide) (fun hc => ?_) (fun hc => absurd rfl hc)
  exact kk σ2 H locs ls hI2 hP hS hl
set_option maxHeartbeats 4000000 in
set_option maxRecDepth 100000 in
theorem lw_c9 {p : Program} {l : Launch} {e : Env} {s : State} {m : MethodId} {args : Array Value} {below : List Frame} {meth : Method} {c : Code} {X : gw_X} {Q : State → Prop} {b L : Nat} {xs : Nat → Int32} (C0 : gm_At p s m args meth c X cL_law 4 RL wsL_law ret) (hXs : va_X b L xs s s.heap) (hbl : b < s.heap.size) (hbA : ¬ gw_A X b) (hL : L ≤ 3072) (i : Nat) (hi : i + 6 ≤ L) (σ : gs_S) (hI : inv σ) {H : Heap} {locs : List Loc} {ls : Array Slot} (hP : gw_P X σ H) (hS : va_S (gw_A X) s.heap H locs) (hl : lv_has ls 4 [(0, .ref b), (1, .ref (X.1 0)), (2, .ref (X.1 63)), (3, .int (nI i))]) (kk : ∀ (τ : gs_S) (H : Heap) (locs : List Loc) (ls : Array Slot), inv τ → gw_P X τ H → va_S (gw_A X) s.heap H locs → lv_has ls 4 [(0, .ref b), (1, .ref (X.1 0)), (2, .ref (X.1 63)), (3, .int (nI i))] → W p l e room_1 s m args below meth c H locs 84 3429 Q (F0 m 1280 ls [])) : W p l e room_1 s m args below meth c H locs 84 3429 Q (F0 m 477 ls []) := by
  obtain ⟨hx, hb, hml, hown, hts, hr, hlocks, hC⟩ := id C0
  obtain ⟨r, σ1, σ2, hc, hm, hI2⟩ := op_home σ hI 
  refine lv_aload_n hx hb dL_law_477 rfl (lv_at hl 1 rfl) ?_
  refine gv_ri (gv_runV (n := 0) (rest := []) C0 (mX10_home l X σ  hc) gL_law_X10_home rfl ⟨rfl, rfl⟩ (by decide +kernel) ⟨by decide, by decide⟩ gk_0.1 (by decide) rfl hP hS rfl hl.1 rfl (Nat.le_of_ble_eq_true rfl) dL_law_478 ⟨by decide, by decide⟩) hS (fun H locs hP hS => ?_)
  refine lv_aload_n hx hb dL_law_481 rfl (lv_at hl 2 rfl) ?_
  refine gv_ri (gv_runV (n := 0) (rest := [.int r]) C0 (mX11_home l X σ1  hm) gL_law_X11_home rfl ⟨rfl, rfl⟩ (by decide +kernel) ⟨by decide, by decide⟩ gk_63.1 (by decide) rfl hP hS rfl hl.1 rfl (Nat.le_of_ble_eq_true rfl) dL_law_482 ⟨by decide, by decide⟩) hS (fun H locs hP hS => ?_)
  refine lv_icmp_eq (tgt := 1280) hx hb dL_law_485 (by decide) (fun hc => ?_) (fun hc => absurd rfl hc)
  exact kk σ2 H locs ls hI2 hP hS hl
set_option maxHeartbeats 4000000 in
set_option maxRecDepth 100000 in
theorem lw_c10 {p : Program} {l : Launch} {e : Env} {s : State} {m : MethodId} {args : Array Value} {below : List Frame} {meth : Method} {c : Code} {X : gw_X} {Q : State → Prop} {b L : Nat} {xs : Nat → Int32} (C0 : gm_At p s m args meth c X cL_law 4 RL wsL_law ret) (hXs : va_X b L xs s s.heap) (hbl : b < s.heap.size) (hbA : ¬ gw_A X b) (hL : L ≤ 3072) (i : Nat) (hi : i + 6 ≤ L) (σ : gs_S) (hI : inv σ) {H : Heap} {locs : List Loc} {ls : Array Slot} (hP : gw_P X σ H) (hS : va_S (gw_A X) s.heap H locs) (hl : lv_has ls 4 [(0, .ref b), (1, .ref (X.1 0)), (2, .ref (X.1 63)), (3, .int (nI i))]) (kk : ∀ (τ : gs_S) (H : Heap) (locs : List Loc) (ls : Array Slot), inv τ → gw_P X τ H → va_S (gw_A X) s.heap H locs → lv_has ls 4 [(0, .ref b), (1, .ref (X.1 0)), (2, .ref (X.1 63)), (3, .int (nI i))] → W p l e room_1 s m args below meth c H locs 84 3429 Q (F0 m 1280 ls [])) : W p l e room_1 s m args below meth c H locs 84 3429 Q (F0 m 490 ls []) := by
  obtain ⟨hx, hb, hml, hown, hts, hr, hlocks, hC⟩ := id C0
  have hin1 : vp_in (nI i + (1 : Int32)) L := by rw [show (nI i + (1 : Int32)) = nI (i + 1) from nI_add i 1]; exact vp_in_nI (by omega) (by omega)
  obtain ⟨r, σ1, σ2, hc, hm, hI2⟩ := op_step σ hI (xs ((nI i) + (1 : Int32)).toNatClampNeg)
  refine lv_aload_n hx hb dL_law_490 rfl (lv_at hl 1 rfl) ?_
  refine lv_aload_n hx hb dL_law_491 rfl (lv_at hl 0 rfl) ?_
  refine lv_iload_n hx hb dL_law_492 rfl (lv_at hl 3 rfl) ?_
  refine lv_iconst (v := 1) hx hb dL_law_493 (by decide) ?_
  refine lv_iadd hx hb dL_law_494 ?_
  refine va_sld hx hb hXs hbl hbA hS hin1 dL_law_495 ?_
  refine gv_ri (gv_runV (n := 1) (rest := []) C0 (mX10_step l X σ (xs ((nI i) + (1 : Int32)).toNatClampNeg) hc) gL_law_X10_step rfl ⟨rfl, rfl⟩ (by decide +kernel) ⟨by decide, by decide⟩ gk_0.1 (by decide) rfl hP hS rfl hl.1 rfl (Nat.le_of_ble_eq_true rfl) dL_law_496 ⟨by decide, by decide⟩) hS (fun H locs hP hS => ?_)
  refine lv_aload_n hx hb dL_law_499 rfl (lv_at hl 2 rfl) ?_
  refine lv_aload_n hx hb dL_law_500 rfl (lv_at hl 0 rfl) ?_
  refine lv_iload_n hx hb dL_law_501 rfl (lv_at hl 3 rfl) ?_
  refine lv_iconst (v := 1) hx hb dL_law_502 (by decide) ?_
  refine lv_iadd hx hb dL_law_503 ?_
  refine va_sld hx hb hXs hbl hbA hS hin1 dL_law_504 ?_
  refine gv_ri (gv_runV (n := 1) (rest := [.int r]) C0 (mX11_step l X σ1 (xs ((nI i) + (1 : Int32)).toNatClampNeg) hm) gL_law_X11_step rfl ⟨rfl, rfl⟩ (by decide +kernel) ⟨by decide, by decide⟩ gk_63.1 (by decide) rfl hP hS rfl hl.1 rfl (Nat.le_of_ble_eq_true rfl) dL_law_505 ⟨by decide, by decide⟩) hS (fun H locs hP hS => ?_)
  refine lv_icmp_eq (tgt := 1280) hx hb dL_law_508 (by decide) (fun hc => ?_) (fun hc => absurd rfl hc)
  exact kk σ2 H locs ls hI2 hP hS hl
set_option maxHeartbeats 4000000 in
set_option maxRecDepth 100000 in
theorem lw_c11 {p : Program} {l : Launch} {e : Env} {s : State} {m : MethodId} {args : Array Value} {below : List Frame} {meth : Method} {c : Code} {X : gw_X} {Q : State → Prop} {b L : Nat} {xs : Nat → Int32} (C0 : gm_At p s m args meth c X cL_law 4 RL wsL_law ret) (hXs : va_X b L xs s s.heap) (hbl : b < s.heap.size) (hbA : ¬ gw_A X b) (hL : L ≤ 3072) (i : Nat) (hi : i + 6 ≤ L) (σ : gs_S) (hI : inv σ) {H : Heap} {locs : List Loc} {ls : Array Slot} (hP : gw_P X σ H) (hS : va_S (gw_A X) s.heap H locs) (hl : lv_has ls 4 [(0, .ref b), (1, .ref (X.1 0)), (2, .ref (X.1 63)), (3, .int (nI i))]) (kk : ∀ (τ : gs_S) (H : Heap) (locs : List Loc) (ls : Array Slot), inv τ → gw_P X τ H → va_S (gw_A X) s.heap H locs → lv_has ls 4 [(0, .ref b), (1, .ref (X.1 0)), (2, .ref (X.1 63)), (3, .int (nI i))] → W p l e room_1 s m args below meth c H locs 84 3429 Q (F0 m 1280 ls [])) : W p l e room_1 s m args below meth c H locs 84 3429 Q (F0 m 513 ls []) := by
  obtain ⟨hx, hb, hml, hown, hts, hr, hlocks, hC⟩ := id C0
  have hin1 : vp_in (nI i + (1 : Int32)) L := by rw [show (nI i + (1 : Int32)) = nI (i + 1) from nI_add i 1]; exact vp_in_nI (by omega) (by omega)
  obtain ⟨r, σ1, σ2, hc, hm, hI2⟩ := op_back σ hI (xs ((nI i) + (1 : Int32)).toNatClampNeg)
  refine lv_aload_n hx hb dL_law_513 rfl (lv_at hl 1 rfl) ?_
  refine lv_aload_n hx hb dL_law_514 rfl (lv_at hl 0 rfl) ?_
  refine lv_iload_n hx hb dL_law_515 rfl (lv_at hl 3 rfl) ?_
  refine lv_iconst (v := 1) hx hb dL_law_516 (by decide) ?_
  refine lv_iadd hx hb dL_law_517 ?_
  refine va_sld hx hb hXs hbl hbA hS hin1 dL_law_518 ?_
  refine gv_ri (gv_runV (n := 1) (rest := []) C0 (mX10_back l X σ (xs ((nI i) + (1 : Int32)).toNatClampNeg) hc) gL_law_X10_back rfl ⟨rfl, rfl⟩ (by decide +kernel) ⟨by decide, by decide⟩ gk_0.1 (by decide) rfl hP hS rfl hl.1 rfl (Nat.le_of_ble_eq_true rfl) dL_law_519 ⟨by decide, by decide⟩) hS (fun H locs hP hS => ?_)
  refine lv_aload_n hx hb dL_law_522 rfl (lv_at hl 2 rfl) ?_
  refine lv_aload_n hx hb dL_law_523 rfl (lv_at hl 0 rfl) ?_
  refine lv_iload_n hx hb dL_law_524 rfl (lv_at hl 3 rfl) ?_
  refine lv_iconst (v := 1) hx hb dL_law_525 (by decide) ?_
  refine lv_iadd hx hb dL_law_526 ?_
  refine va_sld hx hb hXs hbl hbA hS hin1 dL_law_527 ?_
  refine gv_ri (gv_runV (n := 1) (rest := [.int r]) C0 (mX11_back l X σ1 (xs ((nI i) + (1 : Int32)).toNatClampNeg) hm) gL_law_X11_back rfl ⟨rfl, rfl⟩ (by decide +kernel) ⟨by decide, by decide⟩ gk_63.1 (by decide) rfl hP hS rfl hl.1 rfl (Nat.le_of_ble_eq_true rfl) dL_law_528 ⟨by decide, by decide⟩) hS (fun H locs hP hS => ?_)
  refine lv_icmp_eq (tgt := 1280) hx hb dL_law_531 (by decide) (fun hc => ?_) (fun hc => absurd rfl hc)
  exact kk σ2 H locs ls hI2 hP hS hl
set_option maxHeartbeats 4000000 in
set_option maxRecDepth 100000 in
theorem lw_c12 {p : Program} {l : Launch} {e : Env} {s : State} {m : MethodId} {args : Array Value} {below : List Frame} {meth : Method} {c : Code} {X : gw_X} {Q : State → Prop} {b L : Nat} {xs : Nat → Int32} (C0 : gm_At p s m args meth c X cL_law 4 RL wsL_law ret) (hXs : va_X b L xs s s.heap) (hbl : b < s.heap.size) (hbA : ¬ gw_A X b) (hL : L ≤ 3072) (i : Nat) (hi : i + 6 ≤ L) (σ : gs_S) (hI : inv σ) {H : Heap} {locs : List Loc} {ls : Array Slot} (hP : gw_P X σ H) (hS : va_S (gw_A X) s.heap H locs) (hl : lv_has ls 4 [(0, .ref b), (1, .ref (X.1 0)), (2, .ref (X.1 63)), (3, .int (nI i))]) (kk : ∀ (τ : gs_S) (H : Heap) (locs : List Loc) (ls : Array Slot), inv τ → gw_P X τ H → va_S (gw_A X) s.heap H locs → lv_has ls 4 [(0, .ref b), (1, .ref (X.1 0)), (2, .ref (X.1 63)), (3, .int (nI i))] → W p l e room_1 s m args below meth c H locs 84 3429 Q (F0 m 1280 ls [])) : W p l e room_1 s m args below meth c H locs 84 3429 Q (F0 m 536 ls []) := by
  obtain ⟨hx, hb, hml, hown, hts, hr, hlocks, hC⟩ := id C0
  have hin1 : vp_in (nI i + (1 : Int32)) L := by rw [show (nI i + (1 : Int32)) = nI (i + 1) from nI_add i 1]; exact vp_in_nI (by omega) (by omega)
  have hin2 : vp_in (nI i + (2 : Int32)) L := by rw [show (nI i + (2 : Int32)) = nI (i + 2) from nI_add i 2]; exact vp_in_nI (by omega) (by omega)
  obtain ⟨r, hc, hm⟩ := op_need σ hI (xs ((nI i) + (1 : Int32)).toNatClampNeg) (xs ((nI i) + (2 : Int32)).toNatClampNeg)
  have hI2 := hI
  refine lv_aload_n hx hb dL_law_536 rfl (lv_at hl 1 rfl) ?_
  refine lv_aload_n hx hb dL_law_537 rfl (lv_at hl 0 rfl) ?_
  refine lv_iload_n hx hb dL_law_538 rfl (lv_at hl 3 rfl) ?_
  refine lv_iconst (v := 1) hx hb dL_law_539 (by decide) ?_
  refine lv_iadd hx hb dL_law_540 ?_
  refine va_sld hx hb hXs hbl hbA hS hin1 dL_law_541 ?_
  refine lv_aload_n hx hb dL_law_542 rfl (lv_at hl 0 rfl) ?_
  refine lv_iload_n hx hb dL_law_543 rfl (lv_at hl 3 rfl) ?_
  refine lv_iconst (v := 2) hx hb dL_law_544 (by decide) ?_
  refine lv_iadd hx hb dL_law_545 ?_
  refine va_sld hx hb hXs hbl hbA hS hin2 dL_law_546 ?_
  refine gv_ri (gv_runV (n := 2) (rest := []) C0 (mX10_need l X σ (xs ((nI i) + (1 : Int32)).toNatClampNeg) (xs ((nI i) + (2 : Int32)).toNatClampNeg) hc) gL_law_X10_need rfl ⟨rfl, rfl⟩ (by decide +kernel) ⟨by decide, by decide⟩ gk_0.1 (by decide) rfl hP hS rfl hl.1 rfl (Nat.le_of_ble_eq_true rfl) dL_law_547 ⟨by decide, by decide⟩) hS (fun H locs hP hS => ?_)
  refine lv_aload_n hx hb dL_law_550 rfl (lv_at hl 2 rfl) ?_
  refine lv_aload_n hx hb dL_law_551 rfl (lv_at hl 0 rfl) ?_
  refine lv_iload_n hx hb dL_law_552 rfl (lv_at hl 3 rfl) ?_
  refine lv_iconst (v := 1) hx hb dL_law_553 (by decide) ?_
  refine lv_iadd hx hb dL_law_554 ?_
  refine va_sld hx hb hXs hbl hbA hS hin1 dL_law_555 ?_
  refine lv_aload_n hx hb dL_law_556 rfl (lv_at hl 0 rfl) ?_
  refine lv_iload_n hx hb dL_law_557 rfl (lv_at hl 3 rfl) ?_
  refine lv_iconst (v := 2) hx hb dL_law_558 (by decide) ?_
  refine lv_iadd hx hb dL_law_559 ?_
  refine va_sld hx hb hXs hbl hbA hS hin2 dL_law_560 ?_
  refine gv_ri (gv_runV (n := 2) (rest := [.int r]) C0 (mX11_need l X σ (xs ((nI i) + (1 : Int32)).toNatClampNeg) (xs ((nI i) + (2 : Int32)).toNatClampNeg) hm) gL_law_X11_need rfl ⟨rfl, rfl⟩ (by decide +kernel) ⟨by decide, by decide⟩ gk_63.1 (by decide) rfl hP hS rfl hl.1 rfl (Nat.le_of_ble_eq_true rfl) dL_law_561 ⟨by decide, by decide⟩) hS (fun H locs hP hS => ?_)
  refine lv_icmp_eq (tgt := 1280) hx hb dL_law_564 (by decide) (fun hc => ?_) (fun hc => absurd rfl hc)
  exact kk σ H locs ls hI2 hP hS hl
set_option maxHeartbeats 4000000 in
set_option maxRecDepth 100000 in
theorem lw_c13 {p : Program} {l : Launch} {e : Env} {s : State} {m : MethodId} {args : Array Value} {below : List Frame} {meth : Method} {c : Code} {X : gw_X} {Q : State → Prop} {b L : Nat} {xs : Nat → Int32} (C0 : gm_At p s m args meth c X cL_law 4 RL wsL_law ret) (hXs : va_X b L xs s s.heap) (hbl : b < s.heap.size) (hbA : ¬ gw_A X b) (hL : L ≤ 3072) (i : Nat) (hi : i + 6 ≤ L) (σ : gs_S) (hI : inv σ) {H : Heap} {locs : List Loc} {ls : Array Slot} (hP : gw_P X σ H) (hS : va_S (gw_A X) s.heap H locs) (hl : lv_has ls 4 [(0, .ref b), (1, .ref (X.1 0)), (2, .ref (X.1 63)), (3, .int (nI i))]) (kk : ∀ (τ : gs_S) (H : Heap) (locs : List Loc) (ls : Array Slot), inv τ → gw_P X τ H → va_S (gw_A X) s.heap H locs → lv_has ls 4 [(0, .ref b), (1, .ref (X.1 0)), (2, .ref (X.1 63)), (3, .int (nI i))] → W p l e room_1 s m args below meth c H locs 84 3429 Q (F0 m 1280 ls [])) : W p l e room_1 s m args below meth c H locs 84 3429 Q (F0 m 569 ls []) := by
  obtain ⟨hx, hb, hml, hown, hts, hr, hlocks, hC⟩ := id C0
  have hin1 : vp_in (nI i + (1 : Int32)) L := by rw [show (nI i + (1 : Int32)) = nI (i + 1) from nI_add i 1]; exact vp_in_nI (by omega) (by omega)
  obtain ⟨r, σ2, hc, hm, hI2⟩ := op_breaks σ hI (xs ((nI i) + (1 : Int32)).toNatClampNeg)
  refine lv_aload_n hx hb dL_law_569 rfl (lv_at hl 1 rfl) ?_
  refine lv_aload_n hx hb dL_law_570 rfl (lv_at hl 0 rfl) ?_
  refine lv_iload_n hx hb dL_law_571 rfl (lv_at hl 3 rfl) ?_
  refine lv_iconst (v := 1) hx hb dL_law_572 (by decide) ?_
  refine lv_iadd hx hb dL_law_573 ?_
  refine va_sld hx hb hXs hbl hbA hS hin1 dL_law_574 ?_
  refine gv_ri (gv_runV (n := 1) (rest := []) C0 (mX10_breaks l X σ (xs ((nI i) + (1 : Int32)).toNatClampNeg) hc) gL_law_X10_breaks rfl ⟨rfl, rfl⟩ (by decide +kernel) ⟨by decide, by decide⟩ gk_0.1 (by decide) rfl hP hS rfl hl.1 rfl (Nat.le_of_ble_eq_true rfl) dL_law_575 ⟨by decide, by decide⟩) hS (fun H locs hP hS => ?_)
  refine lv_aload_n hx hb dL_law_578 rfl (lv_at hl 2 rfl) ?_
  refine lv_aload_n hx hb dL_law_579 rfl (lv_at hl 0 rfl) ?_
  refine lv_iload_n hx hb dL_law_580 rfl (lv_at hl 3 rfl) ?_
  refine lv_iconst (v := 1) hx hb dL_law_581 (by decide) ?_
  refine lv_iadd hx hb dL_law_582 ?_
  refine va_sld hx hb hXs hbl hbA hS hin1 dL_law_583 ?_
  refine gv_ri (gv_runV (n := 1) (rest := [.int r]) C0 (mX11_breaks l X σ (xs ((nI i) + (1 : Int32)).toNatClampNeg) hm) gL_law_X11_breaks rfl ⟨rfl, rfl⟩ (by decide +kernel) ⟨by decide, by decide⟩ gk_63.1 (by decide) rfl hP hS rfl hl.1 rfl (Nat.le_of_ble_eq_true rfl) dL_law_584 ⟨by decide, by decide⟩) hS (fun H locs hP hS => ?_)
  refine lv_icmp_eq (tgt := 1280) hx hb dL_law_587 (by decide) (fun hc => ?_) (fun hc => absurd rfl hc)
  exact kk σ2 H locs ls hI2 hP hS hl
set_option maxHeartbeats 4000000 in
set_option maxRecDepth 100000 in
theorem lw_c14 {p : Program} {l : Launch} {e : Env} {s : State} {m : MethodId} {args : Array Value} {below : List Frame} {meth : Method} {c : Code} {X : gw_X} {Q : State → Prop} {b L : Nat} {xs : Nat → Int32} (C0 : gm_At p s m args meth c X cL_law 4 RL wsL_law ret) (hXs : va_X b L xs s s.heap) (hbl : b < s.heap.size) (hbA : ¬ gw_A X b) (hL : L ≤ 3072) (i : Nat) (hi : i + 6 ≤ L) (σ : gs_S) (hI : inv σ) {H : Heap} {locs : List Loc} {ls : Array Slot} (hP : gw_P X σ H) (hS : va_S (gw_A X) s.heap H locs) (hl : lv_has ls 4 [(0, .ref b), (1, .ref (X.1 0)), (2, .ref (X.1 63)), (3, .int (nI i))]) (kk : ∀ (τ : gs_S) (H : Heap) (locs : List Loc) (ls : Array Slot), inv τ → gw_P X τ H → va_S (gw_A X) s.heap H locs → lv_has ls 4 [(0, .ref b), (1, .ref (X.1 0)), (2, .ref (X.1 63)), (3, .int (nI i))] → W p l e room_1 s m args below meth c H locs 84 3429 Q (F0 m 1280 ls [])) : W p l e room_1 s m args below meth c H locs 84 3429 Q (F0 m 592 ls []) := by
  obtain ⟨hx, hb, hml, hown, hts, hr, hlocks, hC⟩ := id C0
  have hin1 : vp_in (nI i + (1 : Int32)) L := by rw [show (nI i + (1 : Int32)) = nI (i + 1) from nI_add i 1]; exact vp_in_nI (by omega) (by omega)
  obtain ⟨r, σ2, hc, hm, hI2⟩ := op_cracks σ hI (xs ((nI i) + (1 : Int32)).toNatClampNeg)
  refine lv_aload_n hx hb dL_law_592 rfl (lv_at hl 1 rfl) ?_
  refine lv_aload_n hx hb dL_law_593 rfl (lv_at hl 0 rfl) ?_
  refine lv_iload_n hx hb dL_law_594 rfl (lv_at hl 3 rfl) ?_
  refine lv_iconst (v := 1) hx hb dL_law_595 (by decide) ?_
  refine lv_iadd hx hb dL_law_596 ?_
  refine va_sld hx hb hXs hbl hbA hS hin1 dL_law_597 ?_
  refine gv_rl (gv_runV (n := 1) (rest := []) C0 (mX10_cracks l X σ (xs ((nI i) + (1 : Int32)).toNatClampNeg) hc) gL_law_X10_cracks rfl ⟨rfl, rfl⟩ (by decide +kernel) ⟨by decide, by decide⟩ gk_0.1 (by decide) rfl hP hS rfl hl.1 rfl (Nat.le_of_ble_eq_true rfl) dL_law_598 ⟨by decide, by decide⟩) hS (fun H locs hP hS => ?_)
  refine lv_aload_n hx hb dL_law_601 rfl (lv_at hl 2 rfl) ?_
  refine lv_aload_n hx hb dL_law_602 rfl (lv_at hl 0 rfl) ?_
  refine lv_iload_n hx hb dL_law_603 rfl (lv_at hl 3 rfl) ?_
  refine lv_iconst (v := 1) hx hb dL_law_604 (by decide) ?_
  refine lv_iadd hx hb dL_law_605 ?_
  refine va_sld hx hb hXs hbl hbA hS hin1 dL_law_606 ?_
  refine gv_rl (gv_runV (n := 1) (rest := [.long r]) C0 (mX11_cracks l X σ (xs ((nI i) + (1 : Int32)).toNatClampNeg) hm) gL_law_X11_cracks rfl ⟨rfl, rfl⟩ (by decide +kernel) ⟨by decide, by decide⟩ gk_63.1 (by decide) rfl hP hS rfl hl.1 rfl (Nat.le_of_ble_eq_true rfl) dL_law_607 ⟨by decide, by decide⟩) hS (fun H locs hP hS => ?_)
  refine W.lcmp hx hb dL_law_610 ?_
  refine lv_if_eq (tgt := 1280) hx hb dL_law_611 (by decide) (fun hc => ?_) (fun hc => absurd (lw_cmpr r) hc)
  exact kk σ2 H locs ls hI2 hP hS hl
set_option maxHeartbeats 4000000 in
set_option maxRecDepth 100000 in
theorem lw_c15 {p : Program} {l : Launch} {e : Env} {s : State} {m : MethodId} {args : Array Value} {below : List Frame} {meth : Method} {c : Code} {X : gw_X} {Q : State → Prop} {b L : Nat} {xs : Nat → Int32} (C0 : gm_At p s m args meth c X cL_law 4 RL wsL_law ret) (hXs : va_X b L xs s s.heap) (hbl : b < s.heap.size) (hbA : ¬ gw_A X b) (hL : L ≤ 3072) (i : Nat) (hi : i + 6 ≤ L) (σ : gs_S) (hI : inv σ) {H : Heap} {locs : List Loc} {ls : Array Slot} (hP : gw_P X σ H) (hS : va_S (gw_A X) s.heap H locs) (hl : lv_has ls 4 [(0, .ref b), (1, .ref (X.1 0)), (2, .ref (X.1 63)), (3, .int (nI i))]) (kk : ∀ (τ : gs_S) (H : Heap) (locs : List Loc) (ls : Array Slot), inv τ → gw_P X τ H → va_S (gw_A X) s.heap H locs → lv_has ls 4 [(0, .ref b), (1, .ref (X.1 0)), (2, .ref (X.1 63)), (3, .int (nI i))] → W p l e room_1 s m args below meth c H locs 84 3429 Q (F0 m 1280 ls [])) : W p l e room_1 s m args below meth c H locs 84 3429 Q (F0 m 616 ls []) := by
  obtain ⟨hx, hb, hml, hown, hts, hr, hlocks, hC⟩ := id C0
  have hin1 : vp_in (nI i + (1 : Int32)) L := by rw [show (nI i + (1 : Int32)) = nI (i + 1) from nI_add i 1]; exact vp_in_nI (by omega) (by omega)
  obtain ⟨r, σ1, σ2, hc, hm, hI2⟩ := op_crack σ hI (xs ((nI i) + (1 : Int32)).toNatClampNeg)
  refine lv_aload_n hx hb dL_law_616 rfl (lv_at hl 1 rfl) ?_
  refine lv_aload_n hx hb dL_law_617 rfl (lv_at hl 0 rfl) ?_
  refine lv_iload_n hx hb dL_law_618 rfl (lv_at hl 3 rfl) ?_
  refine lv_iconst (v := 1) hx hb dL_law_619 (by decide) ?_
  refine lv_iadd hx hb dL_law_620 ?_
  refine va_sld hx hb hXs hbl hbA hS hin1 dL_law_621 ?_
  refine gv_ri (gv_runV (n := 1) (rest := []) C0 (mX10_crack l X σ (xs ((nI i) + (1 : Int32)).toNatClampNeg) hc) gL_law_X10_crack rfl ⟨rfl, rfl⟩ (by decide +kernel) ⟨by decide, by decide⟩ gk_0.1 (by decide) rfl hP hS rfl hl.1 rfl (Nat.le_of_ble_eq_true rfl) dL_law_622 ⟨by decide, by decide⟩) hS (fun H locs hP hS => ?_)
  refine lv_aload_n hx hb dL_law_625 rfl (lv_at hl 2 rfl) ?_
  refine lv_aload_n hx hb dL_law_626 rfl (lv_at hl 0 rfl) ?_
  refine lv_iload_n hx hb dL_law_627 rfl (lv_at hl 3 rfl) ?_
  refine lv_iconst (v := 1) hx hb dL_law_628 (by decide) ?_
  refine lv_iadd hx hb dL_law_629 ?_
  refine va_sld hx hb hXs hbl hbA hS hin1 dL_law_630 ?_
  refine gv_ri (gv_runV (n := 1) (rest := [.int r]) C0 (mX11_crack l X σ1 (xs ((nI i) + (1 : Int32)).toNatClampNeg) hm) gL_law_X11_crack rfl ⟨rfl, rfl⟩ (by decide +kernel) ⟨by decide, by decide⟩ gk_63.1 (by decide) rfl hP hS rfl hl.1 rfl (Nat.le_of_ble_eq_true rfl) dL_law_631 ⟨by decide, by decide⟩) hS (fun H locs hP hS => ?_)
  refine lv_icmp_eq (tgt := 1280) hx hb dL_law_634 (by decide) (fun hc => ?_) (fun hc => absurd rfl hc)
  exact kk σ2 H locs ls hI2 hP hS hl
set_option maxHeartbeats 4000000 in
set_option maxRecDepth 100000 in
theorem lw_c16 {p : Program} {l : Launch} {e : Env} {s : State} {m : MethodId} {args : Array Value} {below : List Frame} {meth : Method} {c : Code} {X : gw_X} {Q : State → Prop} {b L : Nat} {xs : Nat → Int32} (C0 : gm_At p s m args meth c X cL_law 4 RL wsL_law ret) (hXs : va_X b L xs s s.heap) (hbl : b < s.heap.size) (hbA : ¬ gw_A X b) (hL : L ≤ 3072) (i : Nat) (hi : i + 6 ≤ L) (σ : gs_S) (hI : inv σ) {H : Heap} {locs : List Loc} {ls : Array Slot} (hP : gw_P X σ H) (hS : va_S (gw_A X) s.heap H locs) (hl : lv_has ls 4 [(0, .ref b), (1, .ref (X.1 0)), (2, .ref (X.1 63)), (3, .int (nI i))]) (kk : ∀ (τ : gs_S) (H : Heap) (locs : List Loc) (ls : Array Slot), inv τ → gw_P X τ H → va_S (gw_A X) s.heap H locs → lv_has ls 4 [(0, .ref b), (1, .ref (X.1 0)), (2, .ref (X.1 63)), (3, .int (nI i))] → W p l e room_1 s m args below meth c H locs 84 3429 Q (F0 m 1280 ls [])) : W p l e room_1 s m args below meth c H locs 84 3429 Q (F0 m 639 ls []) := by
  obtain ⟨hx, hb, hml, hown, hts, hr, hlocks, hC⟩ := id C0
  have hin1 : vp_in (nI i + (1 : Int32)) L := by rw [show (nI i + (1 : Int32)) = nI (i + 1) from nI_add i 1]; exact vp_in_nI (by omega) (by omega)
  have hin2 : vp_in (nI i + (2 : Int32)) L := by rw [show (nI i + (2 : Int32)) = nI (i + 2) from nI_add i 2]; exact vp_in_nI (by omega) (by omega)
  have hin3 : vp_in (nI i + (3 : Int32)) L := by rw [show (nI i + (3 : Int32)) = nI (i + 3) from nI_add i 3]; exact vp_in_nI (by omega) (by omega)
  have hin4 : vp_in (nI i + (4 : Int32)) L := by rw [show (nI i + (4 : Int32)) = nI (i + 4) from nI_add i 4]; exact vp_in_nI (by omega) (by omega)
  have hin5 : vp_in (nI i + (5 : Int32)) L := by rw [show (nI i + (5 : Int32)) = nI (i + 5) from nI_add i 5]; exact vp_in_nI (by omega) (by omega)
  obtain ⟨r, σ1, σ2, hc, hm, hI2⟩ := op_road σ hI (xs ((nI i) + (1 : Int32)).toNatClampNeg) (xs ((nI i) + (2 : Int32)).toNatClampNeg) (xs ((nI i) + (3 : Int32)).toNatClampNeg) (xs ((nI i) + (4 : Int32)).toNatClampNeg) (xs ((nI i) + (5 : Int32)).toNatClampNeg)
  refine lv_aload_n hx hb dL_law_639 rfl (lv_at hl 1 rfl) ?_
  refine lv_aload_n hx hb dL_law_640 rfl (lv_at hl 0 rfl) ?_
  refine lv_iload_n hx hb dL_law_641 rfl (lv_at hl 3 rfl) ?_
  refine lv_iconst (v := 1) hx hb dL_law_642 (by decide) ?_
  refine lv_iadd hx hb dL_law_643 ?_
  refine va_sld hx hb hXs hbl hbA hS hin1 dL_law_644 ?_
  refine lv_aload_n hx hb dL_law_645 rfl (lv_at hl 0 rfl) ?_
  refine lv_iload_n hx hb dL_law_646 rfl (lv_at hl 3 rfl) ?_
  refine lv_iconst (v := 2) hx hb dL_law_647 (by decide) ?_
  refine lv_iadd hx hb dL_law_648 ?_
  refine va_sld hx hb hXs hbl hbA hS hin2 dL_law_649 ?_
  refine lv_aload_n hx hb dL_law_650 rfl (lv_at hl 0 rfl) ?_
  refine lv_iload_n hx hb dL_law_651 rfl (lv_at hl 3 rfl) ?_
  refine lv_iconst (v := 3) hx hb dL_law_652 (by decide) ?_
  refine lv_iadd hx hb dL_law_653 ?_
  refine va_sld hx hb hXs hbl hbA hS hin3 dL_law_654 ?_
  refine lv_aload_n hx hb dL_law_655 rfl (lv_at hl 0 rfl) ?_
  refine lv_iload_n hx hb dL_law_656 rfl (lv_at hl 3 rfl) ?_
  refine lv_iconst (v := 4) hx hb dL_law_657 (by decide) ?_
  refine lv_iadd hx hb dL_law_658 ?_
  refine va_sld hx hb hXs hbl hbA hS hin4 dL_law_659 ?_
  refine lv_aload_n hx hb dL_law_660 rfl (lv_at hl 0 rfl) ?_
  refine lv_iload_n hx hb dL_law_661 rfl (lv_at hl 3 rfl) ?_
  refine lv_iconst (v := 5) hx hb dL_law_662 (by decide) ?_
  refine lv_iadd hx hb dL_law_663 ?_
  refine va_sld hx hb hXs hbl hbA hS hin5 dL_law_664 ?_
  refine gv_ri (gv_runV (n := 5) (rest := []) C0 (mX10_road l X σ (xs ((nI i) + (1 : Int32)).toNatClampNeg) (xs ((nI i) + (2 : Int32)).toNatClampNeg) (xs ((nI i) + (3 : Int32)).toNatClampNeg) (xs ((nI i) + (4 : Int32)).toNatClampNeg) (xs ((nI i) + (5 : Int32)).toNatClampNeg) hc) gL_law_X10_road rfl ⟨rfl, rfl⟩ (by decide +kernel) ⟨by decide, by decide⟩ gk_0.1 (by decide) rfl hP hS rfl hl.1 rfl (Nat.le_of_ble_eq_true rfl) dL_law_665 ⟨by decide, by decide⟩) hS (fun H locs hP hS => ?_)
  refine lv_aload_n hx hb dL_law_668 rfl (lv_at hl 2 rfl) ?_
  refine lv_aload_n hx hb dL_law_669 rfl (lv_at hl 0 rfl) ?_
  refine lv_iload_n hx hb dL_law_670 rfl (lv_at hl 3 rfl) ?_
  refine lv_iconst (v := 1) hx hb dL_law_671 (by decide) ?_
  refine lv_iadd hx hb dL_law_672 ?_
  refine va_sld hx hb hXs hbl hbA hS hin1 dL_law_673 ?_
  refine lv_aload_n hx hb dL_law_674 rfl (lv_at hl 0 rfl) ?_
  refine lv_iload_n hx hb dL_law_675 rfl (lv_at hl 3 rfl) ?_
  refine lv_iconst (v := 2) hx hb dL_law_676 (by decide) ?_
  refine lv_iadd hx hb dL_law_677 ?_
  refine va_sld hx hb hXs hbl hbA hS hin2 dL_law_678 ?_
  refine lv_aload_n hx hb dL_law_679 rfl (lv_at hl 0 rfl) ?_
  refine lv_iload_n hx hb dL_law_680 rfl (lv_at hl 3 rfl) ?_
  refine lv_iconst (v := 3) hx hb dL_law_681 (by decide) ?_
  refine lv_iadd hx hb dL_law_682 ?_
  refine va_sld hx hb hXs hbl hbA hS hin3 dL_law_683 ?_
  refine lv_aload_n hx hb dL_law_684 rfl (lv_at hl 0 rfl) ?_
  refine lv_iload_n hx hb dL_law_685 rfl (lv_at hl 3 rfl) ?_
  refine lv_iconst (v := 4) hx hb dL_law_686 (by decide) ?_
  refine lv_iadd hx hb dL_law_687 ?_
  refine va_sld hx hb hXs hbl hbA hS hin4 dL_law_688 ?_
  refine lv_aload_n hx hb dL_law_689 rfl (lv_at hl 0 rfl) ?_
  refine lv_iload_n hx hb dL_law_690 rfl (lv_at hl 3 rfl) ?_
  refine lv_iconst (v := 5) hx hb dL_law_691 (by decide) ?_
  refine lv_iadd hx hb dL_law_692 ?_
  refine va_sld hx hb hXs hbl hbA hS hin5 dL_law_693 ?_
  refine gv_ri (gv_runV (n := 5) (rest := [.int r]) C0 (mX11_road l X σ1 (xs ((nI i) + (1 : Int32)).toNatClampNeg) (xs ((nI i) + (2 : Int32)).toNatClampNeg) (xs ((nI i) + (3 : Int32)).toNatClampNeg) (xs ((nI i) + (4 : Int32)).toNatClampNeg) (xs ((nI i) + (5 : Int32)).toNatClampNeg) hm) gL_law_X11_road rfl ⟨rfl, rfl⟩ (by decide +kernel) ⟨by decide, by decide⟩ gk_63.1 (by decide) rfl hP hS rfl hl.1 rfl (Nat.le_of_ble_eq_true rfl) dL_law_694 ⟨by decide, by decide⟩) hS (fun H locs hP hS => ?_)
  refine lv_icmp_eq (tgt := 1280) hx hb dL_law_697 (by decide) (fun hc => ?_) (fun hc => absurd rfl hc)
  exact kk σ2 H locs ls hI2 hP hS hl
set_option maxHeartbeats 4000000 in
set_option maxRecDepth 100000 in
theorem lw_c17 {p : Program} {l : Launch} {e : Env} {s : State} {m : MethodId} {args : Array Value} {below : List Frame} {meth : Method} {c : Code} {X : gw_X} {Q : State → Prop} {b L : Nat} {xs : Nat → Int32} (C0 : gm_At p s m args meth c X cL_law 4 RL wsL_law ret) (hXs : va_X b L xs s s.heap) (hbl : b < s.heap.size) (hbA : ¬ gw_A X b) (hL : L ≤ 3072) (i : Nat) (hi : i + 6 ≤ L) (σ : gs_S) (hI : inv σ) {H : Heap} {locs : List Loc} {ls : Array Slot} (hP : gw_P X σ H) (hS : va_S (gw_A X) s.heap H locs) (hl : lv_has ls 4 [(0, .ref b), (1, .ref (X.1 0)), (2, .ref (X.1 63)), (3, .int (nI i))]) (kk : ∀ (τ : gs_S) (H : Heap) (locs : List Loc) (ls : Array Slot), inv τ → gw_P X τ H → va_S (gw_A X) s.heap H locs → lv_has ls 4 [(0, .ref b), (1, .ref (X.1 0)), (2, .ref (X.1 63)), (3, .int (nI i))] → W p l e room_1 s m args below meth c H locs 84 3429 Q (F0 m 1280 ls [])) : W p l e room_1 s m args below meth c H locs 84 3429 Q (F0 m 702 ls []) := by
  obtain ⟨hx, hb, hml, hown, hts, hr, hlocks, hC⟩ := id C0
  have hin1 : vp_in (nI i + (1 : Int32)) L := by rw [show (nI i + (1 : Int32)) = nI (i + 1) from nI_add i 1]; exact vp_in_nI (by omega) (by omega)
  have hin2 : vp_in (nI i + (2 : Int32)) L := by rw [show (nI i + (2 : Int32)) = nI (i + 2) from nI_add i 2]; exact vp_in_nI (by omega) (by omega)
  have hin3 : vp_in (nI i + (3 : Int32)) L := by rw [show (nI i + (3 : Int32)) = nI (i + 3) from nI_add i 3]; exact vp_in_nI (by omega) (by omega)
  obtain ⟨r, σ1, σ2, hc, hm, hI2⟩ := op_most σ hI (xs ((nI i) + (1 : Int32)).toNatClampNeg) (xs ((nI i) + (2 : Int32)).toNatClampNeg) (xs ((nI i) + (3 : Int32)).toNatClampNeg)
  refine lv_aload_n hx hb dL_law_702 rfl (lv_at hl 1 rfl) ?_
  refine lv_aload_n hx hb dL_law_703 rfl (lv_at hl 0 rfl) ?_
  refine lv_iload_n hx hb dL_law_704 rfl (lv_at hl 3 rfl) ?_
  refine lv_iconst (v := 1) hx hb dL_law_705 (by decide) ?_
  refine lv_iadd hx hb dL_law_706 ?_
  refine va_sld hx hb hXs hbl hbA hS hin1 dL_law_707 ?_
  refine lv_aload_n hx hb dL_law_708 rfl (lv_at hl 0 rfl) ?_
  refine lv_iload_n hx hb dL_law_709 rfl (lv_at hl 3 rfl) ?_
  refine lv_iconst (v := 2) hx hb dL_law_710 (by decide) ?_
  refine lv_iadd hx hb dL_law_711 ?_
  refine va_sld hx hb hXs hbl hbA hS hin2 dL_law_712 ?_
  refine lv_aload_n hx hb dL_law_713 rfl (lv_at hl 0 rfl) ?_
  refine lv_iload_n hx hb dL_law_714 rfl (lv_at hl 3 rfl) ?_
  refine lv_iconst (v := 3) hx hb dL_law_715 (by decide) ?_
  refine lv_iadd hx hb dL_law_716 ?_
  refine va_sld hx hb hXs hbl hbA hS hin3 dL_law_717 ?_
  refine gv_ri (gv_runV (n := 3) (rest := []) C0 (mX10_most l X σ (xs ((nI i) + (1 : Int32)).toNatClampNeg) (xs ((nI i) + (2 : Int32)).toNatClampNeg) (xs ((nI i) + (3 : Int32)).toNatClampNeg) hc) gL_law_X10_most rfl ⟨rfl, rfl⟩ (by decide +kernel) ⟨by decide, by decide⟩ gk_0.1 (by decide) rfl hP hS rfl hl.1 rfl (Nat.le_of_ble_eq_true rfl) dL_law_718 ⟨by decide, by decide⟩) hS (fun H locs hP hS => ?_)
  refine lv_aload_n hx hb dL_law_721 rfl (lv_at hl 2 rfl) ?_
  refine lv_aload_n hx hb dL_law_722 rfl (lv_at hl 0 rfl) ?_
  refine lv_iload_n hx hb dL_law_723 rfl (lv_at hl 3 rfl) ?_
  refine lv_iconst (v := 1) hx hb dL_law_724 (by decide) ?_
  refine lv_iadd hx hb dL_law_725 ?_
  refine va_sld hx hb hXs hbl hbA hS hin1 dL_law_726 ?_
  refine lv_aload_n hx hb dL_law_727 rfl (lv_at hl 0 rfl) ?_
  refine lv_iload_n hx hb dL_law_728 rfl (lv_at hl 3 rfl) ?_
  refine lv_iconst (v := 2) hx hb dL_law_729 (by decide) ?_
  refine lv_iadd hx hb dL_law_730 ?_
  refine va_sld hx hb hXs hbl hbA hS hin2 dL_law_731 ?_
  refine lv_aload_n hx hb dL_law_732 rfl (lv_at hl 0 rfl) ?_
  refine lv_iload_n hx hb dL_law_733 rfl (lv_at hl 3 rfl) ?_
  refine lv_iconst (v := 3) hx hb dL_law_734 (by decide) ?_
  refine lv_iadd hx hb dL_law_735 ?_
  refine va_sld hx hb hXs hbl hbA hS hin3 dL_law_736 ?_
  refine gv_ri (gv_runV (n := 3) (rest := [.int r]) C0 (mX11_most l X σ1 (xs ((nI i) + (1 : Int32)).toNatClampNeg) (xs ((nI i) + (2 : Int32)).toNatClampNeg) (xs ((nI i) + (3 : Int32)).toNatClampNeg) hm) gL_law_X11_most rfl ⟨rfl, rfl⟩ (by decide +kernel) ⟨by decide, by decide⟩ gk_63.1 (by decide) rfl hP hS rfl hl.1 rfl (Nat.le_of_ble_eq_true rfl) dL_law_737 ⟨by decide, by decide⟩) hS (fun H locs hP hS => ?_)
  refine lv_icmp_eq (tgt := 1280) hx hb dL_law_740 (by decide) (fun hc => ?_) (fun hc => absurd rfl hc)
  exact kk σ2 H locs ls hI2 hP hS hl
set_option maxHeartbeats 4000000 in
set_option maxRecDepth 100000 in
theorem lw_c18 {p : Program} {l : Launch} {e : Env} {s : State} {m : MethodId} {args : Array Value} {below : List Frame} {meth : Method} {c : Code} {X : gw_X} {Q : State → Prop} {b L : Nat} {xs : Nat → Int32} (C0 : gm_At p s m args meth c X cL_law 4 RL wsL_law ret) (hXs : va_X b L xs s s.heap) (hbl : b < s.heap.size) (hbA : ¬ gw_A X b) (hL : L ≤ 3072) (i : Nat) (hi : i + 6 ≤ L) (σ : gs_S) (hI : inv σ) {H : Heap} {locs : List Loc} {ls : Array Slot} (hP : gw_P X σ H) (hS : va_S (gw_A X) s.heap H locs) (hl : lv_has ls 4 [(0, .ref b), (1, .ref (X.1 0)), (2, .ref (X.1 63)), (3, .int (nI i))]) (kk : ∀ (τ : gs_S) (H : Heap) (locs : List Loc) (ls : Array Slot), inv τ → gw_P X τ H → va_S (gw_A X) s.heap H locs → lv_has ls 4 [(0, .ref b), (1, .ref (X.1 0)), (2, .ref (X.1 63)), (3, .int (nI i))] → W p l e room_1 s m args below meth c H locs 84 3429 Q (F0 m 1280 ls [])) : W p l e room_1 s m args below meth c H locs 84 3429 Q (F0 m 745 ls []) := by
  obtain ⟨hx, hb, hml, hown, hts, hr, hlocks, hC⟩ := id C0
  have hin1 : vp_in (nI i + (1 : Int32)) L := by rw [show (nI i + (1 : Int32)) = nI (i + 1) from nI_add i 1]; exact vp_in_nI (by omega) (by omega)
  have hin2 : vp_in (nI i + (2 : Int32)) L := by rw [show (nI i + (2 : Int32)) = nI (i + 2) from nI_add i 2]; exact vp_in_nI (by omega) (by omega)
  have hin3 : vp_in (nI i + (3 : Int32)) L := by rw [show (nI i + (3 : Int32)) = nI (i + 3) from nI_add i 3]; exact vp_in_nI (by omega) (by omega)
  have hin4 : vp_in (nI i + (4 : Int32)) L := by rw [show (nI i + (4 : Int32)) = nI (i + 4) from nI_add i 4]; exact vp_in_nI (by omega) (by omega)
  obtain ⟨r, σ1, σ2, hc, hm, hI2⟩ := op_planks σ hI (xs ((nI i) + (1 : Int32)).toNatClampNeg) (xs ((nI i) + (2 : Int32)).toNatClampNeg) (xs ((nI i) + (3 : Int32)).toNatClampNeg) (xs ((nI i) + (4 : Int32)).toNatClampNeg)
  refine lv_aload_n hx hb dL_law_745 rfl (lv_at hl 1 rfl) ?_
  refine lv_aload_n hx hb dL_law_746 rfl (lv_at hl 0 rfl) ?_
  refine lv_iload_n hx hb dL_law_747 rfl (lv_at hl 3 rfl) ?_
  refine lv_iconst (v := 1) hx hb dL_law_748 (by decide) ?_
  refine lv_iadd hx hb dL_law_749 ?_
  refine va_sld hx hb hXs hbl hbA hS hin1 dL_law_750 ?_
  refine lv_aload_n hx hb dL_law_751 rfl (lv_at hl 0 rfl) ?_
  refine lv_iload_n hx hb dL_law_752 rfl (lv_at hl 3 rfl) ?_
  refine lv_iconst (v := 2) hx hb dL_law_753 (by decide) ?_
  refine lv_iadd hx hb dL_law_754 ?_
  refine va_sld hx hb hXs hbl hbA hS hin2 dL_law_755 ?_
  refine lv_aload_n hx hb dL_law_756 rfl (lv_at hl 0 rfl) ?_
  refine lv_iload_n hx hb dL_law_757 rfl (lv_at hl 3 rfl) ?_
  refine lv_iconst (v := 3) hx hb dL_law_758 (by decide) ?_
  refine lv_iadd hx hb dL_law_759 ?_
  refine va_sld hx hb hXs hbl hbA hS hin3 dL_law_760 ?_
  refine lv_aload_n hx hb dL_law_761 rfl (lv_at hl 0 rfl) ?_
  refine lv_iload_n hx hb dL_law_762 rfl (lv_at hl 3 rfl) ?_
  refine lv_iconst (v := 4) hx hb dL_law_763 (by decide) ?_
  refine lv_iadd hx hb dL_law_764 ?_
  refine va_sld hx hb hXs hbl hbA hS hin4 dL_law_765 ?_
  refine gv_ri (gv_runV (n := 4) (rest := []) C0 (mX10_planks l X σ (xs ((nI i) + (1 : Int32)).toNatClampNeg) (xs ((nI i) + (2 : Int32)).toNatClampNeg) (xs ((nI i) + (3 : Int32)).toNatClampNeg) (xs ((nI i) + (4 : Int32)).toNatClampNeg) hc) gL_law_X10_planks rfl ⟨rfl, rfl⟩ (by decide +kernel) ⟨by decide, by decide⟩ gk_0.1 (by decide) rfl hP hS rfl hl.1 rfl (Nat.le_of_ble_eq_true rfl) dL_law_766 ⟨by decide, by decide⟩) hS (fun H locs hP hS => ?_)
  refine lv_aload_n hx hb dL_law_769 rfl (lv_at hl 2 rfl) ?_
  refine lv_aload_n hx hb dL_law_770 rfl (lv_at hl 0 rfl) ?_
  refine lv_iload_n hx hb dL_law_771 rfl (lv_at hl 3 rfl) ?_
  refine lv_iconst (v := 1) hx hb dL_law_772 (by decide) ?_
  refine lv_iadd hx hb dL_law_773 ?_
  refine va_sld hx hb hXs hbl hbA hS hin1 dL_law_774 ?_
  refine lv_aload_n hx hb dL_law_775 rfl (lv_at hl 0 rfl) ?_
  refine lv_iload_n hx hb dL_law_776 rfl (lv_at hl 3 rfl) ?_
  refine lv_iconst (v := 2) hx hb dL_law_777 (by decide) ?_
  refine lv_iadd hx hb dL_law_778 ?_
  refine va_sld hx hb hXs hbl hbA hS hin2 dL_law_779 ?_
  refine lv_aload_n hx hb dL_law_780 rfl (lv_at hl 0 rfl) ?_
  refine lv_iload_n hx hb dL_law_781 rfl (lv_at hl 3 rfl) ?_
  refine lv_iconst (v := 3) hx hb dL_law_782 (by decide) ?_
  refine lv_iadd hx hb dL_law_783 ?_
  refine va_sld hx hb hXs hbl hbA hS hin3 dL_law_784 ?_
  refine lv_aload_n hx hb dL_law_785 rfl (lv_at hl 0 rfl) ?_
  refine lv_iload_n hx hb dL_law_786 rfl (lv_at hl 3 rfl) ?_
  refine lv_iconst (v := 4) hx hb dL_law_787 (by decide) ?_
  refine lv_iadd hx hb dL_law_788 ?_
  refine va_sld hx hb hXs hbl hbA hS hin4 dL_law_789 ?_
  refine gv_ri (gv_runV (n := 4) (rest := [.int r]) C0 (mX11_planks l X σ1 (xs ((nI i) + (1 : Int32)).toNatClampNeg) (xs ((nI i) + (2 : Int32)).toNatClampNeg) (xs ((nI i) + (3 : Int32)).toNatClampNeg) (xs ((nI i) + (4 : Int32)).toNatClampNeg) hm) gL_law_X11_planks rfl ⟨rfl, rfl⟩ (by decide +kernel) ⟨by decide, by decide⟩ gk_63.1 (by decide) rfl hP hS rfl hl.1 rfl (Nat.le_of_ble_eq_true rfl) dL_law_790 ⟨by decide, by decide⟩) hS (fun H locs hP hS => ?_)
  refine lv_icmp_eq (tgt := 1280) hx hb dL_law_793 (by decide) (fun hc => ?_) (fun hc => absurd rfl hc)
  exact kk σ2 H locs ls hI2 hP hS hl
set_option maxHeartbeats 4000000 in
set_option maxRecDepth 100000 in
theorem lw_c19 {p : Program} {l : Launch} {e : Env} {s : State} {m : MethodId} {args : Array Value} {below : List Frame} {meth : Method} {c : Code} {X : gw_X} {Q : State → Prop} {b L : Nat} {xs : Nat → Int32} (C0 : gm_At p s m args meth c X cL_law 4 RL wsL_law ret) (hXs : va_X b L xs s s.heap) (hbl : b < s.heap.size) (hbA : ¬ gw_A X b) (hL : L ≤ 3072) (i : Nat) (hi : i + 6 ≤ L) (σ : gs_S) (hI : inv σ) {H : Heap} {locs : List Loc} {ls : Array Slot} (hP : gw_P X σ H) (hS : va_S (gw_A X) s.heap H locs) (hl : lv_has ls 4 [(0, .ref b), (1, .ref (X.1 0)), (2, .ref (X.1 63)), (3, .int (nI i))]) (kk : ∀ (τ : gs_S) (H : Heap) (locs : List Loc) (ls : Array Slot), inv τ → gw_P X τ H → va_S (gw_A X) s.heap H locs → lv_has ls 4 [(0, .ref b), (1, .ref (X.1 0)), (2, .ref (X.1 63)), (3, .int (nI i))] → W p l e room_1 s m args below meth c H locs 84 3429 Q (F0 m 1280 ls [])) : W p l e room_1 s m args below meth c H locs 84 3429 Q (F0 m 798 ls []) := by
  obtain ⟨hx, hb, hml, hown, hts, hr, hlocks, hC⟩ := id C0
  have hin1 : vp_in (nI i + (1 : Int32)) L := by rw [show (nI i + (1 : Int32)) = nI (i + 1) from nI_add i 1]; exact vp_in_nI (by omega) (by omega)
  have hin2 : vp_in (nI i + (2 : Int32)) L := by rw [show (nI i + (2 : Int32)) = nI (i + 2) from nI_add i 2]; exact vp_in_nI (by omega) (by omega)
  obtain ⟨r, σ1, σ2, hc, hm, hI2⟩ := op_slip σ hI (xs ((nI i) + (1 : Int32)).toNatClampNeg) (xs ((nI i) + (2 : Int32)).toNatClampNeg)
  refine lv_aload_n hx hb dL_law_798 rfl (lv_at hl 1 rfl) ?_
  refine lv_aload_n hx hb dL_law_799 rfl (lv_at hl 0 rfl) ?_
  refine lv_iload_n hx hb dL_law_800 rfl (lv_at hl 3 rfl) ?_
  refine lv_iconst (v := 1) hx hb dL_law_801 (by decide) ?_
  refine lv_iadd hx hb dL_law_802 ?_
  refine va_sld hx hb hXs hbl hbA hS hin1 dL_law_803 ?_
  refine lv_aload_n hx hb dL_law_804 rfl (lv_at hl 0 rfl) ?_
  refine lv_iload_n hx hb dL_law_805 rfl (lv_at hl 3 rfl) ?_
  refine lv_iconst (v := 2) hx hb dL_law_806 (by decide) ?_
  refine lv_iadd hx hb dL_law_807 ?_
  refine va_sld hx hb hXs hbl hbA hS hin2 dL_law_808 ?_
  refine gv_ri (gv_runV (n := 2) (rest := []) C0 (mX10_slip l X σ (xs ((nI i) + (1 : Int32)).toNatClampNeg) (xs ((nI i) + (2 : Int32)).toNatClampNeg) hc) gL_law_X10_slip rfl ⟨rfl, rfl⟩ (by decide +kernel) ⟨by decide, by decide⟩ gk_0.1 (by decide) rfl hP hS rfl hl.1 rfl (Nat.le_of_ble_eq_true rfl) dL_law_809 ⟨by decide, by decide⟩) hS (fun H locs hP hS => ?_)
  refine lv_aload_n hx hb dL_law_812 rfl (lv_at hl 2 rfl) ?_
  refine lv_aload_n hx hb dL_law_813 rfl (lv_at hl 0 rfl) ?_
  refine lv_iload_n hx hb dL_law_814 rfl (lv_at hl 3 rfl) ?_
  refine lv_iconst (v := 1) hx hb dL_law_815 (by decide) ?_
  refine lv_iadd hx hb dL_law_816 ?_
  refine va_sld hx hb hXs hbl hbA hS hin1 dL_law_817 ?_
  refine lv_aload_n hx hb dL_law_818 rfl (lv_at hl 0 rfl) ?_
  refine lv_iload_n hx hb dL_law_819 rfl (lv_at hl 3 rfl) ?_
  refine lv_iconst (v := 2) hx hb dL_law_820 (by decide) ?_
  refine lv_iadd hx hb dL_law_821 ?_
  refine va_sld hx hb hXs hbl hbA hS hin2 dL_law_822 ?_
  refine gv_ri (gv_runV (n := 2) (rest := [.int r]) C0 (mX11_slip l X σ1 (xs ((nI i) + (1 : Int32)).toNatClampNeg) (xs ((nI i) + (2 : Int32)).toNatClampNeg) hm) gL_law_X11_slip rfl ⟨rfl, rfl⟩ (by decide +kernel) ⟨by decide, by decide⟩ gk_63.1 (by decide) rfl hP hS rfl hl.1 rfl (Nat.le_of_ble_eq_true rfl) dL_law_823 ⟨by decide, by decide⟩) hS (fun H locs hP hS => ?_)
  refine lv_icmp_eq (tgt := 1280) hx hb dL_law_826 (by decide) (fun hc => ?_) (fun hc => absurd rfl hc)
  exact kk σ2 H locs ls hI2 hP hS hl
set_option maxHeartbeats 4000000 in
set_option maxRecDepth 100000 in
theorem lw_c20 {p : Program} {l : Launch} {e : Env} {s : State} {m : MethodId} {args : Array Value} {below : List Frame} {meth : Method} {c : Code} {X : gw_X} {Q : State → Prop} {b L : Nat} {xs : Nat → Int32} (C0 : gm_At p s m args meth c X cL_law 4 RL wsL_law ret) (hXs : va_X b L xs s s.heap) (hbl : b < s.heap.size) (hbA : ¬ gw_A X b) (hL : L ≤ 3072) (i : Nat) (hi : i + 6 ≤ L) (σ : gs_S) (hI : inv σ) {H : Heap} {locs : List Loc} {ls : Array Slot} (hP : gw_P X σ H) (hS : va_S (gw_A X) s.heap H locs) (hl : lv_has ls 4 [(0, .ref b), (1, .ref (X.1 0)), (2, .ref (X.1 63)), (3, .int (nI i))]) (kk : ∀ (τ : gs_S) (H : Heap) (locs : List Loc) (ls : Array Slot), inv τ → gw_P X τ H → va_S (gw_A X) s.heap H locs → lv_has ls 4 [(0, .ref b), (1, .ref (X.1 0)), (2, .ref (X.1 63)), (3, .int (nI i))] → W p l e room_1 s m args below meth c H locs 84 3429 Q (F0 m 1280 ls [])) : W p l e room_1 s m args below meth c H locs 84 3429 Q (F0 m 831 ls []) := by
  obtain ⟨hx, hb, hml, hown, hts, hr, hlocks, hC⟩ := id C0
  have hin1 : vp_in (nI i + (1 : Int32)) L := by rw [show (nI i + (1 : Int32)) = nI (i + 1) from nI_add i 1]; exact vp_in_nI (by omega) (by omega)
  have hin2 : vp_in (nI i + (2 : Int32)) L := by rw [show (nI i + (2 : Int32)) = nI (i + 2) from nI_add i 2]; exact vp_in_nI (by omega) (by omega)
  have hin3 : vp_in (nI i + (3 : Int32)) L := by rw [show (nI i + (3 : Int32)) = nI (i + 3) from nI_add i 3]; exact vp_in_nI (by omega) (by omega)
  obtain ⟨r, σ1, σ2, hc, hm, hI2⟩ := op_hear σ hI (xs ((nI i) + (1 : Int32)).toNatClampNeg) (xs ((nI i) + (2 : Int32)).toNatClampNeg) (xs ((nI i) + (3 : Int32)).toNatClampNeg)
  refine lv_aload_n hx hb dL_law_831 rfl (lv_at hl 1 rfl) ?_
  refine lv_aload_n hx hb dL_law_832 rfl (lv_at hl 0 rfl) ?_
  refine lv_iload_n hx hb dL_law_833 rfl (lv_at hl 3 rfl) ?_
  refine lv_iconst (v := 1) hx hb dL_law_834 (by decide) ?_
  refine lv_iadd hx hb dL_law_835 ?_
  refine va_sld hx hb hXs hbl hbA hS hin1 dL_law_836 ?_
  refine lv_aload_n hx hb dL_law_837 rfl (lv_at hl 0 rfl) ?_
  refine lv_iload_n hx hb dL_law_838 rfl (lv_at hl 3 rfl) ?_
  refine lv_iconst (v := 2) hx hb dL_law_839 (by decide) ?_
  refine lv_iadd hx hb dL_law_840 ?_
  refine va_sld hx hb hXs hbl hbA hS hin2 dL_law_841 ?_
  refine lv_aload_n hx hb dL_law_842 rfl (lv_at hl 0 rfl) ?_
  refine lv_iload_n hx hb dL_law_843 rfl (lv_at hl 3 rfl) ?_
  refine lv_iconst (v := 3) hx hb dL_law_844 (by decide) ?_
  refine lv_iadd hx hb dL_law_845 ?_
  refine va_sld hx hb hXs hbl hbA hS hin3 dL_law_846 ?_
  refine gv_ri (gv_runV (n := 3) (rest := []) C0 (mX10_hear l X σ (xs ((nI i) + (1 : Int32)).toNatClampNeg) (xs ((nI i) + (2 : Int32)).toNatClampNeg) (xs ((nI i) + (3 : Int32)).toNatClampNeg) hc) gL_law_X10_hear rfl ⟨rfl, rfl⟩ (by decide +kernel) ⟨by decide, by decide⟩ gk_0.1 (by decide) rfl hP hS rfl hl.1 rfl (Nat.le_of_ble_eq_true rfl) dL_law_847 ⟨by decide, by decide⟩) hS (fun H locs hP hS => ?_)
  refine lv_aload_n hx hb dL_law_850 rfl (lv_at hl 2 rfl) ?_
  refine lv_aload_n hx hb dL_law_851 rfl (lv_at hl 0 rfl) ?_
  refine lv_iload_n hx hb dL_law_852 rfl (lv_at hl 3 rfl) ?_
  refine lv_iconst (v := 1) hx hb dL_law_853 (by decide) ?_
  refine lv_iadd hx hb dL_law_854 ?_
  refine va_sld hx hb hXs hbl hbA hS hin1 dL_law_855 ?_
  refine lv_aload_n hx hb dL_law_856 rfl (lv_at hl 0 rfl) ?_
  refine lv_iload_n hx hb dL_law_857 rfl (lv_at hl 3 rfl) ?_
  refine lv_iconst (v := 2) hx hb dL_law_858 (by decide) ?_
  refine lv_iadd hx hb dL_law_859 ?_
  refine va_sld hx hb hXs hbl hbA hS hin2 dL_law_860 ?_
  refine lv_aload_n hx hb dL_law_861 rfl (lv_at hl 0 rfl) ?_
  refine lv_iload_n hx hb dL_law_862 rfl (lv_at hl 3 rfl) ?_
  refine lv_iconst (v := 3) hx hb dL_law_863 (by decide) ?_
  refine lv_iadd hx hb dL_law_864 ?_
  refine va_sld hx hb hXs hbl hbA hS hin3 dL_law_865 ?_
  refine gv_ri (gv_runV (n := 3) (rest := [.int r]) C0 (mX11_hear l X σ1 (xs ((nI i) + (1 : Int32)).toNatClampNeg) (xs ((nI i) + (2 : Int32)).toNatClampNeg) (xs ((nI i) + (3 : Int32)).toNatClampNeg) hm) gL_law_X11_hear rfl ⟨rfl, rfl⟩ (by decide +kernel) ⟨by decide, by decide⟩ gk_63.1 (by decide) rfl hP hS rfl hl.1 rfl (Nat.le_of_ble_eq_true rfl) dL_law_866 ⟨by decide, by decide⟩) hS (fun H locs hP hS => ?_)
  refine lv_icmp_eq (tgt := 1280) hx hb dL_law_869 (by decide) (fun hc => ?_) (fun hc => absurd rfl hc)
  exact kk σ2 H locs ls hI2 hP hS hl
set_option maxHeartbeats 4000000 in
set_option maxRecDepth 100000 in
theorem lw_c21 {p : Program} {l : Launch} {e : Env} {s : State} {m : MethodId} {args : Array Value} {below : List Frame} {meth : Method} {c : Code} {X : gw_X} {Q : State → Prop} {b L : Nat} {xs : Nat → Int32} (C0 : gm_At p s m args meth c X cL_law 4 RL wsL_law ret) (hXs : va_X b L xs s s.heap) (hbl : b < s.heap.size) (hbA : ¬ gw_A X b) (hL : L ≤ 3072) (i : Nat) (hi : i + 6 ≤ L) (σ : gs_S) (hI : inv σ) {H : Heap} {locs : List Loc} {ls : Array Slot} (hP : gw_P X σ H) (hS : va_S (gw_A X) s.heap H locs) (hl : lv_has ls 4 [(0, .ref b), (1, .ref (X.1 0)), (2, .ref (X.1 63)), (3, .int (nI i))]) (kk : ∀ (τ : gs_S) (H : Heap) (locs : List Loc) (ls : Array Slot), inv τ → gw_P X τ H → va_S (gw_A X) s.heap H locs → lv_has ls 4 [(0, .ref b), (1, .ref (X.1 0)), (2, .ref (X.1 63)), (3, .int (nI i))] → W p l e room_1 s m args below meth c H locs 84 3429 Q (F0 m 1280 ls [])) : W p l e room_1 s m args below meth c H locs 84 3429 Q (F0 m 874 ls []) := by
  obtain ⟨hx, hb, hml, hown, hts, hr, hlocks, hC⟩ := id C0
  obtain ⟨r, σ1, σ2, hc, hm, hI2⟩ := op_deaf σ hI 
  refine lv_aload_n hx hb dL_law_874 rfl (lv_at hl 1 rfl) ?_
  refine gv_ri (gv_runV (n := 0) (rest := []) C0 (mX10_deaf l X σ  hc) gL_law_X10_deaf rfl ⟨rfl, rfl⟩ (by decide +kernel) ⟨by decide, by decide⟩ gk_0.1 (by decide) rfl hP hS rfl hl.1 rfl (Nat.le_of_ble_eq_true rfl) dL_law_875 ⟨by decide, by decide⟩) hS (fun H locs hP hS => ?_)
  refine lv_aload_n hx hb dL_law_878 rfl (lv_at hl 2 rfl) ?_
  refine gv_ri (gv_runV (n := 0) (rest := [.int r]) C0 (mX11_deaf l X σ1  hm) gL_law_X11_deaf rfl ⟨rfl, rfl⟩ (by decide +kernel) ⟨by decide, by decide⟩ gk_63.1 (by decide) rfl hP hS rfl hl.1 rfl (Nat.le_of_ble_eq_true rfl) dL_law_879 ⟨by decide, by decide⟩) hS (fun H locs hP hS => ?_)
  refine lv_icmp_eq (tgt := 1280) hx hb dL_law_882 (by decide) (fun hc => ?_) (fun hc => absurd rfl hc)
  exact kk σ2 H locs ls hI2 hP hS hl
set_option maxHeartbeats 4000000 in
set_option maxRecDepth 100000 in
theorem lw_c22 {p : Program} {l : Launch} {e : Env} {s : State} {m : MethodId} {args : Array Value} {below : List Frame} {meth : Method} {c : Code} {X : gw_X} {Q : State → Prop} {b L : Nat} {xs : Nat → Int32} (C0 : gm_At p s m args meth c X cL_law 4 RL wsL_law ret) (hXs : va_X b L xs s s.heap) (hbl : b < s.heap.size) (hbA : ¬ gw_A X b) (hL : L ≤ 3072) (i : Nat) (hi : i + 6 ≤ L) (σ : gs_S) (hI : inv σ) {H : Heap} {locs : List Loc} {ls : Array Slot} (hP : gw_P X σ H) (hS : va_S (gw_A X) s.heap H locs) (hl : lv_has ls 4 [(0, .ref b), (1, .ref (X.1 0)), (2, .ref (X.1 63)), (3, .int (nI i))]) (kk : ∀ (τ : gs_S) (H : Heap) (locs : List Loc) (ls : Array Slot), inv τ → gw_P X τ H → va_S (gw_A X) s.heap H locs → lv_has ls 4 [(0, .ref b), (1, .ref (X.1 0)), (2, .ref (X.1 63)), (3, .int (nI i))] → W p l e room_1 s m args below meth c H locs 84 3429 Q (F0 m 1280 ls [])) : W p l e room_1 s m args below meth c H locs 84 3429 Q (F0 m 887 ls []) := by
  obtain ⟨hx, hb, hml, hown, hts, hr, hlocks, hC⟩ := id C0
  have hin1 : vp_in (nI i + (1 : Int32)) L := by rw [show (nI i + (1 : Int32)) = nI (i + 1) from nI_add i 1]; exact vp_in_nI (by omega) (by omega)
  have hin2 : vp_in (nI i + (2 : Int32)) L := by rw [show (nI i + (2 : Int32)) = nI (i + 2) from nI_add i 2]; exact vp_in_nI (by omega) (by omega)
  have hin3 : vp_in (nI i + (3 : Int32)) L := by rw [show (nI i + (3 : Int32)) = nI (i + 3) from nI_add i 3]; exact vp_in_nI (by omega) (by omega)
  obtain ⟨r, σ1, σ2, hc, hm, hI2⟩ := op_span σ hI (xs ((nI i) + (1 : Int32)).toNatClampNeg) (xs ((nI i) + (2 : Int32)).toNatClampNeg) (xs ((nI i) + (3 : Int32)).toNatClampNeg)
  refine lv_aload_n hx hb dL_law_887 rfl (lv_at hl 1 rfl) ?_
  refine lv_aload_n hx hb dL_law_888 rfl (lv_at hl 0 rfl) ?_
  refine lv_iload_n hx hb dL_law_889 rfl (lv_at hl 3 rfl) ?_
  refine lv_iconst (v := 1) hx hb dL_law_890 (by decide) ?_
  refine lv_iadd hx hb dL_law_891 ?_
  refine va_sld hx hb hXs hbl hbA hS hin1 dL_law_892 ?_
  refine lv_aload_n hx hb dL_law_893 rfl (lv_at hl 0 rfl) ?_
  refine lv_iload_n hx hb dL_law_894 rfl (lv_at hl 3 rfl) ?_
  refine lv_iconst (v := 2) hx hb dL_law_895 (by decide) ?_
  refine lv_iadd hx hb dL_law_896 ?_
  refine va_sld hx hb hXs hbl hbA hS hin2 dL_law_897 ?_
  refine lv_aload_n hx hb dL_law_898 rfl (lv_at hl 0 rfl) ?_
  refine lv_iload_n hx hb dL_law_899 rfl (lv_at hl 3 rfl) ?_
  refine lv_iconst (v := 3) hx hb dL_law_900 (by decide) ?_
  refine lv_iadd hx hb dL_law_901 ?_
  refine va_sld hx hb hXs hbl hbA hS hin3 dL_law_902 ?_
  refine gv_ri (gv_runV (n := 3) (rest := []) C0 (mX10_span l X σ (xs ((nI i) + (1 : Int32)).toNatClampNeg) (xs ((nI i) + (2 : Int32)).toNatClampNeg) (xs ((nI i) + (3 : Int32)).toNatClampNeg) hc) gL_law_X10_span rfl ⟨rfl, rfl⟩ (by decide +kernel) ⟨by decide, by decide⟩ gk_0.1 (by decide) rfl hP hS rfl hl.1 rfl (Nat.le_of_ble_eq_true rfl) dL_law_903 ⟨by decide, by decide⟩) hS (fun H locs hP hS => ?_)
  refine lv_aload_n hx hb dL_law_906 rfl (lv_at hl 2 rfl) ?_
  refine lv_aload_n hx hb dL_law_907 rfl (lv_at hl 0 rfl) ?_
  refine lv_iload_n hx hb dL_law_908 rfl (lv_at hl 3 rfl) ?_
  refine lv_iconst (v := 1) hx hb dL_law_909 (by decide) ?_
  refine lv_iadd hx hb dL_law_910 ?_
  refine va_sld hx hb hXs hbl hbA hS hin1 dL_law_911 ?_
  refine lv_aload_n hx hb dL_law_912 rfl (lv_at hl 0 rfl) ?_
  refine lv_iload_n hx hb dL_law_913 rfl (lv_at hl 3 rfl) ?_
  refine lv_iconst (v := 2) hx hb dL_law_914 (by decide) ?_
  refine lv_iadd hx hb dL_law_915 ?_
  refine va_sld hx hb hXs hbl hbA hS hin2 dL_law_916 ?_
  refine lv_aload_n hx hb dL_law_917 rfl (lv_at hl 0 rfl) ?_
  refine lv_iload_n hx hb dL_law_918 rfl (lv_at hl 3 rfl) ?_
  refine lv_iconst (v := 3) hx hb dL_law_919 (by decide) ?_
  refine lv_iadd hx hb dL_law_920 ?_
  refine va_sld hx hb hXs hbl hbA hS hin3 dL_law_921 ?_
  refine gv_ri (gv_runV (n := 3) (rest := [.int r]) C0 (mX11_span l X σ1 (xs ((nI i) + (1 : Int32)).toNatClampNeg) (xs ((nI i) + (2 : Int32)).toNatClampNeg) (xs ((nI i) + (3 : Int32)).toNatClampNeg) hm) gL_law_X11_span rfl ⟨rfl, rfl⟩ (by decide +kernel) ⟨by decide, by decide⟩ gk_63.1 (by decide) rfl hP hS rfl hl.1 rfl (Nat.le_of_ble_eq_true rfl) dL_law_922 ⟨by decide, by decide⟩) hS (fun H locs hP hS => ?_)
  refine lv_icmp_eq (tgt := 1280) hx hb dL_law_925 (by decide) (fun hc => ?_) (fun hc => absurd rfl hc)
  exact kk σ2 H locs ls hI2 hP hS hl
set_option maxHeartbeats 4000000 in
set_option maxRecDepth 100000 in
theorem lw_c23 {p : Program} {l : Launch} {e : Env} {s : State} {m : MethodId} {args : Array Value} {below : List Frame} {meth : Method} {c : Code} {X : gw_X} {Q : State → Prop} {b L : Nat} {xs : Nat → Int32} (C0 : gm_At p s m args meth c X cL_law 4 RL wsL_law ret) (hXs : va_X b L xs s s.heap) (hbl : b < s.heap.size) (hbA : ¬ gw_A X b) (hL : L ≤ 3072) (i : Nat) (hi : i + 6 ≤ L) (σ : gs_S) (hI : inv σ) {H : Heap} {locs : List Loc} {ls : Array Slot} (hP : gw_P X σ H) (hS : va_S (gw_A X) s.heap H locs) (hl : lv_has ls 4 [(0, .ref b), (1, .ref (X.1 0)), (2, .ref (X.1 63)), (3, .int (nI i))]) (kk : ∀ (τ : gs_S) (H : Heap) (locs : List Loc) (ls : Array Slot), inv τ → gw_P X τ H → va_S (gw_A X) s.heap H locs → lv_has ls 4 [(0, .ref b), (1, .ref (X.1 0)), (2, .ref (X.1 63)), (3, .int (nI i))] → W p l e room_1 s m args below meth c H locs 84 3429 Q (F0 m 1280 ls [])) : W p l e room_1 s m args below meth c H locs 84 3429 Q (F0 m 930 ls []) := by
  obtain ⟨hx, hb, hml, hown, hts, hr, hlocks, hC⟩ := id C0
  have hin1 : vp_in (nI i + (1 : Int32)) L := by rw [show (nI i + (1 : Int32)) = nI (i + 1) from nI_add i 1]; exact vp_in_nI (by omega) (by omega)
  have hin2 : vp_in (nI i + (2 : Int32)) L := by rw [show (nI i + (2 : Int32)) = nI (i + 2) from nI_add i 2]; exact vp_in_nI (by omega) (by omega)
  have hin3 : vp_in (nI i + (3 : Int32)) L := by rw [show (nI i + (3 : Int32)) = nI (i + 3) from nI_add i 3]; exact vp_in_nI (by omega) (by omega)
  have hin4 : vp_in (nI i + (4 : Int32)) L := by rw [show (nI i + (4 : Int32)) = nI (i + 4) from nI_add i 4]; exact vp_in_nI (by omega) (by omega)
  obtain ⟨r, σ1, σ2, hc, hm, hI2⟩ := op_safe σ hI (xs ((nI i) + (1 : Int32)).toNatClampNeg) (xs ((nI i) + (2 : Int32)).toNatClampNeg) (xs ((nI i) + (3 : Int32)).toNatClampNeg) (xs ((nI i) + (4 : Int32)).toNatClampNeg)
  refine lv_aload_n hx hb dL_law_930 rfl (lv_at hl 1 rfl) ?_
  refine lv_aload_n hx hb dL_law_931 rfl (lv_at hl 0 rfl) ?_
  refine lv_iload_n hx hb dL_law_932 rfl (lv_at hl 3 rfl) ?_
  refine lv_iconst (v := 1) hx hb dL_law_933 (by decide) ?_
  refine lv_iadd hx hb dL_law_934 ?_
  refine va_sld hx hb hXs hbl hbA hS hin1 dL_law_935 ?_
  refine lv_aload_n hx hb dL_law_936 rfl (lv_at hl 0 rfl) ?_
  refine lv_iload_n hx hb dL_law_937 rfl (lv_at hl 3 rfl) ?_
  refine lv_iconst (v := 2) hx hb dL_law_938 (by decide) ?_
  refine lv_iadd hx hb dL_law_939 ?_
  refine va_sld hx hb hXs hbl hbA hS hin2 dL_law_940 ?_
  refine lv_aload_n hx hb dL_law_941 rfl (lv_at hl 0 rfl) ?_
  refine lv_iload_n hx hb dL_law_942 rfl (lv_at hl 3 rfl) ?_
  refine lv_iconst (v := 3) hx hb dL_law_943 (by decide) ?_
  refine lv_iadd hx hb dL_law_944 ?_
  refine va_sld hx hb hXs hbl hbA hS hin3 dL_law_945 ?_
  refine lv_aload_n hx hb dL_law_946 rfl (lv_at hl 0 rfl) ?_
  refine lv_iload_n hx hb dL_law_947 rfl (lv_at hl 3 rfl) ?_
  refine lv_iconst (v := 4) hx hb dL_law_948 (by decide) ?_
  refine lv_iadd hx hb dL_law_949 ?_
  refine va_sld hx hb hXs hbl hbA hS hin4 dL_law_950 ?_
  refine gv_ri (gv_runV (n := 4) (rest := []) C0 (mX10_safe l X σ (xs ((nI i) + (1 : Int32)).toNatClampNeg) (xs ((nI i) + (2 : Int32)).toNatClampNeg) (xs ((nI i) + (3 : Int32)).toNatClampNeg) (xs ((nI i) + (4 : Int32)).toNatClampNeg) hc) gL_law_X10_safe rfl ⟨rfl, rfl⟩ (by decide +kernel) ⟨by decide, by decide⟩ gk_0.1 (by decide) rfl hP hS rfl hl.1 rfl (Nat.le_of_ble_eq_true rfl) dL_law_951 ⟨by decide, by decide⟩) hS (fun H locs hP hS => ?_)
  refine lv_aload_n hx hb dL_law_954 rfl (lv_at hl 2 rfl) ?_
  refine lv_aload_n hx hb dL_law_955 rfl (lv_at hl 0 rfl) ?_
  refine lv_iload_n hx hb dL_law_956 rfl (lv_at hl 3 rfl) ?_
  refine lv_iconst (v := 1) hx hb dL_law_957 (by decide) ?_
  refine lv_iadd hx hb dL_law_958 ?_
  refine va_sld hx hb hXs hbl hbA hS hin1 dL_law_959 ?_
  refine lv_aload_n hx hb dL_law_960 rfl (lv_at hl 0 rfl) ?_
  refine lv_iload_n hx hb dL_law_961 rfl (lv_at hl 3 rfl) ?_
  refine lv_iconst (v := 2) hx hb dL_law_962 (by decide) ?_
  refine lv_iadd hx hb dL_law_963 ?_
  refine va_sld hx hb hXs hbl hbA hS hin2 dL_law_964 ?_
  refine lv_aload_n hx hb dL_law_965 rfl (lv_at hl 0 rfl) ?_
  refine lv_iload_n hx hb dL_law_966 rfl (lv_at hl 3 rfl) ?_
  refine lv_iconst (v := 3) hx hb dL_law_967 (by decide) ?_
  refine lv_iadd hx hb dL_law_968 ?_
  refine va_sld hx hb hXs hbl hbA hS hin3 dL_law_969 ?_
  refine lv_aload_n hx hb dL_law_970 rfl (lv_at hl 0 rfl) ?_
  refine lv_iload_n hx hb dL_law_971 rfl (lv_at hl 3 rfl) ?_
  refine lv_iconst (v := 4) hx hb dL_law_972 (by decide) ?_
  refine lv_iadd hx hb dL_law_973 ?_
  refine va_sld hx hb hXs hbl hbA hS hin4 dL_law_974 ?_
  refine gv_ri (gv_runV (n := 4) (rest := [.int r]) C0 (mX11_safe l X σ1 (xs ((nI i) + (1 : Int32)).toNatClampNeg) (xs ((nI i) + (2 : Int32)).toNatClampNeg) (xs ((nI i) + (3 : Int32)).toNatClampNeg) (xs ((nI i) + (4 : Int32)).toNatClampNeg) hm) gL_law_X11_safe rfl ⟨rfl, rfl⟩ (by decide +kernel) ⟨by decide, by decide⟩ gk_63.1 (by decide) rfl hP hS rfl hl.1 rfl (Nat.le_of_ble_eq_true rfl) dL_law_975 ⟨by decide, by decide⟩) hS (fun H locs hP hS => ?_)
  refine lv_icmp_eq (tgt := 1280) hx hb dL_law_978 (by decide) (fun hc => ?_) (fun hc => absurd rfl hc)
  exact kk σ2 H locs ls hI2 hP hS hl
set_option maxHeartbeats 4000000 in
set_option maxRecDepth 100000 in
theorem lw_c24 {p : Program} {l : Launch} {e : Env} {s : State} {m : MethodId} {args : Array Value} {below : List Frame} {meth : Method} {c : Code} {X : gw_X} {Q : State → Prop} {b L : Nat} {xs : Nat → Int32} (C0 : gm_At p s m args meth c X cL_law 4 RL wsL_law ret) (hXs : va_X b L xs s s.heap) (hbl : b < s.heap.size) (hbA : ¬ gw_A X b) (hL : L ≤ 3072) (i : Nat) (hi : i + 6 ≤ L) (σ : gs_S) (hI : inv σ) {H : Heap} {locs : List Loc} {ls : Array Slot} (hP : gw_P X σ H) (hS : va_S (gw_A X) s.heap H locs) (hl : lv_has ls 4 [(0, .ref b), (1, .ref (X.1 0)), (2, .ref (X.1 63)), (3, .int (nI i))]) (kk : ∀ (τ : gs_S) (H : Heap) (locs : List Loc) (ls : Array Slot), inv τ → gw_P X τ H → va_S (gw_A X) s.heap H locs → lv_has ls 4 [(0, .ref b), (1, .ref (X.1 0)), (2, .ref (X.1 63)), (3, .int (nI i))] → W p l e room_1 s m args below meth c H locs 84 3429 Q (F0 m 1280 ls [])) : W p l e room_1 s m args below meth c H locs 84 3429 Q (F0 m 983 ls []) := by
  obtain ⟨hx, hb, hml, hown, hts, hr, hlocks, hC⟩ := id C0
  obtain ⟨r, σ1, σ2, hc, hm, hI2⟩ := op_drum σ hI 
  refine lv_aload_n hx hb dL_law_983 rfl (lv_at hl 1 rfl) ?_
  refine gv_ri (gv_runV (n := 0) (rest := []) C0 (mX10_drum l X σ  hc) gL_law_X10_drum rfl ⟨rfl, rfl⟩ (by decide +kernel) ⟨by decide, by decide⟩ gk_0.1 (by decide) rfl hP hS rfl hl.1 rfl (Nat.le_of_ble_eq_true rfl) dL_law_984 ⟨by decide, by decide⟩) hS (fun H locs hP hS => ?_)
  refine lv_aload_n hx hb dL_law_987 rfl (lv_at hl 2 rfl) ?_
  refine gv_ri (gv_runV (n := 0) (rest := [.int r]) C0 (mX11_drum l X σ1  hm) gL_law_X11_drum rfl ⟨rfl, rfl⟩ (by decide +kernel) ⟨by decide, by decide⟩ gk_63.1 (by decide) rfl hP hS rfl hl.1 rfl (Nat.le_of_ble_eq_true rfl) dL_law_988 ⟨by decide, by decide⟩) hS (fun H locs hP hS => ?_)
  refine lv_icmp_eq (tgt := 1280) hx hb dL_law_991 (by decide) (fun hc => ?_) (fun hc => absurd rfl hc)
  exact kk σ2 H locs ls hI2 hP hS hl
set_option maxHeartbeats 4000000 in
set_option maxRecDepth 100000 in
theorem lw_c25 {p : Program} {l : Launch} {e : Env} {s : State} {m : MethodId} {args : Array Value} {below : List Frame} {meth : Method} {c : Code} {X : gw_X} {Q : State → Prop} {b L : Nat} {xs : Nat → Int32} (C0 : gm_At p s m args meth c X cL_law 4 RL wsL_law ret) (hXs : va_X b L xs s s.heap) (hbl : b < s.heap.size) (hbA : ¬ gw_A X b) (hL : L ≤ 3072) (i : Nat) (hi : i + 6 ≤ L) (σ : gs_S) (hI : inv σ) {H : Heap} {locs : List Loc} {ls : Array Slot} (hP : gw_P X σ H) (hS : va_S (gw_A X) s.heap H locs) (hl : lv_has ls 4 [(0, .ref b), (1, .ref (X.1 0)), (2, .ref (X.1 63)), (3, .int (nI i))]) (kk : ∀ (τ : gs_S) (H : Heap) (locs : List Loc) (ls : Array Slot), inv τ → gw_P X τ H → va_S (gw_A X) s.heap H locs → lv_has ls 4 [(0, .ref b), (1, .ref (X.1 0)), (2, .ref (X.1 63)), (3, .int (nI i))] → W p l e room_1 s m args below meth c H locs 84 3429 Q (F0 m 1280 ls [])) : W p l e room_1 s m args below meth c H locs 84 3429 Q (F0 m 996 ls []) := by
  obtain ⟨hx, hb, hml, hown, hts, hr, hlocks, hC⟩ := id C0
  obtain ⟨r, σ1, σ2, hc, hm, hI2⟩ := op_liars σ hI 
  refine lv_aload_n hx hb dL_law_996 rfl (lv_at hl 1 rfl) ?_
  refine gv_ri (gv_runV (n := 0) (rest := []) C0 (mX10_liars l X σ  hc) gL_law_X10_liars rfl ⟨rfl, rfl⟩ (by decide +kernel) ⟨by decide, by decide⟩ gk_0.1 (by decide) rfl hP hS rfl hl.1 rfl (Nat.le_of_ble_eq_true rfl) dL_law_997 ⟨by decide, by decide⟩) hS (fun H locs hP hS => ?_)
  refine lv_aload_n hx hb dL_law_1000 rfl (lv_at hl 2 rfl) ?_
  refine gv_ri (gv_runV (n := 0) (rest := [.int r]) C0 (mX11_liars l X σ1  hm) gL_law_X11_liars rfl ⟨rfl, rfl⟩ (by decide +kernel) ⟨by decide, by decide⟩ gk_63.1 (by decide) rfl hP hS rfl hl.1 rfl (Nat.le_of_ble_eq_true rfl) dL_law_1001 ⟨by decide, by decide⟩) hS (fun H locs hP hS => ?_)
  refine lv_icmp_eq (tgt := 1280) hx hb dL_law_1004 (by decide) (fun hc => ?_) (fun hc => absurd rfl hc)
  exact kk σ2 H locs ls hI2 hP hS hl
set_option maxHeartbeats 4000000 in
set_option maxRecDepth 100000 in
theorem lw_c26 {p : Program} {l : Launch} {e : Env} {s : State} {m : MethodId} {args : Array Value} {below : List Frame} {meth : Method} {c : Code} {X : gw_X} {Q : State → Prop} {b L : Nat} {xs : Nat → Int32} (C0 : gm_At p s m args meth c X cL_law 4 RL wsL_law ret) (hXs : va_X b L xs s s.heap) (hbl : b < s.heap.size) (hbA : ¬ gw_A X b) (hL : L ≤ 3072) (i : Nat) (hi : i + 6 ≤ L) (σ : gs_S) (hI : inv σ) {H : Heap} {locs : List Loc} {ls : Array Slot} (hP : gw_P X σ H) (hS : va_S (gw_A X) s.heap H locs) (hl : lv_has ls 4 [(0, .ref b), (1, .ref (X.1 0)), (2, .ref (X.1 63)), (3, .int (nI i))]) (kk : ∀ (τ : gs_S) (H : Heap) (locs : List Loc) (ls : Array Slot), inv τ → gw_P X τ H → va_S (gw_A X) s.heap H locs → lv_has ls 4 [(0, .ref b), (1, .ref (X.1 0)), (2, .ref (X.1 63)), (3, .int (nI i))] → W p l e room_1 s m args below meth c H locs 84 3429 Q (F0 m 1280 ls [])) : W p l e room_1 s m args below meth c H locs 84 3429 Q (F0 m 1009 ls []) := by
  obtain ⟨hx, hb, hml, hown, hts, hr, hlocks, hC⟩ := id C0
  obtain ⟨r, σ1, σ2, hc, hm, hI2⟩ := op_image σ hI 
  refine lv_aload_n hx hb dL_law_1009 rfl (lv_at hl 1 rfl) ?_
  refine gv_ri (gv_runV (n := 0) (rest := []) C0 (mX10_image l X σ  hc) gL_law_X10_image rfl ⟨rfl, rfl⟩ (by decide +kernel) ⟨by decide, by decide⟩ gk_0.1 (by decide) rfl hP hS rfl hl.1 rfl (Nat.le_of_ble_eq_true rfl) dL_law_1010 ⟨by decide, by decide⟩) hS (fun H locs hP hS => ?_)
  refine lv_aload_n hx hb dL_law_1013 rfl (lv_at hl 2 rfl) ?_
  refine gv_ri (gv_runV (n := 0) (rest := [.int r]) C0 (mX11_image l X σ1  hm) gL_law_X11_image rfl ⟨rfl, rfl⟩ (by decide +kernel) ⟨by decide, by decide⟩ gk_63.1 (by decide) rfl hP hS rfl hl.1 rfl (Nat.le_of_ble_eq_true rfl) dL_law_1014 ⟨by decide, by decide⟩) hS (fun H locs hP hS => ?_)
  refine lv_icmp_eq (tgt := 1280) hx hb dL_law_1017 (by decide) (fun hc => ?_) (fun hc => absurd rfl hc)
  exact kk σ2 H locs ls hI2 hP hS hl
set_option maxHeartbeats 4000000 in
set_option maxRecDepth 100000 in
theorem lw_c27 {p : Program} {l : Launch} {e : Env} {s : State} {m : MethodId} {args : Array Value} {below : List Frame} {meth : Method} {c : Code} {X : gw_X} {Q : State → Prop} {b L : Nat} {xs : Nat → Int32} (C0 : gm_At p s m args meth c X cL_law 4 RL wsL_law ret) (hXs : va_X b L xs s s.heap) (hbl : b < s.heap.size) (hbA : ¬ gw_A X b) (hL : L ≤ 3072) (i : Nat) (hi : i + 6 ≤ L) (σ : gs_S) (hI : inv σ) {H : Heap} {locs : List Loc} {ls : Array Slot} (hP : gw_P X σ H) (hS : va_S (gw_A X) s.heap H locs) (hl : lv_has ls 4 [(0, .ref b), (1, .ref (X.1 0)), (2, .ref (X.1 63)), (3, .int (nI i))]) (kk : ∀ (τ : gs_S) (H : Heap) (locs : List Loc) (ls : Array Slot), inv τ → gw_P X τ H → va_S (gw_A X) s.heap H locs → lv_has ls 4 [(0, .ref b), (1, .ref (X.1 0)), (2, .ref (X.1 63)), (3, .int (nI i))] → W p l e room_1 s m args below meth c H locs 84 3429 Q (F0 m 1280 ls [])) : W p l e room_1 s m args below meth c H locs 84 3429 Q (F0 m 1022 ls []) := by
  obtain ⟨hx, hb, hml, hown, hts, hr, hlocks, hC⟩ := id C0
  obtain ⟨r, σ1, σ2, hc, hm, hI2⟩ := op_restore σ hI 
  refine lv_aload_n hx hb dL_law_1022 rfl (lv_at hl 1 rfl) ?_
  refine gv_ri (gv_runV (n := 0) (rest := []) C0 (mX10_restore l X σ  hc) gL_law_X10_restore rfl ⟨rfl, rfl⟩ (by decide +kernel) ⟨by decide, by decide⟩ gk_0.1 (by decide) rfl hP hS rfl hl.1 rfl (Nat.le_of_ble_eq_true rfl) dL_law_1023 ⟨by decide, by decide⟩) hS (fun H locs hP hS => ?_)
  refine lv_aload_n hx hb dL_law_1026 rfl (lv_at hl 2 rfl) ?_
  refine gv_ri (gv_runV (n := 0) (rest := [.int r]) C0 (mX11_restore l X σ1  hm) gL_law_X11_restore rfl ⟨rfl, rfl⟩ (by decide +kernel) ⟨by decide, by decide⟩ gk_63.1 (by decide) rfl hP hS rfl hl.1 rfl (Nat.le_of_ble_eq_true rfl) dL_law_1027 ⟨by decide, by decide⟩) hS (fun H locs hP hS => ?_)
  refine lv_icmp_eq (tgt := 1280) hx hb dL_law_1030 (by decide) (fun hc => ?_) (fun hc => absurd rfl hc)
  exact kk σ2 H locs ls hI2 hP hS hl
set_option maxHeartbeats 4000000 in
set_option maxRecDepth 100000 in
theorem lw_c28 {p : Program} {l : Launch} {e : Env} {s : State} {m : MethodId} {args : Array Value} {below : List Frame} {meth : Method} {c : Code} {X : gw_X} {Q : State → Prop} {b L : Nat} {xs : Nat → Int32} (C0 : gm_At p s m args meth c X cL_law 4 RL wsL_law ret) (hXs : va_X b L xs s s.heap) (hbl : b < s.heap.size) (hbA : ¬ gw_A X b) (hL : L ≤ 3072) (i : Nat) (hi : i + 6 ≤ L) (σ : gs_S) (hI : inv σ) {H : Heap} {locs : List Loc} {ls : Array Slot} (hP : gw_P X σ H) (hS : va_S (gw_A X) s.heap H locs) (hl : lv_has ls 4 [(0, .ref b), (1, .ref (X.1 0)), (2, .ref (X.1 63)), (3, .int (nI i))]) (kk : ∀ (τ : gs_S) (H : Heap) (locs : List Loc) (ls : Array Slot), inv τ → gw_P X τ H → va_S (gw_A X) s.heap H locs → lv_has ls 4 [(0, .ref b), (1, .ref (X.1 0)), (2, .ref (X.1 63)), (3, .int (nI i))] → W p l e room_1 s m args below meth c H locs 84 3429 Q (F0 m 1280 ls [])) : W p l e room_1 s m args below meth c H locs 84 3429 Q (F0 m 1035 ls []) := by
  obtain ⟨hx, hb, hml, hown, hts, hr, hlocks, hC⟩ := id C0
  have hin1 : vp_in (nI i + (1 : Int32)) L := by rw [show (nI i + (1 : Int32)) = nI (i + 1) from nI_add i 1]; exact vp_in_nI (by omega) (by omega)
  have hin2 : vp_in (nI i + (2 : Int32)) L := by rw [show (nI i + (2 : Int32)) = nI (i + 2) from nI_add i 2]; exact vp_in_nI (by omega) (by omega)
  have hin3 : vp_in (nI i + (3 : Int32)) L := by rw [show (nI i + (3 : Int32)) = nI (i + 3) from nI_add i 3]; exact vp_in_nI (by omega) (by omega)
  have hin4 : vp_in (nI i + (4 : Int32)) L := by rw [show (nI i + (4 : Int32)) = nI (i + 4) from nI_add i 4]; exact vp_in_nI (by omega) (by omega)
  obtain ⟨r, σ1, σ2, hc, hm, hI2⟩ := op_go σ hI (xs ((nI i) + (1 : Int32)).toNatClampNeg) (xs ((nI i) + (2 : Int32)).toNatClampNeg) (xs ((nI i) + (3 : Int32)).toNatClampNeg) (xs ((nI i) + (4 : Int32)).toNatClampNeg)
  refine lv_aload_n hx hb dL_law_1035 rfl (lv_at hl 1 rfl) ?_
  refine lv_aload_n hx hb dL_law_1036 rfl (lv_at hl 0 rfl) ?_
  refine lv_iload_n hx hb dL_law_1037 rfl (lv_at hl 3 rfl) ?_
  refine lv_iconst (v := 1) hx hb dL_law_1038 (by decide) ?_
  refine lv_iadd hx hb dL_law_1039 ?_
  refine va_sld hx hb hXs hbl hbA hS hin1 dL_law_1040 ?_
  refine lv_aload_n hx hb dL_law_1041 rfl (lv_at hl 0 rfl) ?_
  refine lv_iload_n hx hb dL_law_1042 rfl (lv_at hl 3 rfl) ?_
  refine lv_iconst (v := 2) hx hb dL_law_1043 (by decide) ?_
  refine lv_iadd hx hb dL_law_1044 ?_
  refine va_sld hx hb hXs hbl hbA hS hin2 dL_law_1045 ?_
  refine lv_aload_n hx hb dL_law_1046 rfl (lv_at hl 0 rfl) ?_
  refine lv_iload_n hx hb dL_law_1047 rfl (lv_at hl 3 rfl) ?_
  refine lv_iconst (v := 3) hx hb dL_law_1048 (by decide) ?_
  refine lv_iadd hx hb dL_law_1049 ?_
  refine va_sld hx hb hXs hbl hbA hS hin3 dL_law_1050 ?_
  refine lv_aload_n hx hb dL_law_1051 rfl (lv_at hl 0 rfl) ?_
  refine lv_iload_n hx hb dL_law_1052 rfl (lv_at hl 3 rfl) ?_
  refine lv_iconst (v := 4) hx hb dL_law_1053 (by decide) ?_
  refine lv_iadd hx hb dL_law_1054 ?_
  refine va_sld hx hb hXs hbl hbA hS hin4 dL_law_1055 ?_
  refine gv_ri (gv_runV (n := 4) (rest := []) C0 (mX10_go l X σ (xs ((nI i) + (1 : Int32)).toNatClampNeg) (xs ((nI i) + (2 : Int32)).toNatClampNeg) (xs ((nI i) + (3 : Int32)).toNatClampNeg) (xs ((nI i) + (4 : Int32)).toNatClampNeg) hc) gL_law_X10_go rfl ⟨rfl, rfl⟩ (by decide +kernel) ⟨by decide, by decide⟩ gk_0.1 (by decide) rfl hP hS rfl hl.1 rfl (Nat.le_of_ble_eq_true rfl) dL_law_1056 ⟨by decide, by decide⟩) hS (fun H locs hP hS => ?_)
  refine lv_aload_n hx hb dL_law_1059 rfl (lv_at hl 2 rfl) ?_
  refine lv_aload_n hx hb dL_law_1060 rfl (lv_at hl 0 rfl) ?_
  refine lv_iload_n hx hb dL_law_1061 rfl (lv_at hl 3 rfl) ?_
  refine lv_iconst (v := 1) hx hb dL_law_1062 (by decide) ?_
  refine lv_iadd hx hb dL_law_1063 ?_
  refine va_sld hx hb hXs hbl hbA hS hin1 dL_law_1064 ?_
  refine lv_aload_n hx hb dL_law_1065 rfl (lv_at hl 0 rfl) ?_
  refine lv_iload_n hx hb dL_law_1066 rfl (lv_at hl 3 rfl) ?_
  refine lv_iconst (v := 2) hx hb dL_law_1067 (by decide) ?_
  refine lv_iadd hx hb dL_law_1068 ?_
  refine va_sld hx hb hXs hbl hbA hS hin2 dL_law_1069 ?_
  refine lv_aload_n hx hb dL_law_1070 rfl (lv_at hl 0 rfl) ?_
  refine lv_iload_n hx hb dL_law_1071 rfl (lv_at hl 3 rfl) ?_
  refine lv_iconst (v := 3) hx hb dL_law_1072 (by decide) ?_
  refine lv_iadd hx hb dL_law_1073 ?_
  refine va_sld hx hb hXs hbl hbA hS hin3 dL_law_1074 ?_
  refine lv_aload_n hx hb dL_law_1075 rfl (lv_at hl 0 rfl) ?_
  refine lv_iload_n hx hb dL_law_1076 rfl (lv_at hl 3 rfl) ?_
  refine lv_iconst (v := 4) hx hb dL_law_1077 (by decide) ?_
  refine lv_iadd hx hb dL_law_1078 ?_
  refine va_sld hx hb hXs hbl hbA hS hin4 dL_law_1079 ?_
  refine gv_ri (gv_runV (n := 4) (rest := [.int r]) C0 (mX11_go l X σ1 (xs ((nI i) + (1 : Int32)).toNatClampNeg) (xs ((nI i) + (2 : Int32)).toNatClampNeg) (xs ((nI i) + (3 : Int32)).toNatClampNeg) (xs ((nI i) + (4 : Int32)).toNatClampNeg) hm) gL_law_X11_go rfl ⟨rfl, rfl⟩ (by decide +kernel) ⟨by decide, by decide⟩ gk_63.1 (by decide) rfl hP hS rfl hl.1 rfl (Nat.le_of_ble_eq_true rfl) dL_law_1080 ⟨by decide, by decide⟩) hS (fun H locs hP hS => ?_)
  refine lv_icmp_eq (tgt := 1280) hx hb dL_law_1083 (by decide) (fun hc => ?_) (fun hc => absurd rfl hc)
  exact kk σ2 H locs ls hI2 hP hS hl
set_option maxHeartbeats 4000000 in
set_option maxRecDepth 100000 in
theorem lw_c29 {p : Program} {l : Launch} {e : Env} {s : State} {m : MethodId} {args : Array Value} {below : List Frame} {meth : Method} {c : Code} {X : gw_X} {Q : State → Prop} {b L : Nat} {xs : Nat → Int32} (C0 : gm_At p s m args meth c X cL_law 4 RL wsL_law ret) (hXs : va_X b L xs s s.heap) (hbl : b < s.heap.size) (hbA : ¬ gw_A X b) (hL : L ≤ 3072) (i : Nat) (hi : i + 6 ≤ L) (σ : gs_S) (hI : inv σ) {H : Heap} {locs : List Loc} {ls : Array Slot} (hP : gw_P X σ H) (hS : va_S (gw_A X) s.heap H locs) (hl : lv_has ls 4 [(0, .ref b), (1, .ref (X.1 0)), (2, .ref (X.1 63)), (3, .int (nI i))]) (kk : ∀ (τ : gs_S) (H : Heap) (locs : List Loc) (ls : Array Slot), inv τ → gw_P X τ H → va_S (gw_A X) s.heap H locs → lv_has ls 4 [(0, .ref b), (1, .ref (X.1 0)), (2, .ref (X.1 63)), (3, .int (nI i))] → W p l e room_1 s m args below meth c H locs 84 3429 Q (F0 m 1280 ls [])) : W p l e room_1 s m args below meth c H locs 84 3429 Q (F0 m 1088 ls []) := by
  obtain ⟨hx, hb, hml, hown, hts, hr, hlocks, hC⟩ := id C0
  have hin1 : vp_in (nI i + (1 : Int32)) L := by rw [show (nI i + (1 : Int32)) = nI (i + 1) from nI_add i 1]; exact vp_in_nI (by omega) (by omega)
  have hin2 : vp_in (nI i + (2 : Int32)) L := by rw [show (nI i + (2 : Int32)) = nI (i + 2) from nI_add i 2]; exact vp_in_nI (by omega) (by omega)
  have hin3 : vp_in (nI i + (3 : Int32)) L := by rw [show (nI i + (3 : Int32)) = nI (i + 3) from nI_add i 3]; exact vp_in_nI (by omega) (by omega)
  obtain ⟨r, σ1, σ2, hc, hm, hI2⟩ := op_film σ hI (xs ((nI i) + (1 : Int32)).toNatClampNeg) (xs ((nI i) + (2 : Int32)).toNatClampNeg) (xs ((nI i) + (3 : Int32)).toNatClampNeg)
  refine lv_aload_n hx hb dL_law_1088 rfl (lv_at hl 1 rfl) ?_
  refine lv_aload_n hx hb dL_law_1089 rfl (lv_at hl 0 rfl) ?_
  refine lv_iload_n hx hb dL_law_1090 rfl (lv_at hl 3 rfl) ?_
  refine lv_iconst (v := 1) hx hb dL_law_1091 (by decide) ?_
  refine lv_iadd hx hb dL_law_1092 ?_
  refine va_sld hx hb hXs hbl hbA hS hin1 dL_law_1093 ?_
  refine lv_aload_n hx hb dL_law_1094 rfl (lv_at hl 0 rfl) ?_
  refine lv_iload_n hx hb dL_law_1095 rfl (lv_at hl 3 rfl) ?_
  refine lv_iconst (v := 2) hx hb dL_law_1096 (by decide) ?_
  refine lv_iadd hx hb dL_law_1097 ?_
  refine va_sld hx hb hXs hbl hbA hS hin2 dL_law_1098 ?_
  refine lv_aload_n hx hb dL_law_1099 rfl (lv_at hl 0 rfl) ?_
  refine lv_iload_n hx hb dL_law_1100 rfl (lv_at hl 3 rfl) ?_
  refine lv_iconst (v := 3) hx hb dL_law_1101 (by decide) ?_
  refine lv_iadd hx hb dL_law_1102 ?_
  refine va_sld hx hb hXs hbl hbA hS hin3 dL_law_1103 ?_
  refine gv_ri (gv_runV (n := 3) (rest := []) C0 (mX10_film l X σ (xs ((nI i) + (1 : Int32)).toNatClampNeg) (xs ((nI i) + (2 : Int32)).toNatClampNeg) (xs ((nI i) + (3 : Int32)).toNatClampNeg) hc) gL_law_X10_film rfl ⟨rfl, rfl⟩ (by decide +kernel) ⟨by decide, by decide⟩ gk_0.1 (by decide) rfl hP hS rfl hl.1 rfl (Nat.le_of_ble_eq_true rfl) dL_law_1104 ⟨by decide, by decide⟩) hS (fun H locs hP hS => ?_)
  refine lv_aload_n hx hb dL_law_1107 rfl (lv_at hl 2 rfl) ?_
  refine lv_aload_n hx hb dL_law_1108 rfl (lv_at hl 0 rfl) ?_
  refine lv_iload_n hx hb dL_law_1109 rfl (lv_at hl 3 rfl) ?_
  refine lv_iconst (v := 1) hx hb dL_law_1110 (by decide) ?_
  refine lv_iadd hx hb dL_law_1111 ?_
  refine va_sld hx hb hXs hbl hbA hS hin1 dL_law_1112 ?_
  refine lv_aload_n hx hb dL_law_1113 rfl (lv_at hl 0 rfl) ?_
  refine lv_iload_n hx hb dL_law_1114 rfl (lv_at hl 3 rfl) ?_
  refine lv_iconst (v := 2) hx hb dL_law_1115 (by decide) ?_
  refine lv_iadd hx hb dL_law_1116 ?_
  refine va_sld hx hb hXs hbl hbA hS hin2 dL_law_1117 ?_
  refine lv_aload_n hx hb dL_law_1118 rfl (lv_at hl 0 rfl) ?_
  refine lv_iload_n hx hb dL_law_1119 rfl (lv_at hl 3 rfl) ?_
  refine lv_iconst (v := 3) hx hb dL_law_1120 (by decide) ?_
  refine lv_iadd hx hb dL_law_1121 ?_
  refine va_sld hx hb hXs hbl hbA hS hin3 dL_law_1122 ?_
  refine gv_ri (gv_runV (n := 3) (rest := [.int r]) C0 (mX11_film l X σ1 (xs ((nI i) + (1 : Int32)).toNatClampNeg) (xs ((nI i) + (2 : Int32)).toNatClampNeg) (xs ((nI i) + (3 : Int32)).toNatClampNeg) hm) gL_law_X11_film rfl ⟨rfl, rfl⟩ (by decide +kernel) ⟨by decide, by decide⟩ gk_63.1 (by decide) rfl hP hS rfl hl.1 rfl (Nat.le_of_ble_eq_true rfl) dL_law_1123 ⟨by decide, by decide⟩) hS (fun H locs hP hS => ?_)
  refine lv_icmp_eq (tgt := 1280) hx hb dL_law_1126 (by decide) (fun hc => ?_) (fun hc => absurd rfl hc)
  exact kk σ2 H locs ls hI2 hP hS hl
set_option maxHeartbeats 4000000 in
set_option maxRecDepth 100000 in
theorem lw_c30 {p : Program} {l : Launch} {e : Env} {s : State} {m : MethodId} {args : Array Value} {below : List Frame} {meth : Method} {c : Code} {X : gw_X} {Q : State → Prop} {b L : Nat} {xs : Nat → Int32} (C0 : gm_At p s m args meth c X cL_law 4 RL wsL_law ret) (hXs : va_X b L xs s s.heap) (hbl : b < s.heap.size) (hbA : ¬ gw_A X b) (hL : L ≤ 3072) (i : Nat) (hi : i + 6 ≤ L) (σ : gs_S) (hI : inv σ) {H : Heap} {locs : List Loc} {ls : Array Slot} (hP : gw_P X σ H) (hS : va_S (gw_A X) s.heap H locs) (hl : lv_has ls 4 [(0, .ref b), (1, .ref (X.1 0)), (2, .ref (X.1 63)), (3, .int (nI i))]) (kk : ∀ (τ : gs_S) (H : Heap) (locs : List Loc) (ls : Array Slot), inv τ → gw_P X τ H → va_S (gw_A X) s.heap H locs → lv_has ls 4 [(0, .ref b), (1, .ref (X.1 0)), (2, .ref (X.1 63)), (3, .int (nI i))] → W p l e room_1 s m args below meth c H locs 84 3429 Q (F0 m 1280 ls [])) : W p l e room_1 s m args below meth c H locs 84 3429 Q (F0 m 1131 ls []) := by
  obtain ⟨hx, hb, hml, hown, hts, hr, hlocks, hC⟩ := id C0
  have hin1 : vp_in (nI i + (1 : Int32)) L := by rw [show (nI i + (1 : Int32)) = nI (i + 1) from nI_add i 1]; exact vp_in_nI (by omega) (by omega)
  have hin2 : vp_in (nI i + (2 : Int32)) L := by rw [show (nI i + (2 : Int32)) = nI (i + 2) from nI_add i 2]; exact vp_in_nI (by omega) (by omega)
  have hin3 : vp_in (nI i + (3 : Int32)) L := by rw [show (nI i + (3 : Int32)) = nI (i + 3) from nI_add i 3]; exact vp_in_nI (by omega) (by omega)
  obtain ⟨r, σ1, σ2, hc, hm, hI2⟩ := op_sheet σ hI (xs ((nI i) + (1 : Int32)).toNatClampNeg) (xs ((nI i) + (2 : Int32)).toNatClampNeg) (xs ((nI i) + (3 : Int32)).toNatClampNeg)
  refine lv_aload_n hx hb dL_law_1131 rfl (lv_at hl 1 rfl) ?_
  refine lv_aload_n hx hb dL_law_1132 rfl (lv_at hl 0 rfl) ?_
  refine lv_iload_n hx hb dL_law_1133 rfl (lv_at hl 3 rfl) ?_
  refine lv_iconst (v := 1) hx hb dL_law_1134 (by decide) ?_
  refine lv_iadd hx hb dL_law_1135 ?_
  refine va_sld hx hb hXs hbl hbA hS hin1 dL_law_1136 ?_
  refine lv_aload_n hx hb dL_law_1137 rfl (lv_at hl 0 rfl) ?_
  refine lv_iload_n hx hb dL_law_1138 rfl (lv_at hl 3 rfl) ?_
  refine lv_iconst (v := 2) hx hb dL_law_1139 (by decide) ?_
  refine lv_iadd hx hb dL_law_1140 ?_
  refine va_sld hx hb hXs hbl hbA hS hin2 dL_law_1141 ?_
  refine lv_aload_n hx hb dL_law_1142 rfl (lv_at hl 0 rfl) ?_
  refine lv_iload_n hx hb dL_law_1143 rfl (lv_at hl 3 rfl) ?_
  refine lv_iconst (v := 3) hx hb dL_law_1144 (by decide) ?_
  refine lv_iadd hx hb dL_law_1145 ?_
  refine va_sld hx hb hXs hbl hbA hS hin3 dL_law_1146 ?_
  refine gv_ri (gv_runV (n := 3) (rest := []) C0 (mX10_sheet l X σ (xs ((nI i) + (1 : Int32)).toNatClampNeg) (xs ((nI i) + (2 : Int32)).toNatClampNeg) (xs ((nI i) + (3 : Int32)).toNatClampNeg) hc) gL_law_X10_sheet rfl ⟨rfl, rfl⟩ (by decide +kernel) ⟨by decide, by decide⟩ gk_0.1 (by decide) rfl hP hS rfl hl.1 rfl (Nat.le_of_ble_eq_true rfl) dL_law_1147 ⟨by decide, by decide⟩) hS (fun H locs hP hS => ?_)
  refine lv_aload_n hx hb dL_law_1150 rfl (lv_at hl 2 rfl) ?_
  refine lv_aload_n hx hb dL_law_1151 rfl (lv_at hl 0 rfl) ?_
  refine lv_iload_n hx hb dL_law_1152 rfl (lv_at hl 3 rfl) ?_
  refine lv_iconst (v := 1) hx hb dL_law_1153 (by decide) ?_
  refine lv_iadd hx hb dL_law_1154 ?_
  refine va_sld hx hb hXs hbl hbA hS hin1 dL_law_1155 ?_
  refine lv_aload_n hx hb dL_law_1156 rfl (lv_at hl 0 rfl) ?_
  refine lv_iload_n hx hb dL_law_1157 rfl (lv_at hl 3 rfl) ?_
  refine lv_iconst (v := 2) hx hb dL_law_1158 (by decide) ?_
  refine lv_iadd hx hb dL_law_1159 ?_
  refine va_sld hx hb hXs hbl hbA hS hin2 dL_law_1160 ?_
  refine lv_aload_n hx hb dL_law_1161 rfl (lv_at hl 0 rfl) ?_
  refine lv_iload_n hx hb dL_law_1162 rfl (lv_at hl 3 rfl) ?_
  refine lv_iconst (v := 3) hx hb dL_law_1163 (by decide) ?_
  refine lv_iadd hx hb dL_law_1164 ?_
  refine va_sld hx hb hXs hbl hbA hS hin3 dL_law_1165 ?_
  refine gv_ri (gv_runV (n := 3) (rest := [.int r]) C0 (mX11_sheet l X σ1 (xs ((nI i) + (1 : Int32)).toNatClampNeg) (xs ((nI i) + (2 : Int32)).toNatClampNeg) (xs ((nI i) + (3 : Int32)).toNatClampNeg) hm) gL_law_X11_sheet rfl ⟨rfl, rfl⟩ (by decide +kernel) ⟨by decide, by decide⟩ gk_63.1 (by decide) rfl hP hS rfl hl.1 rfl (Nat.le_of_ble_eq_true rfl) dL_law_1166 ⟨by decide, by decide⟩) hS (fun H locs hP hS => ?_)
  refine lv_icmp_eq (tgt := 1280) hx hb dL_law_1169 (by decide) (fun hc => ?_) (fun hc => absurd rfl hc)
  exact kk σ2 H locs ls hI2 hP hS hl
set_option maxHeartbeats 4000000 in
set_option maxRecDepth 100000 in
theorem lw_c31 {p : Program} {l : Launch} {e : Env} {s : State} {m : MethodId} {args : Array Value} {below : List Frame} {meth : Method} {c : Code} {X : gw_X} {Q : State → Prop} {b L : Nat} {xs : Nat → Int32} (C0 : gm_At p s m args meth c X cL_law 4 RL wsL_law ret) (hXs : va_X b L xs s s.heap) (hbl : b < s.heap.size) (hbA : ¬ gw_A X b) (hL : L ≤ 3072) (i : Nat) (hi : i + 6 ≤ L) (σ : gs_S) (hI : inv σ) {H : Heap} {locs : List Loc} {ls : Array Slot} (hP : gw_P X σ H) (hS : va_S (gw_A X) s.heap H locs) (hl : lv_has ls 4 [(0, .ref b), (1, .ref (X.1 0)), (2, .ref (X.1 63)), (3, .int (nI i))]) (kk : ∀ (τ : gs_S) (H : Heap) (locs : List Loc) (ls : Array Slot), inv τ → gw_P X τ H → va_S (gw_A X) s.heap H locs → lv_has ls 4 [(0, .ref b), (1, .ref (X.1 0)), (2, .ref (X.1 63)), (3, .int (nI i))] → W p l e room_1 s m args below meth c H locs 84 3429 Q (F0 m 1280 ls [])) : W p l e room_1 s m args below meth c H locs 84 3429 Q (F0 m 1174 ls []) := by
  obtain ⟨hx, hb, hml, hown, hts, hr, hlocks, hC⟩ := id C0
  have hin1 : vp_in (nI i + (1 : Int32)) L := by rw [show (nI i + (1 : Int32)) = nI (i + 1) from nI_add i 1]; exact vp_in_nI (by omega) (by omega)
  obtain ⟨r, σ1, σ2, hc, hm, hI2⟩ := op_drop σ hI (xs ((nI i) + (1 : Int32)).toNatClampNeg)
  refine lv_aload_n hx hb dL_law_1174 rfl (lv_at hl 1 rfl) ?_
  refine lv_aload_n hx hb dL_law_1175 rfl (lv_at hl 0 rfl) ?_
  refine lv_iload_n hx hb dL_law_1176 rfl (lv_at hl 3 rfl) ?_
  refine lv_iconst (v := 1) hx hb dL_law_1177 (by decide) ?_
  refine lv_iadd hx hb dL_law_1178 ?_
  refine va_sld hx hb hXs hbl hbA hS hin1 dL_law_1179 ?_
  refine gv_ri (gv_runV (n := 1) (rest := []) C0 (mX10_drop l X σ (xs ((nI i) + (1 : Int32)).toNatClampNeg) hc) gL_law_X10_drop rfl ⟨rfl, rfl⟩ (by decide +kernel) ⟨by decide, by decide⟩ gk_0.1 (by decide) rfl hP hS rfl hl.1 rfl (Nat.le_of_ble_eq_true rfl) dL_law_1180 ⟨by decide, by decide⟩) hS (fun H locs hP hS => ?_)
  refine lv_aload_n hx hb dL_law_1183 rfl (lv_at hl 2 rfl) ?_
  refine lv_aload_n hx hb dL_law_1184 rfl (lv_at hl 0 rfl) ?_
  refine lv_iload_n hx hb dL_law_1185 rfl (lv_at hl 3 rfl) ?_
  refine lv_iconst (v := 1) hx hb dL_law_1186 (by decide) ?_
  refine lv_iadd hx hb dL_law_1187 ?_
  refine va_sld hx hb hXs hbl hbA hS hin1 dL_law_1188 ?_
  refine gv_ri (gv_runV (n := 1) (rest := [.int r]) C0 (mX11_drop l X σ1 (xs ((nI i) + (1 : Int32)).toNatClampNeg) hm) gL_law_X11_drop rfl ⟨rfl, rfl⟩ (by decide +kernel) ⟨by decide, by decide⟩ gk_63.1 (by decide) rfl hP hS rfl hl.1 rfl (Nat.le_of_ble_eq_true rfl) dL_law_1189 ⟨by decide, by decide⟩) hS (fun H locs hP hS => ?_)
  refine lv_icmp_eq (tgt := 1280) hx hb dL_law_1192 (by decide) (fun hc => ?_) (fun hc => absurd rfl hc)
  exact kk σ2 H locs ls hI2 hP hS hl
set_option maxHeartbeats 4000000 in
set_option maxRecDepth 100000 in
theorem lw_c32 {p : Program} {l : Launch} {e : Env} {s : State} {m : MethodId} {args : Array Value} {below : List Frame} {meth : Method} {c : Code} {X : gw_X} {Q : State → Prop} {b L : Nat} {xs : Nat → Int32} (C0 : gm_At p s m args meth c X cL_law 4 RL wsL_law ret) (hXs : va_X b L xs s s.heap) (hbl : b < s.heap.size) (hbA : ¬ gw_A X b) (hL : L ≤ 3072) (i : Nat) (hi : i + 6 ≤ L) (σ : gs_S) (hI : inv σ) {H : Heap} {locs : List Loc} {ls : Array Slot} (hP : gw_P X σ H) (hS : va_S (gw_A X) s.heap H locs) (hl : lv_has ls 4 [(0, .ref b), (1, .ref (X.1 0)), (2, .ref (X.1 63)), (3, .int (nI i))]) (kk : ∀ (τ : gs_S) (H : Heap) (locs : List Loc) (ls : Array Slot), inv τ → gw_P X τ H → va_S (gw_A X) s.heap H locs → lv_has ls 4 [(0, .ref b), (1, .ref (X.1 0)), (2, .ref (X.1 63)), (3, .int (nI i))] → W p l e room_1 s m args below meth c H locs 84 3429 Q (F0 m 1280 ls [])) : W p l e room_1 s m args below meth c H locs 84 3429 Q (F0 m 1197 ls []) := by
  obtain ⟨hx, hb, hml, hown, hts, hr, hlocks, hC⟩ := id C0
  have hin1 : vp_in (nI i + (1 : Int32)) L := by rw [show (nI i + (1 : Int32)) = nI (i + 1) from nI_add i 1]; exact vp_in_nI (by omega) (by omega)
  have hin2 : vp_in (nI i + (2 : Int32)) L := by rw [show (nI i + (2 : Int32)) = nI (i + 2) from nI_add i 2]; exact vp_in_nI (by omega) (by omega)
  have hin3 : vp_in (nI i + (3 : Int32)) L := by rw [show (nI i + (3 : Int32)) = nI (i + 3) from nI_add i 3]; exact vp_in_nI (by omega) (by omega)
  have hin4 : vp_in (nI i + (4 : Int32)) L := by rw [show (nI i + (4 : Int32)) = nI (i + 4) from nI_add i 4]; exact vp_in_nI (by omega) (by omega)
  have hin5 : vp_in (nI i + (5 : Int32)) L := by rw [show (nI i + (5 : Int32)) = nI (i + 5) from nI_add i 5]; exact vp_in_nI (by omega) (by omega)
  obtain ⟨r, σ1, σ2, hc, hm, hI2⟩ := op_item σ hI (xs ((nI i) + (1 : Int32)).toNatClampNeg) (xs ((nI i) + (2 : Int32)).toNatClampNeg) (xs ((nI i) + (3 : Int32)).toNatClampNeg) ((((xs ((nI i) + (4 : Int32)).toNatClampNeg).toInt64) <<< ((32 : Int32).toInt64 &&& 63)) ||| (((xs ((nI i) + (5 : Int32)).toNatClampNeg).toInt64) &&& (4294967295 : Int64)))
  refine lv_aload_n hx hb dL_law_1197 rfl (lv_at hl 1 rfl) ?_
  refine lv_aload_n hx hb dL_law_1198 rfl (lv_at hl 0 rfl) ?_
  refine lv_iload_n hx hb dL_law_1199 rfl (lv_at hl 3 rfl) ?_
  refine lv_iconst (v := 1) hx hb dL_law_1200 (by decide) ?_
  refine lv_iadd hx hb dL_law_1201 ?_
  refine va_sld hx hb hXs hbl hbA hS hin1 dL_law_1202 ?_
  refine lv_aload_n hx hb dL_law_1203 rfl (lv_at hl 0 rfl) ?_
  refine lv_iload_n hx hb dL_law_1204 rfl (lv_at hl 3 rfl) ?_
  refine lv_iconst (v := 2) hx hb dL_law_1205 (by decide) ?_
  refine lv_iadd hx hb dL_law_1206 ?_
  refine va_sld hx hb hXs hbl hbA hS hin2 dL_law_1207 ?_
  refine lv_aload_n hx hb dL_law_1208 rfl (lv_at hl 0 rfl) ?_
  refine lv_iload_n hx hb dL_law_1209 rfl (lv_at hl 3 rfl) ?_
  refine lv_iconst (v := 3) hx hb dL_law_1210 (by decide) ?_
  refine lv_iadd hx hb dL_law_1211 ?_
  refine va_sld hx hb hXs hbl hbA hS hin3 dL_law_1212 ?_
  refine lv_aload_n hx hb dL_law_1213 rfl (lv_at hl 0 rfl) ?_
  refine lv_iload_n hx hb dL_law_1214 rfl (lv_at hl 3 rfl) ?_
  refine lv_iconst (v := 4) hx hb dL_law_1215 (by decide) ?_
  refine lv_iadd hx hb dL_law_1216 ?_
  refine va_sld hx hb hXs hbl hbA hS hin4 dL_law_1217 ?_
  refine lv_i2l hx hb dL_law_1218 rfl ?_
  refine lv_bipush (v := 32) hx hb dL_law_1219 (by decide) ?_
  refine lv_lshl hx hb dL_law_1221 rfl ?_
  refine lv_aload_n hx hb dL_law_1222 rfl (lv_at hl 0 rfl) ?_
  refine lv_iload_n hx hb dL_law_1223 rfl (lv_at hl 3 rfl) ?_
  refine lv_iconst (v := 5) hx hb dL_law_1224 (by decide) ?_
  refine lv_iadd hx hb dL_law_1225 ?_
  refine va_sld hx hb hXs hbl hbA hS hin5 dL_law_1226 ?_
  refine lv_i2l hx hb dL_law_1227 rfl ?_
  refine lv_ldc2 (v := 4294967295) hx hb hown (hts (.constantLong RL 31 (4294967295)) (List.mem_append_left _ (by decide +kernel))) dL_law_1228 ?_
  refine lv_land hx hb dL_law_1231 ?_
  refine lv_lor hx hb dL_law_1232 ?_
  refine gv_ri (gv_runV (n := 4) (rest := []) C0 (mX10_item l X σ (xs ((nI i) + (1 : Int32)).toNatClampNeg) (xs ((nI i) + (2 : Int32)).toNatClampNeg) (xs ((nI i) + (3 : Int32)).toNatClampNeg) ((((xs ((nI i) + (4 : Int32)).toNatClampNeg).toInt64) <<< ((32 : Int32).toInt64 &&& 63)) ||| (((xs ((nI i) + (5 : Int32)).toNatClampNeg).toInt64) &&& (4294967295 : Int64))) hc) gL_law_X10_item rfl ⟨rfl, rfl⟩ (by decide +kernel) ⟨by decide, by decide⟩ gk_0.1 (by decide) rfl hP hS rfl hl.1 rfl (Nat.le_of_ble_eq_true rfl) dL_law_1233 ⟨by decide, by decide⟩) hS (fun H locs hP hS => ?_)
  refine lv_aload_n hx hb dL_law_1236 rfl (lv_at hl 2 rfl) ?_
  refine lv_aload_n hx hb dL_law_1237 rfl (lv_at hl 0 rfl) ?_
  refine lv_iload_n hx hb dL_law_1238 rfl (lv_at hl 3 rfl) ?_
  refine lv_iconst (v := 1) hx hb dL_law_1239 (by decide) ?_
  refine lv_iadd hx hb dL_law_1240 ?_
  refine va_sld hx hb hXs hbl hbA hS hin1 dL_law_1241 ?_
  refine lv_aload_n hx hb dL_law_1242 rfl (lv_at hl 0 rfl) ?_
  refine lv_iload_n hx hb dL_law_1243 rfl (lv_at hl 3 rfl) ?_
  refine lv_iconst (v := 2) hx hb dL_law_1244 (by decide) ?_
  refine lv_iadd hx hb dL_law_1245 ?_
  refine va_sld hx hb hXs hbl hbA hS hin2 dL_law_1246 ?_
  refine lv_aload_n hx hb dL_law_1247 rfl (lv_at hl 0 rfl) ?_
  refine lv_iload_n hx hb dL_law_1248 rfl (lv_at hl 3 rfl) ?_
  refine lv_iconst (v := 3) hx hb dL_law_1249 (by decide) ?_
  refine lv_iadd hx hb dL_law_1250 ?_
  refine va_sld hx hb hXs hbl hbA hS hin3 dL_law_1251 ?_
  refine lv_aload_n hx hb dL_law_1252 rfl (lv_at hl 0 rfl) ?_
  refine lv_iload_n hx hb dL_law_1253 rfl (lv_at hl 3 rfl) ?_
  refine lv_iconst (v := 4) hx hb dL_law_1254 (by decide) ?_
  refine lv_iadd hx hb dL_law_1255 ?_
  refine va_sld hx hb hXs hbl hbA hS hin4 dL_law_1256 ?_
  refine lv_i2l hx hb dL_law_1257 rfl ?_
  refine lv_bipush (v := 32) hx hb dL_law_1258 (by decide) ?_
  refine lv_lshl hx hb dL_law_1260 rfl ?_
  refine lv_aload_n hx hb dL_law_1261 rfl (lv_at hl 0 rfl) ?_
  refine lv_iload_n hx hb dL_law_1262 rfl (lv_at hl 3 rfl) ?_
  refine lv_iconst (v := 5) hx hb dL_law_1263 (by decide) ?_
  refine lv_iadd hx hb dL_law_1264 ?_
  refine va_sld hx hb hXs hbl hbA hS hin5 dL_law_1265 ?_
  refine lv_i2l hx hb dL_law_1266 rfl ?_
  refine lv_ldc2 (v := 4294967295) hx hb hown (hts (.constantLong RL 31 (4294967295)) (List.mem_append_left _ (by decide +kernel))) dL_law_1267 ?_
  refine lv_land hx hb dL_law_1270 ?_
  refine lv_lor hx hb dL_law_1271 ?_
  refine gv_ri (gv_runV (n := 4) (rest := [.int r]) C0 (mX11_item l X σ1 (xs ((nI i) + (1 : Int32)).toNatClampNeg) (xs ((nI i) + (2 : Int32)).toNatClampNeg) (xs ((nI i) + (3 : Int32)).toNatClampNeg) ((((xs ((nI i) + (4 : Int32)).toNatClampNeg).toInt64) <<< ((32 : Int32).toInt64 &&& 63)) ||| (((xs ((nI i) + (5 : Int32)).toNatClampNeg).toInt64) &&& (4294967295 : Int64))) hm) gL_law_X11_item rfl ⟨rfl, rfl⟩ (by decide +kernel) ⟨by decide, by decide⟩ gk_63.1 (by decide) rfl hP hS rfl hl.1 rfl (Nat.le_of_ble_eq_true rfl) dL_law_1272 ⟨by decide, by decide⟩) hS (fun H locs hP hS => ?_)
  refine lv_icmp_eq (tgt := 1280) hx hb dL_law_1275 (by decide) (fun hc => ?_) (fun hc => absurd rfl hc)
  exact kk σ2 H locs ls hI2 hP hS hl
