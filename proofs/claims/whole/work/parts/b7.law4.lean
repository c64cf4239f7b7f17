/-! THE LAW'S CASES: a call of both, answers compared -/
theorem LI.obx {h : Nat → Option va_E} {x m : Nat} (H : LI h x m) : ∃ fs, h x = some (.inr (4, fs)) := by
  obtain ⟨ζ, Hh, n, sl, sv, T, P, G, S, sp, tl, tm, hX, _⟩ := H
  exact ⟨_, hX.ob⟩
theorem in_j {j L k : Nat} (hj : 4 * j + 3 < L) (hL : L ≤ 2048) (hk : k ≤ 3) : vp_in (nI (4 * j) + nI k) L := by
  rw [nI_add]
  exact vp_in_nI (by omega) (by omega)
section LC
variable {st : Nat → Nat} {hp0 : Hp} {b L : Nat} {xs : Nat → Int32} {x m z : Nat} {cl sl : Nat}
set_option maxRecDepth 100000 in
set_option maxHeartbeats 4000000 in
theorem lc_set (hxm : x + 166 ≤ m) {j : Nat} (hj : 4 * j + 3 < L) (hL : L ≤ 2048) {h : Nat → Option va_E} (H : LI h x m) (hc : cl ≤ 600000 ∧ sl ≤ 7302250) (K : ∀ h', LI h' x m → EvL st hp0 b L xs 830 [.ref b, .ref x, .ref m, .int (nI (4 * j))] [] (z, h') cl sl) : EvL st hp0 b L xs 152 [.ref b, .ref x, .ref m, .int (nI (4 * j))] [] (z, h) cl sl := by
  obtain ⟨fx, ox⟩ := H.obx
  obtain ⟨v, mid, c1, c2⟩ := pr_set (x := x) (m := m) hxm (xs (nI (4 * j) + 1).toNatClampNeg) (xs (nI (4 * j) + 2).toNatClampNeg) st z h H
  refine w_aload_n dL_law_152 rfl ?_
  refine w_aload_n dL_law_153 rfl ?_
  refine w_iload_n dL_law_154 rfl ?_
  refine w_iconst (v := 1) dL_law_155 rfl ?_
  refine w_iadd dL_law_156 ?_
  refine w_sld dL_law_157 (in_j hj hL (k := 1) (by decide)) ?_
  refine w_aload_n dL_law_158 rfl ?_
  refine w_iload_n dL_law_159 rfl ?_
  refine w_iconst (v := 2) dL_law_160 rfl ?_
  refine w_iadd dL_law_161 ?_
  refine w_sld dL_law_162 (in_j hj hL (k := 2) (by decide)) ?_
  refine w_callV dL_law_163 kX4_set iX4_set q256 c1 ox rfl rfl rfl (Nat.le_of_ble_eq_true rfl) hc (fun r hp1 hq1 => ?_)
  obtain ⟨rfl, h1, rfl, hm1⟩ := hq1
  obtain ⟨⟨fm, om⟩, c3⟩ := c2 h1 hm1
  refine w_aload_n dL_law_166 rfl ?_
  refine w_aload_n dL_law_167 rfl ?_
  refine w_iload_n dL_law_168 rfl ?_
  refine w_iconst (v := 1) dL_law_169 rfl ?_
  refine w_iadd dL_law_170 ?_
  refine w_sld dL_law_171 (in_j hj hL (k := 1) (by decide)) ?_
  refine w_aload_n dL_law_172 rfl ?_
  refine w_iload_n dL_law_173 rfl ?_
  refine w_iconst (v := 2) dL_law_174 rfl ?_
  refine w_iadd dL_law_175 ?_
  refine w_sld dL_law_176 (in_j hj hL (k := 2) (by decide)) ?_
  refine w_callV dL_law_177 kX5_set iX5_set q742 c3 om rfl rfl rfl (Nat.le_of_ble_eq_true rfl) hc (fun r hp2 hq2 => ?_)
  obtain ⟨rfl, h2, rfl, hL2⟩ := hq2
  refine w_icmp_eq (x := v) (z := v) (tgt := 830) dL_law_180 (by decide) (fun _ => K h2 hL2) (fun c => absurd rfl c)
set_option maxRecDepth 100000 in
set_option maxHeartbeats 4000000 in
theorem lc_lot (hxm : x + 166 ≤ m) {j : Nat} (hj : 4 * j + 3 < L) (hL : L ≤ 2048) {h : Nat → Option va_E} (H : LI h x m) (hc : cl ≤ 600000 ∧ sl ≤ 7302250) (K : ∀ h', LI h' x m → EvL st hp0 b L xs 830 [.ref b, .ref x, .ref m, .int (nI (4 * j))] [] (z, h') cl sl) : EvL st hp0 b L xs 185 [.ref b, .ref x, .ref m, .int (nI (4 * j))] [] (z, h) cl sl := by
  obtain ⟨fx, ox⟩ := H.obx
  obtain ⟨v, mid, c1, c2⟩ := pr_lot (x := x) (m := m) hxm (xs (nI (4 * j) + 1).toNatClampNeg) st z h H
  refine w_aload_n dL_law_185 rfl ?_
  refine w_aload_n dL_law_186 rfl ?_
  refine w_iload_n dL_law_187 rfl ?_
  refine w_iconst (v := 1) dL_law_188 rfl ?_
  refine w_iadd dL_law_189 ?_
  refine w_sld dL_law_190 (in_j hj hL (k := 1) (by decide)) ?_
  refine w_callV dL_law_191 kX4_lot iX4_lot q294 c1 ox rfl rfl rfl (Nat.le_of_ble_eq_true rfl) hc (fun r hp1 hq1 => ?_)
  obtain ⟨rfl, h1, rfl, hm1⟩ := hq1
  obtain ⟨⟨fm, om⟩, c3⟩ := c2 h1 hm1
  refine w_aload_n dL_law_194 rfl ?_
  refine w_aload_n dL_law_195 rfl ?_
  refine w_iload_n dL_law_196 rfl ?_
  refine w_iconst (v := 1) dL_law_197 rfl ?_
  refine w_iadd dL_law_198 ?_
  refine w_sld dL_law_199 (in_j hj hL (k := 1) (by decide)) ?_
  refine w_callV dL_law_200 kX5_lot iX5_lot q749 c3 om rfl rfl rfl (Nat.le_of_ble_eq_true rfl) hc (fun r hp2 hq2 => ?_)
  obtain ⟨rfl, h2, rfl, hL2⟩ := hq2
  refine w_icmp_eq (x := v) (z := v) (tgt := 830) dL_law_203 (by decide) (fun _ => K h2 hL2) (fun c => absurd rfl c)
set_option maxRecDepth 100000 in
set_option maxHeartbeats 4000000 in
theorem lc_notice (hxm : x + 166 ≤ m) {j : Nat} (hj : 4 * j + 3 < L) (hL : L ≤ 2048) {h : Nat → Option va_E} (H : LI h x m) (hc : cl ≤ 600000 ∧ sl ≤ 7302250) (K : ∀ h', LI h' x m → EvL st hp0 b L xs 830 [.ref b, .ref x, .ref m, .int (nI (4 * j))] [] (z, h') cl sl) : EvL st hp0 b L xs 208 [.ref b, .ref x, .ref m, .int (nI (4 * j))] [] (z, h) cl sl := by
  obtain ⟨fx, ox⟩ := H.obx
  obtain ⟨v, mid, c1, c2⟩ := pr_notice (x := x) (m := m) hxm (xs (nI (4 * j) + 1).toNatClampNeg) st z h H
  refine w_aload_n dL_law_208 rfl ?_
  refine w_aload_n dL_law_209 rfl ?_
  refine w_iload_n dL_law_210 rfl ?_
  refine w_iconst (v := 1) dL_law_211 rfl ?_
  refine w_iadd dL_law_212 ?_
  refine w_sld dL_law_213 (in_j hj hL (k := 1) (by decide)) ?_
  refine w_callV dL_law_214 kX4_notice iX4_notice q302 c1 ox rfl rfl rfl (Nat.le_of_ble_eq_true rfl) hc (fun r hp1 hq1 => ?_)
  obtain ⟨rfl, h1, rfl, hm1⟩ := hq1
  obtain ⟨⟨fm, om⟩, c3⟩ := c2 h1 hm1
  refine w_aload_n dL_law_217 rfl ?_
  refine w_aload_n dL_law_218 rfl ?_
  refine w_iload_n dL_law_219 rfl ?_
  refine w_iconst (v := 1) dL_law_220 rfl ?_
  refine w_iadd dL_law_221 ?_
  refine w_sld dL_law_222 (in_j hj hL (k := 1) (by decide)) ?_
  refine w_callV dL_law_223 kX5_notice iX5_notice q765 c3 om rfl rfl rfl (Nat.le_of_ble_eq_true rfl) hc (fun r hp2 hq2 => ?_)
  obtain ⟨rfl, h2, rfl, hL2⟩ := hq2
  refine w_icmp_eq (x := v) (z := v) (tgt := 830) dL_law_226 (by decide) (fun _ => K h2 hL2) (fun c => absurd rfl c)
set_option maxRecDepth 100000 in
set_option maxHeartbeats 4000000 in
theorem lc_claim (hxm : x + 166 ≤ m) {j : Nat} (hj : 4 * j + 3 < L) (hL : L ≤ 2048) {h : Nat → Option va_E} (H : LI h x m) (hc : cl ≤ 600000 ∧ sl ≤ 7302250) (K : ∀ h', LI h' x m → EvL st hp0 b L xs 830 [.ref b, .ref x, .ref m, .int (nI (4 * j))] [] (z, h') cl sl) : EvL st hp0 b L xs 231 [.ref b, .ref x, .ref m, .int (nI (4 * j))] [] (z, h) cl sl := by
  obtain ⟨fx, ox⟩ := H.obx
  obtain ⟨v, mid, c1, c2⟩ := pr_claim (x := x) (m := m) hxm (xs (nI (4 * j) + 1).toNatClampNeg) (xs (nI (4 * j) + 2).toNatClampNeg) (xs (nI (4 * j) + 3).toNatClampNeg) st z h H
  refine w_aload_n dL_law_231 rfl ?_
  refine w_aload_n dL_law_232 rfl ?_
  refine w_iload_n dL_law_233 rfl ?_
  refine w_iconst (v := 1) dL_law_234 rfl ?_
  refine w_iadd dL_law_235 ?_
  refine w_sld dL_law_236 (in_j hj hL (k := 1) (by decide)) ?_
  refine w_aload_n dL_law_237 rfl ?_
  refine w_iload_n dL_law_238 rfl ?_
  refine w_iconst (v := 2) dL_law_239 rfl ?_
  refine w_iadd dL_law_240 ?_
  refine w_sld dL_law_241 (in_j hj hL (k := 2) (by decide)) ?_
  refine w_aload_n dL_law_242 rfl ?_
  refine w_iload_n dL_law_243 rfl ?_
  refine w_iconst (v := 3) dL_law_244 rfl ?_
  refine w_iadd dL_law_245 ?_
  refine w_sld dL_law_246 (in_j hj hL (k := 3) (by decide)) ?_
  refine w_callV dL_law_247 kX4_claim iX4_claim q327 c1 ox rfl rfl rfl (Nat.le_of_ble_eq_true rfl) hc (fun r hp1 hq1 => ?_)
  obtain ⟨rfl, h1, rfl, hm1⟩ := hq1
  obtain ⟨⟨fm, om⟩, c3⟩ := c2 h1 hm1
  refine w_aload_n dL_law_250 rfl ?_
  refine w_aload_n dL_law_251 rfl ?_
  refine w_iload_n dL_law_252 rfl ?_
  refine w_iconst (v := 1) dL_law_253 rfl ?_
  refine w_iadd dL_law_254 ?_
  refine w_sld dL_law_255 (in_j hj hL (k := 1) (by decide)) ?_
  refine w_aload_n dL_law_256 rfl ?_
  refine w_iload_n dL_law_257 rfl ?_
  refine w_iconst (v := 2) dL_law_258 rfl ?_
  refine w_iadd dL_law_259 ?_
  refine w_sld dL_law_260 (in_j hj hL (k := 2) (by decide)) ?_
  refine w_aload_n dL_law_261 rfl ?_
  refine w_iload_n dL_law_262 rfl ?_
  refine w_iconst (v := 3) dL_law_263 rfl ?_
  refine w_iadd dL_law_264 ?_
  refine w_sld dL_law_265 (in_j hj hL (k := 3) (by decide)) ?_
  refine w_callV dL_law_266 kX5_claim iX5_claim q792 c3 om rfl rfl rfl (Nat.le_of_ble_eq_true rfl) hc (fun r hp2 hq2 => ?_)
  obtain ⟨rfl, h2, rfl, hL2⟩ := hq2
  refine w_icmp_eq (x := v) (z := v) (tgt := 830) dL_law_269 (by decide) (fun _ => K h2 hL2) (fun c => absurd rfl c)
set_option maxRecDepth 100000 in
set_option maxHeartbeats 4000000 in
theorem lc_prove (hxm : x + 166 ≤ m) {j : Nat} (hj : 4 * j + 3 < L) (hL : L ≤ 2048) {h : Nat → Option va_E} (H : LI h x m) (hc : cl ≤ 600000 ∧ sl ≤ 7302250) (K : ∀ h', LI h' x m → EvL st hp0 b L xs 830 [.ref b, .ref x, .ref m, .int (nI (4 * j))] [] (z, h') cl sl) : EvL st hp0 b L xs 274 [.ref b, .ref x, .ref m, .int (nI (4 * j))] [] (z, h) cl sl := by
  obtain ⟨fx, ox⟩ := H.obx
  obtain ⟨v, mid, c1, c2⟩ := pr_prove (x := x) (m := m) hxm (xs (nI (4 * j) + 1).toNatClampNeg) (xs (nI (4 * j) + 2).toNatClampNeg) st z h H
  refine w_aload_n dL_law_274 rfl ?_
  refine w_aload_n dL_law_275 rfl ?_
  refine w_iload_n dL_law_276 rfl ?_
  refine w_iconst (v := 1) dL_law_277 rfl ?_
  refine w_iadd dL_law_278 ?_
  refine w_sld dL_law_279 (in_j hj hL (k := 1) (by decide)) ?_
  refine w_aload_n dL_law_280 rfl ?_
  refine w_iload_n dL_law_281 rfl ?_
  refine w_iconst (v := 2) dL_law_282 rfl ?_
  refine w_iadd dL_law_283 ?_
  refine w_sld dL_law_284 (in_j hj hL (k := 2) (by decide)) ?_
  refine w_callV dL_law_285 kX4_prove iX4_prove q367 c1 ox rfl rfl rfl (Nat.le_of_ble_eq_true rfl) hc (fun r hp1 hq1 => ?_)
  obtain ⟨rfl, h1, rfl, hm1⟩ := hq1
  obtain ⟨⟨fm, om⟩, c3⟩ := c2 h1 hm1
  refine w_aload_n dL_law_288 rfl ?_
  refine w_aload_n dL_law_289 rfl ?_
  refine w_iload_n dL_law_290 rfl ?_
  refine w_iconst (v := 1) dL_law_291 rfl ?_
  refine w_iadd dL_law_292 ?_
  refine w_sld dL_law_293 (in_j hj hL (k := 1) (by decide)) ?_
  refine w_aload_n dL_law_294 rfl ?_
  refine w_iload_n dL_law_295 rfl ?_
  refine w_iconst (v := 2) dL_law_296 rfl ?_
  refine w_iadd dL_law_297 ?_
  refine w_sld dL_law_298 (in_j hj hL (k := 2) (by decide)) ?_
  refine w_callV dL_law_299 kX5_prove iX5_prove q827 c3 om rfl rfl rfl (Nat.le_of_ble_eq_true rfl) hc (fun r hp2 hq2 => ?_)
  obtain ⟨rfl, h2, rfl, hL2⟩ := hq2
  refine w_icmp_eq (x := v) (z := v) (tgt := 830) dL_law_302 (by decide) (fun _ => K h2 hL2) (fun c => absurd rfl c)
set_option maxRecDepth 100000 in
set_option maxHeartbeats 4000000 in
theorem lc_decide (hxm : x + 166 ≤ m) {j : Nat} (hj : 4 * j + 3 < L) (hL : L ≤ 2048) {h : Nat → Option va_E} (H : LI h x m) (hc : cl ≤ 600000 ∧ sl ≤ 7302250) (K : ∀ h', LI h' x m → EvL st hp0 b L xs 830 [.ref b, .ref x, .ref m, .int (nI (4 * j))] [] (z, h') cl sl) : EvL st hp0 b L xs 307 [.ref b, .ref x, .ref m, .int (nI (4 * j))] [] (z, h) cl sl := by
  obtain ⟨fx, ox⟩ := H.obx
  obtain ⟨v, mid, c1, c2⟩ := pr_decide (x := x) (m := m) hxm (xs (nI (4 * j) + 1).toNatClampNeg) st z h H
  refine w_aload_n dL_law_307 rfl ?_
  refine w_aload_n dL_law_308 rfl ?_
  refine w_iload_n dL_law_309 rfl ?_
  refine w_iconst (v := 1) dL_law_310 rfl ?_
  refine w_iadd dL_law_311 ?_
  refine w_sld dL_law_312 (in_j hj hL (k := 1) (by decide)) ?_
  refine w_callV dL_law_313 kX4_decide iX4_decide q384 c1 ox rfl rfl rfl (Nat.le_of_ble_eq_true rfl) hc (fun r hp1 hq1 => ?_)
  obtain ⟨rfl, h1, rfl, hm1⟩ := hq1
  obtain ⟨⟨fm, om⟩, c3⟩ := c2 h1 hm1
  refine w_aload_n dL_law_316 rfl ?_
  refine w_aload_n dL_law_317 rfl ?_
  refine w_iload_n dL_law_318 rfl ?_
  refine w_iconst (v := 1) dL_law_319 rfl ?_
  refine w_iadd dL_law_320 ?_
  refine w_sld dL_law_321 (in_j hj hL (k := 1) (by decide)) ?_
  refine w_callV dL_law_322 kX5_decide iX5_decide q847 c3 om rfl rfl rfl (Nat.le_of_ble_eq_true rfl) hc (fun r hp2 hq2 => ?_)
  obtain ⟨rfl, h2, rfl, hL2⟩ := hq2
  refine w_icmp_eq (x := v) (z := v) (tgt := 830) dL_law_325 (by decide) (fun _ => K h2 hL2) (fun c => absurd rfl c)
set_option maxRecDepth 100000 in
set_option maxHeartbeats 4000000 in
theorem lc_withdraw (hxm : x + 166 ≤ m) {j : Nat} (hj : 4 * j + 3 < L) (hL : L ≤ 2048) {h : Nat → Option va_E} (H : LI h x m) (hc : cl ≤ 600000 ∧ sl ≤ 7302250) (K : ∀ h', LI h' x m → EvL st hp0 b L xs 830 [.ref b, .ref x, .ref m, .int (nI (4 * j))] [] (z, h') cl sl) : EvL st hp0 b L xs 330 [.ref b, .ref x, .ref m, .int (nI (4 * j))] [] (z, h) cl sl := by
  obtain ⟨fx, ox⟩ := H.obx
  obtain ⟨v, mid, c1, c2⟩ := pr_withdraw (x := x) (m := m) hxm (xs (nI (4 * j) + 1).toNatClampNeg) st z h H
  refine w_aload_n dL_law_330 rfl ?_
  refine w_aload_n dL_law_331 rfl ?_
  refine w_iload_n dL_law_332 rfl ?_
  refine w_iconst (v := 1) dL_law_333 rfl ?_
  refine w_iadd dL_law_334 ?_
  refine w_sld dL_law_335 (in_j hj hL (k := 1) (by decide)) ?_
  refine w_callV dL_law_336 kX4_withdraw iX4_withdraw q392 c1 ox rfl rfl rfl (Nat.le_of_ble_eq_true rfl) hc (fun r hp1 hq1 => ?_)
  obtain ⟨rfl, h1, rfl, hm1⟩ := hq1
  obtain ⟨⟨fm, om⟩, c3⟩ := c2 h1 hm1
  refine w_aload_n dL_law_339 rfl ?_
  refine w_aload_n dL_law_340 rfl ?_
  refine w_iload_n dL_law_341 rfl ?_
  refine w_iconst (v := 1) dL_law_342 rfl ?_
  refine w_iadd dL_law_343 ?_
  refine w_sld dL_law_344 (in_j hj hL (k := 1) (by decide)) ?_
  refine w_callV dL_law_345 kX5_withdraw iX5_withdraw q859 c3 om rfl rfl rfl (Nat.le_of_ble_eq_true rfl) hc (fun r hp2 hq2 => ?_)
  obtain ⟨rfl, h2, rfl, hL2⟩ := hq2
  refine w_icmp_eq (x := v) (z := v) (tgt := 830) dL_law_348 (by decide) (fun _ => K h2 hL2) (fun c => absurd rfl c)
set_option maxRecDepth 100000 in
set_option maxHeartbeats 4000000 in
theorem lc_settle (hxm : x + 166 ≤ m) {j : Nat} (hj : 4 * j + 3 < L) (hL : L ≤ 2048) {h : Nat → Option va_E} (H : LI h x m) (hc : cl ≤ 600000 ∧ sl ≤ 7302250) (K : ∀ h', LI h' x m → EvL st hp0 b L xs 830 [.ref b, .ref x, .ref m, .int (nI (4 * j))] [] (z, h') cl sl) : EvL st hp0 b L xs 353 [.ref b, .ref x, .ref m, .int (nI (4 * j))] [] (z, h) cl sl := by
  obtain ⟨fx, ox⟩ := H.obx
  obtain ⟨v, mid, c1, c2⟩ := pr_settle (x := x) (m := m) hxm (xs (nI (4 * j) + 1).toNatClampNeg) st z h H
  refine w_aload_n dL_law_353 rfl ?_
  refine w_aload_n dL_law_354 rfl ?_
  refine w_iload_n dL_law_355 rfl ?_
  refine w_iconst (v := 1) dL_law_356 rfl ?_
  refine w_iadd dL_law_357 ?_
  refine w_sld dL_law_358 (in_j hj hL (k := 1) (by decide)) ?_
  refine w_callV dL_law_359 kX4_settle iX4_settle q404 c1 ox rfl rfl rfl (Nat.le_of_ble_eq_true rfl) hc (fun r hp1 hq1 => ?_)
  obtain ⟨rfl, h1, rfl, hm1⟩ := hq1
  obtain ⟨⟨fm, om⟩, c3⟩ := c2 h1 hm1
  refine w_aload_n dL_law_362 rfl ?_
  refine w_aload_n dL_law_363 rfl ?_
  refine w_iload_n dL_law_364 rfl ?_
  refine w_iconst (v := 1) dL_law_365 rfl ?_
  refine w_iadd dL_law_366 ?_
  refine w_sld dL_law_367 (in_j hj hL (k := 1) (by decide)) ?_
  refine w_callV dL_law_368 kX5_settle iX5_settle q879 c3 om rfl rfl rfl (Nat.le_of_ble_eq_true rfl) hc (fun r hp2 hq2 => ?_)
  obtain ⟨rfl, h2, rfl, hL2⟩ := hq2
  refine w_icmp_eq (x := v) (z := v) (tgt := 830) dL_law_371 (by decide) (fun _ => K h2 hL2) (fun c => absurd rfl c)
set_option maxRecDepth 100000 in
set_option maxHeartbeats 4000000 in
theorem lc_pass (hxm : x + 166 ≤ m) {j : Nat} (hj : 4 * j + 3 < L) (hL : L ≤ 2048) {h : Nat → Option va_E} (H : LI h x m) (hc : cl ≤ 600000 ∧ sl ≤ 7302250) (K : ∀ h', LI h' x m → EvL st hp0 b L xs 830 [.ref b, .ref x, .ref m, .int (nI (4 * j))] [] (z, h') cl sl) : EvL st hp0 b L xs 376 [.ref b, .ref x, .ref m, .int (nI (4 * j))] [] (z, h) cl sl := by
  obtain ⟨fx, ox⟩ := H.obx
  obtain ⟨v, mid, c1, c2⟩ := pr_pass (x := x) (m := m) hxm (xs (nI (4 * j) + 1).toNatClampNeg) st z h H
  refine w_aload_n dL_law_376 rfl ?_
  refine w_aload_n dL_law_377 rfl ?_
  refine w_iload_n dL_law_378 rfl ?_
  refine w_iconst (v := 1) dL_law_379 rfl ?_
  refine w_iadd dL_law_380 ?_
  refine w_sld dL_law_381 (in_j hj hL (k := 1) (by decide)) ?_
  refine w_callV dL_law_382 kX4_pass iX4_pass q455 c1 ox rfl rfl rfl (Nat.le_of_ble_eq_true rfl) hc (fun r hp1 hq1 => ?_)
  obtain ⟨rfl, h1, rfl, hm1⟩ := hq1
  obtain ⟨⟨fm, om⟩, c3⟩ := c2 h1 hm1
  refine w_aload_n dL_law_385 rfl ?_
  refine w_aload_n dL_law_386 rfl ?_
  refine w_iload_n dL_law_387 rfl ?_
  refine w_iconst (v := 1) dL_law_388 rfl ?_
  refine w_iadd dL_law_389 ?_
  refine w_sld dL_law_390 (in_j hj hL (k := 1) (by decide)) ?_
  refine w_callV dL_law_391 kX5_pass iX5_pass q914 c3 om rfl rfl rfl (Nat.le_of_ble_eq_true rfl) hc (fun r hp2 hq2 => ?_)
  obtain ⟨rfl, h2, rfl, hL2⟩ := hq2
  refine w_icmp_eq (x := v) (z := v) (tgt := 830) dL_law_394 (by decide) (fun _ => K h2 hL2) (fun c => absurd rfl c)
set_option maxRecDepth 100000 in
set_option maxHeartbeats 4000000 in
theorem lc_of (hxm : x + 166 ≤ m) {j : Nat} (hj : 4 * j + 3 < L) (hL : L ≤ 2048) {h : Nat → Option va_E} (H : LI h x m) (hc : cl ≤ 600000 ∧ sl ≤ 7302250) (K : ∀ h', LI h' x m → EvL st hp0 b L xs 830 [.ref b, .ref x, .ref m, .int (nI (4 * j))] [] (z, h') cl sl) : EvL st hp0 b L xs 399 [.ref b, .ref x, .ref m, .int (nI (4 * j))] [] (z, h) cl sl := by
  obtain ⟨fx, ox⟩ := H.obx
  obtain ⟨v, mid, c1, c2⟩ := pr_of (x := x) (m := m) (xs (nI (4 * j) + 1).toNatClampNeg) (xs (nI (4 * j) + 2).toNatClampNeg) st z h H
  refine w_aload_n dL_law_399 rfl ?_
  refine w_aload_n dL_law_400 rfl ?_
  refine w_iload_n dL_law_401 rfl ?_
  refine w_iconst (v := 1) dL_law_402 rfl ?_
  refine w_iadd dL_law_403 ?_
  refine w_sld dL_law_404 (in_j hj hL (k := 1) (by decide)) ?_
  refine w_aload_n dL_law_405 rfl ?_
  refine w_iload_n dL_law_406 rfl ?_
  refine w_iconst (v := 2) dL_law_407 rfl ?_
  refine w_iadd dL_law_408 ?_
  refine w_sld dL_law_409 (in_j hj hL (k := 2) (by decide)) ?_
  refine w_callV dL_law_410 kX4_of iX4_of q481 c1 ox rfl rfl rfl (Nat.le_of_ble_eq_true rfl) hc (fun r hp1 hq1 => ?_)
  obtain ⟨rfl, h1, rfl, hm1⟩ := hq1
  obtain ⟨⟨fm, om⟩, c3⟩ := c2 h1 hm1
  refine w_aload_n dL_law_413 rfl ?_
  refine w_aload_n dL_law_414 rfl ?_
  refine w_iload_n dL_law_415 rfl ?_
  refine w_iconst (v := 1) dL_law_416 rfl ?_
  refine w_iadd dL_law_417 ?_
  refine w_sld dL_law_418 (in_j hj hL (k := 1) (by decide)) ?_
  refine w_aload_n dL_law_419 rfl ?_
  refine w_iload_n dL_law_420 rfl ?_
  refine w_iconst (v := 2) dL_law_421 rfl ?_
  refine w_iadd dL_law_422 ?_
  refine w_sld dL_law_423 (in_j hj hL (k := 2) (by decide)) ?_
  refine w_callV dL_law_424 kX5_of iX5_of q934 c3 om rfl rfl rfl (Nat.le_of_ble_eq_true rfl) hc (fun r hp2 hq2 => ?_)
  obtain ⟨rfl, h2, rfl, hL2⟩ := hq2
  refine w_icmp_eq (x := v) (z := v) (tgt := 830) dL_law_427 (by decide) (fun _ => K h2 hL2) (fun c => absurd rfl c)
set_option maxRecDepth 100000 in
set_option maxHeartbeats 4000000 in
theorem lc_ofClaim (hxm : x + 166 ≤ m) {j : Nat} (hj : 4 * j + 3 < L) (hL : L ≤ 2048) {h : Nat → Option va_E} (H : LI h x m) (hc : cl ≤ 600000 ∧ sl ≤ 7302250) (K : ∀ h', LI h' x m → EvL st hp0 b L xs 830 [.ref b, .ref x, .ref m, .int (nI (4 * j))] [] (z, h') cl sl) : EvL st hp0 b L xs 432 [.ref b, .ref x, .ref m, .int (nI (4 * j))] [] (z, h) cl sl := by
  obtain ⟨fx, ox⟩ := H.obx
  obtain ⟨v, mid, c1, c2⟩ := pr_ofClaim (x := x) (m := m) (xs (nI (4 * j) + 1).toNatClampNeg) (xs (nI (4 * j) + 2).toNatClampNeg) st z h H
  refine w_aload_n dL_law_432 rfl ?_
  refine w_aload_n dL_law_433 rfl ?_
  refine w_iload_n dL_law_434 rfl ?_
  refine w_iconst (v := 1) dL_law_435 rfl ?_
  refine w_iadd dL_law_436 ?_
  refine w_sld dL_law_437 (in_j hj hL (k := 1) (by decide)) ?_
  refine w_aload_n dL_law_438 rfl ?_
  refine w_iload_n dL_law_439 rfl ?_
  refine w_iconst (v := 2) dL_law_440 rfl ?_
  refine w_iadd dL_law_441 ?_
  refine w_sld dL_law_442 (in_j hj hL (k := 2) (by decide)) ?_
  refine w_callV dL_law_443 kX4_ofClaim iX4_ofClaim q491 c1 ox rfl rfl rfl (Nat.le_of_ble_eq_true rfl) hc (fun r hp1 hq1 => ?_)
  obtain ⟨rfl, h1, rfl, hm1⟩ := hq1
  obtain ⟨⟨fm, om⟩, c3⟩ := c2 h1 hm1
  refine w_aload_n dL_law_446 rfl ?_
  refine w_aload_n dL_law_447 rfl ?_
  refine w_iload_n dL_law_448 rfl ?_
  refine w_iconst (v := 1) dL_law_449 rfl ?_
  refine w_iadd dL_law_450 ?_
  refine w_sld dL_law_451 (in_j hj hL (k := 1) (by decide)) ?_
  refine w_aload_n dL_law_452 rfl ?_
  refine w_iload_n dL_law_453 rfl ?_
  refine w_iconst (v := 2) dL_law_454 rfl ?_
  refine w_iadd dL_law_455 ?_
  refine w_sld dL_law_456 (in_j hj hL (k := 2) (by decide)) ?_
  refine w_callV dL_law_457 kX5_ofClaim iX5_ofClaim q942 c3 om rfl rfl rfl (Nat.le_of_ble_eq_true rfl) hc (fun r hp2 hq2 => ?_)
  obtain ⟨rfl, h2, rfl, hL2⟩ := hq2
  refine w_icmp_eq (x := v) (z := v) (tgt := 830) dL_law_460 (by decide) (fun _ => K h2 hL2) (fun c => absurd rfl c)
set_option maxRecDepth 100000 in
set_option maxHeartbeats 4000000 in
theorem lc_heir (hxm : x + 166 ≤ m) {j : Nat} (hj : 4 * j + 3 < L) (hL : L ≤ 2048) {h : Nat → Option va_E} (H : LI h x m) (hc : cl ≤ 600000 ∧ sl ≤ 7302250) (K : ∀ h', LI h' x m → EvL st hp0 b L xs 830 [.ref b, .ref x, .ref m, .int (nI (4 * j))] [] (z, h') cl sl) : EvL st hp0 b L xs 465 [.ref b, .ref x, .ref m, .int (nI (4 * j))] [] (z, h) cl sl := by
  obtain ⟨fx, ox⟩ := H.obx
  obtain ⟨v, mid, c1, c2⟩ := pr_heir (x := x) (m := m) (xs (nI (4 * j) + 1).toNatClampNeg) (xs (nI (4 * j) + 2).toNatClampNeg) st z h H
  refine w_aload_n dL_law_465 rfl ?_
  refine w_aload_n dL_law_466 rfl ?_
  refine w_iload_n dL_law_467 rfl ?_
  refine w_iconst (v := 1) dL_law_468 rfl ?_
  refine w_iadd dL_law_469 ?_
  refine w_sld dL_law_470 (in_j hj hL (k := 1) (by decide)) ?_
  refine w_aload_n dL_law_471 rfl ?_
  refine w_iload_n dL_law_472 rfl ?_
  refine w_iconst (v := 2) dL_law_473 rfl ?_
  refine w_iadd dL_law_474 ?_
  refine w_sld dL_law_475 (in_j hj hL (k := 2) (by decide)) ?_
  refine w_callV dL_law_476 kX4_heir iX4_heir q499 c1 ox rfl rfl rfl (Nat.le_of_ble_eq_true rfl) hc (fun r hp1 hq1 => ?_)
  obtain ⟨rfl, h1, rfl, hm1⟩ := hq1
  obtain ⟨⟨fm, om⟩, c3⟩ := c2 h1 hm1
  refine w_aload_n dL_law_479 rfl ?_
  refine w_aload_n dL_law_480 rfl ?_
  refine w_iload_n dL_law_481 rfl ?_
  refine w_iconst (v := 1) dL_law_482 rfl ?_
  refine w_iadd dL_law_483 ?_
  refine w_sld dL_law_484 (in_j hj hL (k := 1) (by decide)) ?_
  refine w_aload_n dL_law_485 rfl ?_
  refine w_iload_n dL_law_486 rfl ?_
  refine w_iconst (v := 2) dL_law_487 rfl ?_
  refine w_iadd dL_law_488 ?_
  refine w_sld dL_law_489 (in_j hj hL (k := 2) (by decide)) ?_
  refine w_callV dL_law_490 kX5_heir iX5_heir q946 c3 om rfl rfl rfl (Nat.le_of_ble_eq_true rfl) hc (fun r hp2 hq2 => ?_)
  obtain ⟨rfl, h2, rfl, hL2⟩ := hq2
  refine w_icmp_eq (x := v) (z := v) (tgt := 830) dL_law_493 (by decide) (fun _ => K h2 hL2) (fun c => absurd rfl c)
set_option maxRecDepth 100000 in
set_option maxHeartbeats 4000000 in
theorem lc_paid (hxm : x + 166 ≤ m) {j : Nat} (hj : 4 * j + 3 < L) (hL : L ≤ 2048) {h : Nat → Option va_E} (H : LI h x m) (hc : cl ≤ 600000 ∧ sl ≤ 7302250) (K : ∀ h', LI h' x m → EvL st hp0 b L xs 830 [.ref b, .ref x, .ref m, .int (nI (4 * j))] [] (z, h') cl sl) : EvL st hp0 b L xs 498 [.ref b, .ref x, .ref m, .int (nI (4 * j))] [] (z, h) cl sl := by
  obtain ⟨fx, ox⟩ := H.obx
  obtain ⟨v, mid, c1, c2⟩ := pr_paid (x := x) (m := m) (xs (nI (4 * j) + 1).toNatClampNeg) st z h H
  refine w_aload_n dL_law_498 rfl ?_
  refine w_aload_n dL_law_499 rfl ?_
  refine w_iload_n dL_law_500 rfl ?_
  refine w_iconst (v := 1) dL_law_501 rfl ?_
  refine w_iadd dL_law_502 ?_
  refine w_sld dL_law_503 (in_j hj hL (k := 1) (by decide)) ?_
  refine w_callV dL_law_504 kX4_paid iX4_paid q522 c1 ox rfl rfl rfl (Nat.le_of_ble_eq_true rfl) hc (fun r hp1 hq1 => ?_)
  obtain ⟨rfl, h1, rfl, hm1⟩ := hq1
  obtain ⟨⟨fm, om⟩, c3⟩ := c2 h1 hm1
  refine w_aload_n dL_law_507 rfl ?_
  refine w_aload_n dL_law_508 rfl ?_
  refine w_iload_n dL_law_509 rfl ?_
  refine w_iconst (v := 1) dL_law_510 rfl ?_
  refine w_iadd dL_law_511 ?_
  refine w_sld dL_law_512 (in_j hj hL (k := 1) (by decide)) ?_
  refine w_callV dL_law_513 kX5_paid iX5_paid q958 c3 om rfl rfl rfl (Nat.le_of_ble_eq_true rfl) hc (fun r hp2 hq2 => ?_)
  obtain ⟨rfl, h2, rfl, hL2⟩ := hq2
  refine w_icmp_eq (x := v) (z := v) (tgt := 830) dL_law_516 (by decide) (fun _ => K h2 hL2) (fun c => absurd rfl c)
set_option maxRecDepth 100000 in
set_option maxHeartbeats 4000000 in
theorem lc_count (hxm : x + 166 ≤ m) {j : Nat} (hj : 4 * j + 3 < L) (hL : L ≤ 2048) {h : Nat → Option va_E} (H : LI h x m) (hc : cl ≤ 600000 ∧ sl ≤ 7302250) (K : ∀ h', LI h' x m → EvL st hp0 b L xs 830 [.ref b, .ref x, .ref m, .int (nI (4 * j))] [] (z, h') cl sl) : EvL st hp0 b L xs 521 [.ref b, .ref x, .ref m, .int (nI (4 * j))] [] (z, h) cl sl := by
  obtain ⟨fx, ox⟩ := H.obx
  obtain ⟨v, mid, c1, c2⟩ := pr_count (x := x) (m := m) (xs (nI (4 * j) + 1).toNatClampNeg) st z h H
  refine w_aload_n dL_law_521 rfl ?_
  refine w_aload_n dL_law_522 rfl ?_
  refine w_iload_n dL_law_523 rfl ?_
  refine w_iconst (v := 1) dL_law_524 rfl ?_
  refine w_iadd dL_law_525 ?_
  refine w_sld dL_law_526 (in_j hj hL (k := 1) (by decide)) ?_
  refine w_callV dL_law_527 kX4_count iX4_count q530 c1 ox rfl rfl rfl (Nat.le_of_ble_eq_true rfl) hc (fun r hp1 hq1 => ?_)
  obtain ⟨rfl, h1, rfl, hm1⟩ := hq1
  obtain ⟨⟨fm, om⟩, c3⟩ := c2 h1 hm1
  refine w_aload_n dL_law_530 rfl ?_
  refine w_aload_n dL_law_531 rfl ?_
  refine w_iload_n dL_law_532 rfl ?_
  refine w_iconst (v := 1) dL_law_533 rfl ?_
  refine w_iadd dL_law_534 ?_
  refine w_sld dL_law_535 (in_j hj hL (k := 1) (by decide)) ?_
  refine w_callV dL_law_536 kX5_count iX5_count q962 c3 om rfl rfl rfl (Nat.le_of_ble_eq_true rfl) hc (fun r hp2 hq2 => ?_)
  obtain ⟨rfl, h2, rfl, hL2⟩ := hq2
  refine w_icmp_eq (x := v) (z := v) (tgt := 830) dL_law_539 (by decide) (fun _ => K h2 hL2) (fun c => absurd rfl c)
set_option maxRecDepth 100000 in
set_option maxHeartbeats 4000000 in
theorem lc_why (hxm : x + 166 ≤ m) {j : Nat} (hj : 4 * j + 3 < L) (hL : L ≤ 2048) {h : Nat → Option va_E} (H : LI h x m) (hc : cl ≤ 600000 ∧ sl ≤ 7302250) (K : ∀ h', LI h' x m → EvL st hp0 b L xs 830 [.ref b, .ref x, .ref m, .int (nI (4 * j))] [] (z, h') cl sl) : EvL st hp0 b L xs 544 [.ref b, .ref x, .ref m, .int (nI (4 * j))] [] (z, h) cl sl := by
  obtain ⟨fx, ox⟩ := H.obx
  obtain ⟨v, mid, c1, c2⟩ := pr_why (x := x) (m := m) (xs (nI (4 * j) + 1).toNatClampNeg) st z h H
  refine w_aload_n dL_law_544 rfl ?_
  refine w_aload_n dL_law_545 rfl ?_
  refine w_iload_n dL_law_546 rfl ?_
  refine w_iconst (v := 1) dL_law_547 rfl ?_
  refine w_iadd dL_law_548 ?_
  refine w_sld dL_law_549 (in_j hj hL (k := 1) (by decide)) ?_
  refine w_callV dL_law_550 kX4_why iX4_why q544 c1 ox rfl rfl rfl (Nat.le_of_ble_eq_true rfl) hc (fun r hp1 hq1 => ?_)
  obtain ⟨rfl, h1, rfl, hm1⟩ := hq1
  obtain ⟨⟨fm, om⟩, c3⟩ := c2 h1 hm1
  refine w_aload_n dL_law_553 rfl ?_
  refine w_aload_n dL_law_554 rfl ?_
  refine w_iload_n dL_law_555 rfl ?_
  refine w_iconst (v := 1) dL_law_556 rfl ?_
  refine w_iadd dL_law_557 ?_
  refine w_sld dL_law_558 (in_j hj hL (k := 1) (by decide)) ?_
  refine w_callV dL_law_559 kX5_why iX5_why q982 c3 om rfl rfl rfl (Nat.le_of_ble_eq_true rfl) hc (fun r hp2 hq2 => ?_)
  obtain ⟨rfl, h2, rfl, hL2⟩ := hq2
  refine w_icmp_eq (x := v) (z := v) (tgt := 830) dL_law_562 (by decide) (fun _ => K h2 hL2) (fun c => absurd rfl c)
set_option maxRecDepth 100000 in
set_option maxHeartbeats 4000000 in
theorem lc_fallsIn (hxm : x + 166 ≤ m) {j : Nat} (hj : 4 * j + 3 < L) (hL : L ≤ 2048) {h : Nat → Option va_E} (H : LI h x m) (hc : cl ≤ 600000 ∧ sl ≤ 7302250) (K : ∀ h', LI h' x m → EvL st hp0 b L xs 830 [.ref b, .ref x, .ref m, .int (nI (4 * j))] [] (z, h') cl sl) : EvL st hp0 b L xs 567 [.ref b, .ref x, .ref m, .int (nI (4 * j))] [] (z, h) cl sl := by
  obtain ⟨fx, ox⟩ := H.obx
  obtain ⟨v, mid, c1, c2⟩ := pr_fallsIn (x := x) (m := m) hxm (xs (nI (4 * j) + 1).toNatClampNeg) st z h H
  refine w_aload_n dL_law_567 rfl ?_
  refine w_aload_n dL_law_568 rfl ?_
  refine w_iload_n dL_law_569 rfl ?_
  refine w_iconst (v := 1) dL_law_570 rfl ?_
  refine w_iadd dL_law_571 ?_
  refine w_sld dL_law_572 (in_j hj hL (k := 1) (by decide)) ?_
  refine w_callV dL_law_573 kX4_fallsIn iX4_fallsIn q552 c1 ox rfl rfl rfl (Nat.le_of_ble_eq_true rfl) hc (fun r hp1 hq1 => ?_)
  obtain ⟨rfl, h1, rfl, hm1⟩ := hq1
  obtain ⟨⟨fm, om⟩, c3⟩ := c2 h1 hm1
  refine w_aload_n dL_law_576 rfl ?_
  refine w_aload_n dL_law_577 rfl ?_
  refine w_iload_n dL_law_578 rfl ?_
  refine w_iconst (v := 1) dL_law_579 rfl ?_
  refine w_iadd dL_law_580 ?_
  refine w_sld dL_law_581 (in_j hj hL (k := 1) (by decide)) ?_
  refine w_callV dL_law_582 kX5_fallsIn iX5_fallsIn q986 c3 om rfl rfl rfl (Nat.le_of_ble_eq_true rfl) hc (fun r hp2 hq2 => ?_)
  obtain ⟨rfl, h2, rfl, hL2⟩ := hq2
  refine w_icmp_eq (x := v) (z := v) (tgt := 830) dL_law_585 (by decide) (fun _ => K h2 hL2) (fun c => absurd rfl c)
set_option maxRecDepth 100000 in
set_option maxHeartbeats 4000000 in
theorem lc_share (hxm : x + 166 ≤ m) {j : Nat} (hj : 4 * j + 3 < L) (hL : L ≤ 2048) {h : Nat → Option va_E} (H : LI h x m) (hc : cl ≤ 600000 ∧ sl ≤ 7302250) (K : ∀ h', LI h' x m → EvL st hp0 b L xs 830 [.ref b, .ref x, .ref m, .int (nI (4 * j))] [] (z, h') cl sl) : EvL st hp0 b L xs 590 [.ref b, .ref x, .ref m, .int (nI (4 * j))] [] (z, h) cl sl := by
  obtain ⟨fx, ox⟩ := H.obx
  obtain ⟨v, mid, c1, c2⟩ := pr_share (x := x) (m := m) (xs (nI (4 * j) + 1).toNatClampNeg) (xs (nI (4 * j) + 2).toNatClampNeg) (xs (nI (4 * j) + 3).toNatClampNeg) st z h H
  refine w_aload_n dL_law_590 rfl ?_
  refine w_aload_n dL_law_591 rfl ?_
  refine w_iload_n dL_law_592 rfl ?_
  refine w_iconst (v := 1) dL_law_593 rfl ?_
  refine w_iadd dL_law_594 ?_
  refine w_sld dL_law_595 (in_j hj hL (k := 1) (by decide)) ?_
  refine w_aload_n dL_law_596 rfl ?_
  refine w_iload_n dL_law_597 rfl ?_
  refine w_iconst (v := 2) dL_law_598 rfl ?_
  refine w_iadd dL_law_599 ?_
  refine w_sld dL_law_600 (in_j hj hL (k := 2) (by decide)) ?_
  refine w_aload_n dL_law_601 rfl ?_
  refine w_iload_n dL_law_602 rfl ?_
  refine w_iconst (v := 3) dL_law_603 rfl ?_
  refine w_iadd dL_law_604 ?_
  refine w_sld dL_law_605 (in_j hj hL (k := 3) (by decide)) ?_
  refine w_callV dL_law_606 kX4_share iX4_share q571 c1 ox rfl rfl rfl (Nat.le_of_ble_eq_true rfl) hc (fun r hp1 hq1 => ?_)
  obtain ⟨rfl, h1, rfl, hm1⟩ := hq1
  obtain ⟨⟨fm, om⟩, c3⟩ := c2 h1 hm1
  refine w_aload_n dL_law_609 rfl ?_
  refine w_aload_n dL_law_610 rfl ?_
  refine w_iload_n dL_law_611 rfl ?_
  refine w_iconst (v := 1) dL_law_612 rfl ?_
  refine w_iadd dL_law_613 ?_
  refine w_sld dL_law_614 (in_j hj hL (k := 1) (by decide)) ?_
  refine w_aload_n dL_law_615 rfl ?_
  refine w_iload_n dL_law_616 rfl ?_
  refine w_iconst (v := 2) dL_law_617 rfl ?_
  refine w_iadd dL_law_618 ?_
  refine w_sld dL_law_619 (in_j hj hL (k := 2) (by decide)) ?_
  refine w_aload_n dL_law_620 rfl ?_
  refine w_iload_n dL_law_621 rfl ?_
  refine w_iconst (v := 3) dL_law_622 rfl ?_
  refine w_iadd dL_law_623 ?_
  refine w_sld dL_law_624 (in_j hj hL (k := 3) (by decide)) ?_
  refine w_callV dL_law_625 kX5_share iX5_share q994 c3 om rfl rfl rfl (Nat.le_of_ble_eq_true rfl) hc (fun r hp2 hq2 => ?_)
  obtain ⟨rfl, h2, rfl, hL2⟩ := hq2
  refine w_icmp_eq (x := v) (z := v) (tgt := 830) dL_law_628 (by decide) (fun _ => K h2 hL2) (fun c => absurd rfl c)
set_option maxRecDepth 100000 in
set_option maxHeartbeats 4000000 in
theorem lc_nextFall (hxm : x + 166 ≤ m) {j : Nat} (hj : 4 * j + 3 < L) (hL : L ≤ 2048) {h : Nat → Option va_E} (H : LI h x m) (hc : cl ≤ 600000 ∧ sl ≤ 7302250) (K : ∀ h', LI h' x m → EvL st hp0 b L xs 830 [.ref b, .ref x, .ref m, .int (nI (4 * j))] [] (z, h') cl sl) : EvL st hp0 b L xs 633 [.ref b, .ref x, .ref m, .int (nI (4 * j))] [] (z, h) cl sl := by
  obtain ⟨fx, ox⟩ := H.obx
  obtain ⟨v, mid, c1, c2⟩ := pr_nextFall (x := x) (m := m) hxm (xs (nI (4 * j) + 1).toNatClampNeg) st z h H
  refine w_aload_n dL_law_633 rfl ?_
  refine w_aload_n dL_law_634 rfl ?_
  refine w_iload_n dL_law_635 rfl ?_
  refine w_iconst (v := 1) dL_law_636 rfl ?_
  refine w_iadd dL_law_637 ?_
  refine w_sld dL_law_638 (in_j hj hL (k := 1) (by decide)) ?_
  refine w_callV dL_law_639 kX4_nextFall iX4_nextFall q579 c1 ox rfl rfl rfl (Nat.le_of_ble_eq_true rfl) hc (fun r hp1 hq1 => ?_)
  obtain ⟨rfl, h1, rfl, hm1⟩ := hq1
  obtain ⟨⟨fm, om⟩, c3⟩ := c2 h1 hm1
  refine w_aload_n dL_law_642 rfl ?_
  refine w_aload_n dL_law_643 rfl ?_
  refine w_iload_n dL_law_644 rfl ?_
  refine w_iconst (v := 1) dL_law_645 rfl ?_
  refine w_iadd dL_law_646 ?_
  refine w_sld dL_law_647 (in_j hj hL (k := 1) (by decide)) ?_
  refine w_callV dL_law_648 kX5_nextFall iX5_nextFall q1002 c3 om rfl rfl rfl (Nat.le_of_ble_eq_true rfl) hc (fun r hp2 hq2 => ?_)
  obtain ⟨rfl, h2, rfl, hL2⟩ := hq2
  refine w_icmp_eq (x := v) (z := v) (tgt := 830) dL_law_651 (by decide) (fun _ => K h2 hL2) (fun c => absurd rfl c)
set_option maxRecDepth 100000 in
set_option maxHeartbeats 4000000 in
theorem lc_nextLapse (hxm : x + 166 ≤ m) {j : Nat} (hj : 4 * j + 3 < L) (hL : L ≤ 2048) {h : Nat → Option va_E} (H : LI h x m) (hc : cl ≤ 600000 ∧ sl ≤ 7302250) (K : ∀ h', LI h' x m → EvL st hp0 b L xs 830 [.ref b, .ref x, .ref m, .int (nI (4 * j))] [] (z, h') cl sl) : EvL st hp0 b L xs 656 [.ref b, .ref x, .ref m, .int (nI (4 * j))] [] (z, h) cl sl := by
  obtain ⟨fx, ox⟩ := H.obx
  obtain ⟨v, mid, c1, c2⟩ := pr_nextLapse (x := x) (m := m) (xs (nI (4 * j) + 1).toNatClampNeg) st z h H
  refine w_aload_n dL_law_656 rfl ?_
  refine w_aload_n dL_law_657 rfl ?_
  refine w_iload_n dL_law_658 rfl ?_
  refine w_iconst (v := 1) dL_law_659 rfl ?_
  refine w_iadd dL_law_660 ?_
  refine w_sld dL_law_661 (in_j hj hL (k := 1) (by decide)) ?_
  refine w_callV dL_law_662 kX4_nextLapse iX4_nextLapse q588 c1 ox rfl rfl rfl (Nat.le_of_ble_eq_true rfl) hc (fun r hp1 hq1 => ?_)
  obtain ⟨rfl, h1, rfl, hm1⟩ := hq1
  obtain ⟨⟨fm, om⟩, c3⟩ := c2 h1 hm1
  refine w_aload_n dL_law_665 rfl ?_
  refine w_aload_n dL_law_666 rfl ?_
  refine w_iload_n dL_law_667 rfl ?_
  refine w_iconst (v := 1) dL_law_668 rfl ?_
  refine w_iadd dL_law_669 ?_
  refine w_sld dL_law_670 (in_j hj hL (k := 1) (by decide)) ?_
  refine w_callV dL_law_671 kX5_nextLapse iX5_nextLapse q1006 c3 om rfl rfl rfl (Nat.le_of_ble_eq_true rfl) hc (fun r hp2 hq2 => ?_)
  obtain ⟨rfl, h2, rfl, hL2⟩ := hq2
  refine w_icmp_eq (x := v) (z := v) (tgt := 830) dL_law_674 (by decide) (fun _ => K h2 hL2) (fun c => absurd rfl c)
set_option maxRecDepth 100000 in
set_option maxHeartbeats 4000000 in
theorem lc_put (hxm : x + 166 ≤ m) {j : Nat} (hj : 4 * j + 3 < L) (hL : L ≤ 2048) {h : Nat → Option va_E} (H : LI h x m) (hc : cl ≤ 600000 ∧ sl ≤ 7302250) (K : ∀ h', LI h' x m → EvL st hp0 b L xs 830 [.ref b, .ref x, .ref m, .int (nI (4 * j))] [] (z, h') cl sl) : EvL st hp0 b L xs 679 [.ref b, .ref x, .ref m, .int (nI (4 * j))] [] (z, h) cl sl := by
  obtain ⟨fx, ox⟩ := H.obx
  obtain ⟨v, mid, c1, c2⟩ := pr_put (x := x) (m := m) hxm (((xs (nI (4 * j) + 1).toNatClampNeg).toInt64 <<< ((32 : Int32).toInt64 &&& 63)) ||| ((xs (nI (4 * j) + 2).toNatClampNeg).toInt64 &&& 4294967295)) st z h H
  refine w_aload_n dL_law_679 rfl ?_
  refine w_aload_n dL_law_680 rfl ?_
  refine w_iload_n dL_law_681 rfl ?_
  refine w_iconst (v := 1) dL_law_682 rfl ?_
  refine w_iadd dL_law_683 ?_
  refine w_sld dL_law_684 (in_j hj hL (k := 1) (by decide)) ?_
  refine w_i2l dL_law_685 ?_
  refine w_bipush (v := 32) dL_law_686 rfl ?_
  refine w_lshl dL_law_688 rfl ?_
  refine w_aload_n dL_law_689 rfl ?_
  refine w_iload_n dL_law_690 rfl ?_
  refine w_iconst (v := 2) dL_law_691 rfl ?_
  refine w_iadd dL_law_692 ?_
  refine w_sld dL_law_693 (in_j hj hL (k := 2) (by decide)) ?_
  refine w_i2l dL_law_694 ?_
  refine w_ldc2 (v := 4294967295) dL_law_695 q1062 ?_
  refine w_land dL_law_698 ?_
  refine w_lor dL_law_699 ?_
  refine w_callV dL_law_700 kX4_put iX4_put q600 c1 ox rfl rfl rfl (Nat.le_of_ble_eq_true rfl) hc (fun r hp1 hq1 => ?_)
  obtain ⟨rfl, h1, rfl, hm1⟩ := hq1
  obtain ⟨⟨fm, om⟩, c3⟩ := c2 h1 hm1
  refine w_aload_n dL_law_703 rfl ?_
  refine w_aload_n dL_law_704 rfl ?_
  refine w_iload_n dL_law_705 rfl ?_
  refine w_iconst (v := 1) dL_law_706 rfl ?_
  refine w_iadd dL_law_707 ?_
  refine w_sld dL_law_708 (in_j hj hL (k := 1) (by decide)) ?_
  refine w_i2l dL_law_709 ?_
  refine w_bipush (v := 32) dL_law_710 rfl ?_
  refine w_lshl dL_law_712 rfl ?_
  refine w_aload_n dL_law_713 rfl ?_
  refine w_iload_n dL_law_714 rfl ?_
  refine w_iconst (v := 2) dL_law_715 rfl ?_
  refine w_iadd dL_law_716 ?_
  refine w_sld dL_law_717 (in_j hj hL (k := 2) (by decide)) ?_
  refine w_i2l dL_law_718 ?_
  refine w_ldc2 (v := 4294967295) dL_law_719 q1062 ?_
  refine w_land dL_law_722 ?_
  refine w_lor dL_law_723 ?_
  refine w_callV dL_law_724 kX5_put iX5_put q1014 c3 om rfl rfl rfl (Nat.le_of_ble_eq_true rfl) hc (fun r hp2 hq2 => ?_)
  obtain ⟨rfl, h2, rfl, hL2⟩ := hq2
  refine w_icmp_eq (x := v) (z := v) (tgt := 830) dL_law_727 (by decide) (fun _ => K h2 hL2) (fun c => absurd rfl c)
set_option maxRecDepth 100000 in
set_option maxHeartbeats 4000000 in
theorem lc_wipe (hxm : x + 166 ≤ m) {j : Nat} (hj : 4 * j + 3 < L) (hL : L ≤ 2048) {h : Nat → Option va_E} (H : LI h x m) (hc : cl ≤ 600000 ∧ sl ≤ 7302250) (K : ∀ h', LI h' x m → EvL st hp0 b L xs 830 [.ref b, .ref x, .ref m, .int (nI (4 * j))] [] (z, h') cl sl) : EvL st hp0 b L xs 732 [.ref b, .ref x, .ref m, .int (nI (4 * j))] [] (z, h) cl sl := by
  obtain ⟨fx, ox⟩ := H.obx
  obtain ⟨v, mid, c1, c2⟩ := pr_wipe (x := x) (m := m) hxm  st z h H
  refine w_aload_n dL_law_732 rfl ?_
  refine w_callV dL_law_733 kX4_wipe iX4_wipe q614 c1 ox rfl rfl rfl (Nat.le_of_ble_eq_true rfl) hc (fun r hp1 hq1 => ?_)
  obtain ⟨rfl, h1, rfl, hm1⟩ := hq1
  obtain ⟨⟨fm, om⟩, c3⟩ := c2 h1 hm1
  refine w_aload_n dL_law_736 rfl ?_
  refine w_callV dL_law_737 kX5_wipe iX5_wipe q1019 c3 om rfl rfl rfl (Nat.le_of_ble_eq_true rfl) hc (fun r hp2 hq2 => ?_)
  obtain ⟨rfl, h2, rfl, hL2⟩ := hq2
  refine w_icmp_eq (x := v) (z := v) (tgt := 830) dL_law_740 (by decide) (fun _ => K h2 hL2) (fun c => absurd rfl c)
set_option maxRecDepth 100000 in
set_option maxHeartbeats 4000000 in
theorem lc_fault (hxm : x + 166 ≤ m) {j : Nat} (hj : 4 * j + 3 < L) (hL : L ≤ 2048) {h : Nat → Option va_E} (H : LI h x m) (hc : cl ≤ 600000 ∧ sl ≤ 7302250) (K : ∀ h', LI h' x m → EvL st hp0 b L xs 830 [.ref b, .ref x, .ref m, .int (nI (4 * j))] [] (z, h') cl sl) : EvL st hp0 b L xs 745 [.ref b, .ref x, .ref m, .int (nI (4 * j))] [] (z, h) cl sl := by
  obtain ⟨fx, ox⟩ := H.obx
  obtain ⟨v, mid, c1, c2⟩ := pr_fault (x := x) (m := m) hxm  st z h H
  refine w_aload_n dL_law_745 rfl ?_
  refine w_callV dL_law_746 kX4_fault iX4_fault q622 c1 ox rfl rfl rfl (Nat.le_of_ble_eq_true rfl) hc (fun r hp1 hq1 => ?_)
  obtain ⟨rfl, h1, rfl, hm1⟩ := hq1
  obtain ⟨⟨fm, om⟩, c3⟩ := c2 h1 hm1
  refine w_aload_n dL_law_749 rfl ?_
  refine w_callV dL_law_750 kX5_fault iX5_fault q1023 c3 om rfl rfl rfl (Nat.le_of_ble_eq_true rfl) hc (fun r hp2 hq2 => ?_)
  obtain ⟨rfl, h2, rfl, hL2⟩ := hq2
  refine w_icmp_eq (x := v) (z := v) (tgt := 830) dL_law_753 (by decide) (fun _ => K h2 hL2) (fun c => absurd rfl c)
set_option maxRecDepth 100000 in
set_option maxHeartbeats 4000000 in
theorem lc_carryOut (hxm : x + 166 ≤ m) {j : Nat} (hj : 4 * j + 3 < L) (hL : L ≤ 2048) {h : Nat → Option va_E} (H : LI h x m) (hc : cl ≤ 600000 ∧ sl ≤ 7302250) (K : ∀ h', LI h' x m → EvL st hp0 b L xs 830 [.ref b, .ref x, .ref m, .int (nI (4 * j))] [] (z, h') cl sl) : EvL st hp0 b L xs 758 [.ref b, .ref x, .ref m, .int (nI (4 * j))] [] (z, h) cl sl := by
  obtain ⟨fx, ox⟩ := H.obx
  obtain ⟨v, mid, c1, c2⟩ := pr_carryOut (x := x) (m := m) hxm  st z h H
  refine w_aload_n dL_law_758 rfl ?_
  refine w_callV dL_law_759 kX4_carryOut iX4_carryOut q658 c1 ox rfl rfl rfl (Nat.le_of_ble_eq_true rfl) hc (fun r hp1 hq1 => ?_)
  obtain ⟨rfl, h1, rfl, hm1⟩ := hq1
  obtain ⟨⟨fm, om⟩, c3⟩ := c2 h1 hm1
  refine w_aload_n dL_law_762 rfl ?_
  refine w_callV dL_law_763 kX5_carryOut iX5_carryOut q1050 c3 om rfl rfl rfl (Nat.le_of_ble_eq_true rfl) hc (fun r hp2 hq2 => ?_)
  obtain ⟨rfl, h2, rfl, hL2⟩ := hq2
  refine w_icmp_eq (x := v) (z := v) (tgt := 830) dL_law_766 (by decide) (fun _ => K h2 hL2) (fun c => absurd rfl c)
set_option maxRecDepth 100000 in
set_option maxHeartbeats 4000000 in
theorem lc_undo (hxm : x + 166 ≤ m) {j : Nat} (hj : 4 * j + 3 < L) (hL : L ≤ 2048) {h : Nat → Option va_E} (H : LI h x m) (hc : cl ≤ 600000 ∧ sl ≤ 7302250) (K : ∀ h', LI h' x m → EvL st hp0 b L xs 830 [.ref b, .ref x, .ref m, .int (nI (4 * j))] [] (z, h') cl sl) : EvL st hp0 b L xs 771 [.ref b, .ref x, .ref m, .int (nI (4 * j))] [] (z, h) cl sl := by
  obtain ⟨fx, ox⟩ := H.obx
  obtain ⟨v, mid, c1, c2⟩ := pr_undo (x := x) (m := m) hxm  st z h H
  refine w_aload_n dL_law_771 rfl ?_
  refine w_callV dL_law_772 kX4_undo iX4_undo q668 c1 ox rfl rfl rfl (Nat.le_of_ble_eq_true rfl) hc (fun r hp1 hq1 => ?_)
  obtain ⟨rfl, h1, rfl, hm1⟩ := hq1
  obtain ⟨⟨fm, om⟩, c3⟩ := c2 h1 hm1
  refine w_aload_n dL_law_775 rfl ?_
  refine w_callV dL_law_776 kX5_undo iX5_undo q720 c3 om rfl rfl rfl (Nat.le_of_ble_eq_true rfl) hc (fun r hp2 hq2 => ?_)
  obtain ⟨rfl, h2, rfl, hL2⟩ := hq2
  refine w_icmp_eq (x := v) (z := v) (tgt := 830) dL_law_779 (by decide) (fun _ => K h2 hL2) (fun c => absurd rfl c)
set_option maxRecDepth 100000 in
set_option maxHeartbeats 4000000 in
theorem lc_save (hxm : x + 166 ≤ m) {j : Nat} (hj : 4 * j + 3 < L) (hL : L ≤ 2048) {h : Nat → Option va_E} (H : LI h x m) (hc : cl ≤ 600000 ∧ sl ≤ 7302250) (K : ∀ h', LI h' x m → EvL st hp0 b L xs 830 [.ref b, .ref x, .ref m, .int (nI (4 * j))] [] (z, h') cl sl) : EvL st hp0 b L xs 784 [.ref b, .ref x, .ref m, .int (nI (4 * j))] [] (z, h) cl sl := by
  obtain ⟨fx, ox⟩ := H.obx
  obtain ⟨v, mid, c1, c2⟩ := pr_save (x := x) (m := m) hxm (xs (nI (4 * j) + 1).toNatClampNeg) st z h H
  refine w_aload_n dL_law_784 rfl ?_
  refine w_aload_n dL_law_785 rfl ?_
  refine w_iload_n dL_law_786 rfl ?_
  refine w_iconst (v := 1) dL_law_787 rfl ?_
  refine w_iadd dL_law_788 ?_
  refine w_sld dL_law_789 (in_j hj hL (k := 1) (by decide)) ?_
  refine w_callV dL_law_790 kX4_save iX4_save q672 c1 ox rfl rfl rfl (Nat.le_of_ble_eq_true rfl) hc (fun r hp1 hq1 => ?_)
  obtain ⟨rfl, h1, rfl, hm1⟩ := hq1
  obtain ⟨⟨fm, om⟩, c3⟩ := c2 h1 hm1
  refine w_aload_n dL_law_793 rfl ?_
  refine w_aload_n dL_law_794 rfl ?_
  refine w_iload_n dL_law_795 rfl ?_
  refine w_iconst (v := 1) dL_law_796 rfl ?_
  refine w_iadd dL_law_797 ?_
  refine w_sld dL_law_798 (in_j hj hL (k := 1) (by decide)) ?_
  refine w_callV dL_law_799 kX5_save iX5_save q727 c3 om rfl rfl rfl (Nat.le_of_ble_eq_true rfl) hc (fun r hp2 hq2 => ?_)
  obtain ⟨rfl, h2, rfl, hL2⟩ := hq2
  refine w_icmp_eq (x := v) (z := v) (tgt := 830) dL_law_802 (by decide) (fun _ => K h2 hL2) (fun c => absurd rfl c)
set_option maxRecDepth 100000 in
set_option maxHeartbeats 4000000 in
theorem lc_restore (hxm : x + 166 ≤ m) {j : Nat} (hj : 4 * j + 3 < L) (hL : L ≤ 2048) {h : Nat → Option va_E} (H : LI h x m) (hc : cl ≤ 600000 ∧ sl ≤ 7302250) (K : ∀ h', LI h' x m → EvL st hp0 b L xs 830 [.ref b, .ref x, .ref m, .int (nI (4 * j))] [] (z, h') cl sl) : EvL st hp0 b L xs 807 [.ref b, .ref x, .ref m, .int (nI (4 * j))] [] (z, h) cl sl := by
  obtain ⟨fx, ox⟩ := H.obx
  obtain ⟨v, mid, c1, c2⟩ := pr_restore (x := x) (m := m) hxm (xs (nI (4 * j) + 1).toNatClampNeg) st z h H
  refine w_aload_n dL_law_807 rfl ?_
  refine w_aload_n dL_law_808 rfl ?_
  refine w_iload_n dL_law_809 rfl ?_
  refine w_iconst (v := 1) dL_law_810 rfl ?_
  refine w_iadd dL_law_811 ?_
  refine w_sld dL_law_812 (in_j hj hL (k := 1) (by decide)) ?_
  refine w_callV dL_law_813 kX4_restore iX4_restore q676 c1 ox rfl rfl rfl (Nat.le_of_ble_eq_true rfl) hc (fun r hp1 hq1 => ?_)
  obtain ⟨rfl, h1, rfl, hm1⟩ := hq1
  obtain ⟨⟨fm, om⟩, c3⟩ := c2 h1 hm1
  refine w_aload_n dL_law_816 rfl ?_
  refine w_aload_n dL_law_817 rfl ?_
  refine w_iload_n dL_law_818 rfl ?_
  refine w_iconst (v := 1) dL_law_819 rfl ?_
  refine w_iadd dL_law_820 ?_
  refine w_sld dL_law_821 (in_j hj hL (k := 1) (by decide)) ?_
  refine w_callV dL_law_822 kX5_restore iX5_restore q734 c3 om rfl rfl rfl (Nat.le_of_ble_eq_true rfl) hc (fun r hp2 hq2 => ?_)
  obtain ⟨rfl, h2, rfl, hL2⟩ := hq2
  refine w_icmp_eq (x := v) (z := v) (tgt := 830) dL_law_825 (by decide) (fun _ => K h2 hL2) (fun c => absurd rfl c)
end LC
