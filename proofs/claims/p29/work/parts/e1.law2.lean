/-! THE LAW: refuses, its loop -/
theorem lg_self (a : Int64) : lg_cmp a a = 0 := by
  unfold lg_cmp
  rw [if_neg (fun h => Int64.lt_irrefl h), if_pos rfl]
section SQ
variable {st : Nat → Nat} {k : Nat} {y : MethodName} {cc : ByteArray} {nL : Nat} {ret : Option FieldType} {hp0 : Hp} {mc ms : Nat} {fin : Option Value → Hp → Prop} {pc : Nat} {lv stk stk0 : List Value} {hp : Hp} {cl sl : Nat}
variable {idx n1 nL1 x : Nat} {y1 : MethodName} {cc1 : ByteArray} {ret1 : Option FieldType} {As : List Value}
theorem l_sq {r : Int32} {σ' τ' : Sg} {n' : Nat} {sl' : Nat → Sg} {sv' : Nat → Int32} (hd : decode cc pc = .ok (.invokestatic idx, 3)) (hy : ax_kM y1 cc1 nL1 ret1 n1) (hi : Cond.static y1 ∈ TB) (hl : Cond.methodLink y.cls idx y1 ∈ TB) (hc : CT st k y1 cc1 nL1 ret1 As hp 0 0 (XQ r hp.1 x σ' n' τ' sl' sv')) (hs : stk0 = As.reverse ++ stk) (hn : As.length = n1) (hr : (stk.map fun v => v.category).sum ≤ 8) (hm : cl ≤ mc ∧ sl ≤ ms) (h : ∀ h', XS h' x σ' n' τ' sl' sv' → Ev st (k + 1) y cc nL ret hp0 mc ms fin (pc + 3) lv (.int r :: stk) (hp.1, h') cl sl) : Ev st (k + 1) y cc nL ret hp0 mc ms fin pc lv stk0 hp cl sl := by
  refine x_callS hd hy hi hl hc hs hn hr hm (fun r' hp' hq => ?_)
  obtain ⟨rfl, h', rfl, q1⟩ := hq
  exact h h' q1
end SQ

set_option maxRecDepth 100000 in
set_option maxHeartbeats 8000000 in
theorem t_refuses {st : Nat → Nat} (d : Nat) {z : Nat} {h : Nat → Option va_E} {x : Nat} {σ τ : Sg} {n : Nat} {sl : Nat → Sg} {sv : Nat → Int32} (hX : XS h x σ n τ sl sv) {X : Int32} {a : Nat} (ha : a < 2 ^ 31) (eX : X = nI a) : CT st (d + 9) yL_refuses cL_refuses 5 (some .boolean) [.ref x, .int X] (z, h) 0 0 (XQ 1 z x σ n τ sl sv) := by
  refine CT.of (lv := [.ref x, .int X, .null, .null, .null]) (by decide) (Nat.le_of_ble_eq_true rfl) rfl rfl ?_
  refine x_aload_n dL_refuses_0 rfl ?_
  refine c_SR dL_refuses_1 kL_seen q297 q296 (t_seen d hX) rfl rfl (Nat.le_of_ble_eq_true rfl) ⟨Nat.le_refl _, Nat.le_refl _⟩ ?_
  refine e_lsd_n (b := vSeen σ) (lv2 := [.ref x, .int X, .long (vSeen σ), .null, .null]) dL_refuses_4 (Nat.le_of_ble_eq_true rfl) rfl rfl rfl ?_
  refine x_aload_n dL_refuses_5 rfl ?_
  refine x_bipush (v := 20) dL_refuses_6 rfl ?_
  refine l_cn (v := nI n) dL_refuses_8 q201 hX (Nat.le_of_ble_eq_true rfl) ⟨Nat.le_refl _, Nat.le_refl _⟩ (fun _ _ => xC_20 _ _ _) ?_
  refine e_isd (b := nI n) (lv2 := [.ref x, .int X, .long (vSeen σ), .null, .int (nI n)]) dL_refuses_11 (Nat.le_of_ble_eq_true rfl) rfl rfl rfl ?_
  refine x_aload_n dL_refuses_13 rfl ?_
  refine x_iload_n dL_refuses_14 rfl ?_
  refine l_sq dL_refuses_15 kL_refusesAny q443 q442 (t_refusesAny d hX ha eX) rfl rfl (Nat.le_of_ble_eq_true rfl) ⟨Nat.le_refl _, Nat.le_refl _⟩ (fun h8 hX8 => ?_)
  refine x_if_eq (tgt := 45) dL_refuses_18 (by decide) (fun c => absurd c (by decide)) (fun _ => ?_)
  refine x_aload_n dL_refuses_21 rfl ?_
  refine c_SR dL_refuses_22 kL_seen q297 q296 (t_seen d hX8) rfl rfl (Nat.le_of_ble_eq_true rfl) ⟨Nat.le_refl _, Nat.le_refl _⟩ ?_
  refine x_lload_n dL_refuses_25 rfl ?_
  refine x_lcmp dL_refuses_26 ?_
  refine x_if_ne (tgt := 45) dL_refuses_27 (by decide) (fun c => absurd (lg_self _) c) (fun _ => ?_)
  refine x_aload_n dL_refuses_30 rfl ?_
  refine x_bipush (v := 20) dL_refuses_31 rfl ?_
  refine l_cn (v := nI n) dL_refuses_33 q201 hX8 (Nat.le_of_ble_eq_true rfl) ⟨Nat.le_refl _, Nat.le_refl _⟩ (fun _ _ => xC_20 _ _ _) ?_
  refine x_iload dL_refuses_36 rfl ?_
  refine x_icmp_ne (tgt := 45) dL_refuses_38 (by decide) (fun c => absurd rfl c) (fun _ => ?_)
  refine x_iconst (v := 1) dL_refuses_41 rfl ?_
  refine x_goto (tgt := 46) dL_refuses_42 (by decide) ?_
  refine x_iret dL_refuses_46 (Or.inr ⟨rfl, rfl⟩) rfl (Nat.le_refl _) ?_
  exact ⟨rfl, _, rfl, hX8⟩

section LAW
variable {st : Nat → Nat} {hp0 : Hp} {b L : Nat} {xs : Nat → Int32} {x z : Nat} {cl sl : Nat}
theorem w_un {idx m pc : Nat} {lv stk : List Value} {hp : Hp} {σ τ : Sg} {sl0 : Nat → Sg} {sv : Nat → Int32} (hd : decode cL_law pc = .ok (.invokevirtual idx, 3)) (hl : Cond.methodLink RL idx yX4_undo ∈ TB) (hX : XS hp.2 x σ (m + 1) τ sl0 sv) (hQ : QI τ) (hr : (stk.map fun v => v.category).sum ≤ 8) (hm : cl ≤ 600000 ∧ sl ≤ 7302250) (h : ∀ h' ρ, XS h' x τ m ρ sl0 sv → EvL st hp0 b L xs (pc + 3) lv (.int (nI m) :: stk) (hp.1, h') cl sl) : EvL st hp0 b L xs pc lv (.ref x :: stk) hp cl sl := by
  obtain ⟨fs, ho⟩ := hX.ob
  refine w_callV hd kX4_undo iX4_undo hl (ct_undo 6 (z := hp.1) hX hQ) ho rfl rfl rfl hr hm (fun r' hp' hq => ?_)
  obtain ⟨rfl, h', rfl, ρ, q1⟩ := hq
  exact h h' ρ q1
/-- how the object stands at the loop's head -/
def LwS (h : Nat → Option va_E) (x : Nat) : Prop := ∃ σ n τ sl sv, XS h x σ n τ sl sv ∧ ¬ sv 1 = 0 ∧ QI (sl 1) ∧ nLo (sl 1) = 0 ∧ nCl (sl 1) = 0
theorem a7 {a : Nat} (ha : a < 2 ^ 31) : nI a / 7 = nI (a / 7) := nI_div (b := 7) ha (by decide)

set_option maxRecDepth 100000 in
set_option maxHeartbeats 8000000 in
theorem L_no {i a n : Nat} (hi : i < 70) (ha : a < 2 ^ 31) (hc : cl ≤ 600000 ∧ sl ≤ 7302250) {h : Nat → Option va_E} {sl0 : Nat → Sg} {sv : Nat → Int32} (h1 : ¬ sv 1 = 0) (h2 : QI (sl0 1)) (h3 : nLo (sl0 1) = 0) (h4 : nCl (sl0 1) = 0) {σ τ : Sg} (hX : XS h x σ n τ sl0 sv) (IH : ∀ h', LwS h' x → ∀ a4 a5 a6 a7 a8 a9 a10 a11 a12 : Value, EvL st hp0 b L xs 124 [.ref b, .ref x, .int 1, .int (nI (i + 1)), a4, a5, a6, a7, a8, a9, a10, a11, a12] [] (z, h') cl sl) (a10 a11 a12 : Value)  : EvL st hp0 b L xs 222 [.ref b, .ref x, .int 1, .int (nI i), .int (nI a), .long (vSeen σ), .null, .int (nI n), .int 0, .int (nI n), a10, a11, a12] [] (z, h) cl sl := by
  have j235 : EvL st hp0 b L xs 235 [.ref b, .ref x, .int 1, .int (nI i), .int (nI a), .long (vSeen σ), .null, .int (nI n), .int 0, .int (nI n), a10, a11, a12] [] (z, h) cl sl := by
    have j249 : EvL st hp0 b L xs 249 [.ref b, .ref x, .int 1, .int (nI i), .int (nI a), .long (vSeen σ), .null, .int (nI n), .int 0, .int (nI n), a10, a11, a12] [] (z, h) cl sl := by
      have j270 : ∀ (g270 : Nat → Option va_E), XS g270 x σ n τ sl0 sv → EvL st hp0 b L xs 270 [.ref b, .ref x, .int 1, .int (nI i), .int (nI a), .long (vSeen σ), .null, .int (nI n), .int 0, .int (nI n), a10, a11, a12] [] (z, g270) cl sl := fun g270 hG270 => by
        refine w_iconst (v := 1) dL_law_270 rfl ?_
        refine w_goto (tgt := 275) dL_law_271 (by decide) ?_
        refine w_isd_n (a2 := 1) (lv2 := [.ref b, .ref x, .int 1, .int (nI i), .int (nI a), .long (vSeen σ), .null, .int (nI n), .int 0, .int (nI n), a10, a11, a12]) dL_law_275 (Nat.le_of_ble_eq_true rfl) rfl rfl rfl ?_
        refine w_iload_n dL_law_276 rfl ?_
        refine w_if_eq (tgt := 370) dL_law_277 (by decide) (fun c => absurd c (by decide)) (fun _ => ?_)
        refine w_iload dL_law_280 rfl ?_
        refine w_iconst (v := 1) dL_law_282 rfl ?_
        refine w_icmp_ne (tgt := 370) dL_law_283 (by decide) (fun _ => ?_) (fun c => absurd c (by decide))
        refine w_incd (a2 := nI (i + 1)) (lv2 := [.ref b, .ref x, .int 1, .int (nI (i + 1)), .int (nI a), .long (vSeen σ), .null, .int (nI n), .int 0, .int (nI n), a10, a11, a12]) dL_law_370 rfl (nI_1 _) rfl rfl ?_
        refine w_goto (tgt := 124) dL_law_373 (by decide) ?_
        exact IH _ ⟨_, _, _, _, _, hG270, h1, h2, h3, h4⟩ _ _ _ _ _ _ _ _ _
      refine w_iload_n dL_law_249 rfl ?_
      refine w_bipush (v := 7) dL_law_250 rfl ?_
      refine w_irem dL_law_252 (by decide) ?_
      refine w_bipush (v := 6) dL_law_253 rfl ?_
      refine w_icmp_ne (tgt := 270) dL_law_255 (by decide) (fun c255 => ?_) (fun c255 => ?_)
      · exact (j270 _ hX)
      · refine w_aload_n dL_law_258 rfl ?_
        refine w_iload dL_law_259 rfl ?_
        refine w_bipush (v := 7) dL_law_261 rfl ?_
        refine w_idiv dL_law_263 (by decide) ?_
        refine w_sq dL_law_264 kL_refuses q440 q439 (t_refuses 1 hX (Nat.lt_of_le_of_lt (Nat.div_le_self a 7) ha) (a7 ha)) rfl rfl (Nat.le_of_ble_eq_true rfl) hc (fun r1 hR1 => ?_)
        refine w_if_eq (tgt := 274) dL_law_267 (by decide) (fun c => absurd c (by decide)) (fun _ => ?_)
        exact (j270 _ hR1)
    refine w_iload_n dL_law_235 rfl ?_
    refine w_iconst (v := 4) dL_law_236 rfl ?_
    refine w_irem dL_law_237 (by decide) ?_
    refine w_iconst (v := 3) dL_law_238 rfl ?_
    refine w_icmp_ne (tgt := 249) dL_law_239 (by decide) (fun c239 => ?_) (fun c239 => ?_)
    · exact j249
    · refine w_aload_n dL_law_242 rfl ?_
      refine w_sr dL_law_243 kL_areLots q377 q376 (t_areLots 2 hX) rfl rfl (Nat.le_of_ble_eq_true rfl) hc ?_
      refine w_if_eq (tgt := 274) dL_law_246 (by decide) (fun c => absurd c (by decide)) (fun _ => ?_)
      exact j249
  refine w_iload_n dL_law_222 rfl ?_
  refine w_iconst (v := 3) dL_law_223 rfl ?_
  refine w_irem dL_law_224 (by decide) ?_
  refine w_if_eq (tgt := 235) dL_law_225 (by decide) (fun c225 => ?_) (fun c225 => ?_)
  · exact j235
  · refine w_aload_n dL_law_228 rfl ?_
    refine w_sr dL_law_229 kL_areClaims q421 q420 (t_areClaims 2 hX) rfl rfl (Nat.le_of_ble_eq_true rfl) hc ?_
    refine w_if_eq (tgt := 274) dL_law_232 (by decide) (fun c => absurd c (by decide)) (fun _ => ?_)
    exact j235

set_option maxRecDepth 100000 in
set_option maxHeartbeats 8000000 in
theorem L_yes {i a n : Nat} (hi : i < 70) (ha : a < 2 ^ 31) (hc : cl ≤ 600000 ∧ sl ≤ 7302250) {h : Nat → Option va_E} {sl0 : Nat → Sg} {sv : Nat → Int32} (h1 : ¬ sv 1 = 0) (h2 : QI (sl0 1)) (h3 : nLo (sl0 1) = 0) (h4 : nCl (sl0 1) = 0) (hn : n ≤ 6) {σ σ1 : Sg} (hQ : QI σ) (hX : XS h x σ1 (nx n) σ sl0 sv) (IH : ∀ h', LwS h' x → ∀ a4 a5 a6 a7 a8 a9 a10 a11 a12 : Value, EvL st hp0 b L xs 124 [.ref b, .ref x, .int 1, .int (nI (i + 1)), a4, a5, a6, a7, a8, a9, a10, a11, a12] [] (z, h') cl sl) (a10 a11 a12 : Value)  : EvL st hp0 b L xs 222 [.ref b, .ref x, .int 1, .int (nI i), .int (nI a), .long (vSeen σ), .null, .int (nI n), .int 1, .int (nI (nx n)), a10, a11, a12] [] (z, h) cl sl := by
  have l12 := hX.q.2.1.lok.2
  have hQ1 := hX.q
  obtain ⟨m, em⟩ : ∃ m, nx n = m + 1 := ⟨nx n - 1, by unfold nx; split <;> omega⟩
  have pm1 : 6 ≤ nI n → (5 : Int32) = nI m := fun q => by
    rw [show (6 : Int32) = nI 6 from rfl, nI_leI (by decide) (by omega)] at q
    unfold nx at em
    rw [if_neg (by omega)] at em
    rw [show m = 5 by omega]
    rfl
  have pm2 : ¬ 6 ≤ nI n → nI n = nI m := fun q => by
    rw [show (6 : Int32) = nI 6 from rfl, nI_leI (by decide) (by omega)] at q
    unfold nx at em
    rw [if_pos (by omega)] at em
    rw [show m = n by omega]
  have z0 : (0 : Int32).toNatClampNeg = 0 := rfl
  have hs1 : ¬ upd sv (0 : Int32).toNatClampNeg 1 (0 : Int32).toNatClampNeg = 0 := by
    rw [z0]
    unfold upd
    rw [if_pos rfl]
    decide
  have hs0 : hup sl0 (0 : Int32).toNatClampNeg σ1 (0 : Int32).toNatClampNeg = σ1 := by
    rw [z0]
    exact if_pos rfl
  have e1 : hup sl0 (0 : Int32).toNatClampNeg σ1 1 = sl0 1 := by
    rw [z0]
    exact if_neg (by decide)
  have hk1 : ¬ upd sv (0 : Int32).toNatClampNeg 1 1 = 0 := by
    rw [z0]
    unfold upd
    rw [if_neg (by decide)]
    exact h1
  have hk2 : QI (hup sl0 (0 : Int32).toNatClampNeg σ1 1) := by rw [e1]; exact h2
  have hk3 : nLo (hup sl0 (0 : Int32).toNatClampNeg σ1 1) = 0 := by rw [e1]; exact h3
  have hk4 : nCl (hup sl0 (0 : Int32).toNatClampNeg σ1 1) = 0 := by rw [e1]; exact h4
  have j235 : EvL st hp0 b L xs 235 [.ref b, .ref x, .int 1, .int (nI i), .int (nI a), .long (vSeen σ), .null, .int (nI n), .int 1, .int (nI (nx n)), a10, a11, a12] [] (z, h) cl sl := by
    have j249 : EvL st hp0 b L xs 249 [.ref b, .ref x, .int 1, .int (nI i), .int (nI a), .long (vSeen σ), .null, .int (nI n), .int 1, .int (nI (nx n)), a10, a11, a12] [] (z, h) cl sl := by
      have j270 : ∀ (g270 : Nat → Option va_E), XS g270 x σ1 (nx n) σ sl0 sv → EvL st hp0 b L xs 270 [.ref b, .ref x, .int 1, .int (nI i), .int (nI a), .long (vSeen σ), .null, .int (nI n), .int 1, .int (nI (nx n)), a10, a11, a12] [] (z, g270) cl sl := fun g270 hG270 => by
        refine w_iconst (v := 1) dL_law_270 rfl ?_
        refine w_goto (tgt := 275) dL_law_271 (by decide) ?_
        refine w_isd_n (a2 := 1) (lv2 := [.ref b, .ref x, .int 1, .int (nI i), .int (nI a), .long (vSeen σ), .null, .int (nI n), .int 1, .int (nI (nx n)), a10, a11, a12]) dL_law_275 (Nat.le_of_ble_eq_true rfl) rfl rfl rfl ?_
        refine w_iload_n dL_law_276 rfl ?_
        refine w_if_eq (tgt := 370) dL_law_277 (by decide) (fun c => absurd c (by decide)) (fun _ => ?_)
        refine w_iload dL_law_280 rfl ?_
        refine w_iconst (v := 1) dL_law_282 rfl ?_
        refine w_icmp_ne (tgt := 370) dL_law_283 (by decide) (fun c => absurd (by decide) c) (fun _ => ?_)
        refine w_iload dL_law_286 rfl ?_
        refine w_bipush (v := 17) dL_law_288 rfl ?_
        refine w_idiv dL_law_290 (by decide) ?_
        refine w_iconst (v := 4) dL_law_291 rfl ?_
        refine w_irem dL_law_292 (by decide) ?_
        refine w_if_ne (tgt := 370) dL_law_293 (by decide) (fun c293 => ?_) (fun c293 => ?_)
        · refine w_incd (a2 := nI (i + 1)) (lv2 := [.ref b, .ref x, .int 1, .int (nI (i + 1)), .int (nI a), .long (vSeen σ), .null, .int (nI n), .int 1, .int (nI (nx n)), a10, a11, a12]) dL_law_370 rfl (nI_1 _) rfl rfl ?_
          refine w_goto (tgt := 124) dL_law_373 (by decide) ?_
          exact IH _ ⟨_, _, _, _, _, hG270, h1, h2, h3, h4⟩ _ _ _ _ _ _ _ _ _
        · refine w_aload_n dL_law_296 rfl ?_
          refine w_sr dL_law_297 kL_seen q297 q296 (t_seen 2 hG270) rfl rfl (Nat.le_of_ble_eq_true rfl) hc ?_
          refine w_lsd (a2 := vSeen σ1) (lv2 := [.ref b, .ref x, .int 1, .int (nI i), .int (nI a), .long (vSeen σ), .null, .int (nI n), .int 1, .int (nI (nx n)), .long (vSeen σ1), .null, a12]) dL_law_300 (Nat.le_of_ble_eq_true rfl) rfl rfl rfl ?_
          refine w_aload_n dL_law_302 rfl ?_
          refine w_iconst (v := 0) dL_law_303 rfl ?_
          refine w_xq dL_law_304 kX4_save iX4_save q270 hG270 (ct_save 6 hG270 (a := 0) rfl) rfl rfl rfl (Nat.le_of_ble_eq_true rfl) hc (fun r1 hR1 => ?_)
          rw [em] at hR1
          refine w_isd (a2 := (nI (nLo σ1))) (lv2 := [.ref b, .ref x, .int 1, .int (nI i), .int (nI a), .long (vSeen σ), .null, .int (nI n), .int 1, .int (nI (nx n)), .long (vSeen σ1), .null, .int (nI (nLo σ1))]) dL_law_307 (Nat.le_of_ble_eq_true rfl) rfl rfl rfl ?_
          refine w_iload dL_law_309 rfl ?_
          refine w_if_lt (tgt := 368) dL_law_311 (by decide) (fun c => absurd c (nng (by omega))) (fun _ => ?_)
          refine w_aload_n dL_law_314 rfl ?_
          refine w_un dL_law_315 q252 hR1 hQ (Nat.le_of_ble_eq_true rfl) hc (fun r2 ρ2 hR2 => ?_)
          have j331 : EvL st hp0 b L xs 331 [.ref b, .ref x, .int 1, .int (nI i), .int (nI a), .long (vSeen σ), .null, .int (nI n), .int 1, .int (nI (nx n)), .long (vSeen σ1), .null, .int (nI (nLo σ1))] [.int (nI m), .int (nI m)] (z, r2) cl sl := by
            refine w_icmp_ne (tgt := 368) dL_law_331 (by decide) (fun c => absurd rfl c) (fun _ => ?_)
            refine w_aload_n dL_law_334 rfl ?_
            refine w_sr dL_law_335 kL_seen q297 q296 (t_seen 2 hR2) rfl rfl (Nat.le_of_ble_eq_true rfl) hc ?_
            refine w_lload dL_law_338 rfl ?_
            refine w_lcmp dL_law_340 ?_
            refine w_if_ne (tgt := 368) dL_law_341 (by decide) (fun c => absurd (lg_self _) c) (fun _ => ?_)
            refine w_aload_n dL_law_344 rfl ?_
            refine w_iconst (v := 0) dL_law_345 rfl ?_
            refine w_xq dL_law_346 kX4_restore iX4_restore q274 hR2 (ct_rest 5 hR2 (a := 0) rfl hs1 hs0 hQ1) rfl rfl rfl (Nat.le_of_ble_eq_true rfl) hc (fun r3 hR3 => ?_)
            refine w_iload dL_law_349 rfl ?_
            refine w_icmp_ne (tgt := 368) dL_law_351 (by decide) (fun c => absurd rfl c) (fun _ => ?_)
            refine w_aload_n dL_law_354 rfl ?_
            refine w_sr dL_law_355 kL_seen q297 q296 (t_seen 2 hR3) rfl rfl (Nat.le_of_ble_eq_true rfl) hc ?_
            refine w_lload dL_law_358 rfl ?_
            refine w_lcmp dL_law_360 ?_
            refine w_if_ne (tgt := 368) dL_law_361 (by decide) (fun c => absurd (lg_self _) c) (fun _ => ?_)
            refine w_iconst (v := 1) dL_law_364 rfl ?_
            refine w_goto (tgt := 369) dL_law_365 (by decide) ?_
            refine w_isd_n (a2 := 1) (lv2 := [.ref b, .ref x, .int 1, .int (nI i), .int (nI a), .long (vSeen σ), .null, .int (nI n), .int 1, .int (nI (nx n)), .long (vSeen σ1), .null, .int (nI (nLo σ1))]) dL_law_369 (Nat.le_of_ble_eq_true rfl) rfl rfl rfl ?_
            refine w_incd (a2 := nI (i + 1)) (lv2 := [.ref b, .ref x, .int 1, .int (nI (i + 1)), .int (nI a), .long (vSeen σ), .null, .int (nI n), .int 1, .int (nI (nx n)), .long (vSeen σ1), .null, .int (nI (nLo σ1))]) dL_law_370 rfl (nI_1 _) rfl rfl ?_
            refine w_goto (tgt := 124) dL_law_373 (by decide) ?_
            exact IH _ ⟨_, _, _, _, _, hR3, hk1, hk2, hk3, hk4⟩ _ _ _ _ _ _ _ _ _
          refine w_iload dL_law_318 rfl ?_
          refine w_bipush (v := 6) dL_law_320 rfl ?_
          refine w_icmp_ge (tgt := 330) dL_law_322 (by decide) (fun c322 => ?_) (fun c322 => ?_)
          · refine w_iconst (v := 5) dL_law_330 rfl ?_
            exact w_top (a2 := nI m) (by first | exact pm1 c322 | exact pm2 c322) j331
          · refine w_iload dL_law_325 rfl ?_
            refine w_goto (tgt := 331) dL_law_327 (by decide) ?_
            exact w_top (a2 := nI m) (by first | exact pm1 c322 | exact pm2 c322) j331
      refine w_iload_n dL_law_249 rfl ?_
      refine w_bipush (v := 7) dL_law_250 rfl ?_
      refine w_irem dL_law_252 (by decide) ?_
      refine w_bipush (v := 6) dL_law_253 rfl ?_
      refine w_icmp_ne (tgt := 270) dL_law_255 (by decide) (fun c255 => ?_) (fun c255 => ?_)
      · exact (j270 _ hX)
      · refine w_aload_n dL_law_258 rfl ?_
        refine w_iload dL_law_259 rfl ?_
        refine w_bipush (v := 7) dL_law_261 rfl ?_
        refine w_idiv dL_law_263 (by decide) ?_
        refine w_sq dL_law_264 kL_refuses q440 q439 (t_refuses 1 hX (Nat.lt_of_le_of_lt (Nat.div_le_self a 7) ha) (a7 ha)) rfl rfl (Nat.le_of_ble_eq_true rfl) hc (fun r4 hR4 => ?_)
        refine w_if_eq (tgt := 274) dL_law_267 (by decide) (fun c => absurd c (by decide)) (fun _ => ?_)
        exact (j270 _ hR4)
    refine w_iload_n dL_law_235 rfl ?_
    refine w_iconst (v := 4) dL_law_236 rfl ?_
    refine w_irem dL_law_237 (by decide) ?_
    refine w_iconst (v := 3) dL_law_238 rfl ?_
    refine w_icmp_ne (tgt := 249) dL_law_239 (by decide) (fun c239 => ?_) (fun c239 => ?_)
    · exact j249
    · refine w_aload_n dL_law_242 rfl ?_
      refine w_sr dL_law_243 kL_areLots q377 q376 (t_areLots 2 hX) rfl rfl (Nat.le_of_ble_eq_true rfl) hc ?_
      refine w_if_eq (tgt := 274) dL_law_246 (by decide) (fun c => absurd c (by decide)) (fun _ => ?_)
      exact j249
  refine w_iload_n dL_law_222 rfl ?_
  refine w_iconst (v := 3) dL_law_223 rfl ?_
  refine w_irem dL_law_224 (by decide) ?_
  refine w_if_eq (tgt := 235) dL_law_225 (by decide) (fun c225 => ?_) (fun c225 => ?_)
  · exact j235
  · refine w_aload_n dL_law_228 rfl ?_
    refine w_sr dL_law_229 kL_areClaims q421 q420 (t_areClaims 2 hX) rfl rfl (Nat.le_of_ble_eq_true rfl) hc ?_
    refine w_if_eq (tgt := 274) dL_law_232 (by decide) (fun c => absurd c (by decide)) (fun _ => ?_)
    exact j235

set_option maxRecDepth 100000 in
set_option maxHeartbeats 8000000 in
theorem L_law (hL : L ≤ 260) (hc : cl ≤ 600000 ∧ sl ≤ 7302250) : ∀ (k i : Nat) (h : Nat → Option va_E), i + k = 70 → LwS h x → ∀ a4 a5 a6 a7 a8 a9 a10 a11 a12 : Value, EvL st hp0 b L xs 124 [.ref b, .ref x, .int 1, .int (nI i), a4, a5, a6, a7, a8, a9, a10, a11, a12] [] (z, h) cl sl := by
  intro k
  induction k with
  | zero =>
    intro i h hi hS a4 a5 a6 a7 a8 a9 a10 a11 a12
    obtain rfl : i = 70 := by omega
    obtain ⟨σ, n, τ, sl0, sv, hX, h1, h2, h3, h4⟩ := hS
    have hQ := hX.q
    have hn6 := hX.n6
    obtain ⟨m, em⟩ : ∃ m, nx n = m + 1 := ⟨nx n - 1, by unfold nx; split <;> omega⟩
    have hm6 : m ≤ 6 := by have : nx n ≤ 6 := (by unfold nx; split <;> omega); omega
    refine w_iload_n dL_law_124 rfl ?_
    refine w_bipush (v := 70) dL_law_125 rfl ?_
    refine w_icmp_ge (tgt := 376) dL_law_127 (by decide) (fun _ => ?_) (fun c => absurd (by decide) c)
    refine w_iload_n dL_law_376 rfl ?_
    refine w_if_eq (tgt := 414) dL_law_377 (by decide) (fun c => absurd c (by decide)) (fun _ => ?_)
    refine w_aload_n dL_law_380 rfl ?_
    refine w_iconst (v := 1) dL_law_381 rfl ?_
    refine w_xq dL_law_382 kX4_restore iX4_restore q274 hX (ct_rest 5 hX (a := 1) (ρ := sl0 1) rfl h1 rfl h2) rfl rfl rfl (Nat.le_of_ble_eq_true rfl) hc (fun r1 hR1 => ?_)
    rw [em] at hR1
    refine w_if_ne (tgt := 414) dL_law_385 (by decide) (fun c => absurd (by rw [h3]; rfl) c) (fun _ => ?_)
    refine w_aload_n dL_law_388 rfl ?_
    refine w_iconst (v := 2) dL_law_389 rfl ?_
    refine w_cn (v := nI (nCl (sl0 1))) dL_law_390 q201 hR1 (Nat.le_of_ble_eq_true rfl) hc (fun _ _ => xn_2 hR1.q _ _) ?_
    refine w_if_ne (tgt := 414) dL_law_393 (by decide) (fun c => absurd (by rw [h4]; rfl) c) (fun _ => ?_)
    refine w_aload_n dL_law_396 rfl ?_
    refine w_un dL_law_397 q252 hR1 hQ (Nat.le_of_ble_eq_true rfl) hc (fun r2 ρ2 hR2 => ?_)
    refine w_if_lt (tgt := 414) dL_law_400 (by decide) (fun c => absurd c (nng (by omega))) (fun _ => ?_)
    refine w_aload_n dL_law_403 rfl ?_
    refine w_sr dL_law_404 kL_areLots q377 q376 (t_areLots 2 hR2) rfl rfl (Nat.le_of_ble_eq_true rfl) hc ?_
    refine w_if_eq (tgt := 414) dL_law_407 (by decide) (fun c => absurd c (by decide)) (fun _ => ?_)
    refine w_iconst (v := 1) dL_law_410 rfl ?_
    refine w_goto (tgt := 415) dL_law_411 (by decide) ?_
    exact w_ret1 dL_law_415 hc.1 hc.2
  | succ k ih =>
    intro i h hi hS a4 a5 a6 a7 a8 a9 a10 a11 a12
    obtain ⟨σ, n, τ, sl0, sv, hX, h1, h2, h3, h4⟩ := hS
    have hQ := hX.q
    have hn6 := hX.n6
    have ha := (cellV_n L xs i).2
    have pn1 : 6 ≤ nI n → (6 : Int32) = nI (nx n) := fun q => by
      rw [show (6 : Int32) = nI 6 from rfl, nI_leI (by decide) (by omega)] at q
      unfold nx
      rw [if_neg (by omega)]
      rfl
    have pn2 : ¬ 6 ≤ nI n → nI n + 1 = nI (nx n) := fun q => by
      rw [show (6 : Int32) = nI 6 from rfl, nI_leI (by decide) (by omega)] at q
      unfold nx
      rw [if_pos (by omega)]
      exact nI_1 n
    refine w_iload_n dL_law_124 rfl ?_
    refine w_bipush (v := 70) dL_law_125 rfl ?_
    refine w_icmp_ge (tgt := 376) dL_law_127 (by decide) (fun c => absurd c (fun e => by have := (nI_leI (a := 70) (by decide) (by omega)).mp e; omega)) (fun _ => ?_)
    refine w_iload_n dL_law_130 rfl ?_
    refine w_if_eq (tgt := 376) dL_law_131 (by decide) (fun c => absurd c (by decide)) (fun _ => ?_)
    refine w_aload_n dL_law_134 rfl ?_
    refine w_iload_n dL_law_135 rfl ?_
    refine w_cell dL_law_136 q290 (t_cell 10 (by omega) hL) (Nat.le_of_ble_eq_true rfl) hc ?_
    refine w_isd (a2 := nI (cellN L xs i)) (lv2 := [.ref b, .ref x, .int 1, .int (nI i), .int (nI (cellN L xs i)), a5, a6, a7, a8, a9, a10, a11, a12]) dL_law_139 (Nat.le_of_ble_eq_true rfl) rfl ((cellV_n L xs i).1) rfl ?_
    refine w_aload_n dL_law_141 rfl ?_
    refine w_sr dL_law_142 kL_seen q297 q296 (t_seen 2 hX) rfl rfl (Nat.le_of_ble_eq_true rfl) hc ?_
    refine w_lsd (a2 := vSeen σ) (lv2 := [.ref b, .ref x, .int 1, .int (nI i), .int (nI (cellN L xs i)), .long (vSeen σ), .null, a7, a8, a9, a10, a11, a12]) dL_law_145 (Nat.le_of_ble_eq_true rfl) rfl rfl rfl ?_
    refine w_aload_n dL_law_147 rfl ?_
    refine w_bipush (v := 20) dL_law_148 rfl ?_
    refine w_cn (v := nI n) dL_law_150 q201 hX (Nat.le_of_ble_eq_true rfl) hc (fun _ _ => xC_20 _ _ _) ?_
    refine w_isd (a2 := nI n) (lv2 := [.ref b, .ref x, .int 1, .int (nI i), .int (nI (cellN L xs i)), .long (vSeen σ), .null, .int (nI n), a8, a9, a10, a11, a12]) dL_law_153 (Nat.le_of_ble_eq_true rfl) rfl rfl rfl ?_
    refine w_aload_n dL_law_155 rfl ?_
    refine w_iload dL_law_156 rfl ?_
    refine w_callS dL_law_158 kL_act q635 q634 (t_act 2 hX ha) rfl rfl (Nat.le_of_ble_eq_true rfl) hc (fun r hp1 hq => ?_)
    obtain ⟨r1, rfl, ⟨rfl, hR1⟩ | ⟨rfl, σ1, hR1⟩⟩ := hq
    · show EvL st hp0 b L xs 161 [.ref b, .ref x, .int 1, .int (nI i), .int (nI (cellN L xs i)), .long (vSeen σ), .null, .int (nI n), a8, a9, a10, a11, a12] [.int 0] (z, r1) cl sl
      refine w_isd (a2 := 0) (lv2 := [.ref b, .ref x, .int 1, .int (nI i), .int (nI (cellN L xs i)), .long (vSeen σ), .null, .int (nI n), .int 0, a9, a10, a11, a12]) dL_law_161 (Nat.le_of_ble_eq_true rfl) rfl rfl rfl ?_
      refine w_aload_n dL_law_163 rfl ?_
      refine w_bipush (v := 20) dL_law_164 rfl ?_
      refine w_cn (v := nI n) dL_law_166 q201 hR1 (Nat.le_of_ble_eq_true rfl) hc (fun _ _ => xC_20 _ _ _) ?_
      refine w_isd (a2 := nI n) (lv2 := [.ref b, .ref x, .int 1, .int (nI i), .int (nI (cellN L xs i)), .long (vSeen σ), .null, .int (nI n), .int 0, .int (nI n), a10, a11, a12]) dL_law_169 (Nat.le_of_ble_eq_true rfl) rfl rfl rfl ?_
      refine w_iload dL_law_171 rfl ?_
      refine w_if_lt (tgt := 274) dL_law_173 (by decide) (fun c => absurd c (by decide)) (fun _ => ?_)
      refine w_iload dL_law_176 rfl ?_
      refine w_if_ne (tgt := 201) dL_law_178 (by decide) (fun c => absurd (by decide) c) (fun _ => ?_)
      refine w_iload dL_law_181 rfl ?_
      refine w_iload dL_law_183 rfl ?_
      refine w_icmp_ne (tgt := 274) dL_law_185 (by decide) (fun c => absurd rfl c) (fun _ => ?_)
      refine w_aload_n dL_law_188 rfl ?_
      refine w_sr dL_law_189 kL_seen q297 q296 (t_seen 2 hR1) rfl rfl (Nat.le_of_ble_eq_true rfl) hc ?_
      refine w_lload dL_law_192 rfl ?_
      refine w_lcmp dL_law_194 ?_
      refine w_if_ne (tgt := 274) dL_law_195 (by decide) (fun c => absurd (lg_self _) c) (fun _ => ?_)
      refine w_goto (tgt := 222) dL_law_198 (by decide) ?_
      exact L_no (by omega) ha hc h1 h2 h3 h4 hR1 (fun h' hl => ih (i + 1) h' (by omega) hl) _ _ _
    · show EvL st hp0 b L xs 161 [.ref b, .ref x, .int 1, .int (nI i), .int (nI (cellN L xs i)), .long (vSeen σ), .null, .int (nI n), a8, a9, a10, a11, a12] [.int 1] (z, r1) cl sl
      refine w_isd (a2 := 1) (lv2 := [.ref b, .ref x, .int 1, .int (nI i), .int (nI (cellN L xs i)), .long (vSeen σ), .null, .int (nI n), .int 1, a9, a10, a11, a12]) dL_law_161 (Nat.le_of_ble_eq_true rfl) rfl rfl rfl ?_
      refine w_aload_n dL_law_163 rfl ?_
      refine w_bipush (v := 20) dL_law_164 rfl ?_
      refine w_cn (v := nI (nx n)) dL_law_166 q201 hR1 (Nat.le_of_ble_eq_true rfl) hc (fun _ _ => xC_20 _ _ _) ?_
      refine w_isd (a2 := nI (nx n)) (lv2 := [.ref b, .ref x, .int 1, .int (nI i), .int (nI (cellN L xs i)), .long (vSeen σ), .null, .int (nI n), .int 1, .int (nI (nx n)), a10, a11, a12]) dL_law_169 (Nat.le_of_ble_eq_true rfl) rfl rfl rfl ?_
      refine w_iload dL_law_171 rfl ?_
      refine w_if_lt (tgt := 274) dL_law_173 (by decide) (fun c => absurd c (by decide)) (fun _ => ?_)
      refine w_iload dL_law_176 rfl ?_
      refine w_if_ne (tgt := 201) dL_law_178 (by decide) (fun _ => ?_) (fun c => absurd c (by decide))
      refine w_iload dL_law_201 rfl ?_
      have j219 : EvL st hp0 b L xs 219 [.ref b, .ref x, .int 1, .int (nI i), .int (nI (cellN L xs i)), .long (vSeen σ), .null, .int (nI n), .int 1, .int (nI (nx n)), a10, a11, a12] [.int (nI (nx n)), .int (nI (nx n))] (z, r1) cl sl := by
        refine w_icmp_ne (tgt := 274) dL_law_219 (by decide) (fun c => absurd rfl c) (fun _ => ?_)
        exact L_yes (by omega) ha hc h1 h2 h3 h4 hn6 hQ hR1 (fun h' hl => ih (i + 1) h' (by omega) hl) _ _ _
      refine w_iload dL_law_203 rfl ?_
      refine w_bipush (v := 6) dL_law_205 rfl ?_
      refine w_icmp_ge (tgt := 217) dL_law_207 (by decide) (fun c207 => ?_) (fun c207 => ?_)
      · refine w_bipush (v := 6) dL_law_217 rfl ?_
        exact w_top (a2 := nI (nx n)) (by first | exact pn1 c207 | exact pn2 c207) j219
      · refine w_iload dL_law_210 rfl ?_
        refine w_iconst (v := 1) dL_law_212 rfl ?_
        refine w_iadd dL_law_213 ?_
        refine w_goto (tgt := 219) dL_law_214 (by decide) ?_
        exact w_top (a2 := nI (nx n)) (by first | exact pn1 c207 | exact pn2 c207) j219

end LAW
