/-! the law's loop and start -/
theorem z0_purse (w : Int32) : sPurse z0 w = 0 := by
  unfold sPurse
  refine lp_id _ _ _ fun i _ _ a => ?_
  unfold sSumf
  have e : z0 11 i = 0 := rfl
  rw [e, Int32.add_zero]
  split <;> rfl
theorem z0_inv : InvA z0 := by
  have n0 : nLo z0 = 0 := rfl
  have n1 : nCl z0 = 0 := rfl
  have n2 : nPd z0 = 0 := rfl
  have nc : ∀ {c : Nat} {α : Prop}, c < nCl z0 → α := fun h => absurd h (by rw [n1]; omega)
  have nl : ∀ {c : Nat} {α : Prop}, c < nLo z0 → α := fun h => absurd h (by rw [n0]; omega)
  have np : ∀ {c : Nat} {α : Prop}, c < nPd z0 → α := fun h => absurd h (by rw [n2]; omega)
  refine ⟨⟨⟨⟨rfl, by rw [n0]; omega⟩, ⟨⟨rfl, by rw [n1]; omega⟩, fun c h => nc h, fun c h => nc h, ⟨⟨rfl, by rw [n2]; omega⟩, fun k h => np h, fun k l h => np h⟩, fun g hg => ?_, fun c h => nc h⟩, fun c h => nc h, fun c h => nc h, ⟨fun j _ _ => ⟨rfl, rfl, rfl⟩, fun c _ _ => ⟨rfl, rfl, rfl, rfl⟩⟩, ⟨⟨366, by omega, by omega, rfl⟩, ⟨90, by omega, by omega, rfl⟩, ⟨5, by omega, rfl⟩, 0, by omega, rfl, fun j h => nl h, fun c h => nc h⟩, fun j h => nl h, fun c b h => nc h⟩, fun j hj => ?_⟩, fun j hj => ?_, fun c h => nc h⟩
  · have e : mPd z0 (nI g) = false := rfl
    rw [e, z0_purse]
    exact ⟨fun h => absurd h (by decide), fun h => absurd rfl h⟩
  · rw [z0_purse]
    rfl
  · rcases (show j = 0 ∨ j = 1 ∨ j = 2 ∨ j = 3 ∨ j = 4 by omega) with rfl | rfl | rfl | rfl | rfl
    · exact ⟨366, by decide, rfl⟩
    · exact ⟨60, by decide, rfl⟩
    · exact ⟨90, by decide, rfl⟩
    · exact ⟨30, by decide, rfl⟩
    · exact ⟨5, by decide, rfl⟩
theorem LI.start {h : Nat → Option va_E} {x m : Nat} (hX : XAt h x z0 (fun _ => z0) 0 (fun _ => z0) (fun _ => 0) (fun _ => 0) (0, 0, 32, 0, 0, 0)) (hM : MAt h m z0 0 0 (fun _ => z0) (fun _ => z0) (fun _ => 0) (fun _ => nI 0) (nI 0) 0 (fun _ => 0) 0) : LI h x m :=
  ⟨z0, _, 0, _, _, _, _, _, _, _, _, _, hX, hM, z0_inv, Nat.zero_le _, fun k hk => absurd hk (by omega), fun k _ hs => absurd rfl hs⟩
section LL
variable {st : Nat → Nat} {hp0 : Hp} {b L : Nat} {xs : Nat → Int32} {x m z : Nat} {cl sl : Nat}
theorem and31 (v : Int32) : ∃ k, k < 32 ∧ v &&& 31 = nI k := ⟨_, Nat.mod_lt _ (by decide), pk_and v (m := 31) 5 rfl⟩
set_option maxRecDepth 100000 in
set_option maxHeartbeats 4000000 in
theorem law_sw (hxm : x + 166 ≤ m) {j : Nat} (hj : 4 * j + 3 < L) (hL : L ≤ 2048) {h : Nat → Option va_E} (H : LI h x m) (hc : cl ≤ 600000 ∧ sl ≤ 7302250) (K : ∀ h', LI h' x m → EvL st hp0 b L xs 830 [.ref b, .ref x, .ref m, .int (nI (4 * j))] [] (z, h') cl sl) {u : Int32} {k : Nat} (hk : k < 32) (hu : u = nI k) : EvL st hp0 b L xs 32 [.ref b, .ref x, .ref m, .int (nI (4 * j))] [.int u] (z, h) cl sl := by
  subst hu
  by_cases q : 25 < k
  · exact w_tableOut (tgt := 830) dL_law_32 (Or.inr (by rw [nI_int (by omega)]; omega)) (by decide) (K h H)
  rcases (show k = 0 ∨ k = 1 ∨ k = 2 ∨ k = 3 ∨ k = 4 ∨ k = 5 ∨ k = 6 ∨ k = 7 ∨ k = 8 ∨ k = 9 ∨ k = 10 ∨ k = 11 ∨ k = 12 ∨ k = 13 ∨ k = 14 ∨ k = 15 ∨ k = 16 ∨ k = 17 ∨ k = 18 ∨ k = 19 ∨ k = 20 ∨ k = 21 ∨ k = 22 ∨ k = 23 ∨ k = 24 ∨ k = 25 by omega) with rfl | rfl | rfl | rfl | rfl | rfl | rfl | rfl | rfl | rfl | rfl | rfl | rfl | rfl | rfl | rfl | rfl | rfl | rfl | rfl | rfl | rfl | rfl | rfl | rfl | rfl
  · exact w_tableIn (tgt := 152) dL_law_32 (by decide) (by decide) rfl (by decide) (lc_set hxm hj hL H hc K)
  · exact w_tableIn (tgt := 185) dL_law_32 (by decide) (by decide) rfl (by decide) (lc_lot hxm hj hL H hc K)
  · exact w_tableIn (tgt := 208) dL_law_32 (by decide) (by decide) rfl (by decide) (lc_notice hxm hj hL H hc K)
  · exact w_tableIn (tgt := 231) dL_law_32 (by decide) (by decide) rfl (by decide) (lc_claim hxm hj hL H hc K)
  · exact w_tableIn (tgt := 274) dL_law_32 (by decide) (by decide) rfl (by decide) (lc_prove hxm hj hL H hc K)
  · exact w_tableIn (tgt := 307) dL_law_32 (by decide) (by decide) rfl (by decide) (lc_decide hxm hj hL H hc K)
  · exact w_tableIn (tgt := 330) dL_law_32 (by decide) (by decide) rfl (by decide) (lc_withdraw hxm hj hL H hc K)
  · exact w_tableIn (tgt := 353) dL_law_32 (by decide) (by decide) rfl (by decide) (lc_settle hxm hj hL H hc K)
  · exact w_tableIn (tgt := 376) dL_law_32 (by decide) (by decide) rfl (by decide) (lc_pass hxm hj hL H hc K)
  · exact w_tableIn (tgt := 399) dL_law_32 (by decide) (by decide) rfl (by decide) (lc_of hxm hj hL H hc K)
  · exact w_tableIn (tgt := 432) dL_law_32 (by decide) (by decide) rfl (by decide) (lc_ofClaim hxm hj hL H hc K)
  · exact w_tableIn (tgt := 465) dL_law_32 (by decide) (by decide) rfl (by decide) (lc_heir hxm hj hL H hc K)
  · exact w_tableIn (tgt := 498) dL_law_32 (by decide) (by decide) rfl (by decide) (lc_paid hxm hj hL H hc K)
  · exact w_tableIn (tgt := 521) dL_law_32 (by decide) (by decide) rfl (by decide) (lc_count hxm hj hL H hc K)
  · exact w_tableIn (tgt := 544) dL_law_32 (by decide) (by decide) rfl (by decide) (lc_why hxm hj hL H hc K)
  · exact w_tableIn (tgt := 567) dL_law_32 (by decide) (by decide) rfl (by decide) (lc_fallsIn hxm hj hL H hc K)
  · exact w_tableIn (tgt := 590) dL_law_32 (by decide) (by decide) rfl (by decide) (lc_share hxm hj hL H hc K)
  · exact w_tableIn (tgt := 633) dL_law_32 (by decide) (by decide) rfl (by decide) (lc_nextFall hxm hj hL H hc K)
  · exact w_tableIn (tgt := 656) dL_law_32 (by decide) (by decide) rfl (by decide) (lc_nextLapse hxm hj hL H hc K)
  · exact w_tableIn (tgt := 679) dL_law_32 (by decide) (by decide) rfl (by decide) (lc_put hxm hj hL H hc K)
  · exact w_tableIn (tgt := 732) dL_law_32 (by decide) (by decide) rfl (by decide) (lc_wipe hxm hj hL H hc K)
  · exact w_tableIn (tgt := 745) dL_law_32 (by decide) (by decide) rfl (by decide) (lc_fault hxm hj hL H hc K)
  · exact w_tableIn (tgt := 758) dL_law_32 (by decide) (by decide) rfl (by decide) (lc_carryOut hxm hj hL H hc K)
  · exact w_tableIn (tgt := 771) dL_law_32 (by decide) (by decide) rfl (by decide) (lc_undo hxm hj hL H hc K)
  · exact w_tableIn (tgt := 784) dL_law_32 (by decide) (by decide) rfl (by decide) (lc_save hxm hj hL H hc K)
  · exact w_tableIn (tgt := 807) dL_law_32 (by decide) (by decide) rfl (by decide) (lc_restore hxm hj hL H hc K)
set_option maxRecDepth 100000 in
set_option maxHeartbeats 4000000 in
theorem law_loop (hxm : x + 166 ≤ m) (hL : L ≤ 2048) (hc : cl ≤ 600000 ∧ sl ≤ 7302250) : ∀ (n j : Nat) (h : Nat → Option va_E), L ≤ 4 * j + 4 * n → 4 * j ≤ 2048 + 4 → LI h x m → EvL st hp0 b L xs 18 [.ref b, .ref x, .ref m, .int (nI (4 * j))] [] (z, h) cl sl := by
  have e4 : ∀ j : Nat, 4 * j ≤ 2052 → (nI L - 4 < nI (4 * j) ↔ L < 4 * j + 4) := by
    intro j hj
    rw [Int32.lt_iff_toInt_lt, show (4 : Int32) = nI 4 from rfl, nI_sub (by omega) (by omega), nI_int (by omega)]
    omega
  intro n
  induction n with
  | zero =>
    intro j h h1 h2 H
    refine w_iload_n dL_law_18 rfl ?_
    refine w_aload_n dL_law_19 rfl ?_
    refine w_slen dL_law_20 ?_
    refine w_iconst (v := 4) dL_law_21 rfl ?_
    refine w_isub dL_law_22 ?_
    refine w_icmp_gt (tgt := 836) dL_law_23 (by decide) (fun _ => ?_) (fun c => absurd ((e4 j (by omega)).mpr (by omega)) c)
    refine w_iconst (v := 1) dL_law_836 rfl ?_
    exact w_ret1 dL_law_837 hc.1 hc.2
  | succ n ih =>
    intro j h h1 h2 H
    refine w_iload_n dL_law_18 rfl ?_
    refine w_aload_n dL_law_19 rfl ?_
    refine w_slen dL_law_20 ?_
    refine w_iconst (v := 4) dL_law_21 rfl ?_
    refine w_isub dL_law_22 ?_
    refine w_icmp_gt (tgt := 836) dL_law_23 (by decide) (fun _ => ?_) (fun c => ?_)
    · refine w_iconst (v := 1) dL_law_836 rfl ?_
      exact w_ret1 dL_law_837 hc.1 hc.2
    · have hj : 4 * j + 3 < L := by
        rw [e4 j (by omega)] at c
        omega
      refine w_aload_n dL_law_26 rfl ?_
      refine w_iload_n dL_law_27 rfl ?_
      refine w_sld dL_law_28 (vp_in_nI (by omega) (by omega)) ?_
      refine w_bipush (v := 31) dL_law_29 rfl ?_
      refine w_iand dL_law_31 ?_
      obtain ⟨k, hk, hu⟩ := and31 (xs (nI (4 * j)).toNatClampNeg)
      refine law_sw hxm hj hL H hc (fun h' H' => ?_) hk hu
      refine w_iinc (i := 3) (n := 4) (v := nI (4 * (j + 1))) dL_law_830 rfl ?_ rfl ?_
      · rw [show Int32.ofInt 4 = nI 4 from rfl, nI_add]
        rfl
      refine w_goto (tgt := 18) dL_law_833 (by decide) ?_
      exact ih (j + 1) h' (by omega) (by omega) H'
end LL
set_option maxRecDepth 100000 in
set_option maxHeartbeats 4000000 in
theorem law_entry {st : Nat → Nat} {b L : Nat} {xs : Nat → Int32} (hL : L ≤ 2048) (x : Nat) (h0 : Nat → Option va_E) : EvL st (x, h0) b L xs 0 [.ref b, .null, .null, .null] [] (x, h0) 0 0 := by
  refine w_new (fs := [.null, .null, .null, .int 0, .null, .null]) tyX4 dL_law_0 (ci := 4) rfl tyX4_ok ⟨q84, q85, q75⟩ (fun j hj => by rcases (show j = 0 ∨ j = 1 ∨ j = 2 ∨ j = 3 ∨ j = 4 ∨ j = 5 by omega) with rfl | rfl | rfl | rfl | rfl | rfl <;> rfl) (Nat.le_of_ble_eq_true rfl) (Nat.le_of_ble_eq_true rfl) ?_
  dsimp only
  refine w_dup dL_law_3 rfl ?_
  refine w_callI (As := []) (n := 0) dL_law_4 kX4_init rfl q87 q86 (i_class 6 (h := hset h0 x (.inr (4, [.null, .null, .null, .int 0, .null, .null]))) (hset_s _ _ _)) rfl rfl (Nat.le_of_ble_eq_true rfl) ⟨Nat.le_of_ble_eq_true rfl, Nat.le_of_ble_eq_true rfl⟩ (fun r hp1 hq1 => ?_)
  obtain ⟨rfl, h1, rfl, hX1, _⟩ := hq1
  refine w_astore_n dL_law_7 (Nat.le_of_ble_eq_true rfl) rfl ?_
  show EvL st (x, h0) b L xs 8 [.ref b, .ref x, .null, .null] [] (x + 166, h1) 166 3094
  refine w_new (fs := [.null, .null, .null, .int 0, .null, .null, .null, .int 0, .int 0, .null, .int 0]) tyX5 dL_law_8 (ci := 5) rfl tyX5_ok ⟨q680, q681, q82⟩ (fun j hj => by rcases (show j = 0 ∨ j = 1 ∨ j = 2 ∨ j = 3 ∨ j = 4 ∨ j = 5 ∨ j = 6 ∨ j = 7 ∨ j = 8 ∨ j = 9 ∨ j = 10 by omega) with rfl | rfl | rfl | rfl | rfl | rfl | rfl | rfl | rfl | rfl | rfl <;> rfl) (Nat.le_of_ble_eq_true rfl) (Nat.le_of_ble_eq_true rfl) ?_
  dsimp only
  refine w_dup dL_law_11 rfl ?_
  refine w_callI (As := []) (n := 0) dL_law_12 kX5_init rfl q683 q682 (i_model 8 (h := hset h1 (x + 166) (.inr (5, [.null, .null, .null, .int 0, .null, .null, .null, .int 0, .int 0, .null, .int 0]))) (fun _ => z0) (fun _ => z0) (hset_s _ _ _)) rfl rfl (Nat.le_of_ble_eq_true rfl) ⟨Nat.le_of_ble_eq_true rfl, Nat.le_of_ble_eq_true rfl⟩ (fun r hp2 hq2 => ?_)
  obtain ⟨rfl, h2, rfl, hM2, hF2⟩ := hq2
  refine w_astore_n dL_law_15 (Nat.le_of_ble_eq_true rfl) rfl ?_
  show EvL st (x, h0) b L xs 16 [.ref b, .ref x, .ref (x + 166), .null] [] (x + 174, h2) 174 6351
  refine w_iconst (v := 0) dL_law_16 rfl ?_
  refine w_istore_n dL_law_17 (Nat.le_of_ble_eq_true rfl) rfl ?_
  exact law_loop (Nat.le_refl _) hL ⟨Nat.le_of_ble_eq_true rfl, Nat.le_of_ble_eq_true rfl⟩ 512 0 h2 (by omega) (by omega) (LI.start (hX1.keptX (fun q e1 e2 => (hF2 q (by omega) (by omega)).trans (hset_n _ (by omega)))) hM2)
