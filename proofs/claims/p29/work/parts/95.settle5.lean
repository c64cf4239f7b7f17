/-! a lot is settled alike -/
theorem nI_div {a b : Nat} (ha : a < 2 ^ 31) (hb : b < 2 ^ 31) : nI a / nI b = nI (a / b) := (Int32.ofNat_div ha hb).symm
theorem nI_subN {a b : Nat} (h : b ≤ a) : nI a - nI b = nI (a - b) := (Int32.ofNat_sub a b h).symm
theorem part_nat {v n a : Nat} (hn : 1 ≤ n) : v / n + (if v - v / n * n ≤ a then 0 else 1) ≤ v := by
  have h2 := Nat.div_mul_le_self v n
  split
  · exact Nat.div_le_self _ _
  next q =>
    rcases Nat.lt_or_ge n 2 with q2 | q2
    · have e : n = 1 := by omega
      subst e
      rw [Nat.div_one, Nat.mul_one] at q
      omega
    · have := Nat.mul_le_mul_left (v / n) q2
      omega
theorem mPart_small {v c : Nat} {sh : Int32} (hv : v ≤ 9999) (hc : c < 30) (hg : gb sh c = true) : ∃ b, b ≤ v ∧ mPart (nI v) sh c = nI b := by
  have hn := cnt_pos (p := gb sh) (k := 30) (i := 0) (c := c) (by omega) (by omega) hg
  have hn2 := cnt_le (gb sh) 30 0
  have ha := cnt_le (gb (sh &&& (bit c - 1))) 30 0
  refine ⟨_, part_nat (v := v) (n := cnt (gb sh) 0 30) (a := cnt (gb (sh &&& (bit c - 1))) 0 30) hn, ?_⟩
  have hd := Nat.div_le_self v (cnt (gb sh) 0 30)
  unfold mPart
  rw [mSize_cnt, mSize_cnt, nI_div (by omega) (by omega), pk_mul, nI_subN (Nat.div_mul_le_self _ _)]
  have e := nI_leI (a := v - v / cnt (gb sh) 0 30 * cnt (gb sh) 0 30) (b := cnt (gb (sh &&& (bit c - 1))) 0 30) (by omega) (by omega)
  by_cases q : v - v / cnt (gb sh) 0 30 * cnt (gb sh) 0 30 ≤ cnt (gb (sh &&& (bit c - 1))) 0 30
  · rw [if_pos (e.mpr q), if_pos q, Int32.add_zero, Nat.add_zero]
  · rw [if_neg (fun h => q (e.mp h)), if_neg q]
    exact nI_1 _
theorem sPart_out {coins sh : Int32} {c : Nat} (hc : c < 32) (hg : gb sh c = false) : sPart coins sh (bit c) = 0 := by
  unfold sPart
  rw [if_pos ((and_bit hc).mpr hg)]
  split <;> rfl
/-- what settling leaves as it was -/
def SFr (up : Int32) (lo hi : Nat) (σ σ' : Sg) : Prop := (∀ k, k < 9 ∨ k = 10 → σ' k = σ k) ∧ (∀ b, b ≠ 2 → σ' 13 b = σ 13 b) ∧ (∀ c, σ' 9 c = if lo ≤ c ∧ c < hi ∧ gb up c = true then 5 else σ 9 c) ∧ ∀ c, (c < lo ∨ hi ≤ c ∨ gb up c = false) → σ' 11 c = σ 11 c
theorem sPayO_fr (σ : Sg) (c : Nat) (p : Int32) : (∀ k, k < 12 → sPayO σ c p k = σ k) ∧ ∀ b, b ≠ 2 → sPayO σ c p 13 b = σ 13 b := by
  unfold sPayO
  split
  · exact ⟨fun _ _ => rfl, fun _ _ => rfl⟩
  split
  · split
    · exact ⟨fun _ _ => rfl, fun _ _ => rfl⟩
    · refine ⟨fun k hk => ?_, fun b hb => ?_⟩
      · funext b
        rw [up2_k _ (by omega), up2_k _ (by omega)]
      · rw [up2_j _ hb, up2_k _ (by decide)]
  · exact ⟨fun _ _ => rfl, fun _ _ => rfl⟩
theorem sSettleC_fr (σ : Sg) (c : Nat) (p : Int32) : (∀ k, k < 9 ∨ k = 10 → sSettleC σ c p k = σ k) ∧ (∀ b, b ≠ 2 → sSettleC σ c p 13 b = σ 13 b) ∧ (∀ i, sSettleC σ c p 9 i = if i = c then 5 else σ 9 i) ∧ ∀ i, i ≠ c → sSettleC σ c p 11 i = σ 11 i := by
  obtain ⟨f1, f2⟩ := sPayO_fr σ c p
  unfold sSettleC
  refine ⟨fun k hk => ?_, fun b hb => ?_, fun i => ?_, fun i hi => ?_⟩
  · funext b
    rw [up2_k _ (by omega), up2_k _ (by omega), f1 k (by omega)]
  · rw [up2_k _ (by decide), up2_k _ (by decide), f2 b hb]
  · by_cases q : i = c
    · rw [if_pos q, q, up2_s]
    · rw [if_neg q, up2_j _ q, up2_k _ (by decide), f1 9 (by decide)]
  · rw [up2_k _ (by decide), up2_j _ hi, f1 11 (by decide)]
theorem Pur.up {τ σ : Sg} (h : Pur τ σ) {K j : Nat} (v : Int32) (hK : K ≠ 14 ∧ K ≠ 5 ∧ K ≠ 11 ∧ (K = 13 → j ≠ 1)) : Pur (up2 τ K j v) (up2 σ K j v) := by
  refine ⟨fun k hk => ?_, fun i hi => ?_⟩
  · funext b
    simp only [up2c, h.1 k hk]
  · rw [up2_k _ (fun e => hK.1 e.symm), h.2 i hi]
    refine (purse_same ?_ ?_ ?_ _).symm
    · funext b
      exact up2_k _ (fun e => hK.2.1 e.symm)
    · funext b
      exact up2_k _ (fun e => hK.2.2.1 e.symm)
    · by_cases q : K = 13
      · exact up2_j _ (fun e => hK.2.2.2 q e.symm)
      · exact up2_k _ (fun e => q e.symm)
set_option maxHeartbeats 1000000 in
theorem settle_loop {N v : Nat} {up near : Int32} (hN : N ≤ 30) (hsub : ∀ c, c < 30 → gb near c = true → gb up c = true) (hns : Sub near N) (hv : v ≤ 9999) : ∀ (k i : Nat) (τ σ : Sg), i + k = N → nCl σ = N → Pur τ σ → GI σ → (∀ c, i ≤ c → c < N → gb up c = true → sStands σ c = true) → Pur (lp (mSetF up near (nI v)) i k τ) (lp (shareF up (nI v) near) i k σ) ∧ GI (lp (shareF up (nI v) near) i k σ) ∧ SFr up i N σ (lp (shareF up (nI v) near) i k σ)
  | 0, i, τ, σ, hk, hC, hP, hG, hs => ⟨hP, hG, fun _ _ => rfl, fun _ _ => rfl, fun c => by
      rw [if_neg (by omega)]
      rfl, fun _ _ => rfl⟩
  | k + 1, i, τ, σ, hk, hC, hP, hG, hs => by
    rw [lp_s, lp_s]
    have hi30 : i < 30 := by omega
    by_cases hu : gb up i = true
    · have hst := hs i (Nat.le_refl _) (by omega) hu
      have h0 := hG.2.2.2.2.2 i (by omega) hst
      have key : ∀ b τ', b ≤ 9999 → mSetF up near (nI v) i τ = τ' → shareF up (nI v) near i σ = sSettleC σ i (nI b) → Pur τ' (sSettleC σ i (nI b)) → Pur (lp (mSetF up near (nI v)) (i + 1) k (mSetF up near (nI v) i τ)) (lp (shareF up (nI v) near) (i + 1) k (shareF up (nI v) near i σ)) ∧ GI (lp (shareF up (nI v) near) (i + 1) k (shareF up (nI v) near i σ)) ∧ SFr up i N σ (lp (shareF up (nI v) near) (i + 1) k (shareF up (nI v) near i σ)) := by
        intro b τ' hb e1 e2 hP'
        rw [e1, e2]
        obtain ⟨f1, f2, f3, f4⟩ := sSettleC_fr σ i (nI b)
        have hG' := hG.pay (c := i) (by omega) hst hb
        have hC' : nCl (sSettleC σ i (nI b)) = N := by
          unfold nCl at *
          rw [f2 1 (by decide), hC]
        obtain ⟨r1, r2, r3⟩ := settle_loop hN hsub hns hv k (i + 1) τ' (sSettleC σ i (nI b)) (by omega) hC' hP' hG' (fun c h1 h2 h3 => by
          have := hs c (by omega) h2 h3
          unfold sStands at *
          rw [f3 c, if_neg (by omega)]
          exact this)
        refine ⟨r1, r2, fun k hk => (r3.1 k hk).trans (f1 k hk), fun b hb => (r3.2.1 b hb).trans (f2 b hb), fun c => ?_, fun c hc => ?_⟩
        · rw [r3.2.2.1 c, f3 c]
          by_cases q : c = i
          · subst q
            rw [if_neg (by omega), if_pos rfl, if_pos ⟨Nat.le_refl _, by omega, hu⟩]
          · rw [if_neg q]
            by_cases q2 : i + 1 ≤ c ∧ c < N ∧ gb up c = true
            · rw [if_pos q2, if_pos ⟨by omega, q2.2⟩]
            · rw [if_neg q2, if_neg]
              intro q3
              exact q2 ⟨by omega, q3.2⟩
        · have hne : c ≠ i := by
            rintro rfl
            rcases hc with h | h | h
            · omega
            · omega
            · rw [hu] at h
              exact absurd h (by decide)
          rw [r3.2.2.2 c (by
            rcases hc with h | h | h
            · exact Or.inl (by omega)
            · exact Or.inr (Or.inl h)
            · exact Or.inr (Or.inr h)), f4 c hne]
      have eu : sHolds up (nI i) = true := by rw [sHolds_gb _ (by omega), hu]
      by_cases hn : gb near i = true
      · have en : sHolds near (nI i) = true := by rw [sHolds_gb _ (by omega), hn]
        obtain ⟨b, hb, eb⟩ := mPart_small (v := v) hv hi30 hn
        obtain ⟨g, hg, h5⟩ := hG.2.1 i (by omega)
        refine key b (up2 (mPay τ i (nI b)) 9 i 5) (by omega) ?_ ?_ (pay_pur hG.1 hP (by omega) hg h5 h0 hG.2.2.2.1 hG.2.2.2.2.1 (nI b))
        · unfold mSetF
          rw [if_pos en, eb]
          dsimp only
          rw [if_pos eu]
        · unfold shareF
          rw [if_pos eu, sPart_eq hns hN hi30 hn, eb]
      · have hn' : gb near i = false := by simpa using hn
        have en : ¬ sHolds near (nI i) = true := by rw [sHolds_gb _ (by omega), hn']; decide
        refine key 0 (up2 τ 9 i 5) (by omega) ?_ ?_ ?_
        · unfold mSetF
          rw [if_neg en]
          dsimp only
          rw [if_pos eu]
        · unfold shareF
          rw [if_pos eu, sPart_out (by omega) hn']
          rfl
        · have e : sSettleC σ i (nI 0) = up2 σ 9 i 5 := by
            unfold sSettleC sPayO
            rw [if_pos (by decide)]
            rw [up2_id (show σ 11 i = nI 0 from h0)]
          rw [e]
          exact hP.up 5 ⟨by decide, by decide, by decide, fun e => absurd e (by decide)⟩
    · have hu' : gb up i = false := by simpa using hu
      have hn : gb near i = false := by
        cases q : gb near i
        · rfl
        · exact absurd (hsub i hi30 q) hu
      have eu : ¬ sHolds up (nI i) = true := by rw [sHolds_gb _ (by omega), hu']; decide
      have en : ¬ sHolds near (nI i) = true := by rw [sHolds_gb _ (by omega), hn]; decide
      have e1 : mSetF up near (nI v) i τ = τ := by
        unfold mSetF
        rw [if_neg en]
        dsimp only
        rw [if_neg eu]
        exact up2_id rfl
      have e2 : shareF up (nI v) near i σ = σ := by
        unfold shareF
        rw [if_neg eu]
      rw [e1, e2]
      obtain ⟨r1, r2, r3⟩ := settle_loop hN hsub hns hv k (i + 1) τ σ (by omega) hC hP hG (fun c h1 h2 h3 => hs c (by omega) h2 h3)
      refine ⟨r1, r2, r3.1, r3.2.1, fun c => ?_, fun c hc => ?_⟩
      · rw [r3.2.2.1 c]
        by_cases q : c = i
        · subst q
          rw [if_neg (by omega), if_neg (fun q => hu q.2.2)]
        · by_cases q2 : i + 1 ≤ c ∧ c < N ∧ gb up c = true
          · rw [if_pos q2, if_pos ⟨by omega, q2.2⟩]
          · rw [if_neg q2, if_neg]
            intro q3
            exact q2 ⟨by omega, q3.2⟩
      · refine r3.2.2.2 c ?_
        by_cases q : c = i
        · subst q
          exact Or.inl (by omega)
        · rcases hc with h | h | h
          · exact Or.inl (by omega)
          · exact Or.inr (Or.inl h)
          · exact Or.inr (Or.inr h)
