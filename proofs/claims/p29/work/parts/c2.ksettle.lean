/-! a lot is settled: parts add up, and what holds stays -/
theorem cnt_s (p : Nat → Bool) (n : Nat) : cnt p 0 (n + 1) = cnt p 0 n + (if p n = true then 1 else 0) := by
  rw [cnt_add]
  unfold cnt
  rw [Nat.zero_add]
  rfl
theorem part_sum (p : Nat → Bool) (q r : Nat) : ∀ n, sN (fun c => if p c = true then q + (if cnt p 0 c < r then 1 else 0) else 0) n = cnt p 0 n * q + min (cnt p 0 n) r
  | 0 => by
    show 0 = 0 * q + min 0 r
    omega
  | n + 1 => by
    rw [sN_last, part_sum p q r n, cnt_s]
    by_cases h : p n = true
    · rw [if_pos h, if_pos h, Nat.add_mul, Nat.one_mul]
      by_cases h2 : cnt p 0 n < r
      · rw [if_pos h2]
        omega
      · rw [if_neg h2]
        omega
    · rw [if_neg h, if_neg h, Nat.add_zero, Nat.add_zero]
theorem gb_below : ∀ c, c < 32 → ∀ i, i < 32 → gb (bit c - 1) i = decide (i < c) := by decide
theorem cnt_below {x : Int32} {c : Nat} (hc : c < 32) : cnt (gb (x &&& (bit c - 1))) 0 32 = cnt (gb x) 0 c := by
  rw [cnt_cut (n := c) (N := 32) (by omega)]
  · refine cnt_ext _ _ fun i _ hi => ?_
    rw [gb_and, gb_below c hc i (by omega), decide_eq_true (by omega), Bool.and_true]
  · intro i h1 h2
    rw [gb_and, gb_below c hc i h2, decide_eq_false (by omega), Bool.and_false]
def pN (v : Nat) (sh : Int32) (c : Nat) : Nat := if gb sh c = true then v / cnt (gb sh) 0 32 + (if cnt (gb sh) 0 c < v % cnt (gb sh) 0 32 then 1 else 0) else 0
theorem mod_sub (a b : Nat) : a - a / b * b = a % b := by
  have := Nat.div_add_mod a b
  rw [Nat.mul_comm] at this
  omega
theorem sPart_n {v c : Nat} {sh : Int32} (hv : v ≤ 9999) (hc : c < 32) : sPart (nI v) sh (bit c) = nI (pN v sh c) := by
  unfold pN
  by_cases hg : gb sh c = true
  · have hm := cnt_pos (p := gb sh) (k := 32) (i := 0) (c := c) (by omega) (by omega) hg
    have hm2 := cnt_le (gb sh) 32 0
    have hc2 := cnt_le (gb sh) c 0
    have hd := Nat.div_le_self v (cnt (gb sh) 0 32)
    rw [if_pos hg]
    unfold sPart
    rw [sBit_cnt, sBit_cnt, cnt_below hc, if_neg (fun e => by have := nI_inj2 (b := 0) (by omega) (by decide) e; omega), if_neg (fun e => by rw [and_bit hc, hg] at e; exact absurd e (by decide)), nI_div (by omega) (by omega), pk_mul, nI_subN (Nat.div_mul_le_self _ _), mod_sub]
    have hlt := Nat.mod_lt v (show cnt (gb sh) 0 32 > 0 from hm)
    have e := nI_leI (a := v % cnt (gb sh) 0 32) (b := cnt (gb sh) 0 c) (by omega) (by omega)
    by_cases q : v % cnt (gb sh) 0 32 ≤ cnt (gb sh) 0 c
    · rw [if_pos (e.mpr q), if_neg (by omega), Int32.add_zero, Nat.add_zero]
    · rw [if_neg (fun h => q (e.mp h)), if_pos (by omega)]
      exact nI_1 _
  · rw [if_neg hg]
    exact sPart_out hc (by simpa using hg)
theorem pN_sum {v n : Nat} {sh : Int32} (hn : n ≤ 32) (hsub : ∀ i, n ≤ i → i < 32 → gb sh i = false) (hne : ∃ c, c < n ∧ gb sh c = true) : sN (pN v sh) n = v := by
  have e0 : cnt (gb sh) 0 32 = cnt (gb sh) 0 n := cnt_cut hn hsub
  obtain ⟨c, hc, hg⟩ := hne
  have hm := cnt_pos (p := gb sh) (k := n) (i := 0) (c := c) (by omega) (by omega) hg
  have h1 := part_sum (gb sh) (v / cnt (gb sh) 0 n) (v % cnt (gb sh) 0 n) n
  have h2 : sN (pN v sh) n = sN (fun c => if gb sh c = true then v / cnt (gb sh) 0 n + (if cnt (gb sh) 0 c < v % cnt (gb sh) 0 n then 1 else 0) else 0) n := sN_ext _ fun i _ => by
    unfold pN
    rw [e0]
  rw [h2, h1]
  have h3 := Nat.mod_lt v (show cnt (gb sh) 0 n > 0 from hm)
  have h4 := Nat.div_add_mod v (cnt (gb sh) 0 n)
  rw [Nat.min_eq_right (by omega)]
  exact h4
theorem share_fr (up coins sh : Int32) (σ : Sg) : ∀ n, n ≤ 32 → (∀ k, k < 9 ∨ k = 10 → lp (shareF up coins sh) 0 n σ k = σ k) ∧ (∀ b, b ≠ 2 → lp (shareF up coins sh) 0 n σ 13 b = σ 13 b) ∧ (∀ c, lp (shareF up coins sh) 0 n σ 9 c = if c < n ∧ gb up c = true then 5 else σ 9 c) ∧ ∀ c, lp (shareF up coins sh) 0 n σ 11 c = if c < n ∧ gb up c = true then sPart coins sh (bit c) else σ 11 c
  | 0, _ => ⟨fun _ _ => rfl, fun _ _ => rfl, fun c => by rw [if_neg (by omega)]; rfl, fun c => by rw [if_neg (by omega)]; rfl⟩
  | n + 1, hn => by
    obtain ⟨i1, i2, i3, i4⟩ := share_fr up coins sh σ n (by omega)
    rw [lp_last, Nat.zero_add]
    generalize lp (shareF up coins sh) 0 n σ = τ at i1 i2 i3 i4
    unfold shareF
    rw [sHolds_gb _ (by omega)]
    by_cases h : gb up n = true
    · rw [if_pos h]
      obtain ⟨f1, f2, f3, f4⟩ := sSettleC_fr τ n (sPart coins sh (bit n))
      have f5 : sSettleC τ n (sPart coins sh (bit n)) 11 n = sPart coins sh (bit n) := by
        unfold sSettleC
        rw [up2_k _ (by decide), up2_s]
      refine ⟨fun k hk => (f1 k hk).trans (i1 k hk), fun b hb => (f2 b hb).trans (i2 b hb), fun c => ?_, fun c => ?_⟩
      · rw [f3, i3]
        by_cases q : c = n
        · subst q
          rw [if_pos rfl, if_pos ⟨by omega, h⟩]
        · rw [if_neg q]
          by_cases q2 : c < n ∧ gb up c = true
          · rw [if_pos q2, if_pos ⟨by omega, q2.2⟩]
          · rw [if_neg q2, if_neg (fun q3 => q2 ⟨by omega, q3.2⟩)]
      · by_cases q : c = n
        · subst q
          rw [f5, if_pos ⟨by omega, h⟩]
        · rw [f4 c q, i4]
          by_cases q2 : c < n ∧ gb up c = true
          · rw [if_pos q2, if_pos ⟨by omega, q2.2⟩]
          · rw [if_neg q2, if_neg (fun q3 => q2 ⟨by omega, q3.2⟩)]
    · rw [if_neg h]
      refine ⟨i1, i2, fun c => ?_, fun c => ?_⟩
      · rw [i3]
        by_cases q2 : c < n ∧ gb up c = true
        · rw [if_pos q2, if_pos ⟨by omega, q2.2⟩]
        · rw [if_neg q2, if_neg]
          rintro ⟨q3, q4⟩
          by_cases q : c = n
          · subst q
            exact h q4
          · exact q2 ⟨by omega, q4⟩
      · rw [i4]
        by_cases q2 : c < n ∧ gb up c = true
        · rw [if_pos q2, if_pos ⟨by omega, q2.2⟩]
        · rw [if_neg q2, if_neg]
          rintro ⟨q3, q4⟩
          by_cases q : c = n
          · subst q
            exact h q4
          · exact q2 ⟨by omega, q4⟩
/-- the nearest line of a set is one of its claims' -/
theorem near_lp {σ : Sg} {set : Int32} (hl : ∀ c, c < nCl σ → ∃ l, 1 ≤ l ∧ l ≤ 5 ∧ σ 7 c = nI l) : ∀ n, n ≤ nCl σ → n ≤ 30 → (lp (nlf σ set) 0 n (-6) = -6 ∧ ∀ c, c < n → gb set c = false) ∨ ∃ c l, c < n ∧ gb set c = true ∧ 1 ≤ l ∧ l ≤ 5 ∧ σ 7 c = nI l ∧ lp (nlf σ set) 0 n (-6) = nI l
  | 0, _, _ => Or.inl ⟨rfl, fun c hc => absurd hc (by omega)⟩
  | n + 1, hn, h30 => by
    have ih := near_lp (set := set) hl n (by omega) (by omega)
    rw [lp_last, Nat.zero_add]
    generalize lp (nlf σ set) 0 n (-6) = a at ih
    obtain ⟨l0, l1, l2, e7⟩ := hl n (by omega)
    unfold nlf
    rw [sHolds_gb _ (by omega)]
    by_cases h : gb set n = true
    · rw [if_pos h]
      rcases ih with ⟨e, hz⟩ | ⟨c, l, c1, c2, c3, c4, c5, c6⟩
      · rw [if_pos e]
        exact Or.inr ⟨n, l0, by omega, h, l1, l2, e7, e7⟩
      · have n6 : ¬ a = -6 := by
          rw [c6]
          intro e
          have h1 := congrArg Int32.toInt e
          rw [nI_int (by omega)] at h1
          have h2 : (-6 : Int32).toInt = -6 := rfl
          omega
        rw [if_neg n6]
        split
        · exact Or.inr ⟨c, l, by omega, c2, c3, c4, c5, c6⟩
        · exact Or.inr ⟨n, l0, by omega, h, l1, l2, e7, e7⟩
    · rw [if_neg h]
      rcases ih with ⟨e, hz⟩ | ⟨c, l, c1, c2, c3, c4, c5, c6⟩
      · refine Or.inl ⟨e, fun c hc => ?_⟩
        by_cases q : c = n
        · subst q
          simpa using h
        · exact hz c (by omega)
      · exact Or.inr ⟨c, l, by omega, c2, c3, c4, c5, c6⟩
theorem KC.l {σ : Sg} (h : KC σ) : ∀ c, c < nCl σ → ∃ l, 1 ≤ l ∧ l ≤ 5 ∧ σ 7 c = nI l := fun c hc => (h c hc).1
theorem near_c {σ : Sg} (hK : KC σ) (hC : COk σ) (set : Int32) : (cNearLine σ set = -6 ∧ ∀ c, c < nCl σ → gb set c = false) ∨ ∃ c l, c < nCl σ ∧ gb set c = true ∧ 1 ≤ l ∧ l ≤ 5 ∧ σ 7 c = nI l ∧ cNearLine σ set = nI l := near_lp hK.l _ (Nat.le_refl _) hC.2
theorem sub_0 {σ : Sg} (hC : COk σ) {p : Nat → Bool} (h : bs p (nCl σ) ≠ 0) : ∃ c, c < nCl σ ∧ p c = true := by
  have h30 := hC.2
  refine Classical.byContradiction fun hn => h ((bs_eq0 (by omega)).mpr fun i hi => ?_)
  cases q : p i
  · rfl
  · exact absurd ⟨i, hi, q⟩ hn
theorem near_ne {σ : Sg} (hK : KC σ) (hC : COk σ) {set : Int32} (h : ∃ c, c < nCl σ ∧ gb set c = true) : ∃ c, c < nCl σ ∧ gb (cNearest σ set) c = true := by
  have h30 := hC.2
  rcases near_c hK hC set with ⟨_, hz⟩ | ⟨c, l, c1, c2, c3, c4, c5, c6⟩
  · obtain ⟨c, hc, hg⟩ := h
    rw [hz c hc] at hg
    exact absurd hg (by decide)
  · refine ⟨c, c1, ?_⟩
    unfold cNearest
    rw [gb_and, c2, gb_bs _ (by omega) (by omega), decide_eq_true c1, c5, c6]
    simp
theorem near_out {σ : Sg} (hC : COk σ) (set : Int32) {i : Nat} (h : i < 32) (hi : nCl σ ≤ i) : gb (cNearest σ set) i = false := by
  have h30 := hC.2
  unfold cNearest
  rw [gb_and, gb_bs _ (by omega) h, decide_eq_false (by omega), Bool.false_and, Bool.and_false]
theorem coins_n {σ : Sg} (hJ : JI σ) (hK : KI σ) {j : Nat} (hj : j < nLo σ) : ∃ v, v ≤ vN σ j ∧ sCoins σ j = nI v ∧ (σ 2 j ≠ 3 → v = vN σ j) := by
  obtain ⟨v1, v2, v3⟩ := hK.1.val hj
  obtain ⟨_, _, ⟨f, hf, e4⟩, _⟩ := hJ.wn
  unfold sCoins
  split
  next q =>
    rw [v3, e4, pk_mul]
    have h1 : vN σ j * f ≤ 9999 * 50 := Nat.mul_le_mul v2 hf
    have h2 : vN σ j * f / 100 ≤ vN σ j := by
      have := Nat.mul_le_mul_left (vN σ j) hf
      omega
    rw [show (100 : Int32) = nI 100 from rfl, nI_div (by omega) (by decide), nI_subN h2]
    exact ⟨_, Nat.sub_le _ _, rfl, fun e => absurd q e⟩
  · exact ⟨vN σ j, Nat.le_refl _, v3, fun _ => rfl⟩
theorem sOver_n {σ : Sg} {j : Nat} (h : sOver σ j = false) : σ 2 j ≠ 2 ∧ σ 2 j ≠ 4 := by
  unfold sOver at h
  rw [Bool.or_eq_false_iff, decide_eq_false_iff_not, decide_eq_false_iff_not] at h
  exact h
theorem KI.settle {σ : Sg} (h : KI σ) (hJ : JI σ) {j : Nat} (hj : j < nLo σ) (ho : sOver σ j = false) (hop : cOpenTo σ (nI j) = 0) (hup : cUpTo σ (nI j) ≠ 0) : ∃ v τ, τ = sLeave (lp (shareF (cUpTo σ (nI j)) (sCoins σ j) (cNearest σ (cUpTo σ (nI j)))) 0 (nCl σ) σ) j (sCoins σ j) ∧ KI τ ∧ v ≤ vN σ j ∧ sCoins σ j = nI v ∧ nCl τ = nCl σ ∧ nLo τ = nLo σ ∧ sN (bN τ) (nCl σ) = sN (bN σ) (nCl σ) + v ∧ kN τ + (if σ 2 j = 3 then v else 0) = kN σ ∧ τ 2 j = (if σ 2 j = 3 then 4 else 2) ∧ (∀ c, c < nCl σ → σ 6 c = nI j → sStands τ c = false) ∧ (∀ k, k < 9 ∧ k ≠ 2 ∨ k = 10 → τ k = σ k) ∧ τ 13 4 = σ 13 4 ∧ τ 13 3 = nI (kN τ) := by
  have l12 := hJ.lok.2
  have h30 := hJ.cok.2
  obtain ⟨v, hv, ev, hv3⟩ := coins_n hJ h hj
  obtain ⟨v1, v2, v3⟩ := h.1.val hj
  obtain ⟨n2, n4⟩ := sOver_n ho
  obtain ⟨f1, f2, f3, f4⟩ := share_fr (cUpTo σ (nI j)) (sCoins σ j) (cNearest σ (cUpTo σ (nI j))) σ (nCl σ) (by omega)
  refine ⟨v, _, rfl, ?_⟩
  generalize lp (shareF (cUpTo σ (nI j)) (sCoins σ j) (cNearest σ (cUpTo σ (nI j)))) 0 (nCl σ) σ = ρ at f1 f2 f3 f4
  have gup : ∀ c, c < nCl σ → (gb (cUpTo σ (nI j)) c = true ↔ σ 6 c = nI j ∧ σ 9 c = 1) := fun c hc => by
    rw [cUpTo_bs hJ.cok, gb_bs _ (by omega) (by omega), decide_eq_true hc, Bool.true_and, Bool.and_eq_true, decide_eq_true_eq, decide_eq_true_eq]
  have hne := near_ne h.2.1 hJ.cok (set := cUpTo σ (nI j)) (by
    rw [cUpTo_bs hJ.cok] at hup
    obtain ⟨c, hc, hp⟩ := sub_0 hJ.cok hup
    refine ⟨c, hc, ?_⟩
    rw [cUpTo_bs hJ.cok, gb_bs _ (by omega) (by omega), decide_eq_true hc, hp]
    rfl)
  have hsum := pN_sum (v := v) (n := nCl σ) (sh := cNearest σ (cUpTo σ (nI j))) (by omega) (fun i h1 h2 => near_out hJ.cok _ h2 h1) hne
  -- the state behind
  have e2 : ρ 2 j = σ 2 j := by rw [f1 2 (by decide)]
  generalize hτ : sLeave ρ j (sCoins σ j) = τ
  have r : ∀ k, k ≠ 2 → k ≠ 13 → τ k = ρ k := fun k h2 h13 => by
    rw [← hτ]
    unfold sLeave
    split
    · funext b
      rw [up2_k _ h2, up2_k _ h13]
    · funext b
      rw [up2_k _ h2]
  have r2 : ∀ i, τ 2 i = if i = j then (if σ 2 j = 3 then 4 else 2) else σ 2 i := fun i => by
    rw [← hτ]
    unfold sLeave
    rw [e2]
    by_cases q : i = j
    · rw [if_pos q, q]
      split
      · rw [up2_s]
      · rw [up2_s]
    · rw [if_neg q]
      split
      · rw [up2_j _ q, up2_k _ (by decide), f1 2 (by decide)]
      · rw [up2_j _ q, f1 2 (by decide)]
  have r13 : ∀ b, b ≠ 2 → b ≠ 3 → τ 13 b = σ 13 b := fun b hb hb3 => by
    rw [← hτ]
    unfold sLeave
    split
    · rw [up2_k _ (by decide), up2_j _ hb3, f2 b hb]
    · rw [up2_k _ (by decide), f2 b hb]
  have r133 : τ 13 3 = if σ 2 j = 3 then σ 13 3 - nI v else σ 13 3 := by
    rw [← hτ]
    unfold sLeave
    rw [e2]
    split
    · rw [up2_k _ (by decide), up2_s, f2 3 (by decide), ev]
    · rw [up2_k _ (by decide), f2 3 (by decide)]
  have ec : nCl τ = nCl σ := by
    unfold nCl
    rw [r13 1 (by decide) (by decide)]
  have el : nLo τ = nLo σ := by
    unfold nLo
    rw [r13 0 (by decide) (by decide)]
  have ed : dN τ = dN σ := by
    unfold dN
    rw [r13 4 (by decide) (by decide)]
  obtain ⟨s0, s1, s2, s3⟩ := h.2.2
  have t := h.tot l12
  have bnc : ∀ c, c < nCl σ → bN τ c = bN σ c + pN v (cNearest σ (cUpTo σ (nI j))) c := fun c hc => by
    unfold bN
    rw [r 11 (by decide) (by decide), f4 c]
    by_cases q : gb (cUpTo σ (nI j)) c = true
    · rw [if_pos ⟨hc, q⟩]
      have h9 := ((gup c hc).mp q).2
      have h0 := (h.2.1 c hc).2.1 (by rw [h9]; decide)
      rw [h0, ev, sPart_n (by omega) (by omega)]
      have hp : pN v (cNearest σ (cUpTo σ (nI j))) c ≤ v := by
        have e1 := sN_mono (f := fun i => if i = c then pN v (cNearest σ (cUpTo σ (nI j))) c else 0) (g := pN v (cNearest σ (cUpTo σ (nI j)))) (nCl σ) (fun i _ => by
          split
          next e => rw [e]; exact Nat.le_refl _
          · exact Nat.zero_le _)
        have e2 := sN_one (f := fun i => if i = c then pN v (cNearest σ (cUpTo σ (nI j))) c else 0) (g := fun _ => 0) (j := c) (nCl σ) (fun i _ hi => if_neg hi) hc
        rw [if_pos rfl] at e2
        omega
      rw [nI_clamp (by omega)]
      exact (Nat.zero_add _).symm
    · rw [if_neg (fun e => q e.2)]
      have hz : pN v (cNearest σ (cUpTo σ (nI j))) c = 0 := by
        unfold pN
        rw [if_neg]
        intro e
        exact q (gb_and_le e)
      rw [hz]
      rfl
  have hB : sN (bN τ) (nCl σ) = sN (bN σ) (nCl σ) + v := by
    rw [sN_add _ bnc, hsum]
  have hst : ∀ c, c < nCl σ → τ 9 c = if gb (cUpTo σ (nI j)) c = true then 5 else σ 9 c := fun c hc => by
    rw [r 9 (by decide) (by decide), f3]
    by_cases q : gb (cUpTo σ (nI j)) c = true
    · rw [if_pos ⟨hc, q⟩, if_pos q]
    · rw [if_neg (fun e => q e.2), if_neg q]
  have hno : ∀ c, c < nCl σ → σ 6 c = nI j → sStands τ c = false := fun c hc h6 => by
    unfold sStands
    rw [hst c hc]
    by_cases q : σ 9 c = 1
    · rw [if_pos ((gup c hc).mpr ⟨h6, q⟩)]
      rfl
    · rw [if_neg (fun e => q ((gup c hc).mp e).2), decide_eq_false q]
      rw [cOpenTo_bs hJ.cok, bs_eq0 (by omega)] at hop
      have := hop c hc
      rw [decide_eq_true h6, Bool.true_and] at this
      rw [this]
      rfl
  have hV : sN (vN τ) (nLo σ) = sN (vN σ) (nLo σ) := sN_ext _ fun i _ => by
    unfold vN
    rw [r 1 (by decide) (by decide), f1 1 (by decide)]
  have evn : ∀ i, vN τ i = vN σ i := fun i => by
    unfold vN
    rw [r 1 (by decide) (by decide), f1 1 (by decide)]
  have h3le : σ 2 j = 3 → vN σ j ≤ kN σ := fun q => by
    have e1 := sN_mono (f := fun i => if i = j then vN σ j else 0) (g := fN σ) (nLo σ) (fun i _ => by
      split
      next e => rw [e]; unfold fN; rw [if_pos q]; exact Nat.le_refl _
      · exact Nat.zero_le _)
    have e2 := sN_one (f := fun i => if i = j then vN σ j else 0) (g := fun _ => 0) (j := j) (nLo σ) (fun i _ hi => if_neg hi) hj
    rw [if_pos rfl] at e2
    omega
  have hk : τ 13 3 = nI (if σ 2 j = 3 then kN σ - v else kN σ) := by
    rw [r133]
    by_cases q : σ 2 j = 3
    · have := h3le q
      rw [if_pos q, if_pos q, s0, nI_subN (by omega)]
    · rw [if_neg q, if_neg q]
      exact s0
  have ek : kN τ = if σ 2 j = 3 then kN σ - v else kN σ := by
    show (τ 13 3).toNatClampNeg = _
    rw [hk, nI_clamp]
    split <;> omega
  have oW : ∀ i, i ≠ j → wN τ i = wN σ i ∧ fN τ i = fN σ i ∧ gN τ i = gN σ i := fun i hi => by
    unfold wN fN gN
    rw [r2, if_neg hi, evn]
    exact ⟨rfl, rfl, rfl⟩
  have w1 := sN_one (f := wN τ) (g := wN σ) (j := j) (nLo σ) (fun i _ hi => (oW i hi).1) hj
  have w2 := sN_one (f := fN τ) (g := fN σ) (j := j) (nLo σ) (fun i _ hi => (oW i hi).2.1) hj
  have w3 := sN_one (f := gN τ) (g := gN σ) (j := j) (nLo σ) (fun i _ hi => (oW i hi).2.2) hj
  have rk : ∀ k, k < 9 ∧ k ≠ 2 ∨ k = 10 → τ k = σ k := fun k hk => by
    rw [r k (by omega) (by omega), f1 k (by omega)]
  have hkt : τ 13 3 = nI (kN τ) := by rw [ek]; exact hk
  refine ⟨⟨fun i hi => ?_, fun c hc => ?_, hkt, ?_⟩, hv, ev, ec, el, hB, ?_, ?_, hno, rk, r13 4 (by decide) (by decide), hkt⟩
  · rw [el] at hi
    obtain ⟨k1, k2, k3, k4, k5⟩ := h.1 i hi
    rw [rk 1 (by decide), rk 3 (by decide), rk 4 (by decide), ed, r2]
    by_cases q : i = j
    · subst q
      rw [if_pos rfl]
      by_cases q3 : σ 2 i = 3
      · rw [if_pos q3]
        exact ⟨k1, ⟨4, by decide, rfl⟩, fun e => absurd e (by decide), fun _ e => absurd rfl e, k5⟩
      · rw [if_neg q3]
        exact ⟨k1, ⟨2, by decide, rfl⟩, fun e => absurd e (by decide), fun _ _ => k4 q3 n4, k5⟩
    · rw [if_neg q]
      exact ⟨k1, k2, k3, k4, k5⟩
  · rw [ec] at hc
    obtain ⟨k1, k2, k3, k4⟩ := h.2.1 c hc
    obtain ⟨i, hi, e6⟩ := hJ.wt c hc
    have el2 : loN σ c = i := by
      unfold loN
      rw [e6, nI_clamp (by omega)]
    have el3 : loN τ c = i := by
      unfold loN at *
      rw [rk 6 (by decide)]
      exact el2
    rw [el2] at k3 k4
    rw [rk 7 (by decide), el3, r2, hst c hc]
    refine ⟨k1, fun q => ?_, fun q => ?_, fun q => ?_⟩
    · by_cases qu : gb (cUpTo σ (nI j)) c = true
      · rw [if_pos qu] at q
        exact absurd rfl q
      · rw [if_neg qu] at q
        rw [r 11 (by decide) (by decide), f4, if_neg (fun e => qu e.2)]
        exact k2 q
    · by_cases qi : i = j
      · rw [if_pos qi]
        split
        · exact Or.inr rfl
        · exact Or.inl rfl
      · rw [if_neg qi]
        by_cases qu : gb (cUpTo σ (nI j)) c = true
        · have h6 := ((gup c hc).mp qu).1
          exact absurd (nI_inj2 (by omega) (by omega) (e6.symm.trans h6)) qi
        · rw [if_neg qu] at q
          exact k3 q
    · by_cases qi : i = j
      · subst qi
        have := hno c hc e6
        rw [this] at q
        exact absurd q (by decide)
      · rw [if_neg qi]
        refine k4 ?_
        have qu : ¬ gb (cUpTo σ (nI j)) c = true := fun qu => qi (nI_inj2 (by omega) (by omega) (e6.symm.trans ((gup c hc).mp qu).1))
        unfold sStands at q ⊢
        rw [hst c hc, if_neg qu] at q
        exact q
  · rw [el, ec, hV, hB, ek]
    by_cases q3 : σ 2 j = 3
    · have := h3le q3
      have z1 : wN τ j = 0 := by
        unfold wN
        rw [r2, if_pos rfl, if_pos q3, if_neg (by decide)]
      have z2 : wN σ j = 0 := by
        unfold wN
        rw [q3, if_neg (by decide)]
      have z3 : fN τ j = 0 := by
        unfold fN
        rw [r2, if_pos rfl, if_pos q3, if_neg (by decide)]
      have z4 : fN σ j = vN σ j := by
        unfold fN
        rw [if_pos q3]
      have z5 : gN τ j = 0 := by
        unfold gN
        rw [r2, if_pos rfl, if_pos q3, if_neg (by decide)]
      have z6 : gN σ j = 0 := by
        unfold gN
        rw [q3, if_neg (by decide)]
      rw [if_pos q3]
      refine ⟨by omega, by omega, by omega⟩
    · have hv' := hv3 q3
      obtain ⟨w, hw, ew⟩ := (h.1 j hj).2.1
      have q01 : σ 2 j = 0 ∨ σ 2 j = 1 := by
        rcases (show w = 0 ∨ w = 1 ∨ w = 2 ∨ w = 3 ∨ w = 4 by omega) with rfl | rfl | rfl | rfl | rfl
        · exact Or.inl ew
        · exact Or.inr ew
        · exact absurd ew n2
        · exact absurd ew q3
        · exact absurd ew n4
      have z1 : wN τ j = 0 := by
        unfold wN
        rw [r2, if_pos rfl, if_neg q3, if_neg (by decide)]
      have z2 : wN σ j = vN σ j := by
        unfold wN
        rw [if_pos q01]
      have z3 : fN τ j = 0 := by
        unfold fN
        rw [r2, if_pos rfl, if_neg q3, if_neg (by decide)]
      have z4 : fN σ j = 0 := by
        unfold fN
        rw [if_neg q3]
      have z5 : gN τ j = vN σ j := by
        unfold gN
        rw [r2, if_pos rfl, if_neg q3, if_pos rfl, evn]
      have z6 : gN σ j = 0 := by
        unfold gN
        rw [if_neg n2]
      rw [if_neg q3]
      refine ⟨by omega, by omega, by omega⟩
  · rw [ek]
    split
    next q =>
      have := h3le q
      omega
    · omega
  · rw [r2, if_pos rfl]
