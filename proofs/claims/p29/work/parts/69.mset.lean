/-! no more into a row of m than m -/
theorem php : ∀ (m n : Nat) (f : Nat → Nat), (∀ i, i < n → f i < m) → (∀ i j, i < n → j < n → f i = f j → i = j) → n ≤ m
  | 0, n, f, h, _ => by
    rcases Nat.eq_zero_or_pos n with q | q
    · omega
    · exact absurd (h 0 q) (by omega)
  | m + 1, n, f, h, hi => by
    rcases Nat.eq_zero_or_pos n with q | q
    · omega
    have key : n - 1 ≤ m := by
      by_cases hex : ∃ a, a < n ∧ f a = m
      · obtain ⟨a, ha, hfa⟩ := hex
        refine php m (n - 1) (fun i => if i = a then f (n - 1) else f i) (fun i hin => ?_) (fun i j h1 h2 e => ?_)
        · by_cases q1 : i = a
          · rw [if_pos q1]
            have h3 := h (n - 1) (by omega)
            by_cases q2 : f (n - 1) = m
            · have := hi (n - 1) a (by omega) ha (by rw [q2, hfa])
              omega
            · omega
          · rw [if_neg q1]
            have h3 := h i (by omega)
            by_cases q2 : f i = m
            · exact absurd (hi i a (by omega) ha (by rw [q2, hfa])) q1
            · omega
        · by_cases q1 : i = a
          · by_cases q2 : j = a
            · omega
            · rw [if_pos q1, if_neg q2] at e
              have := hi _ _ (by omega) (by omega) e
              omega
          · by_cases q2 : j = a
            · rw [if_neg q1, if_pos q2] at e
              have := hi _ _ (by omega) (by omega) e
              omega
            · rw [if_neg q1, if_neg q2] at e
              exact hi _ _ (by omega) (by omega) e
      · refine php m (n - 1) f (fun i hin => ?_) (fun i j h1 h2 e => hi i j (by omega) (by omega) e)
        have h3 := h i (by omega)
        have : f i ≠ m := fun q1 => hex ⟨i, by omega, q1⟩
        omega
    omega
/-- the heirs paid: heirs, each once -/
def WP (σ : Sg) : Prop := POk σ ∧ (∀ k, k < nPd σ → ∃ g, g < 16 ∧ σ 12 k = nI g) ∧ ∀ k l, k < nPd σ → l < nPd σ → σ 12 k = σ 12 l → k = l
theorem mPd_iff {σ : Sg} {x : Int32} : mPd σ x = true ↔ ∃ k, k < nPd σ ∧ σ 12 k = x := by
  unfold mPd
  rw [lp_or]
  constructor
  · rintro (h | ⟨c, _, h2, h3⟩)
    · exact absurd h (by decide)
    · exact ⟨c, by omega, by simpa using h3⟩
  · rintro ⟨k, h1, h2⟩
    exact Or.inr ⟨k, Nat.zero_le _, by omega, by simpa using h2⟩
theorem WP.lt {σ : Sg} (h : WP σ) {g : Nat} (hg : g < 16) (hn : mPd σ (nI g) = false) : nPd σ < 16 := by
  have hne : ∀ k, k < nPd σ → ¬ σ 12 k = nI g := fun k hk e => by
    rw [mPd_iff.mpr ⟨k, hk, e⟩] at hn
    exact absurd hn (by decide)
  have cl : ∀ k, k < nPd σ → (σ 12 k).toNatClampNeg < 16 ∧ σ 12 k = nI (σ 12 k).toNatClampNeg := fun k hk => by
    obtain ⟨g, hg, e⟩ := h.2.1 k hk
    rw [e, nI_clamp (by omega)]
    exact ⟨hg, rfl⟩
  have := php 16 (nPd σ + 1) (fun k => if k < nPd σ then (σ 12 k).toNatClampNeg else g) (fun i hi => ?_) (fun i j hi hj e => ?_)
  · omega
  · split
    next q => exact (cl i q).1
    · exact hg
  · by_cases q1 : i < nPd σ
    · by_cases q2 : j < nPd σ
      · rw [if_pos q1, if_pos q2] at e
        exact h.2.2 i j q1 q2 (by rw [(cl i q1).2, (cl j q2).2, e])
      · rw [if_pos q1, if_neg q2] at e
        exact absurd (by rw [(cl i q1).2, e]) (hne i q1)
    · by_cases q2 : j < nPd σ
      · rw [if_neg q1, if_pos q2] at e
        exact absurd (by rw [(cl j q2).2, ← e]) (hne j q2)
      · omega
theorem WP.to {σ τ : Sg} (h : WP σ) (e2 : τ 13 2 = σ 13 2) (e12 : τ 12 = σ 12) : WP τ := by
  have e := h.1.to e2
  refine ⟨e.1, ?_, ?_⟩
  · rw [e.2, e12]
    exact h.2.1
  · rw [e.2, e12]
    exact h.2.2
theorem WP.pay {σ : Sg} (h : WP σ) {g : Nat} (hg : g < 16) (hn : mPd σ (nI g) = false) : WP (up2 (up2 σ 12 (nPd σ) (nI g)) 13 2 (σ 13 2 + 1)) := by
  have hlt := h.lt hg hn
  have e0 : up2 (up2 σ 12 (nPd σ) (nI g)) 13 2 (σ 13 2 + 1) 13 2 = nI (nPd σ + 1) := by
    rw [up2_s, h.1.1]
    exact nI_1 _
  have en : nPd (up2 (up2 σ 12 (nPd σ) (nI g)) 13 2 (σ 13 2 + 1)) = nPd σ + 1 := by
    unfold nPd at *
    rw [e0, nI_clamp (by omega)]
  have ek : ∀ k, up2 (up2 σ 12 (nPd σ) (nI g)) 13 2 (σ 13 2 + 1) 12 k = if k = nPd σ then nI g else σ 12 k := by
    intro k
    rw [up2_k _ (by decide)]
    by_cases q : k = nPd σ
    · rw [if_pos q, q, up2_s]
    · rw [if_neg q, up2_j _ q]
  have hne : ∀ k, k < nPd σ → ¬ σ 12 k = nI g := fun k hk e => by
    rw [mPd_iff.mpr ⟨k, hk, e⟩] at hn
    exact absurd hn (by decide)
  refine ⟨⟨by rw [en, e0], by omega⟩, ?_, ?_⟩
  · rw [en]
    intro k hk
    rw [ek]
    by_cases q : k = nPd σ
    · rw [if_pos q]
      exact ⟨g, hg, rfl⟩
    · rw [if_neg q]
      exact h.2.1 k (by omega)
  · rw [en]
    intro k l hk hl e
    rw [ek, ek] at e
    by_cases q : k = nPd σ
    · by_cases q1 : l = nPd σ
      · omega
      · rw [if_pos q, if_neg q1] at e
        exact absurd e.symm (hne l (by omega))
    · by_cases q1 : l = nPd σ
      · rw [if_neg q, if_pos q1] at e
        exact absurd e (hne k (by omega))
      · rw [if_neg q, if_neg q1] at e
        exact h.2.2 k l (by omega) (by omega) e
/-- what stays while a lot is settled -/
def SInv (N : Nat) (σ : Sg) : Prop := σ 13 1 = nI N ∧ (∀ c, c < N → ∃ g, g < 16 ∧ σ 5 c = nI g) ∧ WP σ
theorem SInv.pay {N : Nat} {σ : Sg} (h : SInv N σ) {c : Nat} (hc : c < N) (x : Int32) : SInv N (mPay σ c x) := by
  obtain ⟨g, hg, e⟩ := h.2.1 c hc
  unfold mPay
  rw [e]
  dsimp only
  have h2 : WP (up2 (up2 σ 11 c x) 14 (nI g).toNatClampNeg (σ 14 (nI g).toNatClampNeg + x)) := h.2.2.to rfl rfl
  split
  · exact ⟨h.1, h.2.1, h2⟩
  split
  · exact ⟨h.1, h.2.1, h2⟩
  next q =>
    have q : mPd σ (nI g) = false := by simpa using q
    exact ⟨h.1, h.2.1, h2.pay hg q⟩
def mSetF (up near all : Int32) (c : Nat) (τ : Sg) : Sg :=
  let τ1 := if sHolds near (nI c) = true then mPay τ c (mPart all near c) else τ
  up2 τ1 9 c (if sHolds up (nI c) = true then 5 else τ1 9 c)
def mSettle (σ : Sg) (j : Nat) : Sg :=
  let τ := lp (mSetF (cUpTo σ (nI j)) (mNear σ (cUpTo σ (nI j))) (sCoins σ j)) 0 (nCl σ) σ
  if σ 2 j = 3 then up2 (up2 τ 13 3 (τ 13 3 - sCoins σ j)) 2 j 4 else up2 τ 2 j 2
theorem up2_id {σ : Sg} {K j : Nat} {v : Int32} (h : σ K j = v) : up2 σ K j v = σ := by
  funext a b
  unfold up2
  split
  next q => rw [q.1, q.2, h]
  · rfl
/-! a day of a lot -/
def mDayF (j : Nat) (c : Nat) (τ : Sg) : Sg := if τ 6 c = nI j then (if sOpen τ c = true then wLong τ c (τ 0 2) else τ) else τ
def d1 (wf : Bool) (j : Nat) (τ : Sg) : Sg := up2 τ 4 j (if wf = true then τ 4 j + 1 else τ 4 j)
def d2 (fa : Bool) (j : Nat) (τ : Sg) : Sg := up2 τ 13 3 (if fa = true then τ 13 3 + τ 1 j else τ 13 3)
def d3 (fa : Bool) (j : Nat) (τ : Sg) : Sg := up2 τ 2 j (if fa = true then 3 else τ 2 j)
def d4 (co : Bool) (j : Nat) (τ : Sg) : Bool := co && !decide (τ 3 j < τ 0 0)
def d5 (co : Bool) (j : Nat) (τ : Sg) : Sg := up2 τ 3 j (if co = true then τ 3 j + 1 else τ 3 j)
def d6 (j : Nat) (τ : Sg) : Bool := decide (τ 2 j = 1) && decide (cStandTo τ (nI j) = 0)
def dEnd (wf co : Bool) (j : Nat) (τ : Sg) : Sg × Bool := let fa := d4 co j (d5 co j τ)
  (d1 wf j (d2 fa j (d3 fa j (d5 co j τ))), fa)
def mDay (j : Nat) (σ : Sg) : Sg × Bool := let τ := lp (mDayF j) 0 (nCl σ) σ
  dEnd (decide (σ 2 j = 3)) (d6 j τ) j τ
def mDaysF (j : Nat) (q : Sg × Int32) : Sg × Int32 := ((mDay j q.1).1, if (mDay j q.1).2 = true then q.2 + 1 else q.2)
def mDayNow (σ : Sg) : Sg × Int32 := let q := lp mDaysF 0 (nLo σ) (σ, 0)
  (up2 q.1 13 4 (q.1 13 4 + 1), q.2)
def mPassF (_ : Nat) (q : Sg × Int32) : Sg × Int32 := ((mDayNow q.1).1, q.2 + (mDayNow q.1).2)
