theorem mPd_pay {σ : Sg} (hP : POk σ) (hlt : nPd σ < 16) (x w : Int32) : mPd (up2 (up2 σ 12 (nPd σ) x) 13 2 (σ 13 2 + 1)) w = true ↔ (mPd σ w = true ∨ x = w) := by
  have e0 : up2 (up2 σ 12 (nPd σ) x) 13 2 (σ 13 2 + 1) 13 2 = nI (nPd σ + 1) := by
    rw [up2_s, hP.1]
    exact nI_1 _
  have en : nPd (up2 (up2 σ 12 (nPd σ) x) 13 2 (σ 13 2 + 1)) = nPd σ + 1 := by
    unfold nPd at *
    rw [e0, nI_clamp (by omega)]
  rw [mPd_iff, mPd_iff, en]
  constructor
  · rintro ⟨k, hk, e⟩
    rw [up2_k _ (by decide)] at e
    by_cases q : k = nPd σ
    · subst q
      rw [up2_s] at e
      exact Or.inr e
    · rw [up2_j _ q] at e
      exact Or.inl ⟨k, by omega, e⟩
  · rintro (⟨k, hk, e⟩ | e)
    · refine ⟨k, by omega, ?_⟩
      rw [up2_k _ (by decide), up2_j _ (by omega), e]
    · refine ⟨nPd σ, by omega, ?_⟩
      rw [up2_k _ (by decide), up2_s, e]
/-- what holds while a lot is settled -/
def GI (σ : Sg) : Prop := COk σ ∧ WH σ ∧ WB σ ∧ WP σ ∧ WQ σ ∧ WZ σ
theorem nI_inj2 {a b : Nat} (ha : a < 2 ^ 31) (hb : b < 2 ^ 31) (h : nI a = nI b) : a = b := by
  have := congrArg Int32.toNatClampNeg h
  rwa [nI_clamp ha, nI_clamp hb] at this
theorem purse_same2 {σ σ2 : Sg} (c : Nat) (v : Int32) (s5 : σ2 5 = σ 5) (s11 : σ2 11 = σ 11) (s13 : σ2 13 1 = σ 13 1) (w : Int32) : sPurse (up2 (up2 σ2 11 c v) 9 c 5) w = sPurse (up2 σ 11 c v) w := by
  refine purse_same ?_ ?_ ?_ _
  · exact s5
  · funext i
    show up2 σ2 11 c v 11 i = up2 σ 11 c v 11 i
    simp only [up2c, s11]
  · exact s13
set_option maxHeartbeats 4000000 in
theorem GI.pay {σ : Sg} (h : GI σ) {c b : Nat} (hc : c < nCl σ) (hs : sStands σ c = true) (hb : b ≤ 9999) : GI (sSettleC σ c (nI b)) := by
  obtain ⟨hC, hH, hB, hWP, hWQ, hZ⟩ := h
  obtain ⟨g, hg, h5⟩ := hH c hc
  have h0 := hZ c hc hs
  have key : ∀ σ2 : Sg, σ2 5 = σ 5 → σ2 11 = σ 11 → σ2 9 = σ 9 → σ2 13 1 = σ 13 1 → WP σ2 → (∀ g', g' < 16 → (mPd σ2 (nI g') = true ↔ (mPd σ (nI g') = true ∨ (g' = g ∧ ¬ b = 0)))) → GI (up2 (up2 σ2 11 c (nI b)) 9 c 5) := by
    intro σ2 s5 s11 s9 s13 hWP2 hpd
    have hC2 := (hC.to s13)
    have en : nCl (up2 (up2 σ2 11 c (nI b)) 9 c 5) = nCl σ := hC2.2
    have hC3 : COk (up2 (up2 σ2 11 c (nI b)) 9 c 5) := (hC.to (σ' := up2 (up2 σ2 11 c (nI b)) 9 c 5) s13).1
    refine ⟨hC3, ?_, ?_, hWP2.to rfl rfl, ?_, ?_⟩
    · intro i hi
      rw [en] at hi
      obtain ⟨g', h1, h2⟩ := hH i hi
      exact ⟨g', h1, (congrFun s5 i).trans h2⟩
    · intro i hi
      rw [en] at hi
      rw [up2_k _ (by decide)]
      by_cases q : i = c
      · subst q
        rw [up2_s]
        exact ⟨b, hb, rfl⟩
      · rw [up2_j _ q, s11]
        exact hB i hi
    · intro g' hg'
      have e1 : mPd (up2 (up2 σ2 11 c (nI b)) 9 c 5) (nI g') = mPd σ2 (nI g') := rfl
      have e2 := purse_same2 c (nI b) s5 s11 s13 (nI g')
      rw [e1, e2, hpd g' hg', hWQ g' hg']
      by_cases q : g' = g
      · subst q
        obtain ⟨s, hs1, hs2⟩ := purse_small hC hB (nI g')
        rw [purse_put hC hc _ h5 h0, hs2, nI_add]
        have z0 : ∀ n, n < 2 ^ 31 → (nI n = 0 ↔ n = 0) := fun n hn => ⟨fun e => nI_inj2 hn (b := 0) (by decide) e, fun e => by subst e; rfl⟩
        rw [z0 s (by omega), z0 (s + b) (by omega)]
        omega
      · rw [purse_up hC hc]
        · simp [q]
        · rw [h5]
          intro e
          exact q (nI_inj2 (by omega) (by omega) e.symm)
    · intro i hi hst
      rw [en] at hi
      by_cases q : i = c
      · subst q
        unfold sStands at hst
        rw [up2_s] at hst
        exact absurd hst (by decide)
      · rw [up2_k _ (by decide), up2_j _ q, s11]
        refine hZ i hi ?_
        unfold sStands at *
        rw [up2_j _ q, up2_k _ (by decide), s9] at hst
        exact hst
  unfold sSettleC sPayO
  rw [h5]
  have hb0 : nI b ≤ 0 ↔ b = 0 := by
    rw [nI_le0 hb]
    exact ⟨fun e => nI_inj2 (by omega) (b := 0) (by decide) e, fun e => by subst e; rfl⟩
  by_cases hp : nI b ≤ 0
  · rw [if_pos hp]
    refine key σ rfl rfl rfl rfl hWP fun g' hg' => ?_
    rw [hb0] at hp
    simp [hp]
  · rw [if_neg hp]
    rw [hb0] at hp
    by_cases hz : sPurse σ (nI g) = 0
    · have hm : mPd σ (nI g) = false := by
        cases e : mPd σ (nI g)
        · rfl
        · exact absurd hz ((hWQ g hg).mp e)
      have hlt := hWP.lt hg hm
      have h16 : ¬ 16 ≤ σ 13 2 := by
        rw [hWP.1.1]
        exact nI_ge (b := 16) hlt (by decide)
      rw [if_pos hz, if_neg h16]
      refine key _ rfl rfl rfl rfl (hWP.pay hg hm) fun g' hg' => ?_
      rw [mPd_pay hWP.1 hlt]
      constructor
      · rintro (e | e)
        · exact Or.inl e
        · exact Or.inr ⟨(nI_inj2 (by omega) (by omega) e).symm, hp⟩
      · rintro (e | ⟨e, _⟩)
        · exact Or.inl e
        · exact Or.inr (by rw [e])
    · rw [if_neg hz]
      refine key σ rfl rfl rfl rfl hWP fun g' hg' => ?_
      constructor
      · exact Or.inl
      · rintro (e | ⟨e, _⟩)
        · exact e
        · subst e
          exact (hWQ g' hg').mpr hz
