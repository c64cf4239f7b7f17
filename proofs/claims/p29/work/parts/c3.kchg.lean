/-! every change: what it answers, what it leaves -/
def QI (σ : Sg) : Prop := KI σ ∧ JI σ ∧ WR σ
theorem QI.ok3 {σ : Sg} (h : QI σ) : Ok3 σ := ⟨h.2.1.lok, h.2.1.cok, h.2.1.wp.1⟩
theorem chg_JI {σ : Sg} {o : Sg → Int32 × Sg} {w a : Sg → Int32} {nn : Sg → Sg} (hJ : JI σ) (hW : WR σ) (hm : ∀ g, o (m14 g σ) = ((o σ).1, m14 g (o σ).2)) (hc : ∀ ζ, InvA ζ → Chg ζ (w ζ) (a ζ) (nn ζ) (o ζ)) {r : Int32} {τ : Sg} (he : o σ = (r, τ)) (hr : ¬ r < 0) : JI τ ∧ WR τ := by
  have hI : InvA (m14 (fun j => sPurse σ (nI j)) σ) := ⟨Pur.inv (σ := σ) ⟨fun k hk => if_neg hk, fun j _ => rfl⟩ hJ, hW⟩
  have e := hm (fun j => sPurse σ (nI j))
  rw [he] at e
  dsimp only at e
  generalize m14 (fun j => sPurse σ (nI j)) σ = ζ at hI e
  obtain ⟨c1, c2⟩ := hc ζ hI
  by_cases hw : w ζ < 0
  · have h1 := c1 hw
    rw [e] at h1
    have h2 := (Prod.mk.inj h1).1
    rw [← h2] at hw
    exact absurd hw hr
  · obtain ⟨d1, d2, d3, d4⟩ := c2 hw
    rw [e] at d2
    have h14 := E14.of (fun j => sPurse σ (nI j)) τ
    refine ⟨JI.r14 h14.sy (JI.r14 d2.sy d3.1.1), d3.2.to ?_ ?_ ?_⟩
    · exact ((d2 0 (by decide)).trans (h14 0 (by decide))).symm
    · exact ((d2 8 (by decide)).trans (h14 8 (by decide))).symm
    · exact congrFun ((d2 13 (by decide)).trans (h14 13 (by decide))).symm 1
theorem nng {b : Nat} (h : b < 2 ^ 31) : ¬ nI b < 0 := Int32.not_lt.mpr (nI_ge0 h)
theorem do_set {σ : Sg} (h : QI σ) {w b : Nat} (hw : w < 5) (hv : mVal (nI w) (nI b) = true) : oSet σ (nI w) (nI b) = (σ 0 w, up2 σ 0 w (nI b)) ∧ QI (up2 σ 0 w (nI b)) ∧ ¬ σ 0 w < 0 := by
  have e : oSet σ (nI w) (nI b) = (σ 0 w, up2 σ 0 w (nI b)) := by
    rw [eq_set, if_pos hv, nI_clamp (by omega)]
  obtain ⟨a, ha, e2⟩ := h.2.2.1 w hw
  have hr : ¬ σ 0 w < 0 := by
    rw [e2]
    exact nng (by omega)
  exact ⟨e, ⟨h.1.set w _, chg_JI (o := fun ζ => oSet ζ (nI w) (nI b)) h.2.1 h.2.2 (fun g => m14_set g σ _ _) (fun ζ hζ => chg_set hζ _ _) e hr⟩, hr⟩
theorem lo_lt {σ : Sg} (h : LOk σ) {b : Nat} (hb : b < 2 ^ 30) : σ 13 0 < nI b ↔ nLo σ < b := by
  have := h.2
  rw [h.1, nI_ltI (by omega) (by omega)]
theorem cl_lt {σ : Sg} (h : COk σ) {b : Nat} (hb : b < 2 ^ 30) : σ 13 1 < nI b ↔ nCl σ < b := by
  have := h.2
  rw [h.1, nI_ltI (by omega) (by omega)]
theorem v_in {v a b : Nat} (hv : v < 2 ^ 31) (hb : b < 2 ^ 31) (ha : a ≤ v) (h : v ≤ b) : ¬ nI v < nI a ∧ nI v ≤ nI b := ⟨fun q => by rw [nI_ltI hv (by omega)] at q; omega, by rw [nI_leI hv hb]; exact h⟩
theorem do_lot {σ : Sg} (h : QI σ) {v : Nat} (h1 : 1 ≤ v) (h2 : v ≤ 9999) : (¬ nLo σ < 12 → oLot σ (nI v) = (-4, σ)) ∧ (nLo σ < 12 → ∃ τ, oLot σ (nI v) = (nI (nLo σ), τ) ∧ QI τ ∧ nLo τ = nLo σ + 1 ∧ τ 1 (nLo σ) = nI v ∧ τ 2 (nLo σ) = 0 ∧ sN (vN τ) (nLo τ) = sN (vN σ) (nLo σ) + v) := by
  obtain ⟨q1, q2⟩ : ¬ nI v < 1 ∧ nI v ≤ 9999 := v_in (v := v) (a := 1) (b := 9999) (by omega) (by decide) h1 h2
  have e12 : σ 13 0 < 12 ↔ nLo σ < 12 := lo_lt (b := 12) h.2.1.lok (by decide)
  constructor
  · intro q
    unfold oLot
    rw [if_neg q1, if_pos q2, if_neg (fun e => q (e12.mp e))]
  · intro q
    have e : oLot σ (nI v) = (nI (nLo σ), up2 (up2 σ 1 (nLo σ) (nI v)) 13 0 (σ 13 0 + 1)) := by
      unfold oLot
      rw [if_neg q1, if_pos q2, if_pos (e12.mpr q), ← h.2.1.lok.1]
    have e0 : up2 (up2 σ 1 (nLo σ) (nI v)) 13 0 (σ 13 0 + 1) 13 0 = nI (nLo σ + 1) := by
      rw [up2_s, h.2.1.lok.1]
      exact nI_1 _
    have en : nLo (up2 (up2 σ 1 (nLo σ) (nI v)) 13 0 (σ 13 0 + 1)) = nLo σ + 1 := by
      rw [nLo, e0, nI_clamp (by omega)]
    have r1 : ∀ i, up2 (up2 σ 1 (nLo σ) (nI v)) 13 0 (σ 13 0 + 1) 1 i = if i = nLo σ then nI v else σ 1 i := fun i => by
      simp [up2c]
    refine ⟨_, e, ⟨h.1.lot h.2.1 q h1 h2, chg_JI (o := fun ζ => oLot ζ (nI v)) h.2.1 h.2.2 (fun g => m14_lot g σ _) (fun ζ hζ => chg_lot hζ _) e (nng (by omega))⟩, en, by rw [r1, if_pos rfl], (h.2.1.wu.1 (nLo σ) (Nat.le_refl _) q).1, ?_⟩
    rw [en, sN_last]
    have a1 : sN (vN (up2 (up2 σ 1 (nLo σ) (nI v)) 13 0 (σ 13 0 + 1))) (nLo σ) = sN (vN σ) (nLo σ) := sN_ext _ fun i hi => by
      unfold vN
      rw [r1, if_neg (by omega)]
    have a2 : vN (up2 (up2 σ 1 (nLo σ) (nI v)) 13 0 (σ 13 0 + 1)) (nLo σ) = v := by
      unfold vN
      rw [r1, if_pos rfl, nI_clamp (by omega)]
    rw [a1, a2]
/-- a member more -/
theorem cnt_up {p q : Nat → Bool} {a : Nat} : ∀ n, (∀ i, i < n → i ≠ a → q i = p i) → q a = true → p a = false → cnt q 0 n = cnt p 0 n + (if a < n then 1 else 0)
  | 0, _, _, _ => by rw [if_neg (by omega)]; rfl
  | n + 1, h, h1, h2 => by
    rw [cnt_s, cnt_s, cnt_up n (fun i hi => h i (by omega)) h1 h2]
    by_cases e : n = a
    · subst e
      rw [if_neg (show ¬ n < n by omega), if_pos h1, if_neg (by rw [h2]; decide), if_pos (show n < n + 1 by omega)]
    · rw [h n (by omega) e]
      by_cases e2 : a < n
      · rw [if_pos e2, if_pos (show a < n + 1 by omega)]
        omega
      · rw [if_neg e2, if_neg (show ¬ a < n + 1 by omega)]
        omega
theorem sh_bit (j : Nat) : (1 : Int32) <<< (nI j &&& 31) = bit j := rfl
theorem do_notice {σ : Sg} (h : QI σ) {j : Nat} (hj : j < nLo σ) : (σ 2 j ≠ 0 → oNotice σ (nI j) = (-5, σ)) ∧ (σ 2 j = 0 → ∃ τ, oNotice σ (nI j) = (sBit (lIn σ 1) + 1, τ) ∧ QI τ ∧ nLo τ = nLo σ ∧ lIn τ 1 = lIn σ 1 ||| ((1 : Int32) <<< (nI j &&& 31)) ∧ ¬ sBit (lIn σ 1) + 1 < 0) := by
  have l12 := h.2.1.lok.2
  have hx := sEx_of h.2.1.lok.1 hj (by omega)
  constructor
  · intro q
    unfold oNotice
    rw [if_pos hx, nI_clamp (by omega)]
    dsimp only
    rw [if_neg q]
  · intro q
    have e2 : ∀ i, up2 σ 2 j 1 2 i = if i = j then 1 else σ 2 i := fun i => by
      by_cases e : i = j
      · rw [if_pos e, e, up2_s]
      · rw [if_neg e, up2_j _ e]
    have g0 : ∀ i, i < 32 → gb (lIn σ 1) i = (decide (i < nLo σ) && decide (σ 2 i = 1)) := fun i hi => gb_bs _ (by omega) hi
    have g1 : ∀ i, i < 32 → gb (lIn (up2 σ 2 j 1) 1) i = (decide (i < nLo σ) && decide (up2 σ 2 j 1 2 i = 1)) := fun i hi => gb_bs _ (by show nLo σ ≤ 32; omega) hi
    have hb : sBit (lIn (up2 σ 2 j 1) 1) = sBit (lIn σ 1) + 1 := by
      rw [sBit_cnt, sBit_cnt, cnt_up (p := gb (lIn σ 1)) (a := j) 32 (fun i hi hne => by rw [g0 i hi, g1 i hi, e2, if_neg hne]) (by rw [g1 j (by omega), e2, if_pos rfl, decide_eq_true hj]; rfl) (by rw [g0 j (by omega), q]; simp), if_pos (by omega)]
      exact (nI_1 _).symm
    have e : oNotice σ (nI j) = (sBit (lIn σ 1) + 1, up2 σ 2 j 1) := by
      unfold oNotice
      rw [if_pos hx, nI_clamp (by omega)]
      dsimp only
      rw [if_pos q, hb]
    have hr : ¬ sBit (lIn σ 1) + 1 < 0 := by
      have := cnt_le (gb (lIn σ 1)) 32 0
      rw [sBit_cnt, nI_1]
      exact nng (by omega)
    refine ⟨_, e, ⟨h.1.notice q, chg_JI (o := fun ζ => oNotice ζ (nI j)) h.2.1 h.2.2 (fun g => m14_notice g σ _) (fun ζ hζ => chg_notice hζ _) e hr⟩, rfl, ?_, hr⟩
    rw [sh_bit]
    refine gb_ext fun i hi => ?_
    rw [g1 i hi, gb_or, g0 i hi, gb_bit j (by omega) i hi, e2]
    by_cases e3 : i = j
    · rw [if_pos e3, decide_eq_true e3, e3, decide_eq_true hj]
      simp
    · rw [if_neg e3, decide_eq_false e3, Bool.or_false]
def can1 (σ : Sg) (j : Nat) : Prop := σ 2 j = 0 ∨ σ 2 j = 1 ∨ (σ 2 j = 3 ∧ σ 4 j ≤ σ 0 3)
theorem can1_s {σ : Sg} (h : QI σ) {j : Nat} (hj : j < nLo σ) : sCanClaim σ j = true ↔ can1 σ j := by
  obtain ⟨w, hw, e⟩ := (h.1.1 j hj).2.1
  unfold sCanClaim can1 sOver
  rw [e]
  rcases (show w = 0 ∨ w = 1 ∨ w = 2 ∨ w = 3 ∨ w = 4 by omega) with rfl | rfl | rfl | rfl | rfl
  · exact ⟨fun _ => Or.inl rfl, fun _ => rfl⟩
  · exact ⟨fun _ => Or.inr (Or.inl rfl), fun _ => rfl⟩
  · constructor
    · intro q
      rw [if_neg (by decide)] at q
      exact absurd q (by decide)
    · rintro (q | q | q)
      · exact absurd q (by decide)
      · exact absurd q (by decide)
      · exact absurd q.1 (by decide)
  · rw [if_pos (by decide)]
    constructor
    · intro q
      refine Or.inr (Or.inr ⟨rfl, Int32.not_lt.mp ?_⟩)
      simpa using q
    · rintro (q | q | q)
      · exact absurd q (by decide)
      · exact absurd q (by decide)
      · simpa using Int32.not_lt.mpr q.2
  · constructor
    · intro q
      rw [if_neg (by decide)] at q
      exact absurd q (by decide)
    · rintro (q | q | q)
      · exact absurd q (by decide)
      · exact absurd q (by decide)
      · exact absurd q.1 (by decide)
theorem can2_s (σ : Sg) (g x : Int32) : cStandTo σ x &&& (cOfHeir σ g &&& cStanding σ) = cOfHeir σ g &&& cStandTo σ x := by
  refine gb_ext fun i _ => ?_
  unfold cStandTo
  simp only [gb_and]
  cases gb (cToLot σ x) i <;> cases gb (cStanding σ) i <;> cases gb (cOfHeir σ g) i <;> rfl
theorem do_claim {σ : Sg} (h : QI σ) {g j l : Nat} (hg : g < 16) (hj : j < nLo σ) (l1 : 1 ≤ l) (l2 : l ≤ 5) : (¬ (can1 σ j ∧ cStandTo σ (nI j) &&& (cOfHeir σ (nI g) &&& cStanding σ) = 0) → oClaim σ (nI g) (nI j) (nI l) = (-5, σ)) ∧ (can1 σ j ∧ cStandTo σ (nI j) &&& (cOfHeir σ (nI g) &&& cStanding σ) = 0 → (¬ nCl σ < 30 → oClaim σ (nI g) (nI j) (nI l) = (-4, σ)) ∧ (nCl σ < 30 → ∃ τ, oClaim σ (nI g) (nI j) (nI l) = (nI (nCl σ), τ) ∧ QI τ ∧ nLo τ = nLo σ ∧ nCl τ = nCl σ + 1 ∧ τ 5 (nCl σ) = nI g ∧ τ 6 (nCl σ) = nI j ∧ τ 7 (nCl σ) = nI l ∧ τ 9 (nCl σ) = 0)) := by
  have l12 := h.2.1.lok.2
  have hx := sEx_of h.2.1.lok.1 hj (by omega)
  have hh := sHeir_n g hg
  obtain ⟨q1, q2⟩ : ¬ nI l < 1 ∧ nI l ≤ 5 := v_in (v := l) (a := 1) (b := 5) (by omega) (by decide) l1 l2
  have e30 : σ 13 1 < 30 ↔ nCl σ < 30 := cl_lt (b := 30) h.2.1.cok (by decide)
  rw [can2_s]
  have base : oClaim σ (nI g) (nI j) (nI l) = if sCanClaim σ j = true then (if cOfHeir σ (nI g) &&& cStandTo σ (nI j) = 0 then (if σ 13 1 < 30 then (σ 13 1, up2 (up2 (up2 (up2 σ 5 (nCl σ) (nI g)) 6 (nCl σ) (nI j)) 7 (nCl σ) (nI l)) 13 1 (σ 13 1 + 1)) else (-4, σ)) else (-5, σ)) else (-5, σ) := by
    unfold oClaim
    rw [if_pos hh, if_pos hx, nI_clamp (by omega)]
    dsimp only
    rw [if_neg q1, if_pos q2]
  constructor
  · intro q
    rw [base]
    by_cases c1 : sCanClaim σ j = true
    · rw [if_pos c1, if_neg (fun c2 => q ⟨(can1_s h hj).mp c1, c2⟩)]
    · rw [if_neg c1]
  · rintro ⟨c1, c2⟩
    rw [if_pos ((can1_s h hj).mpr c1), if_pos c2] at base
    constructor
    · intro q
      rw [base, if_neg (fun e => q (e30.mp e))]
    · intro q
      rw [if_pos (e30.mpr q)] at base
      generalize hτ : up2 (up2 (up2 (up2 σ 5 (nCl σ) (nI g)) 6 (nCl σ) (nI j)) 7 (nCl σ) (nI l)) 13 1 (σ 13 1 + 1) = τ at base
      have hK : KI τ := by
        rw [← hτ]
        refine h.1.claim h.2.1 q l1 l2 ?_
        rw [nI_clamp (by omega)]
        rcases c1 with e | e | e
        · rw [e]; decide
        · rw [e]; decide
        · rw [e.1]; decide
      have e0 : τ 13 1 = nI (nCl σ + 1) := by
        rw [← hτ, up2_s, h.2.1.cok.1]
        exact nI_1 _
      refine ⟨τ, by rw [base, ← h.2.1.cok.1], ⟨hK, chg_JI (o := fun ζ => oClaim ζ (nI g) (nI j) (nI l)) h.2.1 h.2.2 (fun g' => m14_claim g' σ _ _ _) (fun ζ hζ => chg_claim hζ _ _ _) base (by rw [h.2.1.cok.1]; exact nng (by omega))⟩, ?_, ?_, ?_, ?_, ?_, ?_⟩
      · unfold nLo
        rw [← hτ]
        rfl
      · rw [nCl, e0, nI_clamp (by omega)]
      · rw [← hτ]
        simp [up2c]
      · rw [← hτ]
        simp [up2c]
      · rw [← hτ]
        simp [up2c]
      · rw [← hτ]
        exact (h.2.1.wu.2 (nCl σ) (Nat.le_refl _) q).2.1
theorem min32_n {a b : Nat} (ha : a < 2 ^ 31) (hb : b < 2 ^ 31) : min32 (nI a) (nI b) = nI (if b < a then b else a) := by
  unfold min32
  by_cases q : b < a
  · rw [if_pos q, if_pos (by rw [nI_ltI hb ha]; exact q)]
  · rw [if_neg q, if_neg (by rw [nI_ltI hb ha]; exact q)]
theorem do_prove {σ : Sg} (h : QI σ) {k p : Nat} (hk : k < nCl σ) (p1 : 1 ≤ p) (p2 : p ≤ 100) : (σ 9 k ≠ 0 → oProve σ (nI k) (nI p) = (-5, σ)) ∧ (σ 9 k = 0 → ∃ a τ, a ≤ 100 ∧ σ 8 k = nI a ∧ oProve σ (nI k) (nI p) = (nI (if a + p < 100 then a + p else 100), τ) ∧ QI τ ∧ nCl τ = nCl σ ∧ nLo τ = nLo σ ∧ τ 8 k = nI (if a + p < 100 then a + p else 100) ∧ τ 10 k = 0) := by
  have l30 := h.2.1.cok.2
  have hx := sEx_of h.2.1.cok.1 hk (by omega)
  obtain ⟨q1, q2⟩ : ¬ nI p < 1 ∧ nI p ≤ 100 := v_in (v := p) (a := 1) (b := 100) (by omega) (by decide) p1 p2
  have base : oProve σ (nI k) (nI p) = if sOpen σ k = true then (min32 100 (σ 8 k + nI p), up2 (up2 σ 8 k (min32 100 (σ 8 k + nI p))) 10 k 0) else (-5, σ) := by
    unfold oProve
    rw [if_pos hx, nI_clamp (by omega)]
    dsimp only
    rw [if_neg q1, if_pos q2]
  constructor
  · intro q
    rw [base, if_neg (by unfold sOpen; simpa using q)]
  · intro q
    rw [if_pos (by unfold sOpen; simpa using q)] at base
    obtain ⟨a, ha, ea⟩ := h.2.2.2 k hk
    have em : min32 100 (σ 8 k + nI p) = nI (if a + p < 100 then a + p else 100) := by
      rw [ea, nI_add, show (100 : Int32) = nI 100 from rfl, min32_n (by decide) (by omega)]
    rw [em] at base
    have hr : ¬ nI (if a + p < 100 then a + p else 100) < 0 := nng (by split <;> omega)
    refine ⟨a, _, ha, ea, base, ⟨h.1.prove _ _, chg_JI (o := fun ζ => oProve ζ (nI k) (nI p)) h.2.1 h.2.2 (fun g => m14_prove g σ _ _) (fun ζ hζ => chg_prove hζ _ _) base hr⟩, rfl, rfl, ?_, up2_s _ _ _ _⟩
    rw [up2_k _ (by decide), up2_s]
theorem do_decide {σ : Sg} (h : QI σ) {k : Nat} (hk : k < nCl σ) : (σ 9 k ≠ 0 → oDecide σ (nI k) = (-5, σ)) ∧ (σ 9 k = 0 → ∃ τ, oDecide σ (nI k) = ((if σ 8 k < σ 0 1 then 2 else 1), τ) ∧ QI τ ∧ nCl τ = nCl σ ∧ nLo τ = nLo σ ∧ τ 9 k = (if σ 8 k < σ 0 1 then 2 else 1)) := by
  have l30 := h.2.1.cok.2
  have hx := sEx_of h.2.1.cok.1 hk (by omega)
  have base : oDecide σ (nI k) = if sOpen σ k = true then ((if σ 8 k < σ 0 1 then 2 else 1), up2 σ 9 k (if σ 8 k < σ 0 1 then 2 else 1)) else (-5, σ) := by
    unfold oDecide
    rw [if_pos hx, nI_clamp (by omega)]
  constructor
  · intro q
    rw [base, if_neg (by unfold sOpen; simpa using q)]
  · intro q
    rw [if_pos (by unfold sOpen; simpa using q)] at base
    have hs : sStands σ k = true := by
      unfold sStands
      rw [q]
      rfl
    refine ⟨_, base, ⟨h.1.how hs (by split <;> decide), chg_JI (o := fun ζ => oDecide ζ (nI k)) h.2.1 h.2.2 (fun g => m14_decide g σ _) (fun ζ hζ => chg_decide hζ _) base (by split <;> decide)⟩, rfl, rfl, up2_s _ _ _ _⟩
theorem sSt_n {σ : Sg} {k : Nat} : sStands σ k = true ↔ σ 9 k = 0 ∨ σ 9 k = 1 := by
  unfold sStands
  simp
theorem do_withdraw {σ : Sg} (h : QI σ) {k i : Nat} (hk : k < nCl σ) (h6 : σ 6 k = nI i) : (sStands σ k = false → oWithdraw σ (nI k) = (-5, σ)) ∧ (sStands σ k = true → ∃ τ, oWithdraw σ (nI k) = (sBit (cStandTo τ (nI i)), τ) ∧ QI τ ∧ nCl τ = nCl σ ∧ nLo τ = nLo σ ∧ τ 9 k = 3 ∧ ¬ sBit (cStandTo τ (nI i)) < 0) := by
  have l30 := h.2.1.cok.2
  have hx := sEx_of h.2.1.cok.1 hk (by omega)
  have base : oWithdraw σ (nI k) = if sStands σ k = true then (sBit (cStandTo (up2 σ 9 k 3) (nI i)), up2 σ 9 k 3) else (-5, σ) := by
    unfold oWithdraw
    rw [if_pos hx, nI_clamp (by omega), ← h6]
  constructor
  · intro q
    rw [base, q]
    rfl
  · intro q
    rw [if_pos q] at base
    have hr : ¬ sBit (cStandTo (up2 σ 9 k 3) (nI i)) < 0 := by
      have := cnt_le (gb (cStandTo (up2 σ 9 k 3) (nI i))) 32 0
      rw [sBit_cnt]
      exact nng (by omega)
    exact ⟨_, base, ⟨h.1.how q (by decide), chg_JI (o := fun ζ => oWithdraw ζ (nI k)) h.2.1 h.2.2 (fun g => m14_withdraw g σ _) (fun ζ hζ => chg_withdraw hζ _) base hr⟩, rfl, rfl, up2_s _ _ _ _, hr⟩
theorem do_pass {σ : Sg} (h : QI σ) {d : Nat} (d1 : 1 ≤ d) (d2 : d ≤ 400) : (¬ dN σ + d ≤ 9999 → oPass σ (nI d) = (-5, σ)) ∧ (dN σ + d ≤ 9999 → ∃ r τ, oPass σ (nI d) = (nI r, τ) ∧ QI τ ∧ nLo τ = nLo σ ∧ dN τ = dN σ + d ∧ kN σ ≤ kN τ ∧ (∀ j, j < nLo σ → σ 2 j = 3 → τ 2 j = 3) ∧ cnt (fun j => decide (τ 2 j = 3)) 0 (nLo σ) = cnt (fun j => decide (σ 2 j = 3)) 0 (nLo σ) + r ∧ r ≤ 4800) := by
  obtain ⟨q1, q2⟩ : ¬ nI d < 1 ∧ nI d ≤ 400 := v_in (v := d) (a := 1) (b := 400) (by omega) (by decide) d1 d2
  have hd : σ 13 4 = nI (dN σ) ∧ dN σ ≤ 9999 := by
    obtain ⟨_, _, _, D, hD', hd, _⟩ := h.2.1.wn
    have : dN σ = D := by
      unfold dN
      rw [hd, nI_clamp (by omega)]
    rw [this]
    exact ⟨hd, hD'⟩
  have e9 : σ 13 4 + nI d ≤ 9999 ↔ dN σ + d ≤ 9999 := by
    rw [hd.1, nI_add, show (9999 : Int32) = nI 9999 from rfl, nI_leI (by omega) (by decide)]
  constructor
  · intro q
    unfold oPass
    rw [if_neg q1, if_pos q2, if_neg (fun e => q (e9.mp e))]
  · intro q
    obtain ⟨τ, r, p1, p2, p3, p3w, p4, p5, p6, p7, p8, p9⟩ := pass_K d 0 σ 0 h.1 h.2.1 h.2.2 q
    refine ⟨r, τ, ?_, ⟨p2, p3, p3w⟩, p5, p4, p6, p7, by omega, by omega⟩
    unfold oPass
    rw [if_neg q1, if_pos q2, if_pos (e9.mpr q), nI_clamp (by omega)]
    dsimp only
    rw [show (0 : Int32) = nI 0 from rfl, p1]
theorem do_settle {σ : Sg} (h : QI σ) {j : Nat} (hj : j < nLo σ) : (¬ (sOver σ j = false ∧ cOpenTo σ (nI j) = 0 ∧ cUpTo σ (nI j) ≠ 0) → oSettle σ (nI j) = (-5, σ)) ∧ (sOver σ j = false ∧ cOpenTo σ (nI j) = 0 ∧ cUpTo σ (nI j) ≠ 0 → ∃ v m τ, oSettle σ (nI j) = (nI m, τ) ∧ QI τ ∧ 1 ≤ m ∧ m ≤ cnt (gb (cStandTo σ (nI j))) 0 32 ∧ v ≤ vN σ j ∧ sCoins σ j = nI v ∧ nCl τ = nCl σ ∧ nLo τ = nLo σ ∧ sN (bN τ) (nCl σ) = sN (bN σ) (nCl σ) + v ∧ kN τ + (if σ 2 j = 3 then v else 0) = kN σ ∧ τ 2 j = (if σ 2 j = 3 then 4 else 2) ∧ cStandTo τ (nI j) = 0 ∧ τ 1 = σ 1 ∧ τ 0 = σ 0) := by
  have l12 := h.2.1.lok.2
  have l30 := h.2.1.cok.2
  have hx := sEx_of h.2.1.lok.1 hj (by omega)
  constructor
  · intro q
    unfold oSettle
    rw [if_pos hx, nI_clamp (by omega)]
    dsimp only
    rw [if_neg q]
  · rintro ⟨c1, c2, c3⟩
    obtain ⟨v, τ, eτ, hK, hv, ev, ec, el, hB, hk, h2, hno, hr, _, _⟩ := h.1.settle h.2.1 hj c1 c2 c3
    have base : oSettle σ (nI j) = (nI (cnt (gb (cNearest σ (cUpTo σ (nI j)))) 0 32), τ) := by
      unfold oSettle
      rw [if_pos hx, nI_clamp (by omega)]
      dsimp only
      rw [if_pos ⟨c1, c2, c3⟩, ← sBit_cnt, eτ]
    have hle := cnt_le (gb (cNearest σ (cUpTo σ (nI j)))) 32 0
    refine ⟨v, _, τ, base, ⟨hK, chg_JI (o := fun ζ => oSettle ζ (nI j)) h.2.1 h.2.2 (fun g => m14_settle g σ _) (fun ζ hζ => chg_settle hζ _) base (nng (by omega))⟩, ?_, ?_, hv, ev, ec, el, hB, hk, h2, ?_, hr 1 (by decide), hr 0 (by decide)⟩
    · have hup := c3
      rw [cUpTo_bs h.2.1.cok] at hup
      obtain ⟨c, hc, hp⟩ := sub_0 h.2.1.cok hup
      obtain ⟨c, hc, hg⟩ := near_ne h.1.2.1 h.2.1.cok (set := cUpTo σ (nI j)) ⟨c, hc, by
        rw [cUpTo_bs h.2.1.cok, gb_bs _ (by omega) (by omega), decide_eq_true hc, hp]
        rfl⟩
      exact cnt_pos (p := gb (cNearest σ (cUpTo σ (nI j)))) (k := 32) (i := 0) (c := c) (by omega) (by omega) hg
    · have key : ∀ n, n ≤ 32 → cnt (gb (cNearest σ (cUpTo σ (nI j)))) 0 n ≤ cnt (gb (cStandTo σ (nI j))) 0 n := by
        intro n
        induction n with
        | zero => intro _; exact Nat.le_refl _
        | succ n ih =>
          intro hn
          have := ih (by omega)
          rw [cnt_s, cnt_s]
          by_cases q : gb (cNearest σ (cUpTo σ (nI j))) n = true
          · have g1 := gb_and_le q
            have g2 : gb (cStandTo σ (nI j)) n = true := by
              rw [cUpTo_bs h.2.1.cok, gb_bs _ (by omega) (by omega)] at g1
              rw [cStandTo_bs h.2.1.cok, gb_bs _ (by omega) (by omega)]
              simp only [Bool.and_eq_true, decide_eq_true_eq] at g1 ⊢
              exact ⟨g1.1, g1.2.1, sSt_n.mpr (Or.inr g1.2.2)⟩
            rw [if_pos q, if_pos g2]
            omega
          · rw [if_neg q]
            omega
      exact key 32 (Nat.le_refl _)
    · have hC : COk τ := by
        have h1 := chg_JI (o := fun ζ => oSettle ζ (nI j)) h.2.1 h.2.2 (fun g => m14_settle g σ _) (fun ζ hζ => chg_settle hζ _) base (nng (by omega))
        exact h1.1.cok
      rw [cStandTo_bs hC, bs_eq0 (by rw [ec]; omega)]
      intro c hc
      rw [ec] at hc
      by_cases q : σ 6 c = nI j
      · rw [hno c hc q, Bool.and_false]
      · rw [hr 6 (by decide), decide_eq_false q, Bool.false_and]
