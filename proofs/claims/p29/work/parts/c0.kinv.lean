/-! what else holds all along: values, lines, days, what adds up -/
def sN (f : Nat → Nat) : Nat → Nat
  | 0 => 0
  | n + 1 => sN f n + f n
theorem sN_ext {f g : Nat → Nat} : ∀ n, (∀ j, j < n → f j = g j) → sN f n = sN g n
  | 0, _ => rfl
  | n + 1, h => by
    show sN f n + f n = sN g n + g n
    rw [sN_ext n fun j hj => h j (by omega), h n (by omega)]
theorem sN_add {f g k : Nat → Nat} : ∀ n, (∀ j, j < n → f j = g j + k j) → sN f n = sN g n + sN k n
  | 0, _ => rfl
  | n + 1, h => by
    show sN f n + f n = (sN g n + g n) + (sN k n + k n)
    rw [sN_add n fun j hj => h j (by omega), h n (by omega)]
    omega
theorem sN_mono {f g : Nat → Nat} : ∀ n, (∀ j, j < n → f j ≤ g j) → sN f n ≤ sN g n
  | 0, _ => Nat.le_refl _
  | n + 1, h => by
    show sN f n + f n ≤ sN g n + g n
    have h1 := sN_mono n fun j hj => h j (by omega)
    have h2 := h n (by omega)
    omega
theorem sN_le {f : Nat → Nat} {b : Nat} : ∀ n, (∀ j, j < n → f j ≤ b) → sN f n ≤ b * n
  | 0, _ => Nat.zero_le _
  | n + 1, h => by
    show sN f n + f n ≤ b * (n + 1)
    have h1 := sN_le n fun j hj => h j (by omega)
    have h2 := h n (by omega)
    rw [Nat.mul_succ]
    omega
theorem sN_one {f g : Nat → Nat} {j : Nat} : ∀ n, (∀ i, i < n → i ≠ j → f i = g i) → j < n → sN f n + g j = sN g n + f j
  | 0, _, h => absurd h (by omega)
  | n + 1, h, hj => by
    show sN f n + f n + g j = sN g n + g n + f j
    by_cases q : j = n
    · subst q
      have h1 := sN_ext (f := f) (g := g) j fun i hi => h i (by omega) (by omega)
      omega
    · have h1 := sN_one n (fun i hi => h i (by omega)) (by omega)
      have h2 := h n (by omega) (fun e => q e.symm)
      omega
theorem sN_last (f : Nat → Nat) (n : Nat) : sN f (n + 1) = sN f n + f n := rfl
def vN (σ : Sg) (j : Nat) : Nat := (σ 1 j).toNatClampNeg
def bN (σ : Sg) (c : Nat) : Nat := (σ 11 c).toNatClampNeg
def kN (σ : Sg) : Nat := (σ 13 3).toNatClampNeg
def dN (σ : Sg) : Nat := (σ 13 4).toNatClampNeg
def loN (σ : Sg) (c : Nat) : Nat := (σ 6 c).toNatClampNeg
def wN (σ : Sg) (j : Nat) : Nat := if σ 2 j = 0 ∨ σ 2 j = 1 then vN σ j else 0
def fN (σ : Sg) (j : Nat) : Nat := if σ 2 j = 3 then vN σ j else 0
def gN (σ : Sg) (j : Nat) : Nat := if σ 2 j = 2 then vN σ j else 0
def KL (σ : Sg) : Prop := ∀ j, j < nLo σ → (∃ v, 1 ≤ v ∧ v ≤ 9999 ∧ σ 1 j = nI v) ∧ (∃ w, w < 5 ∧ σ 2 j = nI w) ∧ (σ 2 j = 0 → σ 3 j = 0) ∧ (σ 2 j ≠ 3 → σ 2 j ≠ 4 → σ 4 j = 0) ∧ ∃ k, k ≤ dN σ ∧ σ 4 j = nI k
def KC (σ : Sg) : Prop := ∀ c, c < nCl σ → (∃ l, 1 ≤ l ∧ l ≤ 5 ∧ σ 7 c = nI l) ∧ (σ 9 c ≠ 5 → σ 11 c = 0) ∧ (σ 9 c = 5 → σ 2 (loN σ c) = 2 ∨ σ 2 (loN σ c) = 4) ∧ (sStands σ c = true → σ 2 (loN σ c) ≠ 2 ∧ σ 2 (loN σ c) ≠ 4)
def KS (σ : Sg) : Prop := σ 13 3 = nI (kN σ) ∧ sN (vN σ) (nLo σ) = sN (wN σ) (nLo σ) + kN σ + sN (bN σ) (nCl σ) ∧ sN (fN σ) (nLo σ) ≤ kN σ ∧ sN (gN σ) (nLo σ) ≤ sN (bN σ) (nCl σ)
def KI (σ : Sg) : Prop := KL σ ∧ KC σ ∧ KS σ
theorem KI.how {σ : Sg} (h : KI σ) {j : Nat} {w : Int32} (hs : sStands σ j = true) (hw : w ≠ 5) : KI (up2 σ 9 j w) := by
  refine ⟨h.1, fun c hc => ?_, h.2.2⟩
  obtain ⟨k1, k2, k3, k4⟩ := h.2.1 c hc
  by_cases q : c = j
  · subst q
    have e9 : up2 σ 9 c w 9 c = w := up2_s _ _ _ _
    have n5 : σ 9 c ≠ 5 := by
      intro e
      unfold sStands at hs
      rw [e] at hs
      exact absurd hs (by decide)
    exact ⟨k1, fun _ => k2 n5, fun e => absurd (e9.symm.trans e) hw, fun _ => k4 hs⟩
  · have e9 : up2 σ 9 j w 9 c = σ 9 c := up2_j _ q
    refine ⟨k1, fun e => k2 (fun e2 => e (e9.trans e2)), fun e => k3 (e9.symm.trans e), fun e => k4 ?_⟩
    unfold sStands at e ⊢
    rw [e9] at e
    exact e
theorem KI.set {σ : Sg} (h : KI σ) (j : Nat) (v : Int32) : KI (up2 σ 0 j v) := h
theorem KI.prove {σ : Sg} (h : KI σ) (j : Nat) (v : Int32) : KI (up2 (up2 σ 8 j v) 10 j 0) := h
theorem KI.notice {σ : Sg} (h : KI σ) {j : Nat} (hj : σ 2 j = 0) : KI (up2 σ 2 j 1) := by
  have e2 : ∀ i, up2 σ 2 j 1 2 i = if i = j then 1 else σ 2 i := fun i => by
    by_cases q : i = j
    · rw [if_pos q, q, up2_s]
    · rw [if_neg q, up2_j _ q]
  refine ⟨fun i hi => ?_, fun c hc => ?_, ?_⟩
  · obtain ⟨k1, k2, k3, k4, k5⟩ := h.1 i hi
    refine ⟨k1, ?_, ?_, ?_, k5⟩
    · rw [e2]
      split
      · exact ⟨1, by decide, rfl⟩
      · exact k2
    · rw [e2]
      split
      · exact fun e => absurd e (by decide)
      · exact k3
    · rw [e2]
      split
      next q =>
        intro _ _
        subst q
        exact k4 (by rw [hj]; decide) (by rw [hj]; decide)
      · exact k4
  · obtain ⟨k1, k2, k3, k4⟩ := h.2.1 c hc
    refine ⟨k1, k2, fun e => ?_, fun e => ?_⟩
    · have := k3 e
      show up2 σ 2 j 1 2 (loN σ c) = 2 ∨ up2 σ 2 j 1 2 (loN σ c) = 4
      rw [e2]
      split
      next q =>
        rw [q, hj] at this
        exact absurd this (by decide)
      · exact this
    · have := k4 e
      show up2 σ 2 j 1 2 (loN σ c) ≠ 2 ∧ up2 σ 2 j 1 2 (loN σ c) ≠ 4
      rw [e2]
      split
      · decide
      · exact this
  · obtain ⟨s0, s1, s2, s3⟩ := h.2.2
    have ew : sN (wN (up2 σ 2 j 1)) (nLo σ) = sN (wN σ) (nLo σ) := sN_ext _ fun i _ => by
      unfold wN
      rw [e2]
      by_cases q : i = j
      · rw [if_pos q, q, hj, if_pos (Or.inr rfl), if_pos (Or.inl rfl)]
        rfl
      · rw [if_neg q]
        rfl
    have ef : sN (fN (up2 σ 2 j 1)) (nLo σ) = sN (fN σ) (nLo σ) := sN_ext _ fun i _ => by
      unfold fN
      rw [e2]
      by_cases q : i = j
      · rw [if_pos q, q, hj, if_neg (by decide), if_neg (by decide)]
      · rw [if_neg q]
        rfl
    have eg : sN (gN (up2 σ 2 j 1)) (nLo σ) = sN (gN σ) (nLo σ) := sN_ext _ fun i _ => by
      unfold gN
      rw [e2]
      by_cases q : i = j
      · rw [if_pos q, q, hj, if_neg (by decide), if_neg (by decide)]
      · rw [if_neg q]
        rfl
    refine ⟨s0, ?_, ?_, ?_⟩
    · show sN (vN σ) (nLo σ) = sN (wN (up2 σ 2 j 1)) (nLo σ) + kN σ + sN (bN σ) (nCl σ)
      rw [ew]
      exact s1
    · show sN (fN (up2 σ 2 j 1)) (nLo σ) ≤ kN σ
      rw [ef]
      exact s2
    · show sN (gN (up2 σ 2 j 1)) (nLo σ) ≤ sN (bN σ) (nCl σ)
      rw [eg]
      exact s3
theorem KI.lot {σ : Sg} (h : KI σ) (hJ : JI σ) (hlt : nLo σ < 12) {v : Nat} (h1 : 1 ≤ v) (h2 : v ≤ 9999) : KI (up2 (up2 σ 1 (nLo σ) (nI v)) 13 0 (σ 13 0 + 1)) := by
  generalize hτ : up2 (up2 σ 1 (nLo σ) (nI v)) 13 0 (σ 13 0 + 1) = τ
  have e0 : τ 13 0 = nI (nLo σ + 1) := by
    rw [← hτ, up2_s, hJ.lok.1]
    exact nI_1 _
  have en : nLo τ = nLo σ + 1 := by
    rw [nLo, e0, nI_clamp (by omega)]
  have r1 : ∀ i, τ 1 i = if i = nLo σ then nI v else σ 1 i := fun i => by
    rw [← hτ]
    simp [up2c]
  have r2 : τ 2 = σ 2 := by
    rw [← hτ]
    rfl
  have r13 : ∀ b, b ≠ 0 → τ 13 b = σ 13 b := fun b hb => by
    rw [← hτ, up2_j _ hb]
    rfl
  have ek : kN τ = kN σ := by
    unfold kN
    rw [r13 3 (by decide)]
  have ed : dN τ = dN σ := by
    unfold dN
    rw [r13 4 (by decide)]
  have ec : nCl τ = nCl σ := by
    unfold nCl
    rw [r13 1 (by decide)]
  have r3 : τ 3 = σ 3 := by
    rw [← hτ]
    rfl
  have r4 : τ 4 = σ 4 := by
    rw [← hτ]
    rfl
  obtain ⟨u2, u3, u4⟩ := hJ.wu.1 (nLo σ) (Nat.le_refl _) hlt
  have ev : ∀ i, i ≠ nLo σ → vN τ i = vN σ i := fun i hi => by
    unfold vN
    rw [r1, if_neg hi]
  have evn : vN τ (nLo σ) = v := by
    unfold vN
    rw [r1, if_pos rfl, nI_clamp (by omega)]
  refine ⟨fun i hi => ?_, ?_, ?_⟩
  · rw [en] at hi
    rw [r1, r2, r3, r4, ed]
    by_cases q : i = nLo σ
    · rw [if_pos q, q, u2, u3, u4]
      exact ⟨⟨v, h1, h2, rfl⟩, ⟨0, by decide, rfl⟩, fun _ => rfl, fun _ _ => rfl, 0, Nat.zero_le _, rfl⟩
    · rw [if_neg q]
      exact h.1 i (by omega)
  · unfold KC
    rw [ec, ← hτ]
    exact h.2.1
  · obtain ⟨s0, s1, s2, s3⟩ := h.2.2
    have eb : sN (bN τ) (nCl σ) = sN (bN σ) (nCl σ) := by
      rw [← hτ]
      rfl
    have a1 : sN (vN τ) (nLo σ) = sN (vN σ) (nLo σ) := sN_ext _ fun i hi => ev i (by omega)
    have a2 : sN (wN τ) (nLo σ) = sN (wN σ) (nLo σ) := sN_ext _ fun i hi => by
      unfold wN
      rw [r2, ev i (by omega)]
    have a3 : sN (fN τ) (nLo σ) = sN (fN σ) (nLo σ) := sN_ext _ fun i hi => by
      unfold fN
      rw [r2, ev i (by omega)]
    have a4 : sN (gN τ) (nLo σ) = sN (gN σ) (nLo σ) := sN_ext _ fun i hi => by
      unfold gN
      rw [r2, ev i (by omega)]
    have b2 : wN τ (nLo σ) = v := by
      unfold wN
      rw [r2, u2, if_pos (Or.inl rfl), evn]
    have b3 : fN τ (nLo σ) = 0 := by
      unfold fN
      rw [r2, u2, if_neg (by decide)]
    have b4 : gN τ (nLo σ) = 0 := by
      unfold gN
      rw [r2, u2, if_neg (by decide)]
    refine ⟨?_, ?_, ?_, ?_⟩
    · rw [r13 3 (by decide), ek]
      exact s0
    · rw [en, ec, ek, sN_last, sN_last, a1, a2, evn, b2, eb]
      omega
    · rw [en, ek, sN_last, a3, b3]
      omega
    · rw [en, ec, sN_last, a4, b4, eb]
      omega
theorem KI.claim {σ : Sg} (h : KI σ) (hJ : JI σ) (hlt : nCl σ < 30) {g j : Int32} {l : Nat} (l1 : 1 ≤ l) (l2 : l ≤ 5) (hj : σ 2 j.toNatClampNeg ≠ 2 ∧ σ 2 j.toNatClampNeg ≠ 4) : KI (up2 (up2 (up2 (up2 σ 5 (nCl σ) g) 6 (nCl σ) j) 7 (nCl σ) (nI l)) 13 1 (σ 13 1 + 1)) := by
  generalize hτ : up2 (up2 (up2 (up2 σ 5 (nCl σ) g) 6 (nCl σ) j) 7 (nCl σ) (nI l)) 13 1 (σ 13 1 + 1) = τ
  have e0 : τ 13 1 = nI (nCl σ + 1) := by
    rw [← hτ, up2_s, hJ.cok.1]
    exact nI_1 _
  have en : nCl τ = nCl σ + 1 := by
    rw [nCl, e0, nI_clamp (by omega)]
  have r6 : ∀ i, τ 6 i = if i = nCl σ then j else σ 6 i := fun i => by
    rw [← hτ]
    simp [up2c]
  have r7 : ∀ i, τ 7 i = if i = nCl σ then nI l else σ 7 i := fun i => by
    rw [← hτ]
    simp [up2c]
  have r13 : ∀ b, b ≠ 1 → τ 13 b = σ 13 b := fun b hb => by
    rw [← hτ, up2_j _ hb]
    rfl
  have r2 : τ 2 = σ 2 := by
    rw [← hτ]
    rfl
  have r9 : τ 9 = σ 9 := by
    rw [← hτ]
    rfl
  have r11 : τ 11 = σ 11 := by
    rw [← hτ]
    rfl
  have el : nLo τ = nLo σ := by
    unfold nLo
    rw [r13 0 (by decide)]
  have ek : kN τ = kN σ := by
    unfold kN
    rw [r13 3 (by decide)]
  have ed : dN τ = dN σ := by
    unfold dN
    rw [r13 4 (by decide)]
  obtain ⟨_, u9, _, u11⟩ := hJ.wu.2 (nCl σ) (Nat.le_refl _) hlt
  refine ⟨?_, fun c hc => ?_, ?_⟩
  · unfold KL
    rw [el, ed, ← hτ]
    exact h.1
  · rw [en] at hc
    have es : sStands τ c = sStands σ c := by
      unfold sStands
      rw [r9]
    unfold loN
    rw [r7, r2, r9, r11, r6, es]
    by_cases q : c = nCl σ
    · rw [if_pos q, if_pos q, q, u9, u11]
      exact ⟨⟨l, l1, l2, rfl⟩, fun _ => rfl, fun e => absurd e (by decide), fun _ => hj⟩
    · rw [if_neg q, if_neg q]
      exact h.2.1 c (by omega)
  · obtain ⟨s0, s1, s2, s3⟩ := h.2.2
    have eb : sN (bN τ) (nCl σ + 1) = sN (bN σ) (nCl σ) := by
      have e1 : sN (bN τ) (nCl σ) = sN (bN σ) (nCl σ) := sN_ext _ fun i _ => by
        unfold bN
        rw [r11]
      have e2 : bN τ (nCl σ) = 0 := by
        unfold bN
        rw [r11, u11]
        rfl
      rw [sN_last, e1, e2]
      rfl
    have a1 : sN (vN τ) (nLo σ) = sN (vN σ) (nLo σ) := by
      rw [← hτ]
      rfl
    have a2 : sN (wN τ) (nLo σ) = sN (wN σ) (nLo σ) := by
      rw [← hτ]
      rfl
    have a3 : sN (fN τ) (nLo σ) = sN (fN σ) (nLo σ) := by
      rw [← hτ]
      rfl
    have a4 : sN (gN τ) (nLo σ) = sN (gN σ) (nLo σ) := by
      rw [← hτ]
      rfl
    refine ⟨?_, ?_, ?_, ?_⟩
    · rw [r13 3 (by decide), ek]
      exact s0
    · rw [en, el, ek, eb, a1, a2]
      exact s1
    · rw [el, ek, a3]
      exact s2
    · rw [en, el, eb, a4]
      exact s3
