/-! the pad as a whole is read alike -/
theorem ffl_f (T : Nat → Nat) (P : PD) : ∀ k, ffl T k false P = (false, P)
  | 0 => rfl
  | k + 1 => if_pos rfl
theorem mPf_f (T : Nat → Nat) (t s : Nat) (tl : Nat → Int32) (n : Nat) : ∀ j, mPf T t j false s tl n = (false, s, tl, n)
  | 0 => rfl
  | j + 1 => if_pos rfl
theorem ffl_e (T : Nat → Nat) (g : Bool) {P : PD} (h : nI P.1 ≤ nI P.2.1) : ∀ k, ffl T k g P = (g, P)
  | 0 => rfl
  | k + 1 => by
    unfold ffl
    split <;> first | rfl | (rw [if_pos h])
theorem mPf_e (T : Nat → Nat) (g : Bool) {t s : Nat} (tl : Nat → Int32) (n : Nat) (h : nI t ≤ nI s) : ∀ j, mPf T t j g s tl n = (g, s, tl, n)
  | 0 => rfl
  | j + 1 => by
    unfold mPf
    split <;> first | rfl | (rw [if_pos h])
theorem mROb_lt {T : Nat → Nat} {t s : Nat} (hs : s ≤ 80) (ht : t ≤ 80) (h : mROb T t s = true) : s < t ∧ mOkL T t s = true ∧ s + 1 ≤ mROs T t s := by
  have hk : mOkL T t s = true := by
    unfold mROb at h
    rw [Bool.and_eq_true] at h
    exact h.1
  have hlt : s < t := by
    have q := hk
    unfold mOkL at q
    split at q
    · exact absurd q (by decide)
    next q2 => exact lt_of_nle (by omega) q2
  refine ⟨hlt, hk, ?_⟩
  rw [(mROb_t hk).2]
  exact (mRd_le T (t := t) (s := s) (by omega) ht).1
theorem ff_eq (T : Nat → Nat) {t : Nat} (ht : t ≤ 80) (tl : Nat → Int32) : ∀ (k j : Nat) (g : Bool) (s n : Nat) (tl : Nat → Int32) (P : PD), P.1 = t → P.2.1 = s → s ≤ 80 → (g = true → t ≤ s + k) → (g = true → t ≤ s + j) → (ffl T k g P).1 = (mPf T t j g s tl n).1 ∧ (ffl T k g P).2.1 = t ∧ (ffl T k g P).2.2.1 = (mPf T t j g s tl n).2.1
  | k, j, false, s, n, tl, P, h1, h2, hs, hk, hj => by
    rw [ffl_f, mPf_f]
    exact ⟨rfl, h1, h2⟩
  | k, j, true, s, n, tl, P, h1, h2, hs, hk, hj => by
    by_cases q : nI t ≤ nI s
    · rw [ffl_e T true (by rw [h1, h2]; exact q), mPf_e T true tl n q]
      exact ⟨rfl, h1, h2⟩
    · have hlt := lt_of_nle (by omega) q
      have hk := hk rfl
      have hj := hj rfl
      match k, j, hk, hj with
      | 0, j, hk, hj => omega
      | k + 1, 0, hk, hj => omega
      | k + 1, j + 1, hk, hj =>
        unfold ffl mPf
        rw [if_neg (show ¬ true = false by decide), h1, h2, if_neg q, rdS_sees 59 h1 h2, if_neg (show ¬ true = false by decide), if_neg q]
        by_cases c : mSees T t s 59 59 = true
        · rw [if_pos c, if_pos c, if_neg (by dsimp only; decide)]
          dsimp only
          obtain ⟨r1, r2, r3, _⟩ := rdO_q (T := T) (t := t) (s := s + 1) (P := pAt P (s + 1)) h1 rfl
          rw [r1]
          have hle := mROs_le T (t := t) (s := s + 1) (by omega) ht
          exact ff_eq T ht tl k j _ _ _ _ _ r2 r3 hle.2.1 (fun _ => by omega) (fun _ => by omega)
        · rw [if_neg c, if_neg c, if_pos rfl]
          dsimp only
          rw [ffl_f, mPf_f]
          exact ⟨rfl, h1, h2⟩
theorem pad_eq (T : Nat → Nat) {t : Nat} (ht : t ≤ 80) (tl : Nat → Int32) {P : PD} (h1 : P.1 = t) : (ffAll T P).1 = (mPadA T t tl).1 ∧ (ffAll T P).2.1 = t ∧ (ffAll T P).2.2.1 = (mPadA T t tl).2.1 := by
  obtain ⟨r1, r2, r3, _⟩ := rdO_q (T := T) (t := t) (s := 0) (P := pAt P 0) h1 rfl
  have hle := mROs_le T (t := t) (s := 0) (by omega) ht
  unfold ffAll mPadA
  rw [r1]
  refine ff_eq T ht tl 79 80 _ _ _ _ _ r2 r3 hle.2.1 (fun q => ?_) (fun q => by omega)
  have := (mROb_lt (by omega) ht q).2.2
  omega
theorem fault_eq (T : Nat → Nat) {t : Nat} (ht : t ≤ 80) (tl : Nat → Int32) {P : PD} (h1 : P.1 = t) : sFault T P = if (mPadA T t tl).1 = true then -6 else nI (mPadA T t tl).2.1 := by
  obtain ⟨a, _, b⟩ := pad_eq T ht tl h1
  unfold sFault
  rw [a, b]
theorem fault_6 (T : Nat → Nat) {t : Nat} (ht : t ≤ 80) (tl : Nat → Int32) {P : PD} (h1 : P.1 = t) : sFault T P = -6 ↔ (mPadA T t tl).1 = true := by
  rw [fault_eq T ht tl h1]
  have h80 := (mPadA_le T ht tl).2
  by_cases q : (mPadA T t tl).1 = true
  · rw [if_pos q]
    exact ⟨fun _ => q, fun _ => rfl⟩
  · rw [if_neg q]
    exact ⟨fun h => absurd h (nI_n6 (by omega)), fun h => absurd h q⟩
/-- an order that was read, done by both -/
theorem ord_fix (σ : Sg) {P : PD} {k : Nat} {f e g : Int32} (h1 : P.2.2.1 = k) (h2 : P.2.2.2.1 = f) (h3 : nI k = 99 ∨ nI k = 112 → P.2.2.2.2.1 = e) (h4 : nI k = 99 → P.2.2.2.2.2 = g) : oOrder σ P = oOrder σ (0, 0, k, f, e, g) := by
  unfold oOrder
  dsimp only
  rw [h1, h2]
  by_cases q : nI k = 99
  · rw [if_pos q, if_pos q, h3 (Or.inl q), h4 q]
  rw [if_neg q, if_neg q]
  by_cases q : nI k = 100
  · rw [if_pos q, if_pos q]
  rw [if_neg q, if_neg q]
  by_cases q : nI k = 108
  · rw [if_pos q, if_pos q]
  rw [if_neg q, if_neg q]
  by_cases q : nI k = 110
  · rw [if_pos q, if_pos q]
  rw [if_neg q, if_neg q]
  by_cases q : nI k = 112
  · rw [if_pos q, if_pos q, h3 (Or.inr q)]
  rw [if_neg q, if_neg q]
theorem ord_both {ζ σ : Sg} (h : InvA ζ) (hE : E14 ζ σ) {T : Nat → Nat} {t s : Nat} {P : PD} (h1 : P.1 = t) (h2 : P.2.1 = s) (hb : mROb T t s = true) : (¬ wOrd ζ (nI (T s)) (mRd T t s).1.1 (mRd T t s).1.2.1 (mRd T t s).1.2.2 = 0 → (oOrder σ (rdO T P).2).1 < 0 ∧ E14 ζ (oOrder σ (rdO T P).2).2) ∧ (wOrd ζ (nI (T s)) (mRd T t s).1.1 (mRd T t s).1.2.1 (mRd T t s).1.2.2 = 0 → ¬ (oOrder σ (rdO T P).2).1 < 0 ∧ E14 (nOrd ζ (nI (T s)) (mRd T t s).1.1 (mRd T t s).1.2.1 (mRd T t s).1.2.2) (oOrder σ (rdO T P).2).2 ∧ InvA (nOrd ζ (nI (T s)) (mRd T t s).1.1 (mRd T t s).1.2.1 (mRd T t s).1.2.2)) := by
  obtain ⟨r1, r2, r3, r4⟩ := rdO_q (T := T) h1 h2
  obtain ⟨f1, f2, f3, f4⟩ := r4 (r1.trans hb)
  rw [ord_fix σ f1 f2 f3 f4]
  generalize (mRd T t s).1.1 = f
  generalize (mRd T t s).1.2.1 = e
  generalize (mRd T t s).1.2.2 = g
  have eσ : σ = m14 (σ 14) ζ := hE.sy.m
  rw [eσ, m14_order]
  obtain ⟨c1, c2⟩ := chg_order h (0, 0, T s, f, e, g)
  dsimp only at c1 c2 ⊢
  constructor
  · intro hw
    rcases wOrd_d (ζ := ζ) (nI (T s)) f e g with q | q
    · exact absurd q hw
    · rw [c1 q]
      exact ⟨q, (E14.of _ _).sy⟩
  · intro hw
    obtain ⟨a1, a2, a3, a4⟩ := c2 (by rw [hw]; decide)
    refine ⟨?_, a2.tr (E14.of _ _).sy, a3⟩
    rw [a1]
    exact Int32.not_lt.mpr a4
theorem tOrd_up4 {α : Type} (tl : Nat → Int32) (k : Nat) (c : Int32) (q : Int32 × Int32 × Int32) (f : Int32 → Int32 → Int32 → Int32 → α) : tOrd (up4 tl k c q) k f = f c q.1 q.2.1 q.2.2 := by
  unfold tOrd up4 upd
  simp
theorem tOrd_c {α : Type} {tl tl' : Nat → Int32} {k : Nat} (h : ∀ i, i < 4 * (k + 1) → tl' i = tl i) (f : Int32 → Int32 → Int32 → Int32 → α) : tOrd tl' k f = tOrd tl k f := by
  unfold tOrd
  rw [h _ (by omega), h _ (by omega), h _ (by omega), h _ (by omega)]
theorem up4_lo (tl : Nat → Int32) {k i : Nat} (c : Int32) (q : Int32 × Int32 × Int32) (h : i < 4 * k) : up4 tl k c q i = tl i := by
  unfold up4 upd
  rw [if_neg (by omega), if_neg (by omega), if_neg (by omega), if_neg (by omega)]
/-- at the end of the pad nothing more is done -/
theorem cof_end {T : Nat → Nat} {t s : Nat} (ht : t ≤ 80) (hs : s ≤ 80) (h : t ≤ s) {P : PD} (h1 : P.1 = t) (h2 : P.2.1 = s) : ∀ (f n : Nat) (σ : Sg), (cof T f n σ P).1 = n ∧ (cof T f n σ P).2.1 = σ
  | 0, n, σ => ⟨rfl, rfl⟩
  | f + 1, n, σ => by
    obtain ⟨r1, _⟩ := rdO_q (T := T) h1 h2
    have e : mROb T t s = false := by
      cases q : mROb T t s
      · rfl
      · have := (mROb_lt hs ht q).1
        omega
    unfold cof
    rw [if_pos (r1.trans e)]
    exact ⟨rfl, rfl⟩
theorem carry_eq (T : Nat → Nat) {t : Nat} (ht : t ≤ 80) : ∀ (j s : Nat) (tl : Nat → Int32) (n : Nat), s ≤ 80 → t ≤ mROs T t s + j → (mPf T t j (mROb T t s) (mROs T t s) (mROt T t s tl n) (mROk T t s n)).1 = true → n < (mPf T t j (mROb T t s) (mROs T t s) (mROt T t s tl n) (mROk T t s n)).2.2.2 ∧ (∀ i, i < 4 * n → (mPf T t j (mROb T t s) (mROs T t s) (mROt T t s tl n) (mROk T t s n)).2.2.1 i = tl i) ∧ ∀ (f : Nat) (ζ σ : Sg) (P : PD), P.1 = t → P.2.1 = s → InvA ζ → E14 ζ σ → (mPf T t j (mROb T t s) (mROs T t s) (mROt T t s tl n) (mROk T t s n)).2.2.2 ≤ n + f → (cof T f n σ P).1 = (mCo (mPf T t j (mROb T t s) (mROs T t s) (mROt T t s tl n) (mROk T t s n)).2.2.1 ((mPf T t j (mROb T t s) (mROs T t s) (mROt T t s tl n) (mROk T t s n)).2.2.2 - n) n ζ).1 ∧ E14 (mCo (mPf T t j (mROb T t s) (mROs T t s) (mROt T t s tl n) (mROk T t s n)).2.2.1 ((mPf T t j (mROb T t s) (mROs T t s) (mROt T t s tl n) (mROk T t s n)).2.2.2 - n) n ζ).2 (cof T f n σ P).2.1 ∧ InvA (mCo (mPf T t j (mROb T t s) (mROs T t s) (mROt T t s tl n) (mROk T t s n)).2.2.1 ((mPf T t j (mROb T t s) (mROs T t s) (mROt T t s tl n) (mROk T t s n)).2.2.2 - n) n ζ).2 := by
  intro j s tl n hs hj hg
  have hb : mROb T t s = true := by
    cases q : mROb T t s
    · rw [q, mPf_f] at hg
      exact absurd (show false = true from hg) (by decide)
    · rfl
  obtain ⟨hlt, hk, hs1⟩ := mROb_lt hs ht hb
  have hle := (mROs_le T (t := t) hs ht).2.1
  have ek : mROk T t s n = n + 1 := by
    unfold mROk
    rw [if_pos hk]
  have et : mROt T t s tl n = up4 tl n (nI (T s)) (mRd T t s).1 := by
    unfold mROt
    rw [if_pos hk]
  rw [hb, ek, et] at hg ⊢
  by_cases qe : nI t ≤ nI (mROs T t s)
  · have hts : t ≤ mROs T t s := by
      rw [nI_leI (by omega) (by omega)] at qe
      exact qe
    rw [mPf_e T true _ _ qe]
    dsimp only
    refine ⟨by omega, fun i hi => up4_lo tl _ _ hi, fun f ζ σ P h1 h2 hI hE hf => ?_⟩
    obtain ⟨f', rfl⟩ : ∃ f', f = f' + 1 := ⟨f - 1, by omega⟩
    obtain ⟨r1, r2, r3, r4⟩ := rdO_q (T := T) h1 h2
    obtain ⟨o1, o2⟩ := ord_both hI hE h1 h2 hb
    rw [show n + 1 - n = 0 + 1 by omega]
    unfold cof mCo
    rw [if_neg (by rw [r1, hb]; decide), tOrd_up4, tOrd_up4]
    by_cases qw : wOrd ζ (nI (T s)) (mRd T t s).1.1 (mRd T t s).1.2.1 (mRd T t s).1.2.2 = 0
    · obtain ⟨a1, a2, a3⟩ := o2 qw
      rw [if_neg a1, if_pos qw]
      have e59 : rdS T 59 (rdO T P).2 = (false, (rdO T P).2) := by
        rw [rdS_sees 59 r2 r3, mSees_ge _ _ (by omega) hts]
        rfl
      rw [e59]
      obtain ⟨b1, b2⟩ := cof_end ht hle hts (P := (rdO T P).2) r2 r3 f' (n + 1) (oOrder σ (rdO T P).2).2
      dsimp only
      rw [b1, b2]
      exact ⟨rfl, a2, a3⟩
    · obtain ⟨a1, a2⟩ := o1 qw
      rw [if_pos a1, if_neg qw]
      exact ⟨rfl, a2, hI⟩
  · have hts := lt_of_nle (by omega) qe
    match j, hj, hg with
    | 0, hj, hg => omega
    | j + 1, hj, hg =>
      unfold mPf at hg ⊢
      rw [if_neg (by decide), if_neg qe] at hg ⊢
      by_cases c : mSees T t (mROs T t s) 59 59 = true
      · rw [if_pos c] at hg ⊢
        have hle2 := mROs_le T (t := t) (s := mROs T t s + 1) (by omega) ht
        obtain ⟨i1, i2, i3⟩ := carry_eq T ht j (mROs T t s + 1) (up4 tl n (nI (T s)) (mRd T t s).1) (n + 1) (by omega) (by omega) hg
        generalize mPf T t j (mROb T t (mROs T t s + 1)) (mROs T t (mROs T t s + 1)) (mROt T t (mROs T t s + 1) (up4 tl n (nI (T s)) (mRd T t s).1) (n + 1)) (mROk T t (mROs T t s + 1) (n + 1)) = R at i1 i2 i3 ⊢
        refine ⟨by omega, fun i hi => (i2 i (by omega)).trans (up4_lo tl _ _ hi), fun f ζ σ P h1 h2 hI hE hf => ?_⟩
        obtain ⟨f', rfl⟩ : ∃ f', f = f' + 1 := ⟨f - 1, by omega⟩
        obtain ⟨r1, r2, r3, r4⟩ := rdO_q (T := T) h1 h2
        obtain ⟨o1, o2⟩ := ord_both hI hE h1 h2 hb
        rw [show R.2.2.2 - n = (R.2.2.2 - (n + 1)) + 1 by omega]
        unfold cof
        rw [if_neg (by rw [r1, hb]; decide)]
        have em : mCo R.2.2.1 (R.2.2.2 - (n + 1) + 1) n ζ = if wOrd ζ (nI (T s)) (mRd T t s).1.1 (mRd T t s).1.2.1 (mRd T t s).1.2.2 = 0 then mCo R.2.2.1 (R.2.2.2 - (n + 1)) (n + 1) (nOrd ζ (nI (T s)) (mRd T t s).1.1 (mRd T t s).1.2.1 (mRd T t s).1.2.2) else (n, ζ) := by
          show (if tOrd R.2.2.1 n (wOrd ζ) = 0 then mCo R.2.2.1 (R.2.2.2 - (n + 1)) (n + 1) (tOrd R.2.2.1 n (nOrd ζ)) else (n, ζ)) = _
          rw [tOrd_c i2, tOrd_c i2, tOrd_up4, tOrd_up4]
        rw [em]
        by_cases qw : wOrd ζ (nI (T s)) (mRd T t s).1.1 (mRd T t s).1.2.1 (mRd T t s).1.2.2 = 0
        · obtain ⟨a1, a2, a3⟩ := o2 qw
          rw [if_neg a1, if_pos qw]
          have e59 : rdS T 59 (rdO T P).2 = (true, pAt (rdO T P).2 (mROs T t s + 1)) := by
            rw [rdS_sees 59 r2 r3, if_pos c]
          rw [e59]
          exact i3 f' _ _ _ r2 rfl a3 a2 (by omega)
        · obtain ⟨a1, a2⟩ := o1 qw
          rw [if_pos a1, if_neg qw]
          exact ⟨rfl, a2, hI⟩
      · rw [if_neg c, mPf_f] at hg
        exact absurd (show false = true from hg) (by decide)
theorem mCo_le (tl : Nat → Int32) : ∀ (k i : Nat) (σ : Sg), (mCo tl k i σ).1 ≤ i + k
  | 0, i, σ => Nat.le_refl _
  | k + 1, i, σ => by
    unfold mCo
    split
    · have := mCo_le tl k (i + 1) (tOrd tl i (nOrd σ))
      omega
    · dsimp only
      omega
theorem carry_all {T : Nat → Nat} {t : Nat} (ht : t ≤ 80) (tl : Nat → Int32) {P : PD} (h1 : P.1 = t) {ζ : Sg} (hI : InvA ζ) (hg : (mPadA T t tl).1 = true) : (cofAll T ζ P).1 = (mCo (mPadA T t tl).2.2.1 (mPadA T t tl).2.2.2 0 ζ).1 ∧ E14 (mCo (mPadA T t tl).2.2.1 (mPadA T t tl).2.2.2 0 ζ).2 (cofAll T ζ P).2.1 ∧ InvA (mCo (mPadA T t tl).2.2.1 (mPadA T t tl).2.2.2 0 ζ).2 ∧ (cofAll T ζ P).1 ≤ 40 := by
  have h40 := (mPadA_le T ht tl).1
  obtain ⟨p1, p2, p3⟩ := pad_eq T ht tl h1
  obtain ⟨_, _, h⟩ := carry_eq T ht 80 0 tl 0 (by omega) (by omega) hg
  have h' := h 80 ζ ζ (pAt (ffAll T P).2 0) p2 rfl hI (fun _ _ => rfl) (by
    show (mPadA T t tl).2.2.2 ≤ 0 + 80
    omega)
  have e1 : (cofAll T ζ P).1 = (mCo (mPadA T t tl).2.2.1 (mPadA T t tl).2.2.2 0 ζ).1 := h'.1
  refine ⟨e1, h'.2.1, h'.2.2, ?_⟩
  rw [e1]
  have := mCo_le (mPadA T t tl).2.2.1 (mPadA T t tl).2.2.2 0 ζ
  omega
