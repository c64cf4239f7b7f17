/-! numbers are read alike -/
theorem rdD_sees (T : Nat → Nat) (t a : Nat) : rdD T t a = if mSees T t a 48 57 = true then (nI (T a) - 48, a + 1) else (-1, a) := by
  unfold rdD mSees
  by_cases q : nI t ≤ nI a
  · rw [if_pos q, if_pos q]
    rfl
  · rw [if_neg q, if_neg q, mIn_if]
theorem sees_d {T : Nat → Nat} {t a : Nat} (h : mSees T t a 48 57 = true) : ∃ d, d ≤ 9 ∧ nI (T a) = nI (48 + d) := by
  unfold mSees at h
  split at h
  · exact absurd h (by decide)
  · obtain ⟨j, h1, h2, e⟩ := mIn_of (x := nI (T a)) (a := 48) (b := 57) (by decide) h (by decide)
    exact ⟨j - 48, by omega, by rw [e]; congr 1; omega⟩
theorem dig_sub (d : Nat) : nI (48 + d) - 48 = nI d := by
  rw [show (48 : Int32) = nI 48 from rfl, nI_subN (by omega), Nat.add_sub_cancel_left]
theorem dig_10 (v d : Nat) : 10 * nI v + nI (48 + d) - 48 = nI (10 * v + d) := by
  rw [show (10 : Int32) = nI 10 from rfl, pk_mul, nI_add, show (48 : Int32) = nI 48 from rfl, nI_subN (by omega)]
  congr 1
  omega
theorem dig_x (v d : Nat) : nI v * 10 + nI d = nI (10 * v + d) := by
  rw [show (10 : Int32) = nI 10 from rfl, pk_mul, nI_add, Nat.mul_comm]
/-- so many digits more: the number is so large -/
def RG (k v : Nat) : Prop := (k = 0 ∧ 1000 ≤ v ∧ v ≤ 9999) ∨ (k = 1 ∧ 100 ≤ v ∧ v ≤ 999) ∨ (k = 2 ∧ 10 ≤ v ∧ v ≤ 99) ∨ (k = 3 ∧ 1 ≤ v ∧ v ≤ 9)
theorem num_eq (T : Nat → Nat) (t : Nat) : ∀ (k F v a : Nat), RG k v → k + 1 ≤ F → mNumL T t 9999 F (nI v) a = rdL T t k (nI v) a ∧ ∃ w, w ≤ 9999 ∧ (rdL T t k (nI v) a).1 = nI w
  | k, 0, v, a, h, hF => by omega
  | 0, F + 1, v, a, h, hF => by
    have hv : 1000 ≤ v ∧ v ≤ 9999 := by
      unfold RG at h
      omega
    refine ⟨?_, v, hv.2, rfl⟩
    show mNumL T t 9999 (F + 1) (nI v) a = (nI v, a)
    unfold mNumL
    rw [if_neg (by rw [show (0 : Int32) = nI 0 from rfl, nI_leI (by omega) (by decide)]; omega)]
    by_cases q : mSees T t a 48 57 = true
    · obtain ⟨d, hd, e⟩ := sees_d q
      rw [if_neg (by rw [q]; decide), e, dig_10, if_pos]
      rw [show (9999 : Int32) = nI 9999 from rfl, nI_ltI (by omega) (by omega)]
      omega
    · rw [if_pos (by simpa using q)]
  | k + 1, F + 1, v, a, h, hF => by
    have hv : 1 ≤ v ∧ v ≤ 999 := by
      unfold RG at h
      omega
    unfold mNumL rdL
    rw [if_neg (by rw [show (0 : Int32) = nI 0 from rfl, nI_leI (by omega) (by decide)]; omega), rdD_sees]
    by_cases q : mSees T t a 48 57 = true
    · obtain ⟨d, hd, e⟩ := sees_d q
      rw [if_neg (by rw [q]; decide), e, dig_10, if_neg (by rw [show (9999 : Int32) = nI 9999 from rfl, nI_ltI (by omega) (by omega)]; omega), if_pos q, dig_sub]
      dsimp only
      rw [if_pos (nI_ge0 (by omega)), dig_x]
      refine num_eq T t k F (10 * v + d) (a + 1) ?_ (by omega)
      unfold RG at h ⊢
      omega
    · rw [if_pos (by simpa using q), if_neg q]
      dsimp only
      rw [if_neg (by decide)]
      exact ⟨rfl, v, by omega, rfl⟩
theorem rdN_no {T : Nat → Nat} {t a : Nat} (hi : Int32) (q : mSees T t a 48 57 = false) : rdN T t a = (-1, a) ∧ mNum T t a hi = (-6, a) := by
  have q' : ¬ mSees T t a 48 57 = true := by rw [q]; decide
  constructor
  · unfold rdN
    rw [rdD_sees, if_neg q']
    rfl
  · unfold mNum
    rw [if_neg q']
theorem rdN_yes {T : Nat → Nat} {t a : Nat} (q : mSees T t a 48 57 = true) : rdN T t a = mNum T t a 9999 ∧ ∃ w, w ≤ 9999 ∧ (mNum T t a 9999).1 = nI w := by
  obtain ⟨d, hd, e⟩ := sees_d q
  unfold rdN mNum
  rw [rdD_sees, if_pos q, if_pos q, e, dig_sub]
  dsimp only
  by_cases h0 : d = 0
  · subst h0
    rw [if_neg (by decide)]
    have e2 : mNumL T t 9999 80 (nI 0) (a + 1) = (nI 0, a + 1) := by
      unfold mNumL
      rw [if_pos (by decide)]
    rw [e2]
    exact ⟨rfl, 0, by omega, rfl⟩
  · rw [if_pos (by rw [show (0 : Int32) = nI 0 from rfl, nI_ltI (by decide) (by omega)]; omega)]
    obtain ⟨h1, h2⟩ := num_eq T t 3 80 d (a + 1) (by unfold RG; omega) (by decide)
    rw [h1]
    exact ⟨rfl, h2⟩
theorem rdD_9 {T : Nat → Nat} {t a : Nat} (q : mSees T t a 48 57 = true) : rdD T t a = mNum T t a 9 ∧ ∃ w, w ≤ 9999 ∧ (mNum T t a 9).1 = nI w := by
  obtain ⟨d, hd, e⟩ := sees_d q
  unfold mNum
  rw [rdD_sees, if_pos q, if_pos q, e, dig_sub]
  have e2 : mNumL T t 9 80 (nI d) (a + 1) = (nI d, a + 1) := by
    unfold mNumL
    by_cases h0 : d = 0
    · subst h0
      rw [if_pos (by decide)]
    · rw [if_neg (by rw [show (0 : Int32) = nI 0 from rfl, nI_leI (by omega) (by decide)]; omega)]
      by_cases q2 : mSees T t (a + 1) 48 57 = true
      · obtain ⟨d', hd', e'⟩ := sees_d q2
        rw [if_neg (by rw [q2]; decide), e', dig_10, if_pos]
        rw [show (9 : Int32) = nI 9 from rfl, nI_ltI (by decide) (by omega)]
        omega
      · rw [if_pos (by simpa using q2)]
  rw [e2]
  exact ⟨rfl, d, by omega, rfl⟩
theorem nI_n6 {w : Nat} (h : w ≤ 9999) : ¬ nI w = -6 := by
  intro q
  have h2 := nI_pos (n := w) (by omega)
  rw [q] at h2
  exact h2 (by decide)
theorem nI_nn {w : Nat} (h : w ≤ 9999) : (!decide (nI w < 0)) = true := by
  rw [decide_eq_false (nI_pos (by omega))]
  rfl
theorem mIn_gg (x g : Int32) : mIn x g g = decide (x = g) := by
  unfold mIn
  by_cases q : x = g
  · subst q
    rw [decide_eq_true rfl, decide_eq_false Int32.lt_irrefl]
    rfl
  · rw [decide_eq_false q]
    by_cases h1 : x < g
    · rw [decide_eq_true h1]
      rfl
    · have : g < x := by
        rcases Int32.lt_or_lt_of_ne q with h | h
        · exact absurd h h1
        · exact h
      rw [decide_eq_true this, Bool.and_comm]
      rfl
theorem rdS_sees {T : Nat → Nat} {t a : Nat} (c : Int32) {P : PD} (h1 : P.1 = t) (h2 : P.2.1 = a) : rdS T c P = if mSees T t a c c = true then (true, pAt P (a + 1)) else (false, P) := by
  unfold rdS mSees
  rw [h1, h2, mIn_gg]
  by_cases q : nI t ≤ nI a
  · rw [if_pos q, if_pos q]
    rfl
  · rw [if_neg q, if_neg q]
    by_cases q2 : nI (T a) = c
    · rw [if_pos q2, if_pos (decide_eq_true q2)]
    · rw [if_neg q2, if_neg (by rw [decide_eq_false q2]; decide)]
theorem thn_as (q : Bool × PD) (f g : PD → Bool × PD) : thn q (fun Q => thn (f Q) g) = thn (thn q f) g := by
  by_cases h : q.1 = true
  · rw [thn_t _ h, thn_t _ h]
  · have h' : q.1 = false := by simpa using h
    rw [thn_f _ h', thn_f _ h']
    rfl
/-- a sign and a number -/
theorem rd2 {T : Nat → Nat} {t a : Nat} (c : Int32) {P : PD} (h1 : P.1 = t) (h2 : P.2.1 = a) : ((mR2 T t a c 9999).1 = -6 → ∃ P', thn (rdS T c P) (rdF2 T) = (false, P') ∧ P'.1 = t ∧ P'.2.1 = (mR2 T t a c 9999).2) ∧ (¬ (mR2 T t a c 9999).1 = -6 → thn (rdS T c P) (rdF2 T) = (true, (t, (mR2 T t a c 9999).2, P.2.2.1, P.2.2.2.1, (mR2 T t a c 9999).1, P.2.2.2.2.2))) := by
  rw [rdS_sees c h1 h2]
  unfold mR2
  by_cases q : mSees T t a c c = true
  · rw [if_pos q, if_pos q, thn_t _ rfl]
    show (_ → ∃ P', rdF2 T (pAt P (a + 1)) = _ ∧ _) ∧ (_ → rdF2 T (pAt P (a + 1)) = _)
    have eF : rdF2 T (pAt P (a + 1)) = (!decide ((rdN T t (a + 1)).1 < 0), (t, (rdN T t (a + 1)).2, P.2.2.1, P.2.2.2.1, (rdN T t (a + 1)).1, P.2.2.2.2.2)) := by
      unfold rdF2 pAt
      rw [h1]
    rw [eF]
    by_cases q2 : mSees T t (a + 1) 48 57 = true
    · obtain ⟨e1, w, hw, e2⟩ := rdN_yes q2
      rw [e1, e2]
      refine ⟨fun h => absurd h (nI_n6 hw), fun _ => ?_⟩
      rw [nI_nn hw]
    · obtain ⟨e1, e2⟩ := rdN_no (T := T) (t := t) (a := a + 1) 9999 (by simpa using q2)
      rw [e1, e2]
      exact ⟨fun _ => ⟨_, rfl, rfl, rfl⟩, fun h => absurd rfl h⟩
  · rw [if_neg q, if_neg q, thn_f _ rfl]
    exact ⟨fun _ => ⟨_, rfl, h1, h2⟩, fun h => absurd rfl h⟩
theorem rd3 {T : Nat → Nat} {t a : Nat} (c : Int32) {P : PD} (h1 : P.1 = t) (h2 : P.2.1 = a) : ((mR2 T t a c 9).1 = -6 → ∃ P', thn (rdS T c P) (rdF3 T) = (false, P') ∧ P'.1 = t ∧ P'.2.1 = (mR2 T t a c 9).2) ∧ (¬ (mR2 T t a c 9).1 = -6 → thn (rdS T c P) (rdF3 T) = (true, (t, (mR2 T t a c 9).2, P.2.2.1, P.2.2.2.1, P.2.2.2.2.1, (mR2 T t a c 9).1))) := by
  rw [rdS_sees c h1 h2]
  unfold mR2
  by_cases q : mSees T t a c c = true
  · rw [if_pos q, if_pos q, thn_t _ rfl]
    show (_ → ∃ P', rdF3 T (pAt P (a + 1)) = _ ∧ _) ∧ (_ → rdF3 T (pAt P (a + 1)) = _)
    have eF : rdF3 T (pAt P (a + 1)) = (!decide ((rdD T t (a + 1)).1 < 0), (t, (rdD T t (a + 1)).2, P.2.2.1, P.2.2.2.1, P.2.2.2.2.1, (rdD T t (a + 1)).1)) := by
      unfold rdF3 pAt
      rw [h1]
    rw [eF]
    by_cases q2 : mSees T t (a + 1) 48 57 = true
    · obtain ⟨e1, w, hw, e2⟩ := rdD_9 q2
      rw [e1, e2]
      refine ⟨fun h => absurd h (nI_n6 hw), fun _ => ?_⟩
      rw [nI_nn hw]
    · obtain ⟨_, e2⟩ := rdN_no (T := T) (t := t) (a := a + 1) 9 (by simpa using q2)
      rw [e2, rdD_sees, if_neg q2]
      exact ⟨fun _ => ⟨_, rfl, rfl, rfl⟩, fun h => absurd rfl h⟩
  · rw [if_neg q, if_neg q, thn_f _ rfl]
    exact ⟨fun _ => ⟨_, rfl, h1, h2⟩, fun h => absurd rfl h⟩
/-- an order read by the class is the one that the reference reads -/
def RdQ (T : Nat → Nat) (t s : Nat) (q : Bool × PD) : Prop := q.1 = mROb T t s ∧ q.2.1 = t ∧ q.2.2.1 = mROs T t s ∧ (q.1 = true → q.2.2.2.1 = T s ∧ q.2.2.2.2.1 = (mRd T t s).1.1 ∧ (nI (T s) = 99 ∨ nI (T s) = 112 → q.2.2.2.2.2.1 = (mRd T t s).1.2.1) ∧ (nI (T s) = 99 → q.2.2.2.2.2.2 = (mRd T t s).1.2.2))
theorem mROb_t {T : Nat → Nat} {t s : Nat} (h : mOkL T t s = true) : mROb T t s = mGood (mRd T t s).1 ∧ mROs T t s = (mRd T t s).2 := by
  unfold mROb mROs
  rw [h, Bool.true_and, if_pos rfl]
  exact ⟨rfl, rfl⟩
theorem mROb_f {T : Nat → Nat} {t s : Nat} (h : mOkL T t s = false) : mROb T t s = false ∧ mROs T t s = s := by
  unfold mROb mROs
  rw [h, Bool.false_and, if_neg (by decide)]
  exact ⟨rfl, rfl⟩
theorem rd1 {T : Nat → Nat} {t a : Nat} {P : PD} (h1 : P.1 = t) (h2 : P.2.1 = a) : ((mNum T t a 9999).1 = -6 → ∃ P', rdF1 T P = (false, P') ∧ P'.1 = t ∧ P'.2.1 = (mNum T t a 9999).2) ∧ (¬ (mNum T t a 9999).1 = -6 → rdF1 T P = (true, (t, (mNum T t a 9999).2, P.2.2.1, (mNum T t a 9999).1, P.2.2.2.2.1, P.2.2.2.2.2))) := by
  have eF : rdF1 T P = (!decide ((rdN T t a).1 < 0), (t, (rdN T t a).2, P.2.2.1, (rdN T t a).1, P.2.2.2.2.1, P.2.2.2.2.2)) := by
    unfold rdF1
    rw [h1, h2]
  rw [eF]
  by_cases q2 : mSees T t a 48 57 = true
  · obtain ⟨e1, w, hw, e2⟩ := rdN_yes q2
    rw [e1, e2]
    refine ⟨fun h => absurd h (nI_n6 hw), fun _ => ?_⟩
    rw [nI_nn hw]
  · obtain ⟨e1, e2⟩ := rdN_no (T := T) (t := t) (a := a) 9999 (by simpa using q2)
    rw [e1, e2]
    exact ⟨fun _ => ⟨_, rfl, rfl, rfl⟩, fun h => absurd rfl h⟩
theorem thn_ff {q : Bool × PD} {P' : PD} (f : PD → Bool × PD) (h : q = (false, P')) : thn q f = (false, P') := by
  rw [h]
  rfl
theorem thn_tt {q : Bool × PD} {P' : PD} (f : PD → Bool × PD) (h : q = (true, P')) : thn q f = f P' := by
  rw [h]
  rfl
theorem RdQ.no {T : Nat → Nat} {t s : Nat} (hk : mOkL T t s = true) (hg : mGood (mRd T t s).1 = false) {P' : PD} (h1 : P'.1 = t) (h2 : P'.2.1 = (mRd T t s).2) : RdQ T t s (false, P') := by
  obtain ⟨a, b⟩ := mROb_t hk
  refine ⟨?_, h1, ?_, fun h => absurd (show false = true from h) (by decide)⟩
  · rw [a, hg]
  · rw [b]
    exact h2
theorem RdQ.yes {T : Nat → Nat} {t s : Nat} (hk : mOkL T t s = true) (hg : mGood (mRd T t s).1 = true) {P' : PD} (h1 : P'.1 = t) (h2 : P'.2.1 = (mRd T t s).2) (h3 : P'.2.2.1 = T s ∧ P'.2.2.2.1 = (mRd T t s).1.1 ∧ (nI (T s) = 99 ∨ nI (T s) = 112 → P'.2.2.2.2.1 = (mRd T t s).1.2.1) ∧ (nI (T s) = 99 → P'.2.2.2.2.2 = (mRd T t s).1.2.2)) : RdQ T t s (true, P') := by
  obtain ⟨a, b⟩ := mROb_t hk
  refine ⟨?_, h1, ?_, fun _ => h3⟩
  · rw [a, hg]
  · rw [b]
    exact h2
theorem rd_one {T : Nat → Nat} {t s : Nat} (hk : mOkL T t s = true) (h99 : ¬ nI (T s) = 99) (h112 : ¬ nI (T s) = 112) {P : PD} (h1 : P.1 = t) (h2 : P.2.1 = s + 1) (h3 : P.2.2.1 = T s) : RdQ T t s (rdF1 T P) := by
  obtain ⟨r1, r2⟩ := rd1 (T := T) h1 h2
  have no : ∀ {α : Prop}, nI (T s) = 99 ∨ nI (T s) = 112 → α := fun h => by
    rcases h with h | h
    · exact absurd h h99
    · exact absurd h h112
  by_cases q : (mNum T t (s + 1) 9999).1 = -6
  · obtain ⟨P', e, p1, p2⟩ := r1 q
    rw [e]
    refine RdQ.no hk ?_ p1 ?_
    · unfold mRd
      rw [if_pos q]
      rfl
    · unfold mRd
      rw [if_pos q]
      exact p2
  · rw [r2 q]
    have er : mRd T t s = (((mNum T t (s + 1) 9999).1, 0, 0), (mNum T t (s + 1) 9999).2) := by
      unfold mRd
      rw [if_neg q, if_neg h99, if_neg h112]
    refine RdQ.yes hk ?_ rfl ?_ ⟨h3, ?_, fun h => no h, fun h => no (Or.inl h)⟩
    · rw [er]
      unfold mGood
      dsimp only
      rw [decide_eq_false q]
      rfl
    · rw [er]
    · rw [er]
theorem rd_p {T : Nat → Nat} {t s : Nat} (hk : mOkL T t s = true) (h112 : nI (T s) = 112) {P : PD} (h1 : P.1 = t) (h2 : P.2.1 = s + 1) (h3 : P.2.2.1 = T s) : RdQ T t s (rdP T P) := by
  have h99 : ¬ nI (T s) = 99 := by
    rw [h112]
    decide
  obtain ⟨r1, r2⟩ := rd1 (T := T) h1 h2
  unfold rdP
  by_cases q : (mNum T t (s + 1) 9999).1 = -6
  · obtain ⟨P', e, p1, p2⟩ := r1 q
    rw [thn_ff _ e]
    refine RdQ.no hk ?_ p1 ?_
    · unfold mRd
      rw [if_pos q]
      rfl
    · unfold mRd
      rw [if_pos q]
      exact p2
  · rw [thn_tt _ (r2 q)]
    have er : mRd T t s = (((mNum T t (s + 1) 9999).1, (mR2 T t (mNum T t (s + 1) 9999).2 43 9999).1, 0), (mR2 T t (mNum T t (s + 1) 9999).2 43 9999).2) := by
      unfold mRd
      rw [if_neg q, if_neg h99, if_pos h112]
    obtain ⟨u1, u2⟩ := rd2 (T := T) (t := t) (a := (mNum T t (s + 1) 9999).2) 43 (P := (t, (mNum T t (s + 1) 9999).2, P.2.2.1, (mNum T t (s + 1) 9999).1, P.2.2.2.2.1, P.2.2.2.2.2)) rfl rfl
    by_cases q2 : (mR2 T t (mNum T t (s + 1) 9999).2 43 9999).1 = -6
    · obtain ⟨P', e, p1, p2⟩ := u1 q2
      rw [e]
      refine RdQ.no hk ?_ p1 ?_
      · rw [er]
        unfold mGood
        dsimp only
        rw [decide_eq_true q2]
        simp
      · rw [er]
        exact p2
    · rw [u2 q2]
      refine RdQ.yes hk ?_ rfl ?_ ⟨h3, ?_, fun _ => ?_, fun h => absurd h h99⟩
      · rw [er]
        unfold mGood
        dsimp only
        rw [decide_eq_false q, decide_eq_false q2]
        rfl
      · rw [er]
      · rw [er]
      · rw [er]
theorem rd_c {T : Nat → Nat} {t s : Nat} (hk : mOkL T t s = true) (h99 : nI (T s) = 99) {P : PD} (h1 : P.1 = t) (h2 : P.2.1 = s + 1) (h3 : P.2.2.1 = T s) : RdQ T t s (rdC T P) := by
  obtain ⟨r1, r2⟩ := rd1 (T := T) h1 h2
  have ea : rdC T P = thn (rdF1 T P) fun Q => thn (thn (rdS T 64 Q) (rdF2 T)) fun Q => thn (rdS T 47 Q) (rdF3 T) := by
    unfold rdC
    congr 1
    funext Q
    exact thn_as _ _ _
  rw [ea]
  by_cases q : (mNum T t (s + 1) 9999).1 = -6
  · obtain ⟨P', e, p1, p2⟩ := r1 q
    rw [thn_ff _ e]
    refine RdQ.no hk ?_ p1 ?_
    · unfold mRd
      rw [if_pos q]
      rfl
    · unfold mRd
      rw [if_pos q]
      exact p2
  · rw [thn_tt _ (r2 q)]
    obtain ⟨u1, u2⟩ := rd2 (T := T) (t := t) (a := (mNum T t (s + 1) 9999).2) 64 (P := (t, (mNum T t (s + 1) 9999).2, P.2.2.1, (mNum T t (s + 1) 9999).1, P.2.2.2.2.1, P.2.2.2.2.2)) rfl rfl
    generalize ha : (mNum T t (s + 1) 9999).2 = a at *
    by_cases q2 : (mR2 T t a 64 9999).1 = -6
    · obtain ⟨P', e, p1, p2⟩ := u1 q2
      rw [thn_ff _ e]
      have er : mRd T t s = (((mNum T t (s + 1) 9999).1, -6, -6), (mR2 T t a 64 9999).2) := by
        unfold mRd
        rw [if_neg q, if_pos h99, ha, if_pos q2]
      refine RdQ.no hk ?_ p1 ?_
      · rw [er]
        unfold mGood
        dsimp only
        simp
      · rw [er]
        exact p2
    · rw [thn_tt _ (u2 q2)]
      obtain ⟨v1, v2⟩ := rd3 (T := T) (t := t) (a := (mR2 T t a 64 9999).2) 47 (P := (t, (mR2 T t a 64 9999).2, P.2.2.1, (mNum T t (s + 1) 9999).1, (mR2 T t a 64 9999).1, P.2.2.2.2.2)) rfl rfl
      generalize hb : (mR2 T t a 64 9999).2 = b at *
      have er : mRd T t s = (((mNum T t (s + 1) 9999).1, (mR2 T t a 64 9999).1, (mR2 T t b 47 9).1), (mR2 T t b 47 9).2) := by
        unfold mRd
        rw [if_neg q, if_pos h99, ha, if_neg q2, hb]
      by_cases q3 : (mR2 T t b 47 9).1 = -6
      · obtain ⟨P', e, p1, p2⟩ := v1 q3
        rw [e]
        refine RdQ.no hk ?_ p1 ?_
        · rw [er]
          unfold mGood
          dsimp only
          rw [decide_eq_true q3]
          simp
        · rw [er]
          exact p2
      · rw [v2 q3]
        refine RdQ.yes hk ?_ rfl ?_ ⟨h3, ?_, fun _ => ?_, fun _ => ?_⟩
        · rw [er]
          unfold mGood
          dsimp only
          rw [decide_eq_false q, decide_eq_false q2, decide_eq_false q3]
          rfl
        · rw [er]
        · rw [er]
        · rw [er]
        · rw [er]
theorem rdO_q {T : Nat → Nat} {t s : Nat} {P : PD} (h1 : P.1 = t) (h2 : P.2.1 = s) : RdQ T t s (rdO T P) := by
  unfold rdO
  rw [h1, h2]
  by_cases q : nI t ≤ nI s
  · rw [if_pos q]
    have hk : mOkL T t s = false := by
      unfold mOkL
      rw [if_pos q]
    obtain ⟨a, b⟩ := mROb_f hk
    exact ⟨a.symm, h1, h2.trans b.symm, fun h => absurd (show false = true from h) (by decide)⟩
  · rw [if_neg q]
    have e : mOkL T t s = mLet (nI (T s)) := by
      unfold mOkL
      rw [if_neg q]
    have yes : ∀ {c : Int32}, nI (T s) = c → mLet c = true → mOkL T t s = true := fun h h' => by
      rw [e, h]
      exact h'
    have p1 : (pAt (pKd P (T s)) (s + 1)).1 = t := h1
    dsimp only
    by_cases c1 : nI (T s) = 99
    · rw [if_pos c1]
      exact rd_c (yes c1 (by decide)) c1 p1 rfl rfl
    rw [if_neg c1]
    by_cases c2 : nI (T s) = 100
    · rw [if_pos c2]
      exact rd_one (yes c2 (by decide)) c1 (by rw [c2]; decide) p1 rfl rfl
    rw [if_neg c2]
    by_cases c3 : nI (T s) = 108
    · rw [if_pos c3]
      exact rd_one (yes c3 (by decide)) c1 (by rw [c3]; decide) p1 rfl rfl
    rw [if_neg c3]
    by_cases c4 : nI (T s) = 110
    · rw [if_pos c4]
      exact rd_one (yes c4 (by decide)) c1 (by rw [c4]; decide) p1 rfl rfl
    rw [if_neg c4]
    by_cases c5 : nI (T s) = 112
    · rw [if_pos c5]
      exact rd_p (yes c5 (by decide)) c5 p1 rfl rfl
    rw [if_neg c5]
    by_cases c6 : nI (T s) = 115
    · rw [if_pos c6]
      exact rd_one (yes c6 (by decide)) c1 c5 p1 rfl rfl
    rw [if_neg c6]
    by_cases c7 : nI (T s) = 116
    · rw [if_pos c7]
      exact rd_one (yes c7 (by decide)) c1 c5 p1 rfl rfl
    rw [if_neg c7]
    by_cases c8 : nI (T s) = 119
    · rw [if_pos c8]
      exact rd_one (yes c8 (by decide)) c1 c5 p1 rfl rfl
    rw [if_neg c8]
    have hk : mOkL T t s = false := by
      rw [e]
      unfold mLet
      rw [decide_eq_false c1, decide_eq_false c2, decide_eq_false c3, decide_eq_false c4, decide_eq_false c5, decide_eq_false c6, decide_eq_false c7, decide_eq_false c8]
      rfl
    obtain ⟨a, b⟩ := mROb_f hk
    exact ⟨a.symm, h1, h2.trans b.symm, fun h => absurd (show false = true from h) (by decide)⟩
