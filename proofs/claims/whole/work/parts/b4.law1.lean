/-! both objects side by side -/
theorem XAt.keptX {h h' : Nat → Option va_E} {x : Nat} {σ : Sg} {H : Nat → Sg} {n : Nat} {sl : Nat → Sg} {sv : Nat → Int32} {T : Nat → Nat} {P : PD} (hX : XAt h x σ H n sl sv T P) (e : ∀ q, x ≤ q → q < x + 166 → h' q = h q) : XAt h' x σ H n sl sv T P := by
  obtain ⟨p, hp, a1, a2, a3, a4, a5, a6, a7, a8⟩ := hX
  exact ⟨p, hp, (e x (by omega) (by omega)).trans a1, a2.kept (fun q _ _ => e q (by omega) (by omega)), fun i hi => (a3 i hi).kept (fun q _ _ => e q (by have := (hp.1 i hi).1; omega) (by have := (hp.1 i hi).2; omega)), fun i hi => (a4 i hi).kept (fun q _ _ => e q (by omega) (by omega)), a5.kept (fun q _ _ => e q (by omega) (by omega)), qrefs_kept a6 (e (x + 19) (by omega) (by omega)), qrefs_kept a7 (e (x + 20) (by omega) (by omega)), a8.kept (e _ (by omega) (by omega))⟩
theorem XAt.e14 {h : Nat → Option va_E} {x : Nat} {σ τ : Sg} {H : Nat → Sg} {n : Nat} {sl : Nat → Sg} {sv : Nat → Int32} {T : Nat → Nat} {P : PD} (hX : XAt h x σ H n sl sv T P) (e : E14 τ σ) : XAt h x τ H n sl sv T P := hX.setMain (hX.main.e14 e) (fun _ _ => rfl)
theorem MAt.keptM {h h' : Nat → Option va_E} {m : Nat} {ζ : Sg} {n nv : Nat} {G S : Nat → Sg} {sv tx : Nat → Int32} {ty sp : Int32} {tl : Nat → Int32} {tm : Int32} (H : MAt h m ζ n nv G S sv tx ty sp tl tm) (e : ∀ q, m ≤ q → q < m + 8 → h' q = h q) : MAt h' m ζ n nv G S sv tx ty sp tl tm := by
  obtain ⟨a1, a2, a3, a4, a5, a6, a7, a8⟩ := H
  exact ⟨⟨(e _ (by omega) (by omega)).trans a1.1, a1.2.kept (e _ (by omega) (by omega))⟩, a2, exR_kept a3 (e _ (by omega) (by omega)), a4.kept (e _ (by omega) (by omega)), a5.kept (e _ (by omega) (by omega)), a6.kept (e _ (by omega) (by omega)), a7.kept (e _ (by omega) (by omega)), a8.kept (e _ (by omega) (by omega))⟩
/-- both objects hold the same office, history, slots and pad -/
def LJ (h : Nat → Option va_E) (x m : Nat) (ζ : Sg) (H : Nat → Sg) (n : Nat) (sl : Nat → Sg) (sv : Nat → Int32) (T : Nat → Nat) (P : PD) (G S : Nat → Sg) (sp : Int32) (tl : Nat → Int32) (tm : Int32) : Prop :=
  XAt h x ζ H n sl sv T P ∧ MAt h m ζ n n G S sv (fun i => nI (T i)) (nI P.1) sp tl tm ∧ InvA ζ ∧ P.1 ≤ 80 ∧ (∀ k, k < n → H k = G k ∧ InvA (G k)) ∧ ∀ k, k < 2 → sv k ≠ 0 → sl k = S k ∧ InvA (S k)
def LI (h : Nat → Option va_E) (x m : Nat) : Prop := ∃ ζ H n sl sv T P G S sp tl tm, LJ h x m ζ H n sl sv T P G S sp tl tm
theorem InvA.ok3 {ζ : Sg} (h : InvA ζ) : Ok3 ζ := ⟨h.1.1.lok, h.1.1.cok, h.1.1.wp.1⟩
/-- a method of both, with the same arguments: the same answer, and both go on side by side -/
def PR (x m : Nat) (y1 : MethodName) (cc1 : ByteArray) (nL1 : Nat) (y2 : MethodName) (cc2 : ByteArray) (nL2 : Nat) (As : List Value) : Prop :=
  ∀ (st : Nat → Nat) (z : Nat) (h : Nat → Option va_E), LI h x m → ∃ (v : Int32) (mid : (Nat → Option va_E) → Prop), CT st 9 y1 cc1 nL1 (some .int) (.ref x :: As) (z, h) 0 0 (fun r hp' => r = some (.int v) ∧ ∃ h1, hp' = (z, h1) ∧ mid h1) ∧ ∀ h1, mid h1 → (∃ fs, h1 m = some (.inr (5, fs))) ∧ CT st 9 y2 cc2 nL2 (some .int) (.ref m :: As) (z, h1) 0 0 (fun r hp' => r = some (.int v) ∧ ∃ h2, hp' = (z, h2) ∧ LI h2 x m)
section PRS
variable {x m : Nat} {y1 y2 : MethodName} {cc1 cc2 : ByteArray} {nL1 nL2 : Nat} {As : List Value}
/-- both read -/
theorem pr_read {oc om : Sg → Nat → PD → Int32} (he : ∀ ζ n P, InvA ζ → om ζ n P = oc ζ n P) (hx : ∀ (st : Nat → Nat) (z : Nat) (h : Nat → Option va_E) (ζ : Sg) (H : Nat → Sg) (n : Nat) (sl : Nat → Sg) (sv : Nat → Int32) (T : Nat → Nat) (P : PD), XAt h x ζ H n sl sv T P → Ok3 ζ → P.1 ≤ 80 → CT st 9 y1 cc1 nL1 (some .int) (.ref x :: As) (z, h) 0 0 (RO (some (.int (oc ζ n P))) (z, h))) (hm : ∀ (st : Nat → Nat) (z : Nat) (h : Nat → Option va_E) (ζ : Sg) (n : Nat) (G S : Nat → Sg) (sv tx : Nat → Int32) (P : PD) (sp : Int32) (tl : Nat → Int32) (tm : Int32), MAt h m ζ n n G S sv tx (nI P.1) sp tl tm → InvA ζ → CT st 9 y2 cc2 nL2 (some .int) (.ref m :: As) (z, h) 0 0 (RO (some (.int (om ζ n P))) (z, h))) : PR x m y1 cc1 nL1 y2 cc2 nL2 As := by
  intro st z h hL
  obtain ⟨ζ, H, n, sl, sv, T, P, G, S, sp, tl, tm, hX, hM, hI, hP, hH, hS⟩ := id hL
  refine ⟨oc ζ n P, fun h1 => h1 = h, (hx st z h ζ H n sl sv T P hX hI.ok3 hP).mono ?_, ?_⟩
  · rintro r hp' ⟨rfl, rfl⟩
    exact ⟨rfl, h, rfl, rfl⟩
  · rintro h1 rfl
    refine ⟨⟨_, hM.ob⟩, (hm st z h1 ζ n G S sv _ P sp tl tm hM hI).mono ?_⟩
    rintro r hp' ⟨rfl, rfl⟩
    exact ⟨by rw [he ζ n P hI], h1, rfl, hL⟩
/-- the class reads, the reference lives through -/
theorem pr_look {o : Sg → Int32} (hx : ∀ (st : Nat → Nat) (z : Nat) (h : Nat → Option va_E) (ζ : Sg) (H : Nat → Sg) (n : Nat) (sl : Nat → Sg) (sv : Nat → Int32) (T : Nat → Nat) (P : PD), XAt h x ζ H n sl sv T P → Ok3 ζ → P.1 ≤ 80 → CT st 9 y1 cc1 nL1 (some .int) (.ref x :: As) (z, h) 0 0 (RO (some (.int (o ζ))) (z, h))) (hm : ∀ (st : Nat → Nat) (z : Nat) (h : Nat → Option va_E) (ζ : Sg) (n : Nat) (G S : Nat → Sg) (sv tx : Nat → Int32) (ty sp : Int32) (tl : Nat → Int32) (tm : Int32), MAt h m ζ n n G S sv tx ty sp tl tm → InvA ζ → CT st 9 y2 cc2 nL2 (some .int) (.ref m :: As) (z, h) 0 0 (MMO (some (.int (o ζ))) z m h ζ n n G S sv tx ty sp tl tm)) (hxm : x + 166 ≤ m) : PR x m y1 cc1 nL1 y2 cc2 nL2 As := by
  intro st z h hL
  obtain ⟨ζ, H, n, sl, sv, T, P, G, S, sp, tl, tm, hX, hM, hI, hP, hH, hS⟩ := id hL
  refine ⟨o ζ, fun h1 => h1 = h, (hx st z h ζ H n sl sv T P hX hI.ok3 hP).mono ?_, ?_⟩
  · rintro r hp' ⟨rfl, rfl⟩
    exact ⟨rfl, h, rfl, rfl⟩
  · rintro h1 rfl
    refine ⟨⟨_, hM.ob⟩, (hm st z h1 ζ n G S sv _ _ sp tl tm hM hI).mono ?_⟩
    rintro r hp' ⟨rfl, h2, rfl, q1, q2⟩
    exact ⟨rfl, h2, rfl, ζ, H, n, sl, sv, T, P, G, S, sp, tl, tm, hX.keptX (fun q e1 e2 => q2 q (by omega)), q1, hI, hP, hH, hS⟩
theorem hist_step {H G : Nat → Sg} {n : Nat} {ζ : Sg} (hn : n ≤ 6) (hH : ∀ k, k < n → H k = G k ∧ InvA (G k)) (hI : InvA ζ) : ∀ k, k < rcN n → (if n < 6 then hup H n ζ else hsh (hup H n ζ)) k = rcG G n ζ k ∧ InvA (rcG G n ζ k) := by
  intro k hk
  have up : ∀ j, j < n + 1 → hup H n ζ j = hup G n ζ j ∧ InvA (hup G n ζ j) := by
    intro j hj
    unfold hup
    by_cases q : j = n
    · rw [if_pos q, if_pos q]
      exact ⟨rfl, hI⟩
    · rw [if_neg q, if_neg q]
      exact hH j (by omega)
  unfold rcN at hk
  unfold rcG
  by_cases q : n < 6
  · rw [if_pos q] at hk
    rw [if_pos q, if_pos q]
    exact up k hk
  · rw [if_neg q] at hk
    rw [if_neg q, if_neg q]
    unfold hsh
    rw [if_pos (by omega), if_pos (by omega)]
    exact up (k + 1) (by omega)
theorem rec_ok {v : Int32} (h : 0 ≤ v) (H : Nat → Sg) (n : Nat) : recN v n = rcN n ∧ recH v H n = if n < 6 then H else hsh H := by
  unfold recN recH rcN
  rw [if_pos h, if_pos h]
  exact ⟨rfl, rfl⟩
theorem rec_no {v : Int32} (h : v < 0) (H : Nat → Sg) (n : Nat) : recN v n = n ∧ recH v H n = H := by
  unfold recN recH
  rw [if_neg (Int32.not_le.mpr h), if_neg (Int32.not_le.mpr h)]
  exact ⟨rfl, rfl⟩
theorem hup_lt {H : Nat → Sg} {n k : Nat} {ζ : Sg} (h : k < n) : hup H n ζ k = H k := if_neg (by omega)
/-- a change of both -/
theorem pr_chg {w a : Sg → Int32} {nn : Sg → Sg} {o : Sg → Int32 × Sg} (hc : ∀ ζ, InvA ζ → Chg ζ (w ζ) (a ζ) (nn ζ) (o ζ)) (hx : ∀ (st : Nat → Nat) (z : Nat) (h : Nat → Option va_E) (ζ : Sg) (H : Nat → Sg) (n : Nat) (sl : Nat → Sg) (sv : Nat → Int32) (T : Nat → Nat) (P : PD), XAt h x ζ H n sl sv T P → Ok3 ζ → P.1 ≤ 80 → CT st 9 y1 cc1 nL1 (some .int) (.ref x :: As) (z, h) 0 0 (XMO (some (.int (o ζ).1)) z x h (o ζ).2 (recH (o ζ).1 (hup H n ζ) n) (recN (o ζ).1 n) sl sv T P)) (hm : ∀ (st : Nat → Nat) (z : Nat) (h : Nat → Option va_E) (ζ : Sg) (n : Nat) (G S : Nat → Sg) (sv tx : Nat → Int32) (ty sp : Int32) (tl : Nat → Int32) (tm : Int32), MAt h m ζ n n G S sv tx ty sp tl tm → InvA ζ → CT st 9 y2 cc2 nL2 (some .int) (.ref m :: As) (z, h) 0 0 (MMO (some (.int (if w ζ < 0 then w ζ else a ζ))) z m h (if w ζ < 0 then ζ else nn ζ) (if w ζ < 0 then n else rcN n) (if w ζ < 0 then n else rcN n) (if w ζ < 0 then G else rcG G n ζ) S sv tx ty sp tl tm)) (hxm : x + 166 ≤ m) : PR x m y1 cc1 nL1 y2 cc2 nL2 As := by
  intro st z h hL
  obtain ⟨ζ, H, n, sl, sv, T, P, G, S, sp, tl, tm, hX, hM, hI, hP, hH, hS⟩ := id hL
  have h6 := hX.n6
  obtain ⟨c1, c2⟩ := hc ζ hI
  refine ⟨(o ζ).1, fun h1 => XAt h1 x (o ζ).2 (recH (o ζ).1 (hup H n ζ) n) (recN (o ζ).1 n) sl sv T P ∧ Fr x 166 h h1, (hx st z h ζ H n sl sv T P hX hI.ok3 hP).mono ?_, ?_⟩
  · rintro r hp' ⟨rfl, h1, rfl, q1, q2⟩
    exact ⟨rfl, h1, rfl, q1, q2⟩
  · rintro h1 ⟨hX1, hF1⟩
    have hM1 := hM.keptM (h' := h1) (fun q e1 e2 => hF1 q (by omega))
    refine ⟨⟨_, hM1.ob⟩, (hm st z h1 ζ n G S sv _ _ sp tl tm hM1 hI).mono ?_⟩
    rintro r hp' ⟨rfl, h2, rfl, q1, q2⟩
    have hX2 := hX1.keptX (h' := h2) (fun q e1 e2 => q2 q (by omega))
    by_cases hw : w ζ < 0
    · rw [c1 hw] at hX2 ⊢
      dsimp only at hX2 ⊢
      obtain ⟨e1, e2⟩ := rec_no hw (hup H n ζ) n
      rw [e1, e2] at hX2
      simp only [if_pos hw] at q1 ⊢
      exact ⟨by first | rfl | trivial, h2, rfl, ζ, hup H n ζ, n, sl, sv, T, P, G, S, sp, tl, tm, hX2, q1, hI, hP, fun k hk => by rw [hup_lt hk]; exact hH k hk, hS⟩
    · obtain ⟨d1, d2, d3, d4⟩ := c2 hw
      rw [d1] at hX2 ⊢
      obtain ⟨e1, e2⟩ := rec_ok d4 (hup H n ζ) n
      rw [e1, e2] at hX2
      simp only [if_neg hw] at q1 ⊢
      exact ⟨by first | rfl | trivial, h2, rfl, nn ζ, _, rcN n, sl, sv, T, P, rcG G n ζ, S, sp, tl, tm, hX2.e14 d2, q1, d3, hP, hist_step h6 hH hI, hS⟩
end PRS
