/-! every method of both, side by side -/
section PRM
variable {x m : Nat}
theorem chg_set {ζ : Sg} (h : InvA ζ) (s v : Int32) : Chg ζ (if mVal s v = true then 0 else -2) (ζ 0 s.toNatClampNeg) (up2 ζ 0 s.toNatClampNeg v) (oSet ζ s v) := by
  by_cases q : mVal s v = true
  · rw [if_pos q]
    refine Chg.of ?_ fun _ => ⟨⟨h.1.set q, h.2.set q⟩, ?_⟩
    · rw [eq_set, if_pos q, if_neg (by decide)]
    · obtain ⟨j, hj, rfl⟩ := mVal_ok q
      rw [nI_clamp (by omega)]
      obtain ⟨b, hb, e⟩ := h.2.1 j hj
      rw [e]
      exact nI_ge0 (by omega)
  · rw [if_neg q]
    refine Chg.of ?_ fun q2 => absurd (by decide) q2
    rw [eq_set, if_neg q, if_pos (by decide)]
theorem pr_set (hxm : x + 166 ≤ m) (a b : Int32) : PR x m yX4_set cX4_set 3 yX5_set cX5_set 4 [.int a, .int b] :=
  pr_chg (fun ζ h => chg_set h a b) (fun st z h ζ H n sl sv T P hX hK hQ => x_set 3 hX hK hQ a b) (fun st z h ζ n G S sv tx ty sp tl tm hM hI => by
    have hc := m_set (st := st) 6 (z := z) hM a b
    by_cases q : mVal a b = true
    · simp only [if_pos q] at hc ⊢
      exact hc
    · simp only [if_neg q] at hc ⊢
      exact hc) hxm
theorem pr_lot (hxm : x + 166 ≤ m) (a : Int32) : PR x m yX4_lot cX4_lot 2 yX5_lot cX5_lot 3 [.int a] :=
  pr_chg (fun ζ h => chg_lot h a) (fun st z h ζ H n sl sv T P hX hK hQ => x_lot 3 hX hK hQ a) (fun st z h ζ n G S sv tx ty sp tl tm hM hI => m_lot 3 hM hI.1.1.lok hI.1.1.cok a) hxm
theorem pr_notice (hxm : x + 166 ≤ m) (a : Int32) : PR x m yX4_notice cX4_notice 2 yX5_notice cX5_notice 3 [.int a] :=
  pr_chg (fun ζ h => chg_notice h a) (fun st z h ζ H n sl sv T P hX hK hQ => x_notice 3 hX hK hQ a) (fun st z h ζ n G S sv tx ty sp tl tm hM hI => m_notice 3 hM hI.1.1.lok hI.1.1.cok a) hxm
theorem pr_claim (hxm : x + 166 ≤ m) (a b c : Int32) : PR x m yX4_claim cX4_claim 4 yX5_claim cX5_claim 5 [.int a, .int b, .int c] :=
  pr_chg (fun ζ h => chg_claim h a b c) (fun st z h ζ H n sl sv T P hX hK hQ => x_claim 3 hX hK hQ a b c) (fun st z h ζ n G S sv tx ty sp tl tm hM hI => m_claim 3 hM hI.1.1.lok hI.1.1.cok a b c) hxm
theorem pr_prove (hxm : x + 166 ≤ m) (a b : Int32) : PR x m yX4_prove cX4_prove 3 yX5_prove cX5_prove 4 [.int a, .int b] :=
  pr_chg (fun ζ h => chg_prove h a b) (fun st z h ζ H n sl sv T P hX hK hQ => x_prove 3 hX hK hQ a b) (fun st z h ζ n G S sv tx ty sp tl tm hM hI => m_prove 3 hM hI.1.1.lok hI.1.1.cok a b) hxm
theorem pr_decide (hxm : x + 166 ≤ m) (a : Int32) : PR x m yX4_decide cX4_decide 2 yX5_decide cX5_decide 3 [.int a] :=
  pr_chg (fun ζ h => chg_decide h a) (fun st z h ζ H n sl sv T P hX hK hQ => x_decide 3 hX hK hQ a) (fun st z h ζ n G S sv tx ty sp tl tm hM hI => m_decide 3 hM hI.1.1.lok hI.1.1.cok a) hxm
theorem pr_withdraw (hxm : x + 166 ≤ m) (a : Int32) : PR x m yX4_withdraw cX4_withdraw 2 yX5_withdraw cX5_withdraw 3 [.int a] :=
  pr_chg (fun ζ h => chg_withdraw h a) (fun st z h ζ H n sl sv T P hX hK hQ => x_withdraw 3 hX hK hQ a) (fun st z h ζ n G S sv tx ty sp tl tm hM hI => m_withdraw 3 hM hI.1.1.lok hI.1.1.cok a) hxm
theorem pr_settle (hxm : x + 166 ≤ m) (a : Int32) : PR x m yX4_settle cX4_settle 2 yX5_settle cX5_settle 3 [.int a] :=
  pr_chg (fun ζ h => chg_settle h a) (fun st z h ζ H n sl sv T P hX hK hQ => x_settle 3 hX hK hQ a) (fun st z h ζ n G S sv tx ty sp tl tm hM hI => m_settle 3 hM hI.1.1.lok hI.1.1.cok hI.1.1.wh hI.1.1.wp a) hxm
theorem pr_pass (hxm : x + 166 ≤ m) (a : Int32) : PR x m yX4_pass cX4_pass 2 yX5_pass cX5_pass 3 [.int a] :=
  pr_chg (fun ζ h => chg_pass h a) (fun st z h ζ H n sl sv T P hX hK hQ => x_pass 3 hX hK hQ a) (fun st z h ζ n G S sv tx ty sp tl tm hM hI => m_pass 1 hM hI.1.1.lok hI.1.1.cok a) hxm
theorem pr_of (a b : Int32) : PR x m yX4_of cX4_of 3 yX5_of cX5_of 3 [.int a, .int b] :=
  pr_read (oc := fun ζ _ _ => oOf ζ a b) (om := fun ζ _ _ => oOf ζ a b) (fun _ _ _ _ => rfl) (fun st z h ζ H n sl sv T P hX hK hQ => x_of 2 hX hK hQ a b) (fun st z h ζ n G S sv tx P sp tl tm hM hI => m_of 4 hM.z hI.1.1.lok hI.1.1.cok hI.1.1.ws a b)
theorem pr_ofClaim (a b : Int32) : PR x m yX4_ofClaim cX4_ofClaim 3 yX5_ofClaim cX5_ofClaim 3 [.int a, .int b] :=
  pr_read (oc := fun ζ _ _ => oOfClaim ζ a b) (om := fun ζ _ _ => oOfClaim ζ a b) (fun _ _ _ _ => rfl) (fun st z h ζ H n sl sv T P hX hK hQ => x_ofClaim 2 hX hK hQ a b) (fun st z h ζ n G S sv tx P sp tl tm hM hI => m_ofClaim 6 hM.z hI.1.1.cok a b)
theorem pr_heir (a b : Int32) : PR x m yX4_heir cX4_heir 3 yX5_heir cX5_heir 3 [.int a, .int b] :=
  pr_read (oc := fun ζ _ _ => oHeir ζ a b) (om := fun ζ _ _ => oHeir ζ a b) (fun _ _ _ _ => rfl) (fun st z h ζ H n sl sv T P hX hK hQ => x_heir 2 hX hK hQ a b) (fun st z h ζ n G S sv tx P sp tl tm hM hI => m_heir 5 hM.z hI.1.1.cok hI.1.1.wb hI.1.2 a b)
theorem pr_paid (a : Int32) : PR x m yX4_paid cX4_paid 2 yX5_paid cX5_paid 2 [.int a] :=
  pr_read (oc := fun ζ _ _ => oPaid ζ a) (om := fun ζ _ _ => oPaid ζ a) (fun _ _ _ _ => rfl) (fun st z h ζ H n sl sv T P hX hK hQ => x_paid 2 hX hK hQ a) (fun st z h ζ n G S sv tx P sp tl tm hM hI => m_paid 7 hM.z hI.1.1.wp.1 a)
theorem pr_count (a : Int32) : PR x m yX4_count cX4_count 2 yX5_count cX5_count 2 [.int a] :=
  pr_read (oc := fun ζ n P => xCount ζ n P a) (om := fun ζ n P => mCount ζ n (nI P.1) a) (fun ζ n P hI => eq_count hI.1 n P a) (fun st z h ζ H n sl sv T P hX hK hQ => xcount 4 hX hK hQ a) (fun st z h ζ n G S sv tx P sp tl tm hM hI => m_count 4 hM hI.1.1.lok hI.1.1.cok a)
theorem pr_why (a : Int32) : PR x m yX4_why cX4_why 2 yX5_why cX5_why 2 [.int a] :=
  pr_read (oc := fun ζ _ _ => oWhy ζ a) (om := fun ζ _ _ => oWhy ζ a) (fun _ _ _ _ => rfl) (fun st z h ζ H n sl sv T P hX hK hQ => x_why 2 hX hK hQ a) (fun st z h ζ n G S sv tx P sp tl tm hM hI => m_why 5 hM.z hI.1.1.lok hI.1.1.cok a)
theorem pr_fallsIn (hxm : x + 166 ≤ m) (a : Int32) : PR x m yX4_fallsIn cX4_fallsIn 2 yX5_fallsIn cX5_fallsIn 2 [.int a] :=
  pr_look (o := fun ζ => oFalls ζ a) (fun st z h ζ H n sl sv T P hX hK hQ => x_fallsIn 2 hX hK hQ a) (fun st z h ζ n G S sv tx ty sp tl tm hM hI => m_fallsIn 2 hM hI.1.1.lok hI.1.1.cok hI.1.1.wfall a) hxm
theorem pr_share (a b c : Int32) : PR x m yX4_share cX4_share 4 yX5_share cX5_share 4 [.int a, .int b, .int c] :=
  pr_read (oc := fun ζ _ _ => oShare ζ a b c) (om := fun ζ _ _ => mShr ζ a b c) (fun ζ _ _ hI => eq_share hI.1.1 a b c) (fun st z h ζ H n sl sv T P hX hK hQ => x_share 2 hX hK hQ a b c) (fun st z h ζ n G S sv tx P sp tl tm hM hI => m_share0 4 hM.z hI.1.1.lok hI.1.1.cok a b c)
theorem pr_nextFall (hxm : x + 166 ≤ m) (a : Int32) : PR x m yX4_nextFall cX4_nextFall 2 yX5_nextFall cX5_nextFall 7 [.int a] :=
  pr_look (o := fun ζ => oNextFall ζ a) (fun st z h ζ H n sl sv T P hX hK hQ => x_nextFall 2 hX hK hQ a) (fun st z h ζ n G S sv tx ty sp tl tm hM hI => m_nextFall 2 hM hI.1.1.lok hI.1.1.cok hI.1.1.wfall a) hxm
theorem pr_nextLapse (a : Int32) : PR x m yX4_nextLapse cX4_nextLapse 2 yX5_nextLapse cX5_nextLapse 5 [.int a] :=
  pr_read (oc := fun ζ _ _ => oNextLapse ζ a) (om := fun ζ _ _ => oNextLapse ζ a) (fun _ _ _ _ => rfl) (fun st z h ζ H n sl sv T P hX hK hQ => x_nextLapse 2 hX hK hQ a) (fun st z h ζ n G S sv tx P sp tl tm hM hI => m_nextLapse 6 hM.z hI.1.1.lok hI.1.1.cok hI.1.1.wt hI.1.1.wl a)
theorem pr_put (hxm : x + 166 ≤ m) (L : Int64) : PR x m yX4_put cX4_put 3 yX5_put cX5_put 7 [.long L] := by
  intro st z h hL
  obtain ⟨ζ, H, n, sl, sv, T, P, G, S, sp, tl, tm, hX, hM, hI, hP, hH, hS⟩ := id hL
  obtain ⟨e1, e2⟩ := put_eq T hP L
  refine ⟨(sPut T P L).1, fun h1 => XAt h1 x ζ H n sl sv (sPut T P L).2.1 (sPut T P L).2.2 ∧ Fr x 166 h h1, (xput 5 hX hI.ok3 hP L).mono ?_, ?_⟩
  · rintro r hp' ⟨rfl, h1, rfl, q1, q2⟩
    exact ⟨rfl, h1, rfl, q1, q2⟩
  · rintro h1 ⟨hX1, hF1⟩
    have hM1 := hM.keptM (h' := h1) (fun q e1 e2 => hF1 q (by omega))
    refine ⟨⟨_, hM1.ob⟩, (m_put 7 hM1 hP L).mono ?_⟩
    rintro r hp' ⟨rfl, h2, rfl, q1, q2⟩
    have hX2 := hX1.keptX (h' := h2) (fun q e1 e2 => q2 q (by omega))
    rw [e1] at hX2 ⊢
    exact ⟨rfl, h2, rfl, ζ, H, n, sl, sv, _, _, G, S, sp, tl, tm, hX2, q1, hI, e2, hH, hS⟩
theorem pr_wipe (hxm : x + 166 ≤ m) : PR x m yX4_wipe cX4_wipe 1 yX5_wipe cX5_wipe 2 [] := by
  intro st z h hL
  obtain ⟨ζ, H, n, sl, sv, T, P, G, S, sp, tl, tm, hX, hM, hI, hP, hH, hS⟩ := id hL
  refine ⟨nI P.1, fun h1 => XAt h1 x ζ H n sl sv T (0, P.2) ∧ Fr x 166 h h1, (xwipe 7 hX hI.ok3 hP).mono ?_, ?_⟩
  · rintro r hp' ⟨rfl, h1, rfl, q1, q2⟩
    exact ⟨rfl, h1, rfl, q1, q2⟩
  · rintro h1 ⟨hX1, hF1⟩
    have hM1 := hM.keptM (h' := h1) (fun q e1 e2 => hF1 q (by omega))
    refine ⟨⟨_, hM1.ob⟩, (m_wipe 8 hM1).mono ?_⟩
    rintro r hp' ⟨rfl, h2, rfl, q1, q2⟩
    exact ⟨rfl, h2, rfl, ζ, H, n, sl, sv, T, (0, P.2), G, S, sp, tl, tm, hX1.keptX (fun q e1 e2 => q2 q (by omega)), q1, hI, Nat.zero_le _, hH, hS⟩
theorem pr_fault (hxm : x + 166 ≤ m) : PR x m yX4_fault cX4_fault 1 yX5_fault cX5_fault 1 [] := by
  intro st z h hL
  obtain ⟨ζ, H, n, sl, sv, T, P, G, S, sp, tl, tm, hX, hM, hI, hP, hH, hS⟩ := id hL
  refine ⟨sFault T P, fun h1 => XAt h1 x ζ H n sl sv T (ffAll T P).2 ∧ Fr x 166 h h1, (xfault 3 hX hI.ok3 hP).mono ?_, ?_⟩
  · rintro r hp' ⟨rfl, h1, rfl, q1, q2⟩
    exact ⟨rfl, h1, rfl, q1, q2⟩
  · rintro h1 ⟨hX1, hF1⟩
    have hM1 := hM.keptM (h' := h1) (fun q e1 e2 => hF1 q (by omega))
    refine ⟨⟨_, hM1.ob⟩, (m_fault 3 hM1 hP).mono ?_⟩
    rintro r hp' ⟨rfl, h2, rfl, q1, q2⟩
    obtain ⟨p1, p2, p3⟩ := pad_eq T hP tl (P := P) rfl
    rw [← fault_eq T hP tl (P := P) rfl]
    have q1' : MAt h2 m ζ n n G S sv (fun i => nI (T i)) (nI (ffAll T P).2.1) (nI (mPadA T P.1 tl).2.1) (mPadA T P.1 tl).2.2.1 (nI (mPadA T P.1 tl).2.2.2) := by
      rw [p2]
      exact q1
    exact ⟨rfl, h2, rfl, ζ, H, n, sl, sv, T, (ffAll T P).2, G, S, _, _, _, hX1.keptX (fun q e1 e2 => q2 q (by omega)), q1', hI, by rw [p2]; exact hP, hH, hS⟩
theorem pr_carryOut (hxm : x + 166 ≤ m) : PR x m yX4_carryOut cX4_carryOut 2 yX5_carryOut cX5_carryOut 2 [] := by
  intro st z h hL
  obtain ⟨ζ, H, n, sl, sv, T, P, G, S, sp, tl, tm, hX, hM, hI, hP, hH, hS⟩ := id hL
  have h6 := hX.n6
  refine ⟨coR T ζ P, fun h1 => XAt h1 x (coS T ζ P) (coH T ζ P H n) (coN T ζ P n) sl sv T (coP T ζ P) ∧ Fr x 166 h h1, (xcarryOut 2 hX hI.ok3 hP).mono ?_, ?_⟩
  · rintro r hp' ⟨rfl, h1, rfl, q1, q2⟩
    exact ⟨rfl, h1, rfl, q1, q2⟩
  · rintro h1 ⟨hX1, hF1⟩
    have hM1 := hM.keptM (h' := h1) (fun q e1 e2 => hF1 q (by omega))
    refine ⟨⟨_, hM1.ob⟩, (m_carryOut 0 hM1 hP (I := InvA) (fun τ q => ⟨q.1.1.lok, q.1.1.cok, q.1.1.wh, q.1.1.wp⟩) (fun τ c f e g q w => (q.ord w).1) hI).mono ?_⟩
    rintro r hp' ⟨rfl, h2, rfl, q1, q2⟩
    have hX2 := hX1.keptX (h' := h2) (fun q e1 e2 => q2 q (by omega))
    have h66 := fault_6 T hP tl (P := P) rfl
    obtain ⟨p1, p2, p3⟩ := pad_eq T hP tl (P := P) rfl
    by_cases hg : (mPadA T P.1 tl).1 = true
    · obtain ⟨c1, c2, c3, c4⟩ := carry_all hP tl (P := P) rfl hI hg
      unfold coS coH coN coP at hX2
      rw [if_pos (h66.mpr hg), if_pos (h66.mpr hg), if_pos (h66.mpr hg), if_pos (h66.mpr hg)] at hX2
      obtain ⟨e1, e2⟩ := rec_ok (v := nI (cofAll T ζ P).1) (nI_ge0 (by omega)) (hup H n ζ) n
      rw [e1, e2] at hX2
      unfold coR
      rw [if_pos (h66.mpr hg), c1]
      simp only [if_pos hg] at q1 ⊢
      exact ⟨by first | rfl | trivial, h2, rfl, _, _, rcN n, sl, sv, T, _, rcG G n ζ, S, _, _, _, hX2.e14 c2, q1, c3, Nat.zero_le _, hist_step h6 hH hI, hS⟩
    · unfold coS coH coN coP at hX2
      have hn : ¬ sFault T P = -6 := fun q => hg (h66.mp q)
      rw [if_neg hn, if_neg hn, if_neg hn, if_neg hn] at hX2
      unfold coR
      rw [if_neg hn]
      simp only [if_neg hg] at q1 ⊢
      have q1' : MAt h2 m ζ n n G S sv (fun i => nI (T i)) (nI (ffAll T P).2.1) (nI (mPadA T P.1 tl).2.1) (mPadA T P.1 tl).2.2.1 (nI (mPadA T P.1 tl).2.2.2) := by
        rw [p2]
        exact q1
      exact ⟨by first | rfl | trivial, h2, rfl, ζ, H, n, sl, sv, T, (ffAll T P).2, G, S, _, _, _, hX2, q1', hI, by rw [p2]; exact hP, hH, hS⟩
theorem pr_undo (hxm : x + 166 ≤ m) : PR x m yX4_undo cX4_undo 1 yX5_undo cX5_undo 1 [] := by
  intro st z h hL
  obtain ⟨ζ, H, n, sl, sv, T, P, G, S, sp, tl, tm, hX, hM, hI, hP, hH, hS⟩ := id hL
  refine ⟨(if n = 0 then -5 else nI (n - 1)), fun h1 => XAt h1 x (if n = 0 then ζ else H (n - 1)) H (n - 1) sl sv T P ∧ Fr x 166 h h1, (xundo 5 hX hI.ok3 hP).mono ?_, ?_⟩
  · rintro r hp' ⟨rfl, h1, rfl, q1, q2⟩
    exact ⟨rfl, h1, rfl, q1, q2⟩
  · rintro h1 ⟨hX1, hF1⟩
    have hM1 := hM.keptM (h' := h1) (fun q e1 e2 => hF1 q (by omega))
    refine ⟨⟨_, hM1.ob⟩, (m_undo 7 hM1).mono ?_⟩
    rintro r hp' ⟨rfl, h2, rfl, q1, q2⟩
    have hX2 := hX1.keptX (h' := h2) (fun q e1 e2 => q2 q (by omega))
    have hh : (if n = 0 then ζ else H (n - 1)) = (if n = 0 then ζ else G (n - 1)) ∧ InvA (if n = 0 then ζ else G (n - 1)) := by
      by_cases q : n = 0
      · rw [if_pos q, if_pos q]
        exact ⟨rfl, hI⟩
      · rw [if_neg q, if_neg q]
        exact hH (n - 1) (by omega)
    rw [hh.1] at hX2
    exact ⟨rfl, h2, rfl, _, H, n - 1, sl, sv, T, P, G, S, sp, tl, tm, hX2, q1, hh.2, hP, fun k hk => hH k (by omega), hS⟩
theorem pr_save (hxm : x + 166 ≤ m) (a : Int32) : PR x m yX4_save cX4_save 2 yX5_save cX5_save 2 [.int a] := by
  intro st z h hL
  obtain ⟨ζ, H, n, sl, sv, T, P, G, S, sp, tl, tm, hX, hM, hI, hP, hH, hS⟩ := id hL
  refine ⟨(if sOk a = true then ζ 13 0 else -2), fun h1 => XAt h1 x ζ H n (if sOk a = true then hup sl a.toNatClampNeg ζ else sl) (if sOk a = true then upd sv a.toNatClampNeg 1 else sv) T P ∧ Fr x 166 h h1, (xsave 5 hX hI.ok3 hP a).mono ?_, ?_⟩
  · rintro r hp' ⟨rfl, h1, rfl, q1, q2⟩
    exact ⟨rfl, h1, rfl, q1, q2⟩
  · rintro h1 ⟨hX1, hF1⟩
    have hM1 := hM.keptM (h' := h1) (fun q e1 e2 => hF1 q (by omega))
    refine ⟨⟨_, hM1.ob⟩, (m_save 7 hM1 a).mono ?_⟩
    rintro r hp' ⟨rfl, h2, rfl, q1, q2⟩
    refine ⟨rfl, h2, rfl, ζ, H, n, _, _, T, P, G, _, sp, tl, tm, hX1.keptX (fun q e1 e2 => q2 q (by omega)), q1, hI, hP, hH, fun k hk hs => ?_⟩
    by_cases q : sOk a = true
    · rw [if_pos q] at hs
      rw [if_pos q, if_pos q]
      unfold hup
      by_cases e : k = a.toNatClampNeg
      · rw [if_pos e, if_pos e]
        exact ⟨rfl, hI⟩
      · rw [if_neg e, if_neg e]
        unfold upd at hs
        rw [if_neg e] at hs
        exact hS k hk hs
    · rw [if_neg q] at hs
      rw [if_neg q, if_neg q]
      exact hS k hk hs
theorem pr_restore (hxm : x + 166 ≤ m) (a : Int32) : PR x m yX4_restore cX4_restore 2 yX5_restore cX5_restore 2 [.int a] := by
  intro st z h hL
  obtain ⟨ζ, H, n, sl, sv, T, P, G, S, sp, tl, tm, hX, hM, hI, hP, hH, hS⟩ := id hL
  have h6 := hX.n6
  refine ⟨rsR sl sv a, fun h1 => XAt h1 x (if rsO sv a = true then sl a.toNatClampNeg else ζ) (if rsO sv a = true then recH (sl a.toNatClampNeg 13 0) (hup H n ζ) n else H) (if rsO sv a = true then recN (sl a.toNatClampNeg 13 0) n else n) sl sv T P ∧ Fr x 166 h h1, (xrestore 4 hX hI.ok3 hP a).mono ?_, ?_⟩
  · rintro r hp' ⟨rfl, h1, rfl, q1, q2⟩
    exact ⟨rfl, h1, rfl, q1, q2⟩
  · rintro h1 ⟨hX1, hF1⟩
    have hM1 := hM.keptM (h' := h1) (fun q e1 e2 => hF1 q (by omega))
    refine ⟨⟨_, hM1.ob⟩, (m_restore 6 hM1 a).mono ?_⟩
    rintro r hp' ⟨rfl, h2, rfl, q1, q2⟩
    have hX2 := hX1.keptX (h' := h2) (fun q e1 e2 => q2 q (by omega))
    by_cases q : rsO sv a = true
    · have q' := q
      unfold rsO at q'
      rw [Bool.and_eq_true] at q'
      obtain ⟨j, hj, rfl⟩ := sOk_of q'.1
      have hs : ¬ sv (nI j).toNatClampNeg = 0 := by simpa using q'.2
      rw [nI_clamp (by omega)] at hs
      obtain ⟨e1, e2⟩ := hS j hj hs
      have er : rsR sl sv (nI j) = rsR S sv (nI j) := by
        unfold rsR
        rw [nI_clamp (by omega), e1]
      simp only [if_pos q, nI_clamp (show j < 2 ^ 31 by omega)] at hX2 q1
      rw [e1] at hX2
      have l12 := e2.1.1.lok
      have l12' := l12.2
      have h0 : 0 ≤ S j 13 0 := by
        rw [l12.1]
        exact nI_ge0 (by omega)
      obtain ⟨f1, f2⟩ := rec_ok h0 (hup H n ζ) n
      rw [f1, f2] at hX2
      exact ⟨by rw [er], h2, rfl, S j, _, rcN n, sl, sv, T, P, rcG G n ζ, S, sp, tl, tm, hX2, q1, e2, hP, hist_step h6 hH hI, hS⟩
    · simp only [if_neg q] at hX2 q1
      have er : rsR sl sv a = rsR S sv a := by
        unfold rsR
        by_cases o : sOk a = true
        · rw [if_pos o, if_pos o]
          have : sv a.toNatClampNeg = 0 := by
            unfold rsO at q
            rw [o, Bool.true_and] at q
            simpa using q
          rw [if_pos this, if_pos this]
        · rw [if_neg o, if_neg o]
      exact ⟨by rw [er], h2, rfl, ζ, H, n, sl, sv, T, P, G, S, sp, tl, tm, hX2, q1, hI, hP, hH, hS⟩
end PRM
