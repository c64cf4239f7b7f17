/-! every method of both, side by side -/
section PRM
variable {x m : Nat}
theorem chg_set {ζ : Sg} (h : InvA ζ) (s v : Int32) : Chg ζ (if mVal s v = true then 0 else -2) (ζ 0 s.toNatClampNeg) (up2 ζ 0 s.toNatClampNeg v) (oSet ζ s v) := by
  by_cases q : mVal s v = true
  · rw [if_pos q]
    refine Chg.of ?_ fun _ => ⟨⟨h.1.set q, h.2.set q⟩, ?_⟩
    · rw [eq_set, if_pos q, if_neg (by decide)]
    · obtain ⟨j, hj, rfl⟩ := mVal_ok q
      rw [nI_clamp (by omega)]
      obtain ⟨b, hb, e⟩ := h.2.1 j hj
      rw [e]
      exact nI_ge0 (by omega)
  · rw [if_neg q]
    refine Chg.of ?_ fun q2 => absurd (by decide) q2
    rw [eq_set, if_neg q, if_pos (by decide)]
theorem pr_set (hxm : x + 166 ≤ m) (a b : Int32) : PR x m yX4_set cX4_set 3 yX5_set cX5_set 4 [.int a, .int b] :=
  pr_chg (fun ζ h => chg_set h a b) (fun st z h ζ H n sl sv T P hX hK hQ => x_set 3 hX hK hQ a b) (fun st z h ζ n G S sv tx ty sp tl tm hM hI => by
    have hc := m_set (st := st) 6 (z := z) hM a b
    by_cases q : mVal a b = true
    · simp only [if_pos q] at hc ⊢
      exact hc
    · simp only [if_neg q] at hc ⊢
      exact hc) hxm
theorem pr_lot (hxm : x + 166 ≤ m) (a : Int32) : PR x m yX4_lot cX4_lot 2 yX5_lot cX5_lot 3 [.int a] :=
  pr_chg (fun ζ h => chg_lot h a) (fun st z h ζ H n sl sv T P hX hK hQ => x_lot 3 hX hK hQ a) (fun st z h ζ n G S sv tx ty sp tl tm hM hI => m_lot 3 hM hI.1.1.lok hI.1.1.cok a) hxm
theorem pr_notice (hxm : x + 166 ≤ m) (a : Int32) : PR x m yX4_notice cX4_notice 2 yX5_notice cX5_notice 3 [.int a] :=
  pr_chg (fun ζ h => chg_notice h a) (fun st z h ζ H n sl sv T P hX hK hQ => x_notice 3 hX hK hQ a) (fun st z h ζ n G S sv tx ty sp tl tm hM hI => m_notice 3 hM hI.1.1.lok hI.1.1.cok a) hxm
theorem pr_claim (hxm : x + 166 ≤ m) (a b c : Int32) : PR x m yX4_claim cX4_claim 4 yX5_claim cX5_claim 5 [.int a, .int b, .int c] :=
  pr_chg (fun ζ h => chg_claim h a b c) (fun st z h ζ H n sl sv T P hX hK hQ => x_claim 3 hX hK hQ a b c) (fun st z h ζ n G S sv tx ty sp tl tm hM hI => m_claim 3 hM hI.1.1.lok hI.1.1.cok a b c) hxm
theorem pr_prove (hxm : x + 166 ≤ m) (a b : Int32) : PR x m yX4_prove cX4_prove 3 yX5_prove cX5_prove 4 [.int a, .int b] :=
  pr_chg (fun ζ h => chg_prove h a b) (fun st z h ζ H n sl sv T P hX hK hQ => x_prove 3 hX hK hQ a b) (fun st z h ζ n G S sv tx ty sp tl tm hM hI => m_prove 3 hM hI.1.1.lok hI.1.1.cok a b) hxm
theorem pr_decide (hxm : x + 166 ≤ m) (a : Int32) : PR x m yX4_decide cX4_decide 2 yX5_decide cX5_decide 3 [.int a] :=
  pr_chg (fun ζ h => chg_decide h a) (fun st z h ζ H n sl sv T P hX hK hQ => x_decide 3 hX hK hQ a) (fun st z h ζ n G S sv tx ty sp tl tm hM hI => m_decide 3 hM hI.1.1.lok hI.1.1.cok a) hxm
theorem pr_withdraw (hxm : x + 166 ≤ m) (a : Int32) : PR x m yX4_withdraw cX4_withdraw 2 yX5_withdraw cX5_withdraw 3 [.int a] :=
  pr_chg (fun ζ h => chg_withdraw h a) (fun st z h ζ H n sl sv T P hX hK hQ => x_withdraw 3 hX hK hQ a) (fun st z h ζ n G S sv tx ty sp tl tm hM hI => m_withdraw 3 hM hI.1.1.lok hI.1.1.cok a) hxm
theorem pr_settle (hxm : x + 166 ≤ m) (a : Int32) : PR x m yX4_settle cX4_settle 2 yX5_settle cX5_settle 3 [.int a] :=
  pr_chg (fun ζ h => chg_settle h a) (fun st z h ζ H n sl sv T P hX hK hQ => x_settle 3 hX hK hQ a) (fun st z h ζ n G S sv tx ty sp tl tm hM hI => m_settle 3 hM hI.1.1.lok hI.1.1.cok hI.1.1.wh hI.1.1.wp a) hxm
theorem pr_pass (hxm : x + 166 ≤ m) (a : Int32) : PR x m yX4_pass cX4_pass 2 yX5_pass cX5_pass 3 [.int a] :=
  pr_chg (fun ζ h => chg_pass h a) (fun st z h ζ H n sl sv T P hX hK hQ => x_pass 3 hX hK hQ a) (fun st z h ζ n G S sv tx ty sp tl tm hM hI => m_pass 1 hM hI.1.1.lok hI.1.1.cok a) hxm
theorem pr_of (a b : Int32) : PR x m yX4_of cX4_of 3 yX5_of cX5_of 3 [.int a, .int b] :=
  pr_read (oc := fun ζ _ _ => oOf ζ a b) (om := fun ζ _ _ => oOf ζ a b) (fun _ _ _ _ => rfl) (fun st z h ζ H n sl sv T P hX hK hQ => x_of 2 hX hK hQ a b) (fun st z h ζ n G S sv tx P sp tl tm hM hI => m_of 4 hM.z hI.1.1.lok hI.1.1.cok hI.1.1.ws a b)
theorem pr_ofClaim (a b : Int32) : PR x m yX4_ofClaim cX4_ofClaim 3 yX5_ofClaim cX5_ofClaim 3 [.int a, .int b] :=
  pr_read (oc := fun ζ _ _ => oOfClaim ζ a b) (om := fun ζ _ _ => oOfClaim ζ a b) (fun _ _ _ _ => rfl) (fun st z h ζ H n sl sv T P hX hK hQ => x_ofClaim 2 hX hK hQ a b) (fun st z h ζ n G S sv tx P sp tl tm hM hI => m_ofClaim 6 hM.z hI.1.1.cok a b)
theorem pr_heir (a b : Int32) : PR x m yX4_heir cX4_heir 3 yX5_heir cX5_heir 3 [.int a, .int b] :=
  pr_read (oc := fun ζ _ _ => oHeir ζ a b) (om := fun ζ _ _ => oHeir ζ a b) (fun _ _ _ _ => rfl) (fun st z h ζ H n sl sv T P hX hK hQ => x_heir 2 hX hK hQ a b) (fun st z h ζ n G S sv tx P sp tl tm hM hI => m_heir 5 hM.z hI.1.1.cok hI.1.1.wb hI.1.2 a b)
theorem pr_paid (a : Int32) : PR x m yX4_paid cX4_paid 2 yX5_paid cX5_paid 2 [.int a] :=
  pr_read (oc := fun ζ _ _ => oPaid ζ a) (om := fun ζ _ _ => oPaid ζ a) (fun _ _ _ _ => rfl) (fun st z h ζ H n sl sv T P hX hK hQ => x_paid 2 hX hK hQ a) (fun st z h ζ n G S sv tx P sp tl tm hM hI => m_paid 7 hM.z hI.1.1.wp.1 a)
theorem pr_count (a : Int32) : PR x m yX4_count cX4_count 2 yX5_count cX5_count 2 [.int a] :=
  pr_read (oc := fun ζ n P => xCount ζ n P a) (om := fun ζ n P => mCount ζ n (nI P.1) a) (fun ζ n P hI => eq_count hI.1 n P a) (fun st z h ζ H n sl sv T P hX hK hQ => xcount 4 hX hK hQ a) (fun st z h ζ n G S sv tx P sp tl tm hM hI => m_count 4 hM hI.1.1.lok hI.1.1.cok a)
theorem pr_why (a : Int32) : PR x m yX4_why cX4_why 2 yX5_why cX5_why 2 [.int a] :=
  pr_read (oc := fun ζ _ _ => oWhy ζ a) (om := fun ζ _ _ => oWhy ζ a) (fun _ _ _ _ => rfl) (fun st z h ζ H n sl sv T P hX hK hQ => x_why 2 hX hK hQ a) (fun st z h ζ n G S sv tx P sp tl tm hM hI => m_why 5 hM.z hI.1.1.lok hI.1.1.cok a)
theorem pr_fallsIn (hxm : x + 166 ≤ m) (a : Int32) : PR x m yX4_fallsIn cX4_fallsIn 2 yX5_fallsIn cX5_fallsIn 2 [.int a] :=
  pr_look (o := fun ζ => oFalls ζ a) (fun st z h ζ H n sl sv T P hX hK hQ => x_fallsIn 2 hX hK hQ a) (fun st z h ζ n G S sv tx ty sp tl tm hM hI => m_fallsIn 2 hM hI.1.1.lok hI.1.1.cok hI.1.1.wfall a) hxm
theorem pr_share (a b c : Int32) : PR x m yX4_share cX4_share 4 yX5_share cX5_share 4 [.int a, .int b, .int c] :=
  pr_read (oc := fun ζ _ _ => oShare ζ a b c) (om := fun ζ _ _ => mShr ζ a b c) (fun ζ _ _ hI => eq_share hI.1.1 a b c) (fun st z h ζ H n sl sv T P hX hK hQ => x_share 2 hX hK hQ a b c) (fun st z h ζ n G S sv tx P sp tl tm hM hI => m_share0 4 hM.z hI.1.1.lok hI.1.1.cok a b c)
theorem pr_nextFall (hxm : x + 166 ≤ m) (a : Int32) : PR x m yX4_nextFall cX4_nextFall 2 yX5_nextFall cX5_nextFall 7 [.int a] :=
  pr_look (o := fun ζ => oNextFall ζ a) (fun st z h ζ H n sl sv T P hX hK hQ => x_nextFall 2 hX hK hQ a) (fun st z h ζ n G S sv tx ty sp tl tm hM hI => m_nextFall 2 hM hI.1.1.lok hI.1.1.cok hI.1.1.wfall a) hxm
theorem pr_nextLapse (a : Int32) : PR x m yX4_nextLapse cX4_nextLapse 2 yX5_nextLapse cX5_nextLapse 5 [.int a] :=
  pr_read (oc := fun ζ _ _ => oNextLapse ζ a) (om := fun ζ _ _ => oNextLapse ζ a) (fun _ _ _ _ => rfl) (fun st z h ζ H n sl sv T P hX hK hQ => x_nextLapse 2 hX hK hQ a) (fun st z h ζ n G S sv tx P sp tl tm hM hI => m_nextLapse 6 hM.z hI.1.1.lok hI.1.1.cok hI.1.1.wt hI.1.1.wl a)
theorem pr_put (hxm : x + 166 ≤ m) (L : Int64) : PR x m yX4_put cX4_put 3 yX5_put cX5_put 7 [.long L] := by
  intro st z h hL
  obtain ⟨ζ, H, n, sl, sv, T, P, G, S, sp, tl, tm, hX, hM, hI, hP, hH, hS⟩ := id hL
  obtain ⟨e1, e2⟩ := put_eq T hP.1 L
  refine ⟨(sPut T P L).1, fun h1 => XAt h1 x ζ H n sl sv (sPut T P L).2.1 (sPut T P L).2.2 ∧ Fr x 166 h h1, (xput 5 hX hI.ok3 hP L).mono ?_, ?_⟩
  · rintro r hp' ⟨rfl, h1, rfl, q1, q2⟩
    exact ⟨rfl, h1, rfl, q1, q2⟩
  · rintro h1 ⟨hX1, hF1⟩
    have hM1 := hM.keptM (h' := h1) (fun q e1 e2 => hF1 q (by omega))
    refine ⟨⟨_, hM1.ob⟩, (m_put 7 hM1 hP.1 L).mono ?_⟩
    rintro r hp' ⟨rfl, h2, rfl, q1, q2⟩
    have hX2 := hX1.keptX (h' := h2) (fun q e1 e2 => q2 q (by omega))
    rw [e1] at hX2 ⊢
    refine ⟨rfl, h2, rfl, ζ, H, n, sl, sv, _, _, G, S, sp, tl, tm, hX2, q1, hI, ⟨e2, ?_⟩, hH, hS⟩
    dsimp only
    sorry
end PRM
