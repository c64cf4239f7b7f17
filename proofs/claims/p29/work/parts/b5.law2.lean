/-! every method of both, side by side -/
section PRM
variable {x m : Nat}
theorem chg_set {ζ : Sg} (h : InvA ζ) (s v : Int32) : Chg ζ (if mVal s v = true then 0 else -2) (ζ 0 s.toNatClampNeg) (up2 ζ 0 s.toNatClampNeg v) (oSet ζ s v) := by
  by_cases q : mVal s v = true
  · rw [if_pos q]
    refine Chg.of ?_ fun _ => ⟨⟨h.1.set q, h.2.set q⟩, ?_⟩
    · rw [eq_set, if_pos q, if_neg (by decide)]
    · obtain ⟨j, hj, rfl⟩ := mVal_ok q
      rw [nI_clamp (by omega)]
      obtain ⟨b, hb, e⟩ := h.2.1 j hj
      rw [e]
      exact nI_ge0 (by omega)
  · rw [if_neg q]
    refine Chg.of ?_ fun q2 => absurd (by decide) q2
    rw [eq_set, if_neg q, if_pos (by decide)]
end PRM
