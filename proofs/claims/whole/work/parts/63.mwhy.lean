theorem lp_or (p : Nat → Bool) : ∀ (k i : Nat) (b : Bool), lp (fun c b => b || p c) i k b = true ↔ (b = true ∨ ∃ c, i ≤ c ∧ c < i + k ∧ p c = true)
  | 0, i, b => by
    rw [lp_0]
    constructor
    · exact Or.inl
    · rintro (h | ⟨c, h1, h2, _⟩)
      · exact h
      · omega
  | k + 1, i, b => by
    rw [lp_s, lp_or p k (i + 1) (b || p i), Bool.or_eq_true]
    constructor
    · rintro ((h | h) | ⟨c, h1, h2, h3⟩)
      · exact Or.inl h
      · exact Or.inr ⟨i, Nat.le_refl _, by omega, h⟩
      · exact Or.inr ⟨c, by omega, by omega, h3⟩
    · rintro (h | ⟨c, h1, h2, h3⟩)
      · exact Or.inl (Or.inl h)
      rcases Nat.lt_or_ge i c with q | q
      · exact Or.inr ⟨c, q, by omega, h3⟩
      · have : c = i := by omega
        subst this
        exact Or.inl (Or.inr h3)
theorem lp_bs (p : Nat → Bool) {n : Nat} (hn : n ≤ 32) : lp (fun c b => b || p c) 0 n false = !decide (bs p n = 0) := by
  rw [Bool.eq_iff_iff, lp_or, Bool.not_eq_true', decide_eq_false_iff_not, bs_eq0 hn]
  constructor
  · rintro (h | ⟨c, _, h2, h3⟩) q
    · exact absurd h (by decide)
    rw [q c (by omega)] at h3
    exact absurd h3 (by decide)
  · intro q
    refine Or.inr (Classical.byContradiction fun h => q fun i hi => ?_)
    cases e : p i
    · rfl
    · exact absurd ⟨i, Nat.zero_le _, by omega, e⟩ h
def mNear (σ : Sg) (set : Int32) : Int32 := bs (fun c => sHolds set (nI c) && decide (σ 7 c = cNearLine σ set)) (nCl σ)
def mPart (coins sh : Int32) (j : Nat) : Int32 := coins / mSize sh + (if coins - coins / mSize sh * mSize sh ≤ mSize (sh &&& (bit j - 1)) then 0 else 1)
def mVal (s v : Int32) : Bool := if s = 0 then mIn v 1 400 else if s = 1 then mIn v 1 100 else if s = 2 then mIn v 1 200 else if s = 3 then mIn v 0 400 else if s = 4 then mIn v 0 50 else false
def wLot (σ : Sg) (v : Int32) : Int32 := if mIn v 1 9999 = true then (if σ 13 0 = 12 then -4 else 0) else -2
def wNotice (σ : Sg) (x : Int32) : Int32 := if sExists (σ 13 0) x = true then (if σ 2 x.toNatClampNeg = 0 then 0 else -5) else -1
def wClaim (σ : Sg) (he x ln : Int32) : Int32 := if sHeir he = true then (if sExists (σ 13 0) x = true then (if mIn ln 1 5 = true then (let j := x.toNatClampNeg
    if sOver σ j = true then -5 else if σ 2 j = 3 ∧ σ 0 3 < σ 4 j then -5 else if cOfHeir σ he &&& cStandTo σ x = 0 then (if σ 13 1 = 30 then -4 else 0) else -5) else -2) else -1) else -1
def wOpen (σ : Sg) (j : Nat) : Int32 := if σ 9 j = 0 then 0 else -5
def wProve (σ : Sg) (x p : Int32) : Int32 := if sExists (σ 13 1) x = true then (if mIn p 1 100 = true then wOpen σ x.toNatClampNeg else -2) else -1
def wDecide (σ : Sg) (x : Int32) : Int32 := if sExists (σ 13 1) x = true then wOpen σ x.toNatClampNeg else -1
def wWithdraw (σ : Sg) (x : Int32) : Int32 := if sExists (σ 13 1) x = true then (if sStands σ x.toNatClampNeg = true then 0 else -5) else -1
def wSettle (σ : Sg) (x : Int32) : Int32 := if sExists (σ 13 0) x = true then (if sOver σ x.toNatClampNeg = true then -5 else if cOpenTo σ x = 0 then (if cUpTo σ x = 0 then -5 else 0) else -5) else -1
def wPass (σ : Sg) (v : Int32) : Int32 := if mIn v 1 400 = true then (if σ 13 4 + v ≤ 9999 then 0 else -5) else -2
set_option maxRecDepth 100000 in
set_option maxHeartbeats 4000000 in
theorem L_mnearest {st : Nat → Nat} (d : Nat) {z : Nat} {h : Nat → Option va_E} {m : Nat} {fs : List Value} {ζ : Sg} (H : ZAt h m fs ζ) (hC : COk ζ) (x : Int32) : ∀ (k : Nat) (i : Nat) (r : Int32) (w0 : Value), i + k = nCl ζ → lp (nlf ζ x) i k r = cNearLine ζ x → Ev st (d + 2) yX5_nearest cX5_nearest 5 (some .int) (z, h) 0 0 (RO (some (.int (cNearLine ζ x))) (z, h)) 5 [.ref m, .int x, .int r, .int (nI i), w0] [] (z, h) 0 0 := by
  intro k
  induction k with
  | zero =>
    intro i r w0 hik hR
    refine x_iload_n dX5_nearest_5 rfl ?_
    refine x_aload_n dX5_nearest_6 rfl ?_
    refine x_get dX5_nearest_7 fX5_7 H.ob rfl ?_
    refine x_bipush (v := 8) dX5_nearest_10 rfl ?_
    refine z_ald (13) (1) dX5_nearest_12 H (show zAt 13 1 8 from ⟨by decide, rfl⟩) (show ¬ (8 : Int32) < 0 ∧ Int32.toNatClampNeg 8 = 8 by decide) ?_
    rw [hC.1]
    have hC30 := hC.2
    refine x_icmp_ge (tgt := 70) dX5_nearest_13 (by decide) (fun c13 => ?_) (fun c13 => absurd (nI_le (a := nCl ζ) (b := i) (by omega) (by omega)) c13)
    refine x_iload_n dX5_nearest_70 rfl ?_
    refine x_iret dX5_nearest_71 (Or.inl rfl) rfl (Nat.le_refl _) ?_
    exact RO.mk hR
  | succ k ih =>
    intro i r w0 hik hR
    refine x_iload_n dX5_nearest_5 rfl ?_
    refine x_aload_n dX5_nearest_6 rfl ?_
    refine x_get dX5_nearest_7 fX5_7 H.ob rfl ?_
    refine x_bipush (v := 8) dX5_nearest_10 rfl ?_
    refine z_ald (13) (1) dX5_nearest_12 H (show zAt 13 1 8 from ⟨by decide, rfl⟩) (show ¬ (8 : Int32) < 0 ∧ Int32.toNatClampNeg 8 = 8 by decide) ?_
    rw [hC.1]
    have hC30 := hC.2
    refine x_icmp_ge (tgt := 70) dX5_nearest_13 (by decide) (fun c13 => absurd c13 (nI_ge (a := i) (b := nCl ζ) (by omega) (by omega))) (fun c13 => ?_)
    refine x_iload_n dX5_nearest_16 rfl ?_
    refine x_iload_n dX5_nearest_17 rfl ?_
    refine x_ishr dX5_nearest_18 ?_
    refine x_iconst (v := 1) dX5_nearest_19 rfl ?_
    refine x_iand dX5_nearest_20 ?_
    refine x_iconst (v := 1) dX5_nearest_21 rfl ?_
    refine x_icmp_ne (tgt := 45) dX5_nearest_22 (by decide) (fun c22 => ?_) (fun c22 => ?_)
    · refine x_iconst (v := 0) dX5_nearest_45 rfl ?_
      refine e_ist (lv' := fun w9 => [.ref m, .int x, .int r, .int (nI i), .int w9]) dX5_nearest_46 (Nat.le_of_ble_eq_true rfl) rfl (fun _ => rfl) (fun v1 ev1 => ?_)
      subst ev1
      refine x_iload dX5_nearest_48 rfl ?_
      refine x_if_eq (tgt := 62) dX5_nearest_50 (by decide) (fun _ => ?_) (fun c50 => absurd c50 (by decide))
      refine x_iload_n dX5_nearest_62 rfl ?_
      refine e_ist_n (lv' := fun w9 => [.ref m, .int x, .int w9, .int (nI i), .int 0]) dX5_nearest_63 (Nat.le_of_ble_eq_true rfl) rfl (fun _ => rfl) (fun v2 ev2 => ?_)
      refine e_inc (lv' := fun w9 => [.ref m, .int x, .int v2, .int w9, .int 0]) dX5_nearest_64 rfl rfl (fun _ => rfl) (fun v3 ev3 => ?_)
      refine x_goto (tgt := 5) dX5_nearest_67 (by decide) ?_
      obtain rfl := inc1 ev3
      exact ih (i + 1) v2 (.int 0) (by omega) (by rw [← hR, lp_s]; congr 1; all_goals (subst ev2; simp [nlf, sHolds, *]))
    · refine x_iload_n dX5_nearest_25 rfl ?_
      refine x_bipush (v := (-6)) dX5_nearest_26 rfl ?_
      refine x_icmp_eq (tgt := 41) dX5_nearest_28 (by decide) (fun c28 => ?_) (fun c28 => ?_)
      · refine x_iconst (v := 1) dX5_nearest_41 rfl ?_
        refine x_goto (tgt := 46) dX5_nearest_42 (by decide) ?_
        refine e_ist (lv' := fun w9 => [.ref m, .int x, .int r, .int (nI i), .int w9]) dX5_nearest_46 (Nat.le_of_ble_eq_true rfl) rfl (fun _ => rfl) (fun v4 ev4 => ?_)
        subst ev4
        refine x_iload dX5_nearest_48 rfl ?_
        refine x_if_eq (tgt := 62) dX5_nearest_50 (by decide) (fun c50 => absurd c50 (by decide)) (fun _ => ?_)
        refine x_aload_n dX5_nearest_53 rfl ?_
        refine x_iload_n dX5_nearest_54 rfl ?_
        refine x_iconst (v := 2) dX5_nearest_55 rfl ?_
        refine c_VR dX5_nearest_56 kX5_claimOf iX5_claimOf q811 (t_claimOf _ H (a := (nI i)) (j := i) (b := 2) (w := 2) (7) rfl (by omega) rfl (by decide) rfl) H.ob rfl rfl rfl (Nat.le_of_ble_eq_true rfl) ⟨Nat.le_refl _, Nat.le_refl _⟩ ?_
        refine x_goto (tgt := 63) dX5_nearest_59 (by decide) ?_
        refine e_ist_n (lv' := fun w9 => [.ref m, .int x, .int w9, .int (nI i), .int 1]) dX5_nearest_63 (Nat.le_of_ble_eq_true rfl) rfl (fun _ => rfl) (fun v5 ev5 => ?_)
        refine e_inc (lv' := fun w9 => [.ref m, .int x, .int v5, .int w9, .int 1]) dX5_nearest_64 rfl rfl (fun _ => rfl) (fun v6 ev6 => ?_)
        refine x_goto (tgt := 5) dX5_nearest_67 (by decide) ?_
        obtain rfl := inc1 ev6
        exact ih (i + 1) v5 (.int 1) (by omega) (by rw [← hR, lp_s]; congr 1; all_goals (subst ev5; simp [nlf, sHolds, *]))
      · refine x_aload_n dX5_nearest_31 rfl ?_
        refine x_iload_n dX5_nearest_32 rfl ?_
        refine x_iconst (v := 2) dX5_nearest_33 rfl ?_
        refine c_VR dX5_nearest_34 kX5_claimOf iX5_claimOf q811 (t_claimOf _ H (a := (nI i)) (j := i) (b := 2) (w := 2) (7) rfl (by omega) rfl (by decide) rfl) H.ob rfl rfl rfl (Nat.le_of_ble_eq_true rfl) ⟨Nat.le_refl _, Nat.le_refl _⟩ ?_
        refine x_iload_n dX5_nearest_37 rfl ?_
        refine x_icmp_ge (tgt := 45) dX5_nearest_38 (by decide) (fun c38 => ?_) (fun c38 => ?_)
        · refine x_iconst (v := 0) dX5_nearest_45 rfl ?_
          refine e_ist (lv' := fun w9 => [.ref m, .int x, .int r, .int (nI i), .int w9]) dX5_nearest_46 (Nat.le_of_ble_eq_true rfl) rfl (fun _ => rfl) (fun v7 ev7 => ?_)
          subst ev7
          refine x_iload dX5_nearest_48 rfl ?_
          refine x_if_eq (tgt := 62) dX5_nearest_50 (by decide) (fun _ => ?_) (fun c50 => absurd c50 (by decide))
          refine x_iload_n dX5_nearest_62 rfl ?_
          refine e_ist_n (lv' := fun w9 => [.ref m, .int x, .int w9, .int (nI i), .int 0]) dX5_nearest_63 (Nat.le_of_ble_eq_true rfl) rfl (fun _ => rfl) (fun v8 ev8 => ?_)
          refine e_inc (lv' := fun w9 => [.ref m, .int x, .int v8, .int w9, .int 0]) dX5_nearest_64 rfl rfl (fun _ => rfl) (fun v9 ev9 => ?_)
          refine x_goto (tgt := 5) dX5_nearest_67 (by decide) ?_
          obtain rfl := inc1 ev9
          exact ih (i + 1) v8 (.int 0) (by omega) (by rw [← hR, lp_s]; congr 1; all_goals (subst ev8; simp [nlf, sHolds, *]))
        · refine x_iconst (v := 1) dX5_nearest_41 rfl ?_
          refine x_goto (tgt := 46) dX5_nearest_42 (by decide) ?_
          refine e_ist (lv' := fun w9 => [.ref m, .int x, .int r, .int (nI i), .int w9]) dX5_nearest_46 (Nat.le_of_ble_eq_true rfl) rfl (fun _ => rfl) (fun v10 ev10 => ?_)
          subst ev10
          refine x_iload dX5_nearest_48 rfl ?_
          refine x_if_eq (tgt := 62) dX5_nearest_50 (by decide) (fun c50 => absurd c50 (by decide)) (fun _ => ?_)
          refine x_aload_n dX5_nearest_53 rfl ?_
          refine x_iload_n dX5_nearest_54 rfl ?_
          refine x_iconst (v := 2) dX5_nearest_55 rfl ?_
          refine c_VR dX5_nearest_56 kX5_claimOf iX5_claimOf q811 (t_claimOf _ H (a := (nI i)) (j := i) (b := 2) (w := 2) (7) rfl (by omega) rfl (by decide) rfl) H.ob rfl rfl rfl (Nat.le_of_ble_eq_true rfl) ⟨Nat.le_refl _, Nat.le_refl _⟩ ?_
          refine x_goto (tgt := 63) dX5_nearest_59 (by decide) ?_
          refine e_ist_n (lv' := fun w9 => [.ref m, .int x, .int w9, .int (nI i), .int 1]) dX5_nearest_63 (Nat.le_of_ble_eq_true rfl) rfl (fun _ => rfl) (fun v11 ev11 => ?_)
          refine e_inc (lv' := fun w9 => [.ref m, .int x, .int v11, .int w9, .int 1]) dX5_nearest_64 rfl rfl (fun _ => rfl) (fun v12 ev12 => ?_)
          refine x_goto (tgt := 5) dX5_nearest_67 (by decide) ?_
          obtain rfl := inc1 ev12
          exact ih (i + 1) v11 (.int 1) (by omega) (by rw [← hR, lp_s]; congr 1; all_goals (subst ev11; simp [nlf, sHolds, *]))

set_option maxRecDepth 100000 in
set_option maxHeartbeats 4000000 in
theorem t_mnearest {st : Nat → Nat} (d : Nat) {z : Nat} {h : Nat → Option va_E} {m : Nat} {fs : List Value} {ζ : Sg} (H : ZAt h m fs ζ) (hC : COk ζ) (x : Int32) : CT st (d + 2) yX5_nearest cX5_nearest 5 (some .int) [.ref m, .int x] (z, h) 0 0 (RO (some (.int (cNearLine ζ x))) (z, h)) := by
  refine CT.of (lv := [.ref m, .int x, .null, .null, .null]) (by decide) (Nat.le_of_ble_eq_true rfl) rfl rfl ?_
  refine x_bipush (v := (-6)) dX5_nearest_0 rfl ?_
  refine e_ist_n (lv' := fun w9 => [.ref m, .int x, .int w9, .null, .null]) dX5_nearest_2 (Nat.le_of_ble_eq_true rfl) rfl (fun _ => rfl) (fun v1 ev1 => ?_)
  refine x_iconst (v := 0) dX5_nearest_3 rfl ?_
  refine e_ist_n (lv' := fun w9 => [.ref m, .int x, .int v1, .int w9, .null]) dX5_nearest_4 (Nat.le_of_ble_eq_true rfl) rfl (fun _ => rfl) (fun v2 ev2 => ?_)
  subst ev1 ev2
  exact L_mnearest d H hC x (nCl ζ) 0 (-6) _ (by omega) rfl

set_option maxRecDepth 100000 in
set_option maxHeartbeats 4000000 in
theorem L_nearestOnes {st : Nat → Nat} (d : Nat) {z : Nat} {h : Nat → Option va_E} {m : Nat} {fs : List Value} {ζ : Sg} (H : ZAt h m fs ζ) (hC : COk ζ) (x : Int32) : ∀ (k : Nat) (i : Nat) (r : Int32), i + k = nCl ζ → lp (bsf (fun c => sHolds x (nI c) && decide (ζ 7 c = cNearLine ζ x))) i k r = mNear ζ x → Ev st (d + 3) yX5_nearestOnes cX5_nearestOnes 5 (some .int) (z, h) 0 0 (RO (some (.int (mNear ζ x))) (z, h)) 11 [.ref m, .int x, .int (cNearLine ζ x), .int r, .int (nI i)] [] (z, h) 0 0 := by
  intro k
  induction k with
  | zero =>
    intro i r hik hR
    refine x_iload dX5_nearestOnes_11 rfl ?_
    refine x_aload_n dX5_nearestOnes_13 rfl ?_
    refine x_get dX5_nearestOnes_14 fX5_7 H.ob rfl ?_
    refine x_bipush (v := 8) dX5_nearestOnes_17 rfl ?_
    refine z_ald (13) (1) dX5_nearestOnes_19 H (show zAt 13 1 8 from ⟨by decide, rfl⟩) (show ¬ (8 : Int32) < 0 ∧ Int32.toNatClampNeg 8 = 8 by decide) ?_
    rw [hC.1]
    have hC30 := hC.2
    refine x_icmp_ge (tgt := 61) dX5_nearestOnes_20 (by decide) (fun c20 => ?_) (fun c20 => absurd (nI_le (a := nCl ζ) (b := i) (by omega) (by omega)) c20)
    refine x_iload_n dX5_nearestOnes_61 rfl ?_
    refine x_iret dX5_nearestOnes_62 (Or.inl rfl) rfl (Nat.le_refl _) ?_
    exact RO.mk hR
  | succ k ih =>
    intro i r hik hR
    refine x_iload dX5_nearestOnes_11 rfl ?_
    refine x_aload_n dX5_nearestOnes_13 rfl ?_
    refine x_get dX5_nearestOnes_14 fX5_7 H.ob rfl ?_
    refine x_bipush (v := 8) dX5_nearestOnes_17 rfl ?_
    refine z_ald (13) (1) dX5_nearestOnes_19 H (show zAt 13 1 8 from ⟨by decide, rfl⟩) (show ¬ (8 : Int32) < 0 ∧ Int32.toNatClampNeg 8 = 8 by decide) ?_
    rw [hC.1]
    have hC30 := hC.2
    refine x_icmp_ge (tgt := 61) dX5_nearestOnes_20 (by decide) (fun c20 => absurd c20 (nI_ge (a := i) (b := nCl ζ) (by omega) (by omega))) (fun c20 => ?_)
    refine x_iload_n dX5_nearestOnes_23 rfl ?_
    refine x_iload_n dX5_nearestOnes_24 rfl ?_
    refine x_iload dX5_nearestOnes_25 rfl ?_
    refine x_ishr dX5_nearestOnes_27 ?_
    refine x_iconst (v := 1) dX5_nearestOnes_28 rfl ?_
    refine x_iand dX5_nearestOnes_29 ?_
    refine x_iconst (v := 1) dX5_nearestOnes_30 rfl ?_
    refine x_icmp_ne (tgt := 52) dX5_nearestOnes_31 (by decide) (fun c31 => ?_) (fun c31 => ?_)
    · refine x_iconst (v := 0) dX5_nearestOnes_52 rfl ?_
      refine x_ior dX5_nearestOnes_53 ?_
      refine e_ist_n (lv' := fun w9 => [.ref m, .int x, .int (cNearLine ζ x), .int w9, .int (nI i)]) dX5_nearestOnes_54 (Nat.le_of_ble_eq_true rfl) rfl (fun _ => rfl) (fun v1 ev1 => ?_)
      refine e_inc (lv' := fun w9 => [.ref m, .int x, .int (cNearLine ζ x), .int v1, .int w9]) dX5_nearestOnes_55 rfl rfl (fun _ => rfl) (fun v2 ev2 => ?_)
      refine x_goto (tgt := 11) dX5_nearestOnes_58 (by decide) ?_
      obtain rfl := inc1 ev2
      exact ih (i + 1) v1 (by omega) (by rw [← hR, lp_s]; congr 1; all_goals (subst ev1; simp [bsf, bit, sHolds, *]))
    · refine x_aload_n dX5_nearestOnes_34 rfl ?_
      refine x_iload dX5_nearestOnes_35 rfl ?_
      refine x_iconst (v := 2) dX5_nearestOnes_37 rfl ?_
      refine c_VR dX5_nearestOnes_38 kX5_claimOf iX5_claimOf q811 (t_claimOf _ H (a := (nI i)) (j := i) (b := 2) (w := 2) (7) rfl (by omega) rfl (by decide) rfl) H.ob rfl rfl rfl (Nat.le_of_ble_eq_true rfl) ⟨Nat.le_refl _, Nat.le_refl _⟩ ?_
      refine x_iload_n dX5_nearestOnes_41 rfl ?_
      refine x_icmp_ne (tgt := 52) dX5_nearestOnes_42 (by decide) (fun c42 => ?_) (fun c42 => ?_)
      · refine x_iconst (v := 0) dX5_nearestOnes_52 rfl ?_
        refine x_ior dX5_nearestOnes_53 ?_
        refine e_ist_n (lv' := fun w9 => [.ref m, .int x, .int (cNearLine ζ x), .int w9, .int (nI i)]) dX5_nearestOnes_54 (Nat.le_of_ble_eq_true rfl) rfl (fun _ => rfl) (fun v3 ev3 => ?_)
        refine e_inc (lv' := fun w9 => [.ref m, .int x, .int (cNearLine ζ x), .int v3, .int w9]) dX5_nearestOnes_55 rfl rfl (fun _ => rfl) (fun v4 ev4 => ?_)
        refine x_goto (tgt := 11) dX5_nearestOnes_58 (by decide) ?_
        obtain rfl := inc1 ev4
        exact ih (i + 1) v3 (by omega) (by rw [← hR, lp_s]; congr 1; all_goals (subst ev3; simp [bsf, bit, sHolds, *]))
      · refine x_iconst (v := 1) dX5_nearestOnes_45 rfl ?_
        refine x_iload dX5_nearestOnes_46 rfl ?_
        refine x_ishl dX5_nearestOnes_48 ?_
        refine x_goto (tgt := 53) dX5_nearestOnes_49 (by decide) ?_
        refine x_ior dX5_nearestOnes_53 ?_
        refine e_ist_n (lv' := fun w9 => [.ref m, .int x, .int (cNearLine ζ x), .int w9, .int (nI i)]) dX5_nearestOnes_54 (Nat.le_of_ble_eq_true rfl) rfl (fun _ => rfl) (fun v5 ev5 => ?_)
        refine e_inc (lv' := fun w9 => [.ref m, .int x, .int (cNearLine ζ x), .int v5, .int w9]) dX5_nearestOnes_55 rfl rfl (fun _ => rfl) (fun v6 ev6 => ?_)
        refine x_goto (tgt := 11) dX5_nearestOnes_58 (by decide) ?_
        obtain rfl := inc1 ev6
        exact ih (i + 1) v5 (by omega) (by rw [← hR, lp_s]; congr 1; all_goals (subst ev5; simp [bsf, bit, sHolds, *]))

set_option maxRecDepth 100000 in
set_option maxHeartbeats 4000000 in
theorem t_nearestOnes {st : Nat → Nat} (d : Nat) {z : Nat} {h : Nat → Option va_E} {m : Nat} {fs : List Value} {ζ : Sg} (H : ZAt h m fs ζ) (hC : COk ζ) (x : Int32) : CT st (d + 3) yX5_nearestOnes cX5_nearestOnes 5 (some .int) [.ref m, .int x] (z, h) 0 0 (RO (some (.int (mNear ζ x))) (z, h)) := by
  refine CT.of (lv := [.ref m, .int x, .null, .null, .null]) (by decide) (Nat.le_of_ble_eq_true rfl) rfl rfl ?_
  refine x_aload_n dX5_nearestOnes_0 rfl ?_
  refine x_iload_n dX5_nearestOnes_1 rfl ?_
  refine c_VR dX5_nearestOnes_2 kX5_nearest iX5_nearest q895 (t_mnearest _ H hC _) H.ob rfl rfl rfl (Nat.le_of_ble_eq_true rfl) ⟨Nat.le_refl _, Nat.le_refl _⟩ ?_
  refine e_ist_n (lv' := fun w9 => [.ref m, .int x, .int w9, .null, .null]) dX5_nearestOnes_5 (Nat.le_of_ble_eq_true rfl) rfl (fun _ => rfl) (fun v1 ev1 => ?_)
  refine x_iconst (v := 0) dX5_nearestOnes_6 rfl ?_
  refine e_ist_n (lv' := fun w9 => [.ref m, .int x, .int v1, .int w9, .null]) dX5_nearestOnes_7 (Nat.le_of_ble_eq_true rfl) rfl (fun _ => rfl) (fun v2 ev2 => ?_)
  refine x_iconst (v := 0) dX5_nearestOnes_8 rfl ?_
  refine e_ist (lv' := fun w9 => [.ref m, .int x, .int v1, .int v2, .int w9]) dX5_nearestOnes_9 (Nat.le_of_ble_eq_true rfl) rfl (fun _ => rfl) (fun v3 ev3 => ?_)
  subst ev1 ev2 ev3
  exact L_nearestOnes d H hC x (nCl ζ) 0 0 (by omega) rfl

set_option maxRecDepth 100000 in
set_option maxHeartbeats 4000000 in
theorem t_shared {st : Nat → Nat} (d : Nat) {z : Nat} {h : Nat → Option va_E} {m : Nat} {fs : List Value} {ζ : Sg} (H : ZAt h m fs ζ) {j : Nat} (hj : j < 12) : CT st (d + 2) yX5_shared cX5_shared 3 (some .int) [.ref m, .int (nI j)] (z, h) 0 0 (RO (some (.int (sCoins ζ j))) (z, h)) := by
  refine CT.of (lv := [.ref m, .int (nI j), .null]) (by decide) (Nat.le_of_ble_eq_true rfl) rfl rfl ?_
  refine x_aload_n dX5_shared_0 rfl ?_
  refine x_iload_n dX5_shared_1 rfl ?_
  refine x_iconst (v := 0) dX5_shared_2 rfl ?_
  refine c_VR dX5_shared_3 kX5_lotOf iX5_lotOf q777 (t_lotOf _ H (a := (nI j)) (j := j) (b := 0) (w := 0) (1) rfl (by omega) rfl (by decide) rfl) H.ob rfl rfl rfl (Nat.le_of_ble_eq_true rfl) ⟨Nat.le_refl _, Nat.le_refl _⟩ ?_
  refine e_ist_n (lv' := fun w9 => [.ref m, .int (nI j), .int w9]) dX5_shared_6 (Nat.le_of_ble_eq_true rfl) rfl (fun _ => rfl) (fun v1 ev1 => ?_)
  refine x_aload_n dX5_shared_7 rfl ?_
  refine x_iload_n dX5_shared_8 rfl ?_
  refine x_iconst (v := 1) dX5_shared_9 rfl ?_
  refine c_VR dX5_shared_10 kX5_lotOf iX5_lotOf q777 (t_lotOf _ H (a := (nI j)) (j := j) (b := 1) (w := 1) (2) rfl (by omega) rfl (by decide) rfl) H.ob rfl rfl rfl (Nat.le_of_ble_eq_true rfl) ⟨Nat.le_refl _, Nat.le_refl _⟩ ?_
  refine x_iconst (v := 3) dX5_shared_13 rfl ?_
  refine x_icmp_ne (tgt := 33) dX5_shared_14 (by decide) (fun c14 => ?_) (fun c14 => ?_)
  · refine x_iload_n dX5_shared_33 rfl ?_
    refine x_iret dX5_shared_34 (Or.inl rfl) rfl (Nat.le_refl _) ?_
    exact RO.mk (by subst_vars; simp [sCoins, *])
  · refine x_iload_n dX5_shared_17 rfl ?_
    refine x_iload_n dX5_shared_18 rfl ?_
    refine x_aload_n dX5_shared_19 rfl ?_
    refine x_get dX5_shared_20 fX5_7 H.ob rfl ?_
    refine x_iconst (v := 4) dX5_shared_23 rfl ?_
    refine z_ald (0) (4) dX5_shared_24 H (show zAt 0 4 4 from ⟨by decide, rfl⟩) (show ¬ (4 : Int32) < 0 ∧ Int32.toNatClampNeg 4 = 4 by decide) ?_
    refine x_imul dX5_shared_25 ?_
    refine x_bipush (v := 100) dX5_shared_26 rfl ?_
    refine x_idiv dX5_shared_28 (by decide) ?_
    refine x_isub dX5_shared_29 ?_
    refine x_goto (tgt := 34) dX5_shared_30 (by decide) ?_
    refine x_iret dX5_shared_34 (Or.inl rfl) rfl (Nat.le_refl _) ?_
    exact RO.mk (by subst_vars; simp [sCoins, *])

set_option maxRecDepth 100000 in
set_option maxHeartbeats 4000000 in
theorem t_mpart {st : Nat → Nat} (d : Nat) {z : Nat} {h : Nat → Option va_E} {j : Nat} (x c : Int32) (hx : ¬ mSize x = 0) : CT st (d + 2) yX5_part cX5_part 5 (some .int) [.int (nI j), .int x, .int c] (z, h) 0 0 (RO (some (.int (mPart c x j))) (z, h)) := by
  refine CT.of (lv := [.int (nI j), .int x, .int c, .null, .null]) (by decide) (Nat.le_of_ble_eq_true rfl) rfl rfl ?_
  refine x_iload_n dX5_part_0 rfl ?_
  refine c_SR dX5_part_1 kX5_size q790 q789 (t_size _ _) rfl rfl (Nat.le_of_ble_eq_true rfl) ⟨Nat.le_refl _, Nat.le_refl _⟩ ?_
  refine e_ist_n (lv' := fun w9 => [.int (nI j), .int x, .int c, .int w9, .null]) dX5_part_4 (Nat.le_of_ble_eq_true rfl) rfl (fun _ => rfl) (fun v1 ev1 => ?_)
  refine x_iload_n dX5_part_5 rfl ?_
  refine x_iconst (v := 1) dX5_part_6 rfl ?_
  refine x_iload_n dX5_part_7 rfl ?_
  refine x_ishl dX5_part_8 ?_
  refine x_iconst (v := 1) dX5_part_9 rfl ?_
  refine x_isub dX5_part_10 ?_
  refine x_iand dX5_part_11 ?_
  refine c_SR dX5_part_12 kX5_size q790 q789 (t_size _ _) rfl rfl (Nat.le_of_ble_eq_true rfl) ⟨Nat.le_refl _, Nat.le_refl _⟩ ?_
  refine e_ist (lv' := fun w9 => [.int (nI j), .int x, .int c, .int v1, .int w9]) dX5_part_15 (Nat.le_of_ble_eq_true rfl) rfl (fun _ => rfl) (fun v2 ev2 => ?_)
  refine x_iload_n dX5_part_17 rfl ?_
  refine x_iload_n dX5_part_18 rfl ?_
  refine x_idiv dX5_part_19 (by subst_vars; exact hx) ?_
  refine x_iload dX5_part_20 rfl ?_
  refine x_iload_n dX5_part_22 rfl ?_
  refine x_iload_n dX5_part_23 rfl ?_
  refine x_irem dX5_part_24 (by subst_vars; exact hx) ?_
  refine x_icmp_ge (tgt := 32) dX5_part_25 (by decide) (fun c25 => ?_) (fun c25 => ?_)
  · refine x_iconst (v := 0) dX5_part_32 rfl ?_
    refine x_iadd dX5_part_33 ?_
    refine x_iret dX5_part_34 (Or.inl rfl) rfl (Nat.le_refl _) ?_
    exact RO.mk (by subst_vars; simp [mPart, bit, *])
  · refine x_iconst (v := 1) dX5_part_28 rfl ?_
    refine x_goto (tgt := 33) dX5_part_29 (by decide) ?_
    refine x_iadd dX5_part_33 ?_
    refine x_iret dX5_part_34 (Or.inl rfl) rfl (Nat.le_refl _) ?_
    exact RO.mk (by subst_vars; simp [mPart, bit, *])

set_option maxRecDepth 100000 in
set_option maxHeartbeats 4000000 in
theorem t_isValue {st : Nat → Nat} (d : Nat) {z : Nat} {h : Nat → Option va_E} (s v : Int32) : CT st (d + 2) yX5_isValue cX5_isValue 2 (some .boolean) [.int s, .int v] (z, h) 0 0 (RO (some (.int (bI (mVal s v)))) (z, h)) := by
  refine CT.of (lv := [.int s, .int v]) (by decide) (Nat.le_of_ble_eq_true rfl) rfl rfl ?_
  refine x_iload_n dX5_isValue_0 rfl ?_
  by_cases k1_0 : s = 0
  · subst k1_0
    refine x_tableIn (off := 35) (tgt := 36) dX5_isValue_1 (by decide) (by decide) rfl (by decide) ?_
    refine x_iload_n dX5_isValue_36 rfl ?_
    refine x_iconst (v := 1) dX5_isValue_37 rfl ?_
    refine x_sipush (v := 400) dX5_isValue_38 rfl ?_
    refine c_SR dX5_isValue_41 kX5_in q732 q731 (t_in _ _ _ _) rfl rfl (Nat.le_of_ble_eq_true rfl) ⟨Nat.le_refl _, Nat.le_refl _⟩ ?_
    refine x_iret dX5_isValue_44 (Or.inr ⟨rfl, by first | rfl | exact bI_z _⟩) rfl (Nat.le_refl _) ?_
    exact RO.mk (by simp [mVal, bI, *])
  by_cases k1_1 : s = 1
  · subst k1_1
    refine x_tableIn (off := 44) (tgt := 45) dX5_isValue_1 (by decide) (by decide) rfl (by decide) ?_
    refine x_iload_n dX5_isValue_45 rfl ?_
    refine x_iconst (v := 1) dX5_isValue_46 rfl ?_
    refine x_bipush (v := 100) dX5_isValue_47 rfl ?_
    refine c_SR dX5_isValue_49 kX5_in q732 q731 (t_in _ _ _ _) rfl rfl (Nat.le_of_ble_eq_true rfl) ⟨Nat.le_refl _, Nat.le_refl _⟩ ?_
    refine x_iret dX5_isValue_52 (Or.inr ⟨rfl, by first | rfl | exact bI_z _⟩) rfl (Nat.le_refl _) ?_
    exact RO.mk (by simp [mVal, bI, *])
  by_cases k1_2 : s = 2
  · subst k1_2
    refine x_tableIn (off := 52) (tgt := 53) dX5_isValue_1 (by decide) (by decide) rfl (by decide) ?_
    refine x_iload_n dX5_isValue_53 rfl ?_
    refine x_iconst (v := 1) dX5_isValue_54 rfl ?_
    refine x_sipush (v := 200) dX5_isValue_55 rfl ?_
    refine c_SR dX5_isValue_58 kX5_in q732 q731 (t_in _ _ _ _) rfl rfl (Nat.le_of_ble_eq_true rfl) ⟨Nat.le_refl _, Nat.le_refl _⟩ ?_
    refine x_iret dX5_isValue_61 (Or.inr ⟨rfl, by first | rfl | exact bI_z _⟩) rfl (Nat.le_refl _) ?_
    exact RO.mk (by simp [mVal, bI, *])
  by_cases k1_3 : s = 3
  · subst k1_3
    refine x_tableIn (off := 61) (tgt := 62) dX5_isValue_1 (by decide) (by decide) rfl (by decide) ?_
    refine x_iload_n dX5_isValue_62 rfl ?_
    refine x_iconst (v := 0) dX5_isValue_63 rfl ?_
    refine x_sipush (v := 400) dX5_isValue_64 rfl ?_
    refine c_SR dX5_isValue_67 kX5_in q732 q731 (t_in _ _ _ _) rfl rfl (Nat.le_of_ble_eq_true rfl) ⟨Nat.le_refl _, Nat.le_refl _⟩ ?_
    refine x_iret dX5_isValue_70 (Or.inr ⟨rfl, by first | rfl | exact bI_z _⟩) rfl (Nat.le_refl _) ?_
    exact RO.mk (by simp [mVal, bI, *])
  by_cases k1_4 : s = 4
  · subst k1_4
    refine x_tableIn (off := 70) (tgt := 71) dX5_isValue_1 (by decide) (by decide) rfl (by decide) ?_
    refine x_iload_n dX5_isValue_71 rfl ?_
    refine x_iconst (v := 0) dX5_isValue_72 rfl ?_
    refine x_bipush (v := 50) dX5_isValue_73 rfl ?_
    refine c_SR dX5_isValue_75 kX5_in q732 q731 (t_in _ _ _ _) rfl rfl (Nat.le_of_ble_eq_true rfl) ⟨Nat.le_refl _, Nat.le_refl _⟩ ?_
    refine x_iret dX5_isValue_78 (Or.inr ⟨rfl, by first | rfl | exact bI_z _⟩) rfl (Nat.le_refl _) ?_
    exact RO.mk (by simp [mVal, bI, *])
  refine x_tableOut (tgt := 79) dX5_isValue_1 (sw_out fun n h1 h2 => by rcases (show n = 0 ∨ n = 1 ∨ n = 2 ∨ n = 3 ∨ n = 4 by omega) with rfl | rfl | rfl | rfl | rfl; exact k1_0; exact k1_1; exact k1_2; exact k1_3; exact k1_4) (by decide) ?_
  refine x_iconst (v := 0) dX5_isValue_79 rfl ?_
  refine x_iret dX5_isValue_80 (Or.inr ⟨rfl, by first | rfl | exact bI_z _⟩) rfl (Nat.le_refl _) ?_
  exact RO.mk (by simp [mVal, bI, *])

set_option maxRecDepth 100000 in
set_option maxHeartbeats 4000000 in
theorem t_whyNotLot {st : Nat → Nat} (d : Nat) {z : Nat} {h : Nat → Option va_E} {m : Nat} {fs : List Value} {ζ : Sg} (H : ZAt h m fs ζ) (x : Int32) : CT st (d + 2) yX5_whyNotLot cX5_whyNotLot 2 (some .int) [.ref m, .int x] (z, h) 0 0 (RO (some (.int (wLot ζ x))) (z, h)) := by
  refine CT.of (lv := [.ref m, .int x]) (by decide) (Nat.le_of_ble_eq_true rfl) rfl rfl ?_
  refine x_iload_n dX5_whyNotLot_0 rfl ?_
  refine x_iconst (v := 1) dX5_whyNotLot_1 rfl ?_
  refine x_sipush (v := 9999) dX5_whyNotLot_2 rfl ?_
  refine c_SR dX5_whyNotLot_5 kX5_in q732 q731 (t_in _ _ _ _) rfl rfl (Nat.le_of_ble_eq_true rfl) ⟨Nat.le_refl _, Nat.le_refl _⟩ ?_
  refine x_if_ne (tgt := 16) dX5_whyNotLot_8 (by decide) (fun c8 => ?_) (fun c8 => ?_)
  · have c8 := bI_ne c8
    refine x_aload_n dX5_whyNotLot_16 rfl ?_
    refine x_get dX5_whyNotLot_17 fX5_7 H.ob rfl ?_
    refine x_bipush (v := 7) dX5_whyNotLot_20 rfl ?_
    refine z_ald (13) (0) dX5_whyNotLot_22 H (show zAt 13 0 7 from ⟨by decide, rfl⟩) (show ¬ (7 : Int32) < 0 ∧ Int32.toNatClampNeg 7 = 7 by decide) ?_
    refine x_bipush (v := 12) dX5_whyNotLot_23 rfl ?_
    refine x_icmp_ne (tgt := 33) dX5_whyNotLot_25 (by decide) (fun c25 => ?_) (fun c25 => ?_)
    · refine x_iconst (v := 0) dX5_whyNotLot_33 rfl ?_
      refine x_iret dX5_whyNotLot_34 (Or.inl rfl) rfl (Nat.le_refl _) ?_
      exact RO.mk (by simp [wLot, *])
    · refine x_bipush (v := (-4)) dX5_whyNotLot_28 rfl ?_
      refine x_goto (tgt := 34) dX5_whyNotLot_30 (by decide) ?_
      refine x_iret dX5_whyNotLot_34 (Or.inl rfl) rfl (Nat.le_refl _) ?_
      exact RO.mk (by simp [wLot, *])
  · have c8 := bI_eq c8
    refine x_bipush (v := (-2)) dX5_whyNotLot_11 rfl ?_
    refine x_goto (tgt := 34) dX5_whyNotLot_13 (by decide) ?_
    refine x_iret dX5_whyNotLot_34 (Or.inl rfl) rfl (Nat.le_refl _) ?_
    exact RO.mk (by simp [wLot, *])

set_option maxRecDepth 100000 in
set_option maxHeartbeats 4000000 in
theorem t_whyNotNotice {st : Nat → Nat} (d : Nat) {z : Nat} {h : Nat → Option va_E} {m : Nat} {fs : List Value} {ζ : Sg} (H : ZAt h m fs ζ) (hL : LOk ζ) (x : Int32) : CT st (d + 3) yX5_whyNotNotice cX5_whyNotNotice 2 (some .int) [.ref m, .int x] (z, h) 0 0 (RO (some (.int (wNotice ζ x))) (z, h)) := by
  refine CT.of (lv := [.ref m, .int x]) (by decide) (Nat.le_of_ble_eq_true rfl) rfl rfl ?_
  refine x_aload_n dX5_whyNotNotice_0 rfl ?_
  refine x_iload_n dX5_whyNotNotice_1 rfl ?_
  refine c_VR dX5_whyNotNotice_2 kX5_isLot iX5_isLot q773 (t_misLot _ H hL _) H.ob rfl rfl rfl (Nat.le_of_ble_eq_true rfl) ⟨Nat.le_refl _, Nat.le_refl _⟩ ?_
  refine x_if_ne (tgt := 12) dX5_whyNotNotice_5 (by decide) (fun c5 => ?_) (fun c5 => ?_)
  · have c5 := bI_ne c5
    obtain ⟨j, -, hj, rfl⟩ := ax_ix_of hL.1 hL.2 (Nat.le_of_ble_eq_true rfl) c5
    have hj12 := hL.2
    have hcl := nI_cl (j := j) (by omega)
    refine x_aload_n dX5_whyNotNotice_12 rfl ?_
    refine x_iload_n dX5_whyNotNotice_13 rfl ?_
    refine x_iconst (v := 1) dX5_whyNotNotice_14 rfl ?_
    refine c_VR dX5_whyNotNotice_15 kX5_lotOf iX5_lotOf q777 (t_lotOf _ H (a := (nI j)) (j := j) (b := 1) (w := 1) (2) rfl (by omega) rfl (by decide) rfl) H.ob rfl rfl rfl (Nat.le_of_ble_eq_true rfl) ⟨Nat.le_refl _, Nat.le_refl _⟩ ?_
    refine x_if_ne (tgt := 25) dX5_whyNotNotice_18 (by decide) (fun c18 => ?_) (fun c18 => ?_)
    · refine x_bipush (v := (-5)) dX5_whyNotNotice_25 rfl ?_
      refine x_iret dX5_whyNotNotice_27 (Or.inl rfl) rfl (Nat.le_refl _) ?_
      exact RO.mk (by simp [wNotice, *])
    · refine x_iconst (v := 0) dX5_whyNotNotice_21 rfl ?_
      refine x_goto (tgt := 27) dX5_whyNotNotice_22 (by decide) ?_
      refine x_iret dX5_whyNotNotice_27 (Or.inl rfl) rfl (Nat.le_refl _) ?_
      exact RO.mk (by simp [wNotice, *])
  · have c5 := bI_eq c5
    refine x_iconst (v := (-1)) dX5_whyNotNotice_8 rfl ?_
    refine x_goto (tgt := 27) dX5_whyNotNotice_9 (by decide) ?_
    refine x_iret dX5_whyNotNotice_27 (Or.inl rfl) rfl (Nat.le_refl _) ?_
    exact RO.mk (by simp [wNotice, *])

set_option maxRecDepth 100000 in
set_option maxHeartbeats 4000000 in
theorem L_claims {st : Nat → Nat} (d : Nat) {z : Nat} {h : Nat → Option va_E} {m : Nat} {fs : List Value} {ζ : Sg} (H : ZAt h m fs ζ) (hC : COk ζ) (x w : Int32) : ∀ (k : Nat) (i : Nat) (b : Bool), i + k = nCl ζ → lp (fun c b => b || (decide (ζ 5 c = x) && (decide (ζ 6 c = w) && sStands ζ c))) i k b = lp (fun c b => b || (decide (ζ 5 c = x) && (decide (ζ 6 c = w) && sStands ζ c))) 0 (nCl ζ) false → Ev st (d + 3) yX5_claims cX5_claims 5 (some .boolean) (z, h) 0 0 (RO (some (.int (bI (lp (fun c b => b || (decide (ζ 5 c = x) && (decide (ζ 6 c = w) && sStands ζ c))) 0 (nCl ζ) false)))) (z, h)) 5 [.ref m, .int x, .int w, .int (bI b), .int (nI i)] [] (z, h) 0 0 := by
  intro k
  induction k with
  | zero =>
    intro i b hik hR
    refine x_iload dX5_claims_5 rfl ?_
    refine x_aload_n dX5_claims_7 rfl ?_
    refine x_get dX5_claims_8 fX5_7 H.ob rfl ?_
    refine x_bipush (v := 8) dX5_claims_11 rfl ?_
    refine z_ald (13) (1) dX5_claims_13 H (show zAt 13 1 8 from ⟨by decide, rfl⟩) (show ¬ (8 : Int32) < 0 ∧ Int32.toNatClampNeg 8 = 8 by decide) ?_
    rw [hC.1]
    have hC30 := hC.2
    refine x_icmp_ge (tgt := 64) dX5_claims_14 (by decide) (fun c14 => ?_) (fun c14 => absurd (nI_le (a := nCl ζ) (b := i) (by omega) (by omega)) c14)
    refine x_iload_n dX5_claims_64 rfl ?_
    refine x_iret dX5_claims_65 (Or.inr ⟨rfl, by first | rfl | exact bI_z _⟩) rfl (Nat.le_refl _) ?_
    exact RO.mk (congrArg bI hR)
  | succ k ih =>
    intro i b hik hR
    refine x_iload dX5_claims_5 rfl ?_
    refine x_aload_n dX5_claims_7 rfl ?_
    refine x_get dX5_claims_8 fX5_7 H.ob rfl ?_
    refine x_bipush (v := 8) dX5_claims_11 rfl ?_
    refine z_ald (13) (1) dX5_claims_13 H (show zAt 13 1 8 from ⟨by decide, rfl⟩) (show ¬ (8 : Int32) < 0 ∧ Int32.toNatClampNeg 8 = 8 by decide) ?_
    rw [hC.1]
    have hC30 := hC.2
    refine x_icmp_ge (tgt := 64) dX5_claims_14 (by decide) (fun c14 => absurd c14 (nI_ge (a := i) (b := nCl ζ) (by omega) (by omega))) (fun c14 => ?_)
    refine x_iload_n dX5_claims_17 rfl ?_
    refine x_if_ne (tgt := 52) dX5_claims_18 (by decide) (fun c18 => ?_) (fun c18 => ?_)
    · have c18 := bI_ne c18
      refine x_iconst (v := 1) dX5_claims_52 rfl ?_
      refine x_goto (tgt := 57) dX5_claims_53 (by decide) ?_
      refine e_ist_n (lv' := fun w9 => [.ref m, .int x, .int w, .int w9, .int (nI i)]) dX5_claims_57 (Nat.le_of_ble_eq_true rfl) rfl (fun _ => rfl) (fun v1 ev1 => ?_)
      subst ev1
      refine e_inc (lv' := fun w9 => [.ref m, .int x, .int w, .int 1, .int w9]) dX5_claims_58 rfl rfl (fun _ => rfl) (fun v2 ev2 => ?_)
      refine x_goto (tgt := 5) dX5_claims_61 (by decide) ?_
      obtain rfl := inc1 ev2
      exact ih (i + 1) true (by omega) (by rw [← hR, lp_s]; congr 1; all_goals (simp [*]))
    · have c18 := bI_eq c18
      refine x_aload_n dX5_claims_21 rfl ?_
      refine x_iload dX5_claims_22 rfl ?_
      refine x_iconst (v := 0) dX5_claims_24 rfl ?_
      refine c_VR dX5_claims_25 kX5_claimOf iX5_claimOf q811 (t_claimOf _ H (a := (nI i)) (j := i) (b := 0) (w := 0) (5) rfl (by omega) rfl (by decide) rfl) H.ob rfl rfl rfl (Nat.le_of_ble_eq_true rfl) ⟨Nat.le_refl _, Nat.le_refl _⟩ ?_
      refine x_iload_n dX5_claims_28 rfl ?_
      refine x_icmp_ne (tgt := 56) dX5_claims_29 (by decide) (fun c29 => ?_) (fun c29 => ?_)
      · refine x_iconst (v := 0) dX5_claims_56 rfl ?_
        refine e_ist_n (lv' := fun w9 => [.ref m, .int x, .int w, .int w9, .int (nI i)]) dX5_claims_57 (Nat.le_of_ble_eq_true rfl) rfl (fun _ => rfl) (fun v3 ev3 => ?_)
        subst ev3
        refine e_inc (lv' := fun w9 => [.ref m, .int x, .int w, .int 0, .int w9]) dX5_claims_58 rfl rfl (fun _ => rfl) (fun v4 ev4 => ?_)
        refine x_goto (tgt := 5) dX5_claims_61 (by decide) ?_
        obtain rfl := inc1 ev4
        exact ih (i + 1) false (by omega) (by rw [← hR, lp_s]; congr 1; all_goals (simp [*]))
      · refine x_aload_n dX5_claims_32 rfl ?_
        refine x_iload dX5_claims_33 rfl ?_
        refine x_iconst (v := 1) dX5_claims_35 rfl ?_
        refine c_VR dX5_claims_36 kX5_claimOf iX5_claimOf q811 (t_claimOf _ H (a := (nI i)) (j := i) (b := 1) (w := 1) (6) rfl (by omega) rfl (by decide) rfl) H.ob rfl rfl rfl (Nat.le_of_ble_eq_true rfl) ⟨Nat.le_refl _, Nat.le_refl _⟩ ?_
        refine x_iload_n dX5_claims_39 rfl ?_
        refine x_icmp_ne (tgt := 56) dX5_claims_40 (by decide) (fun c40 => ?_) (fun c40 => ?_)
        · refine x_iconst (v := 0) dX5_claims_56 rfl ?_
          refine e_ist_n (lv' := fun w9 => [.ref m, .int x, .int w, .int w9, .int (nI i)]) dX5_claims_57 (Nat.le_of_ble_eq_true rfl) rfl (fun _ => rfl) (fun v5 ev5 => ?_)
          subst ev5
          refine e_inc (lv' := fun w9 => [.ref m, .int x, .int w, .int 0, .int w9]) dX5_claims_58 rfl rfl (fun _ => rfl) (fun v6 ev6 => ?_)
          refine x_goto (tgt := 5) dX5_claims_61 (by decide) ?_
          obtain rfl := inc1 ev6
          exact ih (i + 1) false (by omega) (by rw [← hR, lp_s]; congr 1; all_goals (simp [*]))
        · refine x_aload_n dX5_claims_43 rfl ?_
          refine x_iload dX5_claims_44 rfl ?_
          refine c_VR dX5_claims_46 kX5_stands iX5_stands q815 (t_mstands _ H (j := i) (by omega)) H.ob rfl rfl rfl (Nat.le_of_ble_eq_true rfl) ⟨Nat.le_refl _, Nat.le_refl _⟩ ?_
          refine x_if_eq (tgt := 56) dX5_claims_49 (by decide) (fun c49 => ?_) (fun c49 => ?_)
          · have c49 := bI_eq c49
            refine x_iconst (v := 0) dX5_claims_56 rfl ?_
            refine e_ist_n (lv' := fun w9 => [.ref m, .int x, .int w, .int w9, .int (nI i)]) dX5_claims_57 (Nat.le_of_ble_eq_true rfl) rfl (fun _ => rfl) (fun v7 ev7 => ?_)
            subst ev7
            refine e_inc (lv' := fun w9 => [.ref m, .int x, .int w, .int 0, .int w9]) dX5_claims_58 rfl rfl (fun _ => rfl) (fun v8 ev8 => ?_)
            refine x_goto (tgt := 5) dX5_claims_61 (by decide) ?_
            obtain rfl := inc1 ev8
            exact ih (i + 1) false (by omega) (by rw [← hR, lp_s]; congr 1; all_goals (simp [*]))
          · have c49 := bI_ne c49
            refine x_iconst (v := 1) dX5_claims_52 rfl ?_
            refine x_goto (tgt := 57) dX5_claims_53 (by decide) ?_
            refine e_ist_n (lv' := fun w9 => [.ref m, .int x, .int w, .int w9, .int (nI i)]) dX5_claims_57 (Nat.le_of_ble_eq_true rfl) rfl (fun _ => rfl) (fun v9 ev9 => ?_)
            subst ev9
            refine e_inc (lv' := fun w9 => [.ref m, .int x, .int w, .int 1, .int w9]) dX5_claims_58 rfl rfl (fun _ => rfl) (fun v10 ev10 => ?_)
            refine x_goto (tgt := 5) dX5_claims_61 (by decide) ?_
            obtain rfl := inc1 ev10
            exact ih (i + 1) true (by omega) (by rw [← hR, lp_s]; congr 1; all_goals (simp [*]))

set_option maxRecDepth 100000 in
set_option maxHeartbeats 4000000 in
theorem t_claims {st : Nat → Nat} (d : Nat) {z : Nat} {h : Nat → Option va_E} {m : Nat} {fs : List Value} {ζ : Sg} (H : ZAt h m fs ζ) (hC : COk ζ) (x w : Int32) : CT st (d + 3) yX5_claims cX5_claims 5 (some .boolean) [.ref m, .int x, .int w] (z, h) 0 0 (RO (some (.int (bI (!decide (cOfHeir ζ x &&& cStandTo ζ w = 0))))) (z, h)) := by
  refine CT.of (lv := [.ref m, .int x, .int w, .null, .null]) (by decide) (Nat.le_of_ble_eq_true rfl) rfl rfl ?_
  refine x_iconst (v := 0) dX5_claims_0 rfl ?_
  refine e_ist_n (lv' := fun w9 => [.ref m, .int x, .int w, .int w9, .null]) dX5_claims_1 (Nat.le_of_ble_eq_true rfl) rfl (fun _ => rfl) (fun v1 ev1 => ?_)
  refine x_iconst (v := 0) dX5_claims_2 rfl ?_
  refine e_ist (lv' := fun w9 => [.ref m, .int x, .int w, .int v1, .int w9]) dX5_claims_3 (Nat.le_of_ble_eq_true rfl) rfl (fun _ => rfl) (fun v2 ev2 => ?_)
  subst ev1 ev2
  have hC32 : nCl ζ ≤ 32 := by have := hC.2; omega
  rw [cStandTo_bs hC, show cOfHeir ζ x &&& _ = _ from bs_and _ _ hC32, ← lp_bs _ hC32]
  exact L_claims d H hC x w (nCl ζ) 0 false (by omega) rfl

set_option maxRecDepth 100000 in
set_option maxHeartbeats 4000000 in
theorem t_whyNotClaim {st : Nat → Nat} (d : Nat) {z : Nat} {h : Nat → Option va_E} {m : Nat} {fs : List Value} {ζ : Sg} (H : ZAt h m fs ζ) (hL : LOk ζ) (hC : COk ζ) (y x l : Int32) : CT st (d + 4) yX5_whyNotClaim cX5_whyNotClaim 5 (some .int) [.ref m, .int y, .int x, .int l] (z, h) 0 0 (RO (some (.int (wClaim ζ y x l))) (z, h)) := by
  refine CT.of (lv := [.ref m, .int y, .int x, .int l, .null]) (by decide) (Nat.le_of_ble_eq_true rfl) rfl rfl ?_
  refine x_iload_n dX5_whyNotClaim_0 rfl ?_
  refine c_SR dX5_whyNotClaim_1 kX5_isHeir q801 q800 (t_misHeir _ _) rfl rfl (Nat.le_of_ble_eq_true rfl) ⟨Nat.le_refl _, Nat.le_refl _⟩ ?_
  refine x_if_eq (tgt := 15) dX5_whyNotClaim_4 (by decide) (fun c4 => ?_) (fun c4 => ?_)
  · have c4 := bI_eq c4
    refine x_iconst (v := (-1)) dX5_whyNotClaim_15 rfl ?_
    refine x_iret dX5_whyNotClaim_16 (Or.inl rfl) rfl (Nat.le_refl _) ?_
    exact RO.mk (by (try simp at c80); simp [wClaim, *])
  · have c4 := bI_ne c4
    refine x_aload_n dX5_whyNotClaim_7 rfl ?_
    refine x_iload_n dX5_whyNotClaim_8 rfl ?_
    refine c_VR dX5_whyNotClaim_9 kX5_isLot iX5_isLot q773 (t_misLot _ H hL _) H.ob rfl rfl rfl (Nat.le_of_ble_eq_true rfl) ⟨Nat.le_refl _, Nat.le_refl _⟩ ?_
    refine x_if_ne (tgt := 17) dX5_whyNotClaim_12 (by decide) (fun c12 => ?_) (fun c12 => ?_)
    · have c12 := bI_ne c12
      obtain ⟨j, -, hj, rfl⟩ := ax_ix_of hL.1 hL.2 (Nat.le_of_ble_eq_true rfl) c12
      have hj12 := hL.2
      have hcl := nI_cl (j := j) (by omega)
      refine x_iload_n dX5_whyNotClaim_17 rfl ?_
      refine x_iconst (v := 1) dX5_whyNotClaim_18 rfl ?_
      refine x_iconst (v := 5) dX5_whyNotClaim_19 rfl ?_
      refine c_SR dX5_whyNotClaim_20 kX5_in q732 q731 (t_in _ _ _ _) rfl rfl (Nat.le_of_ble_eq_true rfl) ⟨Nat.le_refl _, Nat.le_refl _⟩ ?_
      refine x_if_ne (tgt := 29) dX5_whyNotClaim_23 (by decide) (fun c23 => ?_) (fun c23 => ?_)
      · have c23 := bI_ne c23
        refine x_aload_n dX5_whyNotClaim_29 rfl ?_
        refine x_iload_n dX5_whyNotClaim_30 rfl ?_
        refine x_iconst (v := 1) dX5_whyNotClaim_31 rfl ?_
        refine c_VR dX5_whyNotClaim_32 kX5_lotOf iX5_lotOf q777 (t_lotOf _ H (a := (nI j)) (j := j) (b := 1) (w := 1) (2) rfl (by omega) rfl (by decide) rfl) H.ob rfl rfl rfl (Nat.le_of_ble_eq_true rfl) ⟨Nat.le_refl _, Nat.le_refl _⟩ ?_
        refine x_iconst (v := 3) dX5_whyNotClaim_35 rfl ?_
        refine x_icmp_ne (tgt := 58) dX5_whyNotClaim_36 (by decide) (fun c36 => ?_) (fun c36 => ?_)
        · refine x_iconst (v := 0) dX5_whyNotClaim_58 rfl ?_
          refine e_ist (lv' := fun w9 => [.ref m, .int y, .int (nI j), .int l, .int w9]) dX5_whyNotClaim_59 (Nat.le_of_ble_eq_true rfl) rfl (fun _ => rfl) (fun v1 ev1 => ?_)
          subst ev1
          refine x_aload_n dX5_whyNotClaim_61 rfl ?_
          refine x_iload_n dX5_whyNotClaim_62 rfl ?_
          refine c_VR dX5_whyNotClaim_63 kX5_isEnded iX5_isEnded q803 (t_misEnded _ H (j := j) (by omega)) H.ob rfl rfl rfl (Nat.le_of_ble_eq_true rfl) ⟨Nat.le_refl _, Nat.le_refl _⟩ ?_
          refine x_if_ne (tgt := 83) dX5_whyNotClaim_66 (by decide) (fun c66 => ?_) (fun c66 => ?_)
          · have c66 := bI_ne c66
            refine x_bipush (v := (-5)) dX5_whyNotClaim_83 rfl ?_
            refine x_goto (tgt := 106) dX5_whyNotClaim_85 (by decide) ?_
            refine x_iret dX5_whyNotClaim_106 (Or.inl rfl) rfl (Nat.le_refl _) ?_
            exact RO.mk (by (try simp at c80); simp [wClaim, *])
          · have c66 := bI_eq c66
            refine x_iload dX5_whyNotClaim_69 rfl ?_
            refine x_if_ne (tgt := 83) dX5_whyNotClaim_71 (by decide) (fun c71 => absurd c71 (by decide)) (fun _ => ?_)
            refine x_aload_n dX5_whyNotClaim_74 rfl ?_
            refine x_iload_n dX5_whyNotClaim_75 rfl ?_
            refine x_iload_n dX5_whyNotClaim_76 rfl ?_
            refine c_VR dX5_whyNotClaim_77 kX5_claims iX5_claims q807 (t_claims _ H hC _ _) H.ob rfl rfl rfl (Nat.le_of_ble_eq_true rfl) ⟨Nat.le_refl _, Nat.le_refl _⟩ ?_
            refine x_if_eq (tgt := 88) dX5_whyNotClaim_80 (by decide) (fun c80 => ?_) (fun c80 => ?_)
            · have c80 := bI_eq c80
              refine x_aload_n dX5_whyNotClaim_88 rfl ?_
              refine x_get dX5_whyNotClaim_89 fX5_7 H.ob rfl ?_
              refine x_bipush (v := 8) dX5_whyNotClaim_92 rfl ?_
              refine z_ald (13) (1) dX5_whyNotClaim_94 H (show zAt 13 1 8 from ⟨by decide, rfl⟩) (show ¬ (8 : Int32) < 0 ∧ Int32.toNatClampNeg 8 = 8 by decide) ?_
              refine x_bipush (v := 30) dX5_whyNotClaim_95 rfl ?_
              refine x_icmp_ne (tgt := 105) dX5_whyNotClaim_97 (by decide) (fun c97 => ?_) (fun c97 => ?_)
              · refine x_iconst (v := 0) dX5_whyNotClaim_105 rfl ?_
                refine x_iret dX5_whyNotClaim_106 (Or.inl rfl) rfl (Nat.le_refl _) ?_
                exact RO.mk (by (try simp at c80); simp [wClaim, *])
              · refine x_bipush (v := (-4)) dX5_whyNotClaim_100 rfl ?_
                refine x_goto (tgt := 106) dX5_whyNotClaim_102 (by decide) ?_
                refine x_iret dX5_whyNotClaim_106 (Or.inl rfl) rfl (Nat.le_refl _) ?_
                exact RO.mk (by (try simp at c80); simp [wClaim, *])
            · have c80 := bI_ne c80
              refine x_bipush (v := (-5)) dX5_whyNotClaim_83 rfl ?_
              refine x_goto (tgt := 106) dX5_whyNotClaim_85 (by decide) ?_
              refine x_iret dX5_whyNotClaim_106 (Or.inl rfl) rfl (Nat.le_refl _) ?_
              exact RO.mk (by (try simp at c80); simp [wClaim, *])
        · refine x_aload_n dX5_whyNotClaim_39 rfl ?_
          refine x_iload_n dX5_whyNotClaim_40 rfl ?_
          refine x_iconst (v := 3) dX5_whyNotClaim_41 rfl ?_
          refine c_VR dX5_whyNotClaim_42 kX5_lotOf iX5_lotOf q777 (t_lotOf _ H (a := (nI j)) (j := j) (b := 3) (w := 3) (4) rfl (by omega) rfl (by decide) rfl) H.ob rfl rfl rfl (Nat.le_of_ble_eq_true rfl) ⟨Nat.le_refl _, Nat.le_refl _⟩ ?_
          refine x_aload_n dX5_whyNotClaim_45 rfl ?_
          refine x_get dX5_whyNotClaim_46 fX5_7 H.ob rfl ?_
          refine x_iconst (v := 3) dX5_whyNotClaim_49 rfl ?_
          refine z_ald (0) (3) dX5_whyNotClaim_50 H (show zAt 0 3 3 from ⟨by decide, rfl⟩) (show ¬ (3 : Int32) < 0 ∧ Int32.toNatClampNeg 3 = 3 by decide) ?_
          refine x_icmp_le (tgt := 58) dX5_whyNotClaim_51 (by decide) (fun c51 => ?_) (fun c51 => ?_)
          · refine x_iconst (v := 0) dX5_whyNotClaim_58 rfl ?_
            refine e_ist (lv' := fun w9 => [.ref m, .int y, .int (nI j), .int l, .int w9]) dX5_whyNotClaim_59 (Nat.le_of_ble_eq_true rfl) rfl (fun _ => rfl) (fun v2 ev2 => ?_)
            subst ev2
            refine x_aload_n dX5_whyNotClaim_61 rfl ?_
            refine x_iload_n dX5_whyNotClaim_62 rfl ?_
            refine c_VR dX5_whyNotClaim_63 kX5_isEnded iX5_isEnded q803 (t_misEnded _ H (j := j) (by omega)) H.ob rfl rfl rfl (Nat.le_of_ble_eq_true rfl) ⟨Nat.le_refl _, Nat.le_refl _⟩ ?_
            refine x_if_ne (tgt := 83) dX5_whyNotClaim_66 (by decide) (fun c66 => ?_) (fun c66 => ?_)
            · have c66 := bI_ne c66
              refine x_bipush (v := (-5)) dX5_whyNotClaim_83 rfl ?_
              refine x_goto (tgt := 106) dX5_whyNotClaim_85 (by decide) ?_
              refine x_iret dX5_whyNotClaim_106 (Or.inl rfl) rfl (Nat.le_refl _) ?_
              exact RO.mk (by (try simp at c80); simp [wClaim, *])
            · have c66 := bI_eq c66
              refine x_iload dX5_whyNotClaim_69 rfl ?_
              refine x_if_ne (tgt := 83) dX5_whyNotClaim_71 (by decide) (fun c71 => absurd c71 (by decide)) (fun _ => ?_)
              refine x_aload_n dX5_whyNotClaim_74 rfl ?_
              refine x_iload_n dX5_whyNotClaim_75 rfl ?_
              refine x_iload_n dX5_whyNotClaim_76 rfl ?_
              refine c_VR dX5_whyNotClaim_77 kX5_claims iX5_claims q807 (t_claims _ H hC _ _) H.ob rfl rfl rfl (Nat.le_of_ble_eq_true rfl) ⟨Nat.le_refl _, Nat.le_refl _⟩ ?_
              refine x_if_eq (tgt := 88) dX5_whyNotClaim_80 (by decide) (fun c80 => ?_) (fun c80 => ?_)
              · have c80 := bI_eq c80
                refine x_aload_n dX5_whyNotClaim_88 rfl ?_
                refine x_get dX5_whyNotClaim_89 fX5_7 H.ob rfl ?_
                refine x_bipush (v := 8) dX5_whyNotClaim_92 rfl ?_
                refine z_ald (13) (1) dX5_whyNotClaim_94 H (show zAt 13 1 8 from ⟨by decide, rfl⟩) (show ¬ (8 : Int32) < 0 ∧ Int32.toNatClampNeg 8 = 8 by decide) ?_
                refine x_bipush (v := 30) dX5_whyNotClaim_95 rfl ?_
                refine x_icmp_ne (tgt := 105) dX5_whyNotClaim_97 (by decide) (fun c97 => ?_) (fun c97 => ?_)
                · refine x_iconst (v := 0) dX5_whyNotClaim_105 rfl ?_
                  refine x_iret dX5_whyNotClaim_106 (Or.inl rfl) rfl (Nat.le_refl _) ?_
                  exact RO.mk (by (try simp at c80); simp [wClaim, *])
                · refine x_bipush (v := (-4)) dX5_whyNotClaim_100 rfl ?_
                  refine x_goto (tgt := 106) dX5_whyNotClaim_102 (by decide) ?_
                  refine x_iret dX5_whyNotClaim_106 (Or.inl rfl) rfl (Nat.le_refl _) ?_
                  exact RO.mk (by (try simp at c80); simp [wClaim, *])
              · have c80 := bI_ne c80
                refine x_bipush (v := (-5)) dX5_whyNotClaim_83 rfl ?_
                refine x_goto (tgt := 106) dX5_whyNotClaim_85 (by decide) ?_
                refine x_iret dX5_whyNotClaim_106 (Or.inl rfl) rfl (Nat.le_refl _) ?_
                exact RO.mk (by (try simp at c80); simp [wClaim, *])
          · refine x_iconst (v := 1) dX5_whyNotClaim_54 rfl ?_
            refine x_goto (tgt := 59) dX5_whyNotClaim_55 (by decide) ?_
            refine e_ist (lv' := fun w9 => [.ref m, .int y, .int (nI j), .int l, .int w9]) dX5_whyNotClaim_59 (Nat.le_of_ble_eq_true rfl) rfl (fun _ => rfl) (fun v3 ev3 => ?_)
            subst ev3
            refine x_aload_n dX5_whyNotClaim_61 rfl ?_
            refine x_iload_n dX5_whyNotClaim_62 rfl ?_
            refine c_VR dX5_whyNotClaim_63 kX5_isEnded iX5_isEnded q803 (t_misEnded _ H (j := j) (by omega)) H.ob rfl rfl rfl (Nat.le_of_ble_eq_true rfl) ⟨Nat.le_refl _, Nat.le_refl _⟩ ?_
            refine x_if_ne (tgt := 83) dX5_whyNotClaim_66 (by decide) (fun c66 => ?_) (fun c66 => ?_)
            · have c66 := bI_ne c66
              refine x_bipush (v := (-5)) dX5_whyNotClaim_83 rfl ?_
              refine x_goto (tgt := 106) dX5_whyNotClaim_85 (by decide) ?_
              refine x_iret dX5_whyNotClaim_106 (Or.inl rfl) rfl (Nat.le_refl _) ?_
              exact RO.mk (by (try simp at c80); simp [wClaim, *])
            · have c66 := bI_eq c66
              refine x_iload dX5_whyNotClaim_69 rfl ?_
              refine x_if_ne (tgt := 83) dX5_whyNotClaim_71 (by decide) (fun _ => ?_) (fun c71 => absurd c71 (by decide))
              refine x_bipush (v := (-5)) dX5_whyNotClaim_83 rfl ?_
              refine x_goto (tgt := 106) dX5_whyNotClaim_85 (by decide) ?_
              refine x_iret dX5_whyNotClaim_106 (Or.inl rfl) rfl (Nat.le_refl _) ?_
              exact RO.mk (by (try simp at c80); simp [wClaim, *])
      · have c23 := bI_eq c23
        refine x_bipush (v := (-2)) dX5_whyNotClaim_26 rfl ?_
        refine x_iret dX5_whyNotClaim_28 (Or.inl rfl) rfl (Nat.le_refl _) ?_
        exact RO.mk (by (try simp at c80); simp [wClaim, *])
    · have c12 := bI_eq c12
      refine x_iconst (v := (-1)) dX5_whyNotClaim_15 rfl ?_
      refine x_iret dX5_whyNotClaim_16 (Or.inl rfl) rfl (Nat.le_refl _) ?_
      exact RO.mk (by (try simp at c80); simp [wClaim, *])

set_option maxRecDepth 100000 in
set_option maxHeartbeats 4000000 in
theorem t_whyNotOpen {st : Nat → Nat} (d : Nat) {z : Nat} {h : Nat → Option va_E} {m : Nat} {fs : List Value} {ζ : Sg} (H : ZAt h m fs ζ) {j : Nat} (hj : j < 30) : CT st (d + 2) yX5_whyNotOpen cX5_whyNotOpen 2 (some .int) [.ref m, .int (nI j)] (z, h) 0 0 (RO (some (.int (wOpen ζ j))) (z, h)) := by
  refine CT.of (lv := [.ref m, .int (nI j)]) (by decide) (Nat.le_of_ble_eq_true rfl) rfl rfl ?_
  refine x_aload_n dX5_whyNotOpen_0 rfl ?_
  refine x_iload_n dX5_whyNotOpen_1 rfl ?_
  refine x_iconst (v := 4) dX5_whyNotOpen_2 rfl ?_
  refine c_VR dX5_whyNotOpen_3 kX5_claimOf iX5_claimOf q811 (t_claimOf _ H (a := (nI j)) (j := j) (b := 4) (w := 4) (9) rfl (by omega) rfl (by decide) rfl) H.ob rfl rfl rfl (Nat.le_of_ble_eq_true rfl) ⟨Nat.le_refl _, Nat.le_refl _⟩ ?_
  refine x_if_ne (tgt := 13) dX5_whyNotOpen_6 (by decide) (fun c6 => ?_) (fun c6 => ?_)
  · refine x_bipush (v := (-5)) dX5_whyNotOpen_13 rfl ?_
    refine x_iret dX5_whyNotOpen_15 (Or.inl rfl) rfl (Nat.le_refl _) ?_
    exact RO.mk (by simp [wOpen, *])
  · refine x_iconst (v := 0) dX5_whyNotOpen_9 rfl ?_
    refine x_goto (tgt := 15) dX5_whyNotOpen_10 (by decide) ?_
    refine x_iret dX5_whyNotOpen_15 (Or.inl rfl) rfl (Nat.le_refl _) ?_
    exact RO.mk (by simp [wOpen, *])

set_option maxRecDepth 100000 in
set_option maxHeartbeats 4000000 in
theorem t_whyNotProve {st : Nat → Nat} (d : Nat) {z : Nat} {h : Nat → Option va_E} {m : Nat} {fs : List Value} {ζ : Sg} (H : ZAt h m fs ζ) (hC : COk ζ) (x p : Int32) : CT st (d + 3) yX5_whyNotProve cX5_whyNotProve 3 (some .int) [.ref m, .int x, .int p] (z, h) 0 0 (RO (some (.int (wProve ζ x p))) (z, h)) := by
  refine CT.of (lv := [.ref m, .int x, .int p]) (by decide) (Nat.le_of_ble_eq_true rfl) rfl rfl ?_
  refine x_aload_n dX5_whyNotProve_0 rfl ?_
  refine x_iload_n dX5_whyNotProve_1 rfl ?_
  refine c_VR dX5_whyNotProve_2 kX5_isClaim iX5_isClaim q835 (t_misClaim _ H hC _) H.ob rfl rfl rfl (Nat.le_of_ble_eq_true rfl) ⟨Nat.le_refl _, Nat.le_refl _⟩ ?_
  refine x_if_ne (tgt := 12) dX5_whyNotProve_5 (by decide) (fun c5 => ?_) (fun c5 => ?_)
  · have c5 := bI_ne c5
    obtain ⟨j, -, hj, rfl⟩ := ax_ix_of hC.1 hC.2 (Nat.le_of_ble_eq_true rfl) c5
    have hj30 := hC.2
    have hcl := nI_cl (j := j) (by omega)
    refine x_iload_n dX5_whyNotProve_12 rfl ?_
    refine x_iconst (v := 1) dX5_whyNotProve_13 rfl ?_
    refine x_bipush (v := 100) dX5_whyNotProve_14 rfl ?_
    refine c_SR dX5_whyNotProve_16 kX5_in q732 q731 (t_in _ _ _ _) rfl rfl (Nat.le_of_ble_eq_true rfl) ⟨Nat.le_refl _, Nat.le_refl _⟩ ?_
    refine x_if_eq (tgt := 30) dX5_whyNotProve_19 (by decide) (fun c19 => ?_) (fun c19 => ?_)
    · have c19 := bI_eq c19
      refine x_bipush (v := (-2)) dX5_whyNotProve_30 rfl ?_
      refine x_iret dX5_whyNotProve_32 (Or.inl rfl) rfl (Nat.le_refl _) ?_
      exact RO.mk (by simp [wProve, *])
    · have c19 := bI_ne c19
      refine x_aload_n dX5_whyNotProve_22 rfl ?_
      refine x_iload_n dX5_whyNotProve_23 rfl ?_
      refine c_VR dX5_whyNotProve_24 kX5_whyNotOpen iX5_whyNotOpen q839 (t_whyNotOpen _ H (j := j) (by omega)) H.ob rfl rfl rfl (Nat.le_of_ble_eq_true rfl) ⟨Nat.le_refl _, Nat.le_refl _⟩ ?_
      refine x_goto (tgt := 32) dX5_whyNotProve_27 (by decide) ?_
      refine x_iret dX5_whyNotProve_32 (Or.inl rfl) rfl (Nat.le_refl _) ?_
      exact RO.mk (by simp [wProve, *])
  · have c5 := bI_eq c5
    refine x_iconst (v := (-1)) dX5_whyNotProve_8 rfl ?_
    refine x_goto (tgt := 32) dX5_whyNotProve_9 (by decide) ?_
    refine x_iret dX5_whyNotProve_32 (Or.inl rfl) rfl (Nat.le_refl _) ?_
    exact RO.mk (by simp [wProve, *])

set_option maxRecDepth 100000 in
set_option maxHeartbeats 4000000 in
theorem t_whyNotDecide {st : Nat → Nat} (d : Nat) {z : Nat} {h : Nat → Option va_E} {m : Nat} {fs : List Value} {ζ : Sg} (H : ZAt h m fs ζ) (hC : COk ζ) (x : Int32) : CT st (d + 3) yX5_whyNotDecide cX5_whyNotDecide 2 (some .int) [.ref m, .int x] (z, h) 0 0 (RO (some (.int (wDecide ζ x))) (z, h)) := by
  refine CT.of (lv := [.ref m, .int x]) (by decide) (Nat.le_of_ble_eq_true rfl) rfl rfl ?_
  refine x_aload_n dX5_whyNotDecide_0 rfl ?_
  refine x_iload_n dX5_whyNotDecide_1 rfl ?_
  refine c_VR dX5_whyNotDecide_2 kX5_isClaim iX5_isClaim q835 (t_misClaim _ H hC _) H.ob rfl rfl rfl (Nat.le_of_ble_eq_true rfl) ⟨Nat.le_refl _, Nat.le_refl _⟩ ?_
  refine x_if_eq (tgt := 16) dX5_whyNotDecide_5 (by decide) (fun c5 => ?_) (fun c5 => ?_)
  · have c5 := bI_eq c5
    refine x_iconst (v := (-1)) dX5_whyNotDecide_16 rfl ?_
    refine x_iret dX5_whyNotDecide_17 (Or.inl rfl) rfl (Nat.le_refl _) ?_
    exact RO.mk (by simp [wDecide, *])
  · have c5 := bI_ne c5
    obtain ⟨j, -, hj, rfl⟩ := ax_ix_of hC.1 hC.2 (Nat.le_of_ble_eq_true rfl) c5
    have hj30 := hC.2
    have hcl := nI_cl (j := j) (by omega)
    refine x_aload_n dX5_whyNotDecide_8 rfl ?_
    refine x_iload_n dX5_whyNotDecide_9 rfl ?_
    refine c_VR dX5_whyNotDecide_10 kX5_whyNotOpen iX5_whyNotOpen q839 (t_whyNotOpen _ H (j := j) (by omega)) H.ob rfl rfl rfl (Nat.le_of_ble_eq_true rfl) ⟨Nat.le_refl _, Nat.le_refl _⟩ ?_
    refine x_goto (tgt := 17) dX5_whyNotDecide_13 (by decide) ?_
    refine x_iret dX5_whyNotDecide_17 (Or.inl rfl) rfl (Nat.le_refl _) ?_
    exact RO.mk (by simp [wDecide, *])

set_option maxRecDepth 100000 in
set_option maxHeartbeats 4000000 in
theorem t_whyNotWithdraw {st : Nat → Nat} (d : Nat) {z : Nat} {h : Nat → Option va_E} {m : Nat} {fs : List Value} {ζ : Sg} (H : ZAt h m fs ζ) (hC : COk ζ) (x : Int32) : CT st (d + 3) yX5_whyNotWithdraw cX5_whyNotWithdraw 2 (some .int) [.ref m, .int x] (z, h) 0 0 (RO (some (.int (wWithdraw ζ x))) (z, h)) := by
  refine CT.of (lv := [.ref m, .int x]) (by decide) (Nat.le_of_ble_eq_true rfl) rfl rfl ?_
  refine x_aload_n dX5_whyNotWithdraw_0 rfl ?_
  refine x_iload_n dX5_whyNotWithdraw_1 rfl ?_
  refine c_VR dX5_whyNotWithdraw_2 kX5_isClaim iX5_isClaim q835 (t_misClaim _ H hC _) H.ob rfl rfl rfl (Nat.le_of_ble_eq_true rfl) ⟨Nat.le_refl _, Nat.le_refl _⟩ ?_
  refine x_if_ne (tgt := 12) dX5_whyNotWithdraw_5 (by decide) (fun c5 => ?_) (fun c5 => ?_)
  · have c5 := bI_ne c5
    obtain ⟨j, -, hj, rfl⟩ := ax_ix_of hC.1 hC.2 (Nat.le_of_ble_eq_true rfl) c5
    have hj30 := hC.2
    have hcl := nI_cl (j := j) (by omega)
    refine x_aload_n dX5_whyNotWithdraw_12 rfl ?_
    refine x_iload_n dX5_whyNotWithdraw_13 rfl ?_
    refine c_VR dX5_whyNotWithdraw_14 kX5_stands iX5_stands q815 (t_mstands _ H (j := j) (by omega)) H.ob rfl rfl rfl (Nat.le_of_ble_eq_true rfl) ⟨Nat.le_refl _, Nat.le_refl _⟩ ?_
    refine x_if_eq (tgt := 24) dX5_whyNotWithdraw_17 (by decide) (fun c17 => ?_) (fun c17 => ?_)
    · have c17 := bI_eq c17
      refine x_bipush (v := (-5)) dX5_whyNotWithdraw_24 rfl ?_
      refine x_iret dX5_whyNotWithdraw_26 (Or.inl rfl) rfl (Nat.le_refl _) ?_
      exact RO.mk (by simp [wWithdraw, *])
    · have c17 := bI_ne c17
      refine x_iconst (v := 0) dX5_whyNotWithdraw_20 rfl ?_
      refine x_goto (tgt := 26) dX5_whyNotWithdraw_21 (by decide) ?_
      refine x_iret dX5_whyNotWithdraw_26 (Or.inl rfl) rfl (Nat.le_refl _) ?_
      exact RO.mk (by simp [wWithdraw, *])
  · have c5 := bI_eq c5
    refine x_iconst (v := (-1)) dX5_whyNotWithdraw_8 rfl ?_
    refine x_goto (tgt := 26) dX5_whyNotWithdraw_9 (by decide) ?_
    refine x_iret dX5_whyNotWithdraw_26 (Or.inl rfl) rfl (Nat.le_refl _) ?_
    exact RO.mk (by simp [wWithdraw, *])

set_option maxRecDepth 100000 in
set_option maxHeartbeats 4000000 in
theorem t_whyNotSettle {st : Nat → Nat} (d : Nat) {z : Nat} {h : Nat → Option va_E} {m : Nat} {fs : List Value} {ζ : Sg} (H : ZAt h m fs ζ) (hL : LOk ζ) (hC : COk ζ) (x : Int32) : CT st (d + 4) yX5_whyNotSettle cX5_whyNotSettle 2 (some .int) [.ref m, .int x] (z, h) 0 0 (RO (some (.int (wSettle ζ x))) (z, h)) := by
  refine CT.of (lv := [.ref m, .int x]) (by decide) (Nat.le_of_ble_eq_true rfl) rfl rfl ?_
  refine x_aload_n dX5_whyNotSettle_0 rfl ?_
  refine x_iload_n dX5_whyNotSettle_1 rfl ?_
  refine c_VR dX5_whyNotSettle_2 kX5_isLot iX5_isLot q773 (t_misLot _ H hL _) H.ob rfl rfl rfl (Nat.le_of_ble_eq_true rfl) ⟨Nat.le_refl _, Nat.le_refl _⟩ ?_
  refine x_if_ne (tgt := 12) dX5_whyNotSettle_5 (by decide) (fun c5 => ?_) (fun c5 => ?_)
  · have c5 := bI_ne c5
    obtain ⟨j, -, hj, rfl⟩ := ax_ix_of hL.1 hL.2 (Nat.le_of_ble_eq_true rfl) c5
    have hj12 := hL.2
    have hcl := nI_cl (j := j) (by omega)
    refine x_aload_n dX5_whyNotSettle_12 rfl ?_
    refine x_iload_n dX5_whyNotSettle_13 rfl ?_
    refine c_VR dX5_whyNotSettle_14 kX5_isEnded iX5_isEnded q803 (t_misEnded _ H (j := j) (by omega)) H.ob rfl rfl rfl (Nat.le_of_ble_eq_true rfl) ⟨Nat.le_refl _, Nat.le_refl _⟩ ?_
    refine x_if_ne (tgt := 38) dX5_whyNotSettle_17 (by decide) (fun c17 => ?_) (fun c17 => ?_)
    · have c17 := bI_ne c17
      refine x_bipush (v := (-5)) dX5_whyNotSettle_38 rfl ?_
      refine x_goto (tgt := 44) dX5_whyNotSettle_40 (by decide) ?_
      refine x_iret dX5_whyNotSettle_44 (Or.inl rfl) rfl (Nat.le_refl _) ?_
      exact RO.mk (by simp [wSettle, cOpenTo, cUpTo, *])
    · have c17 := bI_eq c17
      refine x_aload_n dX5_whyNotSettle_20 rfl ?_
      refine x_iload_n dX5_whyNotSettle_21 rfl ?_
      refine x_iconst (v := 0) dX5_whyNotSettle_22 rfl ?_
      refine c_VR dX5_whyNotSettle_23 kX5_claimsTo iX5_claimsTo q875 (t_claimsTo _ H hC _ _) H.ob rfl rfl rfl (Nat.le_of_ble_eq_true rfl) ⟨Nat.le_refl _, Nat.le_refl _⟩ ?_
      refine x_if_ne (tgt := 38) dX5_whyNotSettle_26 (by decide) (fun c26 => ?_) (fun c26 => ?_)
      · refine x_bipush (v := (-5)) dX5_whyNotSettle_38 rfl ?_
        refine x_goto (tgt := 44) dX5_whyNotSettle_40 (by decide) ?_
        refine x_iret dX5_whyNotSettle_44 (Or.inl rfl) rfl (Nat.le_refl _) ?_
        exact RO.mk (by simp [wSettle, cOpenTo, cUpTo, *])
      · refine x_aload_n dX5_whyNotSettle_29 rfl ?_
        refine x_iload_n dX5_whyNotSettle_30 rfl ?_
        refine x_iconst (v := 1) dX5_whyNotSettle_31 rfl ?_
        refine c_VR dX5_whyNotSettle_32 kX5_claimsTo iX5_claimsTo q875 (t_claimsTo _ H hC _ _) H.ob rfl rfl rfl (Nat.le_of_ble_eq_true rfl) ⟨Nat.le_refl _, Nat.le_refl _⟩ ?_
        refine x_if_ne (tgt := 43) dX5_whyNotSettle_35 (by decide) (fun c35 => ?_) (fun c35 => ?_)
        · refine x_iconst (v := 0) dX5_whyNotSettle_43 rfl ?_
          refine x_iret dX5_whyNotSettle_44 (Or.inl rfl) rfl (Nat.le_refl _) ?_
          exact RO.mk (by simp [wSettle, cOpenTo, cUpTo, *])
        · refine x_bipush (v := (-5)) dX5_whyNotSettle_38 rfl ?_
          refine x_goto (tgt := 44) dX5_whyNotSettle_40 (by decide) ?_
          refine x_iret dX5_whyNotSettle_44 (Or.inl rfl) rfl (Nat.le_refl _) ?_
          exact RO.mk (by simp [wSettle, cOpenTo, cUpTo, *])
  · have c5 := bI_eq c5
    refine x_iconst (v := (-1)) dX5_whyNotSettle_8 rfl ?_
    refine x_goto (tgt := 44) dX5_whyNotSettle_9 (by decide) ?_
    refine x_iret dX5_whyNotSettle_44 (Or.inl rfl) rfl (Nat.le_refl _) ?_
    exact RO.mk (by simp [wSettle, cOpenTo, cUpTo, *])

set_option maxRecDepth 100000 in
set_option maxHeartbeats 4000000 in
theorem t_whyNotPass {st : Nat → Nat} (d : Nat) {z : Nat} {h : Nat → Option va_E} {m : Nat} {fs : List Value} {ζ : Sg} (H : ZAt h m fs ζ) (x : Int32) : CT st (d + 2) yX5_whyNotPass cX5_whyNotPass 2 (some .int) [.ref m, .int x] (z, h) 0 0 (RO (some (.int (wPass ζ x))) (z, h)) := by
  refine CT.of (lv := [.ref m, .int x]) (by decide) (Nat.le_of_ble_eq_true rfl) rfl rfl ?_
  refine x_iload_n dX5_whyNotPass_0 rfl ?_
  refine x_iconst (v := 1) dX5_whyNotPass_1 rfl ?_
  refine x_sipush (v := 400) dX5_whyNotPass_2 rfl ?_
  refine c_SR dX5_whyNotPass_5 kX5_in q732 q731 (t_in _ _ _ _) rfl rfl (Nat.le_of_ble_eq_true rfl) ⟨Nat.le_refl _, Nat.le_refl _⟩ ?_
  refine x_if_ne (tgt := 16) dX5_whyNotPass_8 (by decide) (fun c8 => ?_) (fun c8 => ?_)
  · have c8 := bI_ne c8
    refine x_aload_n dX5_whyNotPass_16 rfl ?_
    refine x_get dX5_whyNotPass_17 fX5_7 H.ob rfl ?_
    refine x_iconst (v := 5) dX5_whyNotPass_20 rfl ?_
    refine z_ald (13) (4) dX5_whyNotPass_21 H (show zAt 13 4 5 from ⟨by decide, rfl⟩) (show ¬ (5 : Int32) < 0 ∧ Int32.toNatClampNeg 5 = 5 by decide) ?_
    refine x_iload_n dX5_whyNotPass_22 rfl ?_
    refine x_iadd dX5_whyNotPass_23 ?_
    refine x_sipush (v := 9999) dX5_whyNotPass_24 rfl ?_
    refine x_icmp_le (tgt := 35) dX5_whyNotPass_27 (by decide) (fun c27 => ?_) (fun c27 => ?_)
    · refine x_iconst (v := 0) dX5_whyNotPass_35 rfl ?_
      refine x_iret dX5_whyNotPass_36 (Or.inl rfl) rfl (Nat.le_refl _) ?_
      exact RO.mk (by simp [wPass, *])
    · refine x_bipush (v := (-5)) dX5_whyNotPass_30 rfl ?_
      refine x_goto (tgt := 36) dX5_whyNotPass_32 (by decide) ?_
      refine x_iret dX5_whyNotPass_36 (Or.inl rfl) rfl (Nat.le_refl _) ?_
      exact RO.mk (by simp [wPass, *])
  · have c8 := bI_eq c8
    refine x_bipush (v := (-2)) dX5_whyNotPass_11 rfl ?_
    refine x_goto (tgt := 36) dX5_whyNotPass_13 (by decide) ?_
    refine x_iret dX5_whyNotPass_36 (Or.inl rfl) rfl (Nat.le_refl _) ?_
    exact RO.mk (by simp [wPass, *])
