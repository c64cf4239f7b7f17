/-! HELPERS OF THE LAW: act, a lot is settled -/
def csV (σ : Sg) (j t : Nat) : Int32 := if ¬ nI t = 2 ∧ ¬ nI t = 4 ∧ ¬ cNearLine σ (cUpTo σ (nI j)) = -6 then 1 else 0
theorem csV_in {σ : Sg} {j t : Nat} : ¬ csV σ j t = 0 ↔ ¬ nI t = 2 ∧ ¬ nI t = 4 ∧ ¬ cNearLine σ (cUpTo σ (nI j)) = -6 := by
  unfold csV
  by_cases q : ¬ nI t = 2 ∧ ¬ nI t = 4 ∧ ¬ cNearLine σ (cUpTo σ (nI j)) = -6
  · rw [if_pos q]
    exact ⟨fun _ => q, fun _ => by decide⟩
  · rw [if_neg q]
    exact ⟨fun e => absurd rfl e, fun e => absurd e q⟩
theorem csV_p {σ : Sg} {j t : Nat} : (nI t = 2 → (0 : Int32) = csV σ j t) ∧ (nI t = 4 → (0 : Int32) = csV σ j t) ∧ (cNearLine σ (cUpTo σ (nI j)) = -6 → (0 : Int32) = csV σ j t) ∧ (¬ nI t = 2 → ¬ nI t = 4 → ¬ cNearLine σ (cUpTo σ (nI j)) = -6 → (1 : Int32) = csV σ j t) := by
  unfold csV
  exact ⟨fun h => by rw [if_neg (fun e => e.1 h)], fun h => by rw [if_neg (fun e => e.2.1 h)], fun h => by rw [if_neg (fun e => e.2.2 h)], fun h h2 h3 => by rw [if_pos ⟨h, h2, h3⟩]⟩
theorem cv_s (σ : Sg) (A v : Int32) (k : Nat) : cvS σ A k (lp (cvS σ A) 0 k v) = lp (cvS σ A) 0 (k + 1) v := by
  rw [lp_last, Nat.zero_add]
theorem cvS_in (σ : Sg) (A : Int32) (k : Nat) (a : Int32) : (a = 0 → (0 : Int32) = cvS σ A k a) ∧ (¬ a = 0 → A >>> (nI k &&& 31) &&& 1 = 0 → (1 : Int32) = cvS σ A k a) ∧ (¬ a = 0 → ¬ A >>> (nI k &&& 31) &&& 1 = 0 → ¬ σ 9 k = 1 → (0 : Int32) = cvS σ A k a) ∧ (¬ a = 0 → ¬ A >>> (nI k &&& 31) &&& 1 = 0 → σ 9 k = 1 → (1 : Int32) = cvS σ A k a) := by
  unfold cvS
  exact ⟨fun h => by rw [if_pos h], fun h h2 => by rw [if_neg h, if_pos h2], fun h h2 h3 => by rw [if_neg h, if_neg h2, if_neg h3], fun h h2 h3 => by rw [if_neg h, if_neg h2, if_pos h3]⟩
theorem sc_in {σ : Sg} (h : QI σ) {j t v : Nat} (hj : j < nLo σ) (et : σ 2 j = nI t) (ev : sCoins σ j = nI v) : (nI t = 3 → nI (vN σ j) - nI (vN σ j) * σ 0 4 / 100 = nI v) ∧ (¬ nI t = 3 → nI (vN σ j) - 0 = nI v) := by
  have e1 := (h.1.1.val hj).2.2
  unfold sCoins at ev
  rw [et, e1] at ev
  constructor
  · intro q
    rw [if_pos q] at ev
    exact ev
  · intro q
    rw [if_neg q] at ev
    rw [Int32.sub_zero]
    exact ev

set_option maxRecDepth 100000 in
set_option maxHeartbeats 8000000 in
theorem A_settle2 {st : Nat → Nat} (d : Nat) {z : Nat} {h : Nat → Option va_E} {x : Nat} {σ τ : Sg} {n : Nat} {sl : Nat → Sg} {sv : Nat → Int32} (hX : XS h x σ n τ sl sv) {X : Int32} {wh y j c : Nat} (hy : y < 2 ^ 31) {t : Nat} (hj : j < nLo σ) (ht : t < 5) (et : σ 2 j = nI t) {v10 : Int32} (hcv : ¬ v10 = 0 ↔ (sOver σ j = false ∧ cOpenTo σ (nI j) = 0 ∧ cUpTo σ (nI j) ≠ 0))  : Ev st (d + 8) yL_act cL_act 16 (some .int) (z, h) 0 0 (AQ z x σ n τ sl sv) 888 [.ref x, .int X, .int (nI wh), .int (nI y), .int (nI (nLo σ)), .int (nI (nCl σ)), .int (nI j), .int (nI c), .int (nI t), .int (cNearLine σ (cUpTo σ (nI j))), .int v10, .int (cStandTo σ (nI j)), .int (nI (nCl σ)), .null, .null, .null] [] (z, h) 0 0 := by
  have hQ := hX.q
  have l12 := hQ.2.1.lok.2
  have l30 := hQ.2.1.cok.2
  have ds := do_settle hQ hj
  refine x_aload_n dL_act_888 rfl ?_
  refine x_bipush (v := 11) dL_act_889 rfl ?_
  refine l_cn (v := nI (sN (bN σ) (nCl σ))) dL_act_891 q201 hX (Nat.le_of_ble_eq_true rfl) ⟨Nat.le_refl _, Nat.le_refl _⟩ (fun _ _ => xn_11 hX.q _ _) ?_
  refine e_isd (b := nI (sN (bN σ) (nCl σ))) (lv2 := [.ref x, .int X, .int (nI wh), .int (nI y), .int (nI (nLo σ)), .int (nI (nCl σ)), .int (nI j), .int (nI c), .int (nI t), .int (cNearLine σ (cUpTo σ (nI j))), .int v10, .int (cStandTo σ (nI j)), .int (nI (sN (bN σ) (nCl σ))), .null, .null, .null]) dL_act_894 (Nat.le_of_ble_eq_true rfl) rfl rfl rfl ?_
  refine x_aload_n dL_act_896 rfl ?_
  refine x_bipush (v := 10) dL_act_897 rfl ?_
  refine l_cn (v := nI (kN σ)) dL_act_899 q201 hX (Nat.le_of_ble_eq_true rfl) ⟨Nat.le_refl _, Nat.le_refl _⟩ (fun _ _ => xn_10 hX.q _ _) ?_
  refine e_isd (b := nI (kN σ)) (lv2 := [.ref x, .int X, .int (nI wh), .int (nI y), .int (nI (nLo σ)), .int (nI (nCl σ)), .int (nI j), .int (nI c), .int (nI t), .int (cNearLine σ (cUpTo σ (nI j))), .int v10, .int (cStandTo σ (nI j)), .int (nI (sN (bN σ) (nCl σ))), .int (nI (kN σ)), .null, .null]) dL_act_902 (Nat.le_of_ble_eq_true rfl) rfl rfl rfl ?_
  by_cases q10 : ¬ v10 = 0
  · obtain ⟨v, m, τ1, he, hq1, m1, m2, hv, ev, ec, el, hB, hk, h2, h4, r1, r0⟩ := ds.2 (hcv.mp q10)
    have hm32 := cnt_le (gb (cStandTo σ (nI j))) 32 0
    have hj1 : j < nLo τ1 := by omega
    have sc := sc_in hQ hj et ev
    rw [et] at hk h2
    obtain ⟨F, hF⟩ : ∃ F, F = (if nI t = 3 then v else 0) := ⟨_, rfl⟩
    rw [← hF] at hk
    obtain ⟨G, hG⟩ : ∃ G, G = (if nI t = 3 then (4 : Int32) else 2) := ⟨_, rfl⟩
    rw [← hG] at h2
    have hv0 : τ1 1 j = nI (vN σ j) := (congrFun r1 j).trans (hQ.1.1.val hj).2.2
    refine x_aload_n dL_act_904 rfl ?_
    refine x_iload dL_act_905 rfl ?_
    refine l_xq dL_act_907 kX4_settle iX4_settle q518 hX (ct_do hX (fun _ _ _ a1 a2 a3 => x_settle (d + 1) a1 a2 a3 _) he (nng (by omega)) hq1) rfl rfl rfl (Nat.le_of_ble_eq_true rfl) ⟨Nat.le_refl _, Nat.le_refl _⟩ (fun h1 hX1 => ?_)
    refine e_isd (b := nI m) (lv2 := [.ref x, .int X, .int (nI wh), .int (nI y), .int (nI (nLo σ)), .int (nI (nCl σ)), .int (nI j), .int (nI c), .int (nI t), .int (cNearLine σ (cUpTo σ (nI j))), .int v10, .int (cStandTo σ (nI j)), .int (nI (sN (bN σ) (nCl σ))), .int (nI (kN σ)), .int (nI m), .null]) dL_act_910 (Nat.le_of_ble_eq_true rfl) rfl rfl rfl ?_
    refine x_iload dL_act_912 rfl ?_
    refine x_if_ne (tgt := 931) dL_act_914 (by decide) (fun _ => ?_) (fun c => absurd c q10)
    refine x_aload_n dL_act_931 rfl ?_
    refine x_iload dL_act_932 rfl ?_
    refine x_iconst (v := 0) dL_act_934 rfl ?_
    refine l_rd (v := nI (vN σ j)) dL_act_935 kX4_of iX4_of q309 hX1 (fun _ _ _ a1 a2 a3 => x_of _ a1 a2 a3 _ _) rfl rfl rfl (Nat.le_of_ble_eq_true rfl) ⟨Nat.le_refl _, Nat.le_refl _⟩ ((of_n hq1.2.1.lok hj1).1.trans hv0) ?_
    have j968 : Ev st (d + 8) yL_act cL_act 16 (some .int) (z, h) 0 0 (AQ z x σ n τ sl sv) 968 [.ref x, .int X, .int (nI wh), .int (nI y), .int (nI (nLo σ)), .int (nI (nCl σ)), .int (nI j), .int (nI c), .int (nI t), .int (cNearLine σ (cUpTo σ (nI j))), .int v10, .int (cStandTo σ (nI j)), .int (nI (sN (bN σ) (nCl σ))), .int (nI (kN σ)), .int (nI m), .int (nI v)] [] (z, h1) 0 0 := by
      refine x_iload dL_act_968 rfl ?_
      refine x_if_le (tgt := 1056) dL_act_970 (by decide) (fun c => absurd c (fun e => by have := (nI_le0' (by omega)).mp e; omega)) (fun _ => ?_)
      refine x_iload dL_act_973 rfl ?_
      refine x_iload dL_act_975 rfl ?_
      refine c_SR dL_act_977 kL_size q638 q637 (t_size (d + 6) (s := (cStandTo σ (nI j)))) rfl rfl (Nat.le_of_ble_eq_true rfl) ⟨Nat.le_refl _, Nat.le_refl _⟩ ?_
      refine x_icmp_gt (tgt := 1056) dL_act_980 (by decide) (fun c => absurd c (by rw [sBit_cnt, nI_ltI (by omega) (by omega)]; omega)) (fun _ => ?_)
      refine x_aload_n dL_act_983 rfl ?_
      refine x_bipush (v := 11) dL_act_984 rfl ?_
      refine l_cn (v := nI (sN (bN τ1) (nCl τ1))) dL_act_986 q201 hX1 (Nat.le_of_ble_eq_true rfl) ⟨Nat.le_refl _, Nat.le_refl _⟩ (fun _ _ => xn_11 hX1.q _ _) ?_
      refine x_iload dL_act_989 rfl ?_
      refine x_iload dL_act_991 rfl ?_
      refine x_iadd dL_act_993 ?_
      refine x_icmp_ne (tgt := 1056) dL_act_994 (by decide) (fun c => absurd (by rw [ec, hB, nI_add]) c) (fun _ => ?_)
      refine x_aload_n dL_act_997 rfl ?_
      refine x_bipush (v := 10) dL_act_998 rfl ?_
      refine l_cn (v := nI (kN τ1)) dL_act_1000 q201 hX1 (Nat.le_of_ble_eq_true rfl) ⟨Nat.le_refl _, Nat.le_refl _⟩ (fun _ _ => xn_10 hX1.q _ _) ?_
      refine x_iload dL_act_1003 rfl ?_
      have j1017 : Ev st (d + 8) yL_act cL_act 16 (some .int) (z, h) 0 0 (AQ z x σ n τ sl sv) 1017 [.ref x, .int X, .int (nI wh), .int (nI y), .int (nI (nLo σ)), .int (nI (nCl σ)), .int (nI j), .int (nI c), .int (nI t), .int (cNearLine σ (cUpTo σ (nI j))), .int v10, .int (cStandTo σ (nI j)), .int (nI (sN (bN σ) (nCl σ))), .int (nI (kN σ)), .int (nI m), .int (nI v)] [.int (nI F), .int (nI (kN σ)), .int (nI (kN τ1))] (z, h1) 0 0 := by
        refine x_isub dL_act_1017 ?_
        refine x_icmp_ne (tgt := 1056) dL_act_1018 (by decide) (fun c => absurd (by rw [nI_subN (by omega), show kN σ - F = kN τ1 by omega]) c) (fun _ => ?_)
        refine x_aload_n dL_act_1021 rfl ?_
        refine x_iload dL_act_1022 rfl ?_
        refine x_iconst (v := 1) dL_act_1024 rfl ?_
        refine l_rd (v := G) dL_act_1025 kX4_of iX4_of q309 hX1 (fun _ _ _ a1 a2 a3 => x_of _ a1 a2 a3 _ _) rfl rfl rfl (Nat.le_of_ble_eq_true rfl) ⟨Nat.le_refl _, Nat.le_refl _⟩ ((of_n hq1.2.1.lok hj1).2.1.trans h2) ?_
        have j1039 : Ev st (d + 8) yL_act cL_act 16 (some .int) (z, h) 0 0 (AQ z x σ n τ sl sv) 1039 [.ref x, .int X, .int (nI wh), .int (nI y), .int (nI (nLo σ)), .int (nI (nCl σ)), .int (nI j), .int (nI c), .int (nI t), .int (cNearLine σ (cUpTo σ (nI j))), .int v10, .int (cStandTo σ (nI j)), .int (nI (sN (bN σ) (nCl σ))), .int (nI (kN σ)), .int (nI m), .int (nI v)] [.int G, .int G] (z, h1) 0 0 := by
          refine x_icmp_ne (tgt := 1056) dL_act_1039 (by decide) (fun c => absurd rfl c) (fun _ => ?_)
          refine x_aload_n dL_act_1042 rfl ?_
          refine x_iload dL_act_1043 rfl ?_
          refine x_iconst (v := 4) dL_act_1045 rfl ?_
          refine l_rd (v := 0) dL_act_1046 kX4_of iX4_of q309 hX1 (fun _ _ _ a1 a2 a3 => x_of _ a1 a2 a3 _ _) rfl rfl rfl (Nat.le_of_ble_eq_true rfl) ⟨Nat.le_refl _, Nat.le_refl _⟩ ((of_n hq1.2.1.lok hj1).2.2.2.2.1.trans h4) ?_
          refine x_if_ne (tgt := 1056) dL_act_1049 (by decide) (fun c => absurd (by decide) c) (fun _ => ?_)
          refine x_iconst (v := 1) dL_act_1052 rfl ?_
          refine x_goto (tgt := 1058) dL_act_1053 (by decide) ?_
          refine x_iret dL_act_1058 (Or.inl rfl) rfl (Nat.le_refl _) ?_
          exact ⟨_, rfl, Or.inr ⟨rfl, _, hX1⟩⟩
        refine x_iload dL_act_1028 rfl ?_
        refine x_iconst (v := 3) dL_act_1030 rfl ?_
        refine x_icmp_ne (tgt := 1038) dL_act_1031 (by decide) (fun c1031 => ?_) (fun c1031 => ?_)
        · refine x_iconst (v := 2) dL_act_1038 rfl ?_
          exact e_top (b := G) (by rw [hG]; first | rw [if_neg c1031] | rw [if_pos c1031]) j1039
        · refine x_iconst (v := 4) dL_act_1034 rfl ?_
          refine x_goto (tgt := 1039) dL_act_1035 (by decide) ?_
          exact e_top (b := G) (by rw [hG]; first | rw [if_neg c1031] | rw [if_pos c1031]) j1039
      refine x_iload dL_act_1005 rfl ?_
      refine x_iconst (v := 3) dL_act_1007 rfl ?_
      refine x_icmp_ne (tgt := 1016) dL_act_1008 (by decide) (fun c1008 => ?_) (fun c1008 => ?_)
      · refine x_iconst (v := 0) dL_act_1016 rfl ?_
        exact e_top (b := nI F) (by rw [hF]; first | (rw [if_neg c1008]; rfl) | rw [if_pos c1008]) j1017
      · refine x_iload dL_act_1011 rfl ?_
        refine x_goto (tgt := 1017) dL_act_1013 (by decide) ?_
        exact e_top (b := nI F) (by rw [hF]; first | (rw [if_neg c1008]; rfl) | rw [if_pos c1008]) j1017
    refine x_iload dL_act_938 rfl ?_
    refine x_iconst (v := 3) dL_act_940 rfl ?_
    refine x_icmp_ne (tgt := 964) dL_act_941 (by decide) (fun c941 => ?_) (fun c941 => ?_)
    · refine x_iconst (v := 0) dL_act_964 rfl ?_
      refine x_isub dL_act_965 ?_
      refine e_isd (b := nI v) (lv2 := [.ref x, .int X, .int (nI wh), .int (nI y), .int (nI (nLo σ)), .int (nI (nCl σ)), .int (nI j), .int (nI c), .int (nI t), .int (cNearLine σ (cUpTo σ (nI j))), .int v10, .int (cStandTo σ (nI j)), .int (nI (sN (bN σ) (nCl σ))), .int (nI (kN σ)), .int (nI m), .int (nI v)]) dL_act_966 (Nat.le_of_ble_eq_true rfl) rfl (by first | exact sc.1 c941 | exact sc.2 c941) rfl ?_
      exact j968
    · refine x_aload_n dL_act_944 rfl ?_
      refine x_iload dL_act_945 rfl ?_
      refine x_iconst (v := 0) dL_act_947 rfl ?_
      refine l_rd (v := nI (vN σ j)) dL_act_948 kX4_of iX4_of q309 hX1 (fun _ _ _ a1 a2 a3 => x_of _ a1 a2 a3 _ _) rfl rfl rfl (Nat.le_of_ble_eq_true rfl) ⟨Nat.le_refl _, Nat.le_refl _⟩ ((of_n hq1.2.1.lok hj1).1.trans hv0) ?_
      refine x_aload_n dL_act_951 rfl ?_
      refine x_bipush (v := 18) dL_act_952 rfl ?_
      refine l_cn (v := σ 0 4) dL_act_954 q201 hX1 (Nat.le_of_ble_eq_true rfl) ⟨Nat.le_refl _, Nat.le_refl _⟩ (fun _ _ => (xn_18 _ _).trans (congrFun r0 4)) ?_
      refine x_imul dL_act_957 ?_
      refine x_bipush (v := 100) dL_act_958 rfl ?_
      refine x_idiv dL_act_960 (by decide) ?_
      refine x_goto (tgt := 965) dL_act_961 (by decide) ?_
      refine x_isub dL_act_965 ?_
      refine e_isd (b := nI v) (lv2 := [.ref x, .int X, .int (nI wh), .int (nI y), .int (nI (nLo σ)), .int (nI (nCl σ)), .int (nI j), .int (nI c), .int (nI t), .int (cNearLine σ (cUpTo σ (nI j))), .int v10, .int (cStandTo σ (nI j)), .int (nI (sN (bN σ) (nCl σ))), .int (nI (kN σ)), .int (nI m), .int (nI v)]) dL_act_966 (Nat.le_of_ble_eq_true rfl) rfl (by first | exact sc.1 c941 | exact sc.2 c941) rfl ?_
      exact j968
  · refine x_aload_n dL_act_904 rfl ?_
    refine x_iload dL_act_905 rfl ?_
    refine l_xq dL_act_907 kX4_settle iX4_settle q518 hX (ct_no hX (fun _ _ _ a1 a2 a3 => x_settle (d + 1) a1 a2 a3 _) (ds.1 (fun e => q10 (hcv.mpr e))) (by decide)) rfl rfl rfl (Nat.le_of_ble_eq_true rfl) ⟨Nat.le_refl _, Nat.le_refl _⟩ (fun h2 hX2 => ?_)
    refine e_isd (b := (-5)) (lv2 := [.ref x, .int X, .int (nI wh), .int (nI y), .int (nI (nLo σ)), .int (nI (nCl σ)), .int (nI j), .int (nI c), .int (nI t), .int (cNearLine σ (cUpTo σ (nI j))), .int v10, .int (cStandTo σ (nI j)), .int (nI (sN (bN σ) (nCl σ))), .int (nI (kN σ)), .int (-5), .null]) dL_act_910 (Nat.le_of_ble_eq_true rfl) rfl rfl rfl ?_
    refine x_iload dL_act_912 rfl ?_
    refine x_if_ne (tgt := 931) dL_act_914 (by decide) (fun c => absurd (Classical.byContradiction q10) c) (fun _ => ?_)
    refine x_iload dL_act_917 rfl ?_
    refine x_bipush (v := (-5)) dL_act_919 rfl ?_
    refine x_icmp_ne (tgt := 928) dL_act_921 (by decide) (fun c => absurd (by decide) c) (fun _ => ?_)
    refine x_iconst (v := 0) dL_act_924 rfl ?_
    refine x_goto (tgt := 930) dL_act_925 (by decide) ?_
    refine x_iret dL_act_930 (Or.inl rfl) rfl (Nat.le_refl _) ?_
    exact ⟨_, rfl, Or.inl ⟨rfl, hX2⟩⟩

set_option maxRecDepth 100000 in
set_option maxHeartbeats 8000000 in
theorem L_cv {st : Nat → Nat} (d : Nat) {z : Nat} {h : Nat → Option va_E} {x : Nat} {σ τ : Sg} {n : Nat} {sl : Nat → Sg} {sv : Nat → Int32} (hX : XS h x σ n τ sl sv) {X : Int32} {wh y j c t : Nat} {b9 A v : Int32} (K : Ev st (d + 8) yL_act cL_act 16 (some .int) (z, h) 0 0 (AQ z x σ n τ sl sv) 888 [.ref x, .int X, .int (nI wh), .int (nI y), .int (nI (nLo σ)), .int (nI (nCl σ)), .int (nI j), .int (nI c), .int (nI t), .int b9, .int (lp (cvS σ A) 0 (nCl σ) v), .int A, .int (nI (nCl σ)), .null, .null, .null] [] (z, h) 0 0) : ∀ (m k : Nat), k + m = nCl σ → Ev st (d + 8) yL_act cL_act 16 (some .int) (z, h) 0 0 (AQ z x σ n τ sl sv) 842 [.ref x, .int X, .int (nI wh), .int (nI y), .int (nI (nLo σ)), .int (nI (nCl σ)), .int (nI j), .int (nI c), .int (nI t), .int b9, .int (lp (cvS σ A) 0 k v), .int A, .int (nI k), .null, .null, .null] [] (z, h) 0 0 := by
  have l30 := hX.q.2.1.cok.2
  intro m
  induction m with
  | zero =>
    intro k hk
    obtain rfl : k = nCl σ := by omega
    refine x_iload dL_act_842 rfl ?_
    refine x_iload dL_act_844 rfl ?_
    refine x_icmp_ge (tgt := 888) dL_act_846 (by decide) (fun _ => ?_) (fun c => absurd (Int32.le_refl _) c)
    exact K
  | succ m ih =>
    intro k hk
    have hk2 : k < nCl σ := by omega
    refine x_iload dL_act_842 rfl ?_
    refine x_iload dL_act_844 rfl ?_
    refine x_icmp_ge (tgt := 888) dL_act_846 (by decide) (fun c => absurd c (fun e => by have := (nI_leI (by omega) (by omega)).mp e; omega)) (fun _ => ?_)
    have j880 : Ev st (d + 8) yL_act cL_act 16 (some .int) (z, h) 0 0 (AQ z x σ n τ sl sv) 880 [.ref x, .int X, .int (nI wh), .int (nI y), .int (nI (nLo σ)), .int (nI (nCl σ)), .int (nI j), .int (nI c), .int (nI t), .int b9, .int (lp (cvS σ A) 0 k v), .int A, .int (nI k), .null, .null, .null] [.int (cvS σ A k (lp (cvS σ A) 0 k v))] (z, h) 0 0 := by
      refine e_isd (b := lp (cvS σ A) 0 (k + 1) v) (lv2 := [.ref x, .int X, .int (nI wh), .int (nI y), .int (nI (nLo σ)), .int (nI (nCl σ)), .int (nI j), .int (nI c), .int (nI t), .int b9, .int (lp (cvS σ A) 0 (k + 1) v), .int A, .int (nI k), .null, .null, .null]) dL_act_880 (Nat.le_of_ble_eq_true rfl) rfl (cv_s _ _ _ _) rfl ?_
      refine e_incd (b := nI (k + 1)) (lv2 := [.ref x, .int X, .int (nI wh), .int (nI y), .int (nI (nLo σ)), .int (nI (nCl σ)), .int (nI j), .int (nI c), .int (nI t), .int b9, .int (lp (cvS σ A) 0 (k + 1) v), .int A, .int (nI (k + 1)), .null, .null, .null]) dL_act_882 rfl (nI_1 _) rfl rfl ?_
      refine x_goto (tgt := 842) dL_act_885 (by decide) ?_
      exact ih (k + 1) (by omega)
    refine x_iload dL_act_849 rfl ?_
    refine x_if_eq (tgt := 879) dL_act_851 (by decide) (fun c851 => ?_) (fun c851 => ?_)
    · refine x_iconst (v := 0) dL_act_879 rfl ?_
      exact e_top (b := cvS σ A k (lp (cvS σ A) 0 k v)) (by first | exact (cvS_in _ _ _ _).1 c851 | exact (cvS_in _ _ _ _).2.1 c851 c861 | exact (cvS_in _ _ _ _).2.2.1 c851 c861 c872 | exact (cvS_in _ _ _ _).2.2.2 c851 c861 c872) j880
    · refine x_iload dL_act_854 rfl ?_
      refine x_iload dL_act_856 rfl ?_
      refine x_ishr dL_act_858 ?_
      refine x_iconst (v := 1) dL_act_859 rfl ?_
      refine x_iand dL_act_860 ?_
      refine x_if_eq (tgt := 875) dL_act_861 (by decide) (fun c861 => ?_) (fun c861 => ?_)
      · refine x_iconst (v := 1) dL_act_875 rfl ?_
        refine x_goto (tgt := 880) dL_act_876 (by decide) ?_
        exact e_top (b := cvS σ A k (lp (cvS σ A) 0 k v)) (by first | exact (cvS_in _ _ _ _).1 c851 | exact (cvS_in _ _ _ _).2.1 c851 c861 | exact (cvS_in _ _ _ _).2.2.1 c851 c861 c872 | exact (cvS_in _ _ _ _).2.2.2 c851 c861 c872) j880
      · refine x_aload_n dL_act_864 rfl ?_
        refine x_iload dL_act_865 rfl ?_
        refine x_iconst (v := 4) dL_act_867 rfl ?_
        refine l_rd (v := σ 9 k) dL_act_868 kX4_ofClaim iX4_ofClaim q364 hX (fun _ _ _ a1 a2 a3 => x_ofClaim _ a1 a2 a3 _ _) rfl rfl rfl (Nat.le_of_ble_eq_true rfl) ⟨Nat.le_refl _, Nat.le_refl _⟩ ((ofC_n hX.q.2.1.cok hk2).2.2.2.2.1) ?_
        refine x_iconst (v := 1) dL_act_871 rfl ?_
        refine x_icmp_ne (tgt := 879) dL_act_872 (by decide) (fun c872 => ?_) (fun c872 => ?_)
        · refine x_iconst (v := 0) dL_act_879 rfl ?_
          exact e_top (b := cvS σ A k (lp (cvS σ A) 0 k v)) (by first | exact (cvS_in _ _ _ _).1 c851 | exact (cvS_in _ _ _ _).2.1 c851 c861 | exact (cvS_in _ _ _ _).2.2.1 c851 c861 c872 | exact (cvS_in _ _ _ _).2.2.2 c851 c861 c872) j880
        · refine x_iconst (v := 1) dL_act_875 rfl ?_
          refine x_goto (tgt := 880) dL_act_876 (by decide) ?_
          exact e_top (b := cvS σ A k (lp (cvS σ A) 0 k v)) (by first | exact (cvS_in _ _ _ _).1 c851 | exact (cvS_in _ _ _ _).2.1 c851 c861 | exact (cvS_in _ _ _ _).2.2.1 c851 c861 c872 | exact (cvS_in _ _ _ _).2.2.2 c851 c861 c872) j880

set_option maxRecDepth 100000 in
set_option maxHeartbeats 8000000 in
theorem A_settle {st : Nat → Nat} (d : Nat) {z : Nat} {h : Nat → Option va_E} {x : Nat} {σ τ : Sg} {n : Nat} {sl : Nat → Sg} {sv : Nat → Int32} (hX : XS h x σ n τ sl sv) {X : Int32} {wh y j c : Nat} (hy : y < 2 ^ 31) (hj : j < nLo σ)  : Ev st (d + 8) yL_act cL_act 16 (some .int) (z, h) 0 0 (AQ z x σ n τ sl sv) 785 [.ref x, .int X, .int (nI wh), .int (nI y), .int (nI (nLo σ)), .int (nI (nCl σ)), .int (nI j), .int (nI c), .null, .null, .null, .null, .null, .null, .null, .null] [] (z, h) 0 0 := by
  have hQ := hX.q
  have l12 := hQ.2.1.lok.2
  have l30 := hQ.2.1.cok.2
  obtain ⟨t, ht, et⟩ := (hQ.1.1 j hj).2.1
  have cs := can_settle hQ hj ht et
  refine x_aload_n dL_act_785 rfl ?_
  refine x_iload dL_act_786 rfl ?_
  refine x_iconst (v := 1) dL_act_788 rfl ?_
  refine l_rd (v := nI t) dL_act_789 kX4_of iX4_of q309 hX (fun _ _ _ a1 a2 a3 => x_of _ a1 a2 a3 _ _) rfl rfl rfl (Nat.le_of_ble_eq_true rfl) ⟨Nat.le_refl _, Nat.le_refl _⟩ ((of_n hQ.2.1.lok hj).2.1.trans et) ?_
  refine e_isd (b := nI t) (lv2 := [.ref x, .int X, .int (nI wh), .int (nI y), .int (nI (nLo σ)), .int (nI (nCl σ)), .int (nI j), .int (nI c), .int (nI t), .null, .null, .null, .null, .null, .null, .null]) dL_act_792 (Nat.le_of_ble_eq_true rfl) rfl rfl rfl ?_
  refine x_aload_n dL_act_794 rfl ?_
  refine x_iload dL_act_795 rfl ?_
  refine x_bipush (v := 6) dL_act_797 rfl ?_
  refine l_rd (v := (cNearLine σ (cUpTo σ (nI j)))) dL_act_799 kX4_of iX4_of q309 hX (fun _ _ _ a1 a2 a3 => x_of _ a1 a2 a3 _ _) rfl rfl rfl (Nat.le_of_ble_eq_true rfl) ⟨Nat.le_refl _, Nat.le_refl _⟩ ((of_n hQ.2.1.lok hj).2.2.2.2.2.2) ?_
  refine e_isd (b := (cNearLine σ (cUpTo σ (nI j)))) (lv2 := [.ref x, .int X, .int (nI wh), .int (nI y), .int (nI (nLo σ)), .int (nI (nCl σ)), .int (nI j), .int (nI c), .int (nI t), .int (cNearLine σ (cUpTo σ (nI j))), .null, .null, .null, .null, .null, .null]) dL_act_802 (Nat.le_of_ble_eq_true rfl) rfl rfl rfl ?_
  have j828 : Ev st (d + 8) yL_act cL_act 16 (some .int) (z, h) 0 0 (AQ z x σ n τ sl sv) 828 [.ref x, .int X, .int (nI wh), .int (nI y), .int (nI (nLo σ)), .int (nI (nCl σ)), .int (nI j), .int (nI c), .int (nI t), .int (cNearLine σ (cUpTo σ (nI j))), .null, .null, .null, .null, .null, .null] [.int (csV σ j t)] (z, h) 0 0 := by
    refine e_isd (b := csV σ j t) (lv2 := [.ref x, .int X, .int (nI wh), .int (nI y), .int (nI (nLo σ)), .int (nI (nCl σ)), .int (nI j), .int (nI c), .int (nI t), .int (cNearLine σ (cUpTo σ (nI j))), .int (csV σ j t), .null, .null, .null, .null, .null]) dL_act_828 (Nat.le_of_ble_eq_true rfl) rfl rfl rfl ?_
    refine x_aload_n dL_act_830 rfl ?_
    refine x_iload dL_act_831 rfl ?_
    refine x_iconst (v := 4) dL_act_833 rfl ?_
    refine l_rd (v := (cStandTo σ (nI j))) dL_act_834 kX4_of iX4_of q309 hX (fun _ _ _ a1 a2 a3 => x_of _ a1 a2 a3 _ _) rfl rfl rfl (Nat.le_of_ble_eq_true rfl) ⟨Nat.le_refl _, Nat.le_refl _⟩ ((of_n hQ.2.1.lok hj).2.2.2.2.1) ?_
    refine e_isd (b := (cStandTo σ (nI j))) (lv2 := [.ref x, .int X, .int (nI wh), .int (nI y), .int (nI (nLo σ)), .int (nI (nCl σ)), .int (nI j), .int (nI c), .int (nI t), .int (cNearLine σ (cUpTo σ (nI j))), .int (csV σ j t), .int (cStandTo σ (nI j)), .null, .null, .null, .null]) dL_act_837 (Nat.le_of_ble_eq_true rfl) rfl rfl rfl ?_
    refine x_iconst (v := 0) dL_act_839 rfl ?_
    refine e_isd (b := nI 0) (lv2 := [.ref x, .int X, .int (nI wh), .int (nI y), .int (nI (nLo σ)), .int (nI (nCl σ)), .int (nI j), .int (nI c), .int (nI t), .int (cNearLine σ (cUpTo σ (nI j))), .int (csV σ j t), .int (cStandTo σ (nI j)), .int (nI 0), .null, .null, .null]) dL_act_840 (Nat.le_of_ble_eq_true rfl) rfl rfl rfl ?_
    exact L_cv d hX (A_settle2 d hX hy hj ht et ((cv_iff σ _ _ (nCl σ) (by omega)).trans (Iff.trans (and_congr csV_in Iff.rfl) cs.symm))) (nCl σ) 0 (Nat.zero_add _)
  refine x_iload dL_act_804 rfl ?_
  refine x_iconst (v := 2) dL_act_806 rfl ?_
  refine x_icmp_eq (tgt := 827) dL_act_807 (by decide) (fun c807 => ?_) (fun c807 => ?_)
  · refine x_iconst (v := 0) dL_act_827 rfl ?_
    exact e_top (b := csV σ j t) (by first | exact (csV_p (σ := σ)).1 c807 | exact (csV_p (σ := σ)).2.1 c813 | exact (csV_p (σ := σ)).2.2.1 c820 | exact (csV_p (σ := σ)).2.2.2 c807 c813 c820) j828
  · refine x_iload dL_act_810 rfl ?_
    refine x_iconst (v := 4) dL_act_812 rfl ?_
    refine x_icmp_eq (tgt := 827) dL_act_813 (by decide) (fun c813 => ?_) (fun c813 => ?_)
    · refine x_iconst (v := 0) dL_act_827 rfl ?_
      exact e_top (b := csV σ j t) (by first | exact (csV_p (σ := σ)).1 c807 | exact (csV_p (σ := σ)).2.1 c813 | exact (csV_p (σ := σ)).2.2.1 c820 | exact (csV_p (σ := σ)).2.2.2 c807 c813 c820) j828
    · refine x_iload dL_act_816 rfl ?_
      refine x_bipush (v := (-6)) dL_act_818 rfl ?_
      refine x_icmp_eq (tgt := 827) dL_act_820 (by decide) (fun c820 => ?_) (fun c820 => ?_)
      · refine x_iconst (v := 0) dL_act_827 rfl ?_
        exact e_top (b := csV σ j t) (by first | exact (csV_p (σ := σ)).1 c807 | exact (csV_p (σ := σ)).2.1 c813 | exact (csV_p (σ := σ)).2.2.1 c820 | exact (csV_p (σ := σ)).2.2.2 c807 c813 c820) j828
      · refine x_iconst (v := 1) dL_act_823 rfl ?_
        refine x_goto (tgt := 828) dL_act_824 (by decide) ?_
        exact e_top (b := csV σ j t) (by first | exact (csV_p (σ := σ)).1 c807 | exact (csV_p (σ := σ)).2.1 c813 | exact (csV_p (σ := σ)).2.2.1 c820 | exact (csV_p (σ := σ)).2.2.2 c807 c813 c820) j828
