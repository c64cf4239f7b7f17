/-! HELPERS OF THE LAW: act -/

set_option maxRecDepth 100000 in
set_option maxHeartbeats 8000000 in
theorem t_act {st : Nat → Nat} (d : Nat) {z : Nat} {h : Nat → Option va_E} {x : Nat} {σ τ : Sg} {n : Nat} {sl : Nat → Sg} {sv : Nat → Int32} (hX : XS h x σ n τ sl sv) {a : Nat} (ha : a < 2 ^ 31)  : CT st (d + 8) yL_act cL_act 16 (some .int) [.ref x, .int (nI a)] (z, h) 0 0 (AQ z x σ n τ sl sv) := by
  refine CT.of (lv := [.ref x, .int (nI a), .null, .null, .null, .null, .null, .null, .null, .null, .null, .null, .null, .null, .null, .null]) (by decide) (Nat.le_of_ble_eq_true rfl) rfl rfl ?_
  have hQ := hX.q
  have l12 := hQ.2.1.lok.2
  have l30 := hQ.2.1.cok.2
  have hy : a / 16 < 2 ^ 31 := Nat.lt_of_le_of_lt (Nat.div_le_self _ _) ha
  have pl := pick_in (m := nLo σ) (y := a / 16) (by omega) hy
  have pc := pick_in (m := nCl σ) (y := a / 16) (by omega) hy
  refine x_iload_n dL_act_0 rfl ?_
  refine x_bipush (v := 16) dL_act_1 rfl ?_
  refine x_irem dL_act_3 (by decide) ?_
  refine e_isd_n (b := nI (a % 16)) (lv2 := [.ref x, .int (nI a), .int (nI (a % 16)), .null, .null, .null, .null, .null, .null, .null, .null, .null, .null, .null, .null, .null]) dL_act_4 (Nat.le_of_ble_eq_true rfl) rfl (nI_mod (b := 16) ha (by decide)) rfl ?_
  refine x_iload_n dL_act_5 rfl ?_
  refine x_bipush (v := 16) dL_act_6 rfl ?_
  refine x_idiv dL_act_8 (by decide) ?_
  refine e_isd_n (b := nI (a / 16)) (lv2 := [.ref x, .int (nI a), .int (nI (a % 16)), .int (nI (a / 16)), .null, .null, .null, .null, .null, .null, .null, .null, .null, .null, .null, .null]) dL_act_9 (Nat.le_of_ble_eq_true rfl) rfl (nI_div (b := 16) ha (by decide)) rfl ?_
  refine x_aload_n dL_act_10 rfl ?_
  refine x_iconst (v := 1) dL_act_11 rfl ?_
  refine l_cn (v := nI (nLo σ)) dL_act_12 q201 hX (Nat.le_of_ble_eq_true rfl) ⟨Nat.le_refl _, Nat.le_refl _⟩ (fun _ _ => xn_1 hX.q _ _) ?_
  refine e_isd (b := nI (nLo σ)) (lv2 := [.ref x, .int (nI a), .int (nI (a % 16)), .int (nI (a / 16)), .int (nI (nLo σ)), .null, .null, .null, .null, .null, .null, .null, .null, .null, .null, .null]) dL_act_15 (Nat.le_of_ble_eq_true rfl) rfl rfl rfl ?_
  refine x_aload_n dL_act_17 rfl ?_
  refine x_iconst (v := 2) dL_act_18 rfl ?_
  refine l_cn (v := nI (nCl σ)) dL_act_19 q201 hX (Nat.le_of_ble_eq_true rfl) ⟨Nat.le_refl _, Nat.le_refl _⟩ (fun _ _ => xn_2 hX.q _ _) ?_
  refine e_isd (b := nI (nCl σ)) (lv2 := [.ref x, .int (nI a), .int (nI (a % 16)), .int (nI (a / 16)), .int (nI (nLo σ)), .int (nI (nCl σ)), .null, .null, .null, .null, .null, .null, .null, .null, .null, .null]) dL_act_22 (Nat.le_of_ble_eq_true rfl) rfl rfl rfl ?_
  have j37 : Ev st (d + 8) yL_act cL_act 16 (some .int) (z, h) 0 0 (AQ z x σ n τ sl sv) 37 [.ref x, .int (nI a), .int (nI (a % 16)), .int (nI (a / 16)), .int (nI (nLo σ)), .int (nI (nCl σ)), .null, .null, .null, .null, .null, .null, .null, .null, .null, .null] [.int (nI (pick (nLo σ) (a / 16)))] (z, h) 0 0 := by
    refine e_isd (b := nI (pick (nLo σ) (a / 16))) (lv2 := [.ref x, .int (nI a), .int (nI (a % 16)), .int (nI (a / 16)), .int (nI (nLo σ)), .int (nI (nCl σ)), .int (nI (pick (nLo σ) (a / 16))), .null, .null, .null, .null, .null, .null, .null, .null, .null]) dL_act_37 (Nat.le_of_ble_eq_true rfl) rfl rfl rfl ?_
    have j52 : Ev st (d + 8) yL_act cL_act 16 (some .int) (z, h) 0 0 (AQ z x σ n τ sl sv) 52 [.ref x, .int (nI a), .int (nI (a % 16)), .int (nI (a / 16)), .int (nI (nLo σ)), .int (nI (nCl σ)), .int (nI (pick (nLo σ) (a / 16))), .null, .null, .null, .null, .null, .null, .null, .null, .null] [.int (nI (pick (nCl σ) (a / 16)))] (z, h) 0 0 := by
      refine e_isd (b := nI (pick (nCl σ) (a / 16))) (lv2 := [.ref x, .int (nI a), .int (nI (a % 16)), .int (nI (a / 16)), .int (nI (nLo σ)), .int (nI (nCl σ)), .int (nI (pick (nLo σ) (a / 16))), .int (nI (pick (nCl σ) (a / 16))), .null, .null, .null, .null, .null, .null, .null, .null]) dL_act_52 (Nat.le_of_ble_eq_true rfl) rfl rfl rfl ?_
      refine x_iload_n dL_act_54 rfl ?_
      refine x_iconst (v := 2) dL_act_55 rfl ?_
      refine x_icmp_lt (tgt := 64) dL_act_56 (by decide) (fun c56 => ?_) (fun c56 => ?_)
      · exact A_lot d hX hy
      · refine x_iload dL_act_59 rfl ?_
        refine x_if_ne (tgt := 181) dL_act_61 (by decide) (fun c61 => ?_) (fun c61 => ?_)
        · refine x_iload_n dL_act_181 rfl ?_
          refine x_iconst (v := 4) dL_act_182 rfl ?_
          refine x_icmp_ge (tgt := 265) dL_act_183 (by decide) (fun c183 => ?_) (fun c183 => ?_)
          · refine x_iload_n dL_act_265 rfl ?_
            refine x_bipush (v := 7) dL_act_266 rfl ?_
            refine x_icmp_ge (tgt := 497) dL_act_268 (by decide) (fun c268 => ?_) (fun c268 => ?_)
            · have j779 : Ev st (d + 8) yL_act cL_act 16 (some .int) (z, h) 0 0 (AQ z x σ n τ sl sv) 779 [.ref x, .int (nI a), .int (nI (a % 16)), .int (nI (a / 16)), .int (nI (nLo σ)), .int (nI (nCl σ)), .int (nI (pick (nLo σ) (a / 16))), .int (nI (pick (nCl σ) (a / 16))), .null, .null, .null, .null, .null, .null, .null, .null] [] (z, h) 0 0 := by
                refine x_iload_n dL_act_779 rfl ?_
                refine x_bipush (v := 13) dL_act_780 rfl ?_
                refine x_icmp_ge (tgt := 1059) dL_act_782 (by decide) (fun c782 => ?_) (fun c782 => ?_)
                · refine x_iload_n dL_act_1059 rfl ?_
                  refine x_bipush (v := 15) dL_act_1060 rfl ?_
                  refine x_icmp_ge (tgt := 1215) dL_act_1062 (by decide) (fun c1062 => ?_) (fun c1062 => ?_)
                  · exact A_set d hX hy
                  · exact A_pass d hX hy
                · exact A_settle d hX hy (pl.2.2.1 c61)
              refine x_iload_n dL_act_497 rfl ?_
              refine x_bipush (v := 11) dL_act_498 rfl ?_
              refine x_icmp_ge (tgt := 779) dL_act_500 (by decide) (fun c500 => ?_) (fun c500 => ?_)
              · exact j779
              · refine x_iload dL_act_503 rfl ?_
                refine x_if_le (tgt := 779) dL_act_505 (by decide) (fun c505 => ?_) (fun c505 => ?_)
                · exact j779
                · exact A_cl d hX hy (pc.2.2.1 (fun e => c505 (by rw [e]; decide)))
            · exact A_claim d hX hy (pl.2.2.1 c61)
          · exact A_notice d hX hy (pl.2.2.1 c61)
        · exact A_lot d hX hy
    refine x_iload dL_act_39 rfl ?_
    refine x_if_ne (tgt := 48) dL_act_41 (by decide) (fun c41 => ?_) (fun c41 => ?_)
    · refine x_iload_n dL_act_48 rfl ?_
      refine x_iload dL_act_49 rfl ?_
      refine x_irem dL_act_51 c41 ?_
      exact e_top (b := nI (pick (nCl σ) (a / 16))) (by first | exact pc.1 c41 | exact pc.2.1 c41) j52
    · refine x_iconst (v := 0) dL_act_44 rfl ?_
      refine x_goto (tgt := 52) dL_act_45 (by decide) ?_
      exact e_top (b := nI (pick (nCl σ) (a / 16))) (by first | exact pc.1 c41 | exact pc.2.1 c41) j52
  refine x_iload dL_act_24 rfl ?_
  refine x_if_ne (tgt := 33) dL_act_26 (by decide) (fun c26 => ?_) (fun c26 => ?_)
  · refine x_iload_n dL_act_33 rfl ?_
    refine x_iload dL_act_34 rfl ?_
    refine x_irem dL_act_36 c26 ?_
    exact e_top (b := nI (pick (nLo σ) (a / 16))) (by first | exact pl.1 c26 | exact pl.2.1 c26) j37
  · refine x_iconst (v := 0) dL_act_29 rfl ?_
    refine x_goto (tgt := 37) dL_act_30 (by decide) ?_
    exact e_top (b := nI (pick (nLo σ) (a / 16))) (by first | exact pl.1 c26 | exact pl.2.1 c26) j37
