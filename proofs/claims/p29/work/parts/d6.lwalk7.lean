/-! HELPERS OF THE LAW: act, days that pass, settings -/

set_option maxRecDepth 100000 in
set_option maxHeartbeats 8000000 in
theorem A_pass {st : Nat → Nat} (d : Nat) {z : Nat} {h : Nat → Option va_E} {x : Nat} {σ τ : Sg} {n : Nat} {sl : Nat → Sg} {sv : Nat → Int32} (hX : XS h x σ n τ sl sv) {X : Int32} {wh y j c : Nat} (hy : y < 2 ^ 31)  : Ev st (d + 8) yL_act cL_act 16 (some .int) (z, h) 0 0 (AQ z x σ n τ sl sv) 1065 [.ref x, .int X, .int (nI wh), .int (nI y), .int (nI (nLo σ)), .int (nI (nCl σ)), .int (nI j), .int (nI c), .null, .null, .null, .null, .null, .null, .null, .null] [] (z, h) 0 0 := by
  have hQ := hX.q
  have l12 := hQ.2.1.lok.2
  have hd9 := (num_0 hQ).2
  have t0 := hQ.1.tot l12
  obtain ⟨v1, v2, v3, v4⟩ := passV_in hy
  have dp := do_pass hQ v3 v4
  have j1090 : Ev st (d + 8) yL_act cL_act 16 (some .int) (z, h) 0 0 (AQ z x σ n τ sl sv) 1090 [.ref x, .int X, .int (nI wh), .int (nI y), .int (nI (nLo σ)), .int (nI (nCl σ)), .int (nI j), .int (nI c), .null, .null, .null, .null, .null, .null, .null, .null] [.int (nI (passV y))] (z, h) 0 0 := by
    refine e_isd (b := nI (passV y)) (lv2 := [.ref x, .int X, .int (nI wh), .int (nI y), .int (nI (nLo σ)), .int (nI (nCl σ)), .int (nI j), .int (nI c), .int (nI (passV y)), .null, .null, .null, .null, .null, .null, .null]) dL_act_1090 (Nat.le_of_ble_eq_true rfl) rfl rfl rfl ?_
    by_cases q9 : dN σ + passV y ≤ 9999
    · obtain ⟨r, τ1, he, hq1, el, rd, rk, r3, rc, rr⟩ := dp.2 q9
      have t1 := hq1.1.tot (by omega)
      have ps := pass_see hQ.2.1.lok hq1.2.1.lok el r3 rc
      refine x_aload_n dL_act_1092 rfl ?_
      refine x_iconst (v := 0) dL_act_1093 rfl ?_
      refine l_cn (v := nI (dN σ)) dL_act_1094 q201 hX (Nat.le_of_ble_eq_true rfl) ⟨Nat.le_refl _, Nat.le_refl _⟩ (fun _ _ => xn_0 hX.q _ _) ?_
      refine e_isd (b := nI (dN σ)) (lv2 := [.ref x, .int X, .int (nI wh), .int (nI y), .int (nI (nLo σ)), .int (nI (nCl σ)), .int (nI j), .int (nI c), .int (nI (passV y)), .int (nI (dN σ)), .null, .null, .null, .null, .null, .null]) dL_act_1097 (Nat.le_of_ble_eq_true rfl) rfl rfl rfl ?_
      refine x_aload_n dL_act_1099 rfl ?_
      refine x_bipush (v := 6) dL_act_1100 rfl ?_
      refine l_cn (v := lIn σ 3) dL_act_1102 q201 hX (Nat.le_of_ble_eq_true rfl) ⟨Nat.le_refl _, Nat.le_refl _⟩ (fun _ _ => xn_6 _ _) ?_
      refine e_isd (b := lIn σ 3) (lv2 := [.ref x, .int X, .int (nI wh), .int (nI y), .int (nI (nLo σ)), .int (nI (nCl σ)), .int (nI j), .int (nI c), .int (nI (passV y)), .int (nI (dN σ)), .int (lIn σ 3), .null, .null, .null, .null, .null]) dL_act_1105 (Nat.le_of_ble_eq_true rfl) rfl rfl rfl ?_
      refine x_aload_n dL_act_1107 rfl ?_
      refine x_bipush (v := 10) dL_act_1108 rfl ?_
      refine l_cn (v := nI (kN σ)) dL_act_1110 q201 hX (Nat.le_of_ble_eq_true rfl) ⟨Nat.le_refl _, Nat.le_refl _⟩ (fun _ _ => xn_10 hX.q _ _) ?_
      refine e_isd (b := nI (kN σ)) (lv2 := [.ref x, .int X, .int (nI wh), .int (nI y), .int (nI (nLo σ)), .int (nI (nCl σ)), .int (nI j), .int (nI c), .int (nI (passV y)), .int (nI (dN σ)), .int (lIn σ 3), .int (nI (kN σ)), .null, .null, .null, .null]) dL_act_1113 (Nat.le_of_ble_eq_true rfl) rfl rfl rfl ?_
      refine x_aload_n dL_act_1115 rfl ?_
      refine x_iload dL_act_1116 rfl ?_
      refine l_xq dL_act_1118 kX4_pass iX4_pass q546 hX (ct_do hX (fun _ _ _ a1 a2 a3 => x_pass (d + 1) a1 a2 a3 _) he (nng (by omega)) hq1) rfl rfl rfl (Nat.le_of_ble_eq_true rfl) ⟨Nat.le_refl _, Nat.le_refl _⟩ (fun h1 hX1 => ?_)
      refine e_isd (b := nI r) (lv2 := [.ref x, .int X, .int (nI wh), .int (nI y), .int (nI (nLo σ)), .int (nI (nCl σ)), .int (nI j), .int (nI c), .int (nI (passV y)), .int (nI (dN σ)), .int (lIn σ 3), .int (nI (kN σ)), .int (nI r), .null, .null, .null]) dL_act_1121 (Nat.le_of_ble_eq_true rfl) rfl rfl rfl ?_
      refine x_iload dL_act_1123 rfl ?_
      refine x_iload dL_act_1125 rfl ?_
      refine x_iadd dL_act_1127 ?_
      refine x_sipush (v := 9999) dL_act_1128 rfl ?_
      refine x_icmp_le (tgt := 1150) dL_act_1131 (by decide) (fun _ => ?_) (fun c => absurd (by rw [nI_add, show (9999 : Int32) = nI 9999 from rfl, nI_leI (by omega) (by decide)]; exact q9) c)
      refine x_aload_n dL_act_1150 rfl ?_
      refine x_iconst (v := 0) dL_act_1151 rfl ?_
      refine l_cn (v := nI (dN τ1)) dL_act_1152 q201 hX1 (Nat.le_of_ble_eq_true rfl) ⟨Nat.le_refl _, Nat.le_refl _⟩ (fun _ _ => xn_0 hX1.q _ _) ?_
      refine x_iload dL_act_1155 rfl ?_
      refine x_iload dL_act_1157 rfl ?_
      refine x_iadd dL_act_1159 ?_
      refine x_icmp_ne (tgt := 1212) dL_act_1160 (by decide) (fun c => absurd (by rw [nI_add, rd]) c) (fun _ => ?_)
      refine x_aload_n dL_act_1163 rfl ?_
      refine x_bipush (v := 6) dL_act_1164 rfl ?_
      refine l_cn (v := lIn τ1 3) dL_act_1166 q201 hX1 (Nat.le_of_ble_eq_true rfl) ⟨Nat.le_refl _, Nat.le_refl _⟩ (fun _ _ => xn_6 _ _) ?_
      refine x_iload dL_act_1169 rfl ?_
      refine x_iand dL_act_1171 ?_
      refine x_iload dL_act_1172 rfl ?_
      refine x_icmp_ne (tgt := 1212) dL_act_1174 (by decide) (fun c => absurd ps.1 c) (fun _ => ?_)
      refine x_aload_n dL_act_1177 rfl ?_
      refine x_bipush (v := 6) dL_act_1178 rfl ?_
      refine l_cn (v := lIn τ1 3) dL_act_1180 q201 hX1 (Nat.le_of_ble_eq_true rfl) ⟨Nat.le_refl _, Nat.le_refl _⟩ (fun _ _ => xn_6 _ _) ?_
      refine c_SR dL_act_1183 kL_size q638 q637 (t_size (d + 6) (s := lIn τ1 3)) rfl rfl (Nat.le_of_ble_eq_true rfl) ⟨Nat.le_refl _, Nat.le_refl _⟩ ?_
      refine x_iload dL_act_1186 rfl ?_
      refine c_SR dL_act_1188 kL_size q638 q637 (t_size (d + 6) (s := lIn σ 3)) rfl rfl (Nat.le_of_ble_eq_true rfl) ⟨Nat.le_refl _, Nat.le_refl _⟩ ?_
      refine x_iload dL_act_1191 rfl ?_
      refine x_iadd dL_act_1193 ?_
      refine x_icmp_ne (tgt := 1212) dL_act_1194 (by decide) (fun c => absurd ps.2 c) (fun _ => ?_)
      refine x_aload_n dL_act_1197 rfl ?_
      refine x_bipush (v := 10) dL_act_1198 rfl ?_
      refine l_cn (v := nI (kN τ1)) dL_act_1200 q201 hX1 (Nat.le_of_ble_eq_true rfl) ⟨Nat.le_refl _, Nat.le_refl _⟩ (fun _ _ => xn_10 hX1.q _ _) ?_
      refine x_iload dL_act_1203 rfl ?_
      refine x_icmp_lt (tgt := 1212) dL_act_1205 (by decide) (fun c => absurd c (fun e => by rw [nI_ltI (by omega) (by omega)] at e; omega)) (fun _ => ?_)
      refine x_iconst (v := 1) dL_act_1208 rfl ?_
      refine x_goto (tgt := 1214) dL_act_1209 (by decide) ?_
      refine x_iret dL_act_1214 (Or.inl rfl) rfl (Nat.le_refl _) ?_
      exact ⟨_, rfl, Or.inr ⟨rfl, _, hX1⟩⟩
    · refine x_aload_n dL_act_1092 rfl ?_
      refine x_iconst (v := 0) dL_act_1093 rfl ?_
      refine l_cn (v := nI (dN σ)) dL_act_1094 q201 hX (Nat.le_of_ble_eq_true rfl) ⟨Nat.le_refl _, Nat.le_refl _⟩ (fun _ _ => xn_0 hX.q _ _) ?_
      refine e_isd (b := nI (dN σ)) (lv2 := [.ref x, .int X, .int (nI wh), .int (nI y), .int (nI (nLo σ)), .int (nI (nCl σ)), .int (nI j), .int (nI c), .int (nI (passV y)), .int (nI (dN σ)), .null, .null, .null, .null, .null, .null]) dL_act_1097 (Nat.le_of_ble_eq_true rfl) rfl rfl rfl ?_
      refine x_aload_n dL_act_1099 rfl ?_
      refine x_bipush (v := 6) dL_act_1100 rfl ?_
      refine l_cn (v := lIn σ 3) dL_act_1102 q201 hX (Nat.le_of_ble_eq_true rfl) ⟨Nat.le_refl _, Nat.le_refl _⟩ (fun _ _ => xn_6 _ _) ?_
      refine e_isd (b := lIn σ 3) (lv2 := [.ref x, .int X, .int (nI wh), .int (nI y), .int (nI (nLo σ)), .int (nI (nCl σ)), .int (nI j), .int (nI c), .int (nI (passV y)), .int (nI (dN σ)), .int (lIn σ 3), .null, .null, .null, .null, .null]) dL_act_1105 (Nat.le_of_ble_eq_true rfl) rfl rfl rfl ?_
      refine x_aload_n dL_act_1107 rfl ?_
      refine x_bipush (v := 10) dL_act_1108 rfl ?_
      refine l_cn (v := nI (kN σ)) dL_act_1110 q201 hX (Nat.le_of_ble_eq_true rfl) ⟨Nat.le_refl _, Nat.le_refl _⟩ (fun _ _ => xn_10 hX.q _ _) ?_
      refine e_isd (b := nI (kN σ)) (lv2 := [.ref x, .int X, .int (nI wh), .int (nI y), .int (nI (nLo σ)), .int (nI (nCl σ)), .int (nI j), .int (nI c), .int (nI (passV y)), .int (nI (dN σ)), .int (lIn σ 3), .int (nI (kN σ)), .null, .null, .null, .null]) dL_act_1113 (Nat.le_of_ble_eq_true rfl) rfl rfl rfl ?_
      refine x_aload_n dL_act_1115 rfl ?_
      refine x_iload dL_act_1116 rfl ?_
      refine l_xq dL_act_1118 kX4_pass iX4_pass q546 hX (ct_no hX (fun _ _ _ a1 a2 a3 => x_pass (d + 1) a1 a2 a3 _) (dp.1 q9) (by decide)) rfl rfl rfl (Nat.le_of_ble_eq_true rfl) ⟨Nat.le_refl _, Nat.le_refl _⟩ (fun h2 hX2 => ?_)
      refine e_isd (b := (-5)) (lv2 := [.ref x, .int X, .int (nI wh), .int (nI y), .int (nI (nLo σ)), .int (nI (nCl σ)), .int (nI j), .int (nI c), .int (nI (passV y)), .int (nI (dN σ)), .int (lIn σ 3), .int (nI (kN σ)), .int (-5), .null, .null, .null]) dL_act_1121 (Nat.le_of_ble_eq_true rfl) rfl rfl rfl ?_
      refine x_iload dL_act_1123 rfl ?_
      refine x_iload dL_act_1125 rfl ?_
      refine x_iadd dL_act_1127 ?_
      refine x_sipush (v := 9999) dL_act_1128 rfl ?_
      refine x_icmp_le (tgt := 1150) dL_act_1131 (by decide) (fun c => absurd c (fun e => q9 (by rw [nI_add, show (9999 : Int32) = nI 9999 from rfl, nI_leI (by omega) (by decide)] at e; exact e))) (fun _ => ?_)
      refine x_iload dL_act_1134 rfl ?_
      refine x_bipush (v := (-5)) dL_act_1136 rfl ?_
      refine x_icmp_ne (tgt := 1145) dL_act_1138 (by decide) (fun c => absurd (by decide) c) (fun _ => ?_)
      refine x_iconst (v := 0) dL_act_1141 rfl ?_
      refine x_goto (tgt := 1214) dL_act_1142 (by decide) ?_
      refine x_iret dL_act_1214 (Or.inl rfl) rfl (Nat.le_refl _) ?_
      exact ⟨_, rfl, Or.inl ⟨rfl, hX2⟩⟩
  refine x_iload_n dL_act_1065 rfl ?_
  refine x_iconst (v := 3) dL_act_1066 rfl ?_
  refine x_irem dL_act_1067 (by decide) ?_
  refine x_if_ne (tgt := 1082) dL_act_1068 (by decide) (fun c1068 => ?_) (fun c1068 => ?_)
  · refine x_iconst (v := 1) dL_act_1082 rfl ?_
    refine x_iload_n dL_act_1083 rfl ?_
    refine x_iconst (v := 3) dL_act_1084 rfl ?_
    refine x_idiv dL_act_1085 (by decide) ?_
    refine x_bipush (v := 12) dL_act_1086 rfl ?_
    refine x_irem dL_act_1088 (by decide) ?_
    refine x_iadd dL_act_1089 ?_
    exact e_top (b := nI (passV y)) (by first | exact v1 c1068 | exact v2 c1068) j1090
  · refine x_iconst (v := 1) dL_act_1071 rfl ?_
    refine x_iload_n dL_act_1072 rfl ?_
    refine x_iconst (v := 3) dL_act_1073 rfl ?_
    refine x_idiv dL_act_1074 (by decide) ?_
    refine x_bipush (v := 100) dL_act_1075 rfl ?_
    refine x_irem dL_act_1077 (by decide) ?_
    refine x_iadd dL_act_1078 ?_
    refine x_goto (tgt := 1090) dL_act_1079 (by decide) ?_
    exact e_top (b := nI (passV y)) (by first | exact v1 c1068 | exact v2 c1068) j1090

set_option maxRecDepth 100000 in
set_option maxHeartbeats 8000000 in
theorem A_set {st : Nat → Nat} (d : Nat) {z : Nat} {h : Nat → Option va_E} {x : Nat} {σ τ : Sg} {n : Nat} {sl : Nat → Sg} {sv : Nat → Int32} (hX : XS h x σ n τ sl sv) {X : Int32} {wh y j c : Nat} (hy : y < 2 ^ 31)  : Ev st (d + 8) yL_act cL_act 16 (some .int) (z, h) 0 0 (AQ z x σ n τ sl sv) 1215 [.ref x, .int X, .int (nI wh), .int (nI y), .int (nI (nLo σ)), .int (nI (nCl σ)), .int (nI j), .int (nI c), .null, .null, .null, .null, .null, .null, .null, .null] [] (z, h) 0 0 := by
  have hQ := hX.q
  have w5 : y % 5 < 5 := Nat.mod_lt _ (by decide)
  have z5 : y / 5 < 2 ^ 31 := Nat.lt_of_le_of_lt (Nat.div_le_self _ _) hy
  obtain ⟨s0, s1, s2, s3, s4, sv1, sx⟩ := setV_in w5 z5
  obtain ⟨he, hq1, hr⟩ := do_set hQ w5 sv1
  generalize hτ : up2 σ 0 (y % 5) (nI (setV (y % 5) (y / 5))) = τ1 at he hq1
  have r0 : τ1 0 (y % 5) = nI (setV (y % 5) (y / 5)) := by rw [← hτ, up2_s]
  refine x_iload_n dL_act_1215 rfl ?_
  refine x_iconst (v := 5) dL_act_1216 rfl ?_
  refine x_irem dL_act_1217 (by decide) ?_
  refine e_isd (b := nI (y % 5)) (lv2 := [.ref x, .int X, .int (nI wh), .int (nI y), .int (nI (nLo σ)), .int (nI (nCl σ)), .int (nI j), .int (nI c), .int (nI (y % 5)), .null, .null, .null, .null, .null, .null, .null]) dL_act_1218 (Nat.le_of_ble_eq_true rfl) rfl (nI_mod (b := 5) hy (by decide)) rfl ?_
  refine x_iload_n dL_act_1220 rfl ?_
  refine x_iconst (v := 5) dL_act_1221 rfl ?_
  refine x_idiv dL_act_1222 (by decide) ?_
  refine e_isd (b := nI (y / 5)) (lv2 := [.ref x, .int X, .int (nI wh), .int (nI y), .int (nI (nLo σ)), .int (nI (nCl σ)), .int (nI j), .int (nI c), .int (nI (y % 5)), .int (nI (y / 5)), .null, .null, .null, .null, .null, .null]) dL_act_1223 (Nat.le_of_ble_eq_true rfl) rfl (nI_div (b := 5) hy (by decide)) rfl ?_
  have j1291 : Ev st (d + 8) yL_act cL_act 16 (some .int) (z, h) 0 0 (AQ z x σ n τ sl sv) 1291 [.ref x, .int X, .int (nI wh), .int (nI y), .int (nI (nLo σ)), .int (nI (nCl σ)), .int (nI j), .int (nI c), .int (nI (y % 5)), .int (nI (y / 5)), .null, .null, .null, .null, .null, .null] [.int (nI (setV (y % 5) (y / 5)))] (z, h) 0 0 := by
    refine e_isd (b := nI (setV (y % 5) (y / 5))) (lv2 := [.ref x, .int X, .int (nI wh), .int (nI y), .int (nI (nLo σ)), .int (nI (nCl σ)), .int (nI j), .int (nI c), .int (nI (y % 5)), .int (nI (y / 5)), .int (nI (setV (y % 5) (y / 5))), .null, .null, .null, .null, .null]) dL_act_1291 (Nat.le_of_ble_eq_true rfl) rfl rfl rfl ?_
    refine x_aload_n dL_act_1293 rfl ?_
    refine x_bipush (v := 14) dL_act_1294 rfl ?_
    refine x_iload dL_act_1296 rfl ?_
    refine x_iadd dL_act_1298 ?_
    refine l_cn (v := σ 0 (y % 5)) dL_act_1299 q201 hX (Nat.le_of_ble_eq_true rfl) ⟨Nat.le_refl _, Nat.le_refl _⟩ (fun _ _ => sx σ n _) ?_
    refine e_isd (b := σ 0 (y % 5)) (lv2 := [.ref x, .int X, .int (nI wh), .int (nI y), .int (nI (nLo σ)), .int (nI (nCl σ)), .int (nI j), .int (nI c), .int (nI (y % 5)), .int (nI (y / 5)), .int (nI (setV (y % 5) (y / 5))), .int (σ 0 (y % 5)), .null, .null, .null, .null]) dL_act_1302 (Nat.le_of_ble_eq_true rfl) rfl rfl rfl ?_
    refine x_aload_n dL_act_1304 rfl ?_
    refine x_iload dL_act_1305 rfl ?_
    refine x_iload dL_act_1307 rfl ?_
    refine l_xq dL_act_1309 kX4_set iX4_set q445 hX (ct_do hX (fun _ _ _ a1 a2 a3 => x_set (d + 1) a1 a2 a3 _ _) he hr hq1) rfl rfl rfl (Nat.le_of_ble_eq_true rfl) ⟨Nat.le_refl _, Nat.le_refl _⟩ (fun h1 hX1 => ?_)
    refine x_iload dL_act_1312 rfl ?_
    refine x_icmp_ne (tgt := 1335) dL_act_1314 (by decide) (fun c => absurd rfl c) (fun _ => ?_)
    refine x_aload_n dL_act_1317 rfl ?_
    refine x_bipush (v := 14) dL_act_1318 rfl ?_
    refine x_iload dL_act_1320 rfl ?_
    refine x_iadd dL_act_1322 ?_
    refine l_cn (v := nI (setV (y % 5) (y / 5))) dL_act_1323 q201 hX1 (Nat.le_of_ble_eq_true rfl) ⟨Nat.le_refl _, Nat.le_refl _⟩ (fun _ _ => (sx τ1 _ _).trans r0) ?_
    refine x_iload dL_act_1326 rfl ?_
    refine x_icmp_ne (tgt := 1335) dL_act_1328 (by decide) (fun c => absurd rfl c) (fun _ => ?_)
    refine x_iconst (v := 1) dL_act_1331 rfl ?_
    refine x_goto (tgt := 1337) dL_act_1332 (by decide) ?_
    refine x_iret dL_act_1337 (Or.inl rfl) rfl (Nat.le_refl _) ?_
    exact ⟨_, rfl, Or.inr ⟨rfl, _, hX1⟩⟩
  refine x_iload dL_act_1225 rfl ?_
  refine x_if_ne (tgt := 1240) dL_act_1227 (by decide) (fun c1227 => ?_) (fun c1227 => ?_)
  · refine x_iload dL_act_1240 rfl ?_
    refine x_iconst (v := 1) dL_act_1242 rfl ?_
    refine x_icmp_ne (tgt := 1256) dL_act_1243 (by decide) (fun c1243 => ?_) (fun c1243 => ?_)
    · refine x_iload dL_act_1256 rfl ?_
      refine x_iconst (v := 2) dL_act_1258 rfl ?_
      refine x_icmp_ne (tgt := 1272) dL_act_1259 (by decide) (fun c1259 => ?_) (fun c1259 => ?_)
      · refine x_iload dL_act_1272 rfl ?_
        refine x_iconst (v := 3) dL_act_1274 rfl ?_
        refine x_icmp_ne (tgt := 1286) dL_act_1275 (by decide) (fun c1275 => ?_) (fun c1275 => ?_)
        · refine x_iload dL_act_1286 rfl ?_
          refine x_bipush (v := 51) dL_act_1288 rfl ?_
          refine x_irem dL_act_1290 (by decide) ?_
          exact e_top (b := nI (setV (y % 5) (y / 5))) (by first | exact s0 c1227 | exact s1 c1243 | exact s2 c1259 | exact s3 c1275 | exact s4 c1227 c1243 c1259 c1275 | exact s0 (Classical.byContradiction c1227) | exact s1 (Classical.byContradiction c1243) | exact s2 (Classical.byContradiction c1259) | exact s3 (Classical.byContradiction c1275)) j1291
        · refine x_iload dL_act_1278 rfl ?_
          refine x_bipush (v := 40) dL_act_1280 rfl ?_
          refine x_irem dL_act_1282 (by decide) ?_
          refine x_goto (tgt := 1291) dL_act_1283 (by decide) ?_
          exact e_top (b := nI (setV (y % 5) (y / 5))) (by first | exact s0 c1227 | exact s1 c1243 | exact s2 c1259 | exact s3 c1275 | exact s4 c1227 c1243 c1259 c1275 | exact s0 (Classical.byContradiction c1227) | exact s1 (Classical.byContradiction c1243) | exact s2 (Classical.byContradiction c1259) | exact s3 (Classical.byContradiction c1275)) j1291
      · refine x_iconst (v := 1) dL_act_1262 rfl ?_
        refine x_iload dL_act_1263 rfl ?_
        refine x_bipush (v := 50) dL_act_1265 rfl ?_
        refine x_irem dL_act_1267 (by decide) ?_
        refine x_iadd dL_act_1268 ?_
        refine x_goto (tgt := 1291) dL_act_1269 (by decide) ?_
        exact e_top (b := nI (setV (y % 5) (y / 5))) (by first | exact s0 c1227 | exact s1 c1243 | exact s2 c1259 | exact s3 c1275 | exact s4 c1227 c1243 c1259 c1275 | exact s0 (Classical.byContradiction c1227) | exact s1 (Classical.byContradiction c1243) | exact s2 (Classical.byContradiction c1259) | exact s3 (Classical.byContradiction c1275)) j1291
    · refine x_iconst (v := 1) dL_act_1246 rfl ?_
      refine x_iload dL_act_1247 rfl ?_
      refine x_bipush (v := 100) dL_act_1249 rfl ?_
      refine x_irem dL_act_1251 (by decide) ?_
      refine x_iadd dL_act_1252 ?_
      refine x_goto (tgt := 1291) dL_act_1253 (by decide) ?_
      exact e_top (b := nI (setV (y % 5) (y / 5))) (by first | exact s0 c1227 | exact s1 c1243 | exact s2 c1259 | exact s3 c1275 | exact s4 c1227 c1243 c1259 c1275 | exact s0 (Classical.byContradiction c1227) | exact s1 (Classical.byContradiction c1243) | exact s2 (Classical.byContradiction c1259) | exact s3 (Classical.byContradiction c1275)) j1291
  · refine x_iconst (v := 1) dL_act_1230 rfl ?_
    refine x_iload dL_act_1231 rfl ?_
    refine x_bipush (v := 60) dL_act_1233 rfl ?_
    refine x_irem dL_act_1235 (by decide) ?_
    refine x_iadd dL_act_1236 ?_
    refine x_goto (tgt := 1291) dL_act_1237 (by decide) ?_
    exact e_top (b := nI (setV (y % 5) (y / 5))) (by first | exact s0 c1227 | exact s1 c1243 | exact s2 c1259 | exact s3 c1275 | exact s4 c1227 c1243 c1259 c1275 | exact s0 (Classical.byContradiction c1227) | exact s1 (Classical.byContradiction c1243) | exact s2 (Classical.byContradiction c1259) | exact s3 (Classical.byContradiction c1275)) j1291
