def mCount (σ : Sg) (n : Nat) (ty w : Int32) : Int32 :=
  if w = 0 then σ 13 4 else if w = 1 then σ 13 0 else if w = 2 then σ 13 1 else if w = 3 then lIn σ 0 else if w = 4 then lIn σ 1 else if w = 5 then lIn σ 2 else if w = 6 then lIn σ 3 else if w = 7 then lIn σ 4
  else if w = 8 then mVals σ 4095 else if w = 9 then mVals σ (lIn σ 0 ||| lIn σ 1) else if w = 10 then σ 13 3 else if w = 11 then mPurses σ else if w = 12 then mStCl σ else if w = 13 then mWho σ
  else if w = 14 then σ 0 0 else if w = 15 then σ 0 1 else if w = 16 then σ 0 2 else if w = 17 then σ 0 3 else if w = 18 then σ 0 4 else if w = 19 then ty else if w = 20 then nI n else -2
set_option maxRecDepth 100000 in
set_option maxHeartbeats 4000000 in
theorem m_count {st : Nat → Nat} (d : Nat) {z : Nat} {h : Nat → Option va_E} {m : Nat} {ζ : Sg} {n nv : Nat} {G S : Nat → Sg} {sv tx : Nat → Int32} {ty sp : Int32} {tl : Nat → Int32} {tm : Int32} (hM : MAt h m ζ n nv G S sv tx ty sp tl tm) (hL : LOk ζ) (hC : COk ζ) (w : Int32) : CT st (d + 5) yX5_count cX5_count 2 (some .int) [.ref m, .int w] (z, h) 0 0 (RO (some (.int (mCount ζ n ty w))) (z, h)) := by
  refine CT.of (lv := [.ref m, .int w]) (by decide) (Nat.le_of_ble_eq_true rfl) rfl rfl ?_
  refine x_iload_n dX5_count_0 rfl ?_
  by_cases k1_0 : w = 0
  · subst k1_0
    refine x_tableIn (off := 99) (tgt := 100) dX5_count_1 (by decide) (by decide) rfl (by decide) ?_
    refine x_aload_n dX5_count_100 rfl ?_
    refine x_get dX5_count_101 fX5_7 hM.ob rfl ?_
    refine x_iconst (v := 5) dX5_count_104 rfl ?_
    refine z_ald (13) (4) dX5_count_105 hM.z (show zAt 13 4 5 from ⟨by decide, rfl⟩) (show ¬ (5 : Int32) < 0 ∧ Int32.toNatClampNeg 5 = 5 by decide) ?_
    refine x_iret dX5_count_106 (Or.inl rfl) rfl (Nat.le_refl _) ?_
    exact RO.mk (by first | rfl | (simp [mCount, *]; done))
  by_cases k1_1 : w = 1
  · subst k1_1
    refine x_tableIn (off := 106) (tgt := 107) dX5_count_1 (by decide) (by decide) rfl (by decide) ?_
    refine x_aload_n dX5_count_107 rfl ?_
    refine x_get dX5_count_108 fX5_7 hM.ob rfl ?_
    refine x_bipush (v := 7) dX5_count_111 rfl ?_
    refine z_ald (13) (0) dX5_count_113 hM.z (show zAt 13 0 7 from ⟨by decide, rfl⟩) (show ¬ (7 : Int32) < 0 ∧ Int32.toNatClampNeg 7 = 7 by decide) ?_
    refine x_iret dX5_count_114 (Or.inl rfl) rfl (Nat.le_refl _) ?_
    exact RO.mk (by first | rfl | (simp [mCount, *]; done))
  by_cases k1_2 : w = 2
  · subst k1_2
    refine x_tableIn (off := 114) (tgt := 115) dX5_count_1 (by decide) (by decide) rfl (by decide) ?_
    refine x_aload_n dX5_count_115 rfl ?_
    refine x_get dX5_count_116 fX5_7 hM.ob rfl ?_
    refine x_bipush (v := 8) dX5_count_119 rfl ?_
    refine z_ald (13) (1) dX5_count_121 hM.z (show zAt 13 1 8 from ⟨by decide, rfl⟩) (show ¬ (8 : Int32) < 0 ∧ Int32.toNatClampNeg 8 = 8 by decide) ?_
    refine x_iret dX5_count_122 (Or.inl rfl) rfl (Nat.le_refl _) ?_
    exact RO.mk (by first | rfl | (simp [mCount, *]; done))
  by_cases k1_3 : w = 3
  · subst k1_3
    refine x_tableIn (off := 122) (tgt := 123) dX5_count_1 (by decide) (by decide) rfl (by decide) ?_
    refine x_aload_n dX5_count_123 rfl ?_
    refine x_iload_n dX5_count_124 rfl ?_
    refine x_iconst (v := 3) dX5_count_125 rfl ?_
    refine x_isub dX5_count_126 ?_
    refine c_VR dX5_count_127 kX5_lotsThatAre iX5_lotsThatAre q785 (t_lotsThatAre _ hM.z hL _) hM.z.ob rfl rfl rfl (Nat.le_of_ble_eq_true rfl) ⟨Nat.le_refl _, Nat.le_refl _⟩ ?_
    refine x_iret dX5_count_130 (Or.inl rfl) rfl (Nat.le_refl _) ?_
    exact RO.mk (by first | rfl | (simp [mCount, *]; done))
  by_cases k1_4 : w = 4
  · subst k1_4
    refine x_tableIn (off := 122) (tgt := 123) dX5_count_1 (by decide) (by decide) rfl (by decide) ?_
    refine x_aload_n dX5_count_123 rfl ?_
    refine x_iload_n dX5_count_124 rfl ?_
    refine x_iconst (v := 3) dX5_count_125 rfl ?_
    refine x_isub dX5_count_126 ?_
    refine c_VR dX5_count_127 kX5_lotsThatAre iX5_lotsThatAre q785 (t_lotsThatAre _ hM.z hL _) hM.z.ob rfl rfl rfl (Nat.le_of_ble_eq_true rfl) ⟨Nat.le_refl _, Nat.le_refl _⟩ ?_
    refine x_iret dX5_count_130 (Or.inl rfl) rfl (Nat.le_refl _) ?_
    exact RO.mk (by first | rfl | (simp [mCount, *]; done))
  by_cases k1_5 : w = 5
  · subst k1_5
    refine x_tableIn (off := 122) (tgt := 123) dX5_count_1 (by decide) (by decide) rfl (by decide) ?_
    refine x_aload_n dX5_count_123 rfl ?_
    refine x_iload_n dX5_count_124 rfl ?_
    refine x_iconst (v := 3) dX5_count_125 rfl ?_
    refine x_isub dX5_count_126 ?_
    refine c_VR dX5_count_127 kX5_lotsThatAre iX5_lotsThatAre q785 (t_lotsThatAre _ hM.z hL _) hM.z.ob rfl rfl rfl (Nat.le_of_ble_eq_true rfl) ⟨Nat.le_refl _, Nat.le_refl _⟩ ?_
    refine x_iret dX5_count_130 (Or.inl rfl) rfl (Nat.le_refl _) ?_
    exact RO.mk (by first | rfl | (simp [mCount, *]; done))
  by_cases k1_6 : w = 6
  · subst k1_6
    refine x_tableIn (off := 122) (tgt := 123) dX5_count_1 (by decide) (by decide) rfl (by decide) ?_
    refine x_aload_n dX5_count_123 rfl ?_
    refine x_iload_n dX5_count_124 rfl ?_
    refine x_iconst (v := 3) dX5_count_125 rfl ?_
    refine x_isub dX5_count_126 ?_
    refine c_VR dX5_count_127 kX5_lotsThatAre iX5_lotsThatAre q785 (t_lotsThatAre _ hM.z hL _) hM.z.ob rfl rfl rfl (Nat.le_of_ble_eq_true rfl) ⟨Nat.le_refl _, Nat.le_refl _⟩ ?_
    refine x_iret dX5_count_130 (Or.inl rfl) rfl (Nat.le_refl _) ?_
    exact RO.mk (by first | rfl | (simp [mCount, *]; done))
  by_cases k1_7 : w = 7
  · subst k1_7
    refine x_tableIn (off := 122) (tgt := 123) dX5_count_1 (by decide) (by decide) rfl (by decide) ?_
    refine x_aload_n dX5_count_123 rfl ?_
    refine x_iload_n dX5_count_124 rfl ?_
    refine x_iconst (v := 3) dX5_count_125 rfl ?_
    refine x_isub dX5_count_126 ?_
    refine c_VR dX5_count_127 kX5_lotsThatAre iX5_lotsThatAre q785 (t_lotsThatAre _ hM.z hL _) hM.z.ob rfl rfl rfl (Nat.le_of_ble_eq_true rfl) ⟨Nat.le_refl _, Nat.le_refl _⟩ ?_
    refine x_iret dX5_count_130 (Or.inl rfl) rfl (Nat.le_refl _) ?_
    exact RO.mk (by first | rfl | (simp [mCount, *]; done))
  by_cases k1_8 : w = 8
  · subst k1_8
    refine x_tableIn (off := 130) (tgt := 131) dX5_count_1 (by decide) (by decide) rfl (by decide) ?_
    refine x_aload_n dX5_count_131 rfl ?_
    refine x_sipush (v := 4095) dX5_count_132 rfl ?_
    refine c_VR dX5_count_135 kX5_valueOf iX5_valueOf q966 (t_valueOf _ hM.z hL _) hM.z.ob rfl rfl rfl (Nat.le_of_ble_eq_true rfl) ⟨Nat.le_refl _, Nat.le_refl _⟩ ?_
    refine x_iret dX5_count_138 (Or.inl rfl) rfl (Nat.le_refl _) ?_
    exact RO.mk (by first | rfl | (simp [mCount, *]; done))
  by_cases k1_9 : w = 9
  · subst k1_9
    refine x_tableIn (off := 138) (tgt := 139) dX5_count_1 (by decide) (by decide) rfl (by decide) ?_
    refine x_aload_n dX5_count_139 rfl ?_
    refine x_aload_n dX5_count_140 rfl ?_
    refine x_iconst (v := 0) dX5_count_141 rfl ?_
    refine c_VR dX5_count_142 kX5_lotsThatAre iX5_lotsThatAre q785 (t_lotsThatAre _ hM.z hL _) hM.z.ob rfl rfl rfl (Nat.le_of_ble_eq_true rfl) ⟨Nat.le_refl _, Nat.le_refl _⟩ ?_
    refine x_aload_n dX5_count_145 rfl ?_
    refine x_iconst (v := 1) dX5_count_146 rfl ?_
    refine c_VR dX5_count_147 kX5_lotsThatAre iX5_lotsThatAre q785 (t_lotsThatAre _ hM.z hL _) hM.z.ob rfl rfl rfl (Nat.le_of_ble_eq_true rfl) ⟨Nat.le_refl _, Nat.le_refl _⟩ ?_
    refine x_ior dX5_count_150 ?_
    refine c_VR dX5_count_151 kX5_valueOf iX5_valueOf q966 (t_valueOf _ hM.z hL _) hM.z.ob rfl rfl rfl (Nat.le_of_ble_eq_true rfl) ⟨Nat.le_refl _, Nat.le_refl _⟩ ?_
    refine x_iret dX5_count_154 (Or.inl rfl) rfl (Nat.le_refl _) ?_
    exact RO.mk (by first | rfl | (simp [mCount, *]; done))
  by_cases k1_10 : w = 10
  · subst k1_10
    refine x_tableIn (off := 154) (tgt := 155) dX5_count_1 (by decide) (by decide) rfl (by decide) ?_
    refine x_aload_n dX5_count_155 rfl ?_
    refine x_get dX5_count_156 fX5_7 hM.ob rfl ?_
    refine x_bipush (v := 6) dX5_count_159 rfl ?_
    refine z_ald (13) (3) dX5_count_161 hM.z (show zAt 13 3 6 from ⟨by decide, rfl⟩) (show ¬ (6 : Int32) < 0 ∧ Int32.toNatClampNeg 6 = 6 by decide) ?_
    refine x_iret dX5_count_162 (Or.inl rfl) rfl (Nat.le_refl _) ?_
    exact RO.mk (by first | rfl | (simp [mCount, *]; done))
  by_cases k1_11 : w = 11
  · subst k1_11
    refine x_tableIn (off := 162) (tgt := 163) dX5_count_1 (by decide) (by decide) rfl (by decide) ?_
    refine x_aload_n dX5_count_163 rfl ?_
    refine c_VR dX5_count_164 kX5_purses iX5_purses q970 (t_purses _ hM.z) hM.z.ob rfl rfl rfl (Nat.le_of_ble_eq_true rfl) ⟨Nat.le_refl _, Nat.le_refl _⟩ ?_
    refine x_iret dX5_count_167 (Or.inl rfl) rfl (Nat.le_refl _) ?_
    exact RO.mk (by first | rfl | (simp [mCount, *]; done))
  by_cases k1_12 : w = 12
  · subst k1_12
    refine x_tableIn (off := 167) (tgt := 168) dX5_count_1 (by decide) (by decide) rfl (by decide) ?_
    refine x_aload_n dX5_count_168 rfl ?_
    refine c_VR dX5_count_169 kX5_standingClaims iX5_standingClaims q974 (t_standingClaims _ hM.z hC) hM.z.ob rfl rfl rfl (Nat.le_of_ble_eq_true rfl) ⟨Nat.le_refl _, Nat.le_refl _⟩ ?_
    refine x_iret dX5_count_172 (Or.inl rfl) rfl (Nat.le_refl _) ?_
    exact RO.mk (by first | rfl | (simp [mCount, *]; done))
  by_cases k1_13 : w = 13
  · subst k1_13
    refine x_tableIn (off := 172) (tgt := 173) dX5_count_1 (by decide) (by decide) rfl (by decide) ?_
    refine x_aload_n dX5_count_173 rfl ?_
    refine c_VR dX5_count_174 kX5_heirsWhoClaimed iX5_heirsWhoClaimed q978 (t_heirsWhoClaimed _ hM.z hC) hM.z.ob rfl rfl rfl (Nat.le_of_ble_eq_true rfl) ⟨Nat.le_refl _, Nat.le_refl _⟩ ?_
    refine x_iret dX5_count_177 (Or.inl rfl) rfl (Nat.le_refl _) ?_
    exact RO.mk (by first | rfl | (simp [mCount, *]; done))
  by_cases k1_14 : w = 14
  · subst k1_14
    refine x_tableIn (off := 177) (tgt := 178) dX5_count_1 (by decide) (by decide) rfl (by decide) ?_
    refine x_aload_n dX5_count_178 rfl ?_
    refine x_get dX5_count_179 fX5_7 hM.ob rfl ?_
    refine x_iload_n dX5_count_182 rfl ?_
    refine x_bipush (v := 14) dX5_count_183 rfl ?_
    refine x_isub dX5_count_185 ?_
    refine z_ald (0) (0) dX5_count_186 hM.z (show zAt 0 0 0 from ⟨by decide, rfl⟩) (show ¬ (14 - 14 : Int32) < 0 ∧ Int32.toNatClampNeg (14 - 14) = 0 by decide) ?_
    refine x_iret dX5_count_187 (Or.inl rfl) rfl (Nat.le_refl _) ?_
    exact RO.mk (by first | rfl | (simp [mCount, *]; done))
  by_cases k1_15 : w = 15
  · subst k1_15
    refine x_tableIn (off := 177) (tgt := 178) dX5_count_1 (by decide) (by decide) rfl (by decide) ?_
    refine x_aload_n dX5_count_178 rfl ?_
    refine x_get dX5_count_179 fX5_7 hM.ob rfl ?_
    refine x_iload_n dX5_count_182 rfl ?_
    refine x_bipush (v := 14) dX5_count_183 rfl ?_
    refine x_isub dX5_count_185 ?_
    refine z_ald (0) (1) dX5_count_186 hM.z (show zAt 0 1 1 from ⟨by decide, rfl⟩) (show ¬ (15 - 14 : Int32) < 0 ∧ Int32.toNatClampNeg (15 - 14) = 1 by decide) ?_
    refine x_iret dX5_count_187 (Or.inl rfl) rfl (Nat.le_refl _) ?_
    exact RO.mk (by first | rfl | (simp [mCount, *]; done))
  by_cases k1_16 : w = 16
  · subst k1_16
    refine x_tableIn (off := 177) (tgt := 178) dX5_count_1 (by decide) (by decide) rfl (by decide) ?_
    refine x_aload_n dX5_count_178 rfl ?_
    refine x_get dX5_count_179 fX5_7 hM.ob rfl ?_
    refine x_iload_n dX5_count_182 rfl ?_
    refine x_bipush (v := 14) dX5_count_183 rfl ?_
    refine x_isub dX5_count_185 ?_
    refine z_ald (0) (2) dX5_count_186 hM.z (show zAt 0 2 2 from ⟨by decide, rfl⟩) (show ¬ (16 - 14 : Int32) < 0 ∧ Int32.toNatClampNeg (16 - 14) = 2 by decide) ?_
    refine x_iret dX5_count_187 (Or.inl rfl) rfl (Nat.le_refl _) ?_
    exact RO.mk (by first | rfl | (simp [mCount, *]; done))
  by_cases k1_17 : w = 17
  · subst k1_17
    refine x_tableIn (off := 177) (tgt := 178) dX5_count_1 (by decide) (by decide) rfl (by decide) ?_
    refine x_aload_n dX5_count_178 rfl ?_
    refine x_get dX5_count_179 fX5_7 hM.ob rfl ?_
    refine x_iload_n dX5_count_182 rfl ?_
    refine x_bipush (v := 14) dX5_count_183 rfl ?_
    refine x_isub dX5_count_185 ?_
    refine z_ald (0) (3) dX5_count_186 hM.z (show zAt 0 3 3 from ⟨by decide, rfl⟩) (show ¬ (17 - 14 : Int32) < 0 ∧ Int32.toNatClampNeg (17 - 14) = 3 by decide) ?_
    refine x_iret dX5_count_187 (Or.inl rfl) rfl (Nat.le_refl _) ?_
    exact RO.mk (by first | rfl | (simp [mCount, *]; done))
  by_cases k1_18 : w = 18
  · subst k1_18
    refine x_tableIn (off := 177) (tgt := 178) dX5_count_1 (by decide) (by decide) rfl (by decide) ?_
    refine x_aload_n dX5_count_178 rfl ?_
    refine x_get dX5_count_179 fX5_7 hM.ob rfl ?_
    refine x_iload_n dX5_count_182 rfl ?_
    refine x_bipush (v := 14) dX5_count_183 rfl ?_
    refine x_isub dX5_count_185 ?_
    refine z_ald (0) (4) dX5_count_186 hM.z (show zAt 0 4 4 from ⟨by decide, rfl⟩) (show ¬ (18 - 14 : Int32) < 0 ∧ Int32.toNatClampNeg (18 - 14) = 4 by decide) ?_
    refine x_iret dX5_count_187 (Or.inl rfl) rfl (Nat.le_refl _) ?_
    exact RO.mk (by first | rfl | (simp [mCount, *]; done))
  by_cases k1_19 : w = 19
  · subst k1_19
    refine x_tableIn (off := 187) (tgt := 188) dX5_count_1 (by decide) (by decide) rfl (by decide) ?_
    refine x_aload_n dX5_count_188 rfl ?_
    refine x_get dX5_count_189 fX5_197 hM.ob rfl ?_
    refine x_iret dX5_count_192 (Or.inl rfl) rfl (Nat.le_refl _) ?_
    exact RO.mk (by first | rfl | (simp [mCount, *]; done))
  by_cases k1_20 : w = 20
  · subst k1_20
    refine x_tableIn (off := 192) (tgt := 193) dX5_count_1 (by decide) (by decide) rfl (by decide) ?_
    refine x_aload_n dX5_count_193 rfl ?_
    refine x_get dX5_count_194 fX5_36 hM.ob rfl ?_
    refine x_iret dX5_count_197 (Or.inl rfl) rfl (Nat.le_refl _) ?_
    exact RO.mk (by first | rfl | (simp [mCount, *]; done))
  refine x_tableOut (tgt := 198) dX5_count_1 (sw_out fun n h1 h2 => by rcases (show n = 0 ∨ n = 1 ∨ n = 2 ∨ n = 3 ∨ n = 4 ∨ n = 5 ∨ n = 6 ∨ n = 7 ∨ n = 8 ∨ n = 9 ∨ n = 10 ∨ n = 11 ∨ n = 12 ∨ n = 13 ∨ n = 14 ∨ n = 15 ∨ n = 16 ∨ n = 17 ∨ n = 18 ∨ n = 19 ∨ n = 20 by omega) with rfl | rfl | rfl | rfl | rfl | rfl | rfl | rfl | rfl | rfl | rfl | rfl | rfl | rfl | rfl | rfl | rfl | rfl | rfl | rfl | rfl; exact k1_0; exact k1_1; exact k1_2; exact k1_3; exact k1_4; exact k1_5; exact k1_6; exact k1_7; exact k1_8; exact k1_9; exact k1_10; exact k1_11; exact k1_12; exact k1_13; exact k1_14; exact k1_15; exact k1_16; exact k1_17; exact k1_18; exact k1_19; exact k1_20) (by decide) ?_
  refine x_bipush (v := (-2)) dX5_count_198 rfl ?_
  refine x_iret dX5_count_200 (Or.inl rfl) rfl (Nat.le_refl _) ?_
  exact RO.mk (by first | rfl | (simp [mCount, *]; done))
