def wOrd (σ : Sg) (c f e g : Int32) : Int32 := if c = 99 then wClaim σ f e g else if c = 100 then wDecide σ f else if c = 108 then wLot σ f else if c = 110 then wNotice σ f else if c = 112 then wProve σ f e else if c = 115 then wSettle σ f else if c = 119 then wWithdraw σ f else wPass σ f
def nOrd (σ : Sg) (c f e g : Int32) : Sg := if c = 99 then nClaim σ f e g else if c = 100 then up2 σ 9 f.toNatClampNeg (nVerd σ f.toNatClampNeg) else if c = 108 then nLot σ f else if c = 110 then up2 σ 2 f.toNatClampNeg 1 else if c = 112 then nProve σ f.toNatClampNeg e else if c = 115 then mSettle σ f.toNatClampNeg else if c = 119 then up2 σ 9 f.toNatClampNeg 3 else (lp mPassF 0 f.toNatClampNeg (σ, 0)).1
def aOrd (σ : Sg) (c f e g : Int32) : Int32 := if c = 99 then σ 13 1 else if c = 100 then nVerd σ f.toNatClampNeg else if c = 108 then σ 13 0 else if c = 110 then mSize (lIn (up2 σ 2 f.toNatClampNeg 1) 1) else if c = 112 then nProof σ f.toNatClampNeg e else if c = 115 then mSize (mNear σ (cUpTo σ f)) else if c = 119 then mSize (cStandTo (up2 σ 9 f.toNatClampNeg 3) (σ 6 f.toNatClampNeg)) else (lp mPassF 0 f.toNatClampNeg (σ, 0)).2
def tOrd {α : Type} (tl : Nat → Int32) (i : Nat) (f : Int32 → Int32 → Int32 → Int32 → α) : α := f (tl (4 * i)) (tl (4 * i + 1)) (tl (4 * i + 2)) (tl (4 * i + 3))
theorem ng0 {v w : Int32} (h : v = 0) (e : v = w) : ¬ w < 0 := by
  rw [← e, h]
  decide
set_option maxRecDepth 100000 in
set_option maxHeartbeats 4000000 in
theorem m_whyNot {st : Nat → Nat} (d : Nat) {z : Nat} {h : Nat → Option va_E} {m : Nat} {ζ : Sg} {n nv : Nat} {G S : Nat → Sg} {sv tx : Nat → Int32} {ty sp : Int32} {tl : Nat → Int32} {tm : Int32} (hM : MAt h m ζ n nv G S sv tx ty sp tl tm) {i : Nat} (hi : i < 41) (hL : LOk ζ) (hC : COk ζ) : CT st (d + 5) yX5_whyNot cX5_whyNot 3 (some .int) [.ref m, .int (nI i)] (z, h) 0 0 (RO (some (.int (tOrd tl i (wOrd ζ)))) (z, h)) := by
  refine CT.of (lv := [.ref m, .int (nI i), .null]) (by decide) (Nat.le_of_ble_eq_true rfl) rfl rfl ?_
  refine x_aload_n dX5_whyNot_0 rfl ?_
  refine x_get dX5_whyNot_1 fX5_29 hM.ob rfl ?_
  refine x_iconst (v := 4) dX5_whyNot_4 rfl ?_
  refine x_iload_n dX5_whyNot_5 rfl ?_
  refine x_imul dX5_whyNot_6 ?_
  refine x_iconst (v := 1) dX5_whyNot_7 rfl ?_
  refine x_iadd dX5_whyNot_8 ?_
  refine e_ald dX5_whyNot_9 hM.told (show ax_ix _ 164 (4 * i + 1) from by rw [show (4 : Int32) = nI 4 from rfl, pk_mul, show (1 : Int32) = nI 1 from rfl, nI_add]; exact ax_ixN (by omega) (by decide)) ?_
  refine e_ist_n (lv' := fun w9 => [.ref m, .int (nI i), .int w9]) dX5_whyNot_10 (Nat.le_of_ble_eq_true rfl) rfl (fun _ => rfl) (fun v1 ev1 => ?_)
  have ev1 : tl (4 * i + 1) = v1 := (ev1.trans rfl).symm
  subst ev1
  refine x_aload_n dX5_whyNot_11 rfl ?_
  refine x_get dX5_whyNot_12 fX5_29 hM.ob rfl ?_
  refine x_iconst (v := 4) dX5_whyNot_15 rfl ?_
  refine x_iload_n dX5_whyNot_16 rfl ?_
  refine x_imul dX5_whyNot_17 ?_
  refine e_ald dX5_whyNot_18 hM.told (show ax_ix _ 164 (4 * i) from by rw [show (4 : Int32) = nI 4 from rfl, pk_mul]; exact ax_ixN (by omega) (by decide)) ?_
  refine e_nm2 (fun w ew => ?_)
  by_cases k19_99 : w = 99
  · subst k19_99
    refine x_tableIn (off := 109) (tgt := 128) dX5_whyNot_19 (by decide) (by decide) rfl (by decide) ?_
    refine x_aload_n dX5_whyNot_128 rfl ?_
    refine x_iload_n dX5_whyNot_129 rfl ?_
    refine x_aload_n dX5_whyNot_130 rfl ?_
    refine x_get dX5_whyNot_131 fX5_29 hM.ob rfl ?_
    refine x_iconst (v := 4) dX5_whyNot_134 rfl ?_
    refine x_iload_n dX5_whyNot_135 rfl ?_
    refine x_imul dX5_whyNot_136 ?_
    refine x_iconst (v := 2) dX5_whyNot_137 rfl ?_
    refine x_iadd dX5_whyNot_138 ?_
    refine e_ald dX5_whyNot_139 hM.told (show ax_ix _ 164 (4 * i + 2) from by rw [show (4 : Int32) = nI 4 from rfl, pk_mul, show (2 : Int32) = nI 2 from rfl, nI_add]; exact ax_ixN (by omega) (by decide)) ?_
    refine x_aload_n dX5_whyNot_140 rfl ?_
    refine x_get dX5_whyNot_141 fX5_29 hM.ob rfl ?_
    refine x_iconst (v := 4) dX5_whyNot_144 rfl ?_
    refine x_iload_n dX5_whyNot_145 rfl ?_
    refine x_imul dX5_whyNot_146 ?_
    refine x_iconst (v := 3) dX5_whyNot_147 rfl ?_
    refine x_iadd dX5_whyNot_148 ?_
    refine e_ald dX5_whyNot_149 hM.told (show ax_ix _ 164 (4 * i + 3) from by rw [show (4 : Int32) = nI 4 from rfl, pk_mul, show (3 : Int32) = nI 3 from rfl, nI_add]; exact ax_ixN (by omega) (by decide)) ?_
    refine c_VR dX5_whyNot_150 kX5_whyNotClaim iX5_whyNotClaim q796 (t_whyNotClaim _ hM.z hL hC _ _ _) hM.z.ob rfl rfl rfl (Nat.le_of_ble_eq_true rfl) ⟨Nat.le_refl _, Nat.le_refl _⟩ ?_
    refine x_iret dX5_whyNot_153 (Or.inl rfl) rfl (Nat.le_refl _) ?_
    exact RO.mk (by simp [tOrd, wOrd, *])
  by_cases k19_100 : w = 100
  · subst k19_100
    refine x_tableIn (off := 151) (tgt := 170) dX5_whyNot_19 (by decide) (by decide) rfl (by decide) ?_
    refine x_aload_n dX5_whyNot_170 rfl ?_
    refine x_iload_n dX5_whyNot_171 rfl ?_
    refine c_VR dX5_whyNot_172 kX5_whyNotDecide iX5_whyNotDecide q851 (t_whyNotDecide _ hM.z hC _) hM.z.ob rfl rfl rfl (Nat.le_of_ble_eq_true rfl) ⟨Nat.le_refl _, Nat.le_refl _⟩ ?_
    refine x_iret dX5_whyNot_175 (Or.inl rfl) rfl (Nat.le_refl _) ?_
    exact RO.mk (by simp [tOrd, wOrd, *])
  by_cases k19_108 : w = 108
  · subst k19_108
    refine x_tableIn (off := 97) (tgt := 116) dX5_whyNot_19 (by decide) (by decide) rfl (by decide) ?_
    refine x_aload_n dX5_whyNot_116 rfl ?_
    refine x_iload_n dX5_whyNot_117 rfl ?_
    refine c_VR dX5_whyNot_118 kX5_whyNotLot iX5_whyNotLot q753 (t_whyNotLot _ hM.z _) hM.z.ob rfl rfl rfl (Nat.le_of_ble_eq_true rfl) ⟨Nat.le_refl _, Nat.le_refl _⟩ ?_
    refine x_iret dX5_whyNot_121 (Or.inl rfl) rfl (Nat.le_refl _) ?_
    exact RO.mk (by simp [tOrd, wOrd, *])
  by_cases k19_110 : w = 110
  · subst k19_110
    refine x_tableIn (off := 103) (tgt := 122) dX5_whyNot_19 (by decide) (by decide) rfl (by decide) ?_
    refine x_aload_n dX5_whyNot_122 rfl ?_
    refine x_iload_n dX5_whyNot_123 rfl ?_
    refine c_VR dX5_whyNot_124 kX5_whyNotNotice iX5_whyNotNotice q769 (t_whyNotNotice _ hM.z hL _) hM.z.ob rfl rfl rfl (Nat.le_of_ble_eq_true rfl) ⟨Nat.le_refl _, Nat.le_refl _⟩ ?_
    refine x_iret dX5_whyNot_127 (Or.inl rfl) rfl (Nat.le_refl _) ?_
    exact RO.mk (by simp [tOrd, wOrd, *])
  by_cases k19_112 : w = 112
  · subst k19_112
    refine x_tableIn (off := 135) (tgt := 154) dX5_whyNot_19 (by decide) (by decide) rfl (by decide) ?_
    refine x_aload_n dX5_whyNot_154 rfl ?_
    refine x_iload_n dX5_whyNot_155 rfl ?_
    refine x_aload_n dX5_whyNot_156 rfl ?_
    refine x_get dX5_whyNot_157 fX5_29 hM.ob rfl ?_
    refine x_iconst (v := 4) dX5_whyNot_160 rfl ?_
    refine x_iload_n dX5_whyNot_161 rfl ?_
    refine x_imul dX5_whyNot_162 ?_
    refine x_iconst (v := 2) dX5_whyNot_163 rfl ?_
    refine x_iadd dX5_whyNot_164 ?_
    refine e_ald dX5_whyNot_165 hM.told (show ax_ix _ 164 (4 * i + 2) from by rw [show (4 : Int32) = nI 4 from rfl, pk_mul, show (2 : Int32) = nI 2 from rfl, nI_add]; exact ax_ixN (by omega) (by decide)) ?_
    refine c_VR dX5_whyNot_166 kX5_whyNotProve iX5_whyNotProve q831 (t_whyNotProve _ hM.z hC _ _) hM.z.ob rfl rfl rfl (Nat.le_of_ble_eq_true rfl) ⟨Nat.le_refl _, Nat.le_refl _⟩ ?_
    refine x_iret dX5_whyNot_169 (Or.inl rfl) rfl (Nat.le_refl _) ?_
    exact RO.mk (by simp [tOrd, wOrd, *])
  by_cases k19_115 : w = 115
  · subst k19_115
    refine x_tableIn (off := 163) (tgt := 182) dX5_whyNot_19 (by decide) (by decide) rfl (by decide) ?_
    refine x_aload_n dX5_whyNot_182 rfl ?_
    refine x_iload_n dX5_whyNot_183 rfl ?_
    refine c_VR dX5_whyNot_184 kX5_whyNotSettle iX5_whyNotSettle q883 (t_whyNotSettle _ hM.z hL hC _) hM.z.ob rfl rfl rfl (Nat.le_of_ble_eq_true rfl) ⟨Nat.le_refl _, Nat.le_refl _⟩ ?_
    refine x_iret dX5_whyNot_187 (Or.inl rfl) rfl (Nat.le_refl _) ?_
    exact RO.mk (by simp [tOrd, wOrd, *])
  by_cases k19_119 : w = 119
  · subst k19_119
    refine x_tableIn (off := 157) (tgt := 176) dX5_whyNot_19 (by decide) (by decide) rfl (by decide) ?_
    refine x_aload_n dX5_whyNot_176 rfl ?_
    refine x_iload_n dX5_whyNot_177 rfl ?_
    refine c_VR dX5_whyNot_178 kX5_whyNotWithdraw iX5_whyNotWithdraw q863 (t_whyNotWithdraw _ hM.z hC _) hM.z.ob rfl rfl rfl (Nat.le_of_ble_eq_true rfl) ⟨Nat.le_refl _, Nat.le_refl _⟩ ?_
    refine x_iret dX5_whyNot_181 (Or.inl rfl) rfl (Nat.le_refl _) ?_
    exact RO.mk (by simp [tOrd, wOrd, *])
  have dft : Ev st (d + 5) yX5_whyNot cX5_whyNot 3 (some .int) (z, h) 0 0 (RO (some (.int (tOrd tl i (wOrd ζ)))) (z, h)) 188 [.ref m, .int (nI i), .int (tl (4 * i + 1))] [] (z, h) 0 0 := by
    refine x_aload_n dX5_whyNot_188 rfl ?_
    refine x_iload_n dX5_whyNot_189 rfl ?_
    refine c_VR dX5_whyNot_190 kX5_whyNotPass iX5_whyNotPass q918 (t_whyNotPass _ hM.z _) hM.z.ob rfl rfl rfl (Nat.le_of_ble_eq_true rfl) ⟨Nat.le_refl _, Nat.le_refl _⟩ ?_
    refine x_iret dX5_whyNot_193 (Or.inl rfl) rfl (Nat.le_refl _) ?_
    exact RO.mk (by simp [tOrd, wOrd, *])
  by_cases k19_101 : w = 101
  · subst k19_101
    exact x_tableIn (off := 169) (tgt := 188) dX5_whyNot_19 (by decide) (by decide) rfl (by decide) dft
  by_cases k19_102 : w = 102
  · subst k19_102
    exact x_tableIn (off := 169) (tgt := 188) dX5_whyNot_19 (by decide) (by decide) rfl (by decide) dft
  by_cases k19_103 : w = 103
  · subst k19_103
    exact x_tableIn (off := 169) (tgt := 188) dX5_whyNot_19 (by decide) (by decide) rfl (by decide) dft
  by_cases k19_104 : w = 104
  · subst k19_104
    exact x_tableIn (off := 169) (tgt := 188) dX5_whyNot_19 (by decide) (by decide) rfl (by decide) dft
  by_cases k19_105 : w = 105
  · subst k19_105
    exact x_tableIn (off := 169) (tgt := 188) dX5_whyNot_19 (by decide) (by decide) rfl (by decide) dft
  by_cases k19_106 : w = 106
  · subst k19_106
    exact x_tableIn (off := 169) (tgt := 188) dX5_whyNot_19 (by decide) (by decide) rfl (by decide) dft
  by_cases k19_107 : w = 107
  · subst k19_107
    exact x_tableIn (off := 169) (tgt := 188) dX5_whyNot_19 (by decide) (by decide) rfl (by decide) dft
  by_cases k19_109 : w = 109
  · subst k19_109
    exact x_tableIn (off := 169) (tgt := 188) dX5_whyNot_19 (by decide) (by decide) rfl (by decide) dft
  by_cases k19_111 : w = 111
  · subst k19_111
    exact x_tableIn (off := 169) (tgt := 188) dX5_whyNot_19 (by decide) (by decide) rfl (by decide) dft
  by_cases k19_113 : w = 113
  · subst k19_113
    exact x_tableIn (off := 169) (tgt := 188) dX5_whyNot_19 (by decide) (by decide) rfl (by decide) dft
  by_cases k19_114 : w = 114
  · subst k19_114
    exact x_tableIn (off := 169) (tgt := 188) dX5_whyNot_19 (by decide) (by decide) rfl (by decide) dft
  by_cases k19_116 : w = 116
  · subst k19_116
    exact x_tableIn (off := 169) (tgt := 188) dX5_whyNot_19 (by decide) (by decide) rfl (by decide) dft
  by_cases k19_117 : w = 117
  · subst k19_117
    exact x_tableIn (off := 169) (tgt := 188) dX5_whyNot_19 (by decide) (by decide) rfl (by decide) dft
  by_cases k19_118 : w = 118
  · subst k19_118
    exact x_tableIn (off := 169) (tgt := 188) dX5_whyNot_19 (by decide) (by decide) rfl (by decide) dft
  exact x_tableOut (tgt := 188) dX5_whyNot_19 (sw_out fun n h1 h2 => by rcases (show n = 99 ∨ n = 100 ∨ n = 101 ∨ n = 102 ∨ n = 103 ∨ n = 104 ∨ n = 105 ∨ n = 106 ∨ n = 107 ∨ n = 108 ∨ n = 109 ∨ n = 110 ∨ n = 111 ∨ n = 112 ∨ n = 113 ∨ n = 114 ∨ n = 115 ∨ n = 116 ∨ n = 117 ∨ n = 118 ∨ n = 119 by omega) with rfl | rfl | rfl | rfl | rfl | rfl | rfl | rfl | rfl | rfl | rfl | rfl | rfl | rfl | rfl | rfl | rfl | rfl | rfl | rfl | rfl; exact k19_99; exact k19_100; exact k19_101; exact k19_102; exact k19_103; exact k19_104; exact k19_105; exact k19_106; exact k19_107; exact k19_108; exact k19_109; exact k19_110; exact k19_111; exact k19_112; exact k19_113; exact k19_114; exact k19_115; exact k19_116; exact k19_117; exact k19_118; exact k19_119) (by decide) dft

set_option maxRecDepth 100000 in
set_option maxHeartbeats 4000000 in
theorem m_doOrder {st : Nat → Nat} (d : Nat) {z : Nat} {h : Nat → Option va_E} {m : Nat} {ζ : Sg} {n nv : Nat} {G S : Nat → Sg} {sv tx : Nat → Int32} {ty sp : Int32} {tl : Nat → Int32} {tm : Int32} (hM : MAt h m ζ n nv G S sv tx ty sp tl tm) {i : Nat} (hi : i < 41) (hL : LOk ζ) (hC : COk ζ) (hH : WH ζ) (hWP : WP ζ) (hw : tOrd tl i (wOrd ζ) = 0) : CT st (d + 8) yX5_doOrder cX5_doOrder 3 (some .int) [.ref m, .int (nI i)] (z, h) 0 0 (MMO (some (.int (tOrd tl i (aOrd ζ)))) z m h (tOrd tl i (nOrd ζ)) (n) (nv) (G) (S) (sv) (tx) (ty) (sp) (tl) (tm)) := by
  refine CT.of (lv := [.ref m, .int (nI i), .null]) (by decide) (Nat.le_of_ble_eq_true rfl) rfl rfl ?_
  refine x_aload_n dX5_doOrder_0 rfl ?_
  refine x_get dX5_doOrder_1 fX5_29 hM.ob rfl ?_
  refine x_iconst (v := 4) dX5_doOrder_4 rfl ?_
  refine x_iload_n dX5_doOrder_5 rfl ?_
  refine x_imul dX5_doOrder_6 ?_
  refine x_iconst (v := 1) dX5_doOrder_7 rfl ?_
  refine x_iadd dX5_doOrder_8 ?_
  refine e_ald dX5_doOrder_9 hM.told (show ax_ix _ 164 (4 * i + 1) from by rw [show (4 : Int32) = nI 4 from rfl, pk_mul, show (1 : Int32) = nI 1 from rfl, nI_add]; exact ax_ixN (by omega) (by decide)) ?_
  refine e_ist_n (lv' := fun w9 => [.ref m, .int (nI i), .int w9]) dX5_doOrder_10 (Nat.le_of_ble_eq_true rfl) rfl (fun _ => rfl) (fun v1 ev1 => ?_)
  have ev1 : tl (4 * i + 1) = v1 := (ev1.trans rfl).symm
  subst ev1
  refine x_aload_n dX5_doOrder_11 rfl ?_
  refine x_get dX5_doOrder_12 fX5_29 hM.ob rfl ?_
  refine x_iconst (v := 4) dX5_doOrder_15 rfl ?_
  refine x_iload_n dX5_doOrder_16 rfl ?_
  refine x_imul dX5_doOrder_17 ?_
  refine e_ald dX5_doOrder_18 hM.told (show ax_ix _ 164 (4 * i) from by rw [show (4 : Int32) = nI 4 from rfl, pk_mul]; exact ax_ixN (by omega) (by decide)) ?_
  refine e_nm2 (fun w ew => ?_)
  by_cases k19_99 : w = 99
  · subst k19_99
    refine x_tableIn (off := 109) (tgt := 128) dX5_doOrder_19 (by decide) (by decide) rfl (by decide) ?_
    have e0 := hw
    have e0 : wClaim ζ (tl (4 * i + 1)) (tl (4 * i + 2)) (tl (4 * i + 3)) = 0 := by have := hw; simpa [tOrd, wOrd, ew, *] using this
    have hng : ¬ wClaim ζ (tl (4 * i + 1)) (tl (4 * i + 2)) (tl (4 * i + 3)) < 0 := ng0 e0 rfl
    have hj12 := hL.2
    have hj30 := hC.2
    refine x_aload_n dX5_doOrder_128 rfl ?_
    refine x_iload_n dX5_doOrder_129 rfl ?_
    refine x_aload_n dX5_doOrder_130 rfl ?_
    refine x_get dX5_doOrder_131 fX5_29 hM.ob rfl ?_
    refine x_iconst (v := 4) dX5_doOrder_134 rfl ?_
    refine x_iload_n dX5_doOrder_135 rfl ?_
    refine x_imul dX5_doOrder_136 ?_
    refine x_iconst (v := 2) dX5_doOrder_137 rfl ?_
    refine x_iadd dX5_doOrder_138 ?_
    refine e_ald dX5_doOrder_139 hM.told (show ax_ix _ 164 (4 * i + 2) from by rw [show (4 : Int32) = nI 4 from rfl, pk_mul, show (2 : Int32) = nI 2 from rfl, nI_add]; exact ax_ixN (by omega) (by decide)) ?_
    refine x_aload_n dX5_doOrder_140 rfl ?_
    refine x_get dX5_doOrder_141 fX5_29 hM.ob rfl ?_
    refine x_iconst (v := 4) dX5_doOrder_144 rfl ?_
    refine x_iload_n dX5_doOrder_145 rfl ?_
    refine x_imul dX5_doOrder_146 ?_
    refine x_iconst (v := 3) dX5_doOrder_147 rfl ?_
    refine x_iadd dX5_doOrder_148 ?_
    refine e_ald dX5_doOrder_149 hM.told (show ax_ix _ 164 (4 * i + 3) from by rw [show (4 : Int32) = nI 4 from rfl, pk_mul, show (3 : Int32) = nI 3 from rfl, nI_add]; exact ax_ixN (by omega) (by decide)) ?_
    refine c_VZ dX5_doOrder_150 kX5_claimNow iX5_claimNow q819 (t_claimNow _ hM.z hC (wClaim_ok hC hng) _ _ _) hM.z.ob rfl rfl rfl (Nat.le_of_ble_eq_true rfl) ⟨Nat.le_refl _, Nat.le_refl _⟩ (fun h2 hO2 hF2 => ?_)
    have hM2 := hM.setZ hO2 hF2
    have hG2 : Fr m 8 _ h2 := hF2.wide (by omega) (by omega)
    refine x_iret dX5_doOrder_153 (Or.inl rfl) rfl (Nat.le_refl _) ?_
    skip
    exact ⟨by simp [tOrd, aOrd, *], _, rfl, by (have hMz := hM2; revert hMz; simp only [tOrd, nOrd]; rw [ew]; first | (rw [hcl]; simp [*]; done) | (simp [*]; done)), hG2⟩
  by_cases k19_100 : w = 100
  · subst k19_100
    refine x_tableIn (off := 151) (tgt := 170) dX5_doOrder_19 (by decide) (by decide) rfl (by decide) ?_
    have e0 := hw
    have e0 : wDecide ζ (tl (4 * i + 1)) = 0 := by have := hw; simpa [tOrd, wOrd, ew, *] using this
    have hng : ¬ wDecide ζ (tl (4 * i + 1)) < 0 := ng0 e0 rfl
    have hj12 := hL.2
    have hj30 := hC.2
    obtain ⟨j, hj, ej⟩ := wDecide_ok hC hng
    have hcl : (tl (4 * i + 1)).toNatClampNeg = j := by rw [ej]; exact nI_cl (by omega)
    have hclj : (nI j).toNatClampNeg = j := nI_cl (by omega)
    rw [ej]
    refine x_aload_n dX5_doOrder_170 rfl ?_
    refine x_iload_n dX5_doOrder_171 rfl ?_
    refine c_VZ dX5_doOrder_172 kX5_decideNow iX5_decideNow q855 (t_decideNow _ hM.z (j := j) (by omega)) hM.z.ob rfl rfl rfl (Nat.le_of_ble_eq_true rfl) ⟨Nat.le_refl _, Nat.le_refl _⟩ (fun h3 hO3 hF3 => ?_)
    have hM3 := hM.setZ hO3 hF3
    have hG3 : Fr m 8 _ h3 := hF3.wide (by omega) (by omega)
    refine x_iret dX5_doOrder_175 (Or.inl rfl) rfl (Nat.le_refl _) ?_
    skip
    exact ⟨by simp [tOrd, aOrd, *], _, rfl, by (have hMz := hM3; revert hMz; simp only [tOrd, nOrd]; rw [ew]; first | (rw [hcl]; simp [*]; done) | (simp [*]; done)), hG3⟩
  by_cases k19_108 : w = 108
  · subst k19_108
    refine x_tableIn (off := 97) (tgt := 116) dX5_doOrder_19 (by decide) (by decide) rfl (by decide) ?_
    have e0 := hw
    have e0 : wLot ζ (tl (4 * i + 1)) = 0 := by have := hw; simpa [tOrd, wOrd, ew, *] using this
    have hng : ¬ wLot ζ (tl (4 * i + 1)) < 0 := ng0 e0 rfl
    have hj12 := hL.2
    have hj30 := hC.2
    refine x_aload_n dX5_doOrder_116 rfl ?_
    refine x_iload_n dX5_doOrder_117 rfl ?_
    refine c_VZ dX5_doOrder_118 kX5_lotNow iX5_lotNow q757 (t_lotNow _ hM.z hL (wLot_ok hL hng) _) hM.z.ob rfl rfl rfl (Nat.le_of_ble_eq_true rfl) ⟨Nat.le_refl _, Nat.le_refl _⟩ (fun h4 hO4 hF4 => ?_)
    have hM4 := hM.setZ hO4 hF4
    have hG4 : Fr m 8 _ h4 := hF4.wide (by omega) (by omega)
    refine x_iret dX5_doOrder_121 (Or.inl rfl) rfl (Nat.le_refl _) ?_
    skip
    exact ⟨by simp [tOrd, aOrd, *], _, rfl, by (have hMz := hM4; revert hMz; simp only [tOrd, nOrd]; rw [ew]; first | (rw [hcl]; simp [*]; done) | (simp [*]; done)), hG4⟩
  by_cases k19_110 : w = 110
  · subst k19_110
    refine x_tableIn (off := 103) (tgt := 122) dX5_doOrder_19 (by decide) (by decide) rfl (by decide) ?_
    have e0 := hw
    have e0 : wNotice ζ (tl (4 * i + 1)) = 0 := by have := hw; simpa [tOrd, wOrd, ew, *] using this
    have hng : ¬ wNotice ζ (tl (4 * i + 1)) < 0 := ng0 e0 rfl
    have hj12 := hL.2
    have hj30 := hC.2
    obtain ⟨j, hj, ej⟩ := wNotice_ok hL hng
    have hcl : (tl (4 * i + 1)).toNatClampNeg = j := by rw [ej]; exact nI_cl (by omega)
    have hclj : (nI j).toNatClampNeg = j := nI_cl (by omega)
    rw [ej]
    refine x_aload_n dX5_doOrder_122 rfl ?_
    refine x_iload_n dX5_doOrder_123 rfl ?_
    refine c_VZ dX5_doOrder_124 kX5_noticeNow iX5_noticeNow q781 (t_noticeNow _ hM.z hL (j := j) (by omega)) hM.z.ob rfl rfl rfl (Nat.le_of_ble_eq_true rfl) ⟨Nat.le_refl _, Nat.le_refl _⟩ (fun h5 hO5 hF5 => ?_)
    have hM5 := hM.setZ hO5 hF5
    have hG5 : Fr m 8 _ h5 := hF5.wide (by omega) (by omega)
    refine x_iret dX5_doOrder_127 (Or.inl rfl) rfl (Nat.le_refl _) ?_
    skip
    exact ⟨by simp [tOrd, aOrd, *], _, rfl, by (have hMz := hM5; revert hMz; simp only [tOrd, nOrd]; rw [ew]; first | (rw [hcl]; simp [*]; done) | (simp [*]; done)), hG5⟩
  by_cases k19_112 : w = 112
  · subst k19_112
    refine x_tableIn (off := 135) (tgt := 154) dX5_doOrder_19 (by decide) (by decide) rfl (by decide) ?_
    have e0 := hw
    have e0 : wProve ζ (tl (4 * i + 1)) (tl (4 * i + 2)) = 0 := by have := hw; simpa [tOrd, wOrd, ew, *] using this
    have hng : ¬ wProve ζ (tl (4 * i + 1)) (tl (4 * i + 2)) < 0 := ng0 e0 rfl
    have hj12 := hL.2
    have hj30 := hC.2
    obtain ⟨j, hj, ej⟩ := wProve_ok hC hng
    have hcl : (tl (4 * i + 1)).toNatClampNeg = j := by rw [ej]; exact nI_cl (by omega)
    have hclj : (nI j).toNatClampNeg = j := nI_cl (by omega)
    rw [ej]
    refine x_aload_n dX5_doOrder_154 rfl ?_
    refine x_iload_n dX5_doOrder_155 rfl ?_
    refine x_aload_n dX5_doOrder_156 rfl ?_
    refine x_get dX5_doOrder_157 fX5_29 hM.ob rfl ?_
    refine x_iconst (v := 4) dX5_doOrder_160 rfl ?_
    refine x_iload_n dX5_doOrder_161 rfl ?_
    refine x_imul dX5_doOrder_162 ?_
    refine x_iconst (v := 2) dX5_doOrder_163 rfl ?_
    refine x_iadd dX5_doOrder_164 ?_
    refine e_ald dX5_doOrder_165 hM.told (show ax_ix _ 164 (4 * i + 2) from by rw [show (4 : Int32) = nI 4 from rfl, pk_mul, show (2 : Int32) = nI 2 from rfl, nI_add]; exact ax_ixN (by omega) (by decide)) ?_
    refine c_VZ dX5_doOrder_166 kX5_proveNow iX5_proveNow q843 (t_proveNow _ hM.z (j := j) (by omega) _) hM.z.ob rfl rfl rfl (Nat.le_of_ble_eq_true rfl) ⟨Nat.le_refl _, Nat.le_refl _⟩ (fun h6 hO6 hF6 => ?_)
    have hM6 := hM.setZ hO6 hF6
    have hG6 : Fr m 8 _ h6 := hF6.wide (by omega) (by omega)
    refine x_iret dX5_doOrder_169 (Or.inl rfl) rfl (Nat.le_refl _) ?_
    skip
    exact ⟨by simp [tOrd, aOrd, *], _, rfl, by (have hMz := hM6; revert hMz; simp only [tOrd, nOrd]; rw [ew]; first | (rw [hcl]; simp [*]; done) | (simp [*]; done)), hG6⟩
  by_cases k19_115 : w = 115
  · subst k19_115
    refine x_tableIn (off := 163) (tgt := 182) dX5_doOrder_19 (by decide) (by decide) rfl (by decide) ?_
    have e0 := hw
    have e0 : wSettle ζ (tl (4 * i + 1)) = 0 := by have := hw; simpa [tOrd, wOrd, ew, *] using this
    have hng : ¬ wSettle ζ (tl (4 * i + 1)) < 0 := ng0 e0 rfl
    have hj12 := hL.2
    have hj30 := hC.2
    obtain ⟨j, hj, ej⟩ := wSettle_ok hL hng
    have hcl : (tl (4 * i + 1)).toNatClampNeg = j := by rw [ej]; exact nI_cl (by omega)
    have hclj : (nI j).toNatClampNeg = j := nI_cl (by omega)
    rw [ej]
    refine x_aload_n dX5_doOrder_182 rfl ?_
    refine x_iload_n dX5_doOrder_183 rfl ?_
    refine c_VZ dX5_doOrder_184 kX5_settleNow iX5_settleNow q887 (t_settleNow _ hM.z hC hH hWP (j := j) (by omega)) hM.z.ob rfl rfl rfl (Nat.le_of_ble_eq_true rfl) ⟨Nat.le_refl _, Nat.le_refl _⟩ (fun h7 hO7 hF7 => ?_)
    have hM7 := hM.setZ hO7 hF7
    have hG7 : Fr m 8 _ h7 := hF7.wide (by omega) (by omega)
    refine x_iret dX5_doOrder_187 (Or.inl rfl) rfl (Nat.le_refl _) ?_
    skip
    exact ⟨by simp [tOrd, aOrd, *], _, rfl, by (have hMz := hM7; revert hMz; simp only [tOrd, nOrd]; rw [ew]; first | (rw [hcl]; simp [*]; done) | (simp [*]; done)), hG7⟩
  by_cases k19_119 : w = 119
  · subst k19_119
    refine x_tableIn (off := 157) (tgt := 176) dX5_doOrder_19 (by decide) (by decide) rfl (by decide) ?_
    have e0 := hw
    have e0 : wWithdraw ζ (tl (4 * i + 1)) = 0 := by have := hw; simpa [tOrd, wOrd, ew, *] using this
    have hng : ¬ wWithdraw ζ (tl (4 * i + 1)) < 0 := ng0 e0 rfl
    have hj12 := hL.2
    have hj30 := hC.2
    obtain ⟨j, hj, ej⟩ := wWithdraw_ok hC hng
    have hcl : (tl (4 * i + 1)).toNatClampNeg = j := by rw [ej]; exact nI_cl (by omega)
    have hclj : (nI j).toNatClampNeg = j := nI_cl (by omega)
    rw [ej]
    refine x_aload_n dX5_doOrder_176 rfl ?_
    refine x_iload_n dX5_doOrder_177 rfl ?_
    refine c_VZ dX5_doOrder_178 kX5_withdrawNow iX5_withdrawNow q867 (t_withdrawNow _ hM.z hC (j := j) (by omega)) hM.z.ob rfl rfl rfl (Nat.le_of_ble_eq_true rfl) ⟨Nat.le_refl _, Nat.le_refl _⟩ (fun h8 hO8 hF8 => ?_)
    have hM8 := hM.setZ hO8 hF8
    have hG8 : Fr m 8 _ h8 := hF8.wide (by omega) (by omega)
    refine x_iret dX5_doOrder_181 (Or.inl rfl) rfl (Nat.le_refl _) ?_
    skip
    exact ⟨by simp [tOrd, aOrd, *], _, rfl, by (have hMz := hM8; revert hMz; simp only [tOrd, nOrd]; rw [ew]; first | (rw [hcl]; simp [*]; done) | (simp [*]; done)), hG8⟩
  have dft : Ev st (d + 8) yX5_doOrder cX5_doOrder 3 (some .int) (z, h) 0 0 (MMO (some (.int (tOrd tl i (aOrd ζ)))) z m h (tOrd tl i (nOrd ζ)) (n) (nv) (G) (S) (sv) (tx) (ty) (sp) (tl) (tm)) 188 [.ref m, .int (nI i), .int (tl (4 * i + 1))] [] (z, h) 0 0 := by
    have e0 := hw
    have e0 : wPass ζ (tl (4 * i + 1)) = 0 := by have := hw; simpa [tOrd, wOrd, ew, *] using this
    have hng : ¬ wPass ζ (tl (4 * i + 1)) < 0 := ng0 e0 rfl
    have hj12 := hL.2
    have hj30 := hC.2
    obtain ⟨j, hj, ej⟩ := wPass_ok2 hng
    have hcl : (tl (4 * i + 1)).toNatClampNeg = j := by rw [ej]; exact nI_cl (by omega)
    have hclj : (nI j).toNatClampNeg = j := nI_cl (by omega)
    rw [ej]
    refine x_aload_n dX5_doOrder_188 rfl ?_
    refine x_iload_n dX5_doOrder_189 rfl ?_
    refine c_VZ dX5_doOrder_190 kX5_passNow iX5_passNow q922 (t_passNow _ hM.z hL hC (N := j) (by omega)) hM.z.ob rfl rfl rfl (Nat.le_of_ble_eq_true rfl) ⟨Nat.le_refl _, Nat.le_refl _⟩ (fun h9 hO9 hF9 => ?_)
    have hM9 := hM.setZ hO9 hF9
    have hG9 : Fr m 8 _ h9 := hF9.wide (by omega) (by omega)
    refine x_iret dX5_doOrder_193 (Or.inl rfl) rfl (Nat.le_refl _) ?_
    skip
    exact ⟨by simp [tOrd, aOrd, *], _, rfl, by (have hMz := hM9; revert hMz; simp only [tOrd, nOrd]; rw [ew]; first | (rw [hcl]; simp [*]; done) | (simp [*]; done)), hG9⟩
  by_cases k19_101 : w = 101
  · subst k19_101
    exact x_tableIn (off := 169) (tgt := 188) dX5_doOrder_19 (by decide) (by decide) rfl (by decide) dft
  by_cases k19_102 : w = 102
  · subst k19_102
    exact x_tableIn (off := 169) (tgt := 188) dX5_doOrder_19 (by decide) (by decide) rfl (by decide) dft
  by_cases k19_103 : w = 103
  · subst k19_103
    exact x_tableIn (off := 169) (tgt := 188) dX5_doOrder_19 (by decide) (by decide) rfl (by decide) dft
  by_cases k19_104 : w = 104
  · subst k19_104
    exact x_tableIn (off := 169) (tgt := 188) dX5_doOrder_19 (by decide) (by decide) rfl (by decide) dft
  by_cases k19_105 : w = 105
  · subst k19_105
    exact x_tableIn (off := 169) (tgt := 188) dX5_doOrder_19 (by decide) (by decide) rfl (by decide) dft
  by_cases k19_106 : w = 106
  · subst k19_106
    exact x_tableIn (off := 169) (tgt := 188) dX5_doOrder_19 (by decide) (by decide) rfl (by decide) dft
  by_cases k19_107 : w = 107
  · subst k19_107
    exact x_tableIn (off := 169) (tgt := 188) dX5_doOrder_19 (by decide) (by decide) rfl (by decide) dft
  by_cases k19_109 : w = 109
  · subst k19_109
    exact x_tableIn (off := 169) (tgt := 188) dX5_doOrder_19 (by decide) (by decide) rfl (by decide) dft
  by_cases k19_111 : w = 111
  · subst k19_111
    exact x_tableIn (off := 169) (tgt := 188) dX5_doOrder_19 (by decide) (by decide) rfl (by decide) dft
  by_cases k19_113 : w = 113
  · subst k19_113
    exact x_tableIn (off := 169) (tgt := 188) dX5_doOrder_19 (by decide) (by decide) rfl (by decide) dft
  by_cases k19_114 : w = 114
  · subst k19_114
    exact x_tableIn (off := 169) (tgt := 188) dX5_doOrder_19 (by decide) (by decide) rfl (by decide) dft
  by_cases k19_116 : w = 116
  · subst k19_116
    exact x_tableIn (off := 169) (tgt := 188) dX5_doOrder_19 (by decide) (by decide) rfl (by decide) dft
  by_cases k19_117 : w = 117
  · subst k19_117
    exact x_tableIn (off := 169) (tgt := 188) dX5_doOrder_19 (by decide) (by decide) rfl (by decide) dft
  by_cases k19_118 : w = 118
  · subst k19_118
    exact x_tableIn (off := 169) (tgt := 188) dX5_doOrder_19 (by decide) (by decide) rfl (by decide) dft
  exact x_tableOut (tgt := 188) dX5_doOrder_19 (sw_out fun n h1 h2 => by rcases (show n = 99 ∨ n = 100 ∨ n = 101 ∨ n = 102 ∨ n = 103 ∨ n = 104 ∨ n = 105 ∨ n = 106 ∨ n = 107 ∨ n = 108 ∨ n = 109 ∨ n = 110 ∨ n = 111 ∨ n = 112 ∨ n = 113 ∨ n = 114 ∨ n = 115 ∨ n = 116 ∨ n = 117 ∨ n = 118 ∨ n = 119 by omega) with rfl | rfl | rfl | rfl | rfl | rfl | rfl | rfl | rfl | rfl | rfl | rfl | rfl | rfl | rfl | rfl | rfl | rfl | rfl | rfl | rfl; exact k19_99; exact k19_100; exact k19_101; exact k19_102; exact k19_103; exact k19_104; exact k19_105; exact k19_106; exact k19_107; exact k19_108; exact k19_109; exact k19_110; exact k19_111; exact k19_112; exact k19_113; exact k19_114; exact k19_115; exact k19_116; exact k19_117; exact k19_118; exact k19_119) (by decide) dft
