/-! CONSTRUCTORS: what they make -/
def IQ (z a mc : Nat) (h : Nat → Option va_E) (P : (Nat → Option va_E) → Prop) : Option Value → Hp → Prop := fun r hp' => r = none ∧ ∃ h', hp' = (z + mc, h') ∧ P h' ∧ ∀ q, q < z → q ≠ a → h' q = h q
def z0 : Sg := fun a b => if a = 0 then ax_f 2 b else 0
section INI
variable {st : Nat → Nat} {k : Nat} {y : MethodName} {cc : ByteArray} {nL : Nat} {ret : Option FieldType} {hp0 : Hp} {mc ms : Nat} {fin : Option Value → Hp → Prop} {pc : Nat} {lv stk : List Value} {cl sl : Nat}
theorem e_nf {a idx ci j N z t : Nat} {n : Int32} {ty : FieldType} {fs : List Value} {h : Nat → Option va_E} (ht : t < 3) (hd : decode cc pc = .ok (.newarray (ax_at t), 2)) (hd2 : decode cc (pc + 2) = .ok (.putfield idx, 3)) (hw : Cond.arrayClass (newarray.typeOf (ax_at t)) ∈ TB) (hf : ax_fl y.cls idx ci j ty true) (hown : (vwCl[ci]?).map (fun q => q.1) = some y.cls) (hin : y.name = "<init>") (hh : h a = some (.inr (ci, fs))) (ha : a < z) (hnn : ¬ n < 0) (hN : n.toNatClampNeg = N) (hb : N ≤ 100000) (hnr : narrow ty (.ref z) = .ref z) (hft : fits ty (.ref z) = true) (hj : j < fs.length) (hm : cl + 1 ≤ mc) (hms : sl + N ≤ ms) (k0 : ∀ h', h' a = some (.inr (ci, fs.set j (.ref z))) → h' z = some (.inl (t, N, .inl (fun _ => 0))) → (∀ q, q ≠ a → q ≠ z → h' q = h q) → Ev st k y cc nL ret hp0 mc ms fin (pc + 5) lv stk (z + 1, h') (cl + 1) (sl + N)) : Ev st k y cc nL ret hp0 mc ms fin pc lv (.int n :: .ref a :: stk) (z, h) cl sl := by
  refine x_newa t ht hd hw hnn hN hb hm hms ?_
  refine x_putF (pc := pc + 2) hd2 hf hown hin (show hset h z _ a = _ from (hset_n _ (by omega)).trans hh) hnr hft hj ?_
  exact k0 _ (hset_s _ _ _) ((hset_n _ (by omega)).trans (hset_s _ _ _)) (fun q h1 h2 => (hset_n _ h1).trans (hset_n _ h2))
theorem e_pf {a idx ci j : Nat} {x : Int32} {ty : FieldType} {fs : List Value} {z : Nat} {h : Nat → Option va_E} (hd : decode cc pc = .ok (.putfield idx, 3)) (hf : ax_fl y.cls idx ci j ty false) (hh : h a = some (.inr (ci, fs))) (hn : narrow ty (.int x) = .int x) (hft : fits ty (.int x) = true) (hj : j < fs.length) (k0 : ∀ h', h' a = some (.inr (ci, fs.set j (.int x))) → (∀ q, q ≠ a → h' q = h q) → Ev st k y cc nL ret hp0 mc ms fin (pc + 3) lv stk (z, h') cl sl) : Ev st k y cc nL ret hp0 mc ms fin pc lv (.int x :: .ref a :: stk) (z, h) cl sl :=
  x_put hd hf hh hn hft hj (k0 _ (hset_s _ _ _) (fun q hq => hset_n _ hq))
theorem e_as {a len j z : Nat} {i x : Int32} {g : Nat → Int32} {h : Nat → Option va_E} (hd : decode cc pc = .ok (.iastore, 1)) (hA : RwAt h 0 a len g) (hi : ax_ix i len j) (k0 : ∀ h', RwAt h' 0 a len (upd g j x) → (∀ q, q ≠ a → h' q = h q) → Ev st k y cc nL ret hp0 mc ms fin (pc + 1) lv stk (z, h') cl sl) : Ev st k y cc nL ret hp0 mc ms fin pc lv (.int x :: .int i :: .ref a :: stk) (z, h) cl sl := e_ast (hp := (z, h)) hd hA hi k0
end INI
theorem RwAt.zero {h : Nat → Option va_E} {t a len : Nat} (e : h a = some (.inl (t, len, .inl (fun _ => 0)))) {g : Nat → Int32} (hg : ∀ i, i < len → g i = 0) : RwAt h t a len g := ⟨_, e, fun i hi => (hg i hi).symm⟩
set_option maxRecDepth 100000 in
set_option maxHeartbeats 4000000 in
theorem i_lots {st : Nat → Nat} (d : Nat) {h : Nat → Option va_E} {a : Nat} (o0 : h a = some (.inr (1, [.int 0, .null, .null, .null, .null]))) : CT st (d + 1) yX1_init cX1_init 1 none [.ref a] (a + 1, h) 4 48 (IQ (a + 1) a 4 h (fun h' => LotsAt h' a z0)) := by
  refine CT.of (lv := [.ref a]) (by decide) (Nat.le_of_ble_eq_true rfl) rfl rfl ?_
  refine x_aload_n dX1_init_0 rfl ?_
  refine x_obj dX1_init_1 q48 ⟨q35, q36⟩ (Nat.le_of_ble_eq_true rfl) ?_
  refine x_aload_n dX1_init_4 rfl ?_
  refine x_iconst (v := 0) dX1_init_5 rfl ?_
  refine e_pf dX1_init_6 fX1_9 o0 rfl rfl (Nat.le_of_ble_eq_true rfl) (fun h1 o1 g1 => ?_)
  refine x_aload_n dX1_init_9 rfl ?_
  refine x_bipush (v := 12) dX1_init_10 rfl ?_
  refine e_nf (t := 0) (N := 12) (by decide) dX1_init_12 dX1_init_14 q71 fX1_15 rfl rfl o1 (by omega) (by decide) rfl (Nat.le_of_ble_eq_true rfl) rfl rfl (Nat.le_of_ble_eq_true rfl) (Nat.le_of_ble_eq_true rfl) (Nat.le_of_ble_eq_true rfl) (fun h2 o2 n2 g2 => ?_)
  refine x_aload_n dX1_init_17 rfl ?_
  refine x_bipush (v := 12) dX1_init_18 rfl ?_
  refine e_nf (t := 0) (N := 12) (by decide) dX1_init_20 dX1_init_22 q71 fX1_19 rfl rfl o2 (by omega) (by decide) rfl (Nat.le_of_ble_eq_true rfl) rfl rfl (Nat.le_of_ble_eq_true rfl) (Nat.le_of_ble_eq_true rfl) (Nat.le_of_ble_eq_true rfl) (fun h3 o3 n3 g3 => ?_)
  refine x_aload_n dX1_init_25 rfl ?_
  refine x_bipush (v := 12) dX1_init_26 rfl ?_
  refine e_nf (t := 0) (N := 12) (by decide) dX1_init_28 dX1_init_30 q71 fX1_22 rfl rfl o3 (by omega) (by decide) rfl (Nat.le_of_ble_eq_true rfl) rfl rfl (Nat.le_of_ble_eq_true rfl) (Nat.le_of_ble_eq_true rfl) (Nat.le_of_ble_eq_true rfl) (fun h4 o4 n4 g4 => ?_)
  refine x_aload_n dX1_init_33 rfl ?_
  refine x_bipush (v := 12) dX1_init_34 rfl ?_
  refine e_nf (t := 0) (N := 12) (by decide) dX1_init_36 dX1_init_38 q71 fX1_25 rfl rfl o4 (by omega) (by decide) rfl (Nat.le_of_ble_eq_true rfl) rfl rfl (Nat.le_of_ble_eq_true rfl) (Nat.le_of_ble_eq_true rfl) (Nat.le_of_ble_eq_true rfl) (fun h5 o5 n5 g5 => ?_)
  refine x_vret dX1_init_41 rfl rfl (Nat.le_of_ble_eq_true rfl) ?_
  have m1 : h5 (a + 1) = some (.inl (0, 12, .inl (fun _ => 0))) := by
    rw [g5 _ (by omega) (by omega), g4 _ (by omega) (by omega), g3 _ (by omega) (by omega)]
    exact n2
  have m2 : h5 (a + 2) = some (.inl (0, 12, .inl (fun _ => 0))) := by
    rw [g5 _ (by omega) (by omega), g4 _ (by omega) (by omega)]
    exact n3
  have m3 : h5 (a + 3) = some (.inl (0, 12, .inl (fun _ => 0))) := by
    rw [g5 _ (by omega) (by omega)]
    exact n4
  have m4 : h5 (a + 4) = some (.inl (0, 12, .inl (fun _ => 0))) := by
    exact n5
  have mf : ∀ q, q < a + 1 → q ≠ a → h5 q = h q := fun q hq hne => by
    rw [g5 _ (by omega) (by omega), g4 _ (by omega) (by omega), g3 _ (by omega) (by omega), g2 _ (by omega) (by omega), g1 _ (by omega)]
  exact ⟨rfl, _, rfl, ⟨o5, RwAt.zero m1 (fun _ _ => rfl), RwAt.zero m2 (fun _ _ => rfl), RwAt.zero m3 (fun _ _ => rfl), RwAt.zero m4 (fun _ _ => rfl)⟩, mf⟩
set_option maxRecDepth 100000 in
set_option maxHeartbeats 4000000 in
theorem i_claims {st : Nat → Nat} (d : Nat) {h : Nat → Option va_E} {a : Nat} (o0 : h a = some (.inr (0, [.int 0, .null, .null, .null, .null, .null, .null, .null]))) : CT st (d + 1) yX0_init cX0_init 1 none [.ref a] (a + 1, h) 7 210 (IQ (a + 1) a 7 h (fun h' => ClaimsAt h' a z0)) := by
  refine CT.of (lv := [.ref a]) (by decide) (Nat.le_of_ble_eq_true rfl) rfl rfl ?_
  refine x_aload_n dX0_init_0 rfl ?_
  refine x_obj dX0_init_1 q77 ⟨q35, q36⟩ (Nat.le_of_ble_eq_true rfl) ?_
  refine x_aload_n dX0_init_4 rfl ?_
  refine x_iconst (v := 0) dX0_init_5 rfl ?_
  refine e_pf dX0_init_6 fX0_9 o0 rfl rfl (Nat.le_of_ble_eq_true rfl) (fun h1 o1 g1 => ?_)
  refine x_aload_n dX0_init_9 rfl ?_
  refine x_bipush (v := 30) dX0_init_10 rfl ?_
  refine e_nf (t := 0) (N := 30) (by decide) dX0_init_12 dX0_init_14 q71 fX0_15 rfl rfl o1 (by omega) (by decide) rfl (Nat.le_of_ble_eq_true rfl) rfl rfl (Nat.le_of_ble_eq_true rfl) (Nat.le_of_ble_eq_true rfl) (Nat.le_of_ble_eq_true rfl) (fun h2 o2 n2 g2 => ?_)
  refine x_aload_n dX0_init_17 rfl ?_
  refine x_bipush (v := 30) dX0_init_18 rfl ?_
  refine e_nf (t := 0) (N := 30) (by decide) dX0_init_20 dX0_init_22 q71 fX0_19 rfl rfl o2 (by omega) (by decide) rfl (Nat.le_of_ble_eq_true rfl) rfl rfl (Nat.le_of_ble_eq_true rfl) (Nat.le_of_ble_eq_true rfl) (Nat.le_of_ble_eq_true rfl) (fun h3 o3 n3 g3 => ?_)
  refine x_aload_n dX0_init_25 rfl ?_
  refine x_bipush (v := 30) dX0_init_26 rfl ?_
  refine e_nf (t := 0) (N := 30) (by decide) dX0_init_28 dX0_init_30 q71 fX0_22 rfl rfl o3 (by omega) (by decide) rfl (Nat.le_of_ble_eq_true rfl) rfl rfl (Nat.le_of_ble_eq_true rfl) (Nat.le_of_ble_eq_true rfl) (Nat.le_of_ble_eq_true rfl) (fun h4 o4 n4 g4 => ?_)
  refine x_aload_n dX0_init_33 rfl ?_
  refine x_bipush (v := 30) dX0_init_34 rfl ?_
  refine e_nf (t := 0) (N := 30) (by decide) dX0_init_36 dX0_init_38 q71 fX0_25 rfl rfl o4 (by omega) (by decide) rfl (Nat.le_of_ble_eq_true rfl) rfl rfl (Nat.le_of_ble_eq_true rfl) (Nat.le_of_ble_eq_true rfl) (Nat.le_of_ble_eq_true rfl) (fun h5 o5 n5 g5 => ?_)
  refine x_aload_n dX0_init_41 rfl ?_
  refine x_bipush (v := 30) dX0_init_42 rfl ?_
  refine e_nf (t := 0) (N := 30) (by decide) dX0_init_44 dX0_init_46 q71 fX0_28 rfl rfl o5 (by omega) (by decide) rfl (Nat.le_of_ble_eq_true rfl) rfl rfl (Nat.le_of_ble_eq_true rfl) (Nat.le_of_ble_eq_true rfl) (Nat.le_of_ble_eq_true rfl) (fun h6 o6 n6 g6 => ?_)
  refine x_aload_n dX0_init_49 rfl ?_
  refine x_bipush (v := 30) dX0_init_50 rfl ?_
  refine e_nf (t := 0) (N := 30) (by decide) dX0_init_52 dX0_init_54 q71 fX0_31 rfl rfl o6 (by omega) (by decide) rfl (Nat.le_of_ble_eq_true rfl) rfl rfl (Nat.le_of_ble_eq_true rfl) (Nat.le_of_ble_eq_true rfl) (Nat.le_of_ble_eq_true rfl) (fun h7 o7 n7 g7 => ?_)
  refine x_aload_n dX0_init_57 rfl ?_
  refine x_bipush (v := 30) dX0_init_58 rfl ?_
  refine e_nf (t := 0) (N := 30) (by decide) dX0_init_60 dX0_init_62 q71 fX0_34 rfl rfl o7 (by omega) (by decide) rfl (Nat.le_of_ble_eq_true rfl) rfl rfl (Nat.le_of_ble_eq_true rfl) (Nat.le_of_ble_eq_true rfl) (Nat.le_of_ble_eq_true rfl) (fun h8 o8 n8 g8 => ?_)
  refine x_vret dX0_init_65 rfl rfl (Nat.le_of_ble_eq_true rfl) ?_
  have m1 : h8 (a + 1) = some (.inl (0, 30, .inl (fun _ => 0))) := by
    rw [g8 _ (by omega) (by omega), g7 _ (by omega) (by omega), g6 _ (by omega) (by omega), g5 _ (by omega) (by omega), g4 _ (by omega) (by omega), g3 _ (by omega) (by omega)]
    exact n2
  have m2 : h8 (a + 2) = some (.inl (0, 30, .inl (fun _ => 0))) := by
    rw [g8 _ (by omega) (by omega), g7 _ (by omega) (by omega), g6 _ (by omega) (by omega), g5 _ (by omega) (by omega), g4 _ (by omega) (by omega)]
    exact n3
  have m3 : h8 (a + 3) = some (.inl (0, 30, .inl (fun _ => 0))) := by
    rw [g8 _ (by omega) (by omega), g7 _ (by omega) (by omega), g6 _ (by omega) (by omega), g5 _ (by omega) (by omega)]
    exact n4
  have m4 : h8 (a + 4) = some (.inl (0, 30, .inl (fun _ => 0))) := by
    rw [g8 _ (by omega) (by omega), g7 _ (by omega) (by omega), g6 _ (by omega) (by omega)]
    exact n5
  have m5 : h8 (a + 5) = some (.inl (0, 30, .inl (fun _ => 0))) := by
    rw [g8 _ (by omega) (by omega), g7 _ (by omega) (by omega)]
    exact n6
  have m6 : h8 (a + 6) = some (.inl (0, 30, .inl (fun _ => 0))) := by
    rw [g8 _ (by omega) (by omega)]
    exact n7
  have m7 : h8 (a + 7) = some (.inl (0, 30, .inl (fun _ => 0))) := by
    exact n8
  have mf : ∀ q, q < a + 1 → q ≠ a → h8 q = h q := fun q hq hne => by
    rw [g8 _ (by omega) (by omega), g7 _ (by omega) (by omega), g6 _ (by omega) (by omega), g5 _ (by omega) (by omega), g4 _ (by omega) (by omega), g3 _ (by omega) (by omega), g2 _ (by omega) (by omega), g1 _ (by omega)]
  exact ⟨rfl, _, rfl, ⟨o8, RwAt.zero m1 (fun _ _ => rfl), RwAt.zero m2 (fun _ _ => rfl), RwAt.zero m3 (fun _ _ => rfl), RwAt.zero m4 (fun _ _ => rfl), RwAt.zero m5 (fun _ _ => rfl), RwAt.zero m6 (fun _ _ => rfl), RwAt.zero m7 (fun _ _ => rfl)⟩, mf⟩
set_option maxRecDepth 100000 in
set_option maxHeartbeats 4000000 in
theorem i_pad {st : Nat → Nat} (d : Nat) {h : Nat → Option va_E} {a : Nat} (o0 : h a = some (.inr (3, [.null, .int 0, .int 0, .int 0, .int 0, .int 0, .int 0]))) : CT st (d + 1) yX3_init cX3_init 1 none [.ref a] (a + 1, h) 1 80 (IQ (a + 1) a 1 h (fun h' => PadAt h' a (fun _ => 0) (0, 0, 32, 0, 0, 0))) := by
  refine CT.of (lv := [.ref a]) (by decide) (Nat.le_of_ble_eq_true rfl) rfl rfl ?_
  refine x_aload_n dX3_init_0 rfl ?_
  refine x_obj dX3_init_1 q150 ⟨q35, q36⟩ (Nat.le_of_ble_eq_true rfl) ?_
  refine x_aload_n dX3_init_4 rfl ?_
  refine x_bipush (v := 80) dX3_init_5 rfl ?_
  refine e_nf (t := 2) (N := 80) (by decide) dX3_init_7 dX3_init_9 q179 fX3_9 rfl rfl o0 (by omega) (by decide) rfl (Nat.le_of_ble_eq_true rfl) rfl rfl (Nat.le_of_ble_eq_true rfl) (Nat.le_of_ble_eq_true rfl) (Nat.le_of_ble_eq_true rfl) (fun h1 o1 n1 g1 => ?_)
  refine x_aload_n dX3_init_12 rfl ?_
  refine x_iconst (v := 0) dX3_init_13 rfl ?_
  refine e_pf dX3_init_14 fX3_15 o1 rfl rfl (Nat.le_of_ble_eq_true rfl) (fun h2 o2 g2 => ?_)
  refine x_aload_n dX3_init_17 rfl ?_
  refine x_iconst (v := 0) dX3_init_18 rfl ?_
  refine e_pf dX3_init_19 fX3_19 o2 rfl rfl (Nat.le_of_ble_eq_true rfl) (fun h3 o3 g3 => ?_)
  refine x_aload_n dX3_init_22 rfl ?_
  refine x_bipush (v := 32) dX3_init_23 rfl ?_
  refine e_pf dX3_init_25 fX3_22 o3 rfl rfl (Nat.le_of_ble_eq_true rfl) (fun h4 o4 g4 => ?_)
  refine x_aload_n dX3_init_28 rfl ?_
  refine x_iconst (v := 0) dX3_init_29 rfl ?_
  refine e_pf dX3_init_30 fX3_26 o4 rfl rfl (Nat.le_of_ble_eq_true rfl) (fun h5 o5 g5 => ?_)
  refine x_aload_n dX3_init_33 rfl ?_
  refine x_iconst (v := 0) dX3_init_34 rfl ?_
  refine e_pf dX3_init_35 fX3_29 o5 rfl rfl (Nat.le_of_ble_eq_true rfl) (fun h6 o6 g6 => ?_)
  refine x_aload_n dX3_init_38 rfl ?_
  refine x_iconst (v := 0) dX3_init_39 rfl ?_
  refine e_pf dX3_init_40 fX3_32 o6 rfl rfl (Nat.le_of_ble_eq_true rfl) (fun h7 o7 g7 => ?_)
  refine x_vret dX3_init_43 rfl rfl (Nat.le_of_ble_eq_true rfl) ?_
  have m1 : h7 (a + 1) = some (.inl (2, 80, .inl (fun _ => 0))) := by
    rw [g7 _ (by omega), g6 _ (by omega), g5 _ (by omega), g4 _ (by omega), g3 _ (by omega), g2 _ (by omega)]
    exact n1
  have mf : ∀ q, q < a + 1 → q ≠ a → h7 q = h q := fun q hq hne => by
    rw [g7 _ (by omega), g6 _ (by omega), g5 _ (by omega), g4 _ (by omega), g3 _ (by omega), g2 _ (by omega), g1 _ (by omega) (by omega)]
  exact ⟨rfl, _, rfl, ⟨o7, RwAt.zero m1 (fun _ _ => rfl), fun _ => (show (0 : Nat) < 65536 by decide)⟩, mf⟩
