/-! constructors of an office and of the class -/
section INJ
variable {st : Nat → Nat} {k : Nat} {y : MethodName} {cc : ByteArray} {nL : Nat} {ret : Option FieldType} {hp0 : Hp} {mc ms : Nat} {fin : Option Value → Hp → Prop} {pc : Nat} {lv stk stk0 : List Value} {cl sl : Nat}
theorem e_nw {idx ci N z z1 : Nat} {C : String} {T : u_T} {fs : List Value} {h : Nat → Option va_E} (ty : Nat → FieldType) (hz : z1 = z + 1) (hd : decode cc pc = .ok (.new idx, 3)) (hc : vwCl[ci]? = some (C, T, N)) (hty : ∀ j, j < N → parseFieldDescriptor (T j).2.2.1 = some (ty j)) (hw : Cond.classLink y.cls idx C ∈ TB ∧ Cond.instantiable C N ∈ TB ∧ Cond.initialized C ∈ TB) (hfs : ∀ j, j < N → defaultValue (ty j) = vp_V fs j) (hm : cl + 1 ≤ mc) (hms : sl + N ≤ ms) (k0 : ∀ h', h' z = some (.inr (ci, fs)) → (∀ q, q ≠ z → h' q = h q) → Ev st k y cc nL ret hp0 mc ms fin (pc + 3) lv (.ref z :: stk) (z1, h') (cl + 1) (sl + N)) : Ev st k y cc nL ret hp0 mc ms fin pc lv stk (z, h) cl sl := by
  subst hz
  exact x_new (hp := (z, h)) ty hd hc hty hw hfs hm hms (k0 _ (hset_s _ _ _) (fun q hq => hset_n _ hq))
theorem e_pF {a idx ci j z v : Nat} {ty : FieldType} {fs : List Value} {h : Nat → Option va_E} (hd : decode cc pc = .ok (.putfield idx, 3)) (hf : ax_fl y.cls idx ci j ty true) (hown : (vwCl[ci]?).map (fun q => q.1) = some y.cls) (hin : y.name = "<init>") (hh : h a = some (.inr (ci, fs))) (hn : narrow ty (.ref v) = .ref v) (hft : fits ty (.ref v) = true) (hj : j < fs.length) (k0 : ∀ h', h' a = some (.inr (ci, fs.set j (.ref v))) → (∀ q, q ≠ a → h' q = h q) → Ev st k y cc nL ret hp0 mc ms fin (pc + 3) lv stk (z, h') cl sl) : Ev st k y cc nL ret hp0 mc ms fin pc lv (.ref v :: .ref a :: stk) (z, h) cl sl :=
  x_putF (hp := (z, h)) hd hf hown hin hh hn hft hj (k0 _ (hset_s _ _ _) (fun q hq => hset_n _ hq))
theorem e_na {a idx ci j N z z1 t : Nat} {n : Int32} {ty : FieldType} {fs : List Value} {h : Nat → Option va_E} (hz : z1 = z + 1) (ht : t < 3) (hd : decode cc pc = .ok (.newarray (ax_at t), 2)) (hd2 : decode cc (pc + 2) = .ok (.putfield idx, 3)) (hw : Cond.arrayClass (newarray.typeOf (ax_at t)) ∈ TB) (hf : ax_fl y.cls idx ci j ty true) (hown : (vwCl[ci]?).map (fun q => q.1) = some y.cls) (hin : y.name = "<init>") (hh : h a = some (.inr (ci, fs))) (ha : a < z) (hnn : ¬ n < 0) (hN : n.toNatClampNeg = N) (hb : N ≤ 100000) (hnr : narrow ty (.ref z) = .ref z) (hft : fits ty (.ref z) = true) (hj : j < fs.length) (hm : cl + 1 ≤ mc) (hms : sl + N ≤ ms) (k0 : ∀ h', h' a = some (.inr (ci, fs.set j (.ref z))) → h' z = some (.inl (t, N, .inl (fun _ => 0))) → (∀ q, q ≠ a → q ≠ z → h' q = h q) → Ev st k y cc nL ret hp0 mc ms fin (pc + 5) lv stk (z1, h') (cl + 1) (sl + N)) : Ev st k y cc nL ret hp0 mc ms fin pc lv (.int n :: .ref a :: stk) (z, h) cl sl := by
  subst hz
  exact e_nf ht hd hd2 hw hf hown hin hh ha hnn hN hb hnr hft hj hm hms k0
theorem e_nq {a idx idx2 ci j N z z1 : Nat} {n : Int32} {ty : FieldType} {fs : List Value} {h : Nat → Option va_E} (hz : z1 = z + 1) (hd : decode cc pc = .ok (.anewarray idx, 3)) (hd2 : decode cc (pc + 3) = .ok (.putfield idx2, 3)) (hw : Cond.classLink y.cls idx "EscheatLots$Office" ∈ TB) (hf : ax_fl y.cls idx2 ci j ty true) (hown : (vwCl[ci]?).map (fun q => q.1) = some y.cls) (hin : y.name = "<init>") (hh : h a = some (.inr (ci, fs))) (ha : a < z) (hnn : ¬ n < 0) (hN : n.toNatClampNeg = N) (hb : N ≤ 100000) (hnr : narrow ty (.ref z) = .ref z) (hft : fits ty (.ref z) = true) (hj : j < fs.length) (hm : cl + 1 ≤ mc) (hms : sl + N ≤ ms) (k0 : ∀ h', h' a = some (.inr (ci, fs.set j (.ref z))) → h' z = some (qrefs (fun _ => none) N) → (∀ q, q ≠ a → q ≠ z → h' q = h q) → Ev st k y cc nL ret hp0 mc ms fin (pc + 6) lv stk (z1, h') (cl + 1) (sl + N)) : Ev st k y cc nL ret hp0 mc ms fin pc lv (.int n :: .ref a :: stk) (z, h) cl sl := by
  subst hz
  refine x_newq hd hw hnn hN hb hm hms ?_
  refine x_putF (pc := pc + 3) hd2 hf hown hin (show hset h z _ a = _ from (hset_n _ (by omega)).trans hh) hnr hft hj ?_
  exact k0 _ (hset_s _ _ _) ((hset_n _ (by omega)).trans (hset_s _ _ _)) (fun q h1 h2 => (hset_n _ h1).trans (hset_n _ h2))
theorem e_cin {host : String} {idx n1 nL1 a z z1 mc1 ms1 : Nat} {y1 : MethodName} {cc1 : ByteArray} {P : (Nat → Option va_E) → Prop} {h : Nat → Option va_E} (hz : z1 = z + mc1) (hd : decode cc pc = .ok (.invokespecial idx, 3)) (hy : ax_kM y1 cc1 nL1 none 0) (hy1 : y1.name = "<init>") (hi : Cond.instanceMethod y1 ∈ TB) (hl : Cond.methodLinkNest y.cls idx y1 host ∈ NB) (hc : CT st k y1 cc1 nL1 none [.ref a] (z, h) mc1 ms1 (IQ z a mc1 h P)) (hr : (stk.map fun v => v.category).sum ≤ 8) (hm : cl + mc1 ≤ mc ∧ sl + ms1 ≤ ms) (k0 : ∀ h', P h' → (∀ q, q < z → q ≠ a → h' q = h q) → Ev st (k + 1) y cc nL ret hp0 mc ms fin (pc + 3) lv stk (z1, h') (cl + mc1) (sl + ms1)) : Ev st (k + 1) y cc nL ret hp0 mc ms fin pc lv (.ref a :: stk) (z, h) cl sl := by
  subst hz
  refine x_callIN (As := []) (n := 0) hd hy hy1 hi hl hc rfl rfl hr hm (fun r hp' hq => ?_)
  obtain ⟨rfl, h', rfl, q1, q2⟩ := hq
  exact k0 h' q1 q2
theorem e_ci {idx nL1 a z z1 mc1 ms1 : Nat} {y1 : MethodName} {cc1 : ByteArray} {P : (Nat → Option va_E) → Prop} {h : Nat → Option va_E} (hz : z1 = z + mc1) (hd : decode cc pc = .ok (.invokespecial idx, 3)) (hy : ax_kM y1 cc1 nL1 none 0) (hy1 : y1.name = "<init>") (hi : Cond.instanceMethod y1 ∈ TB) (hl : Cond.methodLink y.cls idx y1 ∈ TB) (hc : CT st k y1 cc1 nL1 none [.ref a] (z, h) mc1 ms1 (IQ z a mc1 h P)) (hr : (stk.map fun v => v.category).sum ≤ 8) (hm : cl + mc1 ≤ mc ∧ sl + ms1 ≤ ms) (k0 : ∀ h', P h' → (∀ q, q < z → q ≠ a → h' q = h q) → Ev st (k + 1) y cc nL ret hp0 mc ms fin (pc + 3) lv stk (z1, h') (cl + mc1) (sl + ms1)) : Ev st (k + 1) y cc nL ret hp0 mc ms fin pc lv (.ref a :: stk) (z, h) cl sl := by
  subst hz
  refine x_callI (As := []) (n := 0) hd hy hy1 hi hl hc rfl rfl hr hm (fun r hp' hq => ?_)
  obtain ⟨rfl, h', rfl, q1, q2⟩ := hq
  exact k0 h' q1 q2
theorem e_cpS {host : String} {idx n1 nL1 a b t z : Nat} {f : Nat → Int32} {h : Nat → Option va_E} (hd : decode cc pc = .ok (.invokestatic idx, 3)) (hy : ax_kM yX4_copy cX4_copy nL1 none 2) (hi : Cond.static yX4_copy ∈ TB) (hl : Cond.methodLinkNest y.cls idx yX4_copy host ∈ NB) (hc : CT st k yX4_copy cX4_copy nL1 none [.ref b, .ref a] (z, h) 0 0 (CQ z a n1 h f)) (hr : (stk.map fun v => v.category).sum ≤ 8) (hm : cl ≤ mc ∧ sl ≤ ms) (k0 : ∀ h', RwAt h' 0 a n1 f → (∀ q, q ≠ a → h' q = h q) → Ev st (k + 1) y cc nL ret hp0 mc ms fin (pc + 3) lv stk (z, h') cl sl) : Ev st (k + 1) y cc nL ret hp0 mc ms fin pc lv (.ref a :: .ref b :: stk) (z, h) cl sl := by
  refine x_callSN (As := [.ref b, .ref a]) (n := 2) hd hy hi hl hc rfl rfl hr hm (fun r hp' hq => ?_)
  obtain ⟨rfl, h', rfl, q1, q2⟩ := hq
  exact k0 h' q1 q2
end INJ
set_option maxRecDepth 100000 in
set_option maxHeartbeats 4000000 in
theorem i_office {st : Nat → Nat} (d : Nat) {h : Nat → Option va_E} {a : Nat} (o0 : h a = some (.inr (2, [.null, .null, .null, .null, .int 0, .int 0, .int 0]))) : CT st (d + 2) yX2_init cX2_init 1 none [.ref a] (a + 1, h) 15 292 (IQ (a + 1) a 15 h (fun h' => OffAt h' a z0)) := by
  refine CT.of (lv := [.ref a]) (by decide) (Nat.le_of_ble_eq_true rfl) rfl rfl ?_
  refine x_aload_n dX2_init_0 rfl ?_
  refine x_obj dX2_init_1 q42 ⟨q35, q36⟩ (Nat.le_of_ble_eq_true rfl) ?_
  refine x_aload_n dX2_init_4 rfl ?_
  refine x_iconst (v := 5) dX2_init_5 rfl ?_
  refine e_na (z1 := a + 2) (t := 0) (N := 5) rfl (by decide) dX2_init_6 dX2_init_8 q71 fX2_9 rfl rfl o0 (by omega) (by decide) rfl (Nat.le_of_ble_eq_true rfl) rfl rfl (Nat.le_of_ble_eq_true rfl) (Nat.le_of_ble_eq_true rfl) (Nat.le_of_ble_eq_true rfl) (fun h1 o1 n1 g1 => ?_)
  refine x_aload_n dX2_init_11 rfl ?_
  refine e_nw (z1 := a + 3) (fs := [.int 0, .null, .null, .null, .null]) tyX1 rfl dX2_init_12 (ci := 1) rfl tyX1_ok ⟨q43, q44, q23⟩ (fun j hj => by rcases (show j = 0 ∨ j = 1 ∨ j = 2 ∨ j = 3 ∨ j = 4 by omega) with rfl | rfl | rfl | rfl | rfl <;> rfl) (Nat.le_of_ble_eq_true rfl) (Nat.le_of_ble_eq_true rfl) (fun h2 n2 g2 => ?_)
  refine x_dup dX2_init_15 rfl ?_
  refine e_cin (n1 := 0) (z1 := a + 7) rfl dX2_init_16 kX1_init rfl q46 q45 (i_lots _ n2) (Nat.le_of_ble_eq_true rfl) ⟨Nat.le_of_ble_eq_true rfl, Nat.le_of_ble_eq_true rfl⟩ (fun h3 l3 g3 => ?_)
  refine e_pF dX2_init_19 fX2_18 rfl rfl ((g3 a (by omega) (by omega)).trans ((g2 a (by omega)).trans o1)) rfl rfl (Nat.le_of_ble_eq_true rfl) (fun h4 o4 g4 => ?_)
  refine x_aload_n dX2_init_22 rfl ?_
  refine e_nw (z1 := a + 8) (fs := [.int 0, .null, .null, .null, .null, .null, .null, .null]) tyX0 rfl dX2_init_23 (ci := 0) rfl tyX0_ok ⟨q72, q73, q24⟩ (fun j hj => by rcases (show j = 0 ∨ j = 1 ∨ j = 2 ∨ j = 3 ∨ j = 4 ∨ j = 5 ∨ j = 6 ∨ j = 7 by omega) with rfl | rfl | rfl | rfl | rfl | rfl | rfl | rfl <;> rfl) (Nat.le_of_ble_eq_true rfl) (Nat.le_of_ble_eq_true rfl) (fun h5 n5 g5 => ?_)
  refine x_dup dX2_init_26 rfl ?_
  refine e_cin (n1 := 0) (z1 := a + 15) rfl dX2_init_27 kX0_init rfl q75 q74 (i_claims _ n5) (Nat.le_of_ble_eq_true rfl) ⟨Nat.le_of_ble_eq_true rfl, Nat.le_of_ble_eq_true rfl⟩ (fun h6 c6 g6 => ?_)
  refine e_pF dX2_init_30 fX2_25 rfl rfl ((g6 a (by omega) (by omega)).trans ((g5 a (by omega)).trans o4)) rfl rfl (Nat.le_of_ble_eq_true rfl) (fun h7 o7 g7 => ?_)
  refine x_aload_n dX2_init_33 rfl ?_
  refine x_bipush (v := 16) dX2_init_34 rfl ?_
  refine e_na (z1 := a + 16) (t := 0) (N := 16) rfl (by decide) dX2_init_36 dX2_init_38 q71 fX2_29 rfl rfl o7 (by omega) (by decide) rfl (Nat.le_of_ble_eq_true rfl) rfl rfl (Nat.le_of_ble_eq_true rfl) (Nat.le_of_ble_eq_true rfl) (Nat.le_of_ble_eq_true rfl) (fun h8 o8 n8 g8 => ?_)
  refine x_aload_n dX2_init_41 rfl ?_
  refine x_iconst (v := 0) dX2_init_42 rfl ?_
  refine e_pf dX2_init_43 fX2_32 o8 rfl rfl (Nat.le_of_ble_eq_true rfl) (fun h9 o9 g9 => ?_)
  refine x_aload_n dX2_init_46 rfl ?_
  refine x_iconst (v := 0) dX2_init_47 rfl ?_
  refine e_pf dX2_init_48 fX2_36 o9 rfl rfl (Nat.le_of_ble_eq_true rfl) (fun h10 o10 g10 => ?_)
  refine x_aload_n dX2_init_51 rfl ?_
  refine x_iconst (v := 0) dX2_init_52 rfl ?_
  refine e_pf dX2_init_53 fX2_39 o10 rfl rfl (Nat.le_of_ble_eq_true rfl) (fun h11 o11 g11 => ?_)
  have up1 : ∀ q, q ≠ a → q ≠ a + 15 → h11 q = h6 q := fun q e1 e2 => by
    rw [g11 q e1, g10 q e1, g9 q e1, g8 q e1 e2, g7 q e1]
  have up2' : ∀ q, q ≠ a → q < a + 7 → h11 q = h3 q := fun q e1 e2 => by
    rw [up1 q e1 (by omega), g6 q (by omega) (by omega), g5 q (by omega), g4 q e1]
  have r1 : RwAt h11 0 (a + 1) 5 (fun _ => 0) := ⟨_, (up2' _ (by omega) (by omega)).trans ((g3 _ (by omega) (by omega)).trans ((g2 _ (by omega)).trans n1)), fun _ _ => rfl⟩
  refine x_getsN (t := 2) dX2_init_56 (by decide) q111 ?_
  refine x_aload_n dX2_init_59 rfl ?_
  refine x_get dX2_init_60 fX2_9 o11 rfl ?_
  refine e_cpS (n1 := 5) (t := 2) (b := st 2) dX2_init_63 kX4_copy q114 q113 (t_copyS _ (t := 2) (by decide) r1) (Nat.le_of_ble_eq_true rfl) ⟨Nat.le_of_ble_eq_true rfl, Nat.le_of_ble_eq_true rfl⟩ (fun h12 r12 g12 => ?_)
  refine x_vret dX2_init_66 rfl rfl (Nat.le_of_ble_eq_true rfl) ?_
  refine ⟨rfl, _, rfl, ⟨(g12 a (by omega)).trans o11, r12.to (fun i hi => rfl), l3.kept (fun q e1 e2 => (g12 q (by omega)).trans (up2' q (by omega) (by omega))), c6.kept (fun q e1 e2 => (g12 q (by omega)).trans (up1 q (by omega) (by omega))), RwAt.zero ((g12 _ (by omega)).trans ((g11 _ (by omega)).trans ((g10 _ (by omega)).trans ((g9 _ (by omega)).trans n8)))) (fun _ _ => rfl)⟩, fun q e1 e2 => ?_⟩
  rw [g12 q (by omega), up2' q e2 (by omega), g3 q (by omega) (by omega), g2 q (by omega), g1 q e2 (by omega)]
