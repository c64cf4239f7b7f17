/-! the classes of the world -/
theorem ax_inX0 : ∀ w ∈ u_ws RX0 TX0 8, w ∈ TB := by
  intro w hw
  obtain ⟨j, hj, rfl⟩ := List.mem_map.mp hw
  have hj := List.mem_range.mp hj
  rcases (show j = 0 ∨ j = 1 ∨ j = 2 ∨ j = 3 ∨ j = 4 ∨ j = 5 ∨ j = 6 ∨ j = 7 by omega) with rfl | rfl | rfl | rfl | rfl | rfl | rfl | rfl
  · exact q94
  · exact q96
  · exact q98
  · exact q100
  · exact q102
  · exact q104
  · exact q106
  · exact q108
theorem ax_inX1 : ∀ w ∈ u_ws RX1 TX1 5, w ∈ TB := by
  intro w hw
  obtain ⟨j, hj, rfl⟩ := List.mem_map.mp hw
  have hj := List.mem_range.mp hj
  rcases (show j = 0 ∨ j = 1 ∨ j = 2 ∨ j = 3 ∨ j = 4 by omega) with rfl | rfl | rfl | rfl | rfl
  · exact q60
  · exact q62
  · exact q64
  · exact q66
  · exact q68
theorem ax_inX2 : ∀ w ∈ u_ws RX2 TX2 7, w ∈ TB := by
  intro w hw
  obtain ⟨j, hj, rfl⟩ := List.mem_map.mp hw
  have hj := List.mem_range.mp hj
  rcases (show j = 0 ∨ j = 1 ∨ j = 2 ∨ j = 3 ∨ j = 4 ∨ j = 5 ∨ j = 6 by omega) with rfl | rfl | rfl | rfl | rfl | rfl | rfl
  · exact q130
  · exact q132
  · exact q134
  · exact q136
  · exact q138
  · exact q140
  · exact q142
theorem ax_inX3 : ∀ w ∈ u_ws RX3 TX3 7, w ∈ TB := by
  intro w hw
  obtain ⟨j, hj, rfl⟩ := List.mem_map.mp hw
  have hj := List.mem_range.mp hj
  rcases (show j = 0 ∨ j = 1 ∨ j = 2 ∨ j = 3 ∨ j = 4 ∨ j = 5 ∨ j = 6 by omega) with rfl | rfl | rfl | rfl | rfl | rfl | rfl
  · exact q164
  · exact q166
  · exact q168
  · exact q170
  · exact q172
  · exact q174
  · exact q176
theorem ax_inX4 : ∀ w ∈ u_ws RX4 TX4 6, w ∈ TB := by
  intro w hw
  obtain ⟨j, hj, rfl⟩ := List.mem_map.mp hw
  have hj := List.mem_range.mp hj
  rcases (show j = 0 ∨ j = 1 ∨ j = 2 ∨ j = 3 ∨ j = 4 ∨ j = 5 by omega) with rfl | rfl | rfl | rfl | rfl | rfl
  · exact q187
  · exact q189
  · exact q191
  · exact q193
  · exact q195
  · exact q197
def ax_cl (q : vw_C) : Prop := (∀ w ∈ u_ws q.1 q.2.1 q.2.2, w ∈ TB) ∧ (∃ ty : Nat → FieldType, ∀ k, k < q.2.2 → parseFieldDescriptor (q.2.1 k).2.2.1 = some (ty k)) ∧ ∀ a, a < q.2.2 → ∀ b, b < q.2.2 → a ≠ b → (q.2.1 a).2.1 ≠ (q.2.1 b).2.1
theorem ax_cls {ci : Nat} {q : vw_C} (h : vwCl[ci]? = some q) : ax_cl q := by
  match ci, h with
  | 0, h => cases h; exact ⟨ax_inX0, ⟨tyX0, tyX0_ok⟩, nmX0⟩
  | 1, h => cases h; exact ⟨ax_inX1, ⟨tyX1, tyX1_ok⟩, nmX1⟩
  | 2, h => cases h; exact ⟨ax_inX2, ⟨tyX2, tyX2_ok⟩, nmX2⟩
  | 3, h => cases h; exact ⟨ax_inX3, ⟨tyX3, tyX3_ok⟩, nmX3⟩
  | 4, h => cases h; exact ⟨ax_inX4, ⟨tyX4, tyX4_ok⟩, nmX4⟩
  | k + 5, h => simp [vwCl] at h
/-- a field: its class by place, its number, its type; the link that the code names -/
def ax_fl (own : String) (idx ci j : Nat) (ty : FieldType) (fi : Bool) : Prop := ∃ q : vw_C, vwCl[ci]? = some q ∧ j < q.2.2 ∧ Cond.fieldLink own idx (q.2.1 j).1 (q.2.1 j).2.1 (q.2.1 j).2.2.1 ∈ TB ∧ parseFieldDescriptor (q.2.1 j).2.2.1 = some ty ∧ (q.2.1 j).2.2.2 = fi ∧ (q.2.1 j).1 = q.1
theorem ax_C.own {base : Nat} {st : Nat → Nat} {hp : Hp} {a : Nat} {e : va_E} (hC : ax_C base st hp) (h : hp.2 a = some e) (he : ax_isS e = false) : base ≤ a ∧ a < hp.1 := by
  rcases hC.2 a e h with h1 | ⟨j, -, -, rfl⟩
  · exact h1.2
  · cases he
theorem ax_H.at {D : va_G} {tA : Nat → ClassId} {base : Nat} {st : Nat → Nat} {hp : Hp} {H : Heap} {a : Nat} {e : va_E} (hH : ax_H D tA base hp H) (hC : ax_C base st hp) (h : hp.2 a = some e) (he : ax_isS e = false) : (ax_ws tA hp.2 base (hp.1 - base))[a - base]? = some (a, ax_cell tA e) := by
  obtain ⟨h1, h2⟩ := hC.own h he
  exact ax_ws_at h h1 (by omega)
theorem ax_C.put {base : Nat} {st : Nat → Nat} {hp : Hp} {a : Nat} {e e' : va_E} (hC : ax_C base st hp) (h : hp.2 a = some e) (he : ax_isS e = false) (he' : ax_isS e' = false) : ax_C base st (hp.1, hset hp.2 a e') := by
  refine ⟨fun j hj => ?_, fun b x hb => ?_⟩
  · have h1 := hC.1 j hj
    have hne : st j ≠ a := by
      intro q
      rw [q, h] at h1
      rw [Option.some.inj h1] at he
      cases he
    show hset hp.2 a e' (st j) = _
    rw [hset_n _ hne]
    exact h1
  · change hset hp.2 a e' b = some x at hb
    by_cases hq : b = a
    · subst hq
      rw [hset_s] at hb
      cases hb
      exact Or.inl ⟨he', hC.own h he⟩
    · rw [hset_n _ hq] at hb
      exact hC.2 b x hb
theorem ax_C.push {base : Nat} {st : Nat → Nat} {hp : Hp} {e' : va_E} (hC : ax_C base st hp) (hb : base ≤ hp.1) (hst : ∀ j, j < 3 → st j < base) (he' : ax_isS e' = false) : ax_C base st (hp.1 + 1, hset hp.2 hp.1 e') := by
  refine ⟨fun j hj => ?_, fun b x hb2 => ?_⟩
  · have := hst j hj
    show hset hp.2 hp.1 e' (st j) = _
    rw [hset_n _ (by omega)]
    exact hC.1 j hj
  · change hset hp.2 hp.1 e' b = some x at hb2
    by_cases hq : b = hp.1
    · subst hq
      rw [hset_s] at hb2
      cases hb2
      exact Or.inl ⟨he', hb, Nat.lt_succ_self _⟩
    · rw [hset_n _ hq] at hb2
      rcases hC.2 b x hb2 with h1 | h1
      · exact Or.inl ⟨h1.1, h1.2.1, Nat.lt_succ_of_lt h1.2.2⟩
      · exact Or.inr h1
theorem ax_I.st {D : va_G} {tA : Nat → ClassId} {base : Nat} {st : Nat → Nat} {U : State} (h : ax_I D tA base st U) : ∀ j, j < 3 → st j < base := by
  intro j hj
  obtain ⟨cell, -, -, -, -, -, -, h7⟩ := (h.2.1 j hj).1
  exact Nat.not_le.mp h7
/-- one cell is written -/
theorem ax_H.wr {D : va_G} {tA : Nat → ClassId} {base : Nat} {st : Nat → Nat} {hp : Hp} {H H1 : Heap} {a : Nat} {e e' : va_E} (hH : ax_H D tA base hp H) (hC : ax_C base st hp) (h : hp.2 a = some e) (he : ax_isS e = false) (hat : va_at D vwCl (a, ax_cell tA e') H1) (hz : H1.size = H.size) (ho : ∀ q : Nat, q ≠ a → H1[q]? = H[q]?) : ax_H D tA base (hp.1, hset hp.2 a e') H1 := by
  refine ⟨hz.trans hH.1, hH.2.1, ?_⟩
  have h1 := hH.2.2.set (ax_D _ _ _ _) (hH.at hC h he) hat ho
  rw [ax_ws_set _ (hC.own h he).1] at h1
  exact h1
/-- one cell is made, at the heap's end -/
theorem ax_H.mk {D : va_G} {tA : Nat → ClassId} {base : Nat} {hp : Hp} {H H1 : Heap} {e' : va_E} (hH : ax_H D tA base hp H) (hat : va_at D vwCl (hp.1, ax_cell tA e') H1) (hz : H1.size = hp.1 + 1) (ho : ∀ q : Nat, q < hp.1 → H1[q]? = H[q]?) : ax_H D tA base (hp.1 + 1, hset hp.2 hp.1 e') H1 := by
  have hb := hH.2.1
  refine ⟨hz, Nat.le_succ_of_le hb, ?_⟩
  have e1 : hp.1 + 1 - base = (hp.1 - base) + 1 := by omega
  have e2 : base + (hp.1 - base) = hp.1 := by omega
  show va_P D vwCl (ax_ws tA (hset hp.2 hp.1 e') base (hp.1 + 1 - base)) H1
  rw [e1]
  have e3 := ax_ws_push (tA := tA) (h := hp.2) (base := base) (n := hp.1 - base) e'
  rw [e2] at e3
  rw [← e3]
  refine (hH.2.2.kept (fun k q hk => ?_)).app (fun k q hk => ?_)
  · have := (hH.2.2 k q hk).lt
    exact ho q.1 (by rw [← hH.1]; exact this)
  · have hz : k < 1 := (List.getElem?_eq_some_iff.mp hk).1
    rw [show k = 0 by omega] at hk
    cases hk
    exact hat
section AXH
variable {st : Nat → Nat} {k : Nat} {y : MethodName} {cc : ByteArray} {nL : Nat} {ret : Option FieldType} {hp0 : Hp} {mc ms : Nat} {fin : Option Value → Hp → Prop} {pc : Nat} {lv stk : List Value} {hp : Hp} {cl sl : Nat}
/-- an array's index: the number j behind it, in its range -/
def ax_ix (i : Int32) (len j : Nat) : Prop := ¬ i < 0 ∧ i.toNatClampNeg = j ∧ j < len
theorem ax_ix.in {i : Int32} {len j : Nat} (h : ax_ix i len j) : vp_in i len := by
  obtain ⟨h1, h2, h3⟩ := h
  intro q
  rcases q with q | q
  · exact h1 q
  · omega
theorem ax_ixN {j len : Nat} (h : j < len) (hl : len < 2 ^ 31) : ax_ix (nI j) len j := ⟨nI_pos (by omega), nI_clamp (by omega), h⟩
theorem x_get {idx a ci j : Nat} {ty : FieldType} {fi : Bool} {fs : List Value} {v : Value} (hd : decode cc pc = .ok (.getfield idx, 3)) (hf : ax_fl y.cls idx ci j ty fi) (hh : hp.2 a = some (.inr (ci, fs))) (hv : fs[j]? = some v) (h : Ev st k y cc nL ret hp0 mc ms fin (pc + 3) lv (v :: stk) hp cl sl) : Ev st k y cc nL ret hp0 mc ms fin pc lv (.ref a :: stk) hp cl sl := by
  intro l D tA base p e s m args below meth c M H locs ls hH hC hz hS hL
  obtain ⟨⟨C, T, N⟩, h1, h2, h3, -, -, -⟩ := hf
  exact va_get (C := C) (T := T) (N := N) M.1 M.2.1 M.2.2.2.2.2.1 (ax_cls h1).1 M.2.2.2.2.1 M.2.2.2.2.2.2.2.2.2.2.1 hH.2.2 (a - base) (hH.at hC hh rfl) h1 j h2 (M.2.2.2.2.2.1 _ h3) (fun _ q => q) hv hd (h l D tA base p e s m args below meth c M H locs ls hH hC hz hS hL)
theorem x_put {idx a ci j : Nat} {ty : FieldType} {fs : List Value} {v : Value} (hd : decode cc pc = .ok (.putfield idx, 3)) (hf : ax_fl y.cls idx ci j ty false) (hh : hp.2 a = some (.inr (ci, fs))) (hn : narrow ty v = v) (hfit : fits ty v = true) (hl : j < fs.length) (h : Ev st k y cc nL ret hp0 mc ms fin (pc + 3) lv stk (hp.1, hset hp.2 a (.inr (ci, fs.set j v))) cl sl) : Ev st k y cc nL ret hp0 mc ms fin pc lv (v :: .ref a :: stk) hp cl sl := by
  intro l D tA base p e s m args below meth c M H locs ls hH hC hz hS hL
  obtain ⟨⟨C, T, N⟩, h1, h2, h3, h4, h5, -⟩ := hf
  obtain ⟨g1, ⟨ty0, g2⟩, g3⟩ := ax_cls h1
  have hts := M.2.2.2.2.2.1
  have hK := M.2.2.2.2.2.2.2.2.2.2.1
  have hap := va_apart (own := y.cls) hts g1 ty0 g2 g3 hK h1
  obtain ⟨r, r1, cell, q1, q2, q3, q4⟩ := hH.2.2 (a - base) _ (hH.at hC hh rfl)
  have hr : r = (C, T, N) := Option.some.inj (r1.symm.trans h1)
  subst hr
  obtain ⟨hSl, hfc, kC, hkC, hkind⟩ := hK.1 ci _ h1
  obtain ⟨cf, kf, fi, f, hi, hsl⟩ := hSl j h2
  have hlay := hts _ (g1 _ (u_in_lay h2))
  unfold u_lay at hlay
  rw [if_neg (by rw [h5]; decide)] at hlay
  have hst := (u_facts hfc hkC (u_lays hts g1 h2) hi).1
  have h6 := u_store hfc hkC hkind hlay hi h4 hn hfit
  refine W.putK M.1 M.2.1 (f := f) ⟨M.2.2.2.2.1, hts _ h3, ⟨_, _, _, hi⟩, hst⟩ (by rw [q2]; exact h6) q1 q3 (by rw [hsl]; exact k2_hasslot (q4 j h2)) rfl rfl hd fun H' e1 e2 e3 => ?_
  rw [hsl] at e1 ⊢
  refine h l D tA base p e s m args below meth c M H' _ ls (hH.wr hC hh rfl ⟨_, h1, t_OB.to (V := updV (vp_V fs) j v) ⟨_, e1, q2, q3, t_set q4 hap h2 v⟩ (fun i _ => vp_updV_set hl v i)⟩ e2 e3) (hC.put hh rfl rfl) hz (hS.put e2 e3 (hC.own hh rfl).1) hL
theorem x_putF {idx a ci j : Nat} {ty : FieldType} {fs : List Value} {v : Value} (hd : decode cc pc = .ok (.putfield idx, 3)) (hf : ax_fl y.cls idx ci j ty true) (hown : (vwCl[ci]?).map (fun q => q.1) = some y.cls) (hin : y.name = "<init>") (hh : hp.2 a = some (.inr (ci, fs))) (hn : narrow ty v = v) (hfit : fits ty v = true) (hl : j < fs.length) (h : Ev st k y cc nL ret hp0 mc ms fin (pc + 3) lv stk (hp.1, hset hp.2 a (.inr (ci, fs.set j v))) cl sl) : Ev st k y cc nL ret hp0 mc ms fin pc lv (v :: .ref a :: stk) hp cl sl := by
  intro l D tA base p e s m args below meth c M H locs ls hH hC hz hS hL
  obtain ⟨⟨C, T, N⟩, h1, h2, h3, h4, h5, h7⟩ := hf
  have hCo : C = y.cls := by rw [h1] at hown; exact Option.some.inj hown
  obtain ⟨g1, ⟨ty0, g2⟩, g3⟩ := ax_cls h1
  have hts := M.2.2.2.2.2.1
  have hK := M.2.2.2.2.2.2.2.2.2.2.1
  have hap := va_apart (own := y.cls) hts g1 ty0 g2 g3 hK h1
  obtain ⟨r, r1, cell, q1, q2, q3, q4⟩ := hH.2.2 (a - base) _ (hH.at hC hh rfl)
  have hr : r = (C, T, N) := Option.some.inj (r1.symm.trans h1)
  subst hr
  obtain ⟨hSl, hfc, kC, hkC, hkind⟩ := hK.1 ci _ h1
  obtain ⟨cf, kf, fi, f, hi, hsl⟩ := hSl j h2
  have hlay := hts _ (g1 _ (u_in_lay h2))
  unfold u_lay at hlay
  rw [if_pos h5] at hlay
  have hst := (u_facts hfc hkC (u_lays hts g1 h2) hi).1
  have hcf : m.cls = cf := by
    obtain ⟨_, _, c', _, _, _, -, -, hf', -, -, -, hown2, -⟩ := Cond.laysFinal_spec hlay
    have e1 : c' = cf := by have := hi.symm.trans hf'; simp at this; exact this.1.symm
    rw [h7] at hown2
    have hown3 : s.vm.findClass C = some m.cls := by rw [hCo]; exact M.2.2.2.2.1
    rw [← e1]; exact Option.some.inj (hown3.symm.trans hown2)
  have h6 := u_fits hfc hkC hkind (Or.inr hlay) hi h4 hn hfit
  refine W.putFinK M.1 M.2.1 M.2.2.2.2.1 (hts _ h3) hi hst hcf (M.2.2.2.2.2.2.2.2.2.1.trans hin) (by rw [q2]; exact h6) q1 q3 (by rw [hsl]; exact k2_hasslot (q4 j h2)) rfl rfl hd fun H' e1 e2 e3 => ?_
  rw [hsl] at e1 ⊢
  refine h l D tA base p e s m args below meth c M H' _ ls (hH.wr hC hh rfl ⟨_, h1, t_OB.to (V := updV (vp_V fs) j v) ⟨_, e1, q2, q3, t_set q4 hap h2 v⟩ (fun i _ => vp_updV_set hl v i)⟩ e2 e3) (hC.put hh rfl rfl) hz (hS.put e2 e3 (hC.own hh rfl).1) hL
/-- reads of arrays -/
theorem x_iald {a len j : Nat} {i : Int32} {f : Nat → Int32} (hd : decode cc pc = .ok (.iaload, 1)) (hh : hp.2 a = some (.inl (0, len, .inl f))) (hi : ax_ix i len j) (h : Ev st k y cc nL ret hp0 mc ms fin (pc + 1) lv (.int (f j) :: stk) hp cl sl) : Ev st k y cc nL ret hp0 mc ms fin pc lv (.int i :: .ref a :: stk) hp cl sl := by
  intro l D tA base p e s m args below meth c M H locs ls hH hC hz hS hL
  refine va_iald M.1 M.2.1 M.2.2.2.2.2.2.2.2.2.2.1 hH.2.2 (a - base) 0 (hH.at hC hh rfl) rfl hi.in hd ?_
  rw [hi.2.1]
  exact h l D tA base p e s m args below meth c M H locs ls hH hC hz hS hL
theorem x_sald {a j t : Nat} {i : Int32} (hd : decode cc pc = .ok (.iaload, 1)) (hj : t < 3) (ha : a = st t) (hi : ax_ix i 5 j) (h : Ev st k y cc nL ret hp0 mc ms fin (pc + 1) lv (.int (ax_f t j) :: stk) hp cl sl) : Ev st k y cc nL ret hp0 mc ms fin pc lv (.int i :: .ref a :: stk) hp cl sl := by
  intro l D tA base p e s m args below meth c M H locs ls hH hC hz hS hL
  subst ha
  exact va_ti M.1 M.2.1 (M.2.2.2.2.2.2.2.2.2.2.2.1 t hj).1 hS hi.in (by rw [hi.2.1]) hd (h l D tA base p e s m args below meth c M H locs ls hH hC hz hS hL)
theorem x_zald {a len j : Nat} {i : Int32} {f : Nat → Int32} (hd : decode cc pc = .ok (.baload, 1)) (hh : hp.2 a = some (.inl (1, len, .inl f))) (hi : ax_ix i len j) (h : Ev st k y cc nL ret hp0 mc ms fin (pc + 1) lv (.int (f j) :: stk) hp cl sl) : Ev st k y cc nL ret hp0 mc ms fin pc lv (.int i :: .ref a :: stk) hp cl sl := by
  intro l D tA base p e s m args below meth c M H locs ls hH hC hz hS hL
  refine va_zald M.1 M.2.1 M.2.2.2.2.2.2.2.2.2.2.1 hH.2.2 (a - base) 1 (hH.at hC hh rfl) rfl hi.in hd ?_
  rw [hi.2.1]
  exact h l D tA base p e s m args below meth c M H locs ls hH hC hz hS hL
theorem x_cald {a len j : Nat} {i : Int32} {f : Nat → Int32} (hd : decode cc pc = .ok (.caload, 1)) (hh : hp.2 a = some (.inl (2, len, .inl f))) (hi : ax_ix i len j) (h : Ev st k y cc nL ret hp0 mc ms fin (pc + 1) lv (.int (f j) :: stk) hp cl sl) : Ev st k y cc nL ret hp0 mc ms fin pc lv (.int i :: .ref a :: stk) hp cl sl := by
  intro l D tA base p e s m args below meth c M H locs ls hH hC hz hS hL
  refine va_cald M.1 M.2.1 M.2.2.2.2.2.2.2.2.2.2.1 hH.2.2 (a - base) 2 (hH.at hC hh rfl) rfl hi.in hd ?_
  rw [hi.2.1]
  exact h l D tA base p e s m args below meth c M H locs ls hH hC hz hS hL
theorem x_aald {a len j r : Nat} {i : Int32} {f : Nat → Option Nat} (hd : decode cc pc = .ok (.aaload, 1)) (hh : hp.2 a = some (.inl (3, len, .inr (.inr (.inr (.inr f)))))) (hi : ax_ix i len j) (hr : f j = some r) (h : Ev st k y cc nL ret hp0 mc ms fin (pc + 1) lv (.ref r :: stk) hp cl sl) : Ev st k y cc nL ret hp0 mc ms fin pc lv (.int i :: .ref a :: stk) hp cl sl := by
  intro l D tA base p e s m args below meth c M H locs ls hH hC hz hS hL
  refine va_aldq (C := "EscheatLots$Office") M.1 M.2.1 M.2.2.2.2.2.2.2.2.2.2.1 hH.2.2 (a - base) 3 (hH.at hC hh rfl) rfl hi.in hd ?_
  rw [hi.2.1, hr]
  exact h l D tA base p e s m args below meth c M H locs ls hH hC hz hS hL
theorem x_alen {a t len : Nat} {x} {v : Int32} (hd : decode cc pc = .ok (.arraylength, 1)) (hh : hp.2 a = some (.inl (t, len, x))) (ht : t < 4) (hv : Int32.ofNat len = v) (h : Ev st k y cc nL ret hp0 mc ms fin (pc + 1) lv (.int v :: stk) hp cl sl) : Ev st k y cc nL ret hp0 mc ms fin pc lv (.ref a :: stk) hp cl sl := by
  intro l D tA base p e s m args below meth c M H locs ls hH hC hz hS hL
  have hs : ax_isS (.inl (t, len, x)) = false := by
    show (t == 4) = false
    simp; omega
  obtain ⟨ty, hty⟩ : ∃ ty, (ax_tys tA)[t]? = some (tA t, ty) := by
    match t, ht with
    | 0, _ => exact ⟨_, rfl⟩
    | 1, _ => exact ⟨_, rfl⟩
    | 2, _ => exact ⟨_, rfl⟩
    | 3, _ => exact ⟨_, rfl⟩
  exact va_alen M.1 M.2.1 M.2.2.2.2.2.2.2.2.2.2.1 hH.2.2 (a - base) t (hH.at hC hh hs) hty hv hd (h l D tA base p e s m args below meth c M H locs ls hH hC hz hS hL)
theorem x_slen {a t : Nat} (hd : decode cc pc = .ok (.arraylength, 1)) (hj : t < 3) (ha : a = st t) (h : Ev st k y cc nL ret hp0 mc ms fin (pc + 1) lv (.int 5 :: stk) hp cl sl) : Ev st k y cc nL ret hp0 mc ms fin pc lv (.ref a :: stk) hp cl sl := by
  intro l D tA base p e s m args below meth c M H locs ls hH hC hz hS hL
  subst ha
  exact va_tlen M.1 M.2.1 (M.2.2.2.2.2.2.2.2.2.2.2.1 t hj).1 hS rfl hd (h l D tA base p e s m args below meth c M H locs ls hH hC hz hS hL)
theorem x_getsN {idx t : Nat} {host : String} (hd : decode cc pc = .ok (.getstatic idx, 3)) (hj : t < 3) (hl : Cond.fieldLinkNest y.cls idx "EscheatLots" (ax_n t) "[I" host ∈ NB) (h : Ev st k y cc nL ret hp0 mc ms fin (pc + 3) lv (.ref (st t) :: stk) hp cl sl) : Ev st k y cc nL ret hp0 mc ms fin pc lv stk hp cl sl := by
  intro l D tA base p e s m args below meth c M H locs ls hH hC hz hS hL
  exact va_getsN M.1 M.2.1 (M.2.2.2.2.2.2.2.2.2.2.2.1 t hj).2 hS M.2.2.2.2.1 (va_Nw.use rfl (M.2.2.2.2.2.2.2.2.2.2.2.2.1 _ hl)) (fun _ q => q) hd (h l D tA base p e s m args below meth c M H locs ls hH hC hz hS hL)
/-- writes of arrays -/
theorem ax_nar {tA : Nat → ClassId} {D : va_G} {H1 : Heap} {a t n j : Nat} {f : Nat → Int32} {x : Int32} (e : H1[a]? = some ((vp_cell (tA t) (n, .inl f)).setSlot j (.int x))) : va_at D vwCl (a, ax_cell tA (.inl (t, n, .inl (upd f j x)))) H1 := by
  show H1[a]? = some (vp_cell _ _)
  rw [e]
  show some ((vp_cell (tA t) (n, .inl f)).setSlot j (.int x)) = some (vp_cell (tA t) (n, .inl (upd f j x)))
  rw [vp_cell_i, vp_cell_i, arrV_store]
  congr 2
  funext q
  by_cases hq : q = j
  · subst hq
    simp [updV, upd]
  · simp [updV, upd, hq]
theorem x_iast {a len j : Nat} {i x : Int32} {f : Nat → Int32} (hd : decode cc pc = .ok (.iastore, 1)) (hh : hp.2 a = some (.inl (0, len, .inl f))) (hi : ax_ix i len j) (h : Ev st k y cc nL ret hp0 mc ms fin (pc + 1) lv stk (hp.1, hset hp.2 a (.inl (0, len, .inl (upd f j x)))) cl sl) : Ev st k y cc nL ret hp0 mc ms fin pc lv (.int x :: .int i :: .ref a :: stk) hp cl sl := by
  intro l D tA base p e s m args below meth c M H locs ls hH hC hz hS hL
  have hK := M.2.2.2.2.2.2.2.2.2.2.1
  refine W.iast M.1 M.2.1 (hH.2.2 (a - base) _ (hH.at hC hh rfl)) ((hK.2 0 _ rfl).1 len (fun j => .int (f j))) (fun q => by cases q) (by show ¬ (i < 0 ∨ (arrV _ _ _).slots.size ≤ _); rw [arrV_size]; exact hi.in) rfl rfl hd fun H1 e z oq => ?_
  rw [hi.2.1] at e ⊢
  exact h l D tA base p _ s m args below meth c M H1 _ ls (hH.wr hC hh rfl (ax_nar e) z oq) (hC.put hh rfl rfl) hz (hS.put z oq (hC.own hh rfl).1) hL
theorem x_zast {a len j : Nat} {i x : Int32} {f : Nat → Int32} (hd : decode cc pc = .ok (.bastore, 1)) (hh : hp.2 a = some (.inl (1, len, .inl f))) (hi : ax_ix i len j) (hx : narrow .boolean (.int x) = .int x) (h : Ev st k y cc nL ret hp0 mc ms fin (pc + 1) lv stk (hp.1, hset hp.2 a (.inl (1, len, .inl (upd f j x)))) cl sl) : Ev st k y cc nL ret hp0 mc ms fin pc lv (.int x :: .int i :: .ref a :: stk) hp cl sl := by
  intro l D tA base p e s m args below meth c M H locs ls hH hC hz hS hL
  have hK := M.2.2.2.2.2.2.2.2.2.2.1
  refine W.zast M.1 M.2.1 (hH.2.2 (a - base) _ (hH.at hC hh rfl)) ((hK.2 1 _ rfl).1 len (fun j => .int (f j))) (fun q => by cases q) (by show ¬ (i < 0 ∨ (arrV _ _ _).slots.size ≤ _); rw [arrV_size]; exact hi.in) rfl rfl hd fun H1 e z oq => ?_
  rw [hi.2.1] at e ⊢
  rw [hx] at e
  exact h l D tA base p _ s m args below meth c M H1 _ ls (hH.wr hC hh rfl (ax_nar e) z oq) (hC.put hh rfl rfl) hz (hS.put z oq (hC.own hh rfl).1) hL
theorem x_cast {a len j : Nat} {i x : Int32} {f : Nat → Int32} (hd : decode cc pc = .ok (.castore, 1)) (hh : hp.2 a = some (.inl (2, len, .inl f))) (hi : ax_ix i len j) (hx : narrow .char (.int x) = .int x) (h : Ev st k y cc nL ret hp0 mc ms fin (pc + 1) lv stk (hp.1, hset hp.2 a (.inl (2, len, .inl (upd f j x)))) cl sl) : Ev st k y cc nL ret hp0 mc ms fin pc lv (.int x :: .int i :: .ref a :: stk) hp cl sl := by
  intro l D tA base p e s m args below meth c M H locs ls hH hC hz hS hL
  have hK := M.2.2.2.2.2.2.2.2.2.2.1
  refine W.cast M.1 M.2.1 (hH.2.2 (a - base) _ (hH.at hC hh rfl)) ((hK.2 2 _ rfl).1 len (fun j => .int (f j))) (fun q => by cases q) (by show ¬ (i < 0 ∨ (arrV _ _ _).slots.size ≤ _); rw [arrV_size]; exact hi.in) rfl rfl hd fun H1 e z oq => ?_
  rw [hi.2.1] at e ⊢
  rw [hx] at e
  exact h l D tA base p _ s m args below meth c M H1 _ ls (hH.wr hC hh rfl (ax_nar e) z oq) (hC.put hh rfl rfl) hz (hS.put z oq (hC.own hh rfl).1) hL
end AXH
