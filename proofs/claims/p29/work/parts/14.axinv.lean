/-! calls -/
theorem ax_I.calling {D : va_G} {tA : Nat → ClassId} {base : Nat} {st : Nat → Nat} {U : State} (g : JFrame) (mk : MethodId) (a : Array Value) (h : ax_I D tA base st U) : ax_I D tA base st (U.calling g mk a) :=
  ⟨va_K.moved (u := U) (U := U.calling g mk a) (Vm.Alike.refl U.vm) h.1, fun j hj => ⟨va_T.moved (u := U) (U := U.calling g mk a) (Vm.Alike.refl U.vm) (h.2.1 j hj).1, va_Z.moved (u := U) (U := U.calling g mk a) (Vm.Alike.refl U.vm) (h.2.1 j hj).2⟩,
    fun w hw => by
      have hn : isNW w = true := (List.mem_filter.mp hw).2
      have hq : w.onTables = true := by cases w <;> first | rfl | cases hn
      exact va_Nw.same hq (u := U) (U := U.calling g mk a) rfl (h.2.2.1 w hw), va_AO.moved (u := U) (U := U.calling g mk a) (Vm.Alike.refl U.vm) h.2.2.2⟩
theorem ax_I.warm {D : va_G} {tA : Nat → ClassId} {base : Nat} {st : Nat → Nat} {s U : State} {locs : List Loc} (h : ax_I D tA base st s) (hS : va_S (fun q => base ≤ q) s.heap U.heap locs) (hW : s.WarmedH U.vm) : ax_I D tA base st U := by
  have hb : ∀ j, j < 3 → ∀ a : Nat, a < s.heap.size → ¬ base ≤ a → U.heap[a]? = s.heap[a]? := fun j hj a h1 h2 => hS.2.1 a h1 h2
  refine ⟨va_K.moved hW.alike h.1, fun j hj => ⟨((h.2.1 j hj).1.moved hW.alike).kept (hb j hj), ((h.2.1 j hj).2.moved hW.alike).kept (hb j hj)⟩, fun w hw => ?_, va_AO.moved hW.alike h.2.2.2⟩
  have hn : isNW w = true := (List.mem_filter.mp hw).2
  have h1 := h.2.2.1 w hw
  cases w <;> first | exact va_Nw.warmF hW h1 | exact va_Nw.warmM hW h1 | cases hn
theorem ax_blind {D : va_G} {tA : Nat → ClassId} {base : Nat} {st : Nat → Nat} {hp : Hp} {av : List Value} : FrameBlind (va_Pc av (ax_U D tA base st hp)) := fun a _ g mk h => ⟨h.1, h.2.1, h.2.2.1, h.2.2.2.calling g mk a⟩
theorem ax_TBin {ws : List Cond} (h : ∀ w ∈ ws, w ∈ TB) : GoodIn TB ws := fun w hw => ⟨h w hw, good_of_word (List.mem_filter.mp (h w hw)).2⟩
/-- a method, and what the tables say of it -/
def ax_kM (y : MethodName) (cc : ByteArray) (nL : Nat) (ret : Option FieldType) (n : Nat) : Prop := Cond.initialized y.cls ∈ TB ∧ Cond.code y cc nL ret ∈ TB ∧ (y.cls ≠ "java/lang/invoke/MethodHandle" ∧ y.cls ≠ "java/lang/invoke/VarHandle" ∧ (parseMethodDescriptor y.desc).map (fun d => d.parameters.length) = some n) ∧ nL ≤ 17
theorem ax_kM.ws {y : MethodName} {cc : ByteArray} {nL : Nat} {ret : Option FieldType} {n : Nat} (h : ax_kM y cc nL ret n) : GoodIn TB (Cond.code y cc nL ret :: TB) := ax_TBin fun w hw => by
  rcases List.mem_cons.mp hw with rfl | hw
  · exact h.2.1
  · exact hw
section AXA
variable {p : Program} {l : Launch} {e : Env} {R : Room} {s : State} {m : MethodId} {args : Array Value} {below : List Frame} {meth : Method} {c : Code} {H : Heap} {locs : List Loc} {cells slots : Nat} {Q : State → Prop}
variable {pc : Nat} {ls : Array Slot} {rest st0 : List Value} {a : Array Value} {mc ms : Nat} {D : va_G} {tA : Nat → ClassId} {base : Nat} {st : Nat → Nat} {hp : Hp} {Q1 : Option Value → Hp → Prop}
theorem ax_after (hr : va_Run p l e R s m args below meth c H locs cells slots mc ms (F0 m pc ls st0) rest (ax_Q D tA base st mc Q1 a) (fun q => base ≤ q)) (hS : va_S (fun q => base ≤ q) s.heap H locs) (hz : H.size = hp.1)
    (kk : ∀ (r : Option Value) (hp' : Hp) (H1 : Heap) (locs1 : List Loc), Q1 r hp' → hp'.1 = hp.1 + mc → ax_H D tA base hp' H1 → ax_C base st hp' → va_S (fun q => base ≤ q) s.heap H1 locs1 → W p l e R s m args below meth c H1 locs1 (cells + mc) (slots + ms) Q (F0 m (pc + 3) ls (r.toList ++ rest))) : W p l e R s m args below meth c H locs cells slots Q (F0 m pc ls st0) := by
  intro T hT X
  obtain ⟨v, st₀, t, T', L, h0, X', hL, e1, e2, ⟨⟨r, hp', hv, hq, hz1, hH1, hC1⟩, hzz, hk⟩, go⟩ := hr T hT X
  cases hv
  rw [h0] at hzz hk hz1
  obtain ⟨t2, a1, b1⟩ := kk v hp' T'.heap (locs ++ L) hq (by rw [hz1, hz]) (by rw [e1]; exact hH1) hC1
    ⟨Nat.le_trans hS.1 (by rw [e1]; exact hzz), fun q h1 h2 => by rw [e1, hk q (Nat.lt_of_lt_of_le h1 hS.1) h2]; exact hS.2.1 q h1 h2, fun q hq => by
      rcases List.mem_append.mp hq with h | h
      · exact hS.2.2 q h
      · exact hL q h⟩ T' rfl X'
  exact ⟨t2, go t2 a1, b1⟩
end AXA
section AXB
variable {st : Nat → Nat} {k : Nat} {y : MethodName} {cc : ByteArray} {nL : Nat} {ret : Option FieldType} {hp0 : Hp} {mc ms : Nat} {fin : Option Value → Hp → Prop} {pc : Nat} {lv stk stk0 : List Value} {hp : Hp} {cl sl : Nat}
variable {idx n nL1 mc1 ms1 : Nat} {y1 : MethodName} {cc1 : ByteArray} {ret1 : Option FieldType} {As : List Value} {Q1 : Option Value → Hp → Prop}
theorem ax_roomL (h : nL1 ≤ 17) : 8 + (nL1 + 11) + 36 * k ≤ 36 * (k + 1) := by omega
theorem x_callV {a ci : Nat} {fs : List Value} (hd : decode cc pc = .ok (.invokevirtual idx, 3)) (hy : ax_kM y1 cc1 nL1 ret1 n) (hi : Cond.instanceMethod y1 ∈ TB ∧ Cond.selects y1.cls y1 y1 ∈ TB) (hl : Cond.methodLink y.cls idx y1 ∈ TB) (hc : CT st k y1 cc1 nL1 ret1 (.ref a :: As) hp mc1 ms1 Q1) (hh : hp.2 a = some (.inr (ci, fs))) (hci : (vwCl[ci]?).map (fun q => q.1) = some y1.cls) (hs : stk0 = As.reverse ++ .ref a :: stk) (hn : As.length = n) (hr : (stk.map fun v => v.category).sum ≤ 8) (hm : cl + mc1 ≤ mc ∧ sl + ms1 ≤ ms)
    (h : ∀ r hp', Q1 r hp' → Ev st (k + 1) y cc nL ret hp0 mc ms fin (pc + 3) lv (r.toList ++ stk) hp' (cl + mc1) (sl + ms1)) : Ev st (k + 1) y cc nL ret hp0 mc ms fin pc lv stk0 hp cl sl := by
  intro l D tA base p e s m args below meth c M H locs ls hH hC hz hS hL
  have hts := M.2.2.2.2.2.1
  have hI := M.2.2.2.2.2.2.2.2.2.2
  obtain ⟨q, hq, hq1⟩ := Option.map_eq_some_iff.mp hci
  subst hs
  refine ax_after (va_runV (C := y1.cls) (Ts := TB) (own := y.cls) (As := As) (rest := stk) ⟨M.1, M.2.1, M.2.2.2.1, M.2.2.2.2.1, hts⟩ (hc l D tA base) (cwV n hts (ax_TBin fun w hw => ?_) rfl rfl rfl ⟨rfl, hy.2.2.1⟩ ⟨Nat.le_refl (k + 1), ax_roomL hy.2.2.2⟩) ⟨ax_blind, ?_, fun U hU hW => ⟨rfl, by rw [hU]; exact hH, hC, hI.warm (by rw [hU]; exact hS) hW⟩⟩ rfl hn hL.2.1 rfl (lv_room hr) hd hm) hS hH.1 (fun r hp' H1 locs1 hQ hz1 hH1 hC1 hS1 => h r hp' hQ l D tA base p e s m args below meth c M H1 locs1 ls hH1 hC1 (by omega) hS1 hL)
  · unfold wsV at hw
    rcases List.mem_append.mp hw with hw | hw
    · rcases List.mem_cons.mp hw with rfl | hw
      · exact hl
      rcases List.mem_cons.mp hw with rfl | hw
      · exact hi.1
      rcases List.mem_cons.mp hw with rfl | hw
      · exact hi.2
      rw [List.mem_singleton.mp hw]
      exact hy.1
    · exact (hy.ws w hw).1
  · rw [← hq1]
    exact va_recv hI.1 hH.2.2 hq (hH.at hC hh rfl)
theorem x_callS (hd : decode cc pc = .ok (.invokestatic idx, 3)) (hy : ax_kM y1 cc1 nL1 ret1 n) (hi : Cond.static y1 ∈ TB) (hl : Cond.methodLink y.cls idx y1 ∈ TB) (hc : CT st k y1 cc1 nL1 ret1 As hp mc1 ms1 Q1) (hs : stk0 = As.reverse ++ stk) (hn : As.length = n) (hr : (stk.map fun v => v.category).sum ≤ 8) (hm : cl + mc1 ≤ mc ∧ sl + ms1 ≤ ms)
    (h : ∀ r hp', Q1 r hp' → Ev st (k + 1) y cc nL ret hp0 mc ms fin (pc + 3) lv (r.toList ++ stk) hp' (cl + mc1) (sl + ms1)) : Ev st (k + 1) y cc nL ret hp0 mc ms fin pc lv stk0 hp cl sl := by
  intro l D tA base p e s m args below meth c M H locs ls hH hC hz hS hL
  have hts := M.2.2.2.2.2.1
  have hI := M.2.2.2.2.2.2.2.2.2.2
  subst hs
  refine ax_after (va_runS (Ts := TB) (own := y.cls) (As := As) (rest := stk) ⟨M.1, M.2.1, M.2.2.2.1, M.2.2.2.2.1, hts⟩ (hc l D tA base) (va_cwS n hts (ax_TBin fun w hw => ?_) rfl rfl rfl hy.2.2.1 ⟨Nat.le_refl (k + 1), ax_roomL hy.2.2.2⟩) ⟨ax_blind, fun U hU hW => ⟨rfl, by rw [hU]; exact hH, hC, hI.warm (by rw [hU]; exact hS) hW⟩⟩ rfl hn hL.2.1 rfl (lv_room hr) hd hm) hS hH.1 (fun r hp' H1 locs1 hQ hz1 hH1 hC1 hS1 => h r hp' hQ l D tA base p e s m args below meth c M H1 locs1 ls hH1 hC1 (by omega) hS1 hL)
  unfold va_wsS at hw
  rcases List.mem_append.mp hw with hw | hw
  · rcases List.mem_cons.mp hw with rfl | hw
    · exact hl
    rcases List.mem_cons.mp hw with rfl | hw
    · exact hi
    rw [List.mem_singleton.mp hw]
    exact hy.1
  · exact (hy.ws w hw).1
theorem x_callSN {host : String} (hd : decode cc pc = .ok (.invokestatic idx, 3)) (hy : ax_kM y1 cc1 nL1 ret1 n) (hi : Cond.static y1 ∈ TB) (hl : Cond.methodLinkNest y.cls idx y1 host ∈ NB) (hc : CT st k y1 cc1 nL1 ret1 As hp mc1 ms1 Q1) (hs : stk0 = As.reverse ++ stk) (hn : As.length = n) (hr : (stk.map fun v => v.category).sum ≤ 8) (hm : cl + mc1 ≤ mc ∧ sl + ms1 ≤ ms)
    (h : ∀ r hp', Q1 r hp' → Ev st (k + 1) y cc nL ret hp0 mc ms fin (pc + 3) lv (r.toList ++ stk) hp' (cl + mc1) (sl + ms1)) : Ev st (k + 1) y cc nL ret hp0 mc ms fin pc lv stk0 hp cl sl := by
  intro l D tA base p e s m args below meth c M H locs ls hH hC hz hS hL
  have hts := M.2.2.2.2.2.1
  have hI := M.2.2.2.2.2.2.2.2.2.2
  subst hs
  exact ax_after (va_runSN (Ts := TB) (own := y.cls) (As := As) (rest := stk) ⟨M.1, M.2.1, M.2.2.2.1, M.2.2.2.2.1, hts⟩ (hc l D tA base) ⟨va_cnB n hts hy.ws rfl rfl rfl (hI.2.2.1 _ hl) (hts _ hy.1) hy.2.2.1 ⟨Nat.le_refl (k + 1), ax_roomL hy.2.2.2⟩, hts _ hi, trivial⟩ ⟨ax_blind, fun U hU hW => ⟨rfl, by rw [hU]; exact hH, hC, hI.warm (by rw [hU]; exact hS) hW⟩⟩ rfl hn hL.2.1 rfl (lv_room hr) hd hm) hS hH.1 (fun r hp' H1 locs1 hQ hz1 hH1 hC1 hS1 => h r hp' hQ l D tA base p e s m args below meth c M H1 locs1 ls hH1 hC1 (by omega) hS1 hL)
theorem x_callI {a : Nat} (hd : decode cc pc = .ok (.invokespecial idx, 3)) (hy : ax_kM y1 cc1 nL1 none n) (hy1 : y1.name = "<init>") (hi : Cond.instanceMethod y1 ∈ TB) (hl : Cond.methodLink y.cls idx y1 ∈ TB) (hc : CT st k y1 cc1 nL1 none (.ref a :: As) hp mc1 ms1 Q1) (hs : stk0 = As.reverse ++ .ref a :: stk) (hn : As.length = n) (hr : (stk.map fun v => v.category).sum ≤ 8) (hm : cl + mc1 ≤ mc ∧ sl + ms1 ≤ ms)
    (h : ∀ r hp', Q1 r hp' → Ev st (k + 1) y cc nL ret hp0 mc ms fin (pc + 3) lv (r.toList ++ stk) hp' (cl + mc1) (sl + ms1)) : Ev st (k + 1) y cc nL ret hp0 mc ms fin pc lv stk0 hp cl sl := by
  intro l D tA base p e s m args below meth c M H locs ls hH hC hz hS hL
  have hts := M.2.2.2.2.2.1
  have hI := M.2.2.2.2.2.2.2.2.2.2
  subst hs
  exact ax_after (va_runI (Ts := TB) (own := y.cls) (b := a) (As := As) (rest := stk) ⟨M.1, M.2.1, M.2.2.2.1, M.2.2.2.2.1, hts⟩ (hc l D tA base) (cwI n hts hy.ws rfl rfl rfl (hts _ hy.1) (hts _ hl) (hts _ hi) hy1 hy.2.2.1 ⟨Nat.le_refl (k + 1), ax_roomL hy.2.2.2⟩) ⟨ax_blind, fun U hU hW => ⟨rfl, by rw [hU]; exact hH, hC, hI.warm (by rw [hU]; exact hS) hW⟩⟩ rfl hn hL.2.1 rfl (lv_room hr) hd hm) hS hH.1 (fun r hp' H1 locs1 hQ hz1 hH1 hC1 hS1 => h r hp' hQ l D tA base p e s m args below meth c M H1 locs1 ls hH1 hC1 (by omega) hS1 hL)
theorem x_callIN {a : Nat} {host : String} (hd : decode cc pc = .ok (.invokespecial idx, 3)) (hy : ax_kM y1 cc1 nL1 none n) (hy1 : y1.name = "<init>") (hi : Cond.instanceMethod y1 ∈ TB) (hl : Cond.methodLinkNest y.cls idx y1 host ∈ NB) (hc : CT st k y1 cc1 nL1 none (.ref a :: As) hp mc1 ms1 Q1) (hs : stk0 = As.reverse ++ .ref a :: stk) (hn : As.length = n) (hr : (stk.map fun v => v.category).sum ≤ 8) (hm : cl + mc1 ≤ mc ∧ sl + ms1 ≤ ms)
    (h : ∀ r hp', Q1 r hp' → Ev st (k + 1) y cc nL ret hp0 mc ms fin (pc + 3) lv (r.toList ++ stk) hp' (cl + mc1) (sl + ms1)) : Ev st (k + 1) y cc nL ret hp0 mc ms fin pc lv stk0 hp cl sl := by
  intro l D tA base p e s m args below meth c M H locs ls hH hC hz hS hL
  have hts := M.2.2.2.2.2.1
  have hI := M.2.2.2.2.2.2.2.2.2.2
  subst hs
  exact ax_after (va_runIN (Ts := TB) (own := y.cls) (b := a) (As := As) (rest := stk) ⟨M.1, M.2.1, M.2.2.2.1, M.2.2.2.2.1, hts⟩ (hc l D tA base) ⟨va_cnB n hts hy.ws rfl rfl rfl (hI.2.2.1 _ hl) (hts _ hy.1) hy.2.2.1 ⟨Nat.le_refl (k + 1), ax_roomL hy.2.2.2⟩, hy1, hts _ hi⟩ ⟨ax_blind, fun U hU hW => ⟨rfl, by rw [hU]; exact hH, hC, hI.warm (by rw [hU]; exact hS) hW⟩⟩ rfl hn hL.2.1 rfl (lv_room hr) hd hm) hS hH.1 (fun r hp' H1 locs1 hQ hz1 hH1 hC1 hS1 => h r hp' hQ l D tA base p e s m args below meth c M H1 locs1 ls hH1 hC1 (by omega) hS1 hL)
end AXB
