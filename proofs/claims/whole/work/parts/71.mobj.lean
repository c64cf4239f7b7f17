/-! THE REFERENCE'S OBJECT at m: numbers ζ, n states counted, nv states of the past as in G, slots as in S where saved, the pad -/
def mfs (m n : Nat) (ty sp tm : Int32) : List Value := [.ref (m + 2), .ref (m + 3), .int (nI n), .ref (m + 4), .ref (m + 5), .ref (m + 6), .int ty, .int sp, .ref (m + 7), .int tm]
def PastAt (h : Nat → Option va_E) (a nv : Nat) (G : Nat → Sg) : Prop := ∃ g, RwAt h 0 a 1800 g ∧ ∀ k, k < nv → ∀ i, i < 300 → g (300 * k + i) = encZ (G k) i
def SlotAt (h : Nat → Option va_E) (a : Nat) (S : Nat → Sg) (sv : Nat → Int32) : Prop := ∃ g, RwAt h 0 a 600 g ∧ ∀ k, k < 2 → sv k ≠ 0 → ∀ i, i < 300 → g (300 * k + i) = encZ (S k) i
def MAt (h : Nat → Option va_E) (m : Nat) (ζ : Sg) (n nv : Nat) (G S : Nat → Sg) (sv tx : Nat → Int32) (ty sp : Int32) (tl : Nat → Int32) (tm : Int32) : Prop :=
  ZAt h m (mfs m n ty sp tm) ζ ∧ n ≤ 6 ∧ (∃ g, RwAt h 0 (m + 2) 300 g) ∧ PastAt h (m + 3) nv G ∧ SlotAt h (m + 4) S sv ∧ RwAt h 1 (m + 5) 2 sv ∧ RwAt h 0 (m + 6) 80 tx ∧ RwAt h 0 (m + 7) 164 tl
def MMO (r0 : Option Value) (z m : Nat) (h : Nat → Option va_E) (ζ : Sg) (n nv : Nat) (G S : Nat → Sg) (sv tx : Nat → Int32) (ty sp : Int32) (tl : Nat → Int32) (tm : Int32) : Option Value → Hp → Prop := fun r hp' => r = r0 ∧ ∃ h', hp' = (z, h') ∧ MAt h' m ζ n nv G S sv tx ty sp tl tm ∧ Fr m 8 h h'
theorem PastAt.kept {h h' : Nat → Option va_E} {a nv : Nat} {G : Nat → Sg} (H : PastAt h a nv G) (e : h' a = h a) : PastAt h' a nv G := by
  obtain ⟨g, h1, h2⟩ := H
  exact ⟨g, h1.kept e, h2⟩
theorem SlotAt.kept {h h' : Nat → Option va_E} {a : Nat} {S : Nat → Sg} {sv : Nat → Int32} (H : SlotAt h a S sv) (e : h' a = h a) : SlotAt h' a S sv := by
  obtain ⟨g, h1, h2⟩ := H
  exact ⟨g, h1.kept e, h2⟩
theorem exR_kept {h h' : Nat → Option va_E} {t a n : Nat} (H : ∃ g, RwAt h t a n g) (e : h' a = h a) : ∃ g, RwAt h' t a n g := by
  obtain ⟨g, h1⟩ := H
  exact ⟨g, h1.kept e⟩
section MST
variable {h h' : Nat → Option va_E} {m : Nat} {ζ ζ' : Sg} {n nv : Nat} {G S : Nat → Sg} {sv tx : Nat → Int32} {ty sp : Int32} {tl : Nat → Int32} {tm : Int32}
theorem MAt.z (H : MAt h m ζ n nv G S sv tx ty sp tl tm) : ZAt h m (mfs m n ty sp tm) ζ := H.1
theorem MAt.n6 (H : MAt h m ζ n nv G S sv tx ty sp tl tm) : n ≤ 6 := H.2.1
theorem MAt.ob (H : MAt h m ζ n nv G S sv tx ty sp tl tm) : h m = some (.inr (5, [.ref (m + 1), .ref (m + 2), .ref (m + 3), .int (nI n), .ref (m + 4), .ref (m + 5), .ref (m + 6), .int ty, .int sp, .ref (m + 7), .int tm])) := H.1.1
theorem MAt.zr (H : MAt h m ζ n nv G S sv tx ty sp tl tm) : RwAt h 0 (m + 1) 300 (encZ ζ) := H.1.2
theorem MAt.past (H : MAt h m ζ n nv G S sv tx ty sp tl tm) : PastAt h (m + 3) nv G := H.2.2.2.1
theorem MAt.slot (H : MAt h m ζ n nv G S sv tx ty sp tl tm) : SlotAt h (m + 4) S sv := H.2.2.2.2.1
theorem MAt.svd (H : MAt h m ζ n nv G S sv tx ty sp tl tm) : RwAt h 1 (m + 5) 2 sv := H.2.2.2.2.2.1
theorem MAt.pad (H : MAt h m ζ n nv G S sv tx ty sp tl tm) : RwAt h 0 (m + 6) 80 tx := H.2.2.2.2.2.2.1
theorem MAt.told (H : MAt h m ζ n nv G S sv tx ty sp tl tm) : RwAt h 0 (m + 7) 164 tl := H.2.2.2.2.2.2.2
/-- the numbers are others -/
theorem MAt.setZ (H : MAt h m ζ n nv G S sv tx ty sp tl tm) (hZ : ZAt h' m (mfs m n ty sp tm) ζ') (f : Fr (m + 1) 1 h h') : MAt h' m ζ' n nv G S sv tx ty sp tl tm := by
  obtain ⟨_, a2, a3, a4, a5, a6, a7, a8⟩ := H
  exact ⟨hZ, a2, exR_kept a3 (f _ (by omega)), a4.kept (f _ (by omega)), a5.kept (f _ (by omega)), a6.kept (f _ (by omega)), a7.kept (f _ (by omega)), a8.kept (f _ (by omega))⟩
/-- a field of numbers is another -/
theorem MAt.setF {n' : Nat} {ty' sp' tm' : Int32} (H : MAt h m ζ n nv G S sv tx ty sp tl tm) (hn : n' ≤ 6) : MAt (hset h m (.inr (5, .ref (m + 1) :: mfs m n' ty' sp' tm'))) m ζ n' nv G S sv tx ty' sp' tl tm' := by
  obtain ⟨a1, a2, a3, a4, a5, a6, a7, a8⟩ := H
  have e : ∀ q, q ≠ m → hset h m (.inr (5, .ref (m + 1) :: mfs m n' ty' sp' tm')) q = h q := fun q hq => hset_n _ hq
  exact ⟨⟨hset_s _ _ _, a1.2.kept (e _ (by omega))⟩, hn, exR_kept a3 (e _ (by omega)), a4.kept (e _ (by omega)), a5.kept (e _ (by omega)), a6.kept (e _ (by omega)), a7.kept (e _ (by omega)), a8.kept (e _ (by omega))⟩
theorem MAt.setSpare {g : Nat → Int32} (H : MAt h m ζ n nv G S sv tx ty sp tl tm) (hR : RwAt h' 0 (m + 2) 300 g) (e : ∀ q, q ≠ m + 2 → h' q = h q) : MAt h' m ζ n nv G S sv tx ty sp tl tm := by
  obtain ⟨a1, a2, a3, a4, a5, a6, a7, a8⟩ := H
  exact ⟨⟨(e _ (by omega)).trans a1.1, a1.2.kept (e _ (by omega))⟩, a2, ⟨g, hR⟩, a4.kept (e _ (by omega)), a5.kept (e _ (by omega)), a6.kept (e _ (by omega)), a7.kept (e _ (by omega)), a8.kept (e _ (by omega))⟩
theorem MAt.setPast {nv' : Nat} {G' : Nat → Sg} (H : MAt h m ζ n nv G S sv tx ty sp tl tm) (hR : PastAt h' (m + 3) nv' G') (e : ∀ q, q ≠ m + 3 → h' q = h q) : MAt h' m ζ n nv' G' S sv tx ty sp tl tm := by
  obtain ⟨a1, a2, a3, a4, a5, a6, a7, a8⟩ := H
  exact ⟨⟨(e _ (by omega)).trans a1.1, a1.2.kept (e _ (by omega))⟩, a2, exR_kept a3 (e _ (by omega)), hR, a5.kept (e _ (by omega)), a6.kept (e _ (by omega)), a7.kept (e _ (by omega)), a8.kept (e _ (by omega))⟩
theorem MAt.setZr (H : MAt h m ζ n nv G S sv tx ty sp tl tm) (hR : RwAt h' 0 (m + 1) 300 (encZ ζ')) (e : ∀ q, q ≠ m + 1 → h' q = h q) : MAt h' m ζ' n nv G S sv tx ty sp tl tm :=
  H.setZ ⟨(e _ (by omega)).trans H.1.1, hR⟩ fun q hq => e q (by omega)
theorem MAt.setSl {S' : Nat → Sg} {sv' : Nat → Int32} (H : MAt h m ζ n nv G S sv tx ty sp tl tm) (h1 : SlotAt h' (m + 4) S' sv') (h2 : RwAt h' 1 (m + 5) 2 sv') (e : ∀ q, q ≠ m + 4 → q ≠ m + 5 → h' q = h q) : MAt h' m ζ n nv G S' sv' tx ty sp tl tm := by
  obtain ⟨a1, a2, a3, a4, a5, a6, a7, a8⟩ := H
  exact ⟨⟨(e _ (by omega) (by omega)).trans a1.1, a1.2.kept (e _ (by omega) (by omega))⟩, a2, exR_kept a3 (e _ (by omega) (by omega)), a4.kept (e _ (by omega) (by omega)), h1, h2, a7.kept (e _ (by omega) (by omega)), a8.kept (e _ (by omega) (by omega))⟩
theorem MAt.setPad {tx' : Nat → Int32} (H : MAt h m ζ n nv G S sv tx ty sp tl tm) (hR : RwAt h' 0 (m + 6) 80 tx') (e : ∀ q, q ≠ m + 6 → h' q = h q) : MAt h' m ζ n nv G S sv tx' ty sp tl tm := by
  obtain ⟨a1, a2, a3, a4, a5, a6, a7, a8⟩ := H
  exact ⟨⟨(e _ (by omega)).trans a1.1, a1.2.kept (e _ (by omega))⟩, a2, exR_kept a3 (e _ (by omega)), a4.kept (e _ (by omega)), a5.kept (e _ (by omega)), a6.kept (e _ (by omega)), hR, a8.kept (e _ (by omega))⟩
theorem MAt.setTold {tl' : Nat → Int32} (H : MAt h m ζ n nv G S sv tx ty sp tl tm) (hR : RwAt h' 0 (m + 7) 164 tl') (e : ∀ q, q ≠ m + 7 → h' q = h q) : MAt h' m ζ n nv G S sv tx ty sp tl' tm := by
  obtain ⟨a1, a2, a3, a4, a5, a6, a7, a8⟩ := H
  exact ⟨⟨(e _ (by omega)).trans a1.1, a1.2.kept (e _ (by omega))⟩, a2, exR_kept a3 (e _ (by omega)), a4.kept (e _ (by omega)), a5.kept (e _ (by omega)), a6.kept (e _ (by omega)), a7.kept (e _ (by omega)), hR⟩
end MST
/-- a copy of 300 numbers -/
def cpy (f : Nat → Int32) (fa : Nat) (g : Nat → Int32) (ta k : Nat) : Nat → Int32 := fun q => if ta ≤ q ∧ q < ta + k then f (fa + (q - ta)) else g q
def CO (z b lb : Nat) (h : Nat → Option va_E) (g : Nat → Int32) : Option Value → Hp → Prop := fun r hp' => r = none ∧ ∃ h', hp' = (z, h') ∧ RwAt h' 0 b lb g ∧ ∀ q, q ≠ b → h' q = h q
theorem cpy_s (f : Nat → Int32) (fa : Nat) (g : Nat → Int32) (ta k q : Nat) : upd (cpy f fa g ta k) (ta + k) (f (fa + k)) q = cpy f fa g ta (k + 1) q := by
  unfold upd cpy
  by_cases h : q = ta + k
  · subst h
    rw [if_pos rfl, if_pos (by omega)]
    congr 1
    omega
  · rw [if_neg h]
    by_cases h1 : ta ≤ q ∧ q < ta + k
    · rw [if_pos h1, if_pos (by omega)]
    · rw [if_neg h1, if_neg (by omega)]
theorem cpy_in (f : Nat → Int32) (fa : Nat) (g : Nat → Int32) (ta : Nat) {k i : Nat} (hi : i < k) : cpy f fa g ta k (ta + i) = f (fa + i) := by
  unfold cpy
  rw [if_pos (by omega), show fa + (ta + i - ta) = fa + i by omega]
theorem cpy_out (f : Nat → Int32) (fa : Nat) (g : Nat → Int32) (ta : Nat) {k q : Nat} (hq : q < ta ∨ ta + k ≤ q) : cpy f fa g ta k q = g q := by
  unfold cpy
  rw [if_neg (by omega)]
section MSX
variable {st : Nat → Nat} {k : Nat} {y : MethodName} {cc : ByteArray} {nL : Nat} {ret : Option FieldType} {hp0 : Hp} {mc ms : Nat} {fin : Option Value → Hp → Prop} {pc : Nat} {lv stk stk0 : List Value} {hp : Hp} {cl sl : Nat}
variable {idx n1 nL1 : Nat} {y1 : MethodName} {cc1 : ByteArray} {ret1 : Option FieldType} {As : List Value}
theorem c_SCO {b lb : Nat} {g : Nat → Int32} (hd : decode cc pc = .ok (.invokestatic idx, 3)) (hy : ax_kM y1 cc1 nL1 ret1 n1) (hi : Cond.static y1 ∈ TB) (hl : Cond.methodLink y.cls idx y1 ∈ TB) (hc : CT st k y1 cc1 nL1 ret1 As hp 0 0 (CO hp.1 b lb hp.2 g)) (hs : stk0 = As.reverse ++ stk) (hn : As.length = n1) (hr : (stk.map fun v => v.category).sum ≤ 8) (hm : cl ≤ mc ∧ sl ≤ ms) (h : ∀ h', RwAt h' 0 b lb g → (∀ q, q ≠ b → h' q = hp.2 q) → Ev st (k + 1) y cc nL ret hp0 mc ms fin (pc + 3) lv stk (hp.1, h') cl sl) : Ev st (k + 1) y cc nL ret hp0 mc ms fin pc lv stk0 hp cl sl :=
  x_callS hd hy hi hl hc hs hn hr hm (fun r hp' hq => by
    obtain ⟨rfl, h2, rfl, q1, q2⟩ := hq
    exact h h2 q1 q2)
theorem c_VMM {m ci : Nat} {v : Value} {fs0 : List Value} {ζ' : Sg} {n' nv' : Nat} {G' S' : Nat → Sg} {sv' tx' : Nat → Int32} {ty' sp' : Int32} {tl' : Nat → Int32} {tm' : Int32} (hd : decode cc pc = .ok (.invokevirtual idx, 3)) (hy : ax_kM y1 cc1 nL1 ret1 n1) (hi : Cond.instanceMethod y1 ∈ TB ∧ Cond.selects y1.cls y1 y1 ∈ TB) (hl : Cond.methodLink y.cls idx y1 ∈ TB) (hc : CT st k y1 cc1 nL1 ret1 (.ref m :: As) hp 0 0 (MMO (some v) hp.1 m hp.2 ζ' n' nv' G' S' sv' tx' ty' sp' tl' tm')) (hh : hp.2 m = some (.inr (ci, fs0))) (hci : (vwCl[ci]?).map (fun q => q.1) = some y1.cls) (hs : stk0 = As.reverse ++ .ref m :: stk) (hn : As.length = n1) (hr : (stk.map fun v => v.category).sum ≤ 8) (hm : cl ≤ mc ∧ sl ≤ ms) (h : ∀ h', MAt h' m ζ' n' nv' G' S' sv' tx' ty' sp' tl' tm' → Fr m 8 hp.2 h' → Ev st (k + 1) y cc nL ret hp0 mc ms fin (pc + 3) lv (v :: stk) (hp.1, h') cl sl) : Ev st (k + 1) y cc nL ret hp0 mc ms fin pc lv stk0 hp cl sl :=
  x_callV hd hy hi hl hc hh hci hs hn hr hm (fun r hp' hq => by obtain ⟨rfl, h2, rfl, q1, q2⟩ := hq; exact h h2 q1 q2)
theorem c_VMMn {m ci : Nat} {fs0 : List Value} {ζ' : Sg} {n' nv' : Nat} {G' S' : Nat → Sg} {sv' tx' : Nat → Int32} {ty' sp' : Int32} {tl' : Nat → Int32} {tm' : Int32} (hd : decode cc pc = .ok (.invokevirtual idx, 3)) (hy : ax_kM y1 cc1 nL1 ret1 n1) (hi : Cond.instanceMethod y1 ∈ TB ∧ Cond.selects y1.cls y1 y1 ∈ TB) (hl : Cond.methodLink y.cls idx y1 ∈ TB) (hc : CT st k y1 cc1 nL1 ret1 (.ref m :: As) hp 0 0 (MMO none hp.1 m hp.2 ζ' n' nv' G' S' sv' tx' ty' sp' tl' tm')) (hh : hp.2 m = some (.inr (ci, fs0))) (hci : (vwCl[ci]?).map (fun q => q.1) = some y1.cls) (hs : stk0 = As.reverse ++ .ref m :: stk) (hn : As.length = n1) (hr : (stk.map fun v => v.category).sum ≤ 8) (hm : cl ≤ mc ∧ sl ≤ ms) (h : ∀ h', MAt h' m ζ' n' nv' G' S' sv' tx' ty' sp' tl' tm' → Fr m 8 hp.2 h' → Ev st (k + 1) y cc nL ret hp0 mc ms fin (pc + 3) lv stk (hp.1, h') cl sl) : Ev st (k + 1) y cc nL ret hp0 mc ms fin pc lv stk0 hp cl sl :=
  x_callV hd hy hi hl hc hh hci hs hn hr hm (fun r hp' hq => by obtain ⟨rfl, h2, rfl, q1, q2⟩ := hq; exact h h2 q1 q2)
/-- a field of numbers is stored -/
theorem M_put {m j : Nat} {x : Int32} {ζ : Sg} {n nv : Nat} {G S : Nat → Sg} {sv tx : Nat → Int32} {ty sp : Int32} {tl : Nat → Int32} {tm : Int32} (n' : Nat) (ty' sp' tm' : Int32) (hd : decode cc pc = .ok (.putfield idx, 3)) (hf : ax_fl y.cls idx 5 j .int false) (H : MAt hp.2 m ζ n nv G S sv tx ty sp tl tm) (hj : j < 11) (hfs : (.ref (m + 1) :: mfs m n ty sp tm).set j (.int x) = .ref (m + 1) :: mfs m n' ty' sp' tm') (hn : n' ≤ 6) (h : ∀ h', MAt h' m ζ n' nv G S sv tx ty' sp' tl tm' → (∀ q, q ≠ m → h' q = hp.2 q) → Ev st k y cc nL ret hp0 mc ms fin (pc + 3) lv stk (hp.1, h') cl sl) : Ev st k y cc nL ret hp0 mc ms fin pc lv (.int x :: .ref m :: stk) hp cl sl := by
  refine x_put hd hf H.1.1 rfl rfl hj ?_
  rw [hfs]
  exact h _ (H.setF hn) (fun q hq => hset_n _ hq)
end MSX
/-- days until a lot falls, as the reference lives them through -/
def mRun (j : Nat) : Nat → Nat → Sg → Nat × Sg
  | 0, i, τ => (i, τ)
  | k + 1, i, τ => if τ 2 j = 1 then mRun j k (i + 1) (mDay j τ).1 else (i, τ)
def mFall (σ : Sg) (j : Nat) : Int32 := if (mRun j 700 0 σ).2 2 j = 3 then nI (mRun j 700 0 σ).1 else -6
def WFall (σ : Sg) : Prop := ∀ j, j < nLo σ → σ 2 j = 1 → mFall σ j = oFalls σ (nI j) ∧ (mFall σ j = -6 ∨ 0 < mFall σ j)
def rcN (n : Nat) : Nat := if n < 6 then n + 1 else n
def rcG (G : Nat → Sg) (n : Nat) (ζ : Sg) : Nat → Sg := if n < 6 then hup G n ζ else hsh (hup G n ζ)
