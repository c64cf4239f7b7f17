/-! what an office is: numbers by row and place. Rows 0 settings, 1 value, 2 state, 3 counted, 4 since, 5 heir, 6 lot, 7 line, 8 proof, 9 state of claims, 10 waited, 11 brought, 12 paidOrder; row 13: lots, claims, paidHeirs, crown, day -/
abbrev Sg : Type := Nat → Nat → Int32
def up2 (σ : Sg) (k j : Nat) (v : Int32) : Sg := fun a b => if a = k ∧ b = j then v else σ a b
theorem up2_s (σ : Sg) (k j : Nat) (v : Int32) : up2 σ k j v k j = v := if_pos ⟨rfl, rfl⟩
theorem up2_k {σ : Sg} {k j a b : Nat} (v : Int32) (h : a ≠ k) : up2 σ k j v a b = σ a b := if_neg (fun q => h q.1)
theorem up2_j {σ : Sg} {k j a b : Nat} (v : Int32) (h : b ≠ j) : up2 σ k j v a b = σ a b := if_neg (fun q => h q.2)
theorem up2_upd (σ : Sg) (k j : Nat) (v : Int32) (i : Nat) : upd (σ k) j v i = up2 σ k j v k i := by
  unfold upd up2
  simp
def RwAt (h : Nat → Option va_E) (t a len : Nat) (g : Nat → Int32) : Prop := ∃ f, h a = some (.inl (t, len, .inl f)) ∧ ∀ i, i < len → f i = g i
/-- what lies outside n cells from o on stays -/
def Fr (o n : Nat) (h h' : Nat → Option va_E) : Prop := ∀ q, (q < o ∨ o + n ≤ q) → h' q = h q
theorem Fr.rf {o n : Nat} {h : Nat → Option va_E} : Fr o n h h := fun _ _ => rfl
theorem Fr.tr {o n : Nat} {h h1 h2 : Nat → Option va_E} (a : Fr o n h h1) (b : Fr o n h1 h2) : Fr o n h h2 := fun q hq => (b q hq).trans (a q hq)
theorem Fr.wide {o n o' n' : Nat} {h h' : Nat → Option va_E} (a : Fr o n h h') (h1 : o' ≤ o) (h2 : o + n ≤ o' + n') : Fr o' n' h h' := fun q hq => a q (by omega)
theorem Fr.set {o n a : Nat} {h : Nat → Option va_E} (e : va_E) (h1 : o ≤ a) (h2 : a < o + n) : Fr o n h (hset h a e) := fun q hq => hset_n e (by omega)
theorem RwAt.kept {h h' : Nat → Option va_E} {t a len : Nat} {g : Nat → Int32} (H : RwAt h t a len g) (e : h' a = h a) : RwAt h' t a len g := by
  obtain ⟨f, h1, h2⟩ := H
  exact ⟨f, e.trans h1, h2⟩
theorem RwAt.to {h : Nat → Option va_E} {t a len : Nat} {g g' : Nat → Int32} (H : RwAt h t a len g) (e : ∀ i, i < len → g i = g' i) : RwAt h t a len g' := by
  obtain ⟨f, h1, h2⟩ := H
  exact ⟨f, h1, fun i hi => (h2 i hi).trans (e i hi)⟩
def LotsAt (h : Nat → Option va_E) (a : Nat) (σ : Sg) : Prop := h a = some (.inr (1, [.int (σ 13 0), .ref (a + 1), .ref (a + 2), .ref (a + 3), .ref (a + 4)])) ∧ RwAt h 0 (a + 1) 12 (σ 1) ∧ RwAt h 0 (a + 2) 12 (σ 2) ∧ RwAt h 0 (a + 3) 12 (σ 3) ∧ RwAt h 0 (a + 4) 12 (σ 4)
def ClaimsAt (h : Nat → Option va_E) (a : Nat) (σ : Sg) : Prop := h a = some (.inr (0, [.int (σ 13 1), .ref (a + 1), .ref (a + 2), .ref (a + 3), .ref (a + 4), .ref (a + 5), .ref (a + 6), .ref (a + 7)])) ∧ RwAt h 0 (a + 1) 30 (σ 5) ∧ RwAt h 0 (a + 2) 30 (σ 6) ∧ RwAt h 0 (a + 3) 30 (σ 7) ∧ RwAt h 0 (a + 4) 30 (σ 8) ∧ RwAt h 0 (a + 5) 30 (σ 9) ∧ RwAt h 0 (a + 6) 30 (σ 10) ∧ RwAt h 0 (a + 7) 30 (σ 11)
def OffAt (h : Nat → Option va_E) (o : Nat) (σ : Sg) : Prop := h o = some (.inr (2, [.ref (o + 1), .ref (o + 2), .ref (o + 7), .ref (o + 15), .int (σ 13 2), .int (σ 13 3), .int (σ 13 4)])) ∧ RwAt h 0 (o + 1) 5 (σ 0) ∧ LotsAt h (o + 2) σ ∧ ClaimsAt h (o + 7) σ ∧ RwAt h 0 (o + 15) 16 (σ 12)
section ST
variable {h h' : Nat → Option va_E} {a o : Nat} {σ : Sg}
theorem LotsAt.ob (H : LotsAt h a σ) : h a = some (.inr (1, [.int (σ 13 0), .ref (a + 1), .ref (a + 2), .ref (a + 3), .ref (a + 4)])) := H.1
theorem LotsAt.r1 (H : LotsAt h a σ) : RwAt h 0 (a + 1) 12 (σ 1) := H.2.1
theorem LotsAt.r2 (H : LotsAt h a σ) : RwAt h 0 (a + 2) 12 (σ 2) := H.2.2.1
theorem LotsAt.r3 (H : LotsAt h a σ) : RwAt h 0 (a + 3) 12 (σ 3) := H.2.2.2.1
theorem LotsAt.r4 (H : LotsAt h a σ) : RwAt h 0 (a + 4) 12 (σ 4) := H.2.2.2.2
theorem ClaimsAt.ob (H : ClaimsAt h a σ) : h a = some (.inr (0, [.int (σ 13 1), .ref (a + 1), .ref (a + 2), .ref (a + 3), .ref (a + 4), .ref (a + 5), .ref (a + 6), .ref (a + 7)])) := H.1
theorem ClaimsAt.r5 (H : ClaimsAt h a σ) : RwAt h 0 (a + 1) 30 (σ 5) := H.2.1
theorem ClaimsAt.r6 (H : ClaimsAt h a σ) : RwAt h 0 (a + 2) 30 (σ 6) := H.2.2.1
theorem ClaimsAt.r7 (H : ClaimsAt h a σ) : RwAt h 0 (a + 3) 30 (σ 7) := H.2.2.2.1
theorem ClaimsAt.r8 (H : ClaimsAt h a σ) : RwAt h 0 (a + 4) 30 (σ 8) := H.2.2.2.2.1
theorem ClaimsAt.r9 (H : ClaimsAt h a σ) : RwAt h 0 (a + 5) 30 (σ 9) := H.2.2.2.2.2.1
theorem ClaimsAt.r10 (H : ClaimsAt h a σ) : RwAt h 0 (a + 6) 30 (σ 10) := H.2.2.2.2.2.2.1
theorem ClaimsAt.r11 (H : ClaimsAt h a σ) : RwAt h 0 (a + 7) 30 (σ 11) := H.2.2.2.2.2.2.2
theorem OffAt.ob (H : OffAt h o σ) : h o = some (.inr (2, [.ref (o + 1), .ref (o + 2), .ref (o + 7), .ref (o + 15), .int (σ 13 2), .int (σ 13 3), .int (σ 13 4)])) := H.1
theorem OffAt.r0 (H : OffAt h o σ) : RwAt h 0 (o + 1) 5 (σ 0) := H.2.1
theorem OffAt.lo (H : OffAt h o σ) : LotsAt h (o + 2) σ := H.2.2.1
theorem OffAt.cl (H : OffAt h o σ) : ClaimsAt h (o + 7) σ := H.2.2.2.1
theorem OffAt.r12 (H : OffAt h o σ) : RwAt h 0 (o + 15) 16 (σ 12) := H.2.2.2.2
theorem LotsAt.kept (H : LotsAt h a σ) (e : ∀ q, a ≤ q → q < a + 5 → h' q = h q) : LotsAt h' a σ := ⟨(e _ (by omega) (by omega)).trans H.1, H.2.1.kept (e _ (by omega) (by omega)), H.2.2.1.kept (e _ (by omega) (by omega)), H.2.2.2.1.kept (e _ (by omega) (by omega)), H.2.2.2.2.kept (e _ (by omega) (by omega))⟩
theorem ClaimsAt.kept (H : ClaimsAt h a σ) (e : ∀ q, a ≤ q → q < a + 8 → h' q = h q) : ClaimsAt h' a σ := ⟨(e _ (by omega) (by omega)).trans H.1, H.2.1.kept (e _ (by omega) (by omega)), H.2.2.1.kept (e _ (by omega) (by omega)), H.2.2.2.1.kept (e _ (by omega) (by omega)), H.2.2.2.2.1.kept (e _ (by omega) (by omega)), H.2.2.2.2.2.1.kept (e _ (by omega) (by omega)), H.2.2.2.2.2.2.1.kept (e _ (by omega) (by omega)), H.2.2.2.2.2.2.2.kept (e _ (by omega) (by omega))⟩
theorem OffAt.kept (H : OffAt h o σ) (e : ∀ q, o ≤ q → q < o + 16 → h' q = h q) : OffAt h' o σ := ⟨(e _ (by omega) (by omega)).trans H.1, H.2.1.kept (e _ (by omega) (by omega)), H.2.2.1.kept (fun q h1 h2 => e q (by omega) (by omega)), H.2.2.2.1.kept (fun q h1 h2 => e q (by omega) (by omega)), H.2.2.2.2.kept (e _ (by omega) (by omega))⟩
theorem OffAt.fr {n o2 : Nat} (H : OffAt h o σ) (f : Fr o2 n h h') (hd : o + 16 ≤ o2 ∨ o2 + n ≤ o) : OffAt h' o σ := H.kept fun q h1 h2 => f q (by omega)
end ST
/-- answers: nothing changed; or an office did -/
def RO (r0 : Option Value) (hp : Hp) : Option Value → Hp → Prop := fun r hp' => r = r0 ∧ hp' = hp
def MO (r0 : Option Value) (z o : Nat) (h : Nat → Option va_E) (σ' : Sg) : Option Value → Hp → Prop := fun r hp' => r = r0 ∧ ∃ h', hp' = (z, h') ∧ OffAt h' o σ' ∧ Fr o 16 h h'
def bI (b : Bool) : Int32 := if b = true then 1 else 0
theorem bI_t : bI true = 1 := rfl
theorem bI_f : bI false = 0 := rfl
theorem bI_ne {b : Bool} (h : ¬ bI b = 0) : b = true := by
  cases b
  · exact absurd rfl h
  · rfl
theorem bI_eq {b : Bool} (h : bI b = 0) : b = false := by
  cases b
  · rfl
  · exact absurd h (by decide)
theorem bI_z (b : Bool) : narrow .boolean (.int (bI b)) = .int (bI b) := by cases b <;> rfl
section STX
variable {st : Nat → Nat} {k : Nat} {y : MethodName} {cc : ByteArray} {nL : Nat} {ret : Option FieldType} {hp0 : Hp} {mc ms : Nat} {fin : Option Value → Hp → Prop} {pc : Nat} {lv stk : List Value} {hp : Hp} {cl sl : Nat}
theorem e_ald {a len j : Nat} {i : Int32} {g : Nat → Int32} (hd : decode cc pc = .ok (.iaload, 1)) (hA : RwAt hp.2 0 a len g) (hi : ax_ix i len j) (h : Ev st k y cc nL ret hp0 mc ms fin (pc + 1) lv (.int (g j) :: stk) hp cl sl) : Ev st k y cc nL ret hp0 mc ms fin pc lv (.int i :: .ref a :: stk) hp cl sl := by
  obtain ⟨f, h1, h2⟩ := hA
  refine x_iald hd h1 hi ?_
  rw [h2 j hi.2.2]
  exact h
theorem e_cald {a len j : Nat} {i : Int32} {g : Nat → Int32} (hd : decode cc pc = .ok (.caload, 1)) (hA : RwAt hp.2 2 a len g) (hi : ax_ix i len j) (h : Ev st k y cc nL ret hp0 mc ms fin (pc + 1) lv (.int (g j) :: stk) hp cl sl) : Ev st k y cc nL ret hp0 mc ms fin pc lv (.int i :: .ref a :: stk) hp cl sl := by
  obtain ⟨f, h1, h2⟩ := hA
  refine x_cald hd h1 hi ?_
  rw [h2 j hi.2.2]
  exact h
theorem e_zald {a len j : Nat} {i : Int32} {g : Nat → Int32} (hd : decode cc pc = .ok (.baload, 1)) (hA : RwAt hp.2 1 a len g) (hi : ax_ix i len j) (h : Ev st k y cc nL ret hp0 mc ms fin (pc + 1) lv (.int (g j) :: stk) hp cl sl) : Ev st k y cc nL ret hp0 mc ms fin pc lv (.int i :: .ref a :: stk) hp cl sl := by
  obtain ⟨f, h1, h2⟩ := hA
  refine x_zald hd h1 hi ?_
  rw [h2 j hi.2.2]
  exact h
theorem e_len {a t len : Nat} {g : Nat → Int32} {v : Int32} (hd : decode cc pc = .ok (.arraylength, 1)) (hA : RwAt hp.2 t a len g) (ht : t < 4) (hv : Int32.ofNat len = v) (h : Ev st k y cc nL ret hp0 mc ms fin (pc + 1) lv (.int v :: stk) hp cl sl) : Ev st k y cc nL ret hp0 mc ms fin pc lv (.ref a :: stk) hp cl sl := by
  obtain ⟨f, h1, h2⟩ := hA
  exact x_alen hd h1 ht hv h
/-- a store into a row of numbers: the row as it is then, all else as it was -/
theorem e_ast {a len j : Nat} {i x : Int32} {g : Nat → Int32} (hd : decode cc pc = .ok (.iastore, 1)) (hA : RwAt hp.2 0 a len g) (hi : ax_ix i len j) (h : ∀ h', RwAt h' 0 a len (upd g j x) → (∀ q, q ≠ a → h' q = hp.2 q) → Ev st k y cc nL ret hp0 mc ms fin (pc + 1) lv stk (hp.1, h') cl sl) : Ev st k y cc nL ret hp0 mc ms fin pc lv (.int x :: .int i :: .ref a :: stk) hp cl sl := by
  obtain ⟨f, h1, h2⟩ := hA
  refine x_iast hd h1 hi (h _ ⟨_, hset_s _ _ _, fun b hb => ?_⟩ (fun q hq => hset_n _ hq))
  unfold upd
  split
  · rfl
  · exact h2 b hb
/-- rows of an office: where they lie, how long they are -/
def oad (o K : Nat) : Nat := match K with
  | 0 => o + 1
  | 1 => o + 2 + 1
  | 2 => o + 2 + 2
  | 3 => o + 2 + 3
  | 4 => o + 2 + 4
  | 5 => o + 7 + 1
  | 6 => o + 7 + 2
  | 7 => o + 7 + 3
  | 8 => o + 7 + 4
  | 9 => o + 7 + 5
  | 10 => o + 7 + 6
  | 11 => o + 7 + 7
  | _ => o + 15
def oln (K : Nat) : Nat := match K with
  | 0 => 5
  | 1 => 12
  | 2 => 12
  | 3 => 12
  | 4 => 12
  | 12 => 16
  | _ => 30
theorem OffAt.row {h : Nat → Option va_E} {o : Nat} {σ : Sg} (H : OffAt h o σ) (K : Nat) (hK : K < 13) : RwAt h 0 (oad o K) (oln K) (σ K) := by
  match K, hK with
  | 0, _ => exact H.r0
  | 1, _ => exact H.lo.r1
  | 2, _ => exact H.lo.r2
  | 3, _ => exact H.lo.r3
  | 4, _ => exact H.lo.r4
  | 5, _ => exact H.cl.r5
  | 6, _ => exact H.cl.r6
  | 7, _ => exact H.cl.r7
  | 8, _ => exact H.cl.r8
  | 9, _ => exact H.cl.r9
  | 10, _ => exact H.cl.r10
  | 11, _ => exact H.cl.r11
  | 12, _ => exact H.r12
theorem OffAt.of {h : Nat → Option va_E} {o : Nat} {σ : Sg} (h1 : h o = some (.inr (2, [.ref (o + 1), .ref (o + 2), .ref (o + 7), .ref (o + 15), .int (σ 13 2), .int (σ 13 3), .int (σ 13 4)]))) (h2 : h (o + 2) = some (.inr (1, [.int (σ 13 0), .ref (o + 2 + 1), .ref (o + 2 + 2), .ref (o + 2 + 3), .ref (o + 2 + 4)]))) (h3 : h (o + 7) = some (.inr (0, [.int (σ 13 1), .ref (o + 7 + 1), .ref (o + 7 + 2), .ref (o + 7 + 3), .ref (o + 7 + 4), .ref (o + 7 + 5), .ref (o + 7 + 6), .ref (o + 7 + 7)]))) (hr : ∀ K, K < 13 → RwAt h 0 (oad o K) (oln K) (σ K)) : OffAt h o σ :=
  ⟨h1, hr 0 (by decide), ⟨h2, hr 1 (by decide), hr 2 (by decide), hr 3 (by decide), hr 4 (by decide)⟩, ⟨h3, hr 5 (by decide), hr 6 (by decide), hr 7 (by decide), hr 8 (by decide), hr 9 (by decide), hr 10 (by decide), hr 11 (by decide)⟩, hr 12 (by decide)⟩
theorem oad_in {o K : Nat} (hK : K < 13) : o < oad o K ∧ oad o K < o + 16 ∧ oad o K ≠ o + 2 ∧ oad o K ≠ o + 7 := by
  match K, hK with
  | 0, _ | 1, _ | 2, _ | 3, _ | 4, _ | 5, _ | 6, _ | 7, _ | 8, _ | 9, _ | 10, _ | 11, _ | 12, _ => simp only [oad]; omega
theorem oad_ne {o K K' : Nat} (hK : K < 13) (hK' : K' < 13) (hne : K ≠ K') : oad o K ≠ oad o K' := by
  have key : ∀ K, K < 13 → oad o K = o + (oad 0 K) := by
    intro K hK
    match K, hK with
    | 0, _ | 1, _ | 2, _ | 3, _ | 4, _ | 5, _ | 6, _ | 7, _ | 8, _ | 9, _ | 10, _ | 11, _ | 12, _ => simp [oad, Nat.add_assoc]
  have k2 : ∀ K, K < 13 → ∀ K', K' < 13 → K ≠ K' → oad 0 K ≠ oad 0 K' := by decide
  have := k2 K hK K' hK' hne
  rw [key K hK, key K' hK']
  omega
/-- a store into a row of an office -/
theorem OffAt.wr {h h' : Nat → Option va_E} {o K j : Nat} {σ : Sg} {x : Int32} (H : OffAt h o σ) (hK : K < 13) (hA : RwAt h' 0 (oad o K) (oln K) (upd (σ K) j x)) (he : ∀ q, q ≠ oad o K → h' q = h q) : OffAt h' o (up2 σ K j x) := by
  obtain ⟨i1, i2, i3, i4⟩ := oad_in (o := o) hK
  have n13 : ∀ b, up2 σ K j x 13 b = σ 13 b := fun b => up2_k x (by omega)
  refine OffAt.of ?_ ?_ ?_ ?_
  · rw [he _ (by omega), n13, n13, n13]; exact H.ob
  · rw [he _ (by omega), n13]; exact H.lo.ob
  · rw [he _ (by omega), n13]; exact H.cl.ob
  · intro K' hK'
    by_cases hk : K' = K
    · subst hk
      exact hA.to fun i _ => up2_upd σ K' j x i
    · have h1 := (H.row K' hK').kept (he _ (oad_ne hK' hK hk))
      exact h1.to fun i _ => (up2_k x hk).symm
theorem e_oast {o K j : Nat} {i x : Int32} {σ : Sg} (hd : decode cc pc = .ok (.iastore, 1)) (H : OffAt hp.2 o σ) (hK : K < 13) (hi : ax_ix i (oln K) j) (h : ∀ h', OffAt h' o (up2 σ K j x) → Fr o 16 hp.2 h' → Ev st k y cc nL ret hp0 mc ms fin (pc + 1) lv stk (hp.1, h') cl sl) : Ev st k y cc nL ret hp0 mc ms fin pc lv (.int x :: .int i :: .ref (oad o K) :: stk) hp cl sl := by
  refine e_ast hd (H.row K hK) hi (fun h' hA he => h h' (H.wr hK hA he) (fun q hq => he q ?_))
  have := oad_in (o := o) hK
  omega
/-- stores into the fields of numbers: paidHeirs, crown, day; lots; claims -/
theorem e_oput {o idx j : Nat} {σ : Sg} {x : Int32} (hd : decode cc pc = .ok (.putfield idx, 3)) (hj : j = 4 ∨ j = 5 ∨ j = 6) (hf : ax_fl y.cls idx 2 j .int false) (H : OffAt hp.2 o σ) (h : ∀ h', OffAt h' o (up2 σ 13 (j - 2) x) → Fr o 16 hp.2 h' → Ev st k y cc nL ret hp0 mc ms fin (pc + 3) lv stk (hp.1, h') cl sl) : Ev st k y cc nL ret hp0 mc ms fin pc lv (.int x :: .ref o :: stk) hp cl sl := by
  refine x_put hd hf H.ob rfl rfl (by rcases hj with rfl | rfl | rfl <;> exact Nat.le_of_ble_eq_true rfl) (h _ ?_ (Fr.set _ (Nat.le_refl o) (by omega)))
  have hr : ∀ K, K < 13 → ∀ b, up2 σ 13 (j - 2) x K b = σ K b := fun K hK b => up2_k x (by omega)
  refine OffAt.of ?_ ?_ ?_ ?_
  · rw [hset_s]
    rcases hj with rfl | rfl | rfl <;> rfl
  · rw [hset_n _ (by omega), up2_j x (by omega)]; exact H.lo.ob
  · rw [hset_n _ (by omega), up2_j x (by omega)]; exact H.cl.ob
  · intro K hK
    obtain ⟨i1, i2, i3, i4⟩ := oad_in (o := o) hK
    exact ((H.row K hK).kept (hset_n _ (by omega))).to fun i _ => (hr K hK i).symm
theorem e_lput {o idx : Nat} {σ : Sg} {x : Int32} (hd : decode cc pc = .ok (.putfield idx, 3)) (hf : ax_fl y.cls idx 1 0 .int false) (H : OffAt hp.2 o σ) (h : ∀ h', OffAt h' o (up2 σ 13 0 x) → Fr o 16 hp.2 h' → Ev st k y cc nL ret hp0 mc ms fin (pc + 3) lv stk (hp.1, h') cl sl) : Ev st k y cc nL ret hp0 mc ms fin pc lv (.int x :: .ref (o + 2) :: stk) hp cl sl := by
  refine x_put hd hf H.lo.ob rfl rfl (Nat.le_of_ble_eq_true rfl) (h _ ?_ (Fr.set _ (by omega) (by omega)))
  have hr : ∀ K, K < 13 → ∀ b, up2 σ 13 0 x K b = σ K b := fun K hK b => up2_k x (by omega)
  refine OffAt.of ?_ ?_ ?_ ?_
  · rw [hset_n _ (by omega), up2_j x (by omega), up2_j x (by omega), up2_j x (by omega)]; exact H.ob
  · rw [hset_s]; rfl
  · rw [hset_n _ (by omega), up2_j x (by omega)]; exact H.cl.ob
  · intro K hK
    obtain ⟨i1, i2, i3, i4⟩ := oad_in (o := o) hK
    exact ((H.row K hK).kept (hset_n _ (by omega))).to fun i _ => (hr K hK i).symm
theorem e_cput {o idx : Nat} {σ : Sg} {x : Int32} (hd : decode cc pc = .ok (.putfield idx, 3)) (hf : ax_fl y.cls idx 0 0 .int false) (H : OffAt hp.2 o σ) (h : ∀ h', OffAt h' o (up2 σ 13 1 x) → Fr o 16 hp.2 h' → Ev st k y cc nL ret hp0 mc ms fin (pc + 3) lv stk (hp.1, h') cl sl) : Ev st k y cc nL ret hp0 mc ms fin pc lv (.int x :: .ref (o + 7) :: stk) hp cl sl := by
  refine x_put hd hf H.cl.ob rfl rfl (Nat.le_of_ble_eq_true rfl) (h _ ?_ (Fr.set _ (by omega) (by omega)))
  have hr : ∀ K, K < 13 → ∀ b, up2 σ 13 1 x K b = σ K b := fun K hK b => up2_k x (by omega)
  refine OffAt.of ?_ ?_ ?_ ?_
  · rw [hset_n _ (by omega), up2_j x (by omega), up2_j x (by omega), up2_j x (by omega)]; exact H.ob
  · rw [hset_n _ (by omega), up2_j x (by omega)]; exact H.lo.ob
  · rw [hset_s]; rfl
  · intro K hK
    obtain ⟨i1, i2, i3, i4⟩ := oad_in (o := o) hK
    exact ((H.row K hK).kept (hset_n _ (by omega))).to fun i _ => (hr K hK i).symm
/-- stores and counts of locals, with a name for the number -/
theorem e_ist_n {i : Fin 4} {x : Int32} {lv' : Int32 → List Value} (hd : decode cc pc = .ok (.istore_n i, 1)) (hn : (i : Nat) < lv.length) (ho : ax_ok lv i = true) (hl : ∀ v, lv.set i (.int v) = lv' v) (h : ∀ v, v = x → Ev st k y cc nL ret hp0 mc ms fin (pc + 1) (lv' v) stk hp cl sl) : Ev st k y cc nL ret hp0 mc ms fin pc lv (.int x :: stk) hp cl sl :=
  x_istore_n hd hn ho (by rw [hl]; exact h x rfl)
theorem e_ist {i : Nat} {x : Int32} {lv' : Int32 → List Value} (hd : decode cc pc = .ok (.istore i, 2)) (hn : i < lv.length) (ho : ax_ok lv i = true) (hl : ∀ v, lv.set i (.int v) = lv' v) (h : ∀ v, v = x → Ev st k y cc nL ret hp0 mc ms fin (pc + 2) (lv' v) stk hp cl sl) : Ev st k y cc nL ret hp0 mc ms fin pc lv (.int x :: stk) hp cl sl :=
  x_istore hd hn ho (by rw [hl]; exact h x rfl)
theorem e_inc {i : Nat} {n : Int} {x : Int32} {lv' : Int32 → List Value} (hd : decode cc pc = .ok (.iinc i n, 3)) (hi : lv[i]? = some (.int x)) (ho : ax_ok lv i = true) (hl : ∀ v, lv.set i (.int v) = lv' v) (h : ∀ v, v = x + Int32.ofInt n → Ev st k y cc nL ret hp0 mc ms fin (pc + 3) (lv' v) stk hp cl sl) : Ev st k y cc nL ret hp0 mc ms fin pc lv stk hp cl sl :=
  x_iinc hd hi rfl ho (by rw [hl]; exact h _ rfl)
theorem e_nm {x : Int32} (h : ∀ v, v = x → Ev st k y cc nL ret hp0 mc ms fin pc lv (.int v :: stk) hp cl sl) : Ev st k y cc nL ret hp0 mc ms fin pc lv (.int x :: stk) hp cl sl := h x rfl
end STX
