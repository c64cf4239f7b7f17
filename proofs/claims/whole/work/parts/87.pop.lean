/-! the count of a set's members: the class's way byte by byte -/
theorem and8 (a c : Nat) {b d : Nat} (hb : b < 256) (hd : d < 256) : (256 * a + b) &&& (256 * c + d) = 256 * (a &&& c) + (b &&& d) := by
  refine Nat.eq_of_testBit_eq fun i => ?_
  have hbd : (b &&& d) < 2 ^ 8 := Nat.and_lt_two_pow _ hd
  rw [Nat.testBit_and, show (256 : Nat) = 2 ^ 8 from rfl, Nat.testBit_two_pow_mul_add _ hb, Nat.testBit_two_pow_mul_add _ hd, Nat.testBit_two_pow_mul_add _ hbd]
  split
  · rw [Nat.testBit_and]
  · rw [Nat.testBit_and]
theorem sh8 (a c : Nat) {b d k : Nat} (hk : k ≤ 8) (hb : b < 256) (hd : d < 2 ^ (8 - k)) : ((256 * a + b) >>> k) &&& (256 * c + d) = 256 * ((a >>> k) &&& c) + ((b >>> k) &&& d) := by
  have hd2 : d < 2 ^ 8 := Nat.lt_of_lt_of_le hd (Nat.pow_le_pow_right (by decide) (by omega))
  refine Nat.eq_of_testBit_eq fun i => ?_
  have hbd : ((b >>> k) &&& d) < 2 ^ 8 := Nat.and_lt_two_pow _ hd2
  rw [Nat.testBit_and, Nat.testBit_shiftRight, show (256 : Nat) = 2 ^ 8 from rfl, Nat.testBit_two_pow_mul_add _ hb, Nat.testBit_two_pow_mul_add _ hd2, Nat.testBit_two_pow_mul_add _ hbd]
  by_cases hi : i < 8
  · rw [if_pos hi, if_pos hi, Nat.testBit_and, Nat.testBit_shiftRight]
    by_cases hki : k + i < 8
    · rw [if_pos hki]
    · have : d.testBit i = false := Nat.testBit_lt_two_pow (Nat.lt_of_lt_of_le hd (Nat.pow_le_pow_right (by decide) (by omega)))
      rw [this, Bool.and_false, Bool.and_false]
  · rw [if_neg hi, if_neg hi, if_neg (by omega), Nat.testBit_and, Nat.testBit_shiftRight, show k + i - 8 = k + (i - 8) by omega]
def fB (m N : Nat) : Nat := N - ((N >>> 1) &&& m)
def fC (m b : Nat) : Nat := (b &&& m) + ((b >>> 2) &&& m)
def fE (m c : Nat) : Nat := (c + (c >>> 4)) &&& m
def uB (r : Nat) : Nat := fC 51 (fB 85 r)
def pB (r : Nat) : Nat := fE 15 (uB r)
theorem fB_le (m N : Nat) : fB m N ≤ N := Nat.sub_le _ _
theorem fB_s (M Y : Nat) {r : Nat} (hr : r < 256) : fB (256 * M + 85) (256 * Y + r) = 256 * fB M Y + fB 85 r := by
  unfold fB
  rw [sh8 Y M (by decide) hr (by decide)]
  have h1 : (Y >>> 1) &&& M ≤ Y := Nat.le_trans Nat.and_le_left (Nat.shiftRight_le _ _)
  have h2 : (r >>> 1) &&& 85 ≤ r := Nat.le_trans Nat.and_le_left (Nat.shiftRight_le _ _)
  omega
theorem fC_s (M b : Nat) {s : Nat} (hs : s < 256) : fC (256 * M + 51) (256 * b + s) = 256 * fC M b + fC 51 s := by
  unfold fC
  rw [sh8 b M (by decide) hs (by decide), and8 b M hs (by decide)]
  omega
theorem uB_s (M5 M3 Y : Nat) {r : Nat} (hr : r < 256) : fC (256 * M3 + 51) (fB (256 * M5 + 85) (256 * Y + r)) = 256 * fC M3 (fB M5 Y) + uB r := by
  rw [fB_s M5 Y hr, fC_s M3 _ (Nat.lt_of_le_of_lt (fB_le 85 r) hr)]
  rfl
theorem uB_le : ∀ r, r < 256 → uB r ≤ 68 ∧ uB r % 16 ≤ 4 := by decide +kernel
theorem fE_s (M c : Nat) {u : Nat} (hu : u ≤ 68) (hc : c % 16 ≤ 4) : fE (256 * M + 15) (256 * c + u) = 256 * fE M c + fE 15 u := by
  unfold fE
  have e4 : ∀ n : Nat, n >>> 4 = n / 16 := fun n => by rw [Nat.shiftRight_eq_div_pow]
  have e : 256 * c + u + (256 * c + u) >>> 4 = 256 * (c + c >>> 4) + (16 * (c % 16) + u + u / 16) := by
    rw [e4, e4]
    omega
  have l15 : ∀ n : Nat, n &&& 15 = n % 16 := fun n => Nat.and_two_pow_sub_one_eq_mod n 4
  rw [e, and8 _ M (by omega) (by decide), l15, l15, e4]
  omega
theorem pB_le : ∀ r, r < 256 → pB r ≤ 8 ∧ pB r = cnt (fun i => r.testBit i) 0 8 := by decide +kernel
/-- four bytes -/
theorem fE_4 {a b c d : Nat} (ha : a < 256) (hb : b < 256) (hc : c < 256) (hd : d < 256) : fE 252645135 (fC 858993459 (fB 1431655765 (256 * (256 * (256 * a + b) + c) + d))) = 256 * (256 * (256 * pB a + pB b) + pB c) + pB d := by
  have e1 := uB_s 85 51 a hb
  have e2 := uB_s (256 * 85 + 85) (256 * 51 + 51) (256 * a + b) hc
  have e3 := uB_s (256 * (256 * 85 + 85) + 85) (256 * (256 * 51 + 51) + 51) (256 * (256 * a + b) + c) hd
  have u0 := uB_le a ha
  have u1 := uB_le b hb
  have u2 := uB_le c hc
  have u3 := uB_le d hd
  rw [show (1431655765 : Nat) = 256 * (256 * (256 * 85 + 85) + 85) + 85 from rfl, show (858993459 : Nat) = 256 * (256 * (256 * 51 + 51) + 51) + 51 from rfl, show (252645135 : Nat) = 256 * (256 * (256 * 15 + 15) + 15) + 15 from rfl, e3, e2, e1]
  rw [show fC 51 (fB 85 a) = uB a from rfl]
  rw [fE_s _ _ u3.1 (by omega), fE_s _ _ u2.1 (by omega), fE_s _ _ u1.1 u0.2]
  rfl
