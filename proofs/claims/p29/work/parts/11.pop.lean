/-! ===== Integer.bitCount counts the bits ===== -/
theorem pp_and {a m b n : Nat} (ha : a < 256) (hm : m < 256) : (a + 256 * b) &&& (m + 256 * n) = (a &&& m) + 256 * (b &&& n) := by
  have hr : a &&& m < 2 ^ 8 := Nat.lt_of_le_of_lt Nat.and_le_left (by omega)
  apply Nat.eq_of_testBit_eq
  intro j
  rw [Nat.testBit_and, show a + 256 * b = 2 ^ 8 * b + a by omega, show m + 256 * n = 2 ^ 8 * n + m by omega, show (a &&& m) + 256 * (b &&& n) = 2 ^ 8 * (b &&& n) + (a &&& m) by omega]
  rw [Nat.testBit_two_pow_mul_add _ (by omega), Nat.testBit_two_pow_mul_add _ (by omega), Nat.testBit_two_pow_mul_add _ hr]
  split <;> rw [Nat.testBit_and]
theorem pp_sh {a m b n s : Nat} (ha : a < 256) (hs : s ≤ 8) (hm : m < 2 ^ (8 - s)) : ((a + 256 * b) / 2 ^ s) &&& (m + 256 * n) = ((a / 2 ^ s) &&& m) + 256 * ((b / 2 ^ s) &&& n) := by
  have hm2 : m < 2 ^ 8 := Nat.lt_of_lt_of_le hm (Nat.pow_le_pow_right (by decide) (by omega))
  have hr : (a / 2 ^ s) &&& m < 2 ^ 8 := Nat.lt_of_le_of_lt Nat.and_le_right hm2
  apply Nat.eq_of_testBit_eq
  intro j
  rw [Nat.testBit_and, show a + 256 * b = 2 ^ 8 * b + a by omega, show m + 256 * n = 2 ^ 8 * n + m by omega, show ((a / 2 ^ s) &&& m) + 256 * ((b / 2 ^ s) &&& n) = 2 ^ 8 * ((b / 2 ^ s) &&& n) + ((a / 2 ^ s) &&& m) by omega]
  rw [Nat.testBit_div_two_pow, Nat.testBit_two_pow_mul_add _ (show a < 2 ^ 8 by omega), Nat.testBit_two_pow_mul_add _ hm2, Nat.testBit_two_pow_mul_add _ hr]
  by_cases hj : j < 8
  · rw [if_pos hj, if_pos hj, Nat.testBit_and, Nat.testBit_div_two_pow]
    by_cases h2 : j + s < 8
    · rw [if_pos (by omega)]
      try rw [Nat.add_comm s j]
    · have : m.testBit j = false := Nat.testBit_lt_two_pow (Nat.lt_of_lt_of_le hm (Nat.pow_le_pow_right (by decide) (by omega)))
      rw [this, Bool.and_false, Bool.and_false]
  · rw [if_neg hj, if_neg hj, if_neg (by omega), Nat.testBit_and, Nat.testBit_div_two_pow]
    congr 2
    omega
def g1 (x : Nat) : Nat := x - (x / 2 &&& 1431655765)
def g2 (x : Nat) : Nat := (x &&& 858993459) + (x / 4 &&& 858993459)
def g3 (x : Nat) : Nat := (x + x / 16) &&& 252645135
def q1 (a : Nat) : Nat := a - (a / 2 &&& 85)
def q2 (a : Nat) : Nat := (a &&& 51) + (a / 4 &&& 51)
def q3 (a : Nat) : Nat := (a + a / 16) % 16
theorem q1_lt (a : Nat) (h : a < 256) : q1 a < 256 := by unfold q1; omega
theorem q12_le : ∀ a : Fin 256, q2 (q1 a.val) / 16 ≤ 4 ∧ q2 (q1 a.val) % 16 ≤ 4 := by decide +kernel
theorem q123 : ∀ a : Fin 256, q3 (q2 (q1 a.val)) = fb_ct (fun i => a.val.testBit i) 8 := by decide +kernel
theorem q123_le : ∀ a : Fin 256, q3 (q2 (q1 a.val)) ≤ 8 := by decide +kernel
def lan (a b c d : Nat) : Nat := a + 256 * (b + 256 * (c + 256 * d))
theorem g1_lan {a b c d : Nat} (ha : a < 256) (hb : b < 256) (hc : c < 256) (hd : d < 256) : g1 (lan a b c d) = lan (q1 a) (q1 b) (q1 c) (q1 d) ∧ (lan a b c d / 2 &&& 1431655765) ≤ lan a b c d := by
  have e : lan a b c d / 2 &&& 1431655765 = lan (a / 2 &&& 85) (b / 2 &&& 85) (c / 2 &&& 85) (d / 2 &&& 85) := by
    unfold lan
    have h1 := pp_sh (a := a) (b := b + 256 * (c + 256 * d)) (m := 85) (n := 85 + 256 * (85 + 256 * 85)) (s := 1) ha (by decide) (by decide)
    have h2 := pp_sh (a := b) (b := c + 256 * d) (m := 85) (n := 85 + 256 * 85) (s := 1) hb (by decide) (by decide)
    have h3 := pp_sh (a := c) (b := d) (m := 85) (n := 85) (s := 1) hc (by decide) (by decide)
    simp only [Nat.pow_one] at h1 h2 h3
    rw [show (1431655765 : Nat) = 85 + 256 * (85 + 256 * (85 + 256 * 85)) from rfl, h1, h2, h3]
  have l1 : a / 2 &&& 85 ≤ a := Nat.le_trans Nat.and_le_left (by omega)
  have l2 : b / 2 &&& 85 ≤ b := Nat.le_trans Nat.and_le_left (by omega)
  have l3 : c / 2 &&& 85 ≤ c := Nat.le_trans Nat.and_le_left (by omega)
  have l4 : d / 2 &&& 85 ≤ d := Nat.le_trans Nat.and_le_left (by omega)
  unfold g1
  rw [e]
  unfold lan q1
  generalize a / 2 &&& 85 = a' at *
  generalize b / 2 &&& 85 = b' at *
  generalize c / 2 &&& 85 = c' at *
  generalize d / 2 &&& 85 = d' at *
  omega
theorem g2_lan {a b c d : Nat} (ha : a < 256) (hb : b < 256) (hc : c < 256) (hd : d < 256) : g2 (lan a b c d) = lan (q2 a) (q2 b) (q2 c) (q2 d) := by
  have e : lan a b c d / 4 &&& 858993459 = lan (a / 4 &&& 51) (b / 4 &&& 51) (c / 4 &&& 51) (d / 4 &&& 51) := by
    unfold lan
    have h1 := pp_sh (a := a) (b := b + 256 * (c + 256 * d)) (m := 51) (n := 51 + 256 * (51 + 256 * 51)) (s := 2) ha (by decide) (by decide)
    have h2 := pp_sh (a := b) (b := c + 256 * d) (m := 51) (n := 51 + 256 * 51) (s := 2) hb (by decide) (by decide)
    have h3 := pp_sh (a := c) (b := d) (m := 51) (n := 51) (s := 2) hc (by decide) (by decide)
    rw [show (2 ^ 2 : Nat) = 4 from rfl] at h1 h2 h3
    rw [show (858993459 : Nat) = 51 + 256 * (51 + 256 * (51 + 256 * 51)) from rfl, h1, h2, h3]
  have e2 : lan a b c d &&& 858993459 = lan (a &&& 51) (b &&& 51) (c &&& 51) (d &&& 51) := by
    unfold lan
    rw [show (858993459 : Nat) = 51 + 256 * (51 + 256 * (51 + 256 * 51)) from rfl, pp_and ha (by decide), pp_and hb (by decide), pp_and hc (by decide)]
  unfold g2
  rw [e, e2]
  unfold lan q2
  omega
theorem g3_lan {a b c d : Nat} (ha : a / 16 ≤ 4 ∧ a % 16 ≤ 4) (hb : b / 16 ≤ 4 ∧ b % 16 ≤ 4) (hc : c / 16 ≤ 4 ∧ c % 16 ≤ 4) (hd : d / 16 ≤ 4 ∧ d % 16 ≤ 4) : g3 (lan a b c d) = lan (q3 a) (q3 b) (q3 c) (q3 d) := by
  have e : lan a b c d + lan a b c d / 16 = lan (a + a / 16 + 16 * (b % 16)) (b + b / 16 + 16 * (c % 16)) (c + c / 16 + 16 * (d % 16)) (d + d / 16) := by
    unfold lan
    omega
  have m15 : ∀ x : Nat, x &&& 15 = x % 16 := fun x => Nat.and_two_pow_sub_one_eq_mod x 4
  unfold g3
  rw [e]
  unfold lan
  rw [show (252645135 : Nat) = 15 + 256 * (15 + 256 * (15 + 256 * 15)) from rfl, pp_and (by omega) (by decide), pp_and (by omega) (by decide), pp_and (by omega) (by decide), m15, m15, m15, m15]
  unfold q3
  omega
theorem g45_lan {a b c d : Nat} (ha : a ≤ 8) (hb : b ≤ 8) (hc : c ≤ 8) (hd : d ≤ 8) (x y : Nat) (hx : x = lan a b c d + lan a b c d / 256) (hy : y = x + x / 65536) : y &&& 63 = a + b + c + d := by
  rw [show (63 : Nat) = 2 ^ 6 - 1 from rfl, Nat.and_two_pow_sub_one_eq_mod]
  have e1 : lan a b c d / 256 = b + 256 * (c + 256 * d) := by unfold lan; omega
  have e2 : x = (a + b) + 256 * (b + c) + 65536 * (c + d + 256 * d) := by rw [hx, e1]; unfold lan; omega
  have e3 : x / 65536 = c + d + 256 * d := by omega
  rw [hy, e3, e2]
  omega
theorem fBc_nat {x : Nat} (hx : x < 2 ^ 32) : ∃ a b c d : Nat, a < 256 ∧ b < 256 ∧ c < 256 ∧ d < 256 ∧ x = lan a b c d := by
  refine ⟨x % 256, x / 256 % 256, x / 65536 % 256, x / 16777216, by omega, by omega, by omega, by omega, ?_⟩
  unfold lan
  omega
