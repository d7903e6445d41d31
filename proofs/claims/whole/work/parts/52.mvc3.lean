section M3
variable {l : Launch} {z0 b N : Nat} {D : va_G} {cA : Nat → ClassId}
/-! the lowest bit -/
theorem lowb {p : Nat → Bool} : ∀ {n : Nat}, (∃ i, i < n ∧ p i = true) → ∃ k, k < n ∧ p k = true ∧ ∀ i, i < k → p i = false
  | 0, h => by obtain ⟨i, h, -⟩ := h; omega
  | n + 1, h => by
    by_cases h2 : ∃ i, i < n ∧ p i = true
    · obtain ⟨k, h3, h4, h5⟩ := lowb h2
      exact ⟨k, by omega, h4, h5⟩
    · obtain ⟨i, hi, hp⟩ := h
      have hin : i = n := by
        rcases Nat.lt_or_ge i n with q | q
        · exact absurd ⟨i, q, hp⟩ h2
        · omega
      subst hin
      refine ⟨i, by omega, hp, fun j hj => ?_⟩
      cases hb : p j with
      | false => rfl
      | true => exact absurd ⟨j, hj, hb⟩ h2
theorem low_nat {x k : Nat} (hk : x.testBit k = true) (hl : ∀ i, i < k → x.testBit i = false) : ∃ m, x = 2 ^ k * (2 * m + 1) := by
  have h0 : x % 2 ^ k = 0 := by
    apply Nat.eq_of_testBit_eq
    intro i
    rw [Nat.testBit_mod_two_pow, Nat.zero_testBit]
    by_cases h : i < k
    · rw [hl i h, Bool.and_false]
    · simp [h]
  have h1 : (x / 2 ^ k) % 2 = 1 := by
    rw [Nat.testBit_eq_decide_div_mod_eq] at hk
    simpa using hk
  refine ⟨x / 2 ^ k / 2, ?_⟩
  have h2 : 2 ^ k * (x / 2 ^ k) = x := by
    have := Nat.div_add_mod x (2 ^ k)
    omega
  have h3 : 2 * (x / 2 ^ k / 2) + 1 = x / 2 ^ k := by omega
  rw [h3, h2]
theorem bt_nat (x : Int32) (i : Nat) : bt x i = x.toBitVec.toNat.testBit i := rfl
theorem low_off {x : Int32} {k : Nat} (hk32 : k < 32) (hk : bt x k = true) (hl : ∀ i, i < k → bt x i = false) {i : Nat} (hi : i < 32) : bt (x &&& (x - 1)) i = (bt x i && !decide (i = k)) := by
  rw [b_and]
  obtain ⟨m, hm⟩ := low_nat (x := x.toBitVec.toNat) (k := k) hk hl
  have hp : 0 < 2 ^ k := Nat.two_pow_pos k
  have hx : x.toBitVec.toNat < 2 ^ 32 := x.toBitVec.isLt
  have hxp : 0 < x.toBitVec.toNat := by rw [hm]; exact Nat.mul_pos hp (by omega)
  have hs : (x - 1).toBitVec.toNat = x.toBitVec.toNat - 1 := by
    rw [Int32.toBitVec_sub, BitVec.toNat_sub]
    rw [show ((1 : Int32).toBitVec).toNat = 1 from rfl]
    omega
  have h4 : x.toBitVec.toNat - 1 = 2 ^ k * (2 * m) + (2 ^ k - 1) := by
    rw [hm, Nat.mul_add, Nat.mul_one]; omega
  have hb : bt (x - 1) i = if i < k then (2 ^ k - 1).testBit i else (2 * m).testBit (i - k) := by
    rw [bt_nat, hs, h4, Nat.testBit_two_pow_mul_add _ (by omega)]
  have hbx : bt x i = if i < k then false else (2 * m + 1).testBit (i - k) := by
    rw [bt_nat, hm]
    have := Nat.testBit_two_pow_mul_add (2 * m + 1) (b := 0) (i := k) hp i
    rw [Nat.add_zero] at this
    rw [this, Nat.zero_testBit]
  rcases Nat.lt_trichotomy i k with h | h | h
  · rw [hl i h]; rfl
  · subst h
    rw [hb, if_neg (by omega), Nat.sub_self, decide_eq_true rfl]
    rw [show (2 * m).testBit 0 = false by rw [Nat.testBit_eq_decide_div_mod_eq]; simp]
    simp
  · rw [hb, hbx, if_neg (by omega), if_neg (by omega), decide_eq_false (by omega)]
    obtain ⟨j, hj⟩ : ∃ j, i - k = j + 1 := ⟨i - k - 1, by omega⟩
    rw [hj, Nat.testBit_succ, Nat.testBit_succ]
    rw [show (2 * m + 1) / 2 = m by omega, show 2 * m / 2 = m by omega]
    simp
theorem bt_zero (i : Nat) : bt 0 i = false := by
  rw [bt_nat]; rw [show ((0 : Int32).toBitVec).toNat = 0 from rfl, Nat.zero_testBit]
theorem ct0 {x : Int32} : fb_ct (bt x) 32 = 0 ↔ x = 0 := by
  rw [fb_ct_zero]
  constructor
  · intro h
    exact b_ext (fun i hi => by rw [h i hi, bt_zero])
  · intro h
    subst h
    exact fun k _ => bt_zero k
theorem low_ct {x : Int32} (h : ¬ x = 0) : fb_ct (bt x) 32 = fb_ct (bt (x &&& (x - 1))) 32 + 1 := by
  have h1 : ∃ i, i < 32 ∧ bt x i = true := by
    apply Classical.byContradiction
    intro hne
    apply h
    rw [← ct0, fb_ct_zero]
    intro k hk
    cases hb : bt x k with
    | false => rfl
    | true => exact absurd ⟨k, hk, hb⟩ hne
  obtain ⟨k, hk, h2, h3⟩ := lowb h1
  have h4 := fb_ct_upd (bt x) false hk
  rw [h2] at h4
  have h5 : fb_ct (fun j => if j = k then false else bt x j) 32 = fb_ct (bt (x &&& (x - 1))) 32 := fb_ct_cong (fun j hj => by
    rw [low_off hk h2 h3 hj]
    by_cases e : j = k <;> simp [e])
  rw [h5] at h4
  simpa using h4.symm
set_option maxHeartbeats 1000000 in
set_option maxRecDepth 20000 in
theorem mX6_many (hlt : l.stackTraces = false) : Sem l z0 b N D cA yX6_many cX6_many 3 (some .int) 0 0 1 zno tX6_many := uX6_many hlt (fun M a h Kn Kx hok hN A h4 => by
  obtain ⟨x, rfl, hk⟩ := hN
  obtain ⟨T, hT⟩ : ∃ T, T = fb_ct (bt x) 32 := ⟨_, rfl⟩
  have hT32 : T ≤ 32 := by rw [hT]; exact fb_ct_le _ _
  rw [← hT] at hk
  have loop : ∀ (k i : Nat) (y : Int32), k = fb_ct (bt y) 32 → i + k = T → A 4 [some (.int x), some (.int (nI i)), some (.int y)] [] h := by
    intro k
    induction k with
    | zero =>
      intro i y hy hi
      apply h4
      have hi9 : i = T := by omega
      subst hi9
      have hy0 := ct0.mp hy.symm
      simp only [bX6_many_4, bX6_many_0, o_iload, o_aload, o_ic, o_lc, o_istore, o_astore, o_iinc, o_bin, o_idiv, o_ineg, o_i2c, o_i2l, o_lcmp, o_if1, o_if2, o_dup, o_dup2, o_getf, o_puti, o_ald, o_iast, o_cast, o_lald, o_last, o_mmin, o_mabs, o_ret, o_vret, o_throw, o_lsw01, o_callS0, o_callS1, o_callS2, o_callS3, o_callS4, o_callS5, o_callV0, o_callV1, o_callV2, o_callV3, o_callV4, o_callV5, zcall_no, zok_nil, zok_ref, zok_int, zE, List.map_cons, List.map_nil, List.length_cons, List.length_nil, List.replicate_succ, List.replicate_zero, List.cons_append, List.nil_append, List.append_nil, List.getElem?_cons_zero, List.getElem?_cons_succ, List.set_cons_zero, List.set_cons_succ, Option.toList_some, Option.toList_none, vp_nar_int, znar_b, zb_0, ne_eq, Bool.not_eq_false, Classical.not_not, nI_1, sh1_def, true_and, and_true, Nat.reduceAdd, Nat.reduceSub, Nat.reduceLT, Nat.reduceLeDiff, Value.category, Nat.zero_add, Nat.add_zero]
      exact ⟨fun _ => hk, fun hc => absurd hy0 hc⟩
    | succ k ih =>
      intro i y hy hi
      apply h4
      have hne : ¬ y = 0 := fun e => by rw [ct0.mpr e] at hy; omega
      have := low_ct hne
      simp only [bX6_many_4, bX6_many_0, o_iload, o_aload, o_ic, o_lc, o_istore, o_astore, o_iinc, o_bin, o_idiv, o_ineg, o_i2c, o_i2l, o_lcmp, o_if1, o_if2, o_dup, o_dup2, o_getf, o_puti, o_ald, o_iast, o_cast, o_lald, o_last, o_mmin, o_mabs, o_ret, o_vret, o_throw, o_lsw01, o_callS0, o_callS1, o_callS2, o_callS3, o_callS4, o_callS5, o_callV0, o_callV1, o_callV2, o_callV3, o_callV4, o_callV5, zcall_no, zok_nil, zok_ref, zok_int, zE, List.map_cons, List.map_nil, List.length_cons, List.length_nil, List.replicate_succ, List.replicate_zero, List.cons_append, List.nil_append, List.append_nil, List.getElem?_cons_zero, List.getElem?_cons_succ, List.set_cons_zero, List.set_cons_succ, Option.toList_some, Option.toList_none, vp_nar_int, znar_b, zb_0, ne_eq, Bool.not_eq_false, Classical.not_not, nI_1, sh1_def, true_and, and_true, Nat.reduceAdd, Nat.reduceSub, Nat.reduceLT, Nat.reduceLeDiff, Value.category, Nat.zero_add, Nat.add_zero]
      exact ⟨fun hc => absurd hc hne, fun _ => ih (i + 1) _ (by omega) (by omega)⟩
  simp only [bX6_many_4, bX6_many_0, o_iload, o_aload, o_ic, o_lc, o_istore, o_astore, o_iinc, o_bin, o_idiv, o_ineg, o_i2c, o_i2l, o_lcmp, o_if1, o_if2, o_dup, o_dup2, o_getf, o_puti, o_ald, o_iast, o_cast, o_lald, o_last, o_mmin, o_mabs, o_ret, o_vret, o_throw, o_lsw01, o_callS0, o_callS1, o_callS2, o_callS3, o_callS4, o_callS5, o_callV0, o_callV1, o_callV2, o_callV3, o_callV4, o_callV5, zcall_no, zok_nil, zok_ref, zok_int, zE, List.map_cons, List.map_nil, List.length_cons, List.length_nil, List.replicate_succ, List.replicate_zero, List.cons_append, List.nil_append, List.append_nil, List.getElem?_cons_zero, List.getElem?_cons_succ, List.set_cons_zero, List.set_cons_succ, Option.toList_some, Option.toList_none, vp_nar_int, znar_b, zb_0, ne_eq, Bool.not_eq_false, Classical.not_not, nI_1, sh1_def, true_and, and_true, Nat.reduceAdd, Nat.reduceSub, Nat.reduceLT, Nat.reduceLeDiff, Value.category, Nat.zero_add, Nat.add_zero]
  exact loop T 0 x hT (by omega))
end M3
