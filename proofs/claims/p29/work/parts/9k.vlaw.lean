/-! ===== the law's loops ===== -/
def GG : Nat → Nat
  | 0 => 0
  | k + 1 => GG k + (if k % 6 = 3 then 78 - 2 * k else 0)
def KE : ZK QQ := fun _ st t => match st with
  | [.int v] => (v = 0 ∨ v = 1) ∧ (v = 1 → 124 ≤ t.2.2.2) ∧ t.2.2.1 ≤ 20000
  | _ => False
def qInv (r : Nat) (μ : zMS) : Prop := mOk μ ∧ zLn μ ∧ 8 ≤ tn (mTg μ) ∧ 1 ≤ tn (mTh μ) ∧ tn (mRq μ) ≤ r
theorem gLow_ok {v : Int32} {n : Nat} (h0 : 0 < n) (hn : n < 2 ^ 31) : ∃ j, j < n ∧ gLow v (nI n) = nI j := by
  unfold gLow
  obtain ⟨a, ha, e⟩ := pk_andE v (m := 2147483647) 31 (by decide)
  rw [e, rem_nI ha h0 hn]
  exact ⟨_, Nat.mod_lt _ h0, rfl⟩
theorem gLow_fOk {v x : Int32} {n : Nat} (hx : x = nI n) (h0 : 0 < n) (hn : n < 2 ^ 31) : fOk (gLow v x) x = true := by
  subst hx
  obtain ⟨j, hj, e⟩ := gLow_ok (v := v) h0 hn
  rw [e]
  exact (fOk_n hn).mpr ⟨j, hj, rfl⟩
theorem tg_ne {μ : zMS} (h : 1 ≤ tn (mTg μ)) : ¬ mTg μ = 0 := fun q => by rw [q] at h; exact absurd h (by decide)
theorem th_ne {μ : zMS} (h : 1 ≤ tn (mTh μ)) : ¬ mTh μ = 0 := fun q => by rw [q] at h; exact absurd h (by decide)
theorem enter_k {μ : zMS} {k : Nat} (hm : mOk μ) (hk : k < 1000) (h : (gDoes μ 8 0 0 0).1 = nI k) : qG 0 μ (gDoes μ 8 0 0 0).2 ∧ k < tn (mTg (gDoes μ 8 0 0 0).2) := by
  have e : gDoes μ 8 0 0 0 = gX μ (gEnter μ) := by
    unfold gDoes
    rw [if_neg (by decide), if_neg (by decide), if_neg (by decide), if_neg (by decide), if_neg (by decide), if_neg (by decide), if_neg (by decide)]
  rw [e] at h ⊢
  by_cases h0 : (gEnter μ).2.1 = 0
  · rw [gX_0 h0] at h ⊢
    obtain ⟨j, h1, h2, h3, h4⟩ := P_enter hm h0
    have : j = k := nI_ne h3 (by omega) (h1.symm.trans h)
    subst this
    exact ⟨h4, h2⟩
  · rw [gX_n h0] at h
    have h9 : (0 : Int32) ≤ -99999 := by rw [show (-99999 : Int32) = nI k from h]; exact nn_nI (by omega)
    exact absurd h9 (by decide)
theorem thing_k {μ : zMS} {k : Nat} (hm : mOk μ) (hk : k < 1000) (h : (gDoes μ 0 0 0 0).1 = nI k) : qG 0 μ (gDoes μ 0 0 0 0).2 ∧ 1 ≤ tn (mTh (gDoes μ 0 0 0 0).2) := by
  have e : gDoes μ 0 0 0 0 = gX μ (gAddThing μ) := by
    unfold gDoes
    rw [if_pos rfl]
  rw [e] at h ⊢
  by_cases h0 : (gAddThing μ).2.1 = 0
  · rw [gX_0 h0] at h ⊢
    obtain ⟨j, h1, h2, h3, h4⟩ := P_addThing hm h0
    exact ⟨h4, by omega⟩
  · rw [gX_n h0] at h
    have h9 : (0 : Int32) ≤ -99999 := by rw [show (-99999 : Int32) = nI k from h]; exact nn_nI (by omega)
    exact absurd h9 (by decide)
theorem qPut_f {μ ν x : zMS} {f : zMS → zMS → Prop} : qPut false μ ν x f = f x ν := rfl
theorem qPut_t {μ ν x : zMS} {f : zMS → zMS → Prop} : qPut true μ ν x f = f μ x := rfl
/-- the first loop: names and things -/
def qIn1 (k : Nat) (μ : zMS) : Prop := mOk μ ∧ zLn μ ∧ k ≤ tn (mTg μ) ∧ (0 < k → 1 ≤ tn (mTh μ)) ∧ tn (mRq μ) ≤ 0
abbrev lsL (bb : Int32) (k : Nat) (x5 x6 : Option Value) : List (Option Value) := [some (.retAddr 0), some (.ref 0), some (.ref 29), some (.int bb), some (.int (nI k)), x5, x6]
set_option maxHeartbeats 1000000 in
theorem law_1 (A : Nat → ZK QQ) (h21 : ∀ ls st t, bL_law_21 (A 21) (A 135) KE ls st t → A 21 ls st t)
    (H : ∀ (bb : Int32) (x5 x6 : Option Value) (μo μp : zMS) (j g : Nat), (bb = 0 ∨ bb = 1) → (bb = 1 → μo = μp ∧ qInv 0 μo) → j ≤ 48 → A 135 (lsL bb 0 x5 x6) [] (μo, μp, j, g)) :
    ∀ f k (bb : Int32) (x5 x6 : Option Value) (μo μp : zMS) (j g : Nat), k + f = 8 → (bb = 0 ∨ bb = 1) → (bb = 1 → μo = μp ∧ qIn1 k μo) → j ≤ 6 * k → A 21 (lsL bb k x5 x6) [] (μo, μp, j, g) := by
  intro f
  induction f with
  | zero =>
    intro k bb x5 x6 μo μp j g hk hb hg hj
    refine h21 _ _ _ ?_
    have hc : ((8 : Int32) ≤ nI k) = True := eq_true ((nI_leI (a := 8) (by omega) (by omega)).mpr (by omega))
    simp only [bL_law_21, tL_low, tL_type, tL_does, hc, o_alS, o_cell, o_iload, o_aload, o_ic, o_lc, o_istore, o_astore, o_iinc, o_bin, o_idiv, o_ineg, o_i2c, o_i2l, o_lcmp, o_if1, o_if2, o_dup, o_dup2, o_getf, o_puti, o_ald, o_iast, o_cast, o_lald, o_last, o_mmin, o_mabs, o_ret, o_vret, o_throw, o_lsw01, o_callS0, o_callS1, o_callS2, o_callS3, o_callS4, o_callS5, o_callV0, o_callV1, o_callV2, o_callV3, o_callV4, o_callV5, o_rd0, o_rd1, o_rd2, o_rd3, o_wr0, o_wr1, o_wr2, o_wr3, o_tr0, o_tr1, o_tr2, o_tr3, o_tr4, o_to1, o_to4, o_cL, o_irem, o_ret2, zcall_no, zok_nil, zok_ref, zok_int, zE, List.map_cons, List.map_nil, List.length_cons, List.length_nil, List.replicate_succ, List.replicate_zero, List.cons_append, List.nil_append, List.append_nil, List.getElem?_cons_zero, List.getElem?_cons_succ, List.set_cons_zero, List.set_cons_succ, Option.toList_some, Option.toList_none, vp_nar_int, znar_b, zb_0, ne_eq, Bool.not_eq_false, Classical.not_not, nI_1, sh1_def, true_and, and_true, Nat.reduceAdd, Nat.reduceSub, Nat.reduceLT, Nat.reduceLeDiff, Value.category, Nat.zero_add, Nat.add_zero, qmu_M, qset_j, List.take_succ_cons, List.take_zero, List.drop_succ_cons, List.drop_zero, List.reverse_cons, List.reverse_nil, sr_def, qex, qix_qob, qix_0, qix_29, qob_f, qob_t, qM_f, qM_t, qset_f, qset_t, i01, i10, not_true_eq_false, not_false_eq_true, false_implies, true_implies, true_or, or_true, forall_const, qrs_nil, qrs_int, qrs_ref, qrs_ra]
    have hk8 : k = 8 := by omega
    subst hk8
    exact H bb x5 x6 μo μp j g hb (fun h => by
      obtain ⟨a, hm, hln, ht, hth, hrq⟩ := hg h
      exact ⟨a, hm, hln, ht, hth (by omega), hrq⟩) (by omega)
  | succ f ih =>
    intro k bb x5 x6 μo μp j g hk hb hg hj
    refine h21 _ _ _ ?_
    have hc : ((8 : Int32) ≤ nI k) = False := eq_false (fun h => absurd ((nI_leI (a := 8) (by omega) (by omega)).mp h) (by omega))
    have i0 := fun μo μp j g hj => ih (k + 1) 0 x5 x6 μo μp j g (by omega) (Or.inl rfl) (fun h => absurd h (by decide)) hj
    rcases hb with rfl | rfl
    · simp only [bL_law_21, bL_law_124, bL_law_125, bL_law_120, tL_low, tL_type, tL_does, hc, qPut_f, qPut_t, o_alS, o_cell, o_iload, o_aload, o_ic, o_lc, o_istore, o_astore, o_iinc, o_bin, o_idiv, o_ineg, o_i2c, o_i2l, o_lcmp, o_if1, o_if2, o_dup, o_dup2, o_getf, o_puti, o_ald, o_iast, o_cast, o_lald, o_last, o_mmin, o_mabs, o_ret, o_vret, o_throw, o_lsw01, o_callS0, o_callS1, o_callS2, o_callS3, o_callS4, o_callS5, o_callV0, o_callV1, o_callV2, o_callV3, o_callV4, o_callV5, o_rd0, o_rd1, o_rd2, o_rd3, o_wr0, o_wr1, o_wr2, o_wr3, o_tr0, o_tr1, o_tr2, o_tr3, o_tr4, o_to1, o_to4, o_cL, o_irem, o_ret2, zcall_no, zok_nil, zok_ref, zok_int, zE, List.map_cons, List.map_nil, List.length_cons, List.length_nil, List.replicate_succ, List.replicate_zero, List.cons_append, List.nil_append, List.append_nil, List.getElem?_cons_zero, List.getElem?_cons_succ, List.set_cons_zero, List.set_cons_succ, Option.toList_some, Option.toList_none, vp_nar_int, znar_b, zb_0, ne_eq, Bool.not_eq_false, Classical.not_not, nI_1, sh1_def, true_and, and_true, Nat.reduceAdd, Nat.reduceSub, Nat.reduceLT, Nat.reduceLeDiff, Value.category, Nat.zero_add, Nat.add_zero, qmu_M, qset_j, List.take_succ_cons, List.take_zero, List.drop_succ_cons, List.drop_zero, List.reverse_cons, List.reverse_nil, sr_def, qex, qix_qob, qix_0, qix_29, qob_f, qob_t, qM_f, qM_t, qset_f, qset_t, i01, i10, not_true_eq_false, not_false_eq_true, false_implies, true_implies, true_or, or_true, forall_const, qrs_nil, qrs_int, qrs_ref, qrs_ra]
      exact i0 _ _ _ _ (by omega)
    · obtain ⟨rfl, hm, hln, ht, hth, hrq⟩ := hg rfl
      simp only [bL_law_21, bL_law_124, bL_law_125, bL_law_120, tL_low, tL_type, tL_does, hc, qPut_f, qPut_t, o_alS, o_cell, o_iload, o_aload, o_ic, o_lc, o_istore, o_astore, o_iinc, o_bin, o_idiv, o_ineg, o_i2c, o_i2l, o_lcmp, o_if1, o_if2, o_dup, o_dup2, o_getf, o_puti, o_ald, o_iast, o_cast, o_lald, o_last, o_mmin, o_mabs, o_ret, o_vret, o_throw, o_lsw01, o_callS0, o_callS1, o_callS2, o_callS3, o_callS4, o_callS5, o_callV0, o_callV1, o_callV2, o_callV3, o_callV4, o_callV5, o_rd0, o_rd1, o_rd2, o_rd3, o_wr0, o_wr1, o_wr2, o_wr3, o_tr0, o_tr1, o_tr2, o_tr3, o_tr4, o_to1, o_to4, o_cL, o_irem, o_ret2, zcall_no, zok_nil, zok_ref, zok_int, zE, List.map_cons, List.map_nil, List.length_cons, List.length_nil, List.replicate_succ, List.replicate_zero, List.cons_append, List.nil_append, List.append_nil, List.getElem?_cons_zero, List.getElem?_cons_succ, List.set_cons_zero, List.set_cons_succ, Option.toList_some, Option.toList_none, vp_nar_int, znar_b, zb_0, ne_eq, Bool.not_eq_false, Classical.not_not, nI_1, sh1_def, true_and, and_true, Nat.reduceAdd, Nat.reduceSub, Nat.reduceLT, Nat.reduceLeDiff, Value.category, Nat.zero_add, Nat.add_zero, qmu_M, qset_j, List.take_succ_cons, List.take_zero, List.drop_succ_cons, List.drop_zero, List.reverse_cons, List.reverse_nil, sr_def, qex, qix_qob, qix_0, qix_29, qob_f, qob_t, qM_f, qM_t, qset_f, qset_t, i01, i10, not_true_eq_false, not_false_eq_true, false_implies, true_implies, true_or, or_true, forall_const, qrs_nil, qrs_int, qrs_ref, qrs_ra]
      have a1 := qA_G hm (typ_a hm (isCh_c (65 + nI k)))
      refine ⟨by omega, isCh_c _, fun g1 => ⟨fun _ => i0 _ _ _ _ (by omega), fun h1 => ⟨by omega, isCh_c _, fun g2 => ⟨fun _ => i0 _ _ _ _ (by omega), fun _ => ⟨by omega, fun g3 => ⟨fun _ => i0 _ _ _ _ (by omega), fun h3 => ⟨by omega, fun g4 => ⟨fun _ => i0 _ _ _ _ (by omega), fun _ => ⟨fun hk2 => ?_, fun hk2 => ⟨by omega, fun g5 => ⟨fun _ => i0 _ _ _ _ (by omega), fun h5 => ⟨by omega, fun g6 => ⟨fun _ => i0 _ _ _ _ (by omega), fun _ => ?_⟩⟩⟩⟩⟩⟩⟩⟩⟩⟩⟩⟩⟩
      · obtain ⟨a2, b2⟩ := enter_k a1.1 (by omega) h3
        have a3 := qG_tr a1 a2
        have hk3 := (nI_ltI (a := 2) (by omega) (by omega)).mp hk2
        have ht0 := hth (by omega)
        exact ih (k + 1) 1 x5 x6 _ _ _ _ (by omega) (Or.inr rfl) (fun _ => ⟨rfl, a3.1, a3.2.1 hln, by omega, fun _ => by have := a3.2.2.2.1; omega, by have := a3.2.2.2.2; omega⟩) (by omega)
      · obtain ⟨a2, b2⟩ := enter_k a1.1 (by omega) h3
        obtain ⟨a4, b4⟩ := thing_k a2.1 (by omega) h5
        have a3 := qG_tr a1 (qG_tr a2 a4)
        exact ih (k + 1) 1 x5 x6 _ _ _ _ (by omega) (Or.inr rfl) (fun _ => ⟨rfl, a3.1, a3.2.1 hln, by have := a4.2.2.1; omega, fun _ => b4, by have := a3.2.2.2.2; omega⟩) (by omega)
