section R5
variable {l : Launch} {z0 b N : Nat} {D : va_G} {cA : Nat → ClassId}
theorem fFind_s (q : Nat → Bool) (n f k : Nat) : fFind q n (f + 1) k = if k < n then (if q k then some k else fFind q n f (k + 1)) else none := rfl
theorem fSp_s (nx : Nat → Int32) (n k : Nat) (all : Int32) : fSp nx n (k + 1) all = if fSpI nx all n = all then all else fSp nx n k (fSpI nx all n) := rfl
theorem fSpI_s (nx : Nat → Int32) (all : Int32) (i : Nat) : fSpI nx all (i + 1) = if bt all i then fSpI nx all i ||| nx i else fSpI nx all i := rfl
set_option maxHeartbeats 1000000 in
set_option maxRecDepth 20000 in
theorem mX4_spread (hlt : l.stackTraces = false) : Sem l z0 b N D cA yX4_spread cX4_spread 6 (some .int) 2 47 2 zno tX4_spread := uX4_spread hlt (mX4_endsOf hlt) (mX5_has hlt) (fun M a h Kn Kx hok hN A h8 h22 => by
  obtain ⟨bs, ρ, f, n, x, rfl, rfl, hR, hk⟩ := hN
  have hn24 := hR.2
  obtain ⟨w, hw⟩ : ∃ w : Int32, w = fSp ρ.2.2.1 n n (fEnds ρ.1 n x n) := ⟨_, rfl⟩
  rw [← hw] at hk
  have outer : ∀ (k i : Nat) (all : Int32) (w4 w5 : Option Value), i + k = n → fSp ρ.2.2.1 n k all = w → A 8 [some (.ref bs), some (.int x), some (.int all), some (.int (nI i)), w4, w5] [] (pR bs ρ f) := by
    intro k
    induction k with
    | zero =>
      intro i all w4 w5 hi he
      apply h8
      have hi9 : i = n := by omega
      subst hi9
      simp only [bX4_spread_76, bX4_spread_52, bX4_spread_22, bX4_spread_8, bX4_spread_0, pR_0, hR.1, o_iload, o_aload, o_ic, o_lc, o_istore, o_astore, o_iinc, o_bin, o_idiv, o_ineg, o_i2c, o_i2l, o_lcmp, o_if1, o_if2, o_dup, o_dup2, o_getf, o_puti, o_ald, o_iast, o_cast, o_lald, o_last, o_mmin, o_mabs, o_ret, o_vret, o_throw, o_lsw01, o_callS0, o_callS1, o_callS2, o_callS3, o_callS4, o_callS5, o_callV0, o_callV1, o_callV2, o_callV3, o_callV4, o_callV5, zcall_no, zok_nil, zok_ref, zok_int, zE, List.map_cons, List.map_nil, List.length_cons, List.length_nil, List.replicate_succ, List.replicate_zero, List.cons_append, List.nil_append, List.append_nil, List.getElem?_cons_zero, List.getElem?_cons_succ, List.set_cons_zero, List.set_cons_succ, Option.toList_some, Option.toList_none, vp_nar_int, znar_b, zb_0, ne_eq, Bool.not_eq_false, Classical.not_not, nI_1, sh1_def, true_and, and_true, Nat.reduceAdd, Nat.reduceSub, Nat.reduceLT, Nat.reduceLeDiff, Value.category, Nat.zero_add, Nat.add_zero]
      refine ⟨fun _ => ?_, fun hc => absurd (Int32.le_refl _) hc⟩
      rw [← he] at hk
      exact hk
    | succ k ih =>
      intro i all w4 w5 hi he
      rw [fSp_s] at he
      have inner : ∀ (m j : Nat), j + m = n → A 22 [some (.ref bs), some (.int x), some (.int all), some (.int (nI i)), some (.int (fSpI ρ.2.2.1 all j)), some (.int (nI j))] [] (pR bs ρ f) := by
        intro m
        induction m with
        | zero =>
          intro j hj
          apply h22
          have hj9 : j = n := by omega
          subst hj9
          simp only [bX4_spread_76, bX4_spread_52, bX4_spread_22, bX4_spread_8, bX4_spread_0, pR_0, hR.1, o_iload, o_aload, o_ic, o_lc, o_istore, o_astore, o_iinc, o_bin, o_idiv, o_ineg, o_i2c, o_i2l, o_lcmp, o_if1, o_if2, o_dup, o_dup2, o_getf, o_puti, o_ald, o_iast, o_cast, o_lald, o_last, o_mmin, o_mabs, o_ret, o_vret, o_throw, o_lsw01, o_callS0, o_callS1, o_callS2, o_callS3, o_callS4, o_callS5, o_callV0, o_callV1, o_callV2, o_callV3, o_callV4, o_callV5, zcall_no, zok_nil, zok_ref, zok_int, zE, List.map_cons, List.map_nil, List.length_cons, List.length_nil, List.replicate_succ, List.replicate_zero, List.cons_append, List.nil_append, List.append_nil, List.getElem?_cons_zero, List.getElem?_cons_succ, List.set_cons_zero, List.set_cons_succ, Option.toList_some, Option.toList_none, vp_nar_int, znar_b, zb_0, ne_eq, Bool.not_eq_false, Classical.not_not, nI_1, sh1_def, true_and, and_true, Nat.reduceAdd, Nat.reduceSub, Nat.reduceLT, Nat.reduceLeDiff, Value.category, Nat.zero_add, Nat.add_zero]
          refine ⟨fun _ => ⟨fun h1 => ?_, fun h1 => ?_⟩, fun hc => absurd (Int32.le_refl _) hc⟩
          · rw [if_neg h1] at he
            exact ih (i + 1) _ _ _ (by omega) he
          · rw [if_pos h1] at he
            rw [← he] at hk
            exact hk
        | succ m ihm =>
          intro j hj
          apply h22
          have hc := nI_clamp (show j < 2 ^ 31 by omega)
          simp only [bX4_spread_76, bX4_spread_52, bX4_spread_22, bX4_spread_8, bX4_spread_0, pR_0, hR.1, o_iload, o_aload, o_ic, o_lc, o_istore, o_astore, o_iinc, o_bin, o_idiv, o_ineg, o_i2c, o_i2l, o_lcmp, o_if1, o_if2, o_dup, o_dup2, o_getf, o_puti, o_ald, o_iast, o_cast, o_lald, o_last, o_mmin, o_mabs, o_ret, o_vret, o_throw, o_lsw01, o_callS0, o_callS1, o_callS2, o_callS3, o_callS4, o_callS5, o_callV0, o_callV1, o_callV2, o_callV3, o_callV4, o_callV5, zcall_no, zok_nil, zok_ref, zok_int, zE, List.map_cons, List.map_nil, List.length_cons, List.length_nil, List.replicate_succ, List.replicate_zero, List.cons_append, List.nil_append, List.append_nil, List.getElem?_cons_zero, List.getElem?_cons_succ, List.set_cons_zero, List.set_cons_succ, Option.toList_some, Option.toList_none, vp_nar_int, znar_b, zb_0, ne_eq, Bool.not_eq_false, Classical.not_not, nI_1, sh1_def, true_and, and_true, Nat.reduceAdd, Nat.reduceSub, Nat.reduceLT, Nat.reduceLeDiff, Value.category, Nat.zero_add, Nat.add_zero]
          have ih' := ihm (j + 1) (by omega)
          refine ⟨fun hc => absurd (nI_le_le (by omega) (by omega) hc) (by omega), fun _ => ⟨_, _, rfl, by omega, ?_⟩⟩
          simp only [bX4_spread_76, bX4_spread_52, bX4_spread_22, bX4_spread_8, bX4_spread_0, pR_0, pR_3, hR.1, hc, o_iload, o_aload, o_ic, o_lc, o_istore, o_astore, o_iinc, o_bin, o_idiv, o_ineg, o_i2c, o_i2l, o_lcmp, o_if1, o_if2, o_dup, o_dup2, o_getf, o_puti, o_ald, o_iast, o_cast, o_lald, o_last, o_mmin, o_mabs, o_ret, o_vret, o_throw, o_lsw01, o_callS0, o_callS1, o_callS2, o_callS3, o_callS4, o_callS5, o_callV0, o_callV1, o_callV2, o_callV3, o_callV4, o_callV5, zcall_no, zok_nil, zok_ref, zok_int, zE, List.map_cons, List.map_nil, List.length_cons, List.length_nil, List.replicate_succ, List.replicate_zero, List.cons_append, List.nil_append, List.append_nil, List.getElem?_cons_zero, List.getElem?_cons_succ, List.set_cons_zero, List.set_cons_succ, Option.toList_some, Option.toList_none, vp_nar_int, znar_b, zb_0, ne_eq, Bool.not_eq_false, Classical.not_not, nI_1, sh1_def, true_and, and_true, Nat.reduceAdd, Nat.reduceSub, Nat.reduceLT, Nat.reduceLeDiff, Value.category, Nat.zero_add, Nat.add_zero]
          refine ⟨fun hb => ?_, fun hb => ⟨vpin (by omega) (by omega), ?_⟩⟩
          · simpa [fSpI_s, hb] using ih'
          · simpa [fSpI_s, hb] using ih'
      apply h8
      simp only [bX4_spread_76, bX4_spread_52, bX4_spread_22, bX4_spread_8, bX4_spread_0, pR_0, hR.1, o_iload, o_aload, o_ic, o_lc, o_istore, o_astore, o_iinc, o_bin, o_idiv, o_ineg, o_i2c, o_i2l, o_lcmp, o_if1, o_if2, o_dup, o_dup2, o_getf, o_puti, o_ald, o_iast, o_cast, o_lald, o_last, o_mmin, o_mabs, o_ret, o_vret, o_throw, o_lsw01, o_callS0, o_callS1, o_callS2, o_callS3, o_callS4, o_callS5, o_callV0, o_callV1, o_callV2, o_callV3, o_callV4, o_callV5, zcall_no, zok_nil, zok_ref, zok_int, zE, List.map_cons, List.map_nil, List.length_cons, List.length_nil, List.replicate_succ, List.replicate_zero, List.cons_append, List.nil_append, List.append_nil, List.getElem?_cons_zero, List.getElem?_cons_succ, List.set_cons_zero, List.set_cons_succ, Option.toList_some, Option.toList_none, vp_nar_int, znar_b, zb_0, ne_eq, Bool.not_eq_false, Classical.not_not, nI_1, sh1_def, true_and, and_true, Nat.reduceAdd, Nat.reduceSub, Nat.reduceLT, Nat.reduceLeDiff, Value.category, Nat.zero_add, Nat.add_zero]
      refine ⟨fun hc => absurd (nI_le_le (by omega) (by omega) hc) (by omega), fun _ => ?_⟩
      exact inner n 0 (by omega)
  simp only [bX4_spread_76, bX4_spread_52, bX4_spread_22, bX4_spread_8, bX4_spread_0, pR_0, o_iload, o_aload, o_ic, o_lc, o_istore, o_astore, o_iinc, o_bin, o_idiv, o_ineg, o_i2c, o_i2l, o_lcmp, o_if1, o_if2, o_dup, o_dup2, o_getf, o_puti, o_ald, o_iast, o_cast, o_lald, o_last, o_mmin, o_mabs, o_ret, o_vret, o_throw, o_lsw01, o_callS0, o_callS1, o_callS2, o_callS3, o_callS4, o_callS5, o_callV0, o_callV1, o_callV2, o_callV3, o_callV4, o_callV5, zcall_no, zok_nil, zok_ref, zok_int, zE, List.map_cons, List.map_nil, List.length_cons, List.length_nil, List.replicate_succ, List.replicate_zero, List.cons_append, List.nil_append, List.append_nil, List.getElem?_cons_zero, List.getElem?_cons_succ, List.set_cons_zero, List.set_cons_succ, Option.toList_some, Option.toList_none, vp_nar_int, znar_b, zb_0, ne_eq, Bool.not_eq_false, Classical.not_not, nI_1, sh1_def, true_and, and_true, Nat.reduceAdd, Nat.reduceSub, Nat.reduceLT, Nat.reduceLeDiff, Value.category, Nat.zero_add, Nat.add_zero]
  refine ⟨bs, ρ, f, n, x, rfl, rfl, hR, ?_⟩
  simp only [bX4_spread_76, bX4_spread_52, bX4_spread_22, bX4_spread_8, bX4_spread_0, o_iload, o_aload, o_ic, o_lc, o_istore, o_astore, o_iinc, o_bin, o_idiv, o_ineg, o_i2c, o_i2l, o_lcmp, o_if1, o_if2, o_dup, o_dup2, o_getf, o_puti, o_ald, o_iast, o_cast, o_lald, o_last, o_mmin, o_mabs, o_ret, o_vret, o_throw, o_lsw01, o_callS0, o_callS1, o_callS2, o_callS3, o_callS4, o_callS5, o_callV0, o_callV1, o_callV2, o_callV3, o_callV4, o_callV5, zcall_no, zok_nil, zok_ref, zok_int, zE, List.map_cons, List.map_nil, List.length_cons, List.length_nil, List.replicate_succ, List.replicate_zero, List.cons_append, List.nil_append, List.append_nil, List.getElem?_cons_zero, List.getElem?_cons_succ, List.set_cons_zero, List.set_cons_succ, Option.toList_some, Option.toList_none, vp_nar_int, znar_b, zb_0, ne_eq, Bool.not_eq_false, Classical.not_not, nI_1, sh1_def, true_and, and_true, Nat.reduceAdd, Nat.reduceSub, Nat.reduceLT, Nat.reduceLeDiff, Value.category, Nat.zero_add, Nat.add_zero]
  exact outer n 0 _ _ _ (by omega) hw.symm)
set_option maxHeartbeats 1000000 in
set_option maxRecDepth 20000 in
theorem mX4_nearest (hlt : l.stackTraces = false) : Sem l z0 b N D cA yX4_nearest cX4_nearest 6 (some .int) 1 24 3 zno tX4_nearest := uX4_nearest hlt (mX5_has hlt) (mX4_endOf hlt) (mX4_leadingTo hlt) (fun M a h Kn Kx hok hN A h7 h19 => by
  obtain ⟨bs, ρ, f, n, t, x, rfl, rfl, hR, ht, hk⟩ := hN
  have hn24 := hR.2
  obtain ⟨w, hw⟩ : ∃ w : Int32, w = fNear ρ.1 ρ.2.2.1 n x n 0 (sh1 t) := ⟨_, rfl⟩
  rw [← hw] at hk
  have outer : ∀ (k i : Nat) (near : Int32) (w5 : Option Value), i + k = n → fNear ρ.1 ρ.2.2.1 n x k i near = w → A 7 [some (.ref bs), some (.int x), some (.int (nI t)), some (.int near), some (.int (nI i)), w5] [] (pR bs ρ f) := by
    intro k
    induction k with
    | zero =>
      intro i near w5 hi he
      apply h7
      have hi9 : i = n := by omega
      subst hi9
      simp only [bX4_nearest_59, bX4_nearest_19, bX4_nearest_7, bX4_nearest_0, pR_0, hR.1, o_iload, o_aload, o_ic, o_lc, o_istore, o_astore, o_iinc, o_bin, o_idiv, o_ineg, o_i2c, o_i2l, o_lcmp, o_if1, o_if2, o_dup, o_dup2, o_getf, o_puti, o_ald, o_iast, o_cast, o_lald, o_last, o_mmin, o_mabs, o_ret, o_vret, o_throw, o_lsw01, o_callS0, o_callS1, o_callS2, o_callS3, o_callS4, o_callS5, o_callV0, o_callV1, o_callV2, o_callV3, o_callV4, o_callV5, zcall_no, zok_nil, zok_ref, zok_int, zE, List.map_cons, List.map_nil, List.length_cons, List.length_nil, List.replicate_succ, List.replicate_zero, List.cons_append, List.nil_append, List.append_nil, List.getElem?_cons_zero, List.getElem?_cons_succ, List.set_cons_zero, List.set_cons_succ, Option.toList_some, Option.toList_none, vp_nar_int, znar_b, zb_0, ne_eq, Bool.not_eq_false, Classical.not_not, nI_1, sh1_def, true_and, and_true, Nat.reduceAdd, Nat.reduceSub, Nat.reduceLT, Nat.reduceLeDiff, Value.category, Nat.zero_add, Nat.add_zero]
      refine ⟨fun _ => ?_, fun hc => absurd (Int32.le_refl _) hc⟩
      rw [← he] at hk
      exact hk
    | succ k ih =>
      intro i near w5 hi he
      unfold fNear at he
      have inner : ∀ (m j : Nat), j + m = n → (match fFind (fun i => bt x i && bt near (fE ρ.1 n n i)) n m j with
        | some q => 100 * nI i + nI q
        | none => fNear ρ.1 ρ.2.2.1 n x k (i + 1) (near ||| fLt ρ.2.2.1 near n)) = w → A 19 [some (.ref bs), some (.int x), some (.int (nI t)), some (.int near), some (.int (nI i)), some (.int (nI j))] [] (pR bs ρ f) := by
        intro m
        induction m with
        | zero =>
          intro j hj hm
          apply h19
          have hj9 : j = n := by omega
          subst hj9
          simp only [bX4_nearest_59, bX4_nearest_19, bX4_nearest_7, bX4_nearest_0, pR_0, hR.1, o_iload, o_aload, o_ic, o_lc, o_istore, o_astore, o_iinc, o_bin, o_idiv, o_ineg, o_i2c, o_i2l, o_lcmp, o_if1, o_if2, o_dup, o_dup2, o_getf, o_puti, o_ald, o_iast, o_cast, o_lald, o_last, o_mmin, o_mabs, o_ret, o_vret, o_throw, o_lsw01, o_callS0, o_callS1, o_callS2, o_callS3, o_callS4, o_callS5, o_callV0, o_callV1, o_callV2, o_callV3, o_callV4, o_callV5, zcall_no, zok_nil, zok_ref, zok_int, zE, List.map_cons, List.map_nil, List.length_cons, List.length_nil, List.replicate_succ, List.replicate_zero, List.cons_append, List.nil_append, List.append_nil, List.getElem?_cons_zero, List.getElem?_cons_succ, List.set_cons_zero, List.set_cons_succ, Option.toList_some, Option.toList_none, vp_nar_int, znar_b, zb_0, ne_eq, Bool.not_eq_false, Classical.not_not, nI_1, sh1_def, true_and, and_true, Nat.reduceAdd, Nat.reduceSub, Nat.reduceLT, Nat.reduceLeDiff, Value.category, Nat.zero_add, Nat.add_zero]
          refine ⟨fun _ => ⟨bs, ρ, f, _, _, rfl, rfl, hR, ?_⟩, fun hc => absurd (Int32.le_refl _) hc⟩
          simp only [bX4_nearest_59, bX4_nearest_19, bX4_nearest_7, bX4_nearest_0, o_iload, o_aload, o_ic, o_lc, o_istore, o_astore, o_iinc, o_bin, o_idiv, o_ineg, o_i2c, o_i2l, o_lcmp, o_if1, o_if2, o_dup, o_dup2, o_getf, o_puti, o_ald, o_iast, o_cast, o_lald, o_last, o_mmin, o_mabs, o_ret, o_vret, o_throw, o_lsw01, o_callS0, o_callS1, o_callS2, o_callS3, o_callS4, o_callS5, o_callV0, o_callV1, o_callV2, o_callV3, o_callV4, o_callV5, zcall_no, zok_nil, zok_ref, zok_int, zE, List.map_cons, List.map_nil, List.length_cons, List.length_nil, List.replicate_succ, List.replicate_zero, List.cons_append, List.nil_append, List.append_nil, List.getElem?_cons_zero, List.getElem?_cons_succ, List.set_cons_zero, List.set_cons_succ, Option.toList_some, Option.toList_none, vp_nar_int, znar_b, zb_0, ne_eq, Bool.not_eq_false, Classical.not_not, nI_1, sh1_def, true_and, and_true, Nat.reduceAdd, Nat.reduceSub, Nat.reduceLT, Nat.reduceLeDiff, Value.category, Nat.zero_add, Nat.add_zero]
          exact ih (i + 1) _ _ (by omega) hm
        | succ m ihm =>
          intro j hj hm
          apply h19
          rw [fFind_s, if_pos (by omega)] at hm
          simp only [bX4_nearest_59, bX4_nearest_19, bX4_nearest_7, bX4_nearest_0, pR_0, hR.1, o_iload, o_aload, o_ic, o_lc, o_istore, o_astore, o_iinc, o_bin, o_idiv, o_ineg, o_i2c, o_i2l, o_lcmp, o_if1, o_if2, o_dup, o_dup2, o_getf, o_puti, o_ald, o_iast, o_cast, o_lald, o_last, o_mmin, o_mabs, o_ret, o_vret, o_throw, o_lsw01, o_callS0, o_callS1, o_callS2, o_callS3, o_callS4, o_callS5, o_callV0, o_callV1, o_callV2, o_callV3, o_callV4, o_callV5, zcall_no, zok_nil, zok_ref, zok_int, zE, List.map_cons, List.map_nil, List.length_cons, List.length_nil, List.replicate_succ, List.replicate_zero, List.cons_append, List.nil_append, List.append_nil, List.getElem?_cons_zero, List.getElem?_cons_succ, List.set_cons_zero, List.set_cons_succ, Option.toList_some, Option.toList_none, vp_nar_int, znar_b, zb_0, ne_eq, Bool.not_eq_false, Classical.not_not, nI_1, sh1_def, true_and, and_true, Nat.reduceAdd, Nat.reduceSub, Nat.reduceLT, Nat.reduceLeDiff, Value.category, Nat.zero_add, Nat.add_zero]
          have hE := fE_lt (al := ρ.1) (n := n) (by omega) n j (by omega)
          refine ⟨fun hc => absurd (nI_le_le (by omega) (by omega) hc) (by omega), fun _ => ⟨_, _, rfl, by omega, ?_⟩⟩
          simp only [bX4_nearest_59, bX4_nearest_19, bX4_nearest_7, bX4_nearest_0, pR_0, pR_3, hR.1, o_iload, o_aload, o_ic, o_lc, o_istore, o_astore, o_iinc, o_bin, o_idiv, o_ineg, o_i2c, o_i2l, o_lcmp, o_if1, o_if2, o_dup, o_dup2, o_getf, o_puti, o_ald, o_iast, o_cast, o_lald, o_last, o_mmin, o_mabs, o_ret, o_vret, o_throw, o_lsw01, o_callS0, o_callS1, o_callS2, o_callS3, o_callS4, o_callS5, o_callV0, o_callV1, o_callV2, o_callV3, o_callV4, o_callV5, zcall_no, zok_nil, zok_ref, zok_int, zE, List.map_cons, List.map_nil, List.length_cons, List.length_nil, List.replicate_succ, List.replicate_zero, List.cons_append, List.nil_append, List.append_nil, List.getElem?_cons_zero, List.getElem?_cons_succ, List.set_cons_zero, List.set_cons_succ, Option.toList_some, Option.toList_none, vp_nar_int, znar_b, zb_0, ne_eq, Bool.not_eq_false, Classical.not_not, nI_1, sh1_def, true_and, and_true, Nat.reduceAdd, Nat.reduceSub, Nat.reduceLT, Nat.reduceLeDiff, Value.category, Nat.zero_add, Nat.add_zero]
          refine ⟨fun hb => ?_, fun hb => ⟨bs, ρ, f, n, j, rfl, rfl, hR, by omega, ?_⟩⟩
          · exact ihm (j + 1) (by omega) (by simpa [hb] using hm)
          · simp only [bX4_nearest_59, bX4_nearest_19, bX4_nearest_7, bX4_nearest_0, pR_0, pR_3, hR.1, o_iload, o_aload, o_ic, o_lc, o_istore, o_astore, o_iinc, o_bin, o_idiv, o_ineg, o_i2c, o_i2l, o_lcmp, o_if1, o_if2, o_dup, o_dup2, o_getf, o_puti, o_ald, o_iast, o_cast, o_lald, o_last, o_mmin, o_mabs, o_ret, o_vret, o_throw, o_lsw01, o_callS0, o_callS1, o_callS2, o_callS3, o_callS4, o_callS5, o_callV0, o_callV1, o_callV2, o_callV3, o_callV4, o_callV5, zcall_no, zok_nil, zok_ref, zok_int, zE, List.map_cons, List.map_nil, List.length_cons, List.length_nil, List.replicate_succ, List.replicate_zero, List.cons_append, List.nil_append, List.append_nil, List.getElem?_cons_zero, List.getElem?_cons_succ, List.set_cons_zero, List.set_cons_succ, Option.toList_some, Option.toList_none, vp_nar_int, znar_b, zb_0, ne_eq, Bool.not_eq_false, Classical.not_not, nI_1, sh1_def, true_and, and_true, Nat.reduceAdd, Nat.reduceSub, Nat.reduceLT, Nat.reduceLeDiff, Value.category, Nat.zero_add, Nat.add_zero]
            refine ⟨_, _, rfl, by omega, ?_⟩
            simp only [bX4_nearest_59, bX4_nearest_19, bX4_nearest_7, bX4_nearest_0, pR_0, pR_3, hR.1, o_iload, o_aload, o_ic, o_lc, o_istore, o_astore, o_iinc, o_bin, o_idiv, o_ineg, o_i2c, o_i2l, o_lcmp, o_if1, o_if2, o_dup, o_dup2, o_getf, o_puti, o_ald, o_iast, o_cast, o_lald, o_last, o_mmin, o_mabs, o_ret, o_vret, o_throw, o_lsw01, o_callS0, o_callS1, o_callS2, o_callS3, o_callS4, o_callS5, o_callV0, o_callV1, o_callV2, o_callV3, o_callV4, o_callV5, zcall_no, zok_nil, zok_ref, zok_int, zE, List.map_cons, List.map_nil, List.length_cons, List.length_nil, List.replicate_succ, List.replicate_zero, List.cons_append, List.nil_append, List.append_nil, List.getElem?_cons_zero, List.getElem?_cons_succ, List.set_cons_zero, List.set_cons_succ, Option.toList_some, Option.toList_none, vp_nar_int, znar_b, zb_0, ne_eq, Bool.not_eq_false, Classical.not_not, nI_1, sh1_def, true_and, and_true, Nat.reduceAdd, Nat.reduceSub, Nat.reduceLT, Nat.reduceLeDiff, Value.category, Nat.zero_add, Nat.add_zero]
            refine ⟨fun hb2 => ?_, fun hb2 => ?_⟩
            · exact ihm (j + 1) (by omega) (by simpa [hb, hb2] using hm)
            · have hm' : 100 * nI i + nI j = w := by simpa [hb, hb2] using hm
              rw [← hm'] at hk
              exact hk
      apply h7
      simp only [bX4_nearest_59, bX4_nearest_19, bX4_nearest_7, bX4_nearest_0, pR_0, hR.1, o_iload, o_aload, o_ic, o_lc, o_istore, o_astore, o_iinc, o_bin, o_idiv, o_ineg, o_i2c, o_i2l, o_lcmp, o_if1, o_if2, o_dup, o_dup2, o_getf, o_puti, o_ald, o_iast, o_cast, o_lald, o_last, o_mmin, o_mabs, o_ret, o_vret, o_throw, o_lsw01, o_callS0, o_callS1, o_callS2, o_callS3, o_callS4, o_callS5, o_callV0, o_callV1, o_callV2, o_callV3, o_callV4, o_callV5, zcall_no, zok_nil, zok_ref, zok_int, zE, List.map_cons, List.map_nil, List.length_cons, List.length_nil, List.replicate_succ, List.replicate_zero, List.cons_append, List.nil_append, List.append_nil, List.getElem?_cons_zero, List.getElem?_cons_succ, List.set_cons_zero, List.set_cons_succ, Option.toList_some, Option.toList_none, vp_nar_int, znar_b, zb_0, ne_eq, Bool.not_eq_false, Classical.not_not, nI_1, sh1_def, true_and, and_true, Nat.reduceAdd, Nat.reduceSub, Nat.reduceLT, Nat.reduceLeDiff, Value.category, Nat.zero_add, Nat.add_zero]
      refine ⟨fun hc => absurd (nI_le_le (by omega) (by omega) hc) (by omega), fun _ => ?_⟩
      exact inner n 0 (by omega) he
  simp only [bX4_nearest_59, bX4_nearest_19, bX4_nearest_7, bX4_nearest_0, o_iload, o_aload, o_ic, o_lc, o_istore, o_astore, o_iinc, o_bin, o_idiv, o_ineg, o_i2c, o_i2l, o_lcmp, o_if1, o_if2, o_dup, o_dup2, o_getf, o_puti, o_ald, o_iast, o_cast, o_lald, o_last, o_mmin, o_mabs, o_ret, o_vret, o_throw, o_lsw01, o_callS0, o_callS1, o_callS2, o_callS3, o_callS4, o_callS5, o_callV0, o_callV1, o_callV2, o_callV3, o_callV4, o_callV5, zcall_no, zok_nil, zok_ref, zok_int, zE, List.map_cons, List.map_nil, List.length_cons, List.length_nil, List.replicate_succ, List.replicate_zero, List.cons_append, List.nil_append, List.append_nil, List.getElem?_cons_zero, List.getElem?_cons_succ, List.set_cons_zero, List.set_cons_succ, Option.toList_some, Option.toList_none, vp_nar_int, znar_b, zb_0, ne_eq, Bool.not_eq_false, Classical.not_not, nI_1, sh1_def, true_and, and_true, Nat.reduceAdd, Nat.reduceSub, Nat.reduceLT, Nat.reduceLeDiff, Value.category, Nat.zero_add, Nat.add_zero]
  exact outer n 0 _ _ (by omega) hw.symm)
end R5
