section T7
variable {l : Launch} {z0 b N : Nat} {D : va_G} {cA : Nat → ClassId}
set_option maxHeartbeats 1000000 in
set_option maxRecDepth 20000 in
theorem mX5_clashes (hlt : l.stackTraces = false) : Sem l z0 b N D cA yX5_clashes cX5_clashes 4 (some .int) 7 135 2 eX5_clashes tX5_clashes := uX5_clashes hlt (mX5_needRequest hlt) (mX5_isOpenAndAllowed hlt) (mX5_isAllowedBehind hlt) (fun M a h Kn Kx hok hX hN A h19 => by
  obtain ⟨hs, x, rfl⟩ : zSh h ∧ ∃ x, a = [.ref 0, .int x] := z_shape _ hN (fun k hk => ⟨hk.1, by obtain ⟨-, x, e, -⟩ := hk; exact ⟨x, e⟩⟩) (fun hk => ⟨hk.1, by obtain ⟨-, x, e, -⟩ := hk; exact ⟨x, e⟩⟩)
  have hs' := hs
  obtain ⟨σ, f, n, m, q, k0, s, d, rfl, hI⟩ := hs'
  have hI' := hI
  obtain ⟨hn, hn24, hd, hd8, hch, hlen, hR, hH, hq, hq40, hreq⟩ := hI
  have em : tn (sThings σ) = m := by rw [show sThings σ = nI m from hH.1]; exact nI_clamp (by have := hH.2.1; omega)
  have en : tn (sTags σ) = n := by rw [show sTags σ = nI n from hn]; exact nI_clamp (by omega)
  have hm20 := hH.2.1
  have hX2 : ∀ k, (k = 2 ∧ ¬ okI x (sReqs σ)) → M = 1 ∧ Kx k := fun k hc => hX k ⟨hs, x, rfl, by rw [gT_pT]; exact hc⟩
  have hN2 : ∀ τ, (∀ k, ¬ (k = 2 ∧ ¬ okI x (sReqs σ))) → Kn (some (.int (fCla σ (tn x)))) (pT (wU σ τ) f) := fun τ hne => by
    obtain ⟨-, _, e, hk⟩ := hN (fun k hk => by
      obtain ⟨-, _, e, h9⟩ := hk
      cases e
      rw [gT_pT] at h9
      exact hne k h9)
    cases e
    have hk := hk τ
    simp only [gT_pT, pT_pT] at hk
    exact hk
  have eqr : tn (sReqs σ) = q := by rw [show sReqs σ = nI q from hq]; exact nI_clamp (by omega)
  simp only [bX5_clashes_64, bX5_clashes_61, bX5_clashes_19, bX5_clashes_0, pT_0, pT_1, pT_2, pT_3, pT_4, pT_5, pT_6, pT_7, pT_8, pT_9, pT_10, pT_11, pT_12, pT_13, pT_14, pT_15, pT_16, pT_17, pT_18, pT_19, pT_20, pT_21, pT_22, pT_23, pT_24, pT_25, pT_26, pT_27, pT_28, pT_N, pT_R, pT_U, pT_Q, pT_H, pT_V, pT_pT, o_iload, o_aload, o_ic, o_lc, o_istore, o_astore, o_iinc, o_bin, o_idiv, o_ineg, o_i2c, o_i2l, o_lcmp, o_if1, o_if2, o_dup, o_dup2, o_getf, o_puti, o_ald, o_iast, o_cast, o_lald, o_last, o_mmin, o_mabs, o_ret, o_vret, o_throw, o_lsw01, o_callS0, o_callS1, o_callS2, o_callS3, o_callS4, o_callS5, o_callV0, o_callV1, o_callV2, o_callV3, o_callV4, o_callV5, zcall_no, zok_nil, zok_ref, zok_int, zE, List.map_cons, List.map_nil, List.length_cons, List.length_nil, List.replicate_succ, List.replicate_zero, List.cons_append, List.nil_append, List.append_nil, List.getElem?_cons_zero, List.getElem?_cons_succ, List.set_cons_zero, List.set_cons_succ, Option.toList_some, Option.toList_none, vp_nar_int, znar_b, zb_0, ne_eq, Bool.not_eq_false, Classical.not_not, nI_1, sh1_def, true_and, and_true, Nat.reduceAdd, Nat.reduceSub, Nat.reduceLT, Nat.reduceLeDiff, Value.category, Nat.zero_add, Nat.add_zero]
  refine z_needRequest hs (by decide) (fun hc => ?_) (fun hc => ?_)
  · obtain ⟨h1, h2⟩ := hX2 2 ⟨rfl, hc⟩
    exact ⟨h1, h2, rfl⟩
  · have hk := fun τ => hN2 τ (fun k h9 => h9.2 hc)
    rw [show sReqs σ = nI q from hq] at hc
    obtain ⟨r, hr, rfl⟩ := (okI_n (by omega)).mp hc
    have hcr := nI_clamp (show r < 2 ^ 31 by omega)
    rw [show tn (nI r) = r from hcr] at hk
    unfold fCla at hk
    rw [eqr] at hk
    simp only [bX5_clashes_64, bX5_clashes_61, bX5_clashes_19, bX5_clashes_0, pT_0, pT_1, pT_2, pT_3, pT_4, pT_5, pT_6, pT_7, pT_8, pT_9, pT_10, pT_11, pT_12, pT_13, pT_14, pT_15, pT_16, pT_17, pT_18, pT_19, pT_20, pT_21, pT_22, pT_23, pT_24, pT_25, pT_26, pT_27, pT_28, pT_N, pT_R, pT_U, pT_Q, pT_H, pT_V, pT_pT, o_iload, o_aload, o_ic, o_lc, o_istore, o_astore, o_iinc, o_bin, o_idiv, o_ineg, o_i2c, o_i2l, o_lcmp, o_if1, o_if2, o_dup, o_dup2, o_getf, o_puti, o_ald, o_iast, o_cast, o_lald, o_last, o_mmin, o_mabs, o_ret, o_vret, o_throw, o_lsw01, o_callS0, o_callS1, o_callS2, o_callS3, o_callS4, o_callS5, o_callV0, o_callV1, o_callV2, o_callV3, o_callV4, o_callV5, zcall_no, zok_nil, zok_ref, zok_int, zE, List.map_cons, List.map_nil, List.length_cons, List.length_nil, List.replicate_succ, List.replicate_zero, List.cons_append, List.nil_append, List.append_nil, List.getElem?_cons_zero, List.getElem?_cons_succ, List.set_cons_zero, List.set_cons_succ, Option.toList_some, Option.toList_none, vp_nar_int, znar_b, zb_0, ne_eq, Bool.not_eq_false, Classical.not_not, nI_1, sh1_def, true_and, and_true, Nat.reduceAdd, Nat.reduceSub, Nat.reduceLT, Nat.reduceLeDiff, Value.category, Nat.zero_add, Nat.add_zero]
    refine ⟨σ, f, n, m, q, k0, s, d, r, rfl, rfl, hI', hr, ?_⟩
    simp only [bX5_clashes_64, bX5_clashes_61, bX5_clashes_19, bX5_clashes_0, pT_0, pT_1, pT_2, pT_3, pT_4, pT_5, pT_6, pT_7, pT_8, pT_9, pT_10, pT_11, pT_12, pT_13, pT_14, pT_15, pT_16, pT_17, pT_18, pT_19, pT_20, pT_21, pT_22, pT_23, pT_24, pT_25, pT_26, pT_27, pT_28, pT_N, pT_R, pT_U, pT_Q, pT_H, pT_V, pT_pT, o_iload, o_aload, o_ic, o_lc, o_istore, o_astore, o_iinc, o_bin, o_idiv, o_ineg, o_i2c, o_i2l, o_lcmp, o_if1, o_if2, o_dup, o_dup2, o_getf, o_puti, o_ald, o_iast, o_cast, o_lald, o_last, o_mmin, o_mabs, o_ret, o_vret, o_throw, o_lsw01, o_callS0, o_callS1, o_callS2, o_callS3, o_callS4, o_callS5, o_callV0, o_callV1, o_callV2, o_callV3, o_callV4, o_callV5, zcall_no, zok_nil, zok_ref, zok_int, zE, List.map_cons, List.map_nil, List.length_cons, List.length_nil, List.replicate_succ, List.replicate_zero, List.cons_append, List.nil_append, List.append_nil, List.getElem?_cons_zero, List.getElem?_cons_succ, List.set_cons_zero, List.set_cons_succ, Option.toList_some, Option.toList_none, vp_nar_int, znar_b, zb_0, ne_eq, Bool.not_eq_false, Classical.not_not, nI_1, sh1_def, true_and, and_true, Nat.reduceAdd, Nat.reduceSub, Nat.reduceLT, Nat.reduceLeDiff, Value.category, Nat.zero_add, Nat.add_zero]
    refine ⟨fun h1 => ?_, fun h1 => ?_⟩
    rotate_left
    · have hk9 := hk σ.2.2.1
      rw [h1] at hk9
      exact hk9
    · rw [if_pos h1] at hk
      have loop : ∀ (j i : Nat) (τ : zRS), i + j = q → A 19 [some (.ref 0), some (.int (nI r)), some (.int (nI (fb_ct (fClP σ r) i))), some (.int (nI i))] [] (pT (wU σ τ) f) := by
        intro j
        induction j with
        | zero =>
          intro i τ hi
          apply h19
          have hi9 : i = q := by omega
          subst hi9
          have hk9 := hk τ
          unfold wU at hk9 ⊢
          simp only [bX5_clashes_64, bX5_clashes_61, bX5_clashes_19, bX5_clashes_0, pT_0, pT_1, pT_2, pT_3, pT_4, pT_5, pT_6, pT_7, pT_8, pT_9, pT_10, pT_11, pT_12, pT_13, pT_14, pT_15, pT_16, pT_17, pT_18, pT_19, pT_20, pT_21, pT_22, pT_23, pT_24, pT_25, pT_26, pT_27, pT_28, pT_N, pT_R, pT_U, pT_Q, pT_H, pT_V, pT_pT, o_iload, o_aload, o_ic, o_lc, o_istore, o_astore, o_iinc, o_bin, o_idiv, o_ineg, o_i2c, o_i2l, o_lcmp, o_if1, o_if2, o_dup, o_dup2, o_getf, o_puti, o_ald, o_iast, o_cast, o_lald, o_last, o_mmin, o_mabs, o_ret, o_vret, o_throw, o_lsw01, o_callS0, o_callS1, o_callS2, o_callS3, o_callS4, o_callS5, o_callV0, o_callV1, o_callV2, o_callV3, o_callV4, o_callV5, zcall_no, zok_nil, zok_ref, zok_int, zE, List.map_cons, List.map_nil, List.length_cons, List.length_nil, List.replicate_succ, List.replicate_zero, List.cons_append, List.nil_append, List.append_nil, List.getElem?_cons_zero, List.getElem?_cons_succ, List.set_cons_zero, List.set_cons_succ, Option.toList_some, Option.toList_none, vp_nar_int, znar_b, zb_0, ne_eq, Bool.not_eq_false, Classical.not_not, nI_1, sh1_def, true_and, and_true, Nat.reduceAdd, Nat.reduceSub, Nat.reduceLT, Nat.reduceLeDiff, Value.category, Nat.zero_add, Nat.add_zero]
          exact ⟨fun _ => hk9, fun hc => absurd (show σ.2.2.2.1.2.2.2.2.2.2 ≤ nI i by rw [show σ.2.2.2.1.2.2.2.2.2.2 = nI i from hq]; exact Int32.le_refl _) hc⟩
        | succ j ih =>
          intro i τ hi
          apply h19
          have ih' := fun τ => ih (i + 1) τ (by omega)
          have hle := fb_ct_le (fClP σ r) i
          have ihN : fClP σ r i = false → ∀ τ, A 19 [some (.ref 0), some (.int (nI r)), some (.int (nI (fb_ct (fClP σ r) i))), some (.int (nI (i + 1)))] [] (pT (wU σ τ) f) := fun h9 τ => by
            have := ih' τ
            rw [fb_ct_succ, h9] at this
            exact this
          have ihY : fClP σ r i = true → ∀ τ, A 19 [some (.ref 0), some (.int (nI r)), some (.int (nI (fb_ct (fClP σ r) i + 1))), some (.int (nI (i + 1)))] [] (pT (wU σ τ) f) := fun h9 τ => by
            have := ih' τ
            rw [fb_ct_succ, h9] at this
            exact this
          have eP : fClP σ r i = (decide (i ≠ r) && (fOa σ i && (!fAlw (fBeh σ r i) n σ.2.2.2.1 i || !fAlw (fBeh σ i r) n σ.2.2.2.1 r))) := by unfold fClP; rw [en]
          rw [eP] at ihN ihY
          have hIt : ∀ τ : zRS, zInv (wU σ τ) n m q k0 s d := fun _ => hI'
          have heq : (nI i = nI r) = (i = r) := propext (nI_eq (by omega) (by omega))
          have cop : ∀ (τ : zRS) (a b : Nat), b < q → fAlw (fBeh (wU σ τ) a b) (tn (sTags (wU σ τ))) (wU σ τ).2.2.2.1 b = fAlw (fBeh σ a b) n σ.2.2.2.1 b := fun τ a b hb => by rw [show tn (sTags (wU σ τ)) = n from en]; exact fBeh_tau hI' τ a b hb
          have enw : ∀ τ : zRS, tn (sTags (wU σ τ)) = n := fun _ => en
          have s1 : ∀ τ : zRS, pT (wU σ τ) f = pT (σ.1, σ.2.1, τ, σ.2.2.2.1, σ.2.2.2.2.1, σ.2.2.2.2.2) f := fun _ => rfl
          unfold wU
          simp only [bX5_clashes_64, bX5_clashes_61, bX5_clashes_19, bX5_clashes_0, pT_0, pT_1, pT_2, pT_3, pT_4, pT_5, pT_6, pT_7, pT_8, pT_9, pT_10, pT_11, pT_12, pT_13, pT_14, pT_15, pT_16, pT_17, pT_18, pT_19, pT_20, pT_21, pT_22, pT_23, pT_24, pT_25, pT_26, pT_27, pT_28, pT_N, pT_R, pT_U, pT_Q, pT_H, pT_V, pT_pT, heq, o_iload, o_aload, o_ic, o_lc, o_istore, o_astore, o_iinc, o_bin, o_idiv, o_ineg, o_i2c, o_i2l, o_lcmp, o_if1, o_if2, o_dup, o_dup2, o_getf, o_puti, o_ald, o_iast, o_cast, o_lald, o_last, o_mmin, o_mabs, o_ret, o_vret, o_throw, o_lsw01, o_callS0, o_callS1, o_callS2, o_callS3, o_callS4, o_callS5, o_callV0, o_callV1, o_callV2, o_callV3, o_callV4, o_callV5, zcall_no, zok_nil, zok_ref, zok_int, zE, List.map_cons, List.map_nil, List.length_cons, List.length_nil, List.replicate_succ, List.replicate_zero, List.cons_append, List.nil_append, List.append_nil, List.getElem?_cons_zero, List.getElem?_cons_succ, List.set_cons_zero, List.set_cons_succ, Option.toList_some, Option.toList_none, vp_nar_int, znar_b, zb_0, ne_eq, Bool.not_eq_false, Classical.not_not, nI_1, sh1_def, true_and, and_true, Nat.reduceAdd, Nat.reduceSub, Nat.reduceLT, Nat.reduceLeDiff, Value.category, Nat.zero_add, Nat.add_zero]
          refine ⟨fun hc => absurd (nI_le_le (i := i) (n := q) (by omega) (by omega) (by rw [show σ.2.2.2.1.2.2.2.2.2.2 = nI q from hq] at hc; exact hc)) (by omega), fun _ => ⟨fun h2 => ?_, fun h2 => ?_⟩⟩
          · exact ihN (by simp [h2]) τ
          · refine ⟨wU σ τ, f, n, m, q, k0, s, d, i, rfl, rfl, hI', by omega, ?_⟩
            simp only [bX5_clashes_64, bX5_clashes_61, bX5_clashes_19, bX5_clashes_0, pT_0, pT_1, pT_2, pT_3, pT_4, pT_5, pT_6, pT_7, pT_8, pT_9, pT_10, pT_11, pT_12, pT_13, pT_14, pT_15, pT_16, pT_17, pT_18, pT_19, pT_20, pT_21, pT_22, pT_23, pT_24, pT_25, pT_26, pT_27, pT_28, pT_N, pT_R, pT_U, pT_Q, pT_H, pT_V, pT_pT, o_iload, o_aload, o_ic, o_lc, o_istore, o_astore, o_iinc, o_bin, o_idiv, o_ineg, o_i2c, o_i2l, o_lcmp, o_if1, o_if2, o_dup, o_dup2, o_getf, o_puti, o_ald, o_iast, o_cast, o_lald, o_last, o_mmin, o_mabs, o_ret, o_vret, o_throw, o_lsw01, o_callS0, o_callS1, o_callS2, o_callS3, o_callS4, o_callS5, o_callV0, o_callV1, o_callV2, o_callV3, o_callV4, o_callV5, zcall_no, zok_nil, zok_ref, zok_int, zE, List.map_cons, List.map_nil, List.length_cons, List.length_nil, List.replicate_succ, List.replicate_zero, List.cons_append, List.nil_append, List.append_nil, List.getElem?_cons_zero, List.getElem?_cons_succ, List.set_cons_zero, List.set_cons_succ, Option.toList_some, Option.toList_none, vp_nar_int, znar_b, zb_0, ne_eq, Bool.not_eq_false, Classical.not_not, nI_1, sh1_def, true_and, and_true, Nat.reduceAdd, Nat.reduceSub, Nat.reduceLT, Nat.reduceLeDiff, Value.category, Nat.zero_add, Nat.add_zero]
            refine ⟨fun h3 => ?_, fun h3 => ?_⟩
            · have h3' : fOa σ i = false := h3
              exact ihN (by rw [h3']; simp) τ
            · have h3' : fOa σ i = true := h3
              refine ⟨wU σ τ, f, n, m, q, k0, s, d, r, i, rfl, rfl, hI', hr, by omega, ?_⟩
              rw [cop _ _ _ (by omega)]
              unfold wU
              simp only [bX5_clashes_64, bX5_clashes_61, bX5_clashes_19, bX5_clashes_0, pT_0, pT_1, pT_2, pT_3, pT_4, pT_5, pT_6, pT_7, pT_8, pT_9, pT_10, pT_11, pT_12, pT_13, pT_14, pT_15, pT_16, pT_17, pT_18, pT_19, pT_20, pT_21, pT_22, pT_23, pT_24, pT_25, pT_26, pT_27, pT_28, pT_N, pT_R, pT_U, pT_Q, pT_H, pT_V, pT_pT, o_iload, o_aload, o_ic, o_lc, o_istore, o_astore, o_iinc, o_bin, o_idiv, o_ineg, o_i2c, o_i2l, o_lcmp, o_if1, o_if2, o_dup, o_dup2, o_getf, o_puti, o_ald, o_iast, o_cast, o_lald, o_last, o_mmin, o_mabs, o_ret, o_vret, o_throw, o_lsw01, o_callS0, o_callS1, o_callS2, o_callS3, o_callS4, o_callS5, o_callV0, o_callV1, o_callV2, o_callV3, o_callV4, o_callV5, zcall_no, zok_nil, zok_ref, zok_int, zE, List.map_cons, List.map_nil, List.length_cons, List.length_nil, List.replicate_succ, List.replicate_zero, List.cons_append, List.nil_append, List.append_nil, List.getElem?_cons_zero, List.getElem?_cons_succ, List.set_cons_zero, List.set_cons_succ, Option.toList_some, Option.toList_none, vp_nar_int, znar_b, zb_0, ne_eq, Bool.not_eq_false, Classical.not_not, nI_1, sh1_def, true_and, and_true, Nat.reduceAdd, Nat.reduceSub, Nat.reduceLT, Nat.reduceLeDiff, Value.category, Nat.zero_add, Nat.add_zero]
              refine ⟨fun h4 => ?_, fun h4 => ?_⟩
              · exact ihY (by rw [h3', h4]; simp [h2]) _
              · refine ⟨wU σ (fBeh (wU σ τ) r i), f, n, m, q, k0, s, d, i, r, rfl, rfl, hI', by omega, hr, ?_⟩
                rw [cop _ _ _ (by omega)]
                unfold wU
                simp only [bX5_clashes_64, bX5_clashes_61, bX5_clashes_19, bX5_clashes_0, pT_0, pT_1, pT_2, pT_3, pT_4, pT_5, pT_6, pT_7, pT_8, pT_9, pT_10, pT_11, pT_12, pT_13, pT_14, pT_15, pT_16, pT_17, pT_18, pT_19, pT_20, pT_21, pT_22, pT_23, pT_24, pT_25, pT_26, pT_27, pT_28, pT_N, pT_R, pT_U, pT_Q, pT_H, pT_V, pT_pT, o_iload, o_aload, o_ic, o_lc, o_istore, o_astore, o_iinc, o_bin, o_idiv, o_ineg, o_i2c, o_i2l, o_lcmp, o_if1, o_if2, o_dup, o_dup2, o_getf, o_puti, o_ald, o_iast, o_cast, o_lald, o_last, o_mmin, o_mabs, o_ret, o_vret, o_throw, o_lsw01, o_callS0, o_callS1, o_callS2, o_callS3, o_callS4, o_callS5, o_callV0, o_callV1, o_callV2, o_callV3, o_callV4, o_callV5, zcall_no, zok_nil, zok_ref, zok_int, zE, List.map_cons, List.map_nil, List.length_cons, List.length_nil, List.replicate_succ, List.replicate_zero, List.cons_append, List.nil_append, List.append_nil, List.getElem?_cons_zero, List.getElem?_cons_succ, List.set_cons_zero, List.set_cons_succ, Option.toList_some, Option.toList_none, vp_nar_int, znar_b, zb_0, ne_eq, Bool.not_eq_false, Classical.not_not, nI_1, sh1_def, true_and, and_true, Nat.reduceAdd, Nat.reduceSub, Nat.reduceLT, Nat.reduceLeDiff, Value.category, Nat.zero_add, Nat.add_zero]
                refine ⟨fun h5 => ?_, fun h5 => ?_⟩
                · exact ihN (by rw [h3', h4, h5]; simp) _
                · exact ihY (by rw [h3', h4, h5]; simp [h2]) _
      exact loop q 0 σ.2.2.1 (by omega))
end T7
