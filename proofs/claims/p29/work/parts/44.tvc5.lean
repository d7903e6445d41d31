section T5
variable {l : Launch} {z0 b N : Nat} {D : va_G} {cA : Nat → ClassId}
theorem le2 {x : Int32} (h : x < 3) : x ≤ 2 := by
  rw [Int32.lt_iff_toInt_lt] at h
  rw [Int32.le_iff_toInt_le]
  have h3 : (3 : Int32).toInt = 3 := rfl
  have h4 : (2 : Int32).toInt = 2 := rfl
  omega
theorem nokI3 {x : Int32} (h1 : ¬ x < 0) (h2 : x ≤ 2) : okI x 3 := by
  refine ⟨Int32.not_lt.mp h1, ?_⟩
  rw [Int32.le_iff_toInt_le] at h2
  rw [Int32.lt_iff_toInt_lt]
  have h3 : (3 : Int32).toInt = 3 := rfl
  have h4 : (2 : Int32).toInt = 2 := rfl
  omega
theorem nI_neM (t : Nat) (h : t < 2 ^ 31) : ¬ nI t = -1 := by
  intro e
  have h1 := nI_toInt h
  rw [e] at h1
  have h2 : (-1 : Int32).toInt = -1 := rfl
  omega
theorem fFind_lt (q : Nat → Bool) (n : Nat) : ∀ (f k t : Nat), fFind q n f k = some t → t < n
  | 0, k, t, h => by cases h
  | f + 1, k, t, h => by
    rw [fFind_s] at h
    split at h
    · split at h
      · cases h; assumption
      · exact fFind_lt q n f (k + 1) t h
    · cases h
set_option maxHeartbeats 1000000 in
set_option maxRecDepth 20000 in
theorem mX5_type (hlt : l.stackTraces = false) : Sem l z0 b N D cA yX5_type cX5_type 2 (some .int) 6 82 2 eX5_type tX5_type := uX5_type hlt (mX5_isNameCharacter hlt) (mX1_append hlt) (fun M a h Kn Kx hok hX hN => by
  obtain ⟨hs, x, rfl, hx⟩ : zSh h ∧ ∃ x, a = [.ref 0, .int x] ∧ isCh x := z_shape _ hN (fun k hk => ⟨hk.1, by obtain ⟨-, x, e, h9, -⟩ := hk; exact ⟨x, e, h9⟩⟩) (fun hk => ⟨hk.1, by obtain ⟨-, x, e, h9, -⟩ := hk; exact ⟨x, e, h9⟩⟩)
  have hs' := hs
  obtain ⟨σ, f, n, m, q, k0, s, d, rfl, hI⟩ := hs'
  have hI' := hI
  obtain ⟨hn, hn24, hd, hd8, hch, hlen, hR, hH, hq, hq40, hreq⟩ := hI
  have em : tn (sThings σ) = m := by rw [show sThings σ = nI m from hH.1]; exact nI_clamp (by have := hH.2.1; omega)
  have en : tn (sTags σ) = n := by rw [show sTags σ = nI n from hn]; exact nI_clamp (by omega)
  have hm20 := hH.2.1
  have hX2 : ∀ k, ((fSg x = false ∧ k = 0) ∨ (fSg x = true ∧ 8 ≤ σ.1.2.2.2.2 ∧ k = 1)) → M = 1 ∧ Kx k := fun k hc => hX k ⟨hs, x, rfl, hx, by rw [gT_pT]; exact hc⟩
  have hN2 : (∀ k, ¬ ((fSg x = false ∧ k = 0) ∨ (fSg x = true ∧ 8 ≤ σ.1.2.2.2.2 ∧ k = 1))) → Kn (some (.int (σ.1.2.2.2.2 + 1))) (pT (wN σ (σ.1.1, σ.1.2.1, upd σ.1.2.2.1 (tn σ.1.2.2.2.2) x, σ.1.2.2.2.1, σ.1.2.2.2.2 + 1)) f) := fun hne => by
    obtain ⟨-, _, e, -, hk⟩ := hN (fun k hk => by
      obtain ⟨-, _, e, -, h9⟩ := hk
      cases e
      rw [gT_pT] at h9
      exact hne k h9)
    cases e
    simp only [gT_pT, pT_pT] at hk
    exact hk
  have hd1 : σ.1.2.2.2.2 = nI d := hd
  rw [hd1, show tn (nI d) = d from nI_clamp (by omega)] at hN2
  rw [hd1] at hX2
  simp only [bX5_type_0, pT_0, pT_1, pT_2, pT_3, pT_4, pT_5, pT_6, pT_7, pT_8, pT_9, pT_10, pT_11, pT_12, pT_13, pT_14, pT_15, pT_16, pT_17, pT_18, pT_19, pT_20, pT_21, pT_22, pT_23, pT_24, pT_25, pT_26, pT_27, pT_28, pT_N, pT_R, pT_U, pT_Q, pT_H, pT_V, pT_pT, o_iload, o_aload, o_ic, o_lc, o_istore, o_astore, o_iinc, o_bin, o_idiv, o_ineg, o_i2c, o_i2l, o_lcmp, o_if1, o_if2, o_dup, o_dup2, o_getf, o_puti, o_ald, o_iast, o_cast, o_lald, o_last, o_mmin, o_mabs, o_ret, o_vret, o_throw, o_lsw01, o_callS0, o_callS1, o_callS2, o_callS3, o_callS4, o_callS5, o_callV0, o_callV1, o_callV2, o_callV3, o_callV4, o_callV5, zcall_no, zok_nil, zok_ref, zok_int, zE, List.map_cons, List.map_nil, List.length_cons, List.length_nil, List.replicate_succ, List.replicate_zero, List.cons_append, List.nil_append, List.append_nil, List.getElem?_cons_zero, List.getElem?_cons_succ, List.set_cons_zero, List.set_cons_succ, Option.toList_some, Option.toList_none, vp_nar_int, znar_b, zb_0, ne_eq, Bool.not_eq_false, Classical.not_not, nI_1, sh1_def, true_and, and_true, Nat.reduceAdd, Nat.reduceSub, Nat.reduceLT, Nat.reduceLeDiff, Value.category, Nat.zero_add, Nat.add_zero]
  refine ⟨x, rfl, ?_⟩
  simp only [bX5_type_0, pT_0, pT_1, pT_2, pT_3, pT_4, pT_5, pT_6, pT_7, pT_8, pT_9, pT_10, pT_11, pT_12, pT_13, pT_14, pT_15, pT_16, pT_17, pT_18, pT_19, pT_20, pT_21, pT_22, pT_23, pT_24, pT_25, pT_26, pT_27, pT_28, pT_N, pT_R, pT_U, pT_Q, pT_H, pT_V, pT_pT, hd1, o_iload, o_aload, o_ic, o_lc, o_istore, o_astore, o_iinc, o_bin, o_idiv, o_ineg, o_i2c, o_i2l, o_lcmp, o_if1, o_if2, o_dup, o_dup2, o_getf, o_puti, o_ald, o_iast, o_cast, o_lald, o_last, o_mmin, o_mabs, o_ret, o_vret, o_throw, o_lsw01, o_callS0, o_callS1, o_callS2, o_callS3, o_callS4, o_callS5, o_callV0, o_callV1, o_callV2, o_callV3, o_callV4, o_callV5, zcall_no, zok_nil, zok_ref, zok_int, zE, List.map_cons, List.map_nil, List.length_cons, List.length_nil, List.replicate_succ, List.replicate_zero, List.cons_append, List.nil_append, List.append_nil, List.getElem?_cons_zero, List.getElem?_cons_succ, List.set_cons_zero, List.set_cons_succ, Option.toList_some, Option.toList_none, vp_nar_int, znar_b, zb_0, ne_eq, Bool.not_eq_false, Classical.not_not, nI_1, sh1_def, true_and, and_true, Nat.reduceAdd, Nat.reduceSub, Nat.reduceLT, Nat.reduceLeDiff, Value.category, Nat.zero_add, Nat.add_zero]
  refine ⟨fun h1 => ⟨fun h2 => ?_, fun h2 => ?_⟩, fun h1 => ?_⟩
  · have hk := hN2 (fun k h9 => by
      rcases h9 with h | h
      · rw [h1] at h; cases h.1
      · exact absurd h.2.1 (Int32.not_le.mpr h2))
    have hd9 : d < 8 := by
      rw [show (8 : Int32) = nI 8 from rfl] at h2
      exact (nI_ltI (by omega) (by omega)).mp h2
    refine ⟨σ.1, pT σ f, x, d, rfl, pT_Ns.symm, hx, hd, hd9, ?_⟩
    simp only [bX5_type_0, pT_0, pT_1, pT_2, pT_3, pT_4, pT_5, pT_6, pT_7, pT_8, pT_9, pT_10, pT_11, pT_12, pT_13, pT_14, pT_15, pT_16, pT_17, pT_18, pT_19, pT_20, pT_21, pT_22, pT_23, pT_24, pT_25, pT_26, pT_27, pT_28, pT_N, pT_R, pT_U, pT_Q, pT_H, pT_V, pT_pT, o_iload, o_aload, o_ic, o_lc, o_istore, o_astore, o_iinc, o_bin, o_idiv, o_ineg, o_i2c, o_i2l, o_lcmp, o_if1, o_if2, o_dup, o_dup2, o_getf, o_puti, o_ald, o_iast, o_cast, o_lald, o_last, o_mmin, o_mabs, o_ret, o_vret, o_throw, o_lsw01, o_callS0, o_callS1, o_callS2, o_callS3, o_callS4, o_callS5, o_callV0, o_callV1, o_callV2, o_callV3, o_callV4, o_callV5, zcall_no, zok_nil, zok_ref, zok_int, zE, List.map_cons, List.map_nil, List.length_cons, List.length_nil, List.replicate_succ, List.replicate_zero, List.cons_append, List.nil_append, List.append_nil, List.getElem?_cons_zero, List.getElem?_cons_succ, List.set_cons_zero, List.set_cons_succ, Option.toList_some, Option.toList_none, vp_nar_int, znar_b, zb_0, ne_eq, Bool.not_eq_false, Classical.not_not, nI_1, sh1_def, true_and, and_true, Nat.reduceAdd, Nat.reduceSub, Nat.reduceLT, Nat.reduceLeDiff, Value.category, Nat.zero_add, Nat.add_zero]
    rw [nI_1] at hk
    exact hk
  · exact hX2 1 (Or.inr ⟨h1, Int32.not_lt.mp h2, rfl⟩)
  · exact hX2 0 (Or.inl ⟨h1, rfl⟩))
set_option maxHeartbeats 1000000 in
set_option maxRecDepth 20000 in
theorem mX5_enter (hlt : l.stackTraces = false) : Sem l z0 b N D cA yX5_enter cX5_enter 3 (some .int) 6 90 1 eX5_enter tX5_enter := uX5_enter hlt (mX1_findDraft hlt) (mX1_addDraft hlt) (mX4_grow hlt) (mX1_emptyDraft hlt) (fun M a h Kn Kx hok hX hN => by
  obtain ⟨hs, rfl⟩ : zSh h ∧ a = [.ref 0] := z_shape _ hN (fun k hk => ⟨hk.1, by obtain ⟨-, e, -⟩ := hk; exact e⟩) (fun hk => ⟨hk.1, by obtain ⟨-, e, -⟩ := hk; exact e⟩)
  have hs' := hs
  obtain ⟨σ, f, n, m, q, k0, s, d, rfl, hI⟩ := hs'
  have hI' := hI
  obtain ⟨hn, hn24, hd, hd8, hch, hlen, hR, hH, hq, hq40, hreq⟩ := hI
  have em : tn (sThings σ) = m := by rw [show sThings σ = nI m from hH.1]; exact nI_clamp (by have := hH.2.1; omega)
  have en : tn (sTags σ) = n := by rw [show sTags σ = nI n from hn]; exact nI_clamp (by omega)
  have hm20 := hH.2.1
  have hX2 : ∀ k, (k = 1 ∧ (σ.1.2.2.2.2 = 0 ∨ (fEntF σ = none ∧ 24 ≤ sTags σ))) → M = 1 ∧ Kx k := fun k hc => hX k ⟨hs, rfl, by rw [gT_pT]; exact hc⟩
  have hN2 : (∀ k, ¬ (k = 1 ∧ (σ.1.2.2.2.2 = 0 ∨ (fEntF σ = none ∧ 24 ≤ sTags σ)))) → Kn (some (.int ((fEnt σ).1))) (pT ((fEnt σ).2) f) := fun hne => by
    obtain ⟨-, e, hk⟩ := hN (fun k hk => by
      obtain ⟨-, e, h9⟩ := hk
      cases e
      rw [gT_pT] at h9
      exact hne k h9)
    cases e
    simp only [gT_pT, pT_pT] at hk
    exact hk
  have ed : tn σ.1.2.2.2.2 = d := by rw [show σ.1.2.2.2.2 = nI d from hd]; exact nI_clamp (by omega)
  have ef : fEntF σ = fFind (fIsD σ.1.1 σ.1.2.1 σ.1.2.2.1 d) n n 0 := by unfold fEntF; rw [ed, en]
  simp only [bX5_enter_84, bX5_enter_55, bX5_enter_0, pT_0, pT_1, pT_2, pT_3, pT_4, pT_5, pT_6, pT_7, pT_8, pT_9, pT_10, pT_11, pT_12, pT_13, pT_14, pT_15, pT_16, pT_17, pT_18, pT_19, pT_20, pT_21, pT_22, pT_23, pT_24, pT_25, pT_26, pT_27, pT_28, pT_N, pT_R, pT_U, pT_Q, pT_H, pT_V, pT_pT, o_iload, o_aload, o_ic, o_lc, o_istore, o_astore, o_iinc, o_bin, o_idiv, o_ineg, o_i2c, o_i2l, o_lcmp, o_if1, o_if2, o_dup, o_dup2, o_getf, o_puti, o_ald, o_iast, o_cast, o_lald, o_last, o_mmin, o_mabs, o_ret, o_vret, o_throw, o_lsw01, o_callS0, o_callS1, o_callS2, o_callS3, o_callS4, o_callS5, o_callV0, o_callV1, o_callV2, o_callV3, o_callV4, o_callV5, zcall_no, zok_nil, zok_ref, zok_int, zE, List.map_cons, List.map_nil, List.length_cons, List.length_nil, List.replicate_succ, List.replicate_zero, List.cons_append, List.nil_append, List.append_nil, List.getElem?_cons_zero, List.getElem?_cons_succ, List.set_cons_zero, List.set_cons_succ, Option.toList_some, Option.toList_none, vp_nar_int, znar_b, zb_0, ne_eq, Bool.not_eq_false, Classical.not_not, nI_1, sh1_def, true_and, and_true, Nat.reduceAdd, Nat.reduceSub, Nat.reduceLT, Nat.reduceLeDiff, Value.category, Nat.zero_add, Nat.add_zero]
  refine ⟨fun h0 => ?_, fun h0 => ?_⟩
  rotate_left
  · exact hX2 1 ⟨rfl, Or.inl h0⟩
  · refine ⟨σ.1, pT σ f, n, d, rfl, pT_Ns.symm, hn, hn24, hch, hd, hd8, ?_⟩
    rw [← ef]
    simp only [bX5_enter_84, bX5_enter_55, bX5_enter_0, pT_0, pT_1, pT_2, pT_3, pT_4, pT_5, pT_6, pT_7, pT_8, pT_9, pT_10, pT_11, pT_12, pT_13, pT_14, pT_15, pT_16, pT_17, pT_18, pT_19, pT_20, pT_21, pT_22, pT_23, pT_24, pT_25, pT_26, pT_27, pT_28, pT_N, pT_R, pT_U, pT_Q, pT_H, pT_V, pT_pT, o_iload, o_aload, o_ic, o_lc, o_istore, o_astore, o_iinc, o_bin, o_idiv, o_ineg, o_i2c, o_i2l, o_lcmp, o_if1, o_if2, o_dup, o_dup2, o_getf, o_puti, o_ald, o_iast, o_cast, o_lald, o_last, o_mmin, o_mabs, o_ret, o_vret, o_throw, o_lsw01, o_callS0, o_callS1, o_callS2, o_callS3, o_callS4, o_callS5, o_callV0, o_callV1, o_callV2, o_callV3, o_callV4, o_callV5, zcall_no, zok_nil, zok_ref, zok_int, zE, List.map_cons, List.map_nil, List.length_cons, List.length_nil, List.replicate_succ, List.replicate_zero, List.cons_append, List.nil_append, List.append_nil, List.getElem?_cons_zero, List.getElem?_cons_succ, List.set_cons_zero, List.set_cons_succ, Option.toList_some, Option.toList_none, vp_nar_int, znar_b, zb_0, ne_eq, Bool.not_eq_false, Classical.not_not, nI_1, sh1_def, true_and, and_true, Nat.reduceAdd, Nat.reduceSub, Nat.reduceLT, Nat.reduceLeDiff, Value.category, Nat.zero_add, Nat.add_zero]
    cases hF : fEntF σ with
    | some t =>
      have ht := fFind_lt _ _ _ _ _ (by rw [← ef]; exact hF)
      have hne : ¬ fOpt (some t) = -1 := nI_neM t (by omega)
      have hk := hN2 (fun k h9 => by
        rcases h9.2 with h | h
        · exact h0 h
        · rw [hF] at h; cases h.1)
      unfold fEnt at hk
      rw [hF] at hk
      refine ⟨fun h1 => ?_, fun h1 => absurd h1 hne⟩
      refine ⟨fun h2 => ?_, fun h2 => absurd h2 hne⟩
      refine ⟨_, _, rfl, pT_Ns.symm, ?_⟩
      simp only [bX5_enter_84, bX5_enter_55, bX5_enter_0, pT_0, pT_1, pT_2, pT_3, pT_4, pT_5, pT_6, pT_7, pT_8, pT_9, pT_10, pT_11, pT_12, pT_13, pT_14, pT_15, pT_16, pT_17, pT_18, pT_19, pT_20, pT_21, pT_22, pT_23, pT_24, pT_25, pT_26, pT_27, pT_28, pT_N, pT_R, pT_U, pT_Q, pT_H, pT_V, pT_pT, o_iload, o_aload, o_ic, o_lc, o_istore, o_astore, o_iinc, o_bin, o_idiv, o_ineg, o_i2c, o_i2l, o_lcmp, o_if1, o_if2, o_dup, o_dup2, o_getf, o_puti, o_ald, o_iast, o_cast, o_lald, o_last, o_mmin, o_mabs, o_ret, o_vret, o_throw, o_lsw01, o_callS0, o_callS1, o_callS2, o_callS3, o_callS4, o_callS5, o_callV0, o_callV1, o_callV2, o_callV3, o_callV4, o_callV5, zcall_no, zok_nil, zok_ref, zok_int, zE, List.map_cons, List.map_nil, List.length_cons, List.length_nil, List.replicate_succ, List.replicate_zero, List.cons_append, List.nil_append, List.append_nil, List.getElem?_cons_zero, List.getElem?_cons_succ, List.set_cons_zero, List.set_cons_succ, Option.toList_some, Option.toList_none, vp_nar_int, znar_b, zb_0, ne_eq, Bool.not_eq_false, Classical.not_not, nI_1, sh1_def, true_and, and_true, Nat.reduceAdd, Nat.reduceSub, Nat.reduceLT, Nat.reduceLeDiff, Value.category, Nat.zero_add, Nat.add_zero]
      exact hk
    | none =>
      have hM : fOpt none = -1 := rfl
      refine ⟨fun h1 => absurd hM h1, fun h1 => ⟨fun h2 => ?_, fun h2 => ?_⟩⟩
      · have hk := hN2 (fun k h9 => by
          rcases h9.2 with h | h
          · exact h0 h
          · exact absurd h.2 (Int32.not_le.mpr h2))
        unfold fEnt at hk
        rw [hF] at hk
        have hn9 : n < 24 := by
          rw [show σ.1.2.2.2.1 = nI n from hn, show (24 : Int32) = nI 24 from rfl] at h2
          exact (nI_ltI (by omega) (by omega)).mp h2
        refine ⟨fun h3 => absurd hM h3, fun h3 => ?_⟩
        refine ⟨σ.1, pT σ f, n, d, rfl, pT_Ns.symm, hn, hn9, hch, hd, hd8, ?_⟩
        simp only [bX5_enter_84, bX5_enter_55, bX5_enter_0, pT_0, pT_1, pT_2, pT_3, pT_4, pT_5, pT_6, pT_7, pT_8, pT_9, pT_10, pT_11, pT_12, pT_13, pT_14, pT_15, pT_16, pT_17, pT_18, pT_19, pT_20, pT_21, pT_22, pT_23, pT_24, pT_25, pT_26, pT_27, pT_28, pT_N, pT_R, pT_U, pT_Q, pT_H, pT_V, pT_pT, o_iload, o_aload, o_ic, o_lc, o_istore, o_astore, o_iinc, o_bin, o_idiv, o_ineg, o_i2c, o_i2l, o_lcmp, o_if1, o_if2, o_dup, o_dup2, o_getf, o_puti, o_ald, o_iast, o_cast, o_lald, o_last, o_mmin, o_mabs, o_ret, o_vret, o_throw, o_lsw01, o_callS0, o_callS1, o_callS2, o_callS3, o_callS4, o_callS5, o_callV0, o_callV1, o_callV2, o_callV3, o_callV4, o_callV5, zcall_no, zok_nil, zok_ref, zok_int, zE, List.map_cons, List.map_nil, List.length_cons, List.length_nil, List.replicate_succ, List.replicate_zero, List.cons_append, List.nil_append, List.append_nil, List.getElem?_cons_zero, List.getElem?_cons_succ, List.set_cons_zero, List.set_cons_succ, Option.toList_some, Option.toList_none, vp_nar_int, znar_b, zb_0, ne_eq, Bool.not_eq_false, Classical.not_not, nI_1, sh1_def, true_and, and_true, Nat.reduceAdd, Nat.reduceSub, Nat.reduceLT, Nat.reduceLeDiff, Value.category, Nat.zero_add, Nat.add_zero]
        refine ⟨5, _, _, n, rfl, pT_Rs.symm, hR, hn9, ?_⟩
        simp only [bX5_enter_84, bX5_enter_55, bX5_enter_0, pT_0, pT_1, pT_2, pT_3, pT_4, pT_5, pT_6, pT_7, pT_8, pT_9, pT_10, pT_11, pT_12, pT_13, pT_14, pT_15, pT_16, pT_17, pT_18, pT_19, pT_20, pT_21, pT_22, pT_23, pT_24, pT_25, pT_26, pT_27, pT_28, pT_N, pT_R, pT_U, pT_Q, pT_H, pT_V, pT_pT, o_iload, o_aload, o_ic, o_lc, o_istore, o_astore, o_iinc, o_bin, o_idiv, o_ineg, o_i2c, o_i2l, o_lcmp, o_if1, o_if2, o_dup, o_dup2, o_getf, o_puti, o_ald, o_iast, o_cast, o_lald, o_last, o_mmin, o_mabs, o_ret, o_vret, o_throw, o_lsw01, o_callS0, o_callS1, o_callS2, o_callS3, o_callS4, o_callS5, o_callV0, o_callV1, o_callV2, o_callV3, o_callV4, o_callV5, zcall_no, zok_nil, zok_ref, zok_int, zE, List.map_cons, List.map_nil, List.length_cons, List.length_nil, List.replicate_succ, List.replicate_zero, List.cons_append, List.nil_append, List.append_nil, List.getElem?_cons_zero, List.getElem?_cons_succ, List.set_cons_zero, List.set_cons_succ, Option.toList_some, Option.toList_none, vp_nar_int, znar_b, zb_0, ne_eq, Bool.not_eq_false, Classical.not_not, nI_1, sh1_def, true_and, and_true, Nat.reduceAdd, Nat.reduceSub, Nat.reduceLT, Nat.reduceLeDiff, Value.category, Nat.zero_add, Nat.add_zero]
        refine ⟨_, _, rfl, pT_Ns.symm, ?_⟩
        simp only [bX5_enter_84, bX5_enter_55, bX5_enter_0, pT_0, pT_1, pT_2, pT_3, pT_4, pT_5, pT_6, pT_7, pT_8, pT_9, pT_10, pT_11, pT_12, pT_13, pT_14, pT_15, pT_16, pT_17, pT_18, pT_19, pT_20, pT_21, pT_22, pT_23, pT_24, pT_25, pT_26, pT_27, pT_28, pT_N, pT_R, pT_U, pT_Q, pT_H, pT_V, pT_pT, o_iload, o_aload, o_ic, o_lc, o_istore, o_astore, o_iinc, o_bin, o_idiv, o_ineg, o_i2c, o_i2l, o_lcmp, o_if1, o_if2, o_dup, o_dup2, o_getf, o_puti, o_ald, o_iast, o_cast, o_lald, o_last, o_mmin, o_mabs, o_ret, o_vret, o_throw, o_lsw01, o_callS0, o_callS1, o_callS2, o_callS3, o_callS4, o_callS5, o_callV0, o_callV1, o_callV2, o_callV3, o_callV4, o_callV5, zcall_no, zok_nil, zok_ref, zok_int, zE, List.map_cons, List.map_nil, List.length_cons, List.length_nil, List.replicate_succ, List.replicate_zero, List.cons_append, List.nil_append, List.append_nil, List.getElem?_cons_zero, List.getElem?_cons_succ, List.set_cons_zero, List.set_cons_succ, Option.toList_some, Option.toList_none, vp_nar_int, znar_b, zb_0, ne_eq, Bool.not_eq_false, Classical.not_not, nI_1, sh1_def, true_and, and_true, Nat.reduceAdd, Nat.reduceSub, Nat.reduceLT, Nat.reduceLeDiff, Value.category, Nat.zero_add, Nat.add_zero]
        unfold fNewT at hk
        simp only [en, show σ.1.2.2.2.2 = nI d from hd, show tn (nI d) = d from nI_clamp (by omega)] at hk
        exact hk
      · exact hX2 1 ⟨rfl, Or.inr ⟨hF, Int32.not_lt.mp h2⟩⟩)
end T5
