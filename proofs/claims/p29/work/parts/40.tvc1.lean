section T1
variable {l : Launch} {z0 b N : Nat} {D : va_G} {cA : Nat → ClassId}
theorem z_shape {e : List Value → ZH → Nat → Prop} {t : List Value → ZH → (Option Value → ZH → Prop) → Prop} {a : List Value} {h : ZH} {Kn : Option Value → ZH → Prop} (P : Prop) (hN : (∀ k, ¬ e a h k) → t a h Kn) (he : ∀ k, e a h k → P) (ht : t a h Kn → P) : P := by
  by_cases hc : ∃ k, e a h k
  · obtain ⟨k, hk⟩ := hc
    exact he k hk
  · exact ht (hN (fun k hk => hc ⟨k, hk⟩))
theorem nokI {x n : Int32} : ¬ okI x n ↔ x < 0 ∨ n ≤ x := by
  unfold okI
  constructor
  · intro h
    by_cases h1 : x < 0
    · exact Or.inl h1
    · refine Or.inr (Int32.not_lt.mp fun h2 => h ⟨Int32.not_lt.mp h1, h2⟩)
  · rintro (h | h) ⟨h1, h2⟩
    · exact absurd h1 (Int32.not_le.mpr h)
    · exact absurd h2 (Int32.not_lt.mpr h)
set_option maxHeartbeats 1000000 in
set_option maxRecDepth 20000 in
theorem mX5_needTag (hlt : l.stackTraces = false) : Sem l z0 b N D cA yX5_needTag cX5_needTag 2 none 6 82 2 eX5_needTag tX5_needTag := uX5_needTag hlt (fun M a h Kn Kx hok hX hN => by
  obtain ⟨hs, x, rfl⟩ : zSh h ∧ ∃ x, a = [.ref 0, .int x] := z_shape _ hN (fun k hk => ⟨hk.1, hk.2.choose, hk.2.choose_spec.1⟩) (fun hk => ⟨hk.1, hk.2.choose, hk.2.choose_spec.1⟩)
  have hs' := hs
  obtain ⟨σ, f, n, m, q, k, s, d, rfl, hI⟩ := hs'
  have hX' : ¬ okI x (sTags σ) → M = 1 ∧ Kx 2 := fun hc => hX 2 ⟨hs, x, rfl, rfl, by rw [gT_pT]; exact hc⟩
  have hN' : okI x (sTags σ) → Kn none (pT σ f) := fun hc => by
    obtain ⟨-, y, e, hk⟩ := hN (fun k hk => by
      obtain ⟨-, y, e, -, h9⟩ := hk
      cases e
      rw [gT_pT] at h9
      exact h9 hc)
    exact hk
  simp only [bX5_needTag_15, bX5_needTag_0, pT_0, pT_1, pT_2, pT_3, pT_4, pT_5, pT_6, pT_7, pT_8, pT_9, pT_10, pT_11, pT_12, pT_13, pT_14, pT_15, pT_16, pT_17, pT_18, pT_19, pT_20, pT_21, pT_22, pT_23, pT_24, pT_25, pT_26, pT_27, pT_28, pT_N, pT_R, pT_U, pT_Q, pT_H, pT_V, pT_pT, o_iload, o_aload, o_ic, o_lc, o_istore, o_astore, o_iinc, o_bin, o_idiv, o_ineg, o_i2c, o_i2l, o_lcmp, o_if1, o_if2, o_dup, o_dup2, o_getf, o_puti, o_ald, o_iast, o_cast, o_lald, o_last, o_mmin, o_mabs, o_ret, o_vret, o_throw, o_lsw01, o_callS0, o_callS1, o_callS2, o_callS3, o_callS4, o_callS5, o_callV0, o_callV1, o_callV2, o_callV3, o_callV4, o_callV5, zcall_no, zok_nil, zok_ref, zok_int, zE, List.map_cons, List.map_nil, List.length_cons, List.length_nil, List.replicate_succ, List.replicate_zero, List.cons_append, List.nil_append, List.append_nil, List.getElem?_cons_zero, List.getElem?_cons_succ, List.set_cons_zero, List.set_cons_succ, Option.toList_some, Option.toList_none, vp_nar_int, znar_b, zb_0, ne_eq, Bool.not_eq_false, Classical.not_not, nI_1, sh1_def, true_and, and_true, Nat.reduceAdd, Nat.reduceSub, Nat.reduceLT, Nat.reduceLeDiff, Value.category, Nat.zero_add, Nat.add_zero]
  refine ⟨fun h1 => ?_, fun h1 => ⟨fun h2 => ?_, fun h2 => ?_⟩⟩
  · exact hX' (nokI.mpr (Or.inl h1))
  · exact hN' ⟨Int32.not_lt.mp h1, h2⟩
  · exact hX' (nokI.mpr (Or.inr (Int32.not_lt.mp h2))))
set_option maxHeartbeats 1000000 in
set_option maxRecDepth 20000 in
theorem mX5_needThing (hlt : l.stackTraces = false) : Sem l z0 b N D cA yX5_needThing cX5_needThing 2 none 6 82 2 eX5_needThing tX5_needThing := uX5_needThing hlt (fun M a h Kn Kx hok hX hN => by
  obtain ⟨hs, x, rfl⟩ : zSh h ∧ ∃ x, a = [.ref 0, .int x] := z_shape _ hN (fun k hk => ⟨hk.1, hk.2.choose, hk.2.choose_spec.1⟩) (fun hk => ⟨hk.1, hk.2.choose, hk.2.choose_spec.1⟩)
  have hs' := hs
  obtain ⟨σ, f, n, m, q, k, s, d, rfl, hI⟩ := hs'
  have hX' : ¬ okI x (sThings σ) → M = 1 ∧ Kx 2 := fun hc => hX 2 ⟨hs, x, rfl, rfl, by rw [gT_pT]; exact hc⟩
  have hN' : okI x (sThings σ) → Kn none (pT σ f) := fun hc => by
    obtain ⟨-, y, e, hk⟩ := hN (fun k hk => by
      obtain ⟨-, y, e, -, h9⟩ := hk
      cases e
      rw [gT_pT] at h9
      exact h9 hc)
    exact hk
  simp only [bX5_needThing_15, bX5_needThing_0, pT_0, pT_1, pT_2, pT_3, pT_4, pT_5, pT_6, pT_7, pT_8, pT_9, pT_10, pT_11, pT_12, pT_13, pT_14, pT_15, pT_16, pT_17, pT_18, pT_19, pT_20, pT_21, pT_22, pT_23, pT_24, pT_25, pT_26, pT_27, pT_28, pT_N, pT_R, pT_U, pT_Q, pT_H, pT_V, pT_pT, o_iload, o_aload, o_ic, o_lc, o_istore, o_astore, o_iinc, o_bin, o_idiv, o_ineg, o_i2c, o_i2l, o_lcmp, o_if1, o_if2, o_dup, o_dup2, o_getf, o_puti, o_ald, o_iast, o_cast, o_lald, o_last, o_mmin, o_mabs, o_ret, o_vret, o_throw, o_lsw01, o_callS0, o_callS1, o_callS2, o_callS3, o_callS4, o_callS5, o_callV0, o_callV1, o_callV2, o_callV3, o_callV4, o_callV5, zcall_no, zok_nil, zok_ref, zok_int, zE, List.map_cons, List.map_nil, List.length_cons, List.length_nil, List.replicate_succ, List.replicate_zero, List.cons_append, List.nil_append, List.append_nil, List.getElem?_cons_zero, List.getElem?_cons_succ, List.set_cons_zero, List.set_cons_succ, Option.toList_some, Option.toList_none, vp_nar_int, znar_b, zb_0, ne_eq, Bool.not_eq_false, Classical.not_not, nI_1, sh1_def, true_and, and_true, Nat.reduceAdd, Nat.reduceSub, Nat.reduceLT, Nat.reduceLeDiff, Value.category, Nat.zero_add, Nat.add_zero]
  refine ⟨fun h1 => ?_, fun h1 => ⟨fun h2 => ?_, fun h2 => ?_⟩⟩
  · exact hX' (nokI.mpr (Or.inl h1))
  · exact hN' ⟨Int32.not_lt.mp h1, h2⟩
  · exact hX' (nokI.mpr (Or.inr (Int32.not_lt.mp h2))))
set_option maxHeartbeats 1000000 in
set_option maxRecDepth 20000 in
theorem mX5_needRequest (hlt : l.stackTraces = false) : Sem l z0 b N D cA yX5_needRequest cX5_needRequest 2 none 6 82 2 eX5_needRequest tX5_needRequest := uX5_needRequest hlt (fun M a h Kn Kx hok hX hN => by
  obtain ⟨hs, x, rfl⟩ : zSh h ∧ ∃ x, a = [.ref 0, .int x] := z_shape _ hN (fun k hk => ⟨hk.1, hk.2.choose, hk.2.choose_spec.1⟩) (fun hk => ⟨hk.1, hk.2.choose, hk.2.choose_spec.1⟩)
  have hs' := hs
  obtain ⟨σ, f, n, m, q, k, s, d, rfl, hI⟩ := hs'
  have hX' : ¬ okI x (sReqs σ) → M = 1 ∧ Kx 2 := fun hc => hX 2 ⟨hs, x, rfl, rfl, by rw [gT_pT]; exact hc⟩
  have hN' : okI x (sReqs σ) → Kn none (pT σ f) := fun hc => by
    obtain ⟨-, y, e, hk⟩ := hN (fun k hk => by
      obtain ⟨-, y, e, -, h9⟩ := hk
      cases e
      rw [gT_pT] at h9
      exact h9 hc)
    exact hk
  simp only [bX5_needRequest_15, bX5_needRequest_0, pT_0, pT_1, pT_2, pT_3, pT_4, pT_5, pT_6, pT_7, pT_8, pT_9, pT_10, pT_11, pT_12, pT_13, pT_14, pT_15, pT_16, pT_17, pT_18, pT_19, pT_20, pT_21, pT_22, pT_23, pT_24, pT_25, pT_26, pT_27, pT_28, pT_N, pT_R, pT_U, pT_Q, pT_H, pT_V, pT_pT, o_iload, o_aload, o_ic, o_lc, o_istore, o_astore, o_iinc, o_bin, o_idiv, o_ineg, o_i2c, o_i2l, o_lcmp, o_if1, o_if2, o_dup, o_dup2, o_getf, o_puti, o_ald, o_iast, o_cast, o_lald, o_last, o_mmin, o_mabs, o_ret, o_vret, o_throw, o_lsw01, o_callS0, o_callS1, o_callS2, o_callS3, o_callS4, o_callS5, o_callV0, o_callV1, o_callV2, o_callV3, o_callV4, o_callV5, zcall_no, zok_nil, zok_ref, zok_int, zE, List.map_cons, List.map_nil, List.length_cons, List.length_nil, List.replicate_succ, List.replicate_zero, List.cons_append, List.nil_append, List.append_nil, List.getElem?_cons_zero, List.getElem?_cons_succ, List.set_cons_zero, List.set_cons_succ, Option.toList_some, Option.toList_none, vp_nar_int, znar_b, zb_0, ne_eq, Bool.not_eq_false, Classical.not_not, nI_1, sh1_def, true_and, and_true, Nat.reduceAdd, Nat.reduceSub, Nat.reduceLT, Nat.reduceLeDiff, Value.category, Nat.zero_add, Nat.add_zero]
  refine ⟨fun h1 => ?_, fun h1 => ⟨fun h2 => ?_, fun h2 => ?_⟩⟩
  · exact hX' (nokI.mpr (Or.inl h1))
  · exact hN' ⟨Int32.not_lt.mp h1, h2⟩
  · exact hX' (nokI.mpr (Or.inr (Int32.not_lt.mp h2))))
set_option maxHeartbeats 1000000 in
set_option maxRecDepth 20000 in
theorem mX5_isTagSet (hlt : l.stackTraces = false) : Sem l z0 b N D cA yX5_isTagSet cX5_isTagSet 2 (some .boolean) 0 0 2 zno tX5_isTagSet := uX5_isTagSet hlt (fun M a h Kn Kx hok hN => by
  obtain ⟨σ, f, x, rfl, rfl, hk⟩ := hN
  simp only [bX5_isTagSet_22, bX5_isTagSet_21, bX5_isTagSet_0, pT_0, pT_1, pT_2, pT_3, pT_4, pT_5, pT_6, pT_7, pT_8, pT_9, pT_10, pT_11, pT_12, pT_13, pT_14, pT_15, pT_16, pT_17, pT_18, pT_19, pT_20, pT_21, pT_22, pT_23, pT_24, pT_25, pT_26, pT_27, pT_28, pT_N, pT_R, pT_U, pT_Q, pT_H, pT_V, pT_pT, o_iload, o_aload, o_ic, o_lc, o_istore, o_astore, o_iinc, o_bin, o_idiv, o_ineg, o_i2c, o_i2l, o_lcmp, o_if1, o_if2, o_dup, o_dup2, o_getf, o_puti, o_ald, o_iast, o_cast, o_lald, o_last, o_mmin, o_mabs, o_ret, o_vret, o_throw, o_lsw01, o_callS0, o_callS1, o_callS2, o_callS3, o_callS4, o_callS5, o_callV0, o_callV1, o_callV2, o_callV3, o_callV4, o_callV5, zcall_no, zok_nil, zok_ref, zok_int, zE, List.map_cons, List.map_nil, List.length_cons, List.length_nil, List.replicate_succ, List.replicate_zero, List.cons_append, List.nil_append, List.append_nil, List.getElem?_cons_zero, List.getElem?_cons_succ, List.set_cons_zero, List.set_cons_succ, Option.toList_some, Option.toList_none, vp_nar_int, znar_b, zb_0, ne_eq, Bool.not_eq_false, Classical.not_not, nI_1, sh1_def, true_and, and_true, Nat.reduceAdd, Nat.reduceSub, Nat.reduceLT, Nat.reduceLeDiff, Value.category, Nat.zero_add, Nat.add_zero]
  unfold fTs at hk
  refine ⟨fun h1 => ?_, fun h1 => ⟨fun h2 => ?_, fun h2 => ?_⟩⟩
  · rw [decide_eq_false (Int32.not_le.mpr h1)] at hk
    exact ⟨rfl, hk⟩
  · rw [decide_eq_true (Int32.not_lt.mp h1), decide_eq_false (Int32.not_lt.mpr h2)] at hk
    exact ⟨rfl, hk⟩
  · rw [decide_eq_true (Int32.not_lt.mp h1), decide_eq_true (Int32.not_le.mp h2)] at hk
    exact ⟨rfl, hk⟩)
set_option maxHeartbeats 1000000 in
set_option maxRecDepth 20000 in
theorem mX5_needSets (hlt : l.stackTraces = false) : Sem l z0 b N D cA yX5_needSets cX5_needSets 4 none 6 82 4 eX5_needSets tX5_needSets := uX5_needSets hlt (mX5_isTagSet hlt) (fun M a h Kn Kx hok hX hN => by
  obtain ⟨hs, x, y, z, rfl⟩ : zSh h ∧ ∃ x y z, a = [.ref 0, .int x, .int y, .int z] := z_shape _ hN (fun k hk => ⟨hk.1, by obtain ⟨-, x, y, z, e, -⟩ := hk; exact ⟨x, y, z, e⟩⟩) (fun hk => ⟨hk.1, by obtain ⟨-, x, y, z, e, -⟩ := hk; exact ⟨x, y, z, e⟩⟩)
  have hs' := hs
  obtain ⟨σ, f, n, m, q, k, s, d, rfl, hI⟩ := hs'
  have hX' : fTs3 (sTags σ) x y z = false → M = 1 ∧ Kx 0 := fun hc => hX 0 ⟨hs, x, y, z, rfl, rfl, by rw [gT_pT]; exact hc⟩
  have hN' : fTs3 (sTags σ) x y z = true → Kn none (pT σ f) := fun hc => by
    obtain ⟨-, _, _, _, e, hk⟩ := hN (fun k hk => by
      obtain ⟨-, _, _, _, e, -, h9⟩ := hk
      cases e
      rw [gT_pT, hc] at h9
      cases h9)
    exact hk
  unfold fTs3 at hX' hN'
  simp only [bX5_needSets_24, bX5_needSets_0, pT_0, pT_1, pT_2, pT_3, pT_4, pT_5, pT_6, pT_7, pT_8, pT_9, pT_10, pT_11, pT_12, pT_13, pT_14, pT_15, pT_16, pT_17, pT_18, pT_19, pT_20, pT_21, pT_22, pT_23, pT_24, pT_25, pT_26, pT_27, pT_28, pT_N, pT_R, pT_U, pT_Q, pT_H, pT_V, pT_pT, o_iload, o_aload, o_ic, o_lc, o_istore, o_astore, o_iinc, o_bin, o_idiv, o_ineg, o_i2c, o_i2l, o_lcmp, o_if1, o_if2, o_dup, o_dup2, o_getf, o_puti, o_ald, o_iast, o_cast, o_lald, o_last, o_mmin, o_mabs, o_ret, o_vret, o_throw, o_lsw01, o_callS0, o_callS1, o_callS2, o_callS3, o_callS4, o_callS5, o_callV0, o_callV1, o_callV2, o_callV3, o_callV4, o_callV5, zcall_no, zok_nil, zok_ref, zok_int, zE, List.map_cons, List.map_nil, List.length_cons, List.length_nil, List.replicate_succ, List.replicate_zero, List.cons_append, List.nil_append, List.append_nil, List.getElem?_cons_zero, List.getElem?_cons_succ, List.set_cons_zero, List.set_cons_succ, Option.toList_some, Option.toList_none, vp_nar_int, znar_b, zb_0, ne_eq, Bool.not_eq_false, Classical.not_not, nI_1, sh1_def, true_and, and_true, Nat.reduceAdd, Nat.reduceSub, Nat.reduceLT, Nat.reduceLeDiff, Value.category, Nat.zero_add, Nat.add_zero]
  refine ⟨σ, f, x, rfl, rfl, ?_⟩
  simp only [bX5_needSets_24, bX5_needSets_0, pT_0, pT_1, pT_2, pT_3, pT_4, pT_5, pT_6, pT_7, pT_8, pT_9, pT_10, pT_11, pT_12, pT_13, pT_14, pT_15, pT_16, pT_17, pT_18, pT_19, pT_20, pT_21, pT_22, pT_23, pT_24, pT_25, pT_26, pT_27, pT_28, pT_N, pT_R, pT_U, pT_Q, pT_H, pT_V, pT_pT, o_iload, o_aload, o_ic, o_lc, o_istore, o_astore, o_iinc, o_bin, o_idiv, o_ineg, o_i2c, o_i2l, o_lcmp, o_if1, o_if2, o_dup, o_dup2, o_getf, o_puti, o_ald, o_iast, o_cast, o_lald, o_last, o_mmin, o_mabs, o_ret, o_vret, o_throw, o_lsw01, o_callS0, o_callS1, o_callS2, o_callS3, o_callS4, o_callS5, o_callV0, o_callV1, o_callV2, o_callV3, o_callV4, o_callV5, zcall_no, zok_nil, zok_ref, zok_int, zE, List.map_cons, List.map_nil, List.length_cons, List.length_nil, List.replicate_succ, List.replicate_zero, List.cons_append, List.nil_append, List.append_nil, List.getElem?_cons_zero, List.getElem?_cons_succ, List.set_cons_zero, List.set_cons_succ, Option.toList_some, Option.toList_none, vp_nar_int, znar_b, zb_0, ne_eq, Bool.not_eq_false, Classical.not_not, nI_1, sh1_def, true_and, and_true, Nat.reduceAdd, Nat.reduceSub, Nat.reduceLT, Nat.reduceLeDiff, Value.category, Nat.zero_add, Nat.add_zero]
  refine ⟨fun h1 => ?_, fun h1 => ⟨σ, f, y, rfl, rfl, ?_⟩⟩
  · exact hX' (by rw [h1]; rfl)
  · simp only [bX5_needSets_24, bX5_needSets_0, pT_0, pT_1, pT_2, pT_3, pT_4, pT_5, pT_6, pT_7, pT_8, pT_9, pT_10, pT_11, pT_12, pT_13, pT_14, pT_15, pT_16, pT_17, pT_18, pT_19, pT_20, pT_21, pT_22, pT_23, pT_24, pT_25, pT_26, pT_27, pT_28, pT_N, pT_R, pT_U, pT_Q, pT_H, pT_V, pT_pT, o_iload, o_aload, o_ic, o_lc, o_istore, o_astore, o_iinc, o_bin, o_idiv, o_ineg, o_i2c, o_i2l, o_lcmp, o_if1, o_if2, o_dup, o_dup2, o_getf, o_puti, o_ald, o_iast, o_cast, o_lald, o_last, o_mmin, o_mabs, o_ret, o_vret, o_throw, o_lsw01, o_callS0, o_callS1, o_callS2, o_callS3, o_callS4, o_callS5, o_callV0, o_callV1, o_callV2, o_callV3, o_callV4, o_callV5, zcall_no, zok_nil, zok_ref, zok_int, zE, List.map_cons, List.map_nil, List.length_cons, List.length_nil, List.replicate_succ, List.replicate_zero, List.cons_append, List.nil_append, List.append_nil, List.getElem?_cons_zero, List.getElem?_cons_succ, List.set_cons_zero, List.set_cons_succ, Option.toList_some, Option.toList_none, vp_nar_int, znar_b, zb_0, ne_eq, Bool.not_eq_false, Classical.not_not, nI_1, sh1_def, true_and, and_true, Nat.reduceAdd, Nat.reduceSub, Nat.reduceLT, Nat.reduceLeDiff, Value.category, Nat.zero_add, Nat.add_zero]
    refine ⟨fun h2 => ?_, fun h2 => ⟨σ, f, z, rfl, rfl, ?_⟩⟩
    · exact hX' (by rw [h1, h2]; rfl)
    · simp only [bX5_needSets_24, bX5_needSets_0, pT_0, pT_1, pT_2, pT_3, pT_4, pT_5, pT_6, pT_7, pT_8, pT_9, pT_10, pT_11, pT_12, pT_13, pT_14, pT_15, pT_16, pT_17, pT_18, pT_19, pT_20, pT_21, pT_22, pT_23, pT_24, pT_25, pT_26, pT_27, pT_28, pT_N, pT_R, pT_U, pT_Q, pT_H, pT_V, pT_pT, o_iload, o_aload, o_ic, o_lc, o_istore, o_astore, o_iinc, o_bin, o_idiv, o_ineg, o_i2c, o_i2l, o_lcmp, o_if1, o_if2, o_dup, o_dup2, o_getf, o_puti, o_ald, o_iast, o_cast, o_lald, o_last, o_mmin, o_mabs, o_ret, o_vret, o_throw, o_lsw01, o_callS0, o_callS1, o_callS2, o_callS3, o_callS4, o_callS5, o_callV0, o_callV1, o_callV2, o_callV3, o_callV4, o_callV5, zcall_no, zok_nil, zok_ref, zok_int, zE, List.map_cons, List.map_nil, List.length_cons, List.length_nil, List.replicate_succ, List.replicate_zero, List.cons_append, List.nil_append, List.append_nil, List.getElem?_cons_zero, List.getElem?_cons_succ, List.set_cons_zero, List.set_cons_succ, Option.toList_some, Option.toList_none, vp_nar_int, znar_b, zb_0, ne_eq, Bool.not_eq_false, Classical.not_not, nI_1, sh1_def, true_and, and_true, Nat.reduceAdd, Nat.reduceSub, Nat.reduceLT, Nat.reduceLeDiff, Value.category, Nat.zero_add, Nat.add_zero]
      refine ⟨fun h3 => ?_, fun h3 => ?_⟩
      · exact hN' (by rw [h1, h2, h3]; rfl)
      · exact hX' (by rw [h1, h2, h3]; rfl))
theorem decide_le97 (x y : Int32) : decide (y ≤ x) = !decide (x < y) := by
  by_cases h : x < y
  · rw [decide_eq_true h, decide_eq_false (Int32.not_le.mpr h)]; rfl
  · rw [decide_eq_false h, decide_eq_true (Int32.not_lt.mp h)]; rfl
set_option maxHeartbeats 1000000 in
set_option maxRecDepth 20000 in
theorem mX5_isNameCharacter (hlt : l.stackTraces = false) : Sem l z0 b N D cA yX5_isNameCharacter cX5_isNameCharacter 1 (some .boolean) 0 0 1 zno tX5_isNameCharacter := uX5_isNameCharacter hlt (fun M a h Kn Kx hok hN => by
  obtain ⟨x, rfl, hk⟩ := hN
  unfold fSg at hk
  simp only [bX5_isNameCharacter_41, bX5_isNameCharacter_36, bX5_isNameCharacter_24, bX5_isNameCharacter_12, bX5_isNameCharacter_0, pT_0, pT_1, pT_2, pT_3, pT_4, pT_5, pT_6, pT_7, pT_8, pT_9, pT_10, pT_11, pT_12, pT_13, pT_14, pT_15, pT_16, pT_17, pT_18, pT_19, pT_20, pT_21, pT_22, pT_23, pT_24, pT_25, pT_26, pT_27, pT_28, pT_N, pT_R, pT_U, pT_Q, pT_H, pT_V, pT_pT, o_iload, o_aload, o_ic, o_lc, o_istore, o_astore, o_iinc, o_bin, o_idiv, o_ineg, o_i2c, o_i2l, o_lcmp, o_if1, o_if2, o_dup, o_dup2, o_getf, o_puti, o_ald, o_iast, o_cast, o_lald, o_last, o_mmin, o_mabs, o_ret, o_vret, o_throw, o_lsw01, o_callS0, o_callS1, o_callS2, o_callS3, o_callS4, o_callS5, o_callV0, o_callV1, o_callV2, o_callV3, o_callV4, o_callV5, zcall_no, zok_nil, zok_ref, zok_int, zE, List.map_cons, List.map_nil, List.length_cons, List.length_nil, List.replicate_succ, List.replicate_zero, List.cons_append, List.nil_append, List.append_nil, List.getElem?_cons_zero, List.getElem?_cons_succ, List.set_cons_zero, List.set_cons_succ, Option.toList_some, Option.toList_none, vp_nar_int, znar_b, zb_0, ne_eq, Bool.not_eq_false, Classical.not_not, nI_1, sh1_def, true_and, and_true, Nat.reduceAdd, Nat.reduceSub, Nat.reduceLT, Nat.reduceLeDiff, Value.category, Nat.zero_add, Nat.add_zero]
  have e1 : decide (97 ≤ x) = !decide (x < 97) := decide_le97 x 97
  have e2 : decide (65 ≤ x) = !decide (x < 65) := decide_le97 x 65
  rw [e1, e2] at hk
  simp only [narrow_b0, narrow_b1, true_and]
  by_cases h1 : x < 97 <;> by_cases h2 : x ≤ 122 <;> by_cases h3 : x < 65 <;> by_cases h4 : x ≤ 90 <;> by_cases h5 : x = 45 <;> by_cases h6 : x = 95 <;> simp only [h1, h2, h3, h4, h5, h6, decide_true, decide_false, Bool.not_true, Bool.not_false, Bool.and_true, Bool.and_false, Bool.or_true, Bool.true_or, Bool.or_false, Bool.false_or] at hk <;> refine ⟨fun q1 => ⟨fun q2 => ⟨fun q3 => ?_, fun q3 => ⟨fun q4 => ?_, fun q4 => ?_⟩⟩, fun q2 => ⟨fun q3 => ?_, fun q3 => ⟨fun q4 => ?_, fun q4 => ⟨fun q5 => ?_, fun q5 => ?_⟩⟩⟩⟩, fun q1 => ⟨fun q2 => ?_, fun q2 => ⟨fun q3 => ⟨fun q4 => ?_, fun q4 => ⟨fun q5 => ?_, fun q5 => ?_⟩⟩, fun q3 => ⟨fun q4 => ?_, fun q4 => ⟨fun q5 => ?_, fun q5 => ⟨fun q6 => ?_, fun q6 => ?_⟩⟩⟩⟩⟩⟩ <;> first | contradiction | exact hk)
end T1
