section T4
variable {l : Launch} {z0 b N : Nat} {D : va_G} {cA : Nat → ClassId}
theorem le4 {x : Int32} (h : 3 < x) : 4 ≤ x := by
  rw [Int32.lt_iff_toInt_lt] at h
  rw [Int32.le_iff_toInt_le]
  have h3 : (3 : Int32).toInt = 3 := rfl
  have h4 : (4 : Int32).toInt = 4 := rfl
  omega
theorem nokI2 {x : Int32} (h1 : ¬ x < 0) (h2 : x ≤ 3) : okI x 4 := by
  refine ⟨Int32.not_lt.mp h1, ?_⟩
  rw [Int32.le_iff_toInt_le] at h2
  rw [Int32.lt_iff_toInt_lt]
  have h3 : (3 : Int32).toInt = 3 := rfl
  have h4 : (4 : Int32).toInt = 4 := rfl
  omega
set_option maxHeartbeats 1000000 in
set_option maxRecDepth 20000 in
theorem mX5_letter (hlt : l.stackTraces = false) : Sem l z0 b N D cA yX5_letter cX5_letter 3 (some .char) 7 103 3 eX5_letter tX5_letter := uX5_letter hlt (mX5_needTag hlt) (mX1_letterAt hlt) (fun M a h Kn Kx hok hX hN => by
  obtain ⟨hs, x, y, rfl⟩ : zSh h ∧ ∃ x y, a = [.ref 0, .int x, .int y] := z_shape _ hN (fun k hk => ⟨hk.1, by obtain ⟨-, x, y, e, -⟩ := hk; exact ⟨x, y, e⟩⟩) (fun hk => ⟨hk.1, by obtain ⟨-, x, y, e, -⟩ := hk; exact ⟨x, y, e⟩⟩)
  have hs' := hs
  obtain ⟨σ, f, n, m, q, k0, s, d, rfl, hI⟩ := hs'
  have hI' := hI
  obtain ⟨hn, hn24, hd, hd8, hch, hlen, hR, hH, hq, hq40, hreq⟩ := hI
  have em : tn (sThings σ) = m := by rw [show sThings σ = nI m from hH.1]; exact nI_clamp (by have := hH.2.1; omega)
  have en : tn (sTags σ) = n := by rw [show sTags σ = nI n from hn]; exact nI_clamp (by omega)
  have hm20 := hH.2.1
  have hX2 : ∀ k, (k = 2 ∧ (¬ okI x (sTags σ) ∨ ¬ okI y (σ.1.2.1 (tn x)))) → M = 1 ∧ Kx k := fun k hc => hX k ⟨hs, x, y, rfl, by rw [gT_pT]; exact hc⟩
  have hN2 : (∀ k, ¬ (k = 2 ∧ (¬ okI x (sTags σ) ∨ ¬ okI y (σ.1.2.1 (tn x))))) → Kn (some (.int (σ.1.1 (tn x * 8 + tn y)))) (pT σ f) := fun hne => by
    obtain ⟨-, _, _, e, hk⟩ := hN (fun k hk => by
      obtain ⟨-, _, _, e, h9⟩ := hk
      cases e
      rw [gT_pT] at h9
      exact hne k h9)
    cases e
    simp only [gT_pT, pT_pT] at hk
    exact hk
  simp only [bX5_letter_22, bX5_letter_0, pT_0, pT_1, pT_2, pT_3, pT_4, pT_5, pT_6, pT_7, pT_8, pT_9, pT_10, pT_11, pT_12, pT_13, pT_14, pT_15, pT_16, pT_17, pT_18, pT_19, pT_20, pT_21, pT_22, pT_23, pT_24, pT_25, pT_26, pT_27, pT_28, pT_N, pT_R, pT_U, pT_Q, pT_H, pT_V, pT_pT, o_iload, o_aload, o_ic, o_lc, o_istore, o_astore, o_iinc, o_bin, o_idiv, o_ineg, o_i2c, o_i2l, o_lcmp, o_if1, o_if2, o_dup, o_dup2, o_getf, o_puti, o_ald, o_iast, o_cast, o_lald, o_last, o_mmin, o_mabs, o_ret, o_vret, o_throw, o_lsw01, o_callS0, o_callS1, o_callS2, o_callS3, o_callS4, o_callS5, o_callV0, o_callV1, o_callV2, o_callV3, o_callV4, o_callV5, zcall_no, zok_nil, zok_ref, zok_int, zE, List.map_cons, List.map_nil, List.length_cons, List.length_nil, List.replicate_succ, List.replicate_zero, List.cons_append, List.nil_append, List.append_nil, List.getElem?_cons_zero, List.getElem?_cons_succ, List.set_cons_zero, List.set_cons_succ, Option.toList_some, Option.toList_none, vp_nar_int, znar_b, zb_0, ne_eq, Bool.not_eq_false, Classical.not_not, nI_1, sh1_def, true_and, and_true, Nat.reduceAdd, Nat.reduceSub, Nat.reduceLT, Nat.reduceLeDiff, Value.category, Nat.zero_add, Nat.add_zero]
  refine z_needTag hs (by decide) (fun hc => ?_) (fun hc => ?_)
  · obtain ⟨h1, h2⟩ := hX2 2 ⟨rfl, Or.inl hc⟩
    exact ⟨h1, h2, rfl⟩
  · have hc' := hc
    rw [show sTags σ = nI n from hn] at hc
    obtain ⟨i, hi, rfl⟩ := (okI_n (by omega)).mp hc
    have hci := nI_clamp (show i < 2 ^ 31 by omega)
    obtain ⟨e, he8, he⟩ := hlen i hi
    simp only [bX5_letter_22, bX5_letter_0, pT_0, pT_1, pT_2, pT_3, pT_4, pT_5, pT_6, pT_7, pT_8, pT_9, pT_10, pT_11, pT_12, pT_13, pT_14, pT_15, pT_16, pT_17, pT_18, pT_19, pT_20, pT_21, pT_22, pT_23, pT_24, pT_25, pT_26, pT_27, pT_28, pT_N, pT_R, pT_U, pT_Q, pT_H, pT_V, pT_pT, hci, o_iload, o_aload, o_ic, o_lc, o_istore, o_astore, o_iinc, o_bin, o_idiv, o_ineg, o_i2c, o_i2l, o_lcmp, o_if1, o_if2, o_dup, o_dup2, o_getf, o_puti, o_ald, o_iast, o_cast, o_lald, o_last, o_mmin, o_mabs, o_ret, o_vret, o_throw, o_lsw01, o_callS0, o_callS1, o_callS2, o_callS3, o_callS4, o_callS5, o_callV0, o_callV1, o_callV2, o_callV3, o_callV4, o_callV5, zcall_no, zok_nil, zok_ref, zok_int, zE, List.map_cons, List.map_nil, List.length_cons, List.length_nil, List.replicate_succ, List.replicate_zero, List.cons_append, List.nil_append, List.append_nil, List.getElem?_cons_zero, List.getElem?_cons_succ, List.set_cons_zero, List.set_cons_succ, Option.toList_some, Option.toList_none, vp_nar_int, znar_b, zb_0, ne_eq, Bool.not_eq_false, Classical.not_not, nI_1, sh1_def, true_and, and_true, Nat.reduceAdd, Nat.reduceSub, Nat.reduceLT, Nat.reduceLeDiff, Value.category, Nat.zero_add, Nat.add_zero]
    have hbad : ¬ okI y (nI e) → M = 1 ∧ Kx 2 := fun hb => hX2 2 ⟨rfl, Or.inr (by rw [show tn (nI i) = i from hci, he]; exact hb)⟩
    refine ⟨fun h1 => ?_, fun h1 => ⟨vpin (by omega) (by omega), fun h2 => ?_, fun h2 => ?_⟩⟩
    · obtain ⟨h3, h4⟩ := hbad (fun q => absurd q.1 (Int32.not_le.mpr h1))
      exact ⟨h3, h4⟩
    · rw [he] at h2
      have hok : okI y (nI e) := ⟨Int32.not_lt.mp h1, h2⟩
      have hk := hN2 (fun k h9 => h9.2.elim (fun h => h hc') (fun h => h (by rw [show tn (nI i) = i from hci, he]; exact hok)))
      obtain ⟨j, hj, rfl⟩ := (okI_n (by omega)).mp hok
      have hcj := nI_clamp (show j < 2 ^ 31 by omega)
      rw [show tn (nI i) = i from hci, show tn (nI j) = j from hcj] at hk
      refine ⟨σ.1, pT σ f, i, j, rfl, pT_Ns.symm, by omega, by omega, hch.1 _, ?_⟩
      simp only [bX5_letter_22, bX5_letter_0, pT_0, pT_1, pT_2, pT_3, pT_4, pT_5, pT_6, pT_7, pT_8, pT_9, pT_10, pT_11, pT_12, pT_13, pT_14, pT_15, pT_16, pT_17, pT_18, pT_19, pT_20, pT_21, pT_22, pT_23, pT_24, pT_25, pT_26, pT_27, pT_28, pT_N, pT_R, pT_U, pT_Q, pT_H, pT_V, pT_pT, o_iload, o_aload, o_ic, o_lc, o_istore, o_astore, o_iinc, o_bin, o_idiv, o_ineg, o_i2c, o_i2l, o_lcmp, o_if1, o_if2, o_dup, o_dup2, o_getf, o_puti, o_ald, o_iast, o_cast, o_lald, o_last, o_mmin, o_mabs, o_ret, o_vret, o_throw, o_lsw01, o_callS0, o_callS1, o_callS2, o_callS3, o_callS4, o_callS5, o_callV0, o_callV1, o_callV2, o_callV3, o_callV4, o_callV5, zcall_no, zok_nil, zok_ref, zok_int, zE, List.map_cons, List.map_nil, List.length_cons, List.length_nil, List.replicate_succ, List.replicate_zero, List.cons_append, List.nil_append, List.append_nil, List.getElem?_cons_zero, List.getElem?_cons_succ, List.set_cons_zero, List.set_cons_succ, Option.toList_some, Option.toList_none, vp_nar_int, znar_b, zb_0, ne_eq, Bool.not_eq_false, Classical.not_not, nI_1, sh1_def, true_and, and_true, Nat.reduceAdd, Nat.reduceSub, Nat.reduceLT, Nat.reduceLeDiff, Value.category, Nat.zero_add, Nat.add_zero]
      exact ⟨hch.1 _, hk⟩
    · rw [he] at h2
      obtain ⟨h3, h4⟩ := hbad (fun q => h2 q.2)
      exact ⟨h3, h4⟩)
set_option maxHeartbeats 1000000 in
set_option maxRecDepth 20000 in
theorem mX5_addThing (hlt : l.stackTraces = false) : Sem l z0 b N D cA yX5_addThing cX5_addThing 1 (some .int) 6 82 1 eX5_addThing tX5_addThing := uX5_addThing hlt (fun M a h Kn Kx hok hX hN => by
  obtain ⟨hs, rfl⟩ : zSh h ∧ a = [.ref 0] := z_shape _ hN (fun k hk => ⟨hk.1, by obtain ⟨-, e, -⟩ := hk; exact e⟩) (fun hk => ⟨hk.1, by obtain ⟨-, e, -⟩ := hk; exact e⟩)
  have hs' := hs
  obtain ⟨σ, f, n, m, q, k0, s, d, rfl, hI⟩ := hs'
  have hI' := hI
  obtain ⟨hn, hn24, hd, hd8, hch, hlen, hR, hH, hq, hq40, hreq⟩ := hI
  have em : tn (sThings σ) = m := by rw [show sThings σ = nI m from hH.1]; exact nI_clamp (by have := hH.2.1; omega)
  have en : tn (sTags σ) = n := by rw [show sTags σ = nI n from hn]; exact nI_clamp (by omega)
  have hm20 := hH.2.1
  have hX2 : ∀ k, (k = 1 ∧ 20 ≤ sThings σ) → M = 1 ∧ Kx k := fun k hc => hX k ⟨hs, rfl, by rw [gT_pT]; exact hc⟩
  have hN2 : (∀ k, ¬ (k = 1 ∧ 20 ≤ sThings σ)) → Kn (some (.int (sThings σ))) (pT (wH σ ((sK σ).1, (sK σ).2.1, (sK σ).2.2.1, (sK σ).2.2.2.1, sThings σ + 1, (sK σ).2.2.2.2.2)) f) := fun hne => by
    obtain ⟨-, e, hk⟩ := hN (fun k hk => by
      obtain ⟨-, e, h9⟩ := hk
      cases e
      rw [gT_pT] at h9
      exact hne k h9)
    cases e
    simp only [gT_pT, pT_pT] at hk
    exact hk
  simp only [bX5_addThing_0, pT_0, pT_1, pT_2, pT_3, pT_4, pT_5, pT_6, pT_7, pT_8, pT_9, pT_10, pT_11, pT_12, pT_13, pT_14, pT_15, pT_16, pT_17, pT_18, pT_19, pT_20, pT_21, pT_22, pT_23, pT_24, pT_25, pT_26, pT_27, pT_28, pT_N, pT_R, pT_U, pT_Q, pT_H, pT_V, pT_pT, o_iload, o_aload, o_ic, o_lc, o_istore, o_astore, o_iinc, o_bin, o_idiv, o_ineg, o_i2c, o_i2l, o_lcmp, o_if1, o_if2, o_dup, o_dup2, o_getf, o_puti, o_ald, o_iast, o_cast, o_lald, o_last, o_mmin, o_mabs, o_ret, o_vret, o_throw, o_lsw01, o_callS0, o_callS1, o_callS2, o_callS3, o_callS4, o_callS5, o_callV0, o_callV1, o_callV2, o_callV3, o_callV4, o_callV5, zcall_no, zok_nil, zok_ref, zok_int, zE, List.map_cons, List.map_nil, List.length_cons, List.length_nil, List.replicate_succ, List.replicate_zero, List.cons_append, List.nil_append, List.append_nil, List.getElem?_cons_zero, List.getElem?_cons_succ, List.set_cons_zero, List.set_cons_succ, Option.toList_some, Option.toList_none, vp_nar_int, znar_b, zb_0, ne_eq, Bool.not_eq_false, Classical.not_not, nI_1, sh1_def, true_and, and_true, Nat.reduceAdd, Nat.reduceSub, Nat.reduceLT, Nat.reduceLeDiff, Value.category, Nat.zero_add, Nat.add_zero]
  refine ⟨fun h1 => ?_, fun h1 => ?_⟩
  · have hk := hN2 (fun k h9 => absurd h9.2 (Int32.not_le.mpr h1))
    rw [pT_a4_4 (x := σ) rfl rfl]
    simp only [bX5_addThing_0, pT_0, pT_1, pT_2, pT_3, pT_4, pT_5, pT_6, pT_7, pT_8, pT_9, pT_10, pT_11, pT_12, pT_13, pT_14, pT_15, pT_16, pT_17, pT_18, pT_19, pT_20, pT_21, pT_22, pT_23, pT_24, pT_25, pT_26, pT_27, pT_28, pT_N, pT_R, pT_U, pT_Q, pT_H, pT_V, pT_pT, o_iload, o_aload, o_ic, o_lc, o_istore, o_astore, o_iinc, o_bin, o_idiv, o_ineg, o_i2c, o_i2l, o_lcmp, o_if1, o_if2, o_dup, o_dup2, o_getf, o_puti, o_ald, o_iast, o_cast, o_lald, o_last, o_mmin, o_mabs, o_ret, o_vret, o_throw, o_lsw01, o_callS0, o_callS1, o_callS2, o_callS3, o_callS4, o_callS5, o_callV0, o_callV1, o_callV2, o_callV3, o_callV4, o_callV5, zcall_no, zok_nil, zok_ref, zok_int, zE, List.map_cons, List.map_nil, List.length_cons, List.length_nil, List.replicate_succ, List.replicate_zero, List.cons_append, List.nil_append, List.append_nil, List.getElem?_cons_zero, List.getElem?_cons_succ, List.set_cons_zero, List.set_cons_succ, Option.toList_some, Option.toList_none, vp_nar_int, znar_b, zb_0, ne_eq, Bool.not_eq_false, Classical.not_not, nI_1, sh1_def, true_and, and_true, Nat.reduceAdd, Nat.reduceSub, Nat.reduceLT, Nat.reduceLeDiff, Value.category, Nat.zero_add, Nat.add_zero]
    rw [Int32.add_sub_cancel]
    exact hk
  · obtain ⟨h3, h4⟩ := hX2 1 ⟨rfl, Int32.not_lt.mp h1⟩
    exact ⟨h3, h4⟩)
set_option maxHeartbeats 1000000 in
set_option maxRecDepth 20000 in
theorem mX5_undo (hlt : l.stackTraces = false) : Sem l z0 b N D cA yX5_undo cX5_undo 2 (some .int) 6 82 1 eX5_undo tX5_undo := uX5_undo hlt (mX0_restoreLatest hlt) (mX3_refresh hlt) (fun M a h Kn Kx hok hX hN => by
  obtain ⟨hs, rfl⟩ : zSh h ∧ a = [.ref 0] := z_shape _ hN (fun k hk => ⟨hk.1, by obtain ⟨-, e, -⟩ := hk; exact e⟩) (fun hk => ⟨hk.1, by obtain ⟨-, e, -⟩ := hk; exact e⟩)
  have hs' := hs
  obtain ⟨σ, f, n, m, q, k0, s, d, rfl, hI⟩ := hs'
  have hI' := hI
  obtain ⟨hn, hn24, hd, hd8, hch, hlen, hR, hH, hq, hq40, hreq⟩ := hI
  have em : tn (sThings σ) = m := by rw [show sThings σ = nI m from hH.1]; exact nI_clamp (by have := hH.2.1; omega)
  have en : tn (sTags σ) = n := by rw [show sTags σ = nI n from hn]; exact nI_clamp (by omega)
  have hm20 := hH.2.1
  have hX2 : ∀ k, (k = 1 ∧ (sK σ).2.2.2.2.2.1 = 0) → M = 1 ∧ Kx k := fun k hc => hX k ⟨hs, rfl, by rw [gT_pT]; exact hc⟩
  have hN2 : (∀ k, ¬ (k = 1 ∧ (sK σ).2.2.2.2.2.1 = 0)) → Kn (some (.int (fBc ((sK σ).2.2.1 (fPrev (tn (sK σ).2.2.2.2.2.2)))))) (pT (fUnd σ) f) := fun hne => by
    obtain ⟨-, e, hk⟩ := hN (fun k hk => by
      obtain ⟨-, e, h9⟩ := hk
      cases e
      rw [gT_pT] at h9
      exact hne k h9)
    cases e
    simp only [gT_pT, pT_pT] at hk
    exact hk
  have ek : tn (sK σ).2.2.2.2.2.1 = k0 := by rw [show (sK σ).2.2.2.2.2.1 = nI k0 from hH.2.2.1]; exact nI_clamp (by have := hH.2.2.2.1; omega)
  have es : tn (sK σ).2.2.2.2.2.2 = s := by rw [show (sK σ).2.2.2.2.2.2 = nI s from hH.2.2.2.2.1]; exact nI_clamp (by have := hH.2.2.2.2.2; omega)
  simp only [bX5_undo_0, pT_0, pT_1, pT_2, pT_3, pT_4, pT_5, pT_6, pT_7, pT_8, pT_9, pT_10, pT_11, pT_12, pT_13, pT_14, pT_15, pT_16, pT_17, pT_18, pT_19, pT_20, pT_21, pT_22, pT_23, pT_24, pT_25, pT_26, pT_27, pT_28, pT_N, pT_R, pT_U, pT_Q, pT_H, pT_V, pT_pT, o_iload, o_aload, o_ic, o_lc, o_istore, o_astore, o_iinc, o_bin, o_idiv, o_ineg, o_i2c, o_i2l, o_lcmp, o_if1, o_if2, o_dup, o_dup2, o_getf, o_puti, o_ald, o_iast, o_cast, o_lald, o_last, o_mmin, o_mabs, o_ret, o_vret, o_throw, o_lsw01, o_callS0, o_callS1, o_callS2, o_callS3, o_callS4, o_callS5, o_callV0, o_callV1, o_callV2, o_callV3, o_callV4, o_callV5, zcall_no, zok_nil, zok_ref, zok_int, zE, List.map_cons, List.map_nil, List.length_cons, List.length_nil, List.replicate_succ, List.replicate_zero, List.cons_append, List.nil_append, List.append_nil, List.getElem?_cons_zero, List.getElem?_cons_succ, List.set_cons_zero, List.set_cons_succ, Option.toList_some, Option.toList_none, vp_nar_int, znar_b, zb_0, ne_eq, Bool.not_eq_false, Classical.not_not, nI_1, sh1_def, true_and, and_true, Nat.reduceAdd, Nat.reduceSub, Nat.reduceLT, Nat.reduceLeDiff, Value.category, Nat.zero_add, Nat.add_zero]
  refine ⟨fun h1 => ?_, fun h1 => ?_⟩
  · have hk := hN2 (fun k h9 => h1 h9.2)
    have hpos : 0 < k0 := by
      rcases Nat.eq_zero_or_pos k0 with h9 | h9
      · exact absurd (by rw [show σ.2.2.2.2.1.2.2.2.2.2.1 = nI k0 from hH.2.2.1, h9]; rfl) h1
      · exact h9
    unfold fUnd at hk
    rw [es, ek, em] at hk
    refine ⟨sK σ, pT σ f, m, k0, s, rfl, pT_Hs.symm, hH, hpos, ?_⟩
    simp only [bX5_undo_0, pT_0, pT_1, pT_2, pT_3, pT_4, pT_5, pT_6, pT_7, pT_8, pT_9, pT_10, pT_11, pT_12, pT_13, pT_14, pT_15, pT_16, pT_17, pT_18, pT_19, pT_20, pT_21, pT_22, pT_23, pT_24, pT_25, pT_26, pT_27, pT_28, pT_N, pT_R, pT_U, pT_Q, pT_H, pT_V, pT_pT, o_iload, o_aload, o_ic, o_lc, o_istore, o_astore, o_iinc, o_bin, o_idiv, o_ineg, o_i2c, o_i2l, o_lcmp, o_if1, o_if2, o_dup, o_dup2, o_getf, o_puti, o_ald, o_iast, o_cast, o_lald, o_last, o_mmin, o_mabs, o_ret, o_vret, o_throw, o_lsw01, o_callS0, o_callS1, o_callS2, o_callS3, o_callS4, o_callS5, o_callV0, o_callV1, o_callV2, o_callV3, o_callV4, o_callV5, zcall_no, zok_nil, zok_ref, zok_int, zE, List.map_cons, List.map_nil, List.length_cons, List.length_nil, List.replicate_succ, List.replicate_zero, List.cons_append, List.nil_append, List.append_nil, List.getElem?_cons_zero, List.getElem?_cons_succ, List.set_cons_zero, List.set_cons_succ, Option.toList_some, Option.toList_none, vp_nar_int, znar_b, zb_0, ne_eq, Bool.not_eq_false, Classical.not_not, nI_1, sh1_def, true_and, and_true, Nat.reduceAdd, Nat.reduceSub, Nat.reduceLT, Nat.reduceLeDiff, Value.category, Nat.zero_add, Nat.add_zero]
    refine ⟨_, f, n, m, rfl, rfl, hR, hH.1, hH.2.1, ?_⟩
    simp only [bX5_undo_0, pT_0, pT_1, pT_2, pT_3, pT_4, pT_5, pT_6, pT_7, pT_8, pT_9, pT_10, pT_11, pT_12, pT_13, pT_14, pT_15, pT_16, pT_17, pT_18, pT_19, pT_20, pT_21, pT_22, pT_23, pT_24, pT_25, pT_26, pT_27, pT_28, pT_N, pT_R, pT_U, pT_Q, pT_H, pT_V, pT_pT, o_iload, o_aload, o_ic, o_lc, o_istore, o_astore, o_iinc, o_bin, o_idiv, o_ineg, o_i2c, o_i2l, o_lcmp, o_if1, o_if2, o_dup, o_dup2, o_getf, o_puti, o_ald, o_iast, o_cast, o_lald, o_last, o_mmin, o_mabs, o_ret, o_vret, o_throw, o_lsw01, o_callS0, o_callS1, o_callS2, o_callS3, o_callS4, o_callS5, o_callV0, o_callV1, o_callV2, o_callV3, o_callV4, o_callV5, zcall_no, zok_nil, zok_ref, zok_int, zE, List.map_cons, List.map_nil, List.length_cons, List.length_nil, List.replicate_succ, List.replicate_zero, List.cons_append, List.nil_append, List.append_nil, List.getElem?_cons_zero, List.getElem?_cons_succ, List.set_cons_zero, List.set_cons_succ, Option.toList_some, Option.toList_none, vp_nar_int, znar_b, zb_0, ne_eq, Bool.not_eq_false, Classical.not_not, nI_1, sh1_def, true_and, and_true, Nat.reduceAdd, Nat.reduceSub, Nat.reduceLT, Nat.reduceLeDiff, Value.category, Nat.zero_add, Nat.add_zero]
    unfold fRef at hk
    have em' : ∀ η : zHS, η.2.2.2.2.1 = nI m → tn (sThings (wH σ η)) = m := fun η h => by show tn η.2.2.2.2.1 = m; rw [h]; exact nI_clamp (by omega)
    have en' : ∀ η : zHS, tn (sTags (wH σ η)) = n := fun η => en
    rw [em' (fBack (sK σ) m s k0) hH.1, en'] at hk
    exact hk
  · obtain ⟨h3, h4⟩ := hX2 1 ⟨rfl, h1⟩
    exact ⟨h3, h4⟩)
set_option maxHeartbeats 1000000 in
set_option maxRecDepth 20000 in
theorem mX5_count (hlt : l.stackTraces = false) : Sem l z0 b N D cA yX5_count cX5_count 4 (some .int) 7 105 4 eX5_count tX5_count := uX5_count hlt (mX5_needSets hlt) (mX5_matching hlt) (mJ6_bitCount_0f7a4 hlt) (fun M a h Kn Kx hok hX hN => by
  obtain ⟨hs, x, y, z, rfl⟩ : zSh h ∧ ∃ x y z, a = [.ref 0, .int x, .int y, .int z] := z_shape _ hN (fun k hk => ⟨hk.1, by obtain ⟨-, x, y, z, e, -⟩ := hk; exact ⟨x, y, z, e⟩⟩) (fun hk => ⟨hk.1, by obtain ⟨-, x, y, z, e, -⟩ := hk; exact ⟨x, y, z, e⟩⟩)
  have hs' := hs
  obtain ⟨σ, f, n, m, q, k0, s, d, rfl, hI⟩ := hs'
  have hI' := hI
  obtain ⟨hn, hn24, hd, hd8, hch, hlen, hR, hH, hq, hq40, hreq⟩ := hI
  have em : tn (sThings σ) = m := by rw [show sThings σ = nI m from hH.1]; exact nI_clamp (by have := hH.2.1; omega)
  have en : tn (sTags σ) = n := by rw [show sTags σ = nI n from hn]; exact nI_clamp (by omega)
  have hm20 := hH.2.1
  have hX2 : ∀ k, (k = 0 ∧ fTs3 (sTags σ) x y z = false) → M = 1 ∧ Kx k := fun k hc => hX k ⟨hs, x, y, z, rfl, by rw [gT_pT]; exact hc⟩
  have hN2 : (∀ k, ¬ (k = 0 ∧ fTs3 (sTags σ) x y z = false)) → Kn (some (.int (fBc (fMt σ x y z)))) (pT σ f) := fun hne => by
    obtain ⟨-, _, _, _, e, hk⟩ := hN (fun k hk => by
      obtain ⟨-, _, _, _, e, h9⟩ := hk
      cases e
      rw [gT_pT] at h9
      exact hne k h9)
    cases e
    simp only [gT_pT, pT_pT] at hk
    exact hk
  simp only [bX5_count_0, pT_0, pT_1, pT_2, pT_3, pT_4, pT_5, pT_6, pT_7, pT_8, pT_9, pT_10, pT_11, pT_12, pT_13, pT_14, pT_15, pT_16, pT_17, pT_18, pT_19, pT_20, pT_21, pT_22, pT_23, pT_24, pT_25, pT_26, pT_27, pT_28, pT_N, pT_R, pT_U, pT_Q, pT_H, pT_V, pT_pT, o_iload, o_aload, o_ic, o_lc, o_istore, o_astore, o_iinc, o_bin, o_idiv, o_ineg, o_i2c, o_i2l, o_lcmp, o_if1, o_if2, o_dup, o_dup2, o_getf, o_puti, o_ald, o_iast, o_cast, o_lald, o_last, o_mmin, o_mabs, o_ret, o_vret, o_throw, o_lsw01, o_callS0, o_callS1, o_callS2, o_callS3, o_callS4, o_callS5, o_callV0, o_callV1, o_callV2, o_callV3, o_callV4, o_callV5, zcall_no, zok_nil, zok_ref, zok_int, zE, List.map_cons, List.map_nil, List.length_cons, List.length_nil, List.replicate_succ, List.replicate_zero, List.cons_append, List.nil_append, List.append_nil, List.getElem?_cons_zero, List.getElem?_cons_succ, List.set_cons_zero, List.set_cons_succ, Option.toList_some, Option.toList_none, vp_nar_int, znar_b, zb_0, ne_eq, Bool.not_eq_false, Classical.not_not, nI_1, sh1_def, true_and, and_true, Nat.reduceAdd, Nat.reduceSub, Nat.reduceLT, Nat.reduceLeDiff, Value.category, Nat.zero_add, Nat.add_zero]
  refine z_needSets hs (by decide) (fun hc => ?_) (fun hc => ?_)
  · obtain ⟨h1, h2⟩ := hX2 0 ⟨rfl, hc⟩
    exact ⟨h1, h2, rfl⟩
  · have hk := hN2 (fun k h9 => by rw [hc] at h9; cases h9.2)
    simp only [bX5_count_0, pT_0, pT_1, pT_2, pT_3, pT_4, pT_5, pT_6, pT_7, pT_8, pT_9, pT_10, pT_11, pT_12, pT_13, pT_14, pT_15, pT_16, pT_17, pT_18, pT_19, pT_20, pT_21, pT_22, pT_23, pT_24, pT_25, pT_26, pT_27, pT_28, pT_N, pT_R, pT_U, pT_Q, pT_H, pT_V, pT_pT, o_iload, o_aload, o_ic, o_lc, o_istore, o_astore, o_iinc, o_bin, o_idiv, o_ineg, o_i2c, o_i2l, o_lcmp, o_if1, o_if2, o_dup, o_dup2, o_getf, o_puti, o_ald, o_iast, o_cast, o_lald, o_last, o_mmin, o_mabs, o_ret, o_vret, o_throw, o_lsw01, o_callS0, o_callS1, o_callS2, o_callS3, o_callS4, o_callS5, o_callV0, o_callV1, o_callV2, o_callV3, o_callV4, o_callV5, zcall_no, zok_nil, zok_ref, zok_int, zE, List.map_cons, List.map_nil, List.length_cons, List.length_nil, List.replicate_succ, List.replicate_zero, List.cons_append, List.nil_append, List.append_nil, List.getElem?_cons_zero, List.getElem?_cons_succ, List.set_cons_zero, List.set_cons_succ, Option.toList_some, Option.toList_none, vp_nar_int, znar_b, zb_0, ne_eq, Bool.not_eq_false, Classical.not_not, nI_1, sh1_def, true_and, and_true, Nat.reduceAdd, Nat.reduceSub, Nat.reduceLT, Nat.reduceLeDiff, Value.category, Nat.zero_add, Nat.add_zero]
    refine ⟨σ, f, n, m, q, k0, s, d, x, y, z, rfl, rfl, hI', ?_⟩
    simp only [bX5_count_0, pT_0, pT_1, pT_2, pT_3, pT_4, pT_5, pT_6, pT_7, pT_8, pT_9, pT_10, pT_11, pT_12, pT_13, pT_14, pT_15, pT_16, pT_17, pT_18, pT_19, pT_20, pT_21, pT_22, pT_23, pT_24, pT_25, pT_26, pT_27, pT_28, pT_N, pT_R, pT_U, pT_Q, pT_H, pT_V, pT_pT, o_iload, o_aload, o_ic, o_lc, o_istore, o_astore, o_iinc, o_bin, o_idiv, o_ineg, o_i2c, o_i2l, o_lcmp, o_if1, o_if2, o_dup, o_dup2, o_getf, o_puti, o_ald, o_iast, o_cast, o_lald, o_last, o_mmin, o_mabs, o_ret, o_vret, o_throw, o_lsw01, o_callS0, o_callS1, o_callS2, o_callS3, o_callS4, o_callS5, o_callV0, o_callV1, o_callV2, o_callV3, o_callV4, o_callV5, zcall_no, zok_nil, zok_ref, zok_int, zE, List.map_cons, List.map_nil, List.length_cons, List.length_nil, List.replicate_succ, List.replicate_zero, List.cons_append, List.nil_append, List.append_nil, List.getElem?_cons_zero, List.getElem?_cons_succ, List.set_cons_zero, List.set_cons_succ, Option.toList_some, Option.toList_none, vp_nar_int, znar_b, zb_0, ne_eq, Bool.not_eq_false, Classical.not_not, nI_1, sh1_def, true_and, and_true, Nat.reduceAdd, Nat.reduceSub, Nat.reduceLT, Nat.reduceLeDiff, Value.category, Nat.zero_add, Nat.add_zero]
    refine ⟨_, rfl, ?_⟩
    simp only [bX5_count_0, pT_0, pT_1, pT_2, pT_3, pT_4, pT_5, pT_6, pT_7, pT_8, pT_9, pT_10, pT_11, pT_12, pT_13, pT_14, pT_15, pT_16, pT_17, pT_18, pT_19, pT_20, pT_21, pT_22, pT_23, pT_24, pT_25, pT_26, pT_27, pT_28, pT_N, pT_R, pT_U, pT_Q, pT_H, pT_V, pT_pT, o_iload, o_aload, o_ic, o_lc, o_istore, o_astore, o_iinc, o_bin, o_idiv, o_ineg, o_i2c, o_i2l, o_lcmp, o_if1, o_if2, o_dup, o_dup2, o_getf, o_puti, o_ald, o_iast, o_cast, o_lald, o_last, o_mmin, o_mabs, o_ret, o_vret, o_throw, o_lsw01, o_callS0, o_callS1, o_callS2, o_callS3, o_callS4, o_callS5, o_callV0, o_callV1, o_callV2, o_callV3, o_callV4, o_callV5, zcall_no, zok_nil, zok_ref, zok_int, zE, List.map_cons, List.map_nil, List.length_cons, List.length_nil, List.replicate_succ, List.replicate_zero, List.cons_append, List.nil_append, List.append_nil, List.getElem?_cons_zero, List.getElem?_cons_succ, List.set_cons_zero, List.set_cons_succ, Option.toList_some, Option.toList_none, vp_nar_int, znar_b, zb_0, ne_eq, Bool.not_eq_false, Classical.not_not, nI_1, sh1_def, true_and, and_true, Nat.reduceAdd, Nat.reduceSub, Nat.reduceLT, Nat.reduceLeDiff, Value.category, Nat.zero_add, Nat.add_zero]
    exact hk)
set_option maxHeartbeats 1000000 in
set_option maxRecDepth 20000 in
theorem mX5_match (hlt : l.stackTraces = false) : Sem l z0 b N D cA yX5_match cX5_match 6 (some .int) 7 105 5 eX5_match tX5_match := uX5_match hlt (mX5_needSets hlt) (mX5_matching hlt) (mX5_memberAt hlt) (fun M a h Kn Kx hok hX hN => by
  obtain ⟨hs, p, x, y, z, rfl⟩ : zSh h ∧ ∃ p x y z, a = [.ref 0, .int p, .int x, .int y, .int z] := z_shape _ hN (fun k hk => ⟨hk.1, by obtain ⟨-, p, x, y, z, e, -⟩ := hk; exact ⟨p, x, y, z, e⟩⟩) (fun hk => ⟨hk.1, by obtain ⟨-, p, x, y, z, e, -⟩ := hk; exact ⟨p, x, y, z, e⟩⟩)
  have hs' := hs
  obtain ⟨σ, f, n, m, q, k0, s, d, rfl, hI⟩ := hs'
  have hI' := hI
  obtain ⟨hn, hn24, hd, hd8, hch, hlen, hR, hH, hq, hq40, hreq⟩ := hI
  have em : tn (sThings σ) = m := by rw [show sThings σ = nI m from hH.1]; exact nI_clamp (by have := hH.2.1; omega)
  have en : tn (sTags σ) = n := by rw [show sTags σ = nI n from hn]; exact nI_clamp (by omega)
  have hm20 := hH.2.1
  have hX2 : ∀ k, ((p < 0 ∧ k = 2) ∨ (¬ p < 0 ∧ fTs3 (sTags σ) x y z = false ∧ k = 0) ∨ (¬ p < 0 ∧ fTs3 (sTags σ) x y z = true ∧ fMem (fMt σ x y z) p 20 0 0 = -1 ∧ k = 2)) → M = 1 ∧ Kx k := fun k hc => hX k ⟨hs, p, x, y, z, rfl, by rw [gT_pT]; exact hc⟩
  have hN2 : (∀ k, ¬ ((p < 0 ∧ k = 2) ∨ (¬ p < 0 ∧ fTs3 (sTags σ) x y z = false ∧ k = 0) ∨ (¬ p < 0 ∧ fTs3 (sTags σ) x y z = true ∧ fMem (fMt σ x y z) p 20 0 0 = -1 ∧ k = 2))) → Kn (some (.int (fMem (fMt σ x y z) p 20 0 0))) (pT σ f) := fun hne => by
    obtain ⟨-, _, _, _, _, e, hk⟩ := hN (fun k hk => by
      obtain ⟨-, _, _, _, _, e, h9⟩ := hk
      cases e
      rw [gT_pT] at h9
      exact hne k h9)
    cases e
    simp only [gT_pT, pT_pT] at hk
    exact hk
  simp only [bX5_match_0, pT_0, pT_1, pT_2, pT_3, pT_4, pT_5, pT_6, pT_7, pT_8, pT_9, pT_10, pT_11, pT_12, pT_13, pT_14, pT_15, pT_16, pT_17, pT_18, pT_19, pT_20, pT_21, pT_22, pT_23, pT_24, pT_25, pT_26, pT_27, pT_28, pT_N, pT_R, pT_U, pT_Q, pT_H, pT_V, pT_pT, o_iload, o_aload, o_ic, o_lc, o_istore, o_astore, o_iinc, o_bin, o_idiv, o_ineg, o_i2c, o_i2l, o_lcmp, o_if1, o_if2, o_dup, o_dup2, o_getf, o_puti, o_ald, o_iast, o_cast, o_lald, o_last, o_mmin, o_mabs, o_ret, o_vret, o_throw, o_lsw01, o_callS0, o_callS1, o_callS2, o_callS3, o_callS4, o_callS5, o_callV0, o_callV1, o_callV2, o_callV3, o_callV4, o_callV5, zcall_no, zok_nil, zok_ref, zok_int, zE, List.map_cons, List.map_nil, List.length_cons, List.length_nil, List.replicate_succ, List.replicate_zero, List.cons_append, List.nil_append, List.append_nil, List.getElem?_cons_zero, List.getElem?_cons_succ, List.set_cons_zero, List.set_cons_succ, Option.toList_some, Option.toList_none, vp_nar_int, znar_b, zb_0, ne_eq, Bool.not_eq_false, Classical.not_not, nI_1, sh1_def, true_and, and_true, Nat.reduceAdd, Nat.reduceSub, Nat.reduceLT, Nat.reduceLeDiff, Value.category, Nat.zero_add, Nat.add_zero]
  refine ⟨fun h0 => ?_, fun h0 => ?_⟩
  rotate_left
  · obtain ⟨h1, h2⟩ := hX2 2 (Or.inl ⟨Int32.not_le.mp h0, rfl⟩)
    exact ⟨h1, h2⟩
  · have h0' : ¬ p < 0 := Int32.not_lt.mpr h0
    refine z_needSets hs (by decide) (fun hc => ?_) (fun hc => ?_)
    · obtain ⟨h1, h2⟩ := hX2 0 (Or.inr (Or.inl ⟨h0', hc, rfl⟩))
      exact ⟨h1, h2, rfl⟩
    · simp only [bX5_match_0, pT_0, pT_1, pT_2, pT_3, pT_4, pT_5, pT_6, pT_7, pT_8, pT_9, pT_10, pT_11, pT_12, pT_13, pT_14, pT_15, pT_16, pT_17, pT_18, pT_19, pT_20, pT_21, pT_22, pT_23, pT_24, pT_25, pT_26, pT_27, pT_28, pT_N, pT_R, pT_U, pT_Q, pT_H, pT_V, pT_pT, o_iload, o_aload, o_ic, o_lc, o_istore, o_astore, o_iinc, o_bin, o_idiv, o_ineg, o_i2c, o_i2l, o_lcmp, o_if1, o_if2, o_dup, o_dup2, o_getf, o_puti, o_ald, o_iast, o_cast, o_lald, o_last, o_mmin, o_mabs, o_ret, o_vret, o_throw, o_lsw01, o_callS0, o_callS1, o_callS2, o_callS3, o_callS4, o_callS5, o_callV0, o_callV1, o_callV2, o_callV3, o_callV4, o_callV5, zcall_no, zok_nil, zok_ref, zok_int, zE, List.map_cons, List.map_nil, List.length_cons, List.length_nil, List.replicate_succ, List.replicate_zero, List.cons_append, List.nil_append, List.append_nil, List.getElem?_cons_zero, List.getElem?_cons_succ, List.set_cons_zero, List.set_cons_succ, Option.toList_some, Option.toList_none, vp_nar_int, znar_b, zb_0, ne_eq, Bool.not_eq_false, Classical.not_not, nI_1, sh1_def, true_and, and_true, Nat.reduceAdd, Nat.reduceSub, Nat.reduceLT, Nat.reduceLeDiff, Value.category, Nat.zero_add, Nat.add_zero]
      refine ⟨σ, f, n, m, q, k0, s, d, x, y, z, rfl, rfl, hI', ?_⟩
      simp only [bX5_match_0, pT_0, pT_1, pT_2, pT_3, pT_4, pT_5, pT_6, pT_7, pT_8, pT_9, pT_10, pT_11, pT_12, pT_13, pT_14, pT_15, pT_16, pT_17, pT_18, pT_19, pT_20, pT_21, pT_22, pT_23, pT_24, pT_25, pT_26, pT_27, pT_28, pT_N, pT_R, pT_U, pT_Q, pT_H, pT_V, pT_pT, o_iload, o_aload, o_ic, o_lc, o_istore, o_astore, o_iinc, o_bin, o_idiv, o_ineg, o_i2c, o_i2l, o_lcmp, o_if1, o_if2, o_dup, o_dup2, o_getf, o_puti, o_ald, o_iast, o_cast, o_lald, o_last, o_mmin, o_mabs, o_ret, o_vret, o_throw, o_lsw01, o_callS0, o_callS1, o_callS2, o_callS3, o_callS4, o_callS5, o_callV0, o_callV1, o_callV2, o_callV3, o_callV4, o_callV5, zcall_no, zok_nil, zok_ref, zok_int, zE, List.map_cons, List.map_nil, List.length_cons, List.length_nil, List.replicate_succ, List.replicate_zero, List.cons_append, List.nil_append, List.append_nil, List.getElem?_cons_zero, List.getElem?_cons_succ, List.set_cons_zero, List.set_cons_succ, Option.toList_some, Option.toList_none, vp_nar_int, znar_b, zb_0, ne_eq, Bool.not_eq_false, Classical.not_not, nI_1, sh1_def, true_and, and_true, Nat.reduceAdd, Nat.reduceSub, Nat.reduceLT, Nat.reduceLeDiff, Value.category, Nat.zero_add, Nat.add_zero]
      refine ⟨_, p, rfl, ?_⟩
      simp only [bX5_match_0, pT_0, pT_1, pT_2, pT_3, pT_4, pT_5, pT_6, pT_7, pT_8, pT_9, pT_10, pT_11, pT_12, pT_13, pT_14, pT_15, pT_16, pT_17, pT_18, pT_19, pT_20, pT_21, pT_22, pT_23, pT_24, pT_25, pT_26, pT_27, pT_28, pT_N, pT_R, pT_U, pT_Q, pT_H, pT_V, pT_pT, o_iload, o_aload, o_ic, o_lc, o_istore, o_astore, o_iinc, o_bin, o_idiv, o_ineg, o_i2c, o_i2l, o_lcmp, o_if1, o_if2, o_dup, o_dup2, o_getf, o_puti, o_ald, o_iast, o_cast, o_lald, o_last, o_mmin, o_mabs, o_ret, o_vret, o_throw, o_lsw01, o_callS0, o_callS1, o_callS2, o_callS3, o_callS4, o_callS5, o_callV0, o_callV1, o_callV2, o_callV3, o_callV4, o_callV5, zcall_no, zok_nil, zok_ref, zok_int, zE, List.map_cons, List.map_nil, List.length_cons, List.length_nil, List.replicate_succ, List.replicate_zero, List.cons_append, List.nil_append, List.append_nil, List.getElem?_cons_zero, List.getElem?_cons_succ, List.set_cons_zero, List.set_cons_succ, Option.toList_some, Option.toList_none, vp_nar_int, znar_b, zb_0, ne_eq, Bool.not_eq_false, Classical.not_not, nI_1, sh1_def, true_and, and_true, Nat.reduceAdd, Nat.reduceSub, Nat.reduceLT, Nat.reduceLeDiff, Value.category, Nat.zero_add, Nat.add_zero]
      refine ⟨fun h1 => ?_, fun h1 => ?_⟩
      · have hk := hN2 (fun k h9 => by
          rcases h9 with h | h | h
          · exact h0' h.1
          · rw [hc] at h; cases h.2.1
          · exact h1 h.2.2.1)
        exact hk
      · obtain ⟨h3, h4⟩ := hX2 2 (Or.inr (Or.inr ⟨h0', hc, h1, rfl⟩))
        exact ⟨h3, h4⟩)
set_option maxHeartbeats 1000000 in
set_option maxRecDepth 20000 in
theorem mX5_ask (hlt : l.stackTraces = false) : Sem l z0 b N D cA yX5_ask cX5_ask 4 (some .int) 7 103 4 eX5_ask tX5_ask := uX5_ask hlt (mX5_needTag hlt) (mX2_add hlt) (fun M a h Kn Kx hok hX hN => by
  obtain ⟨hs, k1, x, y, rfl⟩ : zSh h ∧ ∃ k1 x y, a = [.ref 0, .int k1, .int x, .int y] := z_shape _ hN (fun k hk => ⟨hk.1, by obtain ⟨-, k1, x, y, e, -⟩ := hk; exact ⟨k1, x, y, e⟩⟩) (fun hk => ⟨hk.1, by obtain ⟨-, k1, x, y, e, -⟩ := hk; exact ⟨k1, x, y, e⟩⟩)
  have hs' := hs
  obtain ⟨σ, f, n, m, q, k0, s, d, rfl, hI⟩ := hs'
  have hI' := hI
  obtain ⟨hn, hn24, hd, hd8, hch, hlen, hR, hH, hq, hq40, hreq⟩ := hI
  have em : tn (sThings σ) = m := by rw [show sThings σ = nI m from hH.1]; exact nI_clamp (by have := hH.2.1; omega)
  have en : tn (sTags σ) = n := by rw [show sTags σ = nI n from hn]; exact nI_clamp (by omega)
  have hm20 := hH.2.1
  have hX2 : ∀ k, (((¬ okI x (sTags σ) ∨ ¬ okI y (sTags σ)) ∧ k = 2) ∨ (okI x (sTags σ) ∧ okI y (sTags σ) ∧ (¬ okI k1 4 ∨ x = y) ∧ k = 0) ∨ (okI x (sTags σ) ∧ okI y (sTags σ) ∧ okI k1 4 ∧ ¬ x = y ∧ 40 ≤ sReqs σ ∧ k = 1)) → M = 1 ∧ Kx k := fun k hc => hX k ⟨hs, k1, x, y, rfl, by rw [gT_pT]; exact hc⟩
  have hN2 : (∀ k, ¬ (((¬ okI x (sTags σ) ∨ ¬ okI y (sTags σ)) ∧ k = 2) ∨ (okI x (sTags σ) ∧ okI y (sTags σ) ∧ (¬ okI k1 4 ∨ x = y) ∧ k = 0) ∨ (okI x (sTags σ) ∧ okI y (sTags σ) ∧ okI k1 4 ∧ ¬ x = y ∧ 40 ≤ sReqs σ ∧ k = 1))) → Kn (some (.int (sReqs σ))) (pT (fAsk σ k1 x y) f) := fun hne => by
    obtain ⟨-, _, _, _, e, hk⟩ := hN (fun k hk => by
      obtain ⟨-, _, _, _, e, h9⟩ := hk
      cases e
      rw [gT_pT] at h9
      exact hne k h9)
    cases e
    simp only [gT_pT, pT_pT] at hk
    exact hk
  have eq : tn (sReqs σ) = q := by rw [show sReqs σ = nI q from hq]; exact nI_clamp (by omega)
  simp only [bX5_ask_19, bX5_ask_0, pT_0, pT_1, pT_2, pT_3, pT_4, pT_5, pT_6, pT_7, pT_8, pT_9, pT_10, pT_11, pT_12, pT_13, pT_14, pT_15, pT_16, pT_17, pT_18, pT_19, pT_20, pT_21, pT_22, pT_23, pT_24, pT_25, pT_26, pT_27, pT_28, pT_N, pT_R, pT_U, pT_Q, pT_H, pT_V, pT_pT, o_iload, o_aload, o_ic, o_lc, o_istore, o_astore, o_iinc, o_bin, o_idiv, o_ineg, o_i2c, o_i2l, o_lcmp, o_if1, o_if2, o_dup, o_dup2, o_getf, o_puti, o_ald, o_iast, o_cast, o_lald, o_last, o_mmin, o_mabs, o_ret, o_vret, o_throw, o_lsw01, o_callS0, o_callS1, o_callS2, o_callS3, o_callS4, o_callS5, o_callV0, o_callV1, o_callV2, o_callV3, o_callV4, o_callV5, zcall_no, zok_nil, zok_ref, zok_int, zE, List.map_cons, List.map_nil, List.length_cons, List.length_nil, List.replicate_succ, List.replicate_zero, List.cons_append, List.nil_append, List.append_nil, List.getElem?_cons_zero, List.getElem?_cons_succ, List.set_cons_zero, List.set_cons_succ, Option.toList_some, Option.toList_none, vp_nar_int, znar_b, zb_0, ne_eq, Bool.not_eq_false, Classical.not_not, nI_1, sh1_def, true_and, and_true, Nat.reduceAdd, Nat.reduceSub, Nat.reduceLT, Nat.reduceLeDiff, Value.category, Nat.zero_add, Nat.add_zero]
  refine z_needTag hs (by decide) (fun hc => ?_) (fun hc => ?_)
  · obtain ⟨h1, h2⟩ := hX2 2 (Or.inl ⟨Or.inl hc, rfl⟩)
    exact ⟨h1, h2, rfl⟩
  · simp only [bX5_ask_19, bX5_ask_0, pT_0, pT_1, pT_2, pT_3, pT_4, pT_5, pT_6, pT_7, pT_8, pT_9, pT_10, pT_11, pT_12, pT_13, pT_14, pT_15, pT_16, pT_17, pT_18, pT_19, pT_20, pT_21, pT_22, pT_23, pT_24, pT_25, pT_26, pT_27, pT_28, pT_N, pT_R, pT_U, pT_Q, pT_H, pT_V, pT_pT, o_iload, o_aload, o_ic, o_lc, o_istore, o_astore, o_iinc, o_bin, o_idiv, o_ineg, o_i2c, o_i2l, o_lcmp, o_if1, o_if2, o_dup, o_dup2, o_getf, o_puti, o_ald, o_iast, o_cast, o_lald, o_last, o_mmin, o_mabs, o_ret, o_vret, o_throw, o_lsw01, o_callS0, o_callS1, o_callS2, o_callS3, o_callS4, o_callS5, o_callV0, o_callV1, o_callV2, o_callV3, o_callV4, o_callV5, zcall_no, zok_nil, zok_ref, zok_int, zE, List.map_cons, List.map_nil, List.length_cons, List.length_nil, List.replicate_succ, List.replicate_zero, List.cons_append, List.nil_append, List.append_nil, List.getElem?_cons_zero, List.getElem?_cons_succ, List.set_cons_zero, List.set_cons_succ, Option.toList_some, Option.toList_none, vp_nar_int, znar_b, zb_0, ne_eq, Bool.not_eq_false, Classical.not_not, nI_1, sh1_def, true_and, and_true, Nat.reduceAdd, Nat.reduceSub, Nat.reduceLT, Nat.reduceLeDiff, Value.category, Nat.zero_add, Nat.add_zero]
    refine z_needTag hs (by decide) (fun hc2 => ?_) (fun hc2 => ?_)
    · obtain ⟨h1, h2⟩ := hX2 2 (Or.inl ⟨Or.inr hc2, rfl⟩)
      exact ⟨h1, h2, rfl⟩
    · simp only [bX5_ask_19, bX5_ask_0, pT_0, pT_1, pT_2, pT_3, pT_4, pT_5, pT_6, pT_7, pT_8, pT_9, pT_10, pT_11, pT_12, pT_13, pT_14, pT_15, pT_16, pT_17, pT_18, pT_19, pT_20, pT_21, pT_22, pT_23, pT_24, pT_25, pT_26, pT_27, pT_28, pT_N, pT_R, pT_U, pT_Q, pT_H, pT_V, pT_pT, o_iload, o_aload, o_ic, o_lc, o_istore, o_astore, o_iinc, o_bin, o_idiv, o_ineg, o_i2c, o_i2l, o_lcmp, o_if1, o_if2, o_dup, o_dup2, o_getf, o_puti, o_ald, o_iast, o_cast, o_lald, o_last, o_mmin, o_mabs, o_ret, o_vret, o_throw, o_lsw01, o_callS0, o_callS1, o_callS2, o_callS3, o_callS4, o_callS5, o_callV0, o_callV1, o_callV2, o_callV3, o_callV4, o_callV5, zcall_no, zok_nil, zok_ref, zok_int, zE, List.map_cons, List.map_nil, List.length_cons, List.length_nil, List.replicate_succ, List.replicate_zero, List.cons_append, List.nil_append, List.append_nil, List.getElem?_cons_zero, List.getElem?_cons_succ, List.set_cons_zero, List.set_cons_succ, Option.toList_some, Option.toList_none, vp_nar_int, znar_b, zb_0, ne_eq, Bool.not_eq_false, Classical.not_not, nI_1, sh1_def, true_and, and_true, Nat.reduceAdd, Nat.reduceSub, Nat.reduceLT, Nat.reduceLeDiff, Value.category, Nat.zero_add, Nat.add_zero]
      have bad0 : (¬ okI k1 4 ∨ x = y) → M = 1 ∧ Kx 0 := fun h => hX2 0 (Or.inr (Or.inl ⟨hc, hc2, h, rfl⟩))
      refine ⟨fun h1 => ?_, fun h1 => ⟨fun h2 => ⟨fun h3 => ⟨fun h4 => ?_, fun h4 => ?_⟩, fun h3 => ?_⟩, fun h2 => ?_⟩⟩
      · exact bad0 (Or.inl (fun q => absurd q.1 (Int32.not_le.mpr h1)))
      · have hk := hN2 (fun k h9 => by
          rcases h9 with h | h | h
          · exact h.1.elim (fun h => h hc) (fun h => h hc2)
          · exact h.2.2.1.elim (fun h => h (nokI2 h1 h2)) (fun h => h3 h)
          · exact absurd h.2.2.2.2.1 (Int32.not_le.mpr h4))
        have hq4 : q < 40 := by
          rw [show σ.2.2.2.1.2.2.2.2.2.2 = nI q from hq, show (40 : Int32) = nI 40 from rfl] at h4
          exact (nI_ltI (by omega) (by omega)).mp h4
        refine ⟨σ.2.2.2.1, pT σ f, q, k1, x, y, rfl, pT_Qs.symm, hq, hq4, ?_⟩
        simp only [bX5_ask_19, bX5_ask_0, pT_0, pT_1, pT_2, pT_3, pT_4, pT_5, pT_6, pT_7, pT_8, pT_9, pT_10, pT_11, pT_12, pT_13, pT_14, pT_15, pT_16, pT_17, pT_18, pT_19, pT_20, pT_21, pT_22, pT_23, pT_24, pT_25, pT_26, pT_27, pT_28, pT_N, pT_R, pT_U, pT_Q, pT_H, pT_V, pT_pT, o_iload, o_aload, o_ic, o_lc, o_istore, o_astore, o_iinc, o_bin, o_idiv, o_ineg, o_i2c, o_i2l, o_lcmp, o_if1, o_if2, o_dup, o_dup2, o_getf, o_puti, o_ald, o_iast, o_cast, o_lald, o_last, o_mmin, o_mabs, o_ret, o_vret, o_throw, o_lsw01, o_callS0, o_callS1, o_callS2, o_callS3, o_callS4, o_callS5, o_callV0, o_callV1, o_callV2, o_callV3, o_callV4, o_callV5, zcall_no, zok_nil, zok_ref, zok_int, zE, List.map_cons, List.map_nil, List.length_cons, List.length_nil, List.replicate_succ, List.replicate_zero, List.cons_append, List.nil_append, List.append_nil, List.getElem?_cons_zero, List.getElem?_cons_succ, List.set_cons_zero, List.set_cons_succ, Option.toList_some, Option.toList_none, vp_nar_int, znar_b, zb_0, ne_eq, Bool.not_eq_false, Classical.not_not, nI_1, sh1_def, true_and, and_true, Nat.reduceAdd, Nat.reduceSub, Nat.reduceLT, Nat.reduceLeDiff, Value.category, Nat.zero_add, Nat.add_zero]
        unfold fAsk at hk
        rw [eq, show sReqs σ = nI q from hq] at hk
        exact hk
      · exact hX2 1 (Or.inr (Or.inr ⟨hc, hc2, nokI2 h1 h2, h3, Int32.not_lt.mp h4, rfl⟩))
      · exact bad0 (Or.inr h3)
      · exact bad0 (Or.inl (fun q => h2 (by have := q.2; exact Int32.not_lt.mp (fun h9 => absurd (Int32.le_trans (le4 h9) (Int32.le_refl _)) (Int32.not_le.mpr this))))))
theorem zb_inj {x y : Bool} (h : zb x = zb y) : x = y := by cases x <;> cases y <;> first | rfl | (exact absurd h (by decide))
set_option maxHeartbeats 1000000 in
set_option maxRecDepth 20000 in
theorem mX5_vote (hlt : l.stackTraces = false) : Sem l z0 b N D cA yX5_vote cX5_vote 4 (some .int) 7 135 4 eX5_vote tX5_vote := uX5_vote hlt (mX5_needRequest hlt) (mX2_setVote hlt) (mX2_leadOf hlt) (mX5_decide hlt) (fun M a h Kn Kx hok hX hN => by
  obtain ⟨hs, x, y, z, rfl⟩ : zSh h ∧ ∃ (x y : Int32) (z : Bool), a = [.ref 0, .int x, .int y, .int (zb z)] := z_shape _ hN (fun k hk => ⟨hk.1, by obtain ⟨-, x, y, z, e, -⟩ := hk; exact ⟨x, y, z, e⟩⟩) (fun hk => ⟨hk.1, by obtain ⟨-, x, y, z, e, -⟩ := hk; exact ⟨x, y, z, e⟩⟩)
  have hs' := hs
  obtain ⟨σ, f, n, m, q, k0, s, d, rfl, hI⟩ := hs'
  have hI' := hI
  obtain ⟨hn, hn24, hd, hd8, hch, hlen, hR, hH, hq, hq40, hreq⟩ := hI
  have em : tn (sThings σ) = m := by rw [show sThings σ = nI m from hH.1]; exact nI_clamp (by have := hH.2.1; omega)
  have en : tn (sTags σ) = n := by rw [show sTags σ = nI n from hn]; exact nI_clamp (by omega)
  have hm20 := hH.2.1
  have hX2 : ∀ k, ((¬ okI x (sReqs σ) ∧ k = 2) ∨ (okI x (sReqs σ) ∧ ¬ okI y 10 ∧ k = 0) ∨ (okI x (sReqs σ) ∧ okI y 10 ∧ ¬ qS σ.2.2.2.1 (tn x) = 0 ∧ k = 1)) → M = 1 ∧ Kx k := fun k hc => hX k ⟨hs, x, y, z, rfl, by rw [gT_pT]; exact hc⟩
  have hN2 : (∀ k, ¬ ((¬ okI x (sReqs σ) ∧ k = 2) ∨ (okI x (sReqs σ) ∧ ¬ okI y 10 ∧ k = 0) ∨ (okI x (sReqs σ) ∧ okI y 10 ∧ ¬ qS σ.2.2.2.1 (tn x) = 0 ∧ k = 1))) → Kn (some (.int (qS (fVot σ (tn x) (tn y) z).2.2.2.1 (tn x)))) (pT (fVot σ (tn x) (tn y) z) f) := fun hne => by
    obtain ⟨-, x9, y9, z9, e, hk⟩ := hN (fun k hk => by
      obtain ⟨-, x9, y9, z9, e, h9⟩ := hk
      simp only [List.cons.injEq, Value.int.injEq, true_and, and_true] at e
      obtain ⟨rfl, rfl, -⟩ := e
      rw [gT_pT] at h9
      exact hne k h9)
    simp only [List.cons.injEq, Value.int.injEq, true_and, and_true] at e
    obtain ⟨rfl, rfl, e3⟩ := e
    have e4 := zb_inj e3
    subst e4
    simp only [gT_pT, pT_pT] at hk
    exact hk
  simp only [bX5_vote_15, bX5_vote_0, pT_0, pT_1, pT_2, pT_3, pT_4, pT_5, pT_6, pT_7, pT_8, pT_9, pT_10, pT_11, pT_12, pT_13, pT_14, pT_15, pT_16, pT_17, pT_18, pT_19, pT_20, pT_21, pT_22, pT_23, pT_24, pT_25, pT_26, pT_27, pT_28, pT_N, pT_R, pT_U, pT_Q, pT_H, pT_V, pT_pT, o_iload, o_aload, o_ic, o_lc, o_istore, o_astore, o_iinc, o_bin, o_idiv, o_ineg, o_i2c, o_i2l, o_lcmp, o_if1, o_if2, o_dup, o_dup2, o_getf, o_puti, o_ald, o_iast, o_cast, o_lald, o_last, o_mmin, o_mabs, o_ret, o_vret, o_throw, o_lsw01, o_callS0, o_callS1, o_callS2, o_callS3, o_callS4, o_callS5, o_callV0, o_callV1, o_callV2, o_callV3, o_callV4, o_callV5, zcall_no, zok_nil, zok_ref, zok_int, zE, List.map_cons, List.map_nil, List.length_cons, List.length_nil, List.replicate_succ, List.replicate_zero, List.cons_append, List.nil_append, List.append_nil, List.getElem?_cons_zero, List.getElem?_cons_succ, List.set_cons_zero, List.set_cons_succ, Option.toList_some, Option.toList_none, vp_nar_int, znar_b, zb_0, ne_eq, Bool.not_eq_false, Classical.not_not, nI_1, sh1_def, true_and, and_true, Nat.reduceAdd, Nat.reduceSub, Nat.reduceLT, Nat.reduceLeDiff, Value.category, Nat.zero_add, Nat.add_zero]
  refine z_needRequest hs (by decide) (fun hc => ?_) (fun hc => ?_)
  · obtain ⟨h1, h2⟩ := hX2 2 (Or.inl ⟨hc, rfl⟩)
    exact ⟨h1, h2, rfl⟩
  · have hc' := hc
    rw [show sReqs σ = nI q from hq] at hc
    obtain ⟨i, hi, rfl⟩ := (okI_n (by omega)).mp hc
    have hci := nI_clamp (show i < 2 ^ 31 by omega)
    simp only [bX5_vote_15, bX5_vote_0, pT_0, pT_1, pT_2, pT_3, pT_4, pT_5, pT_6, pT_7, pT_8, pT_9, pT_10, pT_11, pT_12, pT_13, pT_14, pT_15, pT_16, pT_17, pT_18, pT_19, pT_20, pT_21, pT_22, pT_23, pT_24, pT_25, pT_26, pT_27, pT_28, pT_N, pT_R, pT_U, pT_Q, pT_H, pT_V, pT_pT, hci, o_iload, o_aload, o_ic, o_lc, o_istore, o_astore, o_iinc, o_bin, o_idiv, o_ineg, o_i2c, o_i2l, o_lcmp, o_if1, o_if2, o_dup, o_dup2, o_getf, o_puti, o_ald, o_iast, o_cast, o_lald, o_last, o_mmin, o_mabs, o_ret, o_vret, o_throw, o_lsw01, o_callS0, o_callS1, o_callS2, o_callS3, o_callS4, o_callS5, o_callV0, o_callV1, o_callV2, o_callV3, o_callV4, o_callV5, zcall_no, zok_nil, zok_ref, zok_int, zE, List.map_cons, List.map_nil, List.length_cons, List.length_nil, List.replicate_succ, List.replicate_zero, List.cons_append, List.nil_append, List.append_nil, List.getElem?_cons_zero, List.getElem?_cons_succ, List.set_cons_zero, List.set_cons_succ, Option.toList_some, Option.toList_none, vp_nar_int, znar_b, zb_0, ne_eq, Bool.not_eq_false, Classical.not_not, nI_1, sh1_def, true_and, and_true, Nat.reduceAdd, Nat.reduceSub, Nat.reduceLT, Nat.reduceLeDiff, Value.category, Nat.zero_add, Nat.add_zero]
    have bad0 : ¬ okI y 10 → M = 1 ∧ Kx 0 := fun h => hX2 0 (Or.inr (Or.inl ⟨hc', h, rfl⟩))
    refine ⟨fun h1 => ?_, fun h1 => ⟨fun h2 => ?_, fun h2 => ?_⟩⟩
    · exact bad0 (fun q => absurd q.1 (Int32.not_le.mpr h1))
    · have hy : okI y 10 := ⟨Int32.not_lt.mp h1, h2⟩
      have hy' := hy
      rw [show (10 : Int32) = nI 10 from rfl] at hy
      obtain ⟨j, hj, rfl⟩ := (okI_n (by omega)).mp hy
      have hcj := nI_clamp (show j < 2 ^ 31 by omega)
      refine ⟨vpin (by omega) (by omega), fun h3 => ?_, fun h3 => ?_⟩
      · have hk := hN2 (fun k h9 => by
          rcases h9 with h | h | h
          · exact h.1 hc'
          · exact h.2.1 hy'
          · exact h.2.2.1 (by rw [show tn (nI i) = i from hci]; exact h3))
        rw [show tn (nI i) = i from hci, show tn (nI j) = j from hcj] at hk
        refine ⟨σ.2.2.2.1, pT σ f, i, j, z, rfl, pT_Qs.symm, by omega, hj, ?_⟩
        simp only [bX5_vote_15, bX5_vote_0, pT_0, pT_1, pT_2, pT_3, pT_4, pT_5, pT_6, pT_7, pT_8, pT_9, pT_10, pT_11, pT_12, pT_13, pT_14, pT_15, pT_16, pT_17, pT_18, pT_19, pT_20, pT_21, pT_22, pT_23, pT_24, pT_25, pT_26, pT_27, pT_28, pT_N, pT_R, pT_U, pT_Q, pT_H, pT_V, pT_pT, o_iload, o_aload, o_ic, o_lc, o_istore, o_astore, o_iinc, o_bin, o_idiv, o_ineg, o_i2c, o_i2l, o_lcmp, o_if1, o_if2, o_dup, o_dup2, o_getf, o_puti, o_ald, o_iast, o_cast, o_lald, o_last, o_mmin, o_mabs, o_ret, o_vret, o_throw, o_lsw01, o_callS0, o_callS1, o_callS2, o_callS3, o_callS4, o_callS5, o_callV0, o_callV1, o_callV2, o_callV3, o_callV4, o_callV5, zcall_no, zok_nil, zok_ref, zok_int, zE, List.map_cons, List.map_nil, List.length_cons, List.length_nil, List.replicate_succ, List.replicate_zero, List.cons_append, List.nil_append, List.append_nil, List.getElem?_cons_zero, List.getElem?_cons_succ, List.set_cons_zero, List.set_cons_succ, Option.toList_some, Option.toList_none, vp_nar_int, znar_b, zb_0, ne_eq, Bool.not_eq_false, Classical.not_not, nI_1, sh1_def, true_and, and_true, Nat.reduceAdd, Nat.reduceSub, Nat.reduceLT, Nat.reduceLeDiff, Value.category, Nat.zero_add, Nat.add_zero]
        refine ⟨_, _, i, rfl, pT_Qs.symm, by omega, ?_⟩
        simp only [bX5_vote_15, bX5_vote_0, pT_0, pT_1, pT_2, pT_3, pT_4, pT_5, pT_6, pT_7, pT_8, pT_9, pT_10, pT_11, pT_12, pT_13, pT_14, pT_15, pT_16, pT_17, pT_18, pT_19, pT_20, pT_21, pT_22, pT_23, pT_24, pT_25, pT_26, pT_27, pT_28, pT_N, pT_R, pT_U, pT_Q, pT_H, pT_V, pT_pT, o_iload, o_aload, o_ic, o_lc, o_istore, o_astore, o_iinc, o_bin, o_idiv, o_ineg, o_i2c, o_i2l, o_lcmp, o_if1, o_if2, o_dup, o_dup2, o_getf, o_puti, o_ald, o_iast, o_cast, o_lald, o_last, o_mmin, o_mabs, o_ret, o_vret, o_throw, o_lsw01, o_callS0, o_callS1, o_callS2, o_callS3, o_callS4, o_callS5, o_callV0, o_callV1, o_callV2, o_callV3, o_callV4, o_callV5, zcall_no, zok_nil, zok_ref, zok_int, zE, List.map_cons, List.map_nil, List.length_cons, List.length_nil, List.replicate_succ, List.replicate_zero, List.cons_append, List.nil_append, List.append_nil, List.getElem?_cons_zero, List.getElem?_cons_succ, List.set_cons_zero, List.set_cons_succ, Option.toList_some, Option.toList_none, vp_nar_int, znar_b, zb_0, ne_eq, Bool.not_eq_false, Classical.not_not, nI_1, sh1_def, true_and, and_true, Nat.reduceAdd, Nat.reduceSub, Nat.reduceLT, Nat.reduceLeDiff, Value.category, Nat.zero_add, Nat.add_zero]
        refine ⟨fSetV σ i j z, f, n, m, q, k0, s, d, i, fLead (fSetV σ i j z) i, rfl, rfl, hI', hi, ?_⟩
        simp only [bX5_vote_15, bX5_vote_0, pT_0, pT_1, pT_2, pT_3, pT_4, pT_5, pT_6, pT_7, pT_8, pT_9, pT_10, pT_11, pT_12, pT_13, pT_14, pT_15, pT_16, pT_17, pT_18, pT_19, pT_20, pT_21, pT_22, pT_23, pT_24, pT_25, pT_26, pT_27, pT_28, pT_N, pT_R, pT_U, pT_Q, pT_H, pT_V, pT_pT, hci, o_iload, o_aload, o_ic, o_lc, o_istore, o_astore, o_iinc, o_bin, o_idiv, o_ineg, o_i2c, o_i2l, o_lcmp, o_if1, o_if2, o_dup, o_dup2, o_getf, o_puti, o_ald, o_iast, o_cast, o_lald, o_last, o_mmin, o_mabs, o_ret, o_vret, o_throw, o_lsw01, o_callS0, o_callS1, o_callS2, o_callS3, o_callS4, o_callS5, o_callV0, o_callV1, o_callV2, o_callV3, o_callV4, o_callV5, zcall_no, zok_nil, zok_ref, zok_int, zE, List.map_cons, List.map_nil, List.length_cons, List.length_nil, List.replicate_succ, List.replicate_zero, List.cons_append, List.nil_append, List.append_nil, List.getElem?_cons_zero, List.getElem?_cons_succ, List.set_cons_zero, List.set_cons_succ, Option.toList_some, Option.toList_none, vp_nar_int, znar_b, zb_0, ne_eq, Bool.not_eq_false, Classical.not_not, nI_1, sh1_def, true_and, and_true, Nat.reduceAdd, Nat.reduceSub, Nat.reduceLT, Nat.reduceLeDiff, Value.category, Nat.zero_add, Nat.add_zero]
        exact ⟨vpin (by omega) (by omega), hk⟩
      · exact hX2 1 (Or.inr (Or.inr ⟨hc', hy', by rw [show tn (nI i) = i from hci]; exact h3, rfl⟩))
    · exact bad0 (fun q => h2 q.2))
end T4
