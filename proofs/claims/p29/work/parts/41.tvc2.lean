section T2
variable {l : Launch} {z0 b N : Nat} {D : va_G} {cA : Nat → ClassId}
theorem fBc_le0 {x : Int32} : (fBc x ≤ 0) ↔ x = 0 := by
  have h := fBc_pos (x := x)
  constructor
  · intro h1
    by_cases q : x = 0
    · exact q
    · exact absurd h1 (Int32.not_le.mpr (h.mpr q))
  · intro h1
    exact Int32.not_lt.mp (fun q => h.mp q h1)
set_option maxHeartbeats 1000000 in
set_option maxRecDepth 20000 in
theorem mX5_finishEdit (hlt : l.stackTraces = false) : Sem l z0 b N D cA yX5_finishEdit cX5_finishEdit 2 (some .int) 3 72 1 zno tX5_finishEdit := uX5_finishEdit hlt (mX0_finishEdit hlt) (mX3_refresh hlt) (fun M a h Kn Kx hok hN => by
  obtain ⟨σ, f, n, m, q, k, s, d, rfl, rfl, ⟨hn, hn24, hd, hd8, hch, hlen, hR, hH, hq, hq40, hreq⟩, hk⟩ := hN
  have em : tn (sThings σ) = m := by rw [show sThings σ = nI m from hH.1]; exact nI_clamp (by have := hH.2.1; omega)
  have en : tn (sTags σ) = n := by rw [show sTags σ = nI n from hn]; exact nI_clamp (by omega)
  have ek : tn (sK σ).2.2.2.2.2.1 = k := by rw [show (sK σ).2.2.2.2.2.1 = nI k from hH.2.2.1]; exact nI_clamp (by have := hH.2.2.2.1; omega)
  have es : tn (sK σ).2.2.2.2.2.2 = s := by rw [show (sK σ).2.2.2.2.2.2 = nI s from hH.2.2.2.2.1]; exact nI_clamp (by have := hH.2.2.2.2.2; omega)
  have ec : fChT σ = fChg (sK σ).1 (sK σ).2.1 m := by unfold fChT; rw [em]
  simp only [bX5_finishEdit_27, bX5_finishEdit_0, pT_0, pT_1, pT_2, pT_3, pT_4, pT_5, pT_6, pT_7, pT_8, pT_9, pT_10, pT_11, pT_12, pT_13, pT_14, pT_15, pT_16, pT_17, pT_18, pT_19, pT_20, pT_21, pT_22, pT_23, pT_24, pT_25, pT_26, pT_27, pT_28, pT_N, pT_R, pT_U, pT_Q, pT_H, pT_V, pT_pT, o_iload, o_aload, o_ic, o_lc, o_istore, o_astore, o_iinc, o_bin, o_idiv, o_ineg, o_i2c, o_i2l, o_lcmp, o_if1, o_if2, o_dup, o_dup2, o_getf, o_puti, o_ald, o_iast, o_cast, o_lald, o_last, o_mmin, o_mabs, o_ret, o_vret, o_throw, o_lsw01, o_callS0, o_callS1, o_callS2, o_callS3, o_callS4, o_callS5, o_callV0, o_callV1, o_callV2, o_callV3, o_callV4, o_callV5, zcall_no, zok_nil, zok_ref, zok_int, zE, List.map_cons, List.map_nil, List.length_cons, List.length_nil, List.replicate_succ, List.replicate_zero, List.cons_append, List.nil_append, List.append_nil, List.getElem?_cons_zero, List.getElem?_cons_succ, List.set_cons_zero, List.set_cons_succ, Option.toList_some, Option.toList_none, vp_nar_int, znar_b, zb_0, ne_eq, Bool.not_eq_false, Classical.not_not, nI_1, sh1_def, true_and, and_true, Nat.reduceAdd, Nat.reduceSub, Nat.reduceLT, Nat.reduceLeDiff, Value.category, Nat.zero_add, Nat.add_zero]
  refine ⟨sK σ, pT σ f, m, k, s, rfl, pT_Hs.symm, hH, ?_⟩
  simp only [bX5_finishEdit_27, bX5_finishEdit_0, pT_0, pT_1, pT_2, pT_3, pT_4, pT_5, pT_6, pT_7, pT_8, pT_9, pT_10, pT_11, pT_12, pT_13, pT_14, pT_15, pT_16, pT_17, pT_18, pT_19, pT_20, pT_21, pT_22, pT_23, pT_24, pT_25, pT_26, pT_27, pT_28, pT_N, pT_R, pT_U, pT_Q, pT_H, pT_V, pT_pT, o_iload, o_aload, o_ic, o_lc, o_istore, o_astore, o_iinc, o_bin, o_idiv, o_ineg, o_i2c, o_i2l, o_lcmp, o_if1, o_if2, o_dup, o_dup2, o_getf, o_puti, o_ald, o_iast, o_cast, o_lald, o_last, o_mmin, o_mabs, o_ret, o_vret, o_throw, o_lsw01, o_callS0, o_callS1, o_callS2, o_callS3, o_callS4, o_callS5, o_callV0, o_callV1, o_callV2, o_callV3, o_callV4, o_callV5, zcall_no, zok_nil, zok_ref, zok_int, zE, List.map_cons, List.map_nil, List.length_cons, List.length_nil, List.replicate_succ, List.replicate_zero, List.cons_append, List.nil_append, List.append_nil, List.getElem?_cons_zero, List.getElem?_cons_succ, List.set_cons_zero, List.set_cons_succ, Option.toList_some, Option.toList_none, vp_nar_int, znar_b, zb_0, ne_eq, Bool.not_eq_false, Classical.not_not, nI_1, sh1_def, true_and, and_true, Nat.reduceAdd, Nat.reduceSub, Nat.reduceLT, Nat.reduceLeDiff, Value.category, Nat.zero_add, Nat.add_zero]
  rw [← ec]
  by_cases h0 : fChT σ = 0
  · have hk2 : Kn (some (.int (fBc (fChT σ)))) (pT σ f) := by
      unfold fFin at hk
      rw [if_pos h0] at hk
      exact hk
    rw [if_pos h0]
    refine ⟨fun h1 => hk2, fun h1 => absurd (fBc_le0.mpr h0) h1⟩
  · have hk2 : Kn (some (.int (fBc (fChT σ)))) (pT (fRef (fFinH σ)) f) := by
      unfold fFin at hk
      rw [if_neg h0] at hk
      exact hk
    rw [if_neg h0]
    refine ⟨fun h1 => absurd (fBc_le0.mp h1) h0, fun h1 => ?_⟩
    refine ⟨_, f, n, m, rfl, rfl, hR, hH.1, hH.2.1, ?_⟩
    simp only [bX5_finishEdit_27, bX5_finishEdit_0, pT_0, pT_1, pT_2, pT_3, pT_4, pT_5, pT_6, pT_7, pT_8, pT_9, pT_10, pT_11, pT_12, pT_13, pT_14, pT_15, pT_16, pT_17, pT_18, pT_19, pT_20, pT_21, pT_22, pT_23, pT_24, pT_25, pT_26, pT_27, pT_28, pT_N, pT_R, pT_U, pT_Q, pT_H, pT_V, pT_pT, o_iload, o_aload, o_ic, o_lc, o_istore, o_astore, o_iinc, o_bin, o_idiv, o_ineg, o_i2c, o_i2l, o_lcmp, o_if1, o_if2, o_dup, o_dup2, o_getf, o_puti, o_ald, o_iast, o_cast, o_lald, o_last, o_mmin, o_mabs, o_ret, o_vret, o_throw, o_lsw01, o_callS0, o_callS1, o_callS2, o_callS3, o_callS4, o_callS5, o_callV0, o_callV1, o_callV2, o_callV3, o_callV4, o_callV5, zcall_no, zok_nil, zok_ref, zok_int, zE, List.map_cons, List.map_nil, List.length_cons, List.length_nil, List.replicate_succ, List.replicate_zero, List.cons_append, List.nil_append, List.append_nil, List.getElem?_cons_zero, List.getElem?_cons_succ, List.set_cons_zero, List.set_cons_succ, Option.toList_some, Option.toList_none, vp_nar_int, znar_b, zb_0, ne_eq, Bool.not_eq_false, Classical.not_not, nI_1, sh1_def, true_and, and_true, Nat.reduceAdd, Nat.reduceSub, Nat.reduceLT, Nat.reduceLeDiff, Value.category, Nat.zero_add, Nat.add_zero]
    have e : fFinH σ = wH σ (fKeep (sK σ) m s k (fChT σ)) := by unfold fFinH; rw [em, es, ek]
    unfold fRef at hk2
    rw [e] at hk2
    have em' : tn (sThings (wH σ (fKeep (sK σ) m s k (fChT σ)))) = m := em
    have en' : tn (sTags (wH σ (fKeep (sK σ) m s k (fChT σ)))) = n := en
    rw [em', en'] at hk2
    exact hk2)
set_option maxHeartbeats 1000000 in
set_option maxRecDepth 20000 in
theorem mX5_massEdited (hlt : l.stackTraces = false) : Sem l z0 b N D cA yX5_massEdited cX5_massEdited 4 (some .int) 0 0 4 zno tX5_massEdited := uX5_massEdited hlt (fun M a h Kn Kx hok hN => by
  obtain ⟨k, x, t, o, rfl, hk⟩ := hN
  unfold fMe at hk
  simp only [bX5_massEdited_0, pT_0, pT_1, pT_2, pT_3, pT_4, pT_5, pT_6, pT_7, pT_8, pT_9, pT_10, pT_11, pT_12, pT_13, pT_14, pT_15, pT_16, pT_17, pT_18, pT_19, pT_20, pT_21, pT_22, pT_23, pT_24, pT_25, pT_26, pT_27, pT_28, pT_N, pT_R, pT_U, pT_Q, pT_H, pT_V, pT_pT, o_iload, o_aload, o_ic, o_lc, o_istore, o_astore, o_iinc, o_bin, o_idiv, o_ineg, o_i2c, o_i2l, o_lcmp, o_if1, o_if2, o_dup, o_dup2, o_getf, o_puti, o_ald, o_iast, o_cast, o_lald, o_last, o_mmin, o_mabs, o_ret, o_vret, o_throw, o_lsw01, o_callS0, o_callS1, o_callS2, o_callS3, o_callS4, o_callS5, o_callV0, o_callV1, o_callV2, o_callV3, o_callV4, o_callV5, zcall_no, zok_nil, zok_ref, zok_int, zE, List.map_cons, List.map_nil, List.length_cons, List.length_nil, List.replicate_succ, List.replicate_zero, List.cons_append, List.nil_append, List.append_nil, List.getElem?_cons_zero, List.getElem?_cons_succ, List.set_cons_zero, List.set_cons_succ, Option.toList_some, Option.toList_none, vp_nar_int, znar_b, zb_0, ne_eq, Bool.not_eq_false, Classical.not_not, nI_1, sh1_def, true_and, and_true, Nat.reduceAdd, Nat.reduceSub, Nat.reduceLT, Nat.reduceLeDiff, Value.category, Nat.zero_add, Nat.add_zero]
  refine ⟨fun h0 => ?_, fun h0 h1 => ?_, fun h0 h1 => ?_⟩
  · rw [if_pos h0] at hk; exact hk
  · rw [if_neg h0, if_pos h1] at hk; exact hk
  · rw [if_neg h0, if_neg h1] at hk; exact hk)
set_option maxHeartbeats 1000000 in
set_option maxRecDepth 20000 in
theorem mX5_memberAt (hlt : l.stackTraces = false) : Sem l z0 b N D cA yX5_memberAt cX5_memberAt 4 (some .int) 1 21 2 zno tX5_memberAt := uX5_memberAt hlt (mX5_has hlt) (fun M a h Kn Kx hok hN A h4 => by
  obtain ⟨x, p, rfl, hk⟩ := hN
  have loop : ∀ (j i : Nat) (b : Int32), i + j = 20 → Kn (some (.int (fMem x p j i b))) h → A 4 [some (.int x), some (.int p), some (.int b), some (.int (nI i))] [] h := by
    intro j
    induction j with
    | zero =>
      intro i b hi hk
      apply h4
      have hi9 : i = 20 := by omega
      subst hi9
      simp only [bX5_memberAt_28, bX5_memberAt_4, bX5_memberAt_0, o_iload, o_aload, o_ic, o_lc, o_istore, o_astore, o_iinc, o_bin, o_idiv, o_ineg, o_i2c, o_i2l, o_lcmp, o_if1, o_if2, o_dup, o_dup2, o_getf, o_puti, o_ald, o_iast, o_cast, o_lald, o_last, o_mmin, o_mabs, o_ret, o_vret, o_throw, o_lsw01, o_callS0, o_callS1, o_callS2, o_callS3, o_callS4, o_callS5, o_callV0, o_callV1, o_callV2, o_callV3, o_callV4, o_callV5, zcall_no, zok_nil, zok_ref, zok_int, zE, List.map_cons, List.map_nil, List.length_cons, List.length_nil, List.replicate_succ, List.replicate_zero, List.cons_append, List.nil_append, List.append_nil, List.getElem?_cons_zero, List.getElem?_cons_succ, List.set_cons_zero, List.set_cons_succ, Option.toList_some, Option.toList_none, vp_nar_int, znar_b, zb_0, ne_eq, Bool.not_eq_false, Classical.not_not, nI_1, sh1_def, true_and, and_true, Nat.reduceAdd, Nat.reduceSub, Nat.reduceLT, Nat.reduceLeDiff, Value.category, Nat.zero_add, Nat.add_zero]
      exact ⟨fun _ => hk, fun hc => absurd (Int32.le_refl _) hc⟩
    | succ j ih =>
      intro i b hi hk
      apply h4
      unfold fMem at hk
      simp only [bX5_memberAt_28, bX5_memberAt_4, bX5_memberAt_0, o_iload, o_aload, o_ic, o_lc, o_istore, o_astore, o_iinc, o_bin, o_idiv, o_ineg, o_i2c, o_i2l, o_lcmp, o_if1, o_if2, o_dup, o_dup2, o_getf, o_puti, o_ald, o_iast, o_cast, o_lald, o_last, o_mmin, o_mabs, o_ret, o_vret, o_throw, o_lsw01, o_callS0, o_callS1, o_callS2, o_callS3, o_callS4, o_callS5, o_callV0, o_callV1, o_callV2, o_callV3, o_callV4, o_callV5, zcall_no, zok_nil, zok_ref, zok_int, zE, List.map_cons, List.map_nil, List.length_cons, List.length_nil, List.replicate_succ, List.replicate_zero, List.cons_append, List.nil_append, List.append_nil, List.getElem?_cons_zero, List.getElem?_cons_succ, List.set_cons_zero, List.set_cons_succ, Option.toList_some, Option.toList_none, vp_nar_int, znar_b, zb_0, ne_eq, Bool.not_eq_false, Classical.not_not, nI_1, sh1_def, true_and, and_true, Nat.reduceAdd, Nat.reduceSub, Nat.reduceLT, Nat.reduceLeDiff, Value.category, Nat.zero_add, Nat.add_zero]
      refine ⟨fun hc => absurd (nI_le_le (n := 20) (by omega) (by omega) hc) (by omega), fun _ => ⟨_, _, rfl, by omega, ?_⟩⟩
      simp only [bX5_memberAt_28, bX5_memberAt_4, bX5_memberAt_0, o_iload, o_aload, o_ic, o_lc, o_istore, o_astore, o_iinc, o_bin, o_idiv, o_ineg, o_i2c, o_i2l, o_lcmp, o_if1, o_if2, o_dup, o_dup2, o_getf, o_puti, o_ald, o_iast, o_cast, o_lald, o_last, o_mmin, o_mabs, o_ret, o_vret, o_throw, o_lsw01, o_callS0, o_callS1, o_callS2, o_callS3, o_callS4, o_callS5, o_callV0, o_callV1, o_callV2, o_callV3, o_callV4, o_callV5, zcall_no, zok_nil, zok_ref, zok_int, zE, List.map_cons, List.map_nil, List.length_cons, List.length_nil, List.replicate_succ, List.replicate_zero, List.cons_append, List.nil_append, List.append_nil, List.getElem?_cons_zero, List.getElem?_cons_succ, List.set_cons_zero, List.set_cons_succ, Option.toList_some, Option.toList_none, vp_nar_int, znar_b, zb_0, ne_eq, Bool.not_eq_false, Classical.not_not, nI_1, sh1_def, true_and, and_true, Nat.reduceAdd, Nat.reduceSub, Nat.reduceLT, Nat.reduceLeDiff, Value.category, Nat.zero_add, Nat.add_zero]
      refine ⟨fun h1 => ?_, fun h1 => ⟨fun h2 => ?_, fun h2 => ?_⟩⟩
      · rw [h1] at hk
        exact ih (i + 1) b (by omega) hk
      · rw [h1, if_pos rfl, if_neg h2] at hk
        exact ih (i + 1) (b + 1) (by omega) hk
      · rw [h1, if_pos rfl, if_pos h2] at hk
        exact hk
  simp only [bX5_memberAt_28, bX5_memberAt_4, bX5_memberAt_0, o_iload, o_aload, o_ic, o_lc, o_istore, o_astore, o_iinc, o_bin, o_idiv, o_ineg, o_i2c, o_i2l, o_lcmp, o_if1, o_if2, o_dup, o_dup2, o_getf, o_puti, o_ald, o_iast, o_cast, o_lald, o_last, o_mmin, o_mabs, o_ret, o_vret, o_throw, o_lsw01, o_callS0, o_callS1, o_callS2, o_callS3, o_callS4, o_callS5, o_callV0, o_callV1, o_callV2, o_callV3, o_callV4, o_callV5, zcall_no, zok_nil, zok_ref, zok_int, zE, List.map_cons, List.map_nil, List.length_cons, List.length_nil, List.replicate_succ, List.replicate_zero, List.cons_append, List.nil_append, List.append_nil, List.getElem?_cons_zero, List.getElem?_cons_succ, List.set_cons_zero, List.set_cons_succ, Option.toList_some, Option.toList_none, vp_nar_int, znar_b, zb_0, ne_eq, Bool.not_eq_false, Classical.not_not, nI_1, sh1_def, true_and, and_true, Nat.reduceAdd, Nat.reduceSub, Nat.reduceLT, Nat.reduceLeDiff, Value.category, Nat.zero_add, Nat.add_zero]
  exact loop 20 0 0 (by omega) hk)
set_option maxHeartbeats 1000000 in
set_option maxRecDepth 20000 in
theorem mX5_matching (hlt : l.stackTraces = false) : Sem l z0 b N D cA yX5_matching cX5_matching 8 (some .int) 1 24 4 zno tX5_matching := uX5_matching hlt (mX4_endOf hlt) (mX5_has hlt) (fun M a h Kn Kx hok hN A h28 => by
  obtain ⟨σ, f, n, m, q, k, s, d, x, y, z, rfl, rfl, ⟨hn, hn24, hd, hd8, hch, hlen, hR, hH, hq, hq40, hreq⟩, hk⟩ := hN
  have en : tn (sTags σ) = n := by rw [show sTags σ = nI n from hn]; exact nI_clamp (by omega)
  unfold fMt at hk
  rw [en] at hk
  obtain ⟨f0, hf0⟩ : ∃ f0, f0 = ((1 : Int32) <<< (sThings σ &&& 31)) - 1 := ⟨_, rfl⟩
  obtain ⟨a0, ha0⟩ : ∃ a0, a0 = (if y = 0 then f0 else 0) := ⟨_, rfl⟩
  rw [← hf0, ← ha0] at hk
  have loop : ∀ (j i : Nat) (w : Option Value), i + j = n → A 28 [some (.ref 0), some (.int x), some (.int y), some (.int z), some (.int (fMtF σ.2.1.1 n σ.2.2.2.2.2 x z f0 i)), some (.int (fMtA σ.2.1.1 n σ.2.2.2.2.2 y a0 i)), some (.int (nI i)), w] [] (pT σ f) := by
    intro j
    induction j with
    | zero =>
      intro i w hi
      apply h28
      have hi9 : i = n := by omega
      subst hi9
      simp only [bX5_matching_109, bX5_matching_91, bX5_matching_75, bX5_matching_28, bX5_matching_23, bX5_matching_0, pT_0, pT_1, pT_2, pT_3, pT_4, pT_5, pT_6, pT_7, pT_8, pT_9, pT_10, pT_11, pT_12, pT_13, pT_14, pT_15, pT_16, pT_17, pT_18, pT_19, pT_20, pT_21, pT_22, pT_23, pT_24, pT_25, pT_26, pT_27, pT_28, pT_N, pT_R, pT_U, pT_Q, pT_H, pT_V, pT_pT, hn, o_iload, o_aload, o_ic, o_lc, o_istore, o_astore, o_iinc, o_bin, o_idiv, o_ineg, o_i2c, o_i2l, o_lcmp, o_if1, o_if2, o_dup, o_dup2, o_getf, o_puti, o_ald, o_iast, o_cast, o_lald, o_last, o_mmin, o_mabs, o_ret, o_vret, o_throw, o_lsw01, o_callS0, o_callS1, o_callS2, o_callS3, o_callS4, o_callS5, o_callV0, o_callV1, o_callV2, o_callV3, o_callV4, o_callV5, zcall_no, zok_nil, zok_ref, zok_int, zE, List.map_cons, List.map_nil, List.length_cons, List.length_nil, List.replicate_succ, List.replicate_zero, List.cons_append, List.nil_append, List.append_nil, List.getElem?_cons_zero, List.getElem?_cons_succ, List.set_cons_zero, List.set_cons_succ, Option.toList_some, Option.toList_none, vp_nar_int, znar_b, zb_0, ne_eq, Bool.not_eq_false, Classical.not_not, nI_1, sh1_def, true_and, and_true, Nat.reduceAdd, Nat.reduceSub, Nat.reduceLT, Nat.reduceLeDiff, Value.category, Nat.zero_add, Nat.add_zero]
      exact ⟨fun _ => hk, fun hc => absurd (Int32.le_refl _) hc⟩
    | succ j ih =>
      intro i w hi
      apply h28
      have hE := fE_lt (al := σ.2.1.1) (n := n) (by omega) n i (by omega)
      have hc := nI_clamp (show fE σ.2.1.1 n n i < 2 ^ 31 by omega)
      simp only [bX5_matching_109, bX5_matching_91, bX5_matching_75, bX5_matching_28, bX5_matching_23, bX5_matching_0, pT_0, pT_1, pT_2, pT_3, pT_4, pT_5, pT_6, pT_7, pT_8, pT_9, pT_10, pT_11, pT_12, pT_13, pT_14, pT_15, pT_16, pT_17, pT_18, pT_19, pT_20, pT_21, pT_22, pT_23, pT_24, pT_25, pT_26, pT_27, pT_28, pT_N, pT_R, pT_U, pT_Q, pT_H, pT_V, pT_pT, hn, o_iload, o_aload, o_ic, o_lc, o_istore, o_astore, o_iinc, o_bin, o_idiv, o_ineg, o_i2c, o_i2l, o_lcmp, o_if1, o_if2, o_dup, o_dup2, o_getf, o_puti, o_ald, o_iast, o_cast, o_lald, o_last, o_mmin, o_mabs, o_ret, o_vret, o_throw, o_lsw01, o_callS0, o_callS1, o_callS2, o_callS3, o_callS4, o_callS5, o_callV0, o_callV1, o_callV2, o_callV3, o_callV4, o_callV5, zcall_no, zok_nil, zok_ref, zok_int, zE, List.map_cons, List.map_nil, List.length_cons, List.length_nil, List.replicate_succ, List.replicate_zero, List.cons_append, List.nil_append, List.append_nil, List.getElem?_cons_zero, List.getElem?_cons_succ, List.set_cons_zero, List.set_cons_succ, Option.toList_some, Option.toList_none, vp_nar_int, znar_b, zb_0, ne_eq, Bool.not_eq_false, Classical.not_not, nI_1, sh1_def, true_and, and_true, Nat.reduceAdd, Nat.reduceSub, Nat.reduceLT, Nat.reduceLeDiff, Value.category, Nat.zero_add, Nat.add_zero]
      refine ⟨fun hc => absurd (nI_le_le (by omega) (by omega) hc) (by omega), fun _ => ⟨5, σ.2.1, pT σ f, n, i, rfl, pT_Rs.symm, hR, by omega, ?_⟩⟩
      simp only [bX5_matching_109, bX5_matching_91, bX5_matching_75, bX5_matching_28, bX5_matching_23, bX5_matching_0, pT_0, pT_1, pT_2, pT_3, pT_4, pT_5, pT_6, pT_7, pT_8, pT_9, pT_10, pT_11, pT_12, pT_13, pT_14, pT_15, pT_16, pT_17, pT_18, pT_19, pT_20, pT_21, pT_22, pT_23, pT_24, pT_25, pT_26, pT_27, pT_28, pT_N, pT_R, pT_U, pT_Q, pT_H, pT_V, pT_pT, hc, o_iload, o_aload, o_ic, o_lc, o_istore, o_astore, o_iinc, o_bin, o_idiv, o_ineg, o_i2c, o_i2l, o_lcmp, o_if1, o_if2, o_dup, o_dup2, o_getf, o_puti, o_ald, o_iast, o_cast, o_lald, o_last, o_mmin, o_mabs, o_ret, o_vret, o_throw, o_lsw01, o_callS0, o_callS1, o_callS2, o_callS3, o_callS4, o_callS5, o_callV0, o_callV1, o_callV2, o_callV3, o_callV4, o_callV5, zcall_no, zok_nil, zok_ref, zok_int, zE, List.map_cons, List.map_nil, List.length_cons, List.length_nil, List.replicate_succ, List.replicate_zero, List.cons_append, List.nil_append, List.append_nil, List.getElem?_cons_zero, List.getElem?_cons_succ, List.set_cons_zero, List.set_cons_succ, Option.toList_some, Option.toList_none, vp_nar_int, znar_b, zb_0, ne_eq, Bool.not_eq_false, Classical.not_not, nI_1, sh1_def, true_and, and_true, Nat.reduceAdd, Nat.reduceSub, Nat.reduceLT, Nat.reduceLeDiff, Value.category, Nat.zero_add, Nat.add_zero]
      refine ⟨vpin (by omega) (by omega), _, _, rfl, by omega, ?_⟩
      simp only [bX5_matching_109, bX5_matching_91, bX5_matching_75, bX5_matching_28, bX5_matching_23, bX5_matching_0, pT_0, pT_1, pT_2, pT_3, pT_4, pT_5, pT_6, pT_7, pT_8, pT_9, pT_10, pT_11, pT_12, pT_13, pT_14, pT_15, pT_16, pT_17, pT_18, pT_19, pT_20, pT_21, pT_22, pT_23, pT_24, pT_25, pT_26, pT_27, pT_28, pT_N, pT_R, pT_U, pT_Q, pT_H, pT_V, pT_pT, hc, o_iload, o_aload, o_ic, o_lc, o_istore, o_astore, o_iinc, o_bin, o_idiv, o_ineg, o_i2c, o_i2l, o_lcmp, o_if1, o_if2, o_dup, o_dup2, o_getf, o_puti, o_ald, o_iast, o_cast, o_lald, o_last, o_mmin, o_mabs, o_ret, o_vret, o_throw, o_lsw01, o_callS0, o_callS1, o_callS2, o_callS3, o_callS4, o_callS5, o_callV0, o_callV1, o_callV2, o_callV3, o_callV4, o_callV5, zcall_no, zok_nil, zok_ref, zok_int, zE, List.map_cons, List.map_nil, List.length_cons, List.length_nil, List.replicate_succ, List.replicate_zero, List.cons_append, List.nil_append, List.append_nil, List.getElem?_cons_zero, List.getElem?_cons_succ, List.set_cons_zero, List.set_cons_succ, Option.toList_some, Option.toList_none, vp_nar_int, znar_b, zb_0, ne_eq, Bool.not_eq_false, Classical.not_not, nI_1, sh1_def, true_and, and_true, Nat.reduceAdd, Nat.reduceSub, Nat.reduceLT, Nat.reduceLeDiff, Value.category, Nat.zero_add, Nat.add_zero]
      have ih' := ih (i + 1) (some (.int (σ.2.2.2.2.2 (fE σ.2.1.1 n n i)))) (by omega)
      unfold fMtF fMtA at ih'
      refine ⟨fun h1 => ⟨_, _, rfl, by omega, ?_⟩, fun h1 => ⟨_, _, rfl, by omega, ?_⟩⟩
      all_goals simp only [bX5_matching_109, bX5_matching_91, bX5_matching_75, bX5_matching_28, bX5_matching_23, bX5_matching_0, pT_0, pT_1, pT_2, pT_3, pT_4, pT_5, pT_6, pT_7, pT_8, pT_9, pT_10, pT_11, pT_12, pT_13, pT_14, pT_15, pT_16, pT_17, pT_18, pT_19, pT_20, pT_21, pT_22, pT_23, pT_24, pT_25, pT_26, pT_27, pT_28, pT_N, pT_R, pT_U, pT_Q, pT_H, pT_V, pT_pT, hc, o_iload, o_aload, o_ic, o_lc, o_istore, o_astore, o_iinc, o_bin, o_idiv, o_ineg, o_i2c, o_i2l, o_lcmp, o_if1, o_if2, o_dup, o_dup2, o_getf, o_puti, o_ald, o_iast, o_cast, o_lald, o_last, o_mmin, o_mabs, o_ret, o_vret, o_throw, o_lsw01, o_callS0, o_callS1, o_callS2, o_callS3, o_callS4, o_callS5, o_callV0, o_callV1, o_callV2, o_callV3, o_callV4, o_callV5, zcall_no, zok_nil, zok_ref, zok_int, zE, List.map_cons, List.map_nil, List.length_cons, List.length_nil, List.replicate_succ, List.replicate_zero, List.cons_append, List.nil_append, List.append_nil, List.getElem?_cons_zero, List.getElem?_cons_succ, List.set_cons_zero, List.set_cons_succ, Option.toList_some, Option.toList_none, vp_nar_int, znar_b, zb_0, ne_eq, Bool.not_eq_false, Classical.not_not, nI_1, sh1_def, true_and, and_true, Nat.reduceAdd, Nat.reduceSub, Nat.reduceLT, Nat.reduceLeDiff, Value.category, Nat.zero_add, Nat.add_zero]
      all_goals rw [h1] at ih'
      all_goals refine ⟨fun h2 => ⟨_, _, rfl, by omega, ?_⟩, fun h2 => ⟨_, _, rfl, by omega, ?_⟩⟩
      all_goals simp only [bX5_matching_109, bX5_matching_91, bX5_matching_75, bX5_matching_28, bX5_matching_23, bX5_matching_0, pT_0, pT_1, pT_2, pT_3, pT_4, pT_5, pT_6, pT_7, pT_8, pT_9, pT_10, pT_11, pT_12, pT_13, pT_14, pT_15, pT_16, pT_17, pT_18, pT_19, pT_20, pT_21, pT_22, pT_23, pT_24, pT_25, pT_26, pT_27, pT_28, pT_N, pT_R, pT_U, pT_Q, pT_H, pT_V, pT_pT, hc, o_iload, o_aload, o_ic, o_lc, o_istore, o_astore, o_iinc, o_bin, o_idiv, o_ineg, o_i2c, o_i2l, o_lcmp, o_if1, o_if2, o_dup, o_dup2, o_getf, o_puti, o_ald, o_iast, o_cast, o_lald, o_last, o_mmin, o_mabs, o_ret, o_vret, o_throw, o_lsw01, o_callS0, o_callS1, o_callS2, o_callS3, o_callS4, o_callS5, o_callV0, o_callV1, o_callV2, o_callV3, o_callV4, o_callV5, zcall_no, zok_nil, zok_ref, zok_int, zE, List.map_cons, List.map_nil, List.length_cons, List.length_nil, List.replicate_succ, List.replicate_zero, List.cons_append, List.nil_append, List.append_nil, List.getElem?_cons_zero, List.getElem?_cons_succ, List.set_cons_zero, List.set_cons_succ, Option.toList_some, Option.toList_none, vp_nar_int, znar_b, zb_0, ne_eq, Bool.not_eq_false, Classical.not_not, nI_1, sh1_def, true_and, and_true, Nat.reduceAdd, Nat.reduceSub, Nat.reduceLT, Nat.reduceLeDiff, Value.category, Nat.zero_add, Nat.add_zero]
      all_goals rw [h2] at ih'
      all_goals refine ⟨fun h3 => ?_, fun h3 => ?_⟩
      all_goals rw [h3] at ih'
      all_goals exact ih'
  simp only [bX5_matching_109, bX5_matching_91, bX5_matching_75, bX5_matching_28, bX5_matching_23, bX5_matching_0, pT_0, pT_1, pT_2, pT_3, pT_4, pT_5, pT_6, pT_7, pT_8, pT_9, pT_10, pT_11, pT_12, pT_13, pT_14, pT_15, pT_16, pT_17, pT_18, pT_19, pT_20, pT_21, pT_22, pT_23, pT_24, pT_25, pT_26, pT_27, pT_28, pT_N, pT_R, pT_U, pT_Q, pT_H, pT_V, pT_pT, o_iload, o_aload, o_ic, o_lc, o_istore, o_astore, o_iinc, o_bin, o_idiv, o_ineg, o_i2c, o_i2l, o_lcmp, o_if1, o_if2, o_dup, o_dup2, o_getf, o_puti, o_ald, o_iast, o_cast, o_lald, o_last, o_mmin, o_mabs, o_ret, o_vret, o_throw, o_lsw01, o_callS0, o_callS1, o_callS2, o_callS3, o_callS4, o_callS5, o_callV0, o_callV1, o_callV2, o_callV3, o_callV4, o_callV5, zcall_no, zok_nil, zok_ref, zok_int, zE, List.map_cons, List.map_nil, List.length_cons, List.length_nil, List.replicate_succ, List.replicate_zero, List.cons_append, List.nil_append, List.append_nil, List.getElem?_cons_zero, List.getElem?_cons_succ, List.set_cons_zero, List.set_cons_succ, Option.toList_some, Option.toList_none, vp_nar_int, znar_b, zb_0, ne_eq, Bool.not_eq_false, Classical.not_not, nI_1, sh1_def, true_and, and_true, Nat.reduceAdd, Nat.reduceSub, Nat.reduceLT, Nat.reduceLeDiff, Value.category, Nat.zero_add, Nat.add_zero]
  refine ⟨fun h1 => ?_, fun h1 => ?_⟩
  · rw [if_neg h1] at ha0
    have := loop n 0 none (by omega)
    rw [show fMtF σ.2.1.1 n σ.2.2.2.2.2 x z f0 0 = f0 from rfl, show fMtA σ.2.1.1 n σ.2.2.2.2.2 y a0 0 = a0 from rfl, ha0, hf0] at this
    exact this
  · rw [if_pos h1] at ha0
    have := loop n 0 none (by omega)
    rw [show fMtF σ.2.1.1 n σ.2.2.2.2.2 x z f0 0 = f0 from rfl, show fMtA σ.2.1.1 n σ.2.2.2.2.2 y a0 0 = a0 from rfl, ha0, hf0] at this
    exact this)
theorem zQ_of {σ : zTS} {n q : Nat} (hreq : ∀ i, i < q → ∃ t o, σ.2.2.2.1.2.1 i = nI t ∧ σ.2.2.2.1.2.2.1 i = nI o ∧ t < n ∧ o < n) (hn : n ≤ 24) (hq40 : q ≤ 40) {i : Nat} (hi : i < q) : zQok σ.2.2.2.1 n i (qK σ.2.2.2.1 i) (qT σ.2.2.2.1 i) (qO σ.2.2.2.1 i) := by
  obtain ⟨t, o, h1, h2, h3, h4⟩ := hreq i hi
  have e1 : qT σ.2.2.2.1 i = t := by unfold qT tn; rw [h1]; exact nI_clamp (by omega)
  have e2 : qO σ.2.2.2.1 i = o := by unfold qO tn; rw [h2]; exact nI_clamp (by omega)
  exact ⟨by omega, rfl, by rw [e1]; exact h1, by rw [e2]; exact h2, by rw [e1]; exact h3, by rw [e2]; exact h4⟩
set_option maxHeartbeats 1000000 in
set_option maxRecDepth 20000 in
theorem mX5_isOpenAndAllowed (hlt : l.stackTraces = false) : Sem l z0 b N D cA yX5_isOpenAndAllowed cX5_isOpenAndAllowed 2 (some .boolean) 4 92 2 zno tX5_isOpenAndAllowed := uX5_isOpenAndAllowed hlt (mX2_isAllowedBy hlt) (fun M a h Kn Kx hok hN => by
  obtain ⟨σ, f, n, m, q, k, s, d, i, rfl, rfl, ⟨hn, hn24, hd, hd8, hch, hlen, hR, hH, hq, hq40, hreq⟩, hi, hk⟩ := hN
  have en : tn (sTags σ) = n := by rw [show sTags σ = nI n from hn]; exact nI_clamp (by omega)
  have hc := nI_clamp (show i < 2 ^ 31 by omega)
  unfold fOa fAlw at hk
  rw [en] at hk
  simp only [bX5_isOpenAndAllowed_32, bX5_isOpenAndAllowed_31, bX5_isOpenAndAllowed_0, pT_0, pT_1, pT_2, pT_3, pT_4, pT_5, pT_6, pT_7, pT_8, pT_9, pT_10, pT_11, pT_12, pT_13, pT_14, pT_15, pT_16, pT_17, pT_18, pT_19, pT_20, pT_21, pT_22, pT_23, pT_24, pT_25, pT_26, pT_27, pT_28, pT_N, pT_R, pT_U, pT_Q, pT_H, pT_V, pT_pT, hc, o_iload, o_aload, o_ic, o_lc, o_istore, o_astore, o_iinc, o_bin, o_idiv, o_ineg, o_i2c, o_i2l, o_lcmp, o_if1, o_if2, o_dup, o_dup2, o_getf, o_puti, o_ald, o_iast, o_cast, o_lald, o_last, o_mmin, o_mabs, o_ret, o_vret, o_throw, o_lsw01, o_callS0, o_callS1, o_callS2, o_callS3, o_callS4, o_callS5, o_callV0, o_callV1, o_callV2, o_callV3, o_callV4, o_callV5, zcall_no, zok_nil, zok_ref, zok_int, zE, List.map_cons, List.map_nil, List.length_cons, List.length_nil, List.replicate_succ, List.replicate_zero, List.cons_append, List.nil_append, List.append_nil, List.getElem?_cons_zero, List.getElem?_cons_succ, List.set_cons_zero, List.set_cons_succ, Option.toList_some, Option.toList_none, vp_nar_int, znar_b, zb_0, ne_eq, Bool.not_eq_false, Classical.not_not, nI_1, sh1_def, true_and, and_true, Nat.reduceAdd, Nat.reduceSub, Nat.reduceLT, Nat.reduceLeDiff, Value.category, Nat.zero_add, Nat.add_zero]
  refine ⟨vpin (by omega) (by omega), fun h1 => ?_, fun h1 => ⟨_, pT σ f, pT σ f, 5, σ.2.1, n, i, _, _, _, rfl, pT_Qs.symm, pT_Rs.symm, hR, zQ_of hreq hn24 hq40 hi, ?_⟩⟩
  · rw [decide_eq_false h1] at hk
    exact ⟨rfl, hk⟩
  · simp only [bX5_isOpenAndAllowed_32, bX5_isOpenAndAllowed_31, bX5_isOpenAndAllowed_0, o_iload, o_aload, o_ic, o_lc, o_istore, o_astore, o_iinc, o_bin, o_idiv, o_ineg, o_i2c, o_i2l, o_lcmp, o_if1, o_if2, o_dup, o_dup2, o_getf, o_puti, o_ald, o_iast, o_cast, o_lald, o_last, o_mmin, o_mabs, o_ret, o_vret, o_throw, o_lsw01, o_callS0, o_callS1, o_callS2, o_callS3, o_callS4, o_callS5, o_callV0, o_callV1, o_callV2, o_callV3, o_callV4, o_callV5, zcall_no, zok_nil, zok_ref, zok_int, zE, List.map_cons, List.map_nil, List.length_cons, List.length_nil, List.replicate_succ, List.replicate_zero, List.cons_append, List.nil_append, List.append_nil, List.getElem?_cons_zero, List.getElem?_cons_succ, List.set_cons_zero, List.set_cons_succ, Option.toList_some, Option.toList_none, vp_nar_int, znar_b, zb_0, ne_eq, Bool.not_eq_false, Classical.not_not, nI_1, sh1_def, true_and, and_true, Nat.reduceAdd, Nat.reduceSub, Nat.reduceLT, Nat.reduceLeDiff, Value.category, Nat.zero_add, Nat.add_zero]
    rw [decide_eq_true h1] at hk
    refine ⟨fun h2 => ?_, fun h2 => ?_⟩
    · rw [h2] at hk
      exact ⟨rfl, hk⟩
    · rw [h2] at hk
      exact ⟨rfl, hk⟩)
set_option maxHeartbeats 1000000 in
set_option maxRecDepth 20000 in
theorem mX5_isAllowedBehind (hlt : l.stackTraces = false) : Sem l z0 b N D cA yX5_isAllowedBehind cX5_isAllowedBehind 3 (some .boolean) 5 113 3 zno tX5_isAllowedBehind := uX5_isAllowedBehind hlt (mX4_copyFrom hlt) (mX2_carryOut hlt) (mX2_isAllowedBy hlt) (fun M a h Kn Kx hok hN => by
  obtain ⟨σ, f, n, m, q, k, s, d, i, j, rfl, rfl, ⟨hn, hn24, hd, hd8, hch, hlen, hR, hH, hq, hq40, hreq⟩, hi, hj, hk⟩ := hN
  have en : tn (sTags σ) = n := by rw [show sTags σ = nI n from hn]; exact nI_clamp (by omega)
  unfold fAlw fBeh at hk
  rw [en] at hk
  have e5 : pT σ f = pR 10 σ.2.2.1 (pR 5 σ.2.1 (pT σ f)) := by rw [pT_Rs, pT_Us]
  simp only [bX5_isAllowedBehind_0, pT_0, pT_1, pT_2, pT_3, pT_4, pT_5, pT_6, pT_7, pT_8, pT_9, pT_10, pT_11, pT_12, pT_13, pT_14, pT_15, pT_16, pT_17, pT_18, pT_19, pT_20, pT_21, pT_22, pT_23, pT_24, pT_25, pT_26, pT_27, pT_28, pT_N, pT_R, pT_U, pT_Q, pT_H, pT_V, pT_pT, o_iload, o_aload, o_ic, o_lc, o_istore, o_astore, o_iinc, o_bin, o_idiv, o_ineg, o_i2c, o_i2l, o_lcmp, o_if1, o_if2, o_dup, o_dup2, o_getf, o_puti, o_ald, o_iast, o_cast, o_lald, o_last, o_mmin, o_mabs, o_ret, o_vret, o_throw, o_lsw01, o_callS0, o_callS1, o_callS2, o_callS3, o_callS4, o_callS5, o_callV0, o_callV1, o_callV2, o_callV3, o_callV4, o_callV5, zcall_no, zok_nil, zok_ref, zok_int, zE, List.map_cons, List.map_nil, List.length_cons, List.length_nil, List.replicate_succ, List.replicate_zero, List.cons_append, List.nil_append, List.append_nil, List.getElem?_cons_zero, List.getElem?_cons_succ, List.set_cons_zero, List.set_cons_succ, Option.toList_some, Option.toList_none, vp_nar_int, znar_b, zb_0, ne_eq, Bool.not_eq_false, Classical.not_not, nI_1, sh1_def, true_and, and_true, Nat.reduceAdd, Nat.reduceSub, Nat.reduceLT, Nat.reduceLeDiff, Value.category, Nat.zero_add, Nat.add_zero]
  refine ⟨σ.2.2.1, σ.2.1, pT σ f, n, rfl, e5, hR, ?_⟩
  rw [pT_Rs]
  simp only [bX5_isAllowedBehind_0, pT_0, pT_1, pT_2, pT_3, pT_4, pT_5, pT_6, pT_7, pT_8, pT_9, pT_10, pT_11, pT_12, pT_13, pT_14, pT_15, pT_16, pT_17, pT_18, pT_19, pT_20, pT_21, pT_22, pT_23, pT_24, pT_25, pT_26, pT_27, pT_28, pT_N, pT_R, pT_U, pT_Q, pT_H, pT_V, pT_pT, o_iload, o_aload, o_ic, o_lc, o_istore, o_astore, o_iinc, o_bin, o_idiv, o_ineg, o_i2c, o_i2l, o_lcmp, o_if1, o_if2, o_dup, o_dup2, o_getf, o_puti, o_ald, o_iast, o_cast, o_lald, o_last, o_mmin, o_mabs, o_ret, o_vret, o_throw, o_lsw01, o_callS0, o_callS1, o_callS2, o_callS3, o_callS4, o_callS5, o_callV0, o_callV1, o_callV2, o_callV3, o_callV4, o_callV5, zcall_no, zok_nil, zok_ref, zok_int, zE, List.map_cons, List.map_nil, List.length_cons, List.length_nil, List.replicate_succ, List.replicate_zero, List.cons_append, List.nil_append, List.append_nil, List.getElem?_cons_zero, List.getElem?_cons_succ, List.set_cons_zero, List.set_cons_succ, Option.toList_some, Option.toList_none, vp_nar_int, znar_b, zb_0, ne_eq, Bool.not_eq_false, Classical.not_not, nI_1, sh1_def, true_and, and_true, Nat.reduceAdd, Nat.reduceSub, Nat.reduceLT, Nat.reduceLeDiff, Value.category, Nat.zero_add, Nat.add_zero]
  refine ⟨_, _, _, 10, _, n, i, _, _, _, rfl, pT_Qs.symm, pT_Us.symm, ⟨rfl, hn24⟩, zQ_of hreq hn24 hq40 hi, ?_⟩
  simp only [bX5_isAllowedBehind_0, pT_0, pT_1, pT_2, pT_3, pT_4, pT_5, pT_6, pT_7, pT_8, pT_9, pT_10, pT_11, pT_12, pT_13, pT_14, pT_15, pT_16, pT_17, pT_18, pT_19, pT_20, pT_21, pT_22, pT_23, pT_24, pT_25, pT_26, pT_27, pT_28, pT_N, pT_R, pT_U, pT_Q, pT_H, pT_V, pT_pT, o_iload, o_aload, o_ic, o_lc, o_istore, o_astore, o_iinc, o_bin, o_idiv, o_ineg, o_i2c, o_i2l, o_lcmp, o_if1, o_if2, o_dup, o_dup2, o_getf, o_puti, o_ald, o_iast, o_cast, o_lald, o_last, o_mmin, o_mabs, o_ret, o_vret, o_throw, o_lsw01, o_callS0, o_callS1, o_callS2, o_callS3, o_callS4, o_callS5, o_callV0, o_callV1, o_callV2, o_callV3, o_callV4, o_callV5, zcall_no, zok_nil, zok_ref, zok_int, zE, List.map_cons, List.map_nil, List.length_cons, List.length_nil, List.replicate_succ, List.replicate_zero, List.cons_append, List.nil_append, List.append_nil, List.getElem?_cons_zero, List.getElem?_cons_succ, List.set_cons_zero, List.set_cons_succ, Option.toList_some, Option.toList_none, vp_nar_int, znar_b, zb_0, ne_eq, Bool.not_eq_false, Classical.not_not, nI_1, sh1_def, true_and, and_true, Nat.reduceAdd, Nat.reduceSub, Nat.reduceLT, Nat.reduceLeDiff, Value.category, Nat.zero_add, Nat.add_zero]
  refine ⟨_, _, _, 10, _, n, j, _, _, _, rfl, pT_Qs.symm, pT_Us.symm, ⟨?_, hn24⟩, zQ_of hreq hn24 hq40 hj, ?_⟩
  · unfold fWork fCarry
    split
    · rfl
    · split
      · rfl
      · split <;> rfl
  · simp only [bX5_isAllowedBehind_0, pT_0, pT_1, pT_2, pT_3, pT_4, pT_5, pT_6, pT_7, pT_8, pT_9, pT_10, pT_11, pT_12, pT_13, pT_14, pT_15, pT_16, pT_17, pT_18, pT_19, pT_20, pT_21, pT_22, pT_23, pT_24, pT_25, pT_26, pT_27, pT_28, pT_N, pT_R, pT_U, pT_Q, pT_H, pT_V, pT_pT, o_iload, o_aload, o_ic, o_lc, o_istore, o_astore, o_iinc, o_bin, o_idiv, o_ineg, o_i2c, o_i2l, o_lcmp, o_if1, o_if2, o_dup, o_dup2, o_getf, o_puti, o_ald, o_iast, o_cast, o_lald, o_last, o_mmin, o_mabs, o_ret, o_vret, o_throw, o_lsw01, o_callS0, o_callS1, o_callS2, o_callS3, o_callS4, o_callS5, o_callV0, o_callV1, o_callV2, o_callV3, o_callV4, o_callV5, zcall_no, zok_nil, zok_ref, zok_int, zE, List.map_cons, List.map_nil, List.length_cons, List.length_nil, List.replicate_succ, List.replicate_zero, List.cons_append, List.nil_append, List.append_nil, List.getElem?_cons_zero, List.getElem?_cons_succ, List.set_cons_zero, List.set_cons_succ, Option.toList_some, Option.toList_none, vp_nar_int, znar_b, zb_0, ne_eq, Bool.not_eq_false, Classical.not_not, nI_1, sh1_def, true_and, and_true, Nat.reduceAdd, Nat.reduceSub, Nat.reduceLT, Nat.reduceLeDiff, Value.category, Nat.zero_add, Nat.add_zero]
    exact hk)
set_option maxHeartbeats 1000000 in
set_option maxRecDepth 20000 in
theorem mX5_decide (hlt : l.stackTraces = false) : Sem l z0 b N D cA yX5_decide cX5_decide 3 none 5 113 3 zno tX5_decide := uX5_decide hlt (mX2_isAllowedBy hlt) (mX2_carryOut hlt) (mX3_refresh hlt) (fun M a h Kn Kx hok hN => by
  obtain ⟨σ, f, n, m, q, k, s, d, i, x, rfl, rfl, ⟨hn, hn24, hd, hd8, hch, hlen, hR, hH, hq, hq40, hreq⟩, hi, hk⟩ := hN
  have en : tn (sTags σ) = n := by rw [show sTags σ = nI n from hn]; exact nI_clamp (by omega)
  have em : tn (sThings σ) = m := by rw [show sThings σ = nI m from hH.1]; exact nI_clamp (by have := hH.2.1; omega)
  have hc := nI_clamp (show i < 2 ^ 31 by omega)
  unfold fDec fAlw at hk
  rw [en] at hk
  have tail : ¬ (3 ≤ x ∧ fAllow σ.2.1 n (qK σ.2.2.2.1 i) (qT σ.2.2.2.1 i) (qO σ.2.2.2.1 i) = true) → bX5_decide_60 M Kn Kx (pT σ f) [some (.ref 0), some (.int (nI i)), some (.int x)] [] (pT σ f) := by
    intro h9
    rw [if_neg h9] at hk
    unfold fAbs at hk
    simp only [bX5_decide_78, bX5_decide_60, bX5_decide_0, pT_0, pT_1, pT_2, pT_3, pT_4, pT_5, pT_6, pT_7, pT_8, pT_9, pT_10, pT_11, pT_12, pT_13, pT_14, pT_15, pT_16, pT_17, pT_18, pT_19, pT_20, pT_21, pT_22, pT_23, pT_24, pT_25, pT_26, pT_27, pT_28, pT_N, pT_R, pT_U, pT_Q, pT_H, pT_V, pT_pT, hc, pT_a3_3, o_iload, o_aload, o_ic, o_lc, o_istore, o_astore, o_iinc, o_bin, o_idiv, o_ineg, o_i2c, o_i2l, o_lcmp, o_if1, o_if2, o_dup, o_dup2, o_getf, o_puti, o_ald, o_iast, o_cast, o_lald, o_last, o_mmin, o_mabs, o_ret, o_vret, o_throw, o_lsw01, o_callS0, o_callS1, o_callS2, o_callS3, o_callS4, o_callS5, o_callV0, o_callV1, o_callV2, o_callV3, o_callV4, o_callV5, zcall_no, zok_nil, zok_ref, zok_int, zE, List.map_cons, List.map_nil, List.length_cons, List.length_nil, List.replicate_succ, List.replicate_zero, List.cons_append, List.nil_append, List.append_nil, List.getElem?_cons_zero, List.getElem?_cons_succ, List.set_cons_zero, List.set_cons_succ, Option.toList_some, Option.toList_none, vp_nar_int, znar_b, zb_0, ne_eq, Bool.not_eq_false, Classical.not_not, nI_1, sh1_def, true_and, and_true, Nat.reduceAdd, Nat.reduceSub, Nat.reduceLT, Nat.reduceLeDiff, Value.category, Nat.zero_add, Nat.add_zero]
    refine ⟨fun h1 => ?_, fun h1 => ⟨vpin (by omega) (by omega), ?_⟩⟩
    · rw [if_neg (Int32.not_le.mpr h1)] at hk
      exact hk
    · rw [if_pos (Int32.not_lt.mp h1)] at hk
      exact hk
  simp only [bX5_decide_78, bX5_decide_60, bX5_decide_0, pT_0, pT_1, pT_2, pT_3, pT_4, pT_5, pT_6, pT_7, pT_8, pT_9, pT_10, pT_11, pT_12, pT_13, pT_14, pT_15, pT_16, pT_17, pT_18, pT_19, pT_20, pT_21, pT_22, pT_23, pT_24, pT_25, pT_26, pT_27, pT_28, pT_N, pT_R, pT_U, pT_Q, pT_H, pT_V, pT_pT, hc, o_iload, o_aload, o_ic, o_lc, o_istore, o_astore, o_iinc, o_bin, o_idiv, o_ineg, o_i2c, o_i2l, o_lcmp, o_if1, o_if2, o_dup, o_dup2, o_getf, o_puti, o_ald, o_iast, o_cast, o_lald, o_last, o_mmin, o_mabs, o_ret, o_vret, o_throw, o_lsw01, o_callS0, o_callS1, o_callS2, o_callS3, o_callS4, o_callS5, o_callV0, o_callV1, o_callV2, o_callV3, o_callV4, o_callV5, zcall_no, zok_nil, zok_ref, zok_int, zE, List.map_cons, List.map_nil, List.length_cons, List.length_nil, List.replicate_succ, List.replicate_zero, List.cons_append, List.nil_append, List.append_nil, List.getElem?_cons_zero, List.getElem?_cons_succ, List.set_cons_zero, List.set_cons_succ, Option.toList_some, Option.toList_none, vp_nar_int, znar_b, zb_0, ne_eq, Bool.not_eq_false, Classical.not_not, nI_1, sh1_def, true_and, and_true, Nat.reduceAdd, Nat.reduceSub, Nat.reduceLT, Nat.reduceLeDiff, Value.category, Nat.zero_add, Nat.add_zero]
  refine ⟨fun h1 => ?_, fun h1 => ⟨_, pT σ f, pT σ f, 5, σ.2.1, n, i, _, _, _, rfl, pT_Qs.symm, pT_Rs.symm, hR, zQ_of hreq hn24 hq40 hi, ?_⟩⟩
  · have := tail (fun q => absurd q.1 (Int32.not_le.mpr h1))
    simp only [bX5_decide_78, bX5_decide_60, bX5_decide_0, pT_0, pT_1, pT_2, pT_3, pT_4, pT_5, pT_6, pT_7, pT_8, pT_9, pT_10, pT_11, pT_12, pT_13, pT_14, pT_15, pT_16, pT_17, pT_18, pT_19, pT_20, pT_21, pT_22, pT_23, pT_24, pT_25, pT_26, pT_27, pT_28, pT_N, pT_R, pT_U, pT_Q, pT_H, pT_V, pT_pT, hc, o_iload, o_aload, o_ic, o_lc, o_istore, o_astore, o_iinc, o_bin, o_idiv, o_ineg, o_i2c, o_i2l, o_lcmp, o_if1, o_if2, o_dup, o_dup2, o_getf, o_puti, o_ald, o_iast, o_cast, o_lald, o_last, o_mmin, o_mabs, o_ret, o_vret, o_throw, o_lsw01, o_callS0, o_callS1, o_callS2, o_callS3, o_callS4, o_callS5, o_callV0, o_callV1, o_callV2, o_callV3, o_callV4, o_callV5, zcall_no, zok_nil, zok_ref, zok_int, zE, List.map_cons, List.map_nil, List.length_cons, List.length_nil, List.replicate_succ, List.replicate_zero, List.cons_append, List.nil_append, List.append_nil, List.getElem?_cons_zero, List.getElem?_cons_succ, List.set_cons_zero, List.set_cons_succ, Option.toList_some, Option.toList_none, vp_nar_int, znar_b, zb_0, ne_eq, Bool.not_eq_false, Classical.not_not, nI_1, sh1_def, true_and, and_true, Nat.reduceAdd, Nat.reduceSub, Nat.reduceLT, Nat.reduceLeDiff, Value.category, Nat.zero_add, Nat.add_zero] at this
    exact this
  · simp only [bX5_decide_78, bX5_decide_60, bX5_decide_0, pT_0, pT_1, pT_2, pT_3, pT_4, pT_5, pT_6, pT_7, pT_8, pT_9, pT_10, pT_11, pT_12, pT_13, pT_14, pT_15, pT_16, pT_17, pT_18, pT_19, pT_20, pT_21, pT_22, pT_23, pT_24, pT_25, pT_26, pT_27, pT_28, pT_N, pT_R, pT_U, pT_Q, pT_H, pT_V, pT_pT, hc, pT_a3_3, o_iload, o_aload, o_ic, o_lc, o_istore, o_astore, o_iinc, o_bin, o_idiv, o_ineg, o_i2c, o_i2l, o_lcmp, o_if1, o_if2, o_dup, o_dup2, o_getf, o_puti, o_ald, o_iast, o_cast, o_lald, o_last, o_mmin, o_mabs, o_ret, o_vret, o_throw, o_lsw01, o_callS0, o_callS1, o_callS2, o_callS3, o_callS4, o_callS5, o_callV0, o_callV1, o_callV2, o_callV3, o_callV4, o_callV5, zcall_no, zok_nil, zok_ref, zok_int, zE, List.map_cons, List.map_nil, List.length_cons, List.length_nil, List.replicate_succ, List.replicate_zero, List.cons_append, List.nil_append, List.append_nil, List.getElem?_cons_zero, List.getElem?_cons_succ, List.set_cons_zero, List.set_cons_succ, Option.toList_some, Option.toList_none, vp_nar_int, znar_b, zb_0, ne_eq, Bool.not_eq_false, Classical.not_not, nI_1, sh1_def, true_and, and_true, Nat.reduceAdd, Nat.reduceSub, Nat.reduceLT, Nat.reduceLeDiff, Value.category, Nat.zero_add, Nat.add_zero]
    refine ⟨fun h2 => ?_, fun h2 => ⟨vpin (by omega) (by omega), ?_⟩⟩
    · have := tail (fun q => by rw [h2] at q; cases q.2)
      simp only [bX5_decide_78, bX5_decide_60, bX5_decide_0, pT_0, pT_1, pT_2, pT_3, pT_4, pT_5, pT_6, pT_7, pT_8, pT_9, pT_10, pT_11, pT_12, pT_13, pT_14, pT_15, pT_16, pT_17, pT_18, pT_19, pT_20, pT_21, pT_22, pT_23, pT_24, pT_25, pT_26, pT_27, pT_28, pT_N, pT_R, pT_U, pT_Q, pT_H, pT_V, pT_pT, hc, pT_a3_3, o_iload, o_aload, o_ic, o_lc, o_istore, o_astore, o_iinc, o_bin, o_idiv, o_ineg, o_i2c, o_i2l, o_lcmp, o_if1, o_if2, o_dup, o_dup2, o_getf, o_puti, o_ald, o_iast, o_cast, o_lald, o_last, o_mmin, o_mabs, o_ret, o_vret, o_throw, o_lsw01, o_callS0, o_callS1, o_callS2, o_callS3, o_callS4, o_callS5, o_callV0, o_callV1, o_callV2, o_callV3, o_callV4, o_callV5, zcall_no, zok_nil, zok_ref, zok_int, zE, List.map_cons, List.map_nil, List.length_cons, List.length_nil, List.replicate_succ, List.replicate_zero, List.cons_append, List.nil_append, List.append_nil, List.getElem?_cons_zero, List.getElem?_cons_succ, List.set_cons_zero, List.set_cons_succ, Option.toList_some, Option.toList_none, vp_nar_int, znar_b, zb_0, ne_eq, Bool.not_eq_false, Classical.not_not, nI_1, sh1_def, true_and, and_true, Nat.reduceAdd, Nat.reduceSub, Nat.reduceLT, Nat.reduceLeDiff, Value.category, Nat.zero_add, Nat.add_zero] at this
      exact this
    · rw [if_pos ⟨Int32.not_lt.mp h1, h2⟩] at hk
      refine ⟨_, _, _, 5, σ.2.1, n, i, _, _, _, rfl, pT_Qs.symm, pT_Rs.symm, hR, zQ_of (σ := wS σ i 1) hreq hn24 hq40 hi, ?_⟩
      simp only [bX5_decide_78, bX5_decide_60, bX5_decide_0, pT_0, pT_1, pT_2, pT_3, pT_4, pT_5, pT_6, pT_7, pT_8, pT_9, pT_10, pT_11, pT_12, pT_13, pT_14, pT_15, pT_16, pT_17, pT_18, pT_19, pT_20, pT_21, pT_22, pT_23, pT_24, pT_25, pT_26, pT_27, pT_28, pT_N, pT_R, pT_U, pT_Q, pT_H, pT_V, pT_pT, o_iload, o_aload, o_ic, o_lc, o_istore, o_astore, o_iinc, o_bin, o_idiv, o_ineg, o_i2c, o_i2l, o_lcmp, o_if1, o_if2, o_dup, o_dup2, o_getf, o_puti, o_ald, o_iast, o_cast, o_lald, o_last, o_mmin, o_mabs, o_ret, o_vret, o_throw, o_lsw01, o_callS0, o_callS1, o_callS2, o_callS3, o_callS4, o_callS5, o_callV0, o_callV1, o_callV2, o_callV3, o_callV4, o_callV5, zcall_no, zok_nil, zok_ref, zok_int, zE, List.map_cons, List.map_nil, List.length_cons, List.length_nil, List.replicate_succ, List.replicate_zero, List.cons_append, List.nil_append, List.append_nil, List.getElem?_cons_zero, List.getElem?_cons_succ, List.set_cons_zero, List.set_cons_succ, Option.toList_some, Option.toList_none, vp_nar_int, znar_b, zb_0, ne_eq, Bool.not_eq_false, Classical.not_not, nI_1, sh1_def, true_and, and_true, Nat.reduceAdd, Nat.reduceSub, Nat.reduceLT, Nat.reduceLeDiff, Value.category, Nat.zero_add, Nat.add_zero]
      refine ⟨_, f, n, m, rfl, rfl, ⟨?_, hn24⟩, hH.1, hH.2.1, ?_⟩
      · have hR1 := hR.1
        show (fWork (fCarry σ.2.1 _ _ _) n).2.2.2.2 = nI n
        unfold fWork fCarry
        split
        · exact hR1
        · split
          · exact hR1
          · split <;> exact hR1
      · simp only [bX5_decide_78, bX5_decide_60, bX5_decide_0, pT_0, pT_1, pT_2, pT_3, pT_4, pT_5, pT_6, pT_7, pT_8, pT_9, pT_10, pT_11, pT_12, pT_13, pT_14, pT_15, pT_16, pT_17, pT_18, pT_19, pT_20, pT_21, pT_22, pT_23, pT_24, pT_25, pT_26, pT_27, pT_28, pT_N, pT_R, pT_U, pT_Q, pT_H, pT_V, pT_pT, o_iload, o_aload, o_ic, o_lc, o_istore, o_astore, o_iinc, o_bin, o_idiv, o_ineg, o_i2c, o_i2l, o_lcmp, o_if1, o_if2, o_dup, o_dup2, o_getf, o_puti, o_ald, o_iast, o_cast, o_lald, o_last, o_mmin, o_mabs, o_ret, o_vret, o_throw, o_lsw01, o_callS0, o_callS1, o_callS2, o_callS3, o_callS4, o_callS5, o_callV0, o_callV1, o_callV2, o_callV3, o_callV4, o_callV5, zcall_no, zok_nil, zok_ref, zok_int, zE, List.map_cons, List.map_nil, List.length_cons, List.length_nil, List.replicate_succ, List.replicate_zero, List.cons_append, List.nil_append, List.append_nil, List.getElem?_cons_zero, List.getElem?_cons_succ, List.set_cons_zero, List.set_cons_succ, Option.toList_some, Option.toList_none, vp_nar_int, znar_b, zb_0, ne_eq, Bool.not_eq_false, Classical.not_not, nI_1, sh1_def, true_and, and_true, Nat.reduceAdd, Nat.reduceSub, Nat.reduceLT, Nat.reduceLeDiff, Value.category, Nat.zero_add, Nat.add_zero]
        unfold fRef at hk
        have em' : ∀ ρ, tn (sThings (wR (wS σ i 1) ρ)) = m := fun _ => em
        have en' : ∀ ρ, tn (sTags (wR (wS σ i 1) ρ)) = n := fun _ => en
        rw [em', en'] at hk
        exact hk)
end T2
