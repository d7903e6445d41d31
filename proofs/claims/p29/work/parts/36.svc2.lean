section S2
variable {l : Launch} {z0 b N : Nat} {D : va_G} {cA : Nat → ClassId}
set_option maxHeartbeats 1000000 in
set_option maxRecDepth 20000 in
theorem mX2_add (hlt : l.stackTraces = false) : Sem l z0 b N D cA yX2_add cX2_add 4 (some .int) 0 0 4 zno tX2_add := uX2_add hlt (fun M a h Kn Kx hok hN => by
  obtain ⟨κ, f, q, x, y, z, rfl, rfl, hq, hq40, hk⟩ := hN
  obtain ⟨ki, so, ta, st, vf, va, sz⟩ := κ
  have hq' : sz = nI q := hq
  subst hq'
  have hc := nI_clamp (show q < 2 ^ 31 by omega)
  simp only [bX2_add_0, pQ_0, pQ_s0, pQ_s1, pQ_s2, pQ_s3, pQ_s6, pQ_1, pQ_2, pQ_3, pQ_4, hc, o_iload, o_aload, o_ic, o_lc, o_istore, o_astore, o_iinc, o_bin, o_idiv, o_ineg, o_i2c, o_i2l, o_lcmp, o_if1, o_if2, o_dup, o_dup2, o_getf, o_puti, o_ald, o_iast, o_cast, o_lald, o_last, o_mmin, o_mabs, o_ret, o_vret, o_throw, o_lsw01, o_callS0, o_callS1, o_callS2, o_callS3, o_callS4, o_callS5, o_callV0, o_callV1, o_callV2, o_callV3, o_callV4, o_callV5, zcall_no, zok_nil, zok_ref, zok_int, zE, List.map_cons, List.map_nil, List.length_cons, List.length_nil, List.replicate_succ, List.replicate_zero, List.cons_append, List.nil_append, List.append_nil, List.getElem?_cons_zero, List.getElem?_cons_succ, List.set_cons_zero, List.set_cons_succ, Option.toList_some, Option.toList_none, vp_nar_int, znar_b, zb_0, ne_eq, Bool.not_eq_false, Classical.not_not, nI_1, sh1_def, true_and, and_true, Nat.reduceAdd, Nat.reduceSub, Nat.reduceLT, Nat.reduceLeDiff, Value.category, Nat.zero_add, Nat.add_zero]
  refine ⟨vpin (by omega) (by omega), vpin (by omega) (by omega), vpin (by omega) (by omega), vpin (by omega) (by omega), ?_⟩
  rw [show nI (q + 1) - 1 = nI q from nI_pred q]
  exact hk)
set_option maxHeartbeats 1000000 in
set_option maxRecDepth 20000 in
theorem mX2_setVote (hlt : l.stackTraces = false) : Sem l z0 b N D cA yX2_setVote cX2_setVote 5 none 0 0 4 zno tX2_setVote := uX2_setVote hlt (fun M a h Kn Kx hok hN => by
  obtain ⟨κ, f, q, v, x, rfl, rfl, hq40, hv, hk⟩ := hN
  obtain ⟨ki, so, ta, st, vf, va, sz⟩ := κ
  have hc := nI_clamp (show q < 2 ^ 31 by omega)
  simp only [bX2_setVote_60, bX2_setVote_0, pQ_0, pQ_s4, pQ_s5, pQ_5, pQ_6, hc, o_iload, o_aload, o_ic, o_lc, o_istore, o_astore, o_iinc, o_bin, o_idiv, o_ineg, o_i2c, o_i2l, o_lcmp, o_if1, o_if2, o_dup, o_dup2, o_getf, o_puti, o_ald, o_iast, o_cast, o_lald, o_last, o_mmin, o_mabs, o_ret, o_vret, o_throw, o_lsw01, o_callS0, o_callS1, o_callS2, o_callS3, o_callS4, o_callS5, o_callV0, o_callV1, o_callV2, o_callV3, o_callV4, o_callV5, zcall_no, zok_nil, zok_ref, zok_int, zE, List.map_cons, List.map_nil, List.length_cons, List.length_nil, List.replicate_succ, List.replicate_zero, List.cons_append, List.nil_append, List.append_nil, List.getElem?_cons_zero, List.getElem?_cons_succ, List.set_cons_zero, List.set_cons_succ, Option.toList_some, Option.toList_none, vp_nar_int, znar_b, zb_0, ne_eq, Bool.not_eq_false, Classical.not_not, nI_1, sh1_def, true_and, and_true, Nat.reduceAdd, Nat.reduceSub, Nat.reduceLT, Nat.reduceLeDiff, Value.category, Nat.zero_add, Nat.add_zero]
  refine ⟨fun h1 => ?_, fun h1 => ?_⟩
  · subst h1
    refine ⟨vpin (by omega) (by omega), vpin (by omega) (by omega), vpin (by omega) (by omega), vpin (by omega) (by omega), ?_⟩
    exact hk
  · subst h1
    refine ⟨vpin (by omega) (by omega), vpin (by omega) (by omega), vpin (by omega) (by omega), vpin (by omega) (by omega), ?_⟩
    exact hk)
set_option maxHeartbeats 1000000 in
set_option maxRecDepth 20000 in
theorem mX2_leadOf (hlt : l.stackTraces = false) : Sem l z0 b N D cA yX2_leadOf cX2_leadOf 2 (some .int) 1 20 2 zno tX2_leadOf := uX2_leadOf hlt (mJ6_bitCount_0f7a4 hlt) (fun M a h Kn Kx hok hN => by
  obtain ⟨κ, f, q, rfl, rfl, hq40, hk⟩ := hN
  have hc := nI_clamp (show q < 2 ^ 31 by omega)
  simp only [bX2_leadOf_0, pQ_0, pQ_5, pQ_6, hc, o_iload, o_aload, o_ic, o_lc, o_istore, o_astore, o_iinc, o_bin, o_idiv, o_ineg, o_i2c, o_i2l, o_lcmp, o_if1, o_if2, o_dup, o_dup2, o_getf, o_puti, o_ald, o_iast, o_cast, o_lald, o_last, o_mmin, o_mabs, o_ret, o_vret, o_throw, o_lsw01, o_callS0, o_callS1, o_callS2, o_callS3, o_callS4, o_callS5, o_callV0, o_callV1, o_callV2, o_callV3, o_callV4, o_callV5, zcall_no, zok_nil, zok_ref, zok_int, zE, List.map_cons, List.map_nil, List.length_cons, List.length_nil, List.replicate_succ, List.replicate_zero, List.cons_append, List.nil_append, List.append_nil, List.getElem?_cons_zero, List.getElem?_cons_succ, List.set_cons_zero, List.set_cons_succ, Option.toList_some, Option.toList_none, vp_nar_int, znar_b, zb_0, ne_eq, Bool.not_eq_false, Classical.not_not, nI_1, sh1_def, true_and, and_true, Nat.reduceAdd, Nat.reduceSub, Nat.reduceLT, Nat.reduceLeDiff, Value.category, Nat.zero_add, Nat.add_zero]
  refine ⟨vpin (by omega) (by omega), _, rfl, ?_⟩
  simp only [bX2_leadOf_0, pQ_0, pQ_5, pQ_6, hc, o_iload, o_aload, o_ic, o_lc, o_istore, o_astore, o_iinc, o_bin, o_idiv, o_ineg, o_i2c, o_i2l, o_lcmp, o_if1, o_if2, o_dup, o_dup2, o_getf, o_puti, o_ald, o_iast, o_cast, o_lald, o_last, o_mmin, o_mabs, o_ret, o_vret, o_throw, o_lsw01, o_callS0, o_callS1, o_callS2, o_callS3, o_callS4, o_callS5, o_callV0, o_callV1, o_callV2, o_callV3, o_callV4, o_callV5, zcall_no, zok_nil, zok_ref, zok_int, zE, List.map_cons, List.map_nil, List.length_cons, List.length_nil, List.replicate_succ, List.replicate_zero, List.cons_append, List.nil_append, List.append_nil, List.getElem?_cons_zero, List.getElem?_cons_succ, List.set_cons_zero, List.set_cons_succ, Option.toList_some, Option.toList_none, vp_nar_int, znar_b, zb_0, ne_eq, Bool.not_eq_false, Classical.not_not, nI_1, sh1_def, true_and, and_true, Nat.reduceAdd, Nat.reduceSub, Nat.reduceLT, Nat.reduceLeDiff, Value.category, Nat.zero_add, Nat.add_zero]
  refine ⟨vpin (by omega) (by omega), _, rfl, ?_⟩
  simp only [bX2_leadOf_0, o_iload, o_aload, o_ic, o_lc, o_istore, o_astore, o_iinc, o_bin, o_idiv, o_ineg, o_i2c, o_i2l, o_lcmp, o_if1, o_if2, o_dup, o_dup2, o_getf, o_puti, o_ald, o_iast, o_cast, o_lald, o_last, o_mmin, o_mabs, o_ret, o_vret, o_throw, o_lsw01, o_callS0, o_callS1, o_callS2, o_callS3, o_callS4, o_callS5, o_callV0, o_callV1, o_callV2, o_callV3, o_callV4, o_callV5, zcall_no, zok_nil, zok_ref, zok_int, zE, List.map_cons, List.map_nil, List.length_cons, List.length_nil, List.replicate_succ, List.replicate_zero, List.cons_append, List.nil_append, List.append_nil, List.getElem?_cons_zero, List.getElem?_cons_succ, List.set_cons_zero, List.set_cons_succ, Option.toList_some, Option.toList_none, vp_nar_int, znar_b, zb_0, ne_eq, Bool.not_eq_false, Classical.not_not, nI_1, sh1_def, true_and, and_true, Nat.reduceAdd, Nat.reduceSub, Nat.reduceLT, Nat.reduceLeDiff, Value.category, Nat.zero_add, Nat.add_zero]
  exact hk)
set_option maxHeartbeats 1000000 in
set_option maxRecDepth 20000 in
theorem mX2_isAllowedBy (hlt : l.stackTraces = false) : Sem l z0 b N D cA yX2_isAllowedBy cX2_isAllowedBy 3 (some .boolean) 3 70 3 zno tX2_isAllowedBy := uX2_isAllowedBy hlt (mX4_allows hlt) (fun M a h Kn Kx hok hN => by
  obtain ⟨κ, f, f2, bs, ρ, n, q, t, o, k, rfl, rfl, e2, hR, ⟨hq40, e3, e4, e5, ht, ho⟩, hk⟩ := hN
  have hc := nI_clamp (show q < 2 ^ 31 by omega)
  have r0 : pQ κ f bs = .inr (4, [.ref (bs + 1), .ref (bs + 2), .ref (bs + 3), .ref (bs + 4), .int ρ.2.2.2.2]) := by rw [e2]; exact pR_0
  simp only [bX2_isAllowedBy_0, pQ_0, pQ_1, pQ_2, pQ_3, hc, r0, e3, e4, e5, o_iload, o_aload, o_ic, o_lc, o_istore, o_astore, o_iinc, o_bin, o_idiv, o_ineg, o_i2c, o_i2l, o_lcmp, o_if1, o_if2, o_dup, o_dup2, o_getf, o_puti, o_ald, o_iast, o_cast, o_lald, o_last, o_mmin, o_mabs, o_ret, o_vret, o_throw, o_lsw01, o_callS0, o_callS1, o_callS2, o_callS3, o_callS4, o_callS5, o_callV0, o_callV1, o_callV2, o_callV3, o_callV4, o_callV5, zcall_no, zok_nil, zok_ref, zok_int, zE, List.map_cons, List.map_nil, List.length_cons, List.length_nil, List.replicate_succ, List.replicate_zero, List.cons_append, List.nil_append, List.append_nil, List.getElem?_cons_zero, List.getElem?_cons_succ, List.set_cons_zero, List.set_cons_succ, Option.toList_some, Option.toList_none, vp_nar_int, znar_b, zb_0, ne_eq, Bool.not_eq_false, Classical.not_not, nI_1, sh1_def, true_and, and_true, Nat.reduceAdd, Nat.reduceSub, Nat.reduceLT, Nat.reduceLeDiff, Value.category, Nat.zero_add, Nat.add_zero]
  refine ⟨vpin (by omega) (by omega), vpin (by omega) (by omega), vpin (by omega) (by omega), bs, ρ, f2, n, t, o, k, rfl, e2, hR, ht, ho, ?_⟩
  simp only [bX2_isAllowedBy_0, o_iload, o_aload, o_ic, o_lc, o_istore, o_astore, o_iinc, o_bin, o_idiv, o_ineg, o_i2c, o_i2l, o_lcmp, o_if1, o_if2, o_dup, o_dup2, o_getf, o_puti, o_ald, o_iast, o_cast, o_lald, o_last, o_mmin, o_mabs, o_ret, o_vret, o_throw, o_lsw01, o_callS0, o_callS1, o_callS2, o_callS3, o_callS4, o_callS5, o_callV0, o_callV1, o_callV2, o_callV3, o_callV4, o_callV5, zcall_no, zok_nil, zok_ref, zok_int, zE, List.map_cons, List.map_nil, List.length_cons, List.length_nil, List.replicate_succ, List.replicate_zero, List.cons_append, List.nil_append, List.append_nil, List.getElem?_cons_zero, List.getElem?_cons_succ, List.set_cons_zero, List.set_cons_succ, Option.toList_some, Option.toList_none, vp_nar_int, znar_b, zb_0, ne_eq, Bool.not_eq_false, Classical.not_not, nI_1, sh1_def, true_and, and_true, Nat.reduceAdd, Nat.reduceSub, Nat.reduceLT, Nat.reduceLeDiff, Value.category, Nat.zero_add, Nat.add_zero]
  exact hk)
set_option maxHeartbeats 1000000 in
set_option maxRecDepth 20000 in
theorem mX2_carryOut (hlt : l.stackTraces = false) : Sem l z0 b N D cA yX2_carryOut cX2_carryOut 3 none 4 91 3 zno tX2_carryOut := uX2_carryOut hlt (mX4_carryOut hlt) (fun M a h Kn Kx hok hN => by
  obtain ⟨κ, f, f2, bs, ρ, n, q, t, o, k, rfl, rfl, e2, hR, ⟨hq40, e3, e4, e5, ht, ho⟩, hk⟩ := hN
  have hc := nI_clamp (show q < 2 ^ 31 by omega)
  have r0 : pQ κ f bs = .inr (4, [.ref (bs + 1), .ref (bs + 2), .ref (bs + 3), .ref (bs + 4), .int ρ.2.2.2.2]) := by rw [e2]; exact pR_0
  simp only [bX2_carryOut_0, pQ_0, pQ_1, pQ_2, pQ_3, hc, r0, e3, e4, e5, o_iload, o_aload, o_ic, o_lc, o_istore, o_astore, o_iinc, o_bin, o_idiv, o_ineg, o_i2c, o_i2l, o_lcmp, o_if1, o_if2, o_dup, o_dup2, o_getf, o_puti, o_ald, o_iast, o_cast, o_lald, o_last, o_mmin, o_mabs, o_ret, o_vret, o_throw, o_lsw01, o_callS0, o_callS1, o_callS2, o_callS3, o_callS4, o_callS5, o_callV0, o_callV1, o_callV2, o_callV3, o_callV4, o_callV5, zcall_no, zok_nil, zok_ref, zok_int, zE, List.map_cons, List.map_nil, List.length_cons, List.length_nil, List.replicate_succ, List.replicate_zero, List.cons_append, List.nil_append, List.append_nil, List.getElem?_cons_zero, List.getElem?_cons_succ, List.set_cons_zero, List.set_cons_succ, Option.toList_some, Option.toList_none, vp_nar_int, znar_b, zb_0, ne_eq, Bool.not_eq_false, Classical.not_not, nI_1, sh1_def, true_and, and_true, Nat.reduceAdd, Nat.reduceSub, Nat.reduceLT, Nat.reduceLeDiff, Value.category, Nat.zero_add, Nat.add_zero]
  refine ⟨vpin (by omega) (by omega), vpin (by omega) (by omega), vpin (by omega) (by omega), bs, ρ, f2, n, t, o, k, rfl, e2, hR, ht, ho, ?_⟩
  simp only [bX2_carryOut_0, o_iload, o_aload, o_ic, o_lc, o_istore, o_astore, o_iinc, o_bin, o_idiv, o_ineg, o_i2c, o_i2l, o_lcmp, o_if1, o_if2, o_dup, o_dup2, o_getf, o_puti, o_ald, o_iast, o_cast, o_lald, o_last, o_mmin, o_mabs, o_ret, o_vret, o_throw, o_lsw01, o_callS0, o_callS1, o_callS2, o_callS3, o_callS4, o_callS5, o_callV0, o_callV1, o_callV2, o_callV3, o_callV4, o_callV5, zcall_no, zok_nil, zok_ref, zok_int, zE, List.map_cons, List.map_nil, List.length_cons, List.length_nil, List.replicate_succ, List.replicate_zero, List.cons_append, List.nil_append, List.append_nil, List.getElem?_cons_zero, List.getElem?_cons_succ, List.set_cons_zero, List.set_cons_succ, Option.toList_some, Option.toList_none, vp_nar_int, znar_b, zb_0, ne_eq, Bool.not_eq_false, Classical.not_not, nI_1, sh1_def, true_and, and_true, Nat.reduceAdd, Nat.reduceSub, Nat.reduceLT, Nat.reduceLeDiff, Value.category, Nat.zero_add, Nat.add_zero]
  exact hk)
set_option maxHeartbeats 1000000 in
set_option maxRecDepth 20000 in
theorem mX0_startEdit (hlt : l.stackTraces = false) : Sem l z0 b N D cA yX0_startEdit cX0_startEdit 2 none 0 0 1 zno tX0_startEdit := uX0_startEdit hlt (fun M a h Kn Kx hok hN A h2 => by
  obtain ⟨η, f, m, rfl, rfl, hm, hm20, hk⟩ := hN
  obtain ⟨se, ed, ch, ah, sz, ks, ns⟩ := η
  have hm' : sz = nI m := hm
  subst hm'
  have loop : ∀ (k i : Nat), i + k = m → A 2 [some (.ref 22), some (.int (nI i))] [] (pH (se, (fun j => if j < i then se j else ed j), ch, ah, nI m, ks, ns) f) := by
    intro k
    induction k with
    | zero =>
      intro i hi
      apply h2
      have hi9 : i = m := by omega
      subst hi9
      simp only [bX0_startEdit_2, bX0_startEdit_0, pH_0, o_iload, o_aload, o_ic, o_lc, o_istore, o_astore, o_iinc, o_bin, o_idiv, o_ineg, o_i2c, o_i2l, o_lcmp, o_if1, o_if2, o_dup, o_dup2, o_getf, o_puti, o_ald, o_iast, o_cast, o_lald, o_last, o_mmin, o_mabs, o_ret, o_vret, o_throw, o_lsw01, o_callS0, o_callS1, o_callS2, o_callS3, o_callS4, o_callS5, o_callV0, o_callV1, o_callV2, o_callV3, o_callV4, o_callV5, zcall_no, zok_nil, zok_ref, zok_int, zE, List.map_cons, List.map_nil, List.length_cons, List.length_nil, List.replicate_succ, List.replicate_zero, List.cons_append, List.nil_append, List.append_nil, List.getElem?_cons_zero, List.getElem?_cons_succ, List.set_cons_zero, List.set_cons_succ, Option.toList_some, Option.toList_none, vp_nar_int, znar_b, zb_0, ne_eq, Bool.not_eq_false, Classical.not_not, nI_1, sh1_def, true_and, and_true, Nat.reduceAdd, Nat.reduceSub, Nat.reduceLT, Nat.reduceLeDiff, Value.category, Nat.zero_add, Nat.add_zero]
      exact ⟨fun _ => hk, fun hc => absurd (Int32.le_refl _) hc⟩
    | succ k ih =>
      intro i hi
      apply h2
      have hc := nI_clamp (show i < 2 ^ 31 by omega)
      simp only [bX0_startEdit_2, bX0_startEdit_0, pH_0, pH_1, pH_2, pH_s1, hc, o_iload, o_aload, o_ic, o_lc, o_istore, o_astore, o_iinc, o_bin, o_idiv, o_ineg, o_i2c, o_i2l, o_lcmp, o_if1, o_if2, o_dup, o_dup2, o_getf, o_puti, o_ald, o_iast, o_cast, o_lald, o_last, o_mmin, o_mabs, o_ret, o_vret, o_throw, o_lsw01, o_callS0, o_callS1, o_callS2, o_callS3, o_callS4, o_callS5, o_callV0, o_callV1, o_callV2, o_callV3, o_callV4, o_callV5, zcall_no, zok_nil, zok_ref, zok_int, zE, List.map_cons, List.map_nil, List.length_cons, List.length_nil, List.replicate_succ, List.replicate_zero, List.cons_append, List.nil_append, List.append_nil, List.getElem?_cons_zero, List.getElem?_cons_succ, List.set_cons_zero, List.set_cons_succ, Option.toList_some, Option.toList_none, vp_nar_int, znar_b, zb_0, ne_eq, Bool.not_eq_false, Classical.not_not, nI_1, sh1_def, true_and, and_true, Nat.reduceAdd, Nat.reduceSub, Nat.reduceLT, Nat.reduceLeDiff, Value.category, Nat.zero_add, Nat.add_zero]
      have ih' := ih (i + 1) (by omega)
      refine ⟨fun hc => absurd (nI_le_le (by omega) (by omega) hc) (by omega), fun _ => ⟨vpin (by omega) (by omega), vpin (by omega) (by omega), ?_⟩⟩
      rw [upd_fill (g := se) rfl]
      exact ih'
  simp only [bX0_startEdit_2, bX0_startEdit_0, o_iload, o_aload, o_ic, o_lc, o_istore, o_astore, o_iinc, o_bin, o_idiv, o_ineg, o_i2c, o_i2l, o_lcmp, o_if1, o_if2, o_dup, o_dup2, o_getf, o_puti, o_ald, o_iast, o_cast, o_lald, o_last, o_mmin, o_mabs, o_ret, o_vret, o_throw, o_lsw01, o_callS0, o_callS1, o_callS2, o_callS3, o_callS4, o_callS5, o_callV0, o_callV1, o_callV2, o_callV3, o_callV4, o_callV5, zcall_no, zok_nil, zok_ref, zok_int, zE, List.map_cons, List.map_nil, List.length_cons, List.length_nil, List.replicate_succ, List.replicate_zero, List.cons_append, List.nil_append, List.append_nil, List.getElem?_cons_zero, List.getElem?_cons_succ, List.set_cons_zero, List.set_cons_succ, Option.toList_some, Option.toList_none, vp_nar_int, znar_b, zb_0, ne_eq, Bool.not_eq_false, Classical.not_not, nI_1, sh1_def, true_and, and_true, Nat.reduceAdd, Nat.reduceSub, Nat.reduceLT, Nat.reduceLeDiff, Value.category, Nat.zero_add, Nat.add_zero]
  have := loop m 0 (by omega)
  rw [← fill_0 (g := se) (h := ed)] at this
  exact this)
set_option maxHeartbeats 1000000 in
set_option maxRecDepth 20000 in
theorem mX0_keep (hlt : l.stackTraces = false) : Sem l z0 b N D cA yX0_keep cX0_keep 3 none 1 19 2 zno tX0_keep := uX0_keep hlt (fun M a h Kn Kx hok hN A h2 => by
  obtain ⟨η, f, m, k0, s, x, rfl, rfl, ⟨hm, hm20, hk0, hk20, hs, hs20⟩, hk⟩ := hN
  obtain ⟨se, ed, ch, ah, sz, ks, ns⟩ := η
  have hm' : sz = nI m := hm
  have hk' : ks = nI k0 := hk0
  have hs' : ns = nI s := hs
  subst hm'; subst hk'; subst hs'
  have hcs := nI_clamp (show s < 2 ^ 31 by omega)
  have hmin : (if (20 : Int32) < nI (k0 + 1) then (20 : Int32) else nI (k0 + 1)) = nI (min (k0 + 1) 20) := by
    rw [show (20 : Int32) = nI 20 from rfl]
    by_cases h9 : nI 20 < nI (k0 + 1)
    · rw [if_pos h9]
      have := (nI_ltI (by omega) (by omega)).mp h9
      rw [Nat.min_eq_right (by omega)]
    · rw [if_neg h9]
      have h10 : ¬ 20 < k0 + 1 := fun q => h9 ((nI_ltI (a := 20) (b := k0 + 1) (by omega) (by omega)).mpr q)
      rw [Nat.min_eq_left (by omega)]
  have fin : ∀ (v : Int32), v = nI (if s + 1 < 20 then s + 1 else 0) → Kn none (pH ((fun j => if j < m then ed j else se j), ed, upd ch s x, (fun j => if s * 20 ≤ j ∧ j < s * 20 + m then se (j - s * 20) else ah j), nI m, nI (min (k0 + 1) 20), v) f) := by
    intro v hv
    rw [hv]
    exact hk
  have loop : ∀ (k i : Nat), i + k = m → A 2 [some (.ref 22), some (.int x), some (.int (nI i))] [] (pH ((fun j => if j < i then ed j else se j), ed, ch, (fun j => if s * 20 ≤ j ∧ j < s * 20 + i then se (j - s * 20) else ah j), nI m, nI k0, nI s) f) := by
    intro k
    induction k with
    | zero =>
      intro i hi
      apply h2
      have hi9 : i = m := by omega
      subst hi9
      simp only [bX0_keep_80, bX0_keep_2, bX0_keep_0, pH_0, pH_3, pH_s2, pH_s5, pH_s6, hcs, hmin, o_iload, o_aload, o_ic, o_lc, o_istore, o_astore, o_iinc, o_bin, o_idiv, o_ineg, o_i2c, o_i2l, o_lcmp, o_if1, o_if2, o_dup, o_dup2, o_getf, o_puti, o_ald, o_iast, o_cast, o_lald, o_last, o_mmin, o_mabs, o_ret, o_vret, o_throw, o_lsw01, o_callS0, o_callS1, o_callS2, o_callS3, o_callS4, o_callS5, o_callV0, o_callV1, o_callV2, o_callV3, o_callV4, o_callV5, zcall_no, zok_nil, zok_ref, zok_int, zE, List.map_cons, List.map_nil, List.length_cons, List.length_nil, List.replicate_succ, List.replicate_zero, List.cons_append, List.nil_append, List.append_nil, List.getElem?_cons_zero, List.getElem?_cons_succ, List.set_cons_zero, List.set_cons_succ, Option.toList_some, Option.toList_none, vp_nar_int, znar_b, zb_0, ne_eq, Bool.not_eq_false, Classical.not_not, nI_1, sh1_def, true_and, and_true, Nat.reduceAdd, Nat.reduceSub, Nat.reduceLT, Nat.reduceLeDiff, Value.category, Nat.zero_add, Nat.add_zero]
      refine ⟨fun _ => ⟨vpin (by omega) (by omega), fun h1 => ?_, fun h1 => ?_⟩, fun hc => absurd (Int32.le_refl _) hc⟩
      · refine fin 0 ?_
        rw [show (20 : Int32) = nI 20 from rfl, nI_leI (by omega) (by omega)] at h1
        rw [if_neg (by omega)]; rfl
      · refine fin (nI (s + 1)) ?_
        rw [show (20 : Int32) = nI 20 from rfl, nI_leI (by omega) (by omega)] at h1
        rw [if_pos (by omega)]
    | succ k ih =>
      intro i hi
      apply h2
      have hc := nI_clamp (show i < 2 ^ 31 by omega)
      have hc20 := nI_clamp (show s * 20 + i < 2 ^ 31 by omega)
      simp only [bX0_keep_80, bX0_keep_2, bX0_keep_0, pH_0, pH_1, pH_2, pH_4, pH_s0, pH_s3, hc, nI_mul20, hc20, o_iload, o_aload, o_ic, o_lc, o_istore, o_astore, o_iinc, o_bin, o_idiv, o_ineg, o_i2c, o_i2l, o_lcmp, o_if1, o_if2, o_dup, o_dup2, o_getf, o_puti, o_ald, o_iast, o_cast, o_lald, o_last, o_mmin, o_mabs, o_ret, o_vret, o_throw, o_lsw01, o_callS0, o_callS1, o_callS2, o_callS3, o_callS4, o_callS5, o_callV0, o_callV1, o_callV2, o_callV3, o_callV4, o_callV5, zcall_no, zok_nil, zok_ref, zok_int, zE, List.map_cons, List.map_nil, List.length_cons, List.length_nil, List.replicate_succ, List.replicate_zero, List.cons_append, List.nil_append, List.append_nil, List.getElem?_cons_zero, List.getElem?_cons_succ, List.set_cons_zero, List.set_cons_succ, Option.toList_some, Option.toList_none, vp_nar_int, znar_b, zb_0, ne_eq, Bool.not_eq_false, Classical.not_not, nI_1, sh1_def, true_and, and_true, Nat.reduceAdd, Nat.reduceSub, Nat.reduceLT, Nat.reduceLeDiff, Value.category, Nat.zero_add, Nat.add_zero]
      have ih' := ih (i + 1) (by omega)
      refine ⟨fun hc => absurd (nI_le_le (by omega) (by omega) hc) (by omega), fun _ => ⟨vpin (by omega) (by omega), vpin (by omega) (by omega), vpin (by omega) (by omega), vpin (by omega) (by omega), ?_⟩⟩
      rw [upd_fill (g := ed) rfl, upd_blk (g := se) (by simp)]
      exact ih'
  simp only [bX0_keep_80, bX0_keep_2, bX0_keep_0, o_iload, o_aload, o_ic, o_lc, o_istore, o_astore, o_iinc, o_bin, o_idiv, o_ineg, o_i2c, o_i2l, o_lcmp, o_if1, o_if2, o_dup, o_dup2, o_getf, o_puti, o_ald, o_iast, o_cast, o_lald, o_last, o_mmin, o_mabs, o_ret, o_vret, o_throw, o_lsw01, o_callS0, o_callS1, o_callS2, o_callS3, o_callS4, o_callS5, o_callV0, o_callV1, o_callV2, o_callV3, o_callV4, o_callV5, zcall_no, zok_nil, zok_ref, zok_int, zE, List.map_cons, List.map_nil, List.length_cons, List.length_nil, List.replicate_succ, List.replicate_zero, List.cons_append, List.nil_append, List.append_nil, List.getElem?_cons_zero, List.getElem?_cons_succ, List.set_cons_zero, List.set_cons_succ, Option.toList_some, Option.toList_none, vp_nar_int, znar_b, zb_0, ne_eq, Bool.not_eq_false, Classical.not_not, nI_1, sh1_def, true_and, and_true, Nat.reduceAdd, Nat.reduceSub, Nat.reduceLT, Nat.reduceLeDiff, Value.category, Nat.zero_add, Nat.add_zero]
  have := loop m 0 (by omega)
  rw [← fill_0 (g := ed) (h := se), ← blk_0 (g := se) (h := ah)] at this
  exact this)
end S2
