section R1
variable {l : Launch} {z0 b N : Nat} {D : va_G} {cA : Nat → ClassId}
set_option maxHeartbeats 1000000 in
theorem mX5_has (hlt : l.stackTraces = false) : Sem l z0 b N D cA yX5_has cX5_has 2 (some .boolean) 0 0 2 zno tX5_has := uX5_has hlt (fun M a h Kn Kx hok hN => by
  obtain ⟨x, j, rfl, hj, hk⟩ := hN
  simp only [bX5_has_14, bX5_has_0, o_iload, o_aload, o_ic, o_lc, o_istore, o_astore, o_iinc, o_bin, o_idiv, o_ineg, o_i2c, o_i2l, o_lcmp, o_if1, o_if2, o_dup, o_dup2, o_getf, o_puti, o_ald, o_iast, o_cast, o_lald, o_last, o_mmin, o_mabs, o_ret, o_vret, o_throw, o_lsw01, o_callS0, o_callS1, o_callS2, o_callS3, o_callS4, o_callS5, o_callV0, o_callV1, o_callV2, o_callV3, o_callV4, o_callV5, zcall_no, zok_nil, zok_ref, zok_int, zE, List.map_cons, List.map_nil, List.length_cons, List.length_nil, List.replicate_succ, List.replicate_zero, List.cons_append, List.nil_append, List.append_nil, List.getElem?_cons_zero, List.getElem?_cons_succ, List.set_cons_zero, List.set_cons_succ, Option.toList_some, Option.toList_none, vp_nar_int, znar_b, zb_0, ne_eq, Bool.not_eq_false, Classical.not_not, nI_1, sh1_def, true_and, and_true, Nat.reduceAdd, Nat.reduceSub, Nat.reduceLT, Nat.reduceLeDiff, Value.category, Nat.zero_add, Nat.add_zero]
  refine ⟨fun hc => ?_, fun hc => ?_⟩
  · have hb : bt x j = false := by simpa [hasb hj] using hc
    rw [hb] at hk
    exact ⟨rfl, hk⟩
  · have hb : bt x j = true := by simpa [hasb hj] using hc
    rw [hb] at hk
    exact ⟨rfl, hk⟩)
end R1
