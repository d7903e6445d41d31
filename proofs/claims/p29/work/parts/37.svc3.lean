section S3
variable {l : Launch} {z0 b N : Nat} {D : va_G} {cA : Nat → ClassId}
theorem fChg_s (se ed : Nat → Int32) (i : Nat) : fChg se ed (i + 1) = if ed i = se i then fChg se ed i else fChg se ed i ||| sh1 i := rfl
set_option maxHeartbeats 1000000 in
set_option maxRecDepth 20000 in
theorem mX0_finishEdit (hlt : l.stackTraces = false) : Sem l z0 b N D cA yX0_finishEdit cX0_finishEdit 3 (some .int) 2 41 1 zno tX0_finishEdit := uX0_finishEdit hlt (mX0_keep hlt) (mJ6_bitCount_0f7a4 hlt) (fun M a h Kn Kx hok hN A h4 => by
  obtain ⟨η, f, m, k0, s, rfl, rfl, hH, hk⟩ := hN
  have hH' := hH
  obtain ⟨hm, hm20, hk0, hk20, hs, hs20⟩ := hH
  obtain ⟨se, ed, ch, ah, sz, ks, ns⟩ := η
  have hm' : sz = nI m := hm
  subst hm'
  have loop : ∀ (k i : Nat), i + k = m → A 4 [some (.ref 22), some (.int (fChg se ed i)), some (.int (nI i))] [] (pH (se, ed, ch, ah, nI m, ks, ns) f) := by
    intro k
    induction k with
    | zero =>
      intro i hi
      apply h4
      have hi9 : i = m := by omega
      subst hi9
      simp only [bX0_finishEdit_48, bX0_finishEdit_33, bX0_finishEdit_4, bX0_finishEdit_0, pH_0, o_iload, o_aload, o_ic, o_lc, o_istore, o_astore, o_iinc, o_bin, o_idiv, o_ineg, o_i2c, o_i2l, o_lcmp, o_if1, o_if2, o_dup, o_dup2, o_getf, o_puti, o_ald, o_iast, o_cast, o_lald, o_last, o_mmin, o_mabs, o_ret, o_vret, o_throw, o_lsw01, o_callS0, o_callS1, o_callS2, o_callS3, o_callS4, o_callS5, o_callV0, o_callV1, o_callV2, o_callV3, o_callV4, o_callV5, zcall_no, zok_nil, zok_ref, zok_int, zE, List.map_cons, List.map_nil, List.length_cons, List.length_nil, List.replicate_succ, List.replicate_zero, List.cons_append, List.nil_append, List.append_nil, List.getElem?_cons_zero, List.getElem?_cons_succ, List.set_cons_zero, List.set_cons_succ, Option.toList_some, Option.toList_none, vp_nar_int, znar_b, zb_0, ne_eq, Bool.not_eq_false, Classical.not_not, nI_1, sh1_def, true_and, and_true, Nat.reduceAdd, Nat.reduceSub, Nat.reduceLT, Nat.reduceLeDiff, Value.category, Nat.zero_add, Nat.add_zero]
      refine ⟨fun _ => ⟨fun h1 => ?_, fun h1 => ?_⟩, fun hc => absurd (Int32.le_refl _) hc⟩
      · refine ⟨_, rfl, ?_⟩
        simp only [bX0_finishEdit_48, bX0_finishEdit_33, bX0_finishEdit_4, bX0_finishEdit_0, o_iload, o_aload, o_ic, o_lc, o_istore, o_astore, o_iinc, o_bin, o_idiv, o_ineg, o_i2c, o_i2l, o_lcmp, o_if1, o_if2, o_dup, o_dup2, o_getf, o_puti, o_ald, o_iast, o_cast, o_lald, o_last, o_mmin, o_mabs, o_ret, o_vret, o_throw, o_lsw01, o_callS0, o_callS1, o_callS2, o_callS3, o_callS4, o_callS5, o_callV0, o_callV1, o_callV2, o_callV3, o_callV4, o_callV5, zcall_no, zok_nil, zok_ref, zok_int, zE, List.map_cons, List.map_nil, List.length_cons, List.length_nil, List.replicate_succ, List.replicate_zero, List.cons_append, List.nil_append, List.append_nil, List.getElem?_cons_zero, List.getElem?_cons_succ, List.set_cons_zero, List.set_cons_succ, Option.toList_some, Option.toList_none, vp_nar_int, znar_b, zb_0, ne_eq, Bool.not_eq_false, Classical.not_not, nI_1, sh1_def, true_and, and_true, Nat.reduceAdd, Nat.reduceSub, Nat.reduceLT, Nat.reduceLeDiff, Value.category, Nat.zero_add, Nat.add_zero]
        have hk2 := hk
        simp only [h1, if_true] at hk2
        rw [h1]
        exact hk2
      · refine ⟨_, f, i, k0, s, _, rfl, rfl, hH', ?_⟩
        simp only [bX0_finishEdit_48, bX0_finishEdit_33, bX0_finishEdit_4, bX0_finishEdit_0, o_iload, o_aload, o_ic, o_lc, o_istore, o_astore, o_iinc, o_bin, o_idiv, o_ineg, o_i2c, o_i2l, o_lcmp, o_if1, o_if2, o_dup, o_dup2, o_getf, o_puti, o_ald, o_iast, o_cast, o_lald, o_last, o_mmin, o_mabs, o_ret, o_vret, o_throw, o_lsw01, o_callS0, o_callS1, o_callS2, o_callS3, o_callS4, o_callS5, o_callV0, o_callV1, o_callV2, o_callV3, o_callV4, o_callV5, zcall_no, zok_nil, zok_ref, zok_int, zE, List.map_cons, List.map_nil, List.length_cons, List.length_nil, List.replicate_succ, List.replicate_zero, List.cons_append, List.nil_append, List.append_nil, List.getElem?_cons_zero, List.getElem?_cons_succ, List.set_cons_zero, List.set_cons_succ, Option.toList_some, Option.toList_none, vp_nar_int, znar_b, zb_0, ne_eq, Bool.not_eq_false, Classical.not_not, nI_1, sh1_def, true_and, and_true, Nat.reduceAdd, Nat.reduceSub, Nat.reduceLT, Nat.reduceLeDiff, Value.category, Nat.zero_add, Nat.add_zero]
        refine ⟨_, rfl, ?_⟩
        simp only [bX0_finishEdit_48, bX0_finishEdit_33, bX0_finishEdit_4, bX0_finishEdit_0, o_iload, o_aload, o_ic, o_lc, o_istore, o_astore, o_iinc, o_bin, o_idiv, o_ineg, o_i2c, o_i2l, o_lcmp, o_if1, o_if2, o_dup, o_dup2, o_getf, o_puti, o_ald, o_iast, o_cast, o_lald, o_last, o_mmin, o_mabs, o_ret, o_vret, o_throw, o_lsw01, o_callS0, o_callS1, o_callS2, o_callS3, o_callS4, o_callS5, o_callV0, o_callV1, o_callV2, o_callV3, o_callV4, o_callV5, zcall_no, zok_nil, zok_ref, zok_int, zE, List.map_cons, List.map_nil, List.length_cons, List.length_nil, List.replicate_succ, List.replicate_zero, List.cons_append, List.nil_append, List.append_nil, List.getElem?_cons_zero, List.getElem?_cons_succ, List.set_cons_zero, List.set_cons_succ, Option.toList_some, Option.toList_none, vp_nar_int, znar_b, zb_0, ne_eq, Bool.not_eq_false, Classical.not_not, nI_1, sh1_def, true_and, and_true, Nat.reduceAdd, Nat.reduceSub, Nat.reduceLT, Nat.reduceLeDiff, Value.category, Nat.zero_add, Nat.add_zero]
        have hk2 := hk
        simp only [h1, if_false] at hk2
        exact hk2
    | succ k ih =>
      intro i hi
      apply h4
      have hc := nI_clamp (show i < 2 ^ 31 by omega)
      simp only [bX0_finishEdit_48, bX0_finishEdit_33, bX0_finishEdit_4, bX0_finishEdit_0, pH_0, pH_1, pH_2, hc, o_iload, o_aload, o_ic, o_lc, o_istore, o_astore, o_iinc, o_bin, o_idiv, o_ineg, o_i2c, o_i2l, o_lcmp, o_if1, o_if2, o_dup, o_dup2, o_getf, o_puti, o_ald, o_iast, o_cast, o_lald, o_last, o_mmin, o_mabs, o_ret, o_vret, o_throw, o_lsw01, o_callS0, o_callS1, o_callS2, o_callS3, o_callS4, o_callS5, o_callV0, o_callV1, o_callV2, o_callV3, o_callV4, o_callV5, zcall_no, zok_nil, zok_ref, zok_int, zE, List.map_cons, List.map_nil, List.length_cons, List.length_nil, List.replicate_succ, List.replicate_zero, List.cons_append, List.nil_append, List.append_nil, List.getElem?_cons_zero, List.getElem?_cons_succ, List.set_cons_zero, List.set_cons_succ, Option.toList_some, Option.toList_none, vp_nar_int, znar_b, zb_0, ne_eq, Bool.not_eq_false, Classical.not_not, nI_1, sh1_def, true_and, and_true, Nat.reduceAdd, Nat.reduceSub, Nat.reduceLT, Nat.reduceLeDiff, Value.category, Nat.zero_add, Nat.add_zero]
      have ih' := ih (i + 1) (by omega)
      refine ⟨fun hc => absurd (nI_le_le (by omega) (by omega) hc) (by omega), fun _ => ⟨vpin (by omega) (by omega), vpin (by omega) (by omega), fun h1 => ?_, fun h1 => ?_⟩⟩
      · simpa [fChg_s, h1] using ih'
      · simpa [fChg_s, h1] using ih'
  simp only [bX0_finishEdit_48, bX0_finishEdit_33, bX0_finishEdit_4, bX0_finishEdit_0, o_iload, o_aload, o_ic, o_lc, o_istore, o_astore, o_iinc, o_bin, o_idiv, o_ineg, o_i2c, o_i2l, o_lcmp, o_if1, o_if2, o_dup, o_dup2, o_getf, o_puti, o_ald, o_iast, o_cast, o_lald, o_last, o_mmin, o_mabs, o_ret, o_vret, o_throw, o_lsw01, o_callS0, o_callS1, o_callS2, o_callS3, o_callS4, o_callS5, o_callV0, o_callV1, o_callV2, o_callV3, o_callV4, o_callV5, zcall_no, zok_nil, zok_ref, zok_int, zE, List.map_cons, List.map_nil, List.length_cons, List.length_nil, List.replicate_succ, List.replicate_zero, List.cons_append, List.nil_append, List.append_nil, List.getElem?_cons_zero, List.getElem?_cons_succ, List.set_cons_zero, List.set_cons_succ, Option.toList_some, Option.toList_none, vp_nar_int, znar_b, zb_0, ne_eq, Bool.not_eq_false, Classical.not_not, nI_1, sh1_def, true_and, and_true, Nat.reduceAdd, Nat.reduceSub, Nat.reduceLT, Nat.reduceLeDiff, Value.category, Nat.zero_add, Nat.add_zero]
  exact loop m 0 (by omega))
set_option maxHeartbeats 1000000 in
set_option maxRecDepth 20000 in
theorem mX0_restoreLatest (hlt : l.stackTraces = false) : Sem l z0 b N D cA yX0_restoreLatest cX0_restoreLatest 3 (some .int) 1 21 1 zno tX0_restoreLatest := uX0_restoreLatest hlt (mX5_has hlt) (mJ6_bitCount_0f7a4 hlt) (fun M a h Kn Kx hok hN A h44 => by
  obtain ⟨η, f, m, k0, s, rfl, rfl, ⟨hm, hm20, hk0, hk20, hs, hs20⟩, hpos, hk⟩ := hN
  obtain ⟨se, ed, ch, ah, sz, ks, ns⟩ := η
  have hm' : sz = nI m := hm
  have hk' : ks = nI k0 := hk0
  have hs' : ns = nI s := hs
  subst hm'; subst hk'; subst hs'
  have hp20 : fPrev s < 20 := by unfold fPrev; split <;> omega
  have hcp := nI_clamp (show fPrev s < 2 ^ 31 by omega)
  have hk1 : nI k0 - 1 = nI (k0 - 1) := by
    rw [show k0 = (k0 - 1) + 1 by omega, nI_pred]; rfl
  obtain ⟨x, hx⟩ : ∃ x, x = ch (fPrev s) := ⟨_, rfl⟩
  have hk2 : Kn (some (.int (fBc x))) (pH ((fun j => if j < m then (fun j => if bt x j = true then ah (fPrev s * 20 + j) else se j) j else se j), ed, ch, ah, nI m, nI (k0 - 1), nI (fPrev s)) f) := by
    have e : (fun j => if j < m then (fun j => if bt x j = true then ah (fPrev s * 20 + j) else se j) j else se j) = (fun j => if j < m ∧ bt x j = true then ah (fPrev s * 20 + j) else se j) := by
      funext j
      by_cases h1 : j < m <;> by_cases h2 : bt x j = true <;> simp [h1, h2]
    rw [e, hx]
    exact hk
  have loop : ∀ (k i : Nat), i + k = m → A 44 [some (.ref 22), some (.int x), some (.int (nI i))] [] (pH ((fun j => if j < i then (fun j => if bt x j = true then ah (fPrev s * 20 + j) else se j) j else se j), ed, ch, ah, nI m, nI (k0 - 1), nI (fPrev s)) f) := by
    intro k
    induction k with
    | zero =>
      intro i hi
      apply h44
      have hi9 : i = m := by omega
      subst hi9
      simp only [bX0_restoreLatest_80, bX0_restoreLatest_44, bX0_restoreLatest_19, bX0_restoreLatest_0, pH_0, o_iload, o_aload, o_ic, o_lc, o_istore, o_astore, o_iinc, o_bin, o_idiv, o_ineg, o_i2c, o_i2l, o_lcmp, o_if1, o_if2, o_dup, o_dup2, o_getf, o_puti, o_ald, o_iast, o_cast, o_lald, o_last, o_mmin, o_mabs, o_ret, o_vret, o_throw, o_lsw01, o_callS0, o_callS1, o_callS2, o_callS3, o_callS4, o_callS5, o_callV0, o_callV1, o_callV2, o_callV3, o_callV4, o_callV5, zcall_no, zok_nil, zok_ref, zok_int, zE, List.map_cons, List.map_nil, List.length_cons, List.length_nil, List.replicate_succ, List.replicate_zero, List.cons_append, List.nil_append, List.append_nil, List.getElem?_cons_zero, List.getElem?_cons_succ, List.set_cons_zero, List.set_cons_succ, Option.toList_some, Option.toList_none, vp_nar_int, znar_b, zb_0, ne_eq, Bool.not_eq_false, Classical.not_not, nI_1, sh1_def, true_and, and_true, Nat.reduceAdd, Nat.reduceSub, Nat.reduceLT, Nat.reduceLeDiff, Value.category, Nat.zero_add, Nat.add_zero]
      refine ⟨fun _ => ⟨_, rfl, ?_⟩, fun hc => absurd (Int32.le_refl _) hc⟩
      simp only [bX0_restoreLatest_80, bX0_restoreLatest_44, bX0_restoreLatest_19, bX0_restoreLatest_0, o_iload, o_aload, o_ic, o_lc, o_istore, o_astore, o_iinc, o_bin, o_idiv, o_ineg, o_i2c, o_i2l, o_lcmp, o_if1, o_if2, o_dup, o_dup2, o_getf, o_puti, o_ald, o_iast, o_cast, o_lald, o_last, o_mmin, o_mabs, o_ret, o_vret, o_throw, o_lsw01, o_callS0, o_callS1, o_callS2, o_callS3, o_callS4, o_callS5, o_callV0, o_callV1, o_callV2, o_callV3, o_callV4, o_callV5, zcall_no, zok_nil, zok_ref, zok_int, zE, List.map_cons, List.map_nil, List.length_cons, List.length_nil, List.replicate_succ, List.replicate_zero, List.cons_append, List.nil_append, List.append_nil, List.getElem?_cons_zero, List.getElem?_cons_succ, List.set_cons_zero, List.set_cons_succ, Option.toList_some, Option.toList_none, vp_nar_int, znar_b, zb_0, ne_eq, Bool.not_eq_false, Classical.not_not, nI_1, sh1_def, true_and, and_true, Nat.reduceAdd, Nat.reduceSub, Nat.reduceLT, Nat.reduceLeDiff, Value.category, Nat.zero_add, Nat.add_zero]
      exact hk2
    | succ k ih =>
      intro i hi
      apply h44
      have hc := nI_clamp (show i < 2 ^ 31 by omega)
      have hc20 := nI_clamp (show fPrev s * 20 + i < 2 ^ 31 by omega)
      have ih' := ih (i + 1) (by omega)
      rw [← upd_fill (g := fun j => if bt x j = true then ah (fPrev s * 20 + j) else se j) (h := se) (i := i) (x := if bt x i = true then ah (fPrev s * 20 + i) else se i) rfl] at ih'
      simp only [bX0_restoreLatest_80, bX0_restoreLatest_44, bX0_restoreLatest_19, bX0_restoreLatest_0, pH_0, o_iload, o_aload, o_ic, o_lc, o_istore, o_astore, o_iinc, o_bin, o_idiv, o_ineg, o_i2c, o_i2l, o_lcmp, o_if1, o_if2, o_dup, o_dup2, o_getf, o_puti, o_ald, o_iast, o_cast, o_lald, o_last, o_mmin, o_mabs, o_ret, o_vret, o_throw, o_lsw01, o_callS0, o_callS1, o_callS2, o_callS3, o_callS4, o_callS5, o_callV0, o_callV1, o_callV2, o_callV3, o_callV4, o_callV5, zcall_no, zok_nil, zok_ref, zok_int, zE, List.map_cons, List.map_nil, List.length_cons, List.length_nil, List.replicate_succ, List.replicate_zero, List.cons_append, List.nil_append, List.append_nil, List.getElem?_cons_zero, List.getElem?_cons_succ, List.set_cons_zero, List.set_cons_succ, Option.toList_some, Option.toList_none, vp_nar_int, znar_b, zb_0, ne_eq, Bool.not_eq_false, Classical.not_not, nI_1, sh1_def, true_and, and_true, Nat.reduceAdd, Nat.reduceSub, Nat.reduceLT, Nat.reduceLeDiff, Value.category, Nat.zero_add, Nat.add_zero]
      refine ⟨fun hc => absurd (nI_le_le (by omega) (by omega) hc) (by omega), fun _ => ⟨_, _, rfl, by omega, ?_⟩⟩
      simp only [bX0_restoreLatest_80, bX0_restoreLatest_44, bX0_restoreLatest_19, bX0_restoreLatest_0, pH_0, pH_1, pH_4, pH_s0, hc, nI_mul20, hc20, o_iload, o_aload, o_ic, o_lc, o_istore, o_astore, o_iinc, o_bin, o_idiv, o_ineg, o_i2c, o_i2l, o_lcmp, o_if1, o_if2, o_dup, o_dup2, o_getf, o_puti, o_ald, o_iast, o_cast, o_lald, o_last, o_mmin, o_mabs, o_ret, o_vret, o_throw, o_lsw01, o_callS0, o_callS1, o_callS2, o_callS3, o_callS4, o_callS5, o_callV0, o_callV1, o_callV2, o_callV3, o_callV4, o_callV5, zcall_no, zok_nil, zok_ref, zok_int, zE, List.map_cons, List.map_nil, List.length_cons, List.length_nil, List.replicate_succ, List.replicate_zero, List.cons_append, List.nil_append, List.append_nil, List.getElem?_cons_zero, List.getElem?_cons_succ, List.set_cons_zero, List.set_cons_succ, Option.toList_some, Option.toList_none, vp_nar_int, znar_b, zb_0, ne_eq, Bool.not_eq_false, Classical.not_not, nI_1, sh1_def, true_and, and_true, Nat.reduceAdd, Nat.reduceSub, Nat.reduceLT, Nat.reduceLeDiff, Value.category, Nat.zero_add, Nat.add_zero]
      refine ⟨fun h1 => ?_, fun h1 => ⟨vpin (by omega) (by omega), vpin (by omega) (by omega), ?_⟩⟩
      · rw [h1] at ih'
        have e : upd (fun j => if j < i then (fun j => if bt x j = true then ah (fPrev s * 20 + j) else se j) j else se j) i (if false = true then ah (fPrev s * 20 + i) else se i) = (fun j => if j < i then (fun j => if bt x j = true then ah (fPrev s * 20 + j) else se j) j else se j) := by
          funext j
          unfold upd
          by_cases h2 : j = i
          · subst h2; simp
          · rw [if_neg h2]
        rw [e] at ih'
        exact ih'
      · rw [h1, if_pos rfl] at ih'
        exact ih'
  have start : A 44 [some (.ref 22), some (.int x), some (.int (nI 0))] [] (pH (se, ed, ch, ah, nI m, nI (k0 - 1), nI (fPrev s)) f) := by
    have := loop m 0 (by omega)
    rw [← fill_0 (g := fun j => if bt x j = true then ah (fPrev s * 20 + j) else se j) (h := se)] at this
    exact this
  simp only [bX0_restoreLatest_80, bX0_restoreLatest_44, bX0_restoreLatest_19, bX0_restoreLatest_0, pH_0, pH_3, pH_s5, pH_s6, o_iload, o_aload, o_ic, o_lc, o_istore, o_astore, o_iinc, o_bin, o_idiv, o_ineg, o_i2c, o_i2l, o_lcmp, o_if1, o_if2, o_dup, o_dup2, o_getf, o_puti, o_ald, o_iast, o_cast, o_lald, o_last, o_mmin, o_mabs, o_ret, o_vret, o_throw, o_lsw01, o_callS0, o_callS1, o_callS2, o_callS3, o_callS4, o_callS5, o_callV0, o_callV1, o_callV2, o_callV3, o_callV4, o_callV5, zcall_no, zok_nil, zok_ref, zok_int, zE, List.map_cons, List.map_nil, List.length_cons, List.length_nil, List.replicate_succ, List.replicate_zero, List.cons_append, List.nil_append, List.append_nil, List.getElem?_cons_zero, List.getElem?_cons_succ, List.set_cons_zero, List.set_cons_succ, Option.toList_some, Option.toList_none, vp_nar_int, znar_b, zb_0, ne_eq, Bool.not_eq_false, Classical.not_not, nI_1, sh1_def, true_and, and_true, Nat.reduceAdd, Nat.reduceSub, Nat.reduceLT, Nat.reduceLeDiff, Value.category, Nat.zero_add, Nat.add_zero]
  refine ⟨fun h1 => ?_, fun h1 => ?_⟩
  · have h0 : fPrev s = 19 := by
      unfold fPrev
      rw [if_neg]
      intro h9
      have := (nI_leI (a := s) (b := 0) (by omega) (by omega)).mp h1
      omega
    rw [show (19 : Int32) = nI (fPrev s) by rw [h0]; rfl]
    simp only [hcp, hk1, ← hx]
    refine ⟨vpin (by omega) (by omega), ?_⟩
    exact start
  · have h0 : fPrev s = s - 1 := by
      unfold fPrev
      rw [if_pos]
      rcases Nat.eq_zero_or_pos s with h9 | h9
      · rw [h9] at h1; exact absurd (Int32.le_refl _) h1
      · exact h9
    have hs1 : 0 < s := by
      rcases Nat.eq_zero_or_pos s with h9 | h9
      · rw [h9] at h1; exact absurd (Int32.le_refl _) h1
      · exact h9
    have e : nI s - 1 = nI (fPrev s) := by
      rw [h0, show s = (s - 1) + 1 by omega, nI_pred]; rfl
    rw [e]
    simp only [hcp, hk1, ← hx]
    refine ⟨vpin (by omega) (by omega), ?_⟩
    exact start)
set_option maxHeartbeats 1000000 in
set_option maxRecDepth 20000 in
theorem mX3_column (hlt : l.stackTraces = false) : Sem l z0 b N D cA yX3_column cX3_column 5 (some .int) 1 21 3 zno tX3_column := uX3_column hlt (mX5_has hlt) (fun M a h Kn Kx hok hN A h5 => by
  obtain ⟨ω, f, i0, n, rfl, rfl, hi0, hn24, hk⟩ := hN
  have loop : ∀ (k i : Nat), i + k = n → A 5 [some (.ref 27), some (.int (nI i0)), some (.int (nI n)), some (.int (fCol ω i0 i)), some (.int (nI i))] [] (pV ω f) := by
    intro k
    induction k with
    | zero =>
      intro i hi
      apply h5
      have hi9 : i = n := by omega
      subst hi9
      simp only [bX3_column_32, bX3_column_5, bX3_column_0, pV_0, o_iload, o_aload, o_ic, o_lc, o_istore, o_astore, o_iinc, o_bin, o_idiv, o_ineg, o_i2c, o_i2l, o_lcmp, o_if1, o_if2, o_dup, o_dup2, o_getf, o_puti, o_ald, o_iast, o_cast, o_lald, o_last, o_mmin, o_mabs, o_ret, o_vret, o_throw, o_lsw01, o_callS0, o_callS1, o_callS2, o_callS3, o_callS4, o_callS5, o_callV0, o_callV1, o_callV2, o_callV3, o_callV4, o_callV5, zcall_no, zok_nil, zok_ref, zok_int, zE, List.map_cons, List.map_nil, List.length_cons, List.length_nil, List.replicate_succ, List.replicate_zero, List.cons_append, List.nil_append, List.append_nil, List.getElem?_cons_zero, List.getElem?_cons_succ, List.set_cons_zero, List.set_cons_succ, Option.toList_some, Option.toList_none, vp_nar_int, znar_b, zb_0, ne_eq, Bool.not_eq_false, Classical.not_not, nI_1, sh1_def, true_and, and_true, Nat.reduceAdd, Nat.reduceSub, Nat.reduceLT, Nat.reduceLeDiff, Value.category, Nat.zero_add, Nat.add_zero]
      exact ⟨fun _ => hk, fun hc => absurd (Int32.le_refl _) hc⟩
    | succ k ih =>
      intro i hi
      apply h5
      have hc := nI_clamp (show i < 2 ^ 31 by omega)
      simp only [bX3_column_32, bX3_column_5, bX3_column_0, pV_0, pV_1, hc, o_iload, o_aload, o_ic, o_lc, o_istore, o_astore, o_iinc, o_bin, o_idiv, o_ineg, o_i2c, o_i2l, o_lcmp, o_if1, o_if2, o_dup, o_dup2, o_getf, o_puti, o_ald, o_iast, o_cast, o_lald, o_last, o_mmin, o_mabs, o_ret, o_vret, o_throw, o_lsw01, o_callS0, o_callS1, o_callS2, o_callS3, o_callS4, o_callS5, o_callV0, o_callV1, o_callV2, o_callV3, o_callV4, o_callV5, zcall_no, zok_nil, zok_ref, zok_int, zE, List.map_cons, List.map_nil, List.length_cons, List.length_nil, List.replicate_succ, List.replicate_zero, List.cons_append, List.nil_append, List.append_nil, List.getElem?_cons_zero, List.getElem?_cons_succ, List.set_cons_zero, List.set_cons_succ, Option.toList_some, Option.toList_none, vp_nar_int, znar_b, zb_0, ne_eq, Bool.not_eq_false, Classical.not_not, nI_1, sh1_def, true_and, and_true, Nat.reduceAdd, Nat.reduceSub, Nat.reduceLT, Nat.reduceLeDiff, Value.category, Nat.zero_add, Nat.add_zero]
      have ih' := ih (i + 1) (by omega)
      refine ⟨fun hc => absurd (nI_le_le (by omega) (by omega) hc) (by omega), fun _ => ⟨vpin (by omega) (by omega), _, _, rfl, by omega, ?_⟩⟩
      simp only [bX3_column_32, bX3_column_5, bX3_column_0, pV_0, pV_1, hc, o_iload, o_aload, o_ic, o_lc, o_istore, o_astore, o_iinc, o_bin, o_idiv, o_ineg, o_i2c, o_i2l, o_lcmp, o_if1, o_if2, o_dup, o_dup2, o_getf, o_puti, o_ald, o_iast, o_cast, o_lald, o_last, o_mmin, o_mabs, o_ret, o_vret, o_throw, o_lsw01, o_callS0, o_callS1, o_callS2, o_callS3, o_callS4, o_callS5, o_callV0, o_callV1, o_callV2, o_callV3, o_callV4, o_callV5, zcall_no, zok_nil, zok_ref, zok_int, zE, List.map_cons, List.map_nil, List.length_cons, List.length_nil, List.replicate_succ, List.replicate_zero, List.cons_append, List.nil_append, List.append_nil, List.getElem?_cons_zero, List.getElem?_cons_succ, List.set_cons_zero, List.set_cons_succ, Option.toList_some, Option.toList_none, vp_nar_int, znar_b, zb_0, ne_eq, Bool.not_eq_false, Classical.not_not, nI_1, sh1_def, true_and, and_true, Nat.reduceAdd, Nat.reduceSub, Nat.reduceLT, Nat.reduceLeDiff, Value.category, Nat.zero_add, Nat.add_zero]
      refine ⟨fun h1 => ?_, fun h1 => ?_⟩
      · simpa [fCol, h1] using ih'
      · simpa [fCol, h1] using ih'
  simp only [bX3_column_32, bX3_column_5, bX3_column_0, o_iload, o_aload, o_ic, o_lc, o_istore, o_astore, o_iinc, o_bin, o_idiv, o_ineg, o_i2c, o_i2l, o_lcmp, o_if1, o_if2, o_dup, o_dup2, o_getf, o_puti, o_ald, o_iast, o_cast, o_lald, o_last, o_mmin, o_mabs, o_ret, o_vret, o_throw, o_lsw01, o_callS0, o_callS1, o_callS2, o_callS3, o_callS4, o_callS5, o_callV0, o_callV1, o_callV2, o_callV3, o_callV4, o_callV5, zcall_no, zok_nil, zok_ref, zok_int, zE, List.map_cons, List.map_nil, List.length_cons, List.length_nil, List.replicate_succ, List.replicate_zero, List.cons_append, List.nil_append, List.append_nil, List.getElem?_cons_zero, List.getElem?_cons_succ, List.set_cons_zero, List.set_cons_succ, Option.toList_some, Option.toList_none, vp_nar_int, znar_b, zb_0, ne_eq, Bool.not_eq_false, Classical.not_not, nI_1, sh1_def, true_and, and_true, Nat.reduceAdd, Nat.reduceSub, Nat.reduceLT, Nat.reduceLeDiff, Value.category, Nat.zero_add, Nat.add_zero]
  exact loop n 0 (by omega))
set_option maxHeartbeats 1000000 in
set_option maxRecDepth 20000 in
theorem mX3_refresh (hlt : l.stackTraces = false) : Sem l z0 b N D cA yX3_refresh cX3_refresh 6 none 2 47 3 zno tX3_refresh := uX3_refresh hlt (mX4_reachedFrom hlt) (mX5_has hlt) (fun M a h Kn Kx hok hN A h2 h25 h48 => by
  obtain ⟨σ, f, n, m, rfl, rfl, hR, hm, hm20, hk⟩ := hN
  obtain ⟨ν, ⟨al, im, nx, re, rz⟩, τ, κ, ⟨se, ed, ch, ah, sz, ks, ns⟩, sh⟩ := σ
  have hn24 := hR.2
  have hn' : rz = nI n := hR.1
  have hm' : sz = nI m := hm
  subst hn'; subst hm'
  have main : ∀ (k i : Nat) (w4 w5 : Option Value), i + k = m → A 25 [some (.ref 27), some (.ref 5), some (.ref 22), some (.int (nI i)), w4, w5] [] (pT (ν, (al, im, nx, re, nI n), τ, κ, (se, ed, ch, ah, nI m, ks, ns), fSh al re n se sh i) f) := by
    intro k
    induction k with
    | zero =>
      intro i w4 w5 hi
      apply h25
      have hi9 : i = m := by omega
      subst hi9
      simp only [bX3_refresh_80, bX3_refresh_48, bX3_refresh_25, bX3_refresh_2, bX3_refresh_0, pT_22, o_iload, o_aload, o_ic, o_lc, o_istore, o_astore, o_iinc, o_bin, o_idiv, o_ineg, o_i2c, o_i2l, o_lcmp, o_if1, o_if2, o_dup, o_dup2, o_getf, o_puti, o_ald, o_iast, o_cast, o_lald, o_last, o_mmin, o_mabs, o_ret, o_vret, o_throw, o_lsw01, o_callS0, o_callS1, o_callS2, o_callS3, o_callS4, o_callS5, o_callV0, o_callV1, o_callV2, o_callV3, o_callV4, o_callV5, zcall_no, zok_nil, zok_ref, zok_int, zE, List.map_cons, List.map_nil, List.length_cons, List.length_nil, List.replicate_succ, List.replicate_zero, List.cons_append, List.nil_append, List.append_nil, List.getElem?_cons_zero, List.getElem?_cons_succ, List.set_cons_zero, List.set_cons_succ, Option.toList_some, Option.toList_none, vp_nar_int, znar_b, zb_0, ne_eq, Bool.not_eq_false, Classical.not_not, nI_1, sh1_def, true_and, and_true, Nat.reduceAdd, Nat.reduceSub, Nat.reduceLT, Nat.reduceLeDiff, Value.category, Nat.zero_add, Nat.add_zero]
      exact ⟨fun _ => hk, fun hc => absurd (Int32.le_refl _) hc⟩
    | succ k ih =>
      intro i w4 w5 hi
      have inner : ∀ (q j : Nat), j + q = n → A 48 [some (.ref 27), some (.ref 5), some (.ref 22), some (.int (nI i)), some (.int (fRf al re n (se i) n)), some (.int (nI j))] [] (pT (ν, (al, im, nx, re, nI n), τ, κ, (se, ed, ch, ah, nI m, ks, ns), fShI (fRf al re n (se i) n) i (fSh al re n se sh i) j) f) := by
        intro q
        induction q with
        | zero =>
          intro j hj
          apply h48
          have hj9 : j = n := by omega
          subst hj9
          simp only [bX3_refresh_80, bX3_refresh_48, bX3_refresh_25, bX3_refresh_2, bX3_refresh_0, pT_5, o_iload, o_aload, o_ic, o_lc, o_istore, o_astore, o_iinc, o_bin, o_idiv, o_ineg, o_i2c, o_i2l, o_lcmp, o_if1, o_if2, o_dup, o_dup2, o_getf, o_puti, o_ald, o_iast, o_cast, o_lald, o_last, o_mmin, o_mabs, o_ret, o_vret, o_throw, o_lsw01, o_callS0, o_callS1, o_callS2, o_callS3, o_callS4, o_callS5, o_callV0, o_callV1, o_callV2, o_callV3, o_callV4, o_callV5, zcall_no, zok_nil, zok_ref, zok_int, zE, List.map_cons, List.map_nil, List.length_cons, List.length_nil, List.replicate_succ, List.replicate_zero, List.cons_append, List.nil_append, List.append_nil, List.getElem?_cons_zero, List.getElem?_cons_succ, List.set_cons_zero, List.set_cons_succ, Option.toList_some, Option.toList_none, vp_nar_int, znar_b, zb_0, ne_eq, Bool.not_eq_false, Classical.not_not, nI_1, sh1_def, true_and, and_true, Nat.reduceAdd, Nat.reduceSub, Nat.reduceLT, Nat.reduceLeDiff, Value.category, Nat.zero_add, Nat.add_zero]
          exact ⟨fun _ => ih (i + 1) _ _ (by omega), fun hc => absurd (Int32.le_refl _) hc⟩
        | succ q ihq =>
          intro j hj
          apply h48
          have hc := nI_clamp (show j < 2 ^ 31 by omega)
          simp only [bX3_refresh_80, bX3_refresh_48, bX3_refresh_25, bX3_refresh_2, bX3_refresh_0, pT_5, o_iload, o_aload, o_ic, o_lc, o_istore, o_astore, o_iinc, o_bin, o_idiv, o_ineg, o_i2c, o_i2l, o_lcmp, o_if1, o_if2, o_dup, o_dup2, o_getf, o_puti, o_ald, o_iast, o_cast, o_lald, o_last, o_mmin, o_mabs, o_ret, o_vret, o_throw, o_lsw01, o_callS0, o_callS1, o_callS2, o_callS3, o_callS4, o_callS5, o_callV0, o_callV1, o_callV2, o_callV3, o_callV4, o_callV5, zcall_no, zok_nil, zok_ref, zok_int, zE, List.map_cons, List.map_nil, List.length_cons, List.length_nil, List.replicate_succ, List.replicate_zero, List.cons_append, List.nil_append, List.append_nil, List.getElem?_cons_zero, List.getElem?_cons_succ, List.set_cons_zero, List.set_cons_succ, Option.toList_some, Option.toList_none, vp_nar_int, znar_b, zb_0, ne_eq, Bool.not_eq_false, Classical.not_not, nI_1, sh1_def, true_and, and_true, Nat.reduceAdd, Nat.reduceSub, Nat.reduceLT, Nat.reduceLeDiff, Value.category, Nat.zero_add, Nat.add_zero]
          have ih' := ihq (j + 1) (by omega)
          refine ⟨fun hc => absurd (nI_le_le (by omega) (by omega) hc) (by omega), fun _ => ⟨_, _, rfl, by omega, ?_⟩⟩
          simp only [bX3_refresh_80, bX3_refresh_48, bX3_refresh_25, bX3_refresh_2, bX3_refresh_0, pT_27, pT_28, pT_a5_0, hc, o_iload, o_aload, o_ic, o_lc, o_istore, o_astore, o_iinc, o_bin, o_idiv, o_ineg, o_i2c, o_i2l, o_lcmp, o_if1, o_if2, o_dup, o_dup2, o_getf, o_puti, o_ald, o_iast, o_cast, o_lald, o_last, o_mmin, o_mabs, o_ret, o_vret, o_throw, o_lsw01, o_callS0, o_callS1, o_callS2, o_callS3, o_callS4, o_callS5, o_callV0, o_callV1, o_callV2, o_callV3, o_callV4, o_callV5, zcall_no, zok_nil, zok_ref, zok_int, zE, List.map_cons, List.map_nil, List.length_cons, List.length_nil, List.replicate_succ, List.replicate_zero, List.cons_append, List.nil_append, List.append_nil, List.getElem?_cons_zero, List.getElem?_cons_succ, List.set_cons_zero, List.set_cons_succ, Option.toList_some, Option.toList_none, vp_nar_int, znar_b, zb_0, ne_eq, Bool.not_eq_false, Classical.not_not, nI_1, sh1_def, true_and, and_true, Nat.reduceAdd, Nat.reduceSub, Nat.reduceLT, Nat.reduceLeDiff, Value.category, Nat.zero_add, Nat.add_zero]
          refine ⟨fun h1 => ?_, fun h1 => ⟨vpin (by omega) (by omega), vpin (by omega) (by omega), ?_⟩⟩
          · simpa [fShI, h1] using ih'
          · simpa [fShI, h1] using ih'
      apply h25
      have hc := nI_clamp (show i < 2 ^ 31 by omega)
      simp only [bX3_refresh_80, bX3_refresh_48, bX3_refresh_25, bX3_refresh_2, bX3_refresh_0, pT_22, pT_23, pT_5, hc, o_iload, o_aload, o_ic, o_lc, o_istore, o_astore, o_iinc, o_bin, o_idiv, o_ineg, o_i2c, o_i2l, o_lcmp, o_if1, o_if2, o_dup, o_dup2, o_getf, o_puti, o_ald, o_iast, o_cast, o_lald, o_last, o_mmin, o_mabs, o_ret, o_vret, o_throw, o_lsw01, o_callS0, o_callS1, o_callS2, o_callS3, o_callS4, o_callS5, o_callV0, o_callV1, o_callV2, o_callV3, o_callV4, o_callV5, zcall_no, zok_nil, zok_ref, zok_int, zE, List.map_cons, List.map_nil, List.length_cons, List.length_nil, List.replicate_succ, List.replicate_zero, List.cons_append, List.nil_append, List.append_nil, List.getElem?_cons_zero, List.getElem?_cons_succ, List.set_cons_zero, List.set_cons_succ, Option.toList_some, Option.toList_none, vp_nar_int, znar_b, zb_0, ne_eq, Bool.not_eq_false, Classical.not_not, nI_1, sh1_def, true_and, and_true, Nat.reduceAdd, Nat.reduceSub, Nat.reduceLT, Nat.reduceLeDiff, Value.category, Nat.zero_add, Nat.add_zero]
      refine ⟨fun hc => absurd (nI_le_le (by omega) (by omega) hc) (by omega), fun _ => ⟨vpin (by omega) (by omega), 5, _, _, n, _, rfl, pT_Rs.symm, ⟨rfl, hn24⟩, ?_⟩⟩
      simp only [bX3_refresh_80, bX3_refresh_48, bX3_refresh_25, bX3_refresh_2, bX3_refresh_0, o_iload, o_aload, o_ic, o_lc, o_istore, o_astore, o_iinc, o_bin, o_idiv, o_ineg, o_i2c, o_i2l, o_lcmp, o_if1, o_if2, o_dup, o_dup2, o_getf, o_puti, o_ald, o_iast, o_cast, o_lald, o_last, o_mmin, o_mabs, o_ret, o_vret, o_throw, o_lsw01, o_callS0, o_callS1, o_callS2, o_callS3, o_callS4, o_callS5, o_callV0, o_callV1, o_callV2, o_callV3, o_callV4, o_callV5, zcall_no, zok_nil, zok_ref, zok_int, zE, List.map_cons, List.map_nil, List.length_cons, List.length_nil, List.replicate_succ, List.replicate_zero, List.cons_append, List.nil_append, List.append_nil, List.getElem?_cons_zero, List.getElem?_cons_succ, List.set_cons_zero, List.set_cons_succ, Option.toList_some, Option.toList_none, vp_nar_int, znar_b, zb_0, ne_eq, Bool.not_eq_false, Classical.not_not, nI_1, sh1_def, true_and, and_true, Nat.reduceAdd, Nat.reduceSub, Nat.reduceLT, Nat.reduceLeDiff, Value.category, Nat.zero_add, Nat.add_zero]
      exact inner n 0 (by omega)
  have loop1 : ∀ (k i : Nat), i + k = n → A 2 [some (.ref 27), some (.ref 5), some (.ref 22), some (.int (nI i)), none, none] [] (pT (ν, (al, im, nx, re, nI n), τ, κ, (se, ed, ch, ah, nI m, ks, ns), (fun j => if j < i then (fun _ => (0 : Int32)) j else sh j)) f) := by
    intro k
    induction k with
    | zero =>
      intro i hi
      apply h2
      have hi9 : i = n := by omega
      subst hi9
      simp only [bX3_refresh_80, bX3_refresh_48, bX3_refresh_25, bX3_refresh_2, bX3_refresh_0, pT_5, o_iload, o_aload, o_ic, o_lc, o_istore, o_astore, o_iinc, o_bin, o_idiv, o_ineg, o_i2c, o_i2l, o_lcmp, o_if1, o_if2, o_dup, o_dup2, o_getf, o_puti, o_ald, o_iast, o_cast, o_lald, o_last, o_mmin, o_mabs, o_ret, o_vret, o_throw, o_lsw01, o_callS0, o_callS1, o_callS2, o_callS3, o_callS4, o_callS5, o_callV0, o_callV1, o_callV2, o_callV3, o_callV4, o_callV5, zcall_no, zok_nil, zok_ref, zok_int, zE, List.map_cons, List.map_nil, List.length_cons, List.length_nil, List.replicate_succ, List.replicate_zero, List.cons_append, List.nil_append, List.append_nil, List.getElem?_cons_zero, List.getElem?_cons_succ, List.set_cons_zero, List.set_cons_succ, Option.toList_some, Option.toList_none, vp_nar_int, znar_b, zb_0, ne_eq, Bool.not_eq_false, Classical.not_not, nI_1, sh1_def, true_and, and_true, Nat.reduceAdd, Nat.reduceSub, Nat.reduceLT, Nat.reduceLeDiff, Value.category, Nat.zero_add, Nat.add_zero]
      exact ⟨fun _ => main m 0 _ _ (by omega), fun hc => absurd (Int32.le_refl _) hc⟩
    | succ k ih =>
      intro i hi
      apply h2
      have hc := nI_clamp (show i < 2 ^ 31 by omega)
      simp only [bX3_refresh_80, bX3_refresh_48, bX3_refresh_25, bX3_refresh_2, bX3_refresh_0, pT_5, pT_27, pT_28, pT_a5_0, hc, o_iload, o_aload, o_ic, o_lc, o_istore, o_astore, o_iinc, o_bin, o_idiv, o_ineg, o_i2c, o_i2l, o_lcmp, o_if1, o_if2, o_dup, o_dup2, o_getf, o_puti, o_ald, o_iast, o_cast, o_lald, o_last, o_mmin, o_mabs, o_ret, o_vret, o_throw, o_lsw01, o_callS0, o_callS1, o_callS2, o_callS3, o_callS4, o_callS5, o_callV0, o_callV1, o_callV2, o_callV3, o_callV4, o_callV5, zcall_no, zok_nil, zok_ref, zok_int, zE, List.map_cons, List.map_nil, List.length_cons, List.length_nil, List.replicate_succ, List.replicate_zero, List.cons_append, List.nil_append, List.append_nil, List.getElem?_cons_zero, List.getElem?_cons_succ, List.set_cons_zero, List.set_cons_succ, Option.toList_some, Option.toList_none, vp_nar_int, znar_b, zb_0, ne_eq, Bool.not_eq_false, Classical.not_not, nI_1, sh1_def, true_and, and_true, Nat.reduceAdd, Nat.reduceSub, Nat.reduceLT, Nat.reduceLeDiff, Value.category, Nat.zero_add, Nat.add_zero]
      have ih' := ih (i + 1) (by omega)
      refine ⟨fun hc => absurd (nI_le_le (by omega) (by omega) hc) (by omega), fun _ => ⟨vpin (by omega) (by omega), ?_⟩⟩
      rw [upd_fill (g := fun _ => (0 : Int32)) rfl]
      exact ih'
  simp only [bX3_refresh_80, bX3_refresh_48, bX3_refresh_25, bX3_refresh_2, bX3_refresh_0, o_iload, o_aload, o_ic, o_lc, o_istore, o_astore, o_iinc, o_bin, o_idiv, o_ineg, o_i2c, o_i2l, o_lcmp, o_if1, o_if2, o_dup, o_dup2, o_getf, o_puti, o_ald, o_iast, o_cast, o_lald, o_last, o_mmin, o_mabs, o_ret, o_vret, o_throw, o_lsw01, o_callS0, o_callS1, o_callS2, o_callS3, o_callS4, o_callS5, o_callV0, o_callV1, o_callV2, o_callV3, o_callV4, o_callV5, zcall_no, zok_nil, zok_ref, zok_int, zE, List.map_cons, List.map_nil, List.length_cons, List.length_nil, List.replicate_succ, List.replicate_zero, List.cons_append, List.nil_append, List.append_nil, List.getElem?_cons_zero, List.getElem?_cons_succ, List.set_cons_zero, List.set_cons_succ, Option.toList_some, Option.toList_none, vp_nar_int, znar_b, zb_0, ne_eq, Bool.not_eq_false, Classical.not_not, nI_1, sh1_def, true_and, and_true, Nat.reduceAdd, Nat.reduceSub, Nat.reduceLT, Nat.reduceLeDiff, Value.category, Nat.zero_add, Nat.add_zero]
  have := loop1 n 0 (by omega)
  rw [← fill_0 (g := fun _ => (0 : Int32)) (h := sh)] at this
  exact this)
end S3
