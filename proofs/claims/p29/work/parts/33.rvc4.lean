section R4
variable {l : Launch} {z0 b N : Nat} {D : va_G} {cA : Nat → ClassId}
theorem fNx_s (al im : Nat → Int32) (n : Nat) (nx : Nat → Int32) (i : Nat) : fNx al im n nx (i + 1) = if im i = 0 then fNx al im n nx i else upd (fNx al im n nx i) (fE al n n i) (fNx al im n nx i (fE al n n i) ||| fEnds al n (im i) n) := rfl
theorem fRe_s (n : Nat) (nx re : Nat → Int32) (i : Nat) : fRe n nx re (i + 1) = if nx i = 0 then fRe n nx re i else fRo i (fRe n nx re i) n := rfl
theorem upd_fill {g h : Nat → Int32} {i : Nat} {x : Int32} (hx : x = g i) : upd (fun j => if j < i then g j else h j) i x = (fun j => if j < i + 1 then g j else h j) := by
  funext j
  unfold upd
  by_cases h1 : j = i
  · subst h1; simp [hx]
  · by_cases h2 : j < i
    · simp [h1, h2]; intro h3; omega
    · simp [h1, h2]; intro h3; omega
theorem fill_0 {g h : Nat → Int32} : h = (fun j => if j < 0 then g j else h j) := by
  funext j; simp
theorem upd_blk {g h : Nat → Int32} {a i : Nat} {x : Int32} (hx : x = g i) : upd (fun j => if a ≤ j ∧ j < a + i then g (j - a) else h j) (a + i) x = (fun j => if a ≤ j ∧ j < a + (i + 1) then g (j - a) else h j) := by
  funext j
  unfold upd
  dsimp only
  by_cases h1 : j = a + i
  · subst h1
    rw [if_pos rfl, if_pos (by omega), Nat.add_sub_cancel_left, hx]
  · rw [if_neg h1]
    by_cases h2 : a ≤ j ∧ j < a + i
    · rw [if_pos h2, if_pos (by omega)]
    · rw [if_neg h2, if_neg (by omega)]
theorem blk_0 {g h : Nat → Int32} {a : Nat} : h = (fun j => if a ≤ j ∧ j < a + 0 then g (j - a) else h j) := by
  funext j
  rw [if_neg (by omega)]
set_option maxHeartbeats 1000000 in
set_option maxRecDepth 20000 in
theorem mX4_workOut (hlt : l.stackTraces = false) : Sem l z0 b N D cA yX4_workOut cX4_workOut 2 none 2 47 1 zno tX4_workOut := uX4_workOut hlt (mX4_endOf hlt) (mX4_endsOf hlt) (mX4_reachOver hlt) (fun M a h Kn Kx hok hN A h2 h25 h73 h105 => by
  obtain ⟨bs, ρ, f, n, rfl, rfl, hR, hk⟩ := hN
  obtain ⟨al, im, nx, re, sz⟩ := ρ
  have hn24 := hR.2
  have hsz : sz = nI n := hR.1
  subst hsz
  obtain ⟨nx', hnx'⟩ : ∃ q, q = fNx al im n nx n := ⟨_, rfl⟩
  have hk' : Kn none (pR bs (al, im, nx', fRe n nx' re n, nI n) f) := by rw [hnx']; exact hk
  have loop4 : ∀ (k i : Nat), i + k = n → A 105 [some (.ref bs), some (.int (nI i))] [] (pR bs (al, im, nx', fRe n nx' re i, nI n) f) := by
    intro k
    induction k with
    | zero =>
      intro i hi
      apply h105
      have hi9 : i = n := by omega
      subst hi9
      simp only [bX4_workOut_127, bX4_workOut_105, bX4_workOut_73, bX4_workOut_65, bX4_workOut_25, bX4_workOut_2, bX4_workOut_0, pR_0, o_iload, o_aload, o_ic, o_lc, o_istore, o_astore, o_iinc, o_bin, o_idiv, o_ineg, o_i2c, o_i2l, o_lcmp, o_if1, o_if2, o_dup, o_dup2, o_getf, o_puti, o_ald, o_iast, o_cast, o_lald, o_last, o_mmin, o_mabs, o_ret, o_vret, o_throw, o_lsw01, o_callS0, o_callS1, o_callS2, o_callS3, o_callS4, o_callS5, o_callV0, o_callV1, o_callV2, o_callV3, o_callV4, o_callV5, zcall_no, zok_nil, zok_ref, zok_int, zE, List.map_cons, List.map_nil, List.length_cons, List.length_nil, List.replicate_succ, List.replicate_zero, List.cons_append, List.nil_append, List.append_nil, List.getElem?_cons_zero, List.getElem?_cons_succ, List.set_cons_zero, List.set_cons_succ, Option.toList_some, Option.toList_none, vp_nar_int, znar_b, zb_0, ne_eq, Bool.not_eq_false, Classical.not_not, nI_1, sh1_def, true_and, and_true, Nat.reduceAdd, Nat.reduceSub, Nat.reduceLT, Nat.reduceLeDiff, Value.category, Nat.zero_add, Nat.add_zero]
      exact ⟨fun _ => hk', fun hc => absurd (Int32.le_refl _) hc⟩
    | succ k ih =>
      intro i hi
      apply h105
      have hc := nI_clamp (show i < 2 ^ 31 by omega)
      simp only [bX4_workOut_127, bX4_workOut_105, bX4_workOut_73, bX4_workOut_65, bX4_workOut_25, bX4_workOut_2, bX4_workOut_0, pR_0, pR_3, hc, o_iload, o_aload, o_ic, o_lc, o_istore, o_astore, o_iinc, o_bin, o_idiv, o_ineg, o_i2c, o_i2l, o_lcmp, o_if1, o_if2, o_dup, o_dup2, o_getf, o_puti, o_ald, o_iast, o_cast, o_lald, o_last, o_mmin, o_mabs, o_ret, o_vret, o_throw, o_lsw01, o_callS0, o_callS1, o_callS2, o_callS3, o_callS4, o_callS5, o_callV0, o_callV1, o_callV2, o_callV3, o_callV4, o_callV5, zcall_no, zok_nil, zok_ref, zok_int, zE, List.map_cons, List.map_nil, List.length_cons, List.length_nil, List.replicate_succ, List.replicate_zero, List.cons_append, List.nil_append, List.append_nil, List.getElem?_cons_zero, List.getElem?_cons_succ, List.set_cons_zero, List.set_cons_succ, Option.toList_some, Option.toList_none, vp_nar_int, znar_b, zb_0, ne_eq, Bool.not_eq_false, Classical.not_not, nI_1, sh1_def, true_and, and_true, Nat.reduceAdd, Nat.reduceSub, Nat.reduceLT, Nat.reduceLeDiff, Value.category, Nat.zero_add, Nat.add_zero]
      have ih' := ih (i + 1) (by omega)
      refine ⟨fun hc => absurd (nI_le_le (by omega) (by omega) hc) (by omega), fun _ => ⟨vpin (by omega) (by omega), fun hb => ?_, fun hb => ?_⟩⟩
      · simpa [fRe_s, hb] using ih'
      · refine ⟨bs, _, f, n, i, rfl, rfl, ⟨rfl, hn24⟩, by omega, ?_⟩
        simp only [bX4_workOut_127, bX4_workOut_105, bX4_workOut_73, bX4_workOut_65, bX4_workOut_25, bX4_workOut_2, bX4_workOut_0, o_iload, o_aload, o_ic, o_lc, o_istore, o_astore, o_iinc, o_bin, o_idiv, o_ineg, o_i2c, o_i2l, o_lcmp, o_if1, o_if2, o_dup, o_dup2, o_getf, o_puti, o_ald, o_iast, o_cast, o_lald, o_last, o_mmin, o_mabs, o_ret, o_vret, o_throw, o_lsw01, o_callS0, o_callS1, o_callS2, o_callS3, o_callS4, o_callS5, o_callV0, o_callV1, o_callV2, o_callV3, o_callV4, o_callV5, zcall_no, zok_nil, zok_ref, zok_int, zE, List.map_cons, List.map_nil, List.length_cons, List.length_nil, List.replicate_succ, List.replicate_zero, List.cons_append, List.nil_append, List.append_nil, List.getElem?_cons_zero, List.getElem?_cons_succ, List.set_cons_zero, List.set_cons_succ, Option.toList_some, Option.toList_none, vp_nar_int, znar_b, zb_0, ne_eq, Bool.not_eq_false, Classical.not_not, nI_1, sh1_def, true_and, and_true, Nat.reduceAdd, Nat.reduceSub, Nat.reduceLT, Nat.reduceLeDiff, Value.category, Nat.zero_add, Nat.add_zero]
        simpa [fRe_s, hb] using ih'
  have loop3 : ∀ (k i : Nat), i + k = n → A 73 [some (.ref bs), some (.int (nI i))] [] (pR bs (al, im, nx', (fun j => if j < i then nx' j ||| sh1 j else re j), nI n) f) := by
    intro k
    induction k with
    | zero =>
      intro i hi
      apply h73
      have hi9 : i = n := by omega
      subst hi9
      simp only [bX4_workOut_127, bX4_workOut_105, bX4_workOut_73, bX4_workOut_65, bX4_workOut_25, bX4_workOut_2, bX4_workOut_0, pR_0, o_iload, o_aload, o_ic, o_lc, o_istore, o_astore, o_iinc, o_bin, o_idiv, o_ineg, o_i2c, o_i2l, o_lcmp, o_if1, o_if2, o_dup, o_dup2, o_getf, o_puti, o_ald, o_iast, o_cast, o_lald, o_last, o_mmin, o_mabs, o_ret, o_vret, o_throw, o_lsw01, o_callS0, o_callS1, o_callS2, o_callS3, o_callS4, o_callS5, o_callV0, o_callV1, o_callV2, o_callV3, o_callV4, o_callV5, zcall_no, zok_nil, zok_ref, zok_int, zE, List.map_cons, List.map_nil, List.length_cons, List.length_nil, List.replicate_succ, List.replicate_zero, List.cons_append, List.nil_append, List.append_nil, List.getElem?_cons_zero, List.getElem?_cons_succ, List.set_cons_zero, List.set_cons_succ, Option.toList_some, Option.toList_none, vp_nar_int, znar_b, zb_0, ne_eq, Bool.not_eq_false, Classical.not_not, nI_1, sh1_def, true_and, and_true, Nat.reduceAdd, Nat.reduceSub, Nat.reduceLT, Nat.reduceLeDiff, Value.category, Nat.zero_add, Nat.add_zero]
      exact ⟨fun _ => loop4 i 0 (by omega), fun hc => absurd (Int32.le_refl _) hc⟩
    | succ k ih =>
      intro i hi
      apply h73
      have hc := nI_clamp (show i < 2 ^ 31 by omega)
      simp only [bX4_workOut_127, bX4_workOut_105, bX4_workOut_73, bX4_workOut_65, bX4_workOut_25, bX4_workOut_2, bX4_workOut_0, pR_0, pR_3, pR_4, hc, pR_s3, o_iload, o_aload, o_ic, o_lc, o_istore, o_astore, o_iinc, o_bin, o_idiv, o_ineg, o_i2c, o_i2l, o_lcmp, o_if1, o_if2, o_dup, o_dup2, o_getf, o_puti, o_ald, o_iast, o_cast, o_lald, o_last, o_mmin, o_mabs, o_ret, o_vret, o_throw, o_lsw01, o_callS0, o_callS1, o_callS2, o_callS3, o_callS4, o_callS5, o_callV0, o_callV1, o_callV2, o_callV3, o_callV4, o_callV5, zcall_no, zok_nil, zok_ref, zok_int, zE, List.map_cons, List.map_nil, List.length_cons, List.length_nil, List.replicate_succ, List.replicate_zero, List.cons_append, List.nil_append, List.append_nil, List.getElem?_cons_zero, List.getElem?_cons_succ, List.set_cons_zero, List.set_cons_succ, Option.toList_some, Option.toList_none, vp_nar_int, znar_b, zb_0, ne_eq, Bool.not_eq_false, Classical.not_not, nI_1, sh1_def, true_and, and_true, Nat.reduceAdd, Nat.reduceSub, Nat.reduceLT, Nat.reduceLeDiff, Value.category, Nat.zero_add, Nat.add_zero]
      have ih' := ih (i + 1) (by omega)
      refine ⟨fun hc => absurd (nI_le_le (by omega) (by omega) hc) (by omega), fun _ => ⟨vpin (by omega) (by omega), vpin (by omega) (by omega), ?_⟩⟩
      rw [upd_fill (g := fun j => nx' j ||| sh1 j) rfl]
      exact ih'
  have loop2 : ∀ (k i : Nat), i + k = n → A 25 [some (.ref bs), some (.int (nI i))] [] (pR bs (al, im, fNx al im n nx i, re, nI n) f) := by
    intro k
    induction k with
    | zero =>
      intro i hi
      apply h25
      have hi9 : i = n := by omega
      subst hi9
      simp only [bX4_workOut_127, bX4_workOut_105, bX4_workOut_73, bX4_workOut_65, bX4_workOut_25, bX4_workOut_2, bX4_workOut_0, pR_0, o_iload, o_aload, o_ic, o_lc, o_istore, o_astore, o_iinc, o_bin, o_idiv, o_ineg, o_i2c, o_i2l, o_lcmp, o_if1, o_if2, o_dup, o_dup2, o_getf, o_puti, o_ald, o_iast, o_cast, o_lald, o_last, o_mmin, o_mabs, o_ret, o_vret, o_throw, o_lsw01, o_callS0, o_callS1, o_callS2, o_callS3, o_callS4, o_callS5, o_callV0, o_callV1, o_callV2, o_callV3, o_callV4, o_callV5, zcall_no, zok_nil, zok_ref, zok_int, zE, List.map_cons, List.map_nil, List.length_cons, List.length_nil, List.replicate_succ, List.replicate_zero, List.cons_append, List.nil_append, List.append_nil, List.getElem?_cons_zero, List.getElem?_cons_succ, List.set_cons_zero, List.set_cons_succ, Option.toList_some, Option.toList_none, vp_nar_int, znar_b, zb_0, ne_eq, Bool.not_eq_false, Classical.not_not, nI_1, sh1_def, true_and, and_true, Nat.reduceAdd, Nat.reduceSub, Nat.reduceLT, Nat.reduceLeDiff, Value.category, Nat.zero_add, Nat.add_zero]
      refine ⟨fun _ => ?_, fun hc => absurd (Int32.le_refl _) hc⟩
      rw [← hnx', fill_0 (g := fun j => nx' j ||| sh1 j) (h := re)]
      exact loop3 i 0 (by omega)
    | succ k ih =>
      intro i hi
      apply h25
      have hE := fE_lt (al := al) (n := n) (by omega) n i (by omega)
      have hc := nI_clamp (show i < 2 ^ 31 by omega)
      have hcE := nI_clamp (show fE al n n i < 2 ^ 31 by omega)
      simp only [bX4_workOut_127, bX4_workOut_105, bX4_workOut_73, bX4_workOut_65, bX4_workOut_25, bX4_workOut_2, bX4_workOut_0, pR_0, pR_2, pR_3, hc, o_iload, o_aload, o_ic, o_lc, o_istore, o_astore, o_iinc, o_bin, o_idiv, o_ineg, o_i2c, o_i2l, o_lcmp, o_if1, o_if2, o_dup, o_dup2, o_getf, o_puti, o_ald, o_iast, o_cast, o_lald, o_last, o_mmin, o_mabs, o_ret, o_vret, o_throw, o_lsw01, o_callS0, o_callS1, o_callS2, o_callS3, o_callS4, o_callS5, o_callV0, o_callV1, o_callV2, o_callV3, o_callV4, o_callV5, zcall_no, zok_nil, zok_ref, zok_int, zE, List.map_cons, List.map_nil, List.length_cons, List.length_nil, List.replicate_succ, List.replicate_zero, List.cons_append, List.nil_append, List.append_nil, List.getElem?_cons_zero, List.getElem?_cons_succ, List.set_cons_zero, List.set_cons_succ, Option.toList_some, Option.toList_none, vp_nar_int, znar_b, zb_0, ne_eq, Bool.not_eq_false, Classical.not_not, nI_1, sh1_def, true_and, and_true, Nat.reduceAdd, Nat.reduceSub, Nat.reduceLT, Nat.reduceLeDiff, Value.category, Nat.zero_add, Nat.add_zero]
      have ih' := ih (i + 1) (by omega)
      refine ⟨fun hc => absurd (nI_le_le (by omega) (by omega) hc) (by omega), fun _ => ⟨vpin (by omega) (by omega), fun hb => ?_, fun hb => ?_⟩⟩
      · simpa [fNx_s, hb] using ih'
      · refine ⟨bs, _, f, n, i, rfl, rfl, ⟨rfl, hn24⟩, by omega, ?_⟩
        simp only [bX4_workOut_127, bX4_workOut_105, bX4_workOut_73, bX4_workOut_65, bX4_workOut_25, bX4_workOut_2, bX4_workOut_0, pR_0, pR_2, pR_3, hc, hcE, o_iload, o_aload, o_ic, o_lc, o_istore, o_astore, o_iinc, o_bin, o_idiv, o_ineg, o_i2c, o_i2l, o_lcmp, o_if1, o_if2, o_dup, o_dup2, o_getf, o_puti, o_ald, o_iast, o_cast, o_lald, o_last, o_mmin, o_mabs, o_ret, o_vret, o_throw, o_lsw01, o_callS0, o_callS1, o_callS2, o_callS3, o_callS4, o_callS5, o_callV0, o_callV1, o_callV2, o_callV3, o_callV4, o_callV5, zcall_no, zok_nil, zok_ref, zok_int, zE, List.map_cons, List.map_nil, List.length_cons, List.length_nil, List.replicate_succ, List.replicate_zero, List.cons_append, List.nil_append, List.append_nil, List.getElem?_cons_zero, List.getElem?_cons_succ, List.set_cons_zero, List.set_cons_succ, Option.toList_some, Option.toList_none, vp_nar_int, znar_b, zb_0, ne_eq, Bool.not_eq_false, Classical.not_not, nI_1, sh1_def, true_and, and_true, Nat.reduceAdd, Nat.reduceSub, Nat.reduceLT, Nat.reduceLeDiff, Value.category, Nat.zero_add, Nat.add_zero]
        refine ⟨vpin (by omega) (by omega), vpin (by omega) (by omega), bs, _, f, n, _, rfl, rfl, ⟨rfl, hn24⟩, ?_⟩
        simp only [bX4_workOut_127, bX4_workOut_105, bX4_workOut_73, bX4_workOut_65, bX4_workOut_25, bX4_workOut_2, bX4_workOut_0, pR_0, pR_2, pR_3, hc, hcE, pR_s2, o_iload, o_aload, o_ic, o_lc, o_istore, o_astore, o_iinc, o_bin, o_idiv, o_ineg, o_i2c, o_i2l, o_lcmp, o_if1, o_if2, o_dup, o_dup2, o_getf, o_puti, o_ald, o_iast, o_cast, o_lald, o_last, o_mmin, o_mabs, o_ret, o_vret, o_throw, o_lsw01, o_callS0, o_callS1, o_callS2, o_callS3, o_callS4, o_callS5, o_callV0, o_callV1, o_callV2, o_callV3, o_callV4, o_callV5, zcall_no, zok_nil, zok_ref, zok_int, zE, List.map_cons, List.map_nil, List.length_cons, List.length_nil, List.replicate_succ, List.replicate_zero, List.cons_append, List.nil_append, List.append_nil, List.getElem?_cons_zero, List.getElem?_cons_succ, List.set_cons_zero, List.set_cons_succ, Option.toList_some, Option.toList_none, vp_nar_int, znar_b, zb_0, ne_eq, Bool.not_eq_false, Classical.not_not, nI_1, sh1_def, true_and, and_true, Nat.reduceAdd, Nat.reduceSub, Nat.reduceLT, Nat.reduceLeDiff, Value.category, Nat.zero_add, Nat.add_zero]
        refine ⟨vpin (by omega) (by omega), ?_⟩
        simpa [fNx_s, hb] using ih'
  have loop1 : ∀ (k i : Nat), i + k = n → A 2 [some (.ref bs), some (.int (nI i))] [] (pR bs (al, im, (fun j => if j < i then (fun _ => (0 : Int32)) j else nx j), re, nI n) f) := by
    intro k
    induction k with
    | zero =>
      intro i hi
      apply h2
      have hi9 : i = n := by omega
      subst hi9
      simp only [bX4_workOut_127, bX4_workOut_105, bX4_workOut_73, bX4_workOut_65, bX4_workOut_25, bX4_workOut_2, bX4_workOut_0, pR_0, o_iload, o_aload, o_ic, o_lc, o_istore, o_astore, o_iinc, o_bin, o_idiv, o_ineg, o_i2c, o_i2l, o_lcmp, o_if1, o_if2, o_dup, o_dup2, o_getf, o_puti, o_ald, o_iast, o_cast, o_lald, o_last, o_mmin, o_mabs, o_ret, o_vret, o_throw, o_lsw01, o_callS0, o_callS1, o_callS2, o_callS3, o_callS4, o_callS5, o_callV0, o_callV1, o_callV2, o_callV3, o_callV4, o_callV5, zcall_no, zok_nil, zok_ref, zok_int, zE, List.map_cons, List.map_nil, List.length_cons, List.length_nil, List.replicate_succ, List.replicate_zero, List.cons_append, List.nil_append, List.append_nil, List.getElem?_cons_zero, List.getElem?_cons_succ, List.set_cons_zero, List.set_cons_succ, Option.toList_some, Option.toList_none, vp_nar_int, znar_b, zb_0, ne_eq, Bool.not_eq_false, Classical.not_not, nI_1, sh1_def, true_and, and_true, Nat.reduceAdd, Nat.reduceSub, Nat.reduceLT, Nat.reduceLeDiff, Value.category, Nat.zero_add, Nat.add_zero]
      exact ⟨fun _ => loop2 i 0 (by omega), fun hc => absurd (Int32.le_refl _) hc⟩
    | succ k ih =>
      intro i hi
      apply h2
      have hc := nI_clamp (show i < 2 ^ 31 by omega)
      simp only [bX4_workOut_127, bX4_workOut_105, bX4_workOut_73, bX4_workOut_65, bX4_workOut_25, bX4_workOut_2, bX4_workOut_0, pR_0, pR_3, hc, pR_s2, o_iload, o_aload, o_ic, o_lc, o_istore, o_astore, o_iinc, o_bin, o_idiv, o_ineg, o_i2c, o_i2l, o_lcmp, o_if1, o_if2, o_dup, o_dup2, o_getf, o_puti, o_ald, o_iast, o_cast, o_lald, o_last, o_mmin, o_mabs, o_ret, o_vret, o_throw, o_lsw01, o_callS0, o_callS1, o_callS2, o_callS3, o_callS4, o_callS5, o_callV0, o_callV1, o_callV2, o_callV3, o_callV4, o_callV5, zcall_no, zok_nil, zok_ref, zok_int, zE, List.map_cons, List.map_nil, List.length_cons, List.length_nil, List.replicate_succ, List.replicate_zero, List.cons_append, List.nil_append, List.append_nil, List.getElem?_cons_zero, List.getElem?_cons_succ, List.set_cons_zero, List.set_cons_succ, Option.toList_some, Option.toList_none, vp_nar_int, znar_b, zb_0, ne_eq, Bool.not_eq_false, Classical.not_not, nI_1, sh1_def, true_and, and_true, Nat.reduceAdd, Nat.reduceSub, Nat.reduceLT, Nat.reduceLeDiff, Value.category, Nat.zero_add, Nat.add_zero]
      have ih' := ih (i + 1) (by omega)
      refine ⟨fun hc => absurd (nI_le_le (by omega) (by omega) hc) (by omega), fun _ => ⟨vpin (by omega) (by omega), ?_⟩⟩
      rw [upd_fill (g := fun _ => (0 : Int32)) rfl]
      exact ih'
  simp only [bX4_workOut_127, bX4_workOut_105, bX4_workOut_73, bX4_workOut_65, bX4_workOut_25, bX4_workOut_2, bX4_workOut_0, o_iload, o_aload, o_ic, o_lc, o_istore, o_astore, o_iinc, o_bin, o_idiv, o_ineg, o_i2c, o_i2l, o_lcmp, o_if1, o_if2, o_dup, o_dup2, o_getf, o_puti, o_ald, o_iast, o_cast, o_lald, o_last, o_mmin, o_mabs, o_ret, o_vret, o_throw, o_lsw01, o_callS0, o_callS1, o_callS2, o_callS3, o_callS4, o_callS5, o_callV0, o_callV1, o_callV2, o_callV3, o_callV4, o_callV5, zcall_no, zok_nil, zok_ref, zok_int, zE, List.map_cons, List.map_nil, List.length_cons, List.length_nil, List.replicate_succ, List.replicate_zero, List.cons_append, List.nil_append, List.append_nil, List.getElem?_cons_zero, List.getElem?_cons_succ, List.set_cons_zero, List.set_cons_succ, Option.toList_some, Option.toList_none, vp_nar_int, znar_b, zb_0, ne_eq, Bool.not_eq_false, Classical.not_not, nI_1, sh1_def, true_and, and_true, Nat.reduceAdd, Nat.reduceSub, Nat.reduceLT, Nat.reduceLeDiff, Value.category, Nat.zero_add, Nat.add_zero]
  have := loop1 n 0 (by omega)
  rw [← fill_0 (g := fun _ => (0 : Int32)) (h := nx)] at this
  exact this)
set_option maxHeartbeats 1000000 in
set_option maxRecDepth 20000 in
theorem mX4_carryOut (hlt : l.stackTraces = false) : Sem l z0 b N D cA yX4_carryOut cX4_carryOut 4 none 3 68 4 zno tX4_carryOut := uX4_carryOut hlt (mX4_workOut hlt) (fun M a h Kn Kx hok hN => by
  obtain ⟨bs, ρ, f, n, t, o, k, rfl, rfl, hR, ht, ho, hk⟩ := hN
  obtain ⟨al, im, nx, re, sz⟩ := ρ
  have hn24 := hR.2
  have hsz : sz = nI n := hR.1
  subst hsz
  have hct := nI_clamp (show t < 2 ^ 31 by omega)
  simp only [bX4_carryOut_77, bX4_carryOut_0, pR_0, pR_1, o_iload, o_aload, o_ic, o_lc, o_istore, o_astore, o_iinc, o_bin, o_idiv, o_ineg, o_i2c, o_i2l, o_lcmp, o_if1, o_if2, o_dup, o_dup2, o_getf, o_puti, o_ald, o_iast, o_cast, o_lald, o_last, o_mmin, o_mabs, o_ret, o_vret, o_throw, o_lsw01, o_callS0, o_callS1, o_callS2, o_callS3, o_callS4, o_callS5, o_callV0, o_callV1, o_callV2, o_callV3, o_callV4, o_callV5, zcall_no, zok_nil, zok_ref, zok_int, zE, List.map_cons, List.map_nil, List.length_cons, List.length_nil, List.replicate_succ, List.replicate_zero, List.cons_append, List.nil_append, List.append_nil, List.getElem?_cons_zero, List.getElem?_cons_succ, List.set_cons_zero, List.set_cons_succ, Option.toList_some, Option.toList_none, vp_nar_int, znar_b, zb_0, ne_eq, Bool.not_eq_false, Classical.not_not, nI_1, sh1_def, true_and, and_true, Nat.reduceAdd, Nat.reduceSub, Nat.reduceLT, Nat.reduceLeDiff, Value.category, Nat.zero_add, Nat.add_zero]
  refine o_tsw3 (fun h0 => ?_) (fun h1 => ?_) (fun h2 => ?_) (fun h0 h1 h2 => ?_)
  · simp only [bX4_carryOut_77, bX4_carryOut_0, pR_0, pR_1, pR_2, pR_s0, pR_s1, hct, o_iload, o_aload, o_ic, o_lc, o_istore, o_astore, o_iinc, o_bin, o_idiv, o_ineg, o_i2c, o_i2l, o_lcmp, o_if1, o_if2, o_dup, o_dup2, o_getf, o_puti, o_ald, o_iast, o_cast, o_lald, o_last, o_mmin, o_mabs, o_ret, o_vret, o_throw, o_lsw01, o_callS0, o_callS1, o_callS2, o_callS3, o_callS4, o_callS5, o_callV0, o_callV1, o_callV2, o_callV3, o_callV4, o_callV5, zcall_no, zok_nil, zok_ref, zok_int, zE, List.map_cons, List.map_nil, List.length_cons, List.length_nil, List.replicate_succ, List.replicate_zero, List.cons_append, List.nil_append, List.append_nil, List.getElem?_cons_zero, List.getElem?_cons_succ, List.set_cons_zero, List.set_cons_succ, Option.toList_some, Option.toList_none, vp_nar_int, znar_b, zb_0, ne_eq, Bool.not_eq_false, Classical.not_not, nI_1, sh1_def, true_and, and_true, Nat.reduceAdd, Nat.reduceSub, Nat.reduceLT, Nat.reduceLeDiff, Value.category, Nat.zero_add, Nat.add_zero]
    refine ⟨vpin (by omega) (by omega), bs, _, f, n, rfl, rfl, ⟨rfl, hn24⟩, ?_⟩
    simp only [bX4_carryOut_77, bX4_carryOut_0, o_iload, o_aload, o_ic, o_lc, o_istore, o_astore, o_iinc, o_bin, o_idiv, o_ineg, o_i2c, o_i2l, o_lcmp, o_if1, o_if2, o_dup, o_dup2, o_getf, o_puti, o_ald, o_iast, o_cast, o_lald, o_last, o_mmin, o_mabs, o_ret, o_vret, o_throw, o_lsw01, o_callS0, o_callS1, o_callS2, o_callS3, o_callS4, o_callS5, o_callV0, o_callV1, o_callV2, o_callV3, o_callV4, o_callV5, zcall_no, zok_nil, zok_ref, zok_int, zE, List.map_cons, List.map_nil, List.length_cons, List.length_nil, List.replicate_succ, List.replicate_zero, List.cons_append, List.nil_append, List.append_nil, List.getElem?_cons_zero, List.getElem?_cons_succ, List.set_cons_zero, List.set_cons_succ, Option.toList_some, Option.toList_none, vp_nar_int, znar_b, zb_0, ne_eq, Bool.not_eq_false, Classical.not_not, nI_1, sh1_def, true_and, and_true, Nat.reduceAdd, Nat.reduceSub, Nat.reduceLT, Nat.reduceLeDiff, Value.category, Nat.zero_add, Nat.add_zero]
    unfold fCarry at hk
    rw [if_pos h0] at hk
    exact hk
  · simp only [bX4_carryOut_77, bX4_carryOut_0, pR_0, pR_1, pR_2, pR_s0, pR_s1, hct, o_iload, o_aload, o_ic, o_lc, o_istore, o_astore, o_iinc, o_bin, o_idiv, o_ineg, o_i2c, o_i2l, o_lcmp, o_if1, o_if2, o_dup, o_dup2, o_getf, o_puti, o_ald, o_iast, o_cast, o_lald, o_last, o_mmin, o_mabs, o_ret, o_vret, o_throw, o_lsw01, o_callS0, o_callS1, o_callS2, o_callS3, o_callS4, o_callS5, o_callV0, o_callV1, o_callV2, o_callV3, o_callV4, o_callV5, zcall_no, zok_nil, zok_ref, zok_int, zE, List.map_cons, List.map_nil, List.length_cons, List.length_nil, List.replicate_succ, List.replicate_zero, List.cons_append, List.nil_append, List.append_nil, List.getElem?_cons_zero, List.getElem?_cons_succ, List.set_cons_zero, List.set_cons_succ, Option.toList_some, Option.toList_none, vp_nar_int, znar_b, zb_0, ne_eq, Bool.not_eq_false, Classical.not_not, nI_1, sh1_def, true_and, and_true, Nat.reduceAdd, Nat.reduceSub, Nat.reduceLT, Nat.reduceLeDiff, Value.category, Nat.zero_add, Nat.add_zero]
    refine ⟨vpin (by omega) (by omega), vpin (by omega) (by omega), bs, _, f, n, rfl, rfl, ⟨rfl, hn24⟩, ?_⟩
    simp only [bX4_carryOut_77, bX4_carryOut_0, o_iload, o_aload, o_ic, o_lc, o_istore, o_astore, o_iinc, o_bin, o_idiv, o_ineg, o_i2c, o_i2l, o_lcmp, o_if1, o_if2, o_dup, o_dup2, o_getf, o_puti, o_ald, o_iast, o_cast, o_lald, o_last, o_mmin, o_mabs, o_ret, o_vret, o_throw, o_lsw01, o_callS0, o_callS1, o_callS2, o_callS3, o_callS4, o_callS5, o_callV0, o_callV1, o_callV2, o_callV3, o_callV4, o_callV5, zcall_no, zok_nil, zok_ref, zok_int, zE, List.map_cons, List.map_nil, List.length_cons, List.length_nil, List.replicate_succ, List.replicate_zero, List.cons_append, List.nil_append, List.append_nil, List.getElem?_cons_zero, List.getElem?_cons_succ, List.set_cons_zero, List.set_cons_succ, Option.toList_some, Option.toList_none, vp_nar_int, znar_b, zb_0, ne_eq, Bool.not_eq_false, Classical.not_not, nI_1, sh1_def, true_and, and_true, Nat.reduceAdd, Nat.reduceSub, Nat.reduceLT, Nat.reduceLeDiff, Value.category, Nat.zero_add, Nat.add_zero]
    unfold fCarry at hk
    rw [if_neg (by rw [h1]; decide), if_pos h1] at hk
    exact hk
  · simp only [bX4_carryOut_77, bX4_carryOut_0, pR_0, pR_1, pR_2, pR_s0, pR_s1, hct, o_iload, o_aload, o_ic, o_lc, o_istore, o_astore, o_iinc, o_bin, o_idiv, o_ineg, o_i2c, o_i2l, o_lcmp, o_if1, o_if2, o_dup, o_dup2, o_getf, o_puti, o_ald, o_iast, o_cast, o_lald, o_last, o_mmin, o_mabs, o_ret, o_vret, o_throw, o_lsw01, o_callS0, o_callS1, o_callS2, o_callS3, o_callS4, o_callS5, o_callV0, o_callV1, o_callV2, o_callV3, o_callV4, o_callV5, zcall_no, zok_nil, zok_ref, zok_int, zE, List.map_cons, List.map_nil, List.length_cons, List.length_nil, List.replicate_succ, List.replicate_zero, List.cons_append, List.nil_append, List.append_nil, List.getElem?_cons_zero, List.getElem?_cons_succ, List.set_cons_zero, List.set_cons_succ, Option.toList_some, Option.toList_none, vp_nar_int, znar_b, zb_0, ne_eq, Bool.not_eq_false, Classical.not_not, nI_1, sh1_def, true_and, and_true, Nat.reduceAdd, Nat.reduceSub, Nat.reduceLT, Nat.reduceLeDiff, Value.category, Nat.zero_add, Nat.add_zero]
    refine ⟨vpin (by omega) (by omega), bs, _, f, n, rfl, rfl, ⟨rfl, hn24⟩, ?_⟩
    simp only [bX4_carryOut_77, bX4_carryOut_0, o_iload, o_aload, o_ic, o_lc, o_istore, o_astore, o_iinc, o_bin, o_idiv, o_ineg, o_i2c, o_i2l, o_lcmp, o_if1, o_if2, o_dup, o_dup2, o_getf, o_puti, o_ald, o_iast, o_cast, o_lald, o_last, o_mmin, o_mabs, o_ret, o_vret, o_throw, o_lsw01, o_callS0, o_callS1, o_callS2, o_callS3, o_callS4, o_callS5, o_callV0, o_callV1, o_callV2, o_callV3, o_callV4, o_callV5, zcall_no, zok_nil, zok_ref, zok_int, zE, List.map_cons, List.map_nil, List.length_cons, List.length_nil, List.replicate_succ, List.replicate_zero, List.cons_append, List.nil_append, List.append_nil, List.getElem?_cons_zero, List.getElem?_cons_succ, List.set_cons_zero, List.set_cons_succ, Option.toList_some, Option.toList_none, vp_nar_int, znar_b, zb_0, ne_eq, Bool.not_eq_false, Classical.not_not, nI_1, sh1_def, true_and, and_true, Nat.reduceAdd, Nat.reduceSub, Nat.reduceLT, Nat.reduceLeDiff, Value.category, Nat.zero_add, Nat.add_zero]
    unfold fCarry at hk
    rw [if_neg (by rw [h2]; decide), if_neg (by rw [h2]; decide), if_pos h2] at hk
    exact hk
  · simp only [bX4_carryOut_77, bX4_carryOut_0, pR_0, pR_1, pR_2, pR_s0, pR_s1, hct, o_iload, o_aload, o_ic, o_lc, o_istore, o_astore, o_iinc, o_bin, o_idiv, o_ineg, o_i2c, o_i2l, o_lcmp, o_if1, o_if2, o_dup, o_dup2, o_getf, o_puti, o_ald, o_iast, o_cast, o_lald, o_last, o_mmin, o_mabs, o_ret, o_vret, o_throw, o_lsw01, o_callS0, o_callS1, o_callS2, o_callS3, o_callS4, o_callS5, o_callV0, o_callV1, o_callV2, o_callV3, o_callV4, o_callV5, zcall_no, zok_nil, zok_ref, zok_int, zE, List.map_cons, List.map_nil, List.length_cons, List.length_nil, List.replicate_succ, List.replicate_zero, List.cons_append, List.nil_append, List.append_nil, List.getElem?_cons_zero, List.getElem?_cons_succ, List.set_cons_zero, List.set_cons_succ, Option.toList_some, Option.toList_none, vp_nar_int, znar_b, zb_0, ne_eq, Bool.not_eq_false, Classical.not_not, nI_1, sh1_def, true_and, and_true, Nat.reduceAdd, Nat.reduceSub, Nat.reduceLT, Nat.reduceLeDiff, Value.category, Nat.zero_add, Nat.add_zero]
    refine ⟨vpin (by omega) (by omega), vpin (by omega) (by omega), bs, _, f, n, rfl, rfl, ⟨rfl, hn24⟩, ?_⟩
    simp only [bX4_carryOut_77, bX4_carryOut_0, o_iload, o_aload, o_ic, o_lc, o_istore, o_astore, o_iinc, o_bin, o_idiv, o_ineg, o_i2c, o_i2l, o_lcmp, o_if1, o_if2, o_dup, o_dup2, o_getf, o_puti, o_ald, o_iast, o_cast, o_lald, o_last, o_mmin, o_mabs, o_ret, o_vret, o_throw, o_lsw01, o_callS0, o_callS1, o_callS2, o_callS3, o_callS4, o_callS5, o_callV0, o_callV1, o_callV2, o_callV3, o_callV4, o_callV5, zcall_no, zok_nil, zok_ref, zok_int, zE, List.map_cons, List.map_nil, List.length_cons, List.length_nil, List.replicate_succ, List.replicate_zero, List.cons_append, List.nil_append, List.append_nil, List.getElem?_cons_zero, List.getElem?_cons_succ, List.set_cons_zero, List.set_cons_succ, Option.toList_some, Option.toList_none, vp_nar_int, znar_b, zb_0, ne_eq, Bool.not_eq_false, Classical.not_not, nI_1, sh1_def, true_and, and_true, Nat.reduceAdd, Nat.reduceSub, Nat.reduceLT, Nat.reduceLeDiff, Value.category, Nat.zero_add, Nat.add_zero]
    unfold fCarry at hk
    rw [if_neg h0, if_neg h1, if_neg h2] at hk
    exact hk)
set_option maxHeartbeats 1000000 in
set_option maxRecDepth 20000 in
theorem mX4_grow (hlt : l.stackTraces = false) : Sem l z0 b N D cA yX4_grow cX4_grow 3 none 3 68 2 zno tX4_grow := uX4_grow hlt (mX4_workOut hlt) (fun M a h Kn Kx hok hN A h5 => by
  obtain ⟨bs, ρ, f, n, rfl, rfl, hR, hn, hk⟩ := hN
  obtain ⟨al, im, nx, re, sz⟩ := ρ
  have hsz : sz = nI n := hR.1
  subst hsz
  have hct := nI_clamp (show n < 2 ^ 31 by omega)
  have l2 : A 5 [some (.ref bs), some (.int (nI (n + 1))), some (.int (nI (n + 1)))] [] (pR bs (upd al n (-1), im, nx, re, nI n) f) := by
    apply h5
    simp only [bX4_grow_5, bX4_grow_0, pR_0, pR_1, pR_s0, pR_s4, o_iload, o_aload, o_ic, o_lc, o_istore, o_astore, o_iinc, o_bin, o_idiv, o_ineg, o_i2c, o_i2l, o_lcmp, o_if1, o_if2, o_dup, o_dup2, o_getf, o_puti, o_ald, o_iast, o_cast, o_lald, o_last, o_mmin, o_mabs, o_ret, o_vret, o_throw, o_lsw01, o_callS0, o_callS1, o_callS2, o_callS3, o_callS4, o_callS5, o_callV0, o_callV1, o_callV2, o_callV3, o_callV4, o_callV5, zcall_no, zok_nil, zok_ref, zok_int, zE, List.map_cons, List.map_nil, List.length_cons, List.length_nil, List.replicate_succ, List.replicate_zero, List.cons_append, List.nil_append, List.append_nil, List.getElem?_cons_zero, List.getElem?_cons_succ, List.set_cons_zero, List.set_cons_succ, Option.toList_some, Option.toList_none, vp_nar_int, znar_b, zb_0, ne_eq, Bool.not_eq_false, Classical.not_not, nI_1, sh1_def, true_and, and_true, Nat.reduceAdd, Nat.reduceSub, Nat.reduceLT, Nat.reduceLeDiff, Value.category, Nat.zero_add, Nat.add_zero]
    refine ⟨fun _ => ⟨bs, _, f, n + 1, rfl, rfl, ⟨rfl, by omega⟩, ?_⟩, fun hc => absurd (Int32.le_refl _) hc⟩
    simp only [bX4_grow_5, bX4_grow_0, o_iload, o_aload, o_ic, o_lc, o_istore, o_astore, o_iinc, o_bin, o_idiv, o_ineg, o_i2c, o_i2l, o_lcmp, o_if1, o_if2, o_dup, o_dup2, o_getf, o_puti, o_ald, o_iast, o_cast, o_lald, o_last, o_mmin, o_mabs, o_ret, o_vret, o_throw, o_lsw01, o_callS0, o_callS1, o_callS2, o_callS3, o_callS4, o_callS5, o_callV0, o_callV1, o_callV2, o_callV3, o_callV4, o_callV5, zcall_no, zok_nil, zok_ref, zok_int, zE, List.map_cons, List.map_nil, List.length_cons, List.length_nil, List.replicate_succ, List.replicate_zero, List.cons_append, List.nil_append, List.append_nil, List.getElem?_cons_zero, List.getElem?_cons_succ, List.set_cons_zero, List.set_cons_succ, Option.toList_some, Option.toList_none, vp_nar_int, znar_b, zb_0, ne_eq, Bool.not_eq_false, Classical.not_not, nI_1, sh1_def, true_and, and_true, Nat.reduceAdd, Nat.reduceSub, Nat.reduceLT, Nat.reduceLeDiff, Value.category, Nat.zero_add, Nat.add_zero]
    exact hk
  have l1 : A 5 [some (.ref bs), some (.int (nI (n + 1))), some (.int (nI n))] [] (pR bs (al, im, nx, re, nI n) f) := by
    apply h5
    simp only [bX4_grow_5, bX4_grow_0, pR_0, pR_1, pR_s0, pR_s4, hct, o_iload, o_aload, o_ic, o_lc, o_istore, o_astore, o_iinc, o_bin, o_idiv, o_ineg, o_i2c, o_i2l, o_lcmp, o_if1, o_if2, o_dup, o_dup2, o_getf, o_puti, o_ald, o_iast, o_cast, o_lald, o_last, o_mmin, o_mabs, o_ret, o_vret, o_throw, o_lsw01, o_callS0, o_callS1, o_callS2, o_callS3, o_callS4, o_callS5, o_callV0, o_callV1, o_callV2, o_callV3, o_callV4, o_callV5, zcall_no, zok_nil, zok_ref, zok_int, zE, List.map_cons, List.map_nil, List.length_cons, List.length_nil, List.replicate_succ, List.replicate_zero, List.cons_append, List.nil_append, List.append_nil, List.getElem?_cons_zero, List.getElem?_cons_succ, List.set_cons_zero, List.set_cons_succ, Option.toList_some, Option.toList_none, vp_nar_int, znar_b, zb_0, ne_eq, Bool.not_eq_false, Classical.not_not, nI_1, sh1_def, true_and, and_true, Nat.reduceAdd, Nat.reduceSub, Nat.reduceLT, Nat.reduceLeDiff, Value.category, Nat.zero_add, Nat.add_zero]
    exact ⟨fun hc => absurd (nI_le_le (by omega) (by omega) hc) (by omega), fun _ => ⟨vpin (by omega) (by omega), l2⟩⟩
  simp only [bX4_grow_5, bX4_grow_0, pR_0, o_iload, o_aload, o_ic, o_lc, o_istore, o_astore, o_iinc, o_bin, o_idiv, o_ineg, o_i2c, o_i2l, o_lcmp, o_if1, o_if2, o_dup, o_dup2, o_getf, o_puti, o_ald, o_iast, o_cast, o_lald, o_last, o_mmin, o_mabs, o_ret, o_vret, o_throw, o_lsw01, o_callS0, o_callS1, o_callS2, o_callS3, o_callS4, o_callS5, o_callV0, o_callV1, o_callV2, o_callV3, o_callV4, o_callV5, zcall_no, zok_nil, zok_ref, zok_int, zE, List.map_cons, List.map_nil, List.length_cons, List.length_nil, List.replicate_succ, List.replicate_zero, List.cons_append, List.nil_append, List.append_nil, List.getElem?_cons_zero, List.getElem?_cons_succ, List.set_cons_zero, List.set_cons_succ, Option.toList_some, Option.toList_none, vp_nar_int, znar_b, zb_0, ne_eq, Bool.not_eq_false, Classical.not_not, nI_1, sh1_def, true_and, and_true, Nat.reduceAdd, Nat.reduceSub, Nat.reduceLT, Nat.reduceLeDiff, Value.category, Nat.zero_add, Nat.add_zero]
  exact l1)
set_option maxHeartbeats 1000000 in
set_option maxRecDepth 20000 in
theorem mX4_copyFrom (hlt : l.stackTraces = false) : Sem l z0 b N D cA yX4_copyFrom cX4_copyFrom 3 none 0 0 2 zno tX4_copyFrom := uX4_copyFrom hlt (fun M a h Kn Kx hok hN A h10 => by
  obtain ⟨τ, ρ, f, n, rfl, rfl, hR, hk⟩ := hN
  obtain ⟨al, im, nx, re, sz⟩ := ρ
  obtain ⟨al2, im2, nx2, re2, sz2⟩ := τ
  have hn24 := hR.2
  have hsz : sz = nI n := hR.1
  subst hsz
  have o5 : ∀ (x : zRS) (g : ZH), pR 10 x g 5 = g 5 := fun x g => zB_out (Or.inl (by decide))
  have o6 : ∀ (x : zRS) (g : ZH), pR 10 x g 6 = g 6 := fun x g => zB_out (Or.inl (by decide))
  have o7 : ∀ (x : zRS) (g : ZH), pR 10 x g 7 = g 7 := fun x g => zB_out (Or.inl (by decide))
  have q6 : ∀ (x : zRS) (g : ZH), pR 5 x g 6 = .inl (0, 24, .inl x.1) := fun x g => pR_1 (bs := 5)
  have q7 : ∀ (x : zRS) (g : ZH), pR 5 x g 7 = .inl (0, 24, .inl x.2.1) := fun x g => pR_2 (bs := 5)
  have t1 : ∀ (x : zRS) (g : ZH), pR 10 x g 11 = .inl (0, 24, .inl x.1) := fun x g => pR_1 (bs := 10)
  have t2 : ∀ (x : zRS) (g : ZH), pR 10 x g 12 = .inl (0, 24, .inl x.2.1) := fun x g => pR_2 (bs := 10)
  have s1 : ∀ (x : zRS) (g : ZH) (v : Nat → Int32), zup (pR 10 x g) 11 (.inl (0, 24, .inl v)) = pR 10 (v, x.2.1, x.2.2.1, x.2.2.2.1, x.2.2.2.2) g := fun x g v => pR_s0 (bs := 10)
  have s2 : ∀ (x : zRS) (g : ZH) (v : Nat → Int32), zup (pR 10 x g) 12 (.inl (0, 24, .inl v)) = pR 10 (x.1, v, x.2.2.1, x.2.2.2.1, x.2.2.2.2) g := fun x g v => pR_s1 (bs := 10)
  have s4 : ∀ (x : zRS) (g : ZH) (v : Int32), zup (pR 10 x g) 10 (.inr (4, [.ref 11, .ref 12, .ref 13, .ref 14, .int v])) = pR 10 (x.1, x.2.1, x.2.2.1, x.2.2.2.1, v) g := fun x g v => pR_s4 (bs := 10)
  have loop : ∀ (k i : Nat), i + k = n → A 10 [some (.ref 10), some (.ref 5), some (.int (nI i))] [] (pR 10 ((fun j => if j < i then al j else al2 j), (fun j => if j < i then im j else im2 j), nx2, re2, nI n) (pR 5 (al, im, nx, re, nI n) f)) := by
    intro k
    induction k with
    | zero =>
      intro i hi
      apply h10
      have hi9 : i = n := by omega
      subst hi9
      simp only [bX4_copyFrom_10, bX4_copyFrom_0, pR_0, o5, o6, o7, q6, q7, t1, t2, s1, s2, o_iload, o_aload, o_ic, o_lc, o_istore, o_astore, o_iinc, o_bin, o_idiv, o_ineg, o_i2c, o_i2l, o_lcmp, o_if1, o_if2, o_dup, o_dup2, o_getf, o_puti, o_ald, o_iast, o_cast, o_lald, o_last, o_mmin, o_mabs, o_ret, o_vret, o_throw, o_lsw01, o_callS0, o_callS1, o_callS2, o_callS3, o_callS4, o_callS5, o_callV0, o_callV1, o_callV2, o_callV3, o_callV4, o_callV5, zcall_no, zok_nil, zok_ref, zok_int, zE, List.map_cons, List.map_nil, List.length_cons, List.length_nil, List.replicate_succ, List.replicate_zero, List.cons_append, List.nil_append, List.append_nil, List.getElem?_cons_zero, List.getElem?_cons_succ, List.set_cons_zero, List.set_cons_succ, Option.toList_some, Option.toList_none, vp_nar_int, znar_b, zb_0, ne_eq, Bool.not_eq_false, Classical.not_not, nI_1, sh1_def, true_and, and_true, Nat.reduceAdd, Nat.reduceSub, Nat.reduceLT, Nat.reduceLeDiff, Value.category, Nat.zero_add, Nat.add_zero]
      exact ⟨fun _ => hk, fun hc => absurd (Int32.le_refl _) hc⟩
    | succ k ih =>
      intro i hi
      apply h10
      have hc := nI_clamp (show i < 2 ^ 31 by omega)
      simp only [bX4_copyFrom_10, bX4_copyFrom_0, pR_0, o5, o6, o7, q6, q7, t1, t2, s1, s2, hc, o_iload, o_aload, o_ic, o_lc, o_istore, o_astore, o_iinc, o_bin, o_idiv, o_ineg, o_i2c, o_i2l, o_lcmp, o_if1, o_if2, o_dup, o_dup2, o_getf, o_puti, o_ald, o_iast, o_cast, o_lald, o_last, o_mmin, o_mabs, o_ret, o_vret, o_throw, o_lsw01, o_callS0, o_callS1, o_callS2, o_callS3, o_callS4, o_callS5, o_callV0, o_callV1, o_callV2, o_callV3, o_callV4, o_callV5, zcall_no, zok_nil, zok_ref, zok_int, zE, List.map_cons, List.map_nil, List.length_cons, List.length_nil, List.replicate_succ, List.replicate_zero, List.cons_append, List.nil_append, List.append_nil, List.getElem?_cons_zero, List.getElem?_cons_succ, List.set_cons_zero, List.set_cons_succ, Option.toList_some, Option.toList_none, vp_nar_int, znar_b, zb_0, ne_eq, Bool.not_eq_false, Classical.not_not, nI_1, sh1_def, true_and, and_true, Nat.reduceAdd, Nat.reduceSub, Nat.reduceLT, Nat.reduceLeDiff, Value.category, Nat.zero_add, Nat.add_zero]
      have ih' := ih (i + 1) (by omega)
      refine ⟨fun hc => absurd (nI_le_le (by omega) (by omega) hc) (by omega), fun _ => ⟨vpin (by omega) (by omega), vpin (by omega) (by omega), vpin (by omega) (by omega), vpin (by omega) (by omega), ?_⟩⟩
      rw [upd_fill (g := al) rfl, upd_fill (g := im) rfl]
      exact ih'
  simp only [bX4_copyFrom_10, bX4_copyFrom_0, pR_0, o5, o6, o7, q6, q7, t1, t2, s1, s2, s4, o_iload, o_aload, o_ic, o_lc, o_istore, o_astore, o_iinc, o_bin, o_idiv, o_ineg, o_i2c, o_i2l, o_lcmp, o_if1, o_if2, o_dup, o_dup2, o_getf, o_puti, o_ald, o_iast, o_cast, o_lald, o_last, o_mmin, o_mabs, o_ret, o_vret, o_throw, o_lsw01, o_callS0, o_callS1, o_callS2, o_callS3, o_callS4, o_callS5, o_callV0, o_callV1, o_callV2, o_callV3, o_callV4, o_callV5, zcall_no, zok_nil, zok_ref, zok_int, zE, List.map_cons, List.map_nil, List.length_cons, List.length_nil, List.replicate_succ, List.replicate_zero, List.cons_append, List.nil_append, List.append_nil, List.getElem?_cons_zero, List.getElem?_cons_succ, List.set_cons_zero, List.set_cons_succ, Option.toList_some, Option.toList_none, vp_nar_int, znar_b, zb_0, ne_eq, Bool.not_eq_false, Classical.not_not, nI_1, sh1_def, true_and, and_true, Nat.reduceAdd, Nat.reduceSub, Nat.reduceLT, Nat.reduceLeDiff, Value.category, Nat.zero_add, Nat.add_zero]
  have := loop n 0 (by omega)
  rw [← fill_0 (g := al) (h := al2), ← fill_0 (g := im) (h := im2)] at this
  exact this)
end R4
