section S1
variable {l : Launch} {z0 b N : Nat} {D : va_G} {cA : Nat → ClassId}
set_option maxHeartbeats 1000000 in
set_option maxRecDepth 20000 in
theorem mJ6_bitCount_0f7a4 (hlt : l.stackTraces = false) : Sem l z0 b N D cA yJ6_bitCount_0f7a4 cJ6_bitCount_0f7a4 1 (some .int) 0 0 1 zno tJ6_bitCount_0f7a4 := uJ6_bitCount_0f7a4 hlt (fun M a h Kn Kx hok hN => by
  obtain ⟨x, rfl, hk⟩ := hN
  simp only [bJ6_bitCount_0f7a4_0, o_iload, o_aload, o_ic, o_lc, o_istore, o_astore, o_iinc, o_bin, o_idiv, o_ineg, o_i2c, o_i2l, o_lcmp, o_if1, o_if2, o_dup, o_dup2, o_getf, o_puti, o_ald, o_iast, o_cast, o_lald, o_last, o_mmin, o_mabs, o_ret, o_vret, o_throw, o_lsw01, o_callS0, o_callS1, o_callS2, o_callS3, o_callS4, o_callS5, o_callV0, o_callV1, o_callV2, o_callV3, o_callV4, o_callV5, zcall_no, zok_nil, zok_ref, zok_int, zE, List.map_cons, List.map_nil, List.length_cons, List.length_nil, List.replicate_succ, List.replicate_zero, List.cons_append, List.nil_append, List.append_nil, List.getElem?_cons_zero, List.getElem?_cons_succ, List.set_cons_zero, List.set_cons_succ, Option.toList_some, Option.toList_none, vp_nar_int, znar_b, zb_0, ne_eq, Bool.not_eq_false, Classical.not_not, nI_1, sh1_def, true_and, and_true, Nat.reduceAdd, Nat.reduceSub, Nat.reduceLT, Nat.reduceLeDiff, Value.category, Nat.zero_add, Nat.add_zero]
  exact hk)
theorem isCh95 : isCh 95 := rfl
theorem isCh_c (x : Int32) : isCh (x.toUInt32 % 65536).toInt32 := pk_nc x
set_option maxHeartbeats 1000000 in
set_option maxRecDepth 20000 in
theorem mX1_plain (hlt : l.stackTraces = false) : Sem l z0 b N D cA yX1_plain cX1_plain 1 (some .char) 0 0 1 zno tX1_plain := uX1_plain hlt (fun M a h Kn Kx hok hN => by
  obtain ⟨x, rfl, hc, hk⟩ := hN
  simp only [bX1_plain_33, bX1_plain_21, bX1_plain_0, o_iload, o_aload, o_ic, o_lc, o_istore, o_astore, o_iinc, o_bin, o_idiv, o_ineg, o_i2c, o_i2l, o_lcmp, o_if1, o_if2, o_dup, o_dup2, o_getf, o_puti, o_ald, o_iast, o_cast, o_lald, o_last, o_mmin, o_mabs, o_ret, o_vret, o_throw, o_lsw01, o_callS0, o_callS1, o_callS2, o_callS3, o_callS4, o_callS5, o_callV0, o_callV1, o_callV2, o_callV3, o_callV4, o_callV5, zcall_no, zok_nil, zok_ref, zok_int, zE, List.map_cons, List.map_nil, List.length_cons, List.length_nil, List.replicate_succ, List.replicate_zero, List.cons_append, List.nil_append, List.append_nil, List.getElem?_cons_zero, List.getElem?_cons_succ, List.set_cons_zero, List.set_cons_succ, Option.toList_some, Option.toList_none, vp_nar_int, znar_b, zb_0, ne_eq, Bool.not_eq_false, Classical.not_not, nI_1, sh1_def, true_and, and_true, Nat.reduceAdd, Nat.reduceSub, Nat.reduceLT, Nat.reduceLeDiff, Value.category, Nat.zero_add, Nat.add_zero]
  unfold fPl at hk
  refine ⟨fun h1 => ?_, fun h1 => ⟨fun h2 => ?_, fun h2 => ?_⟩⟩
  · rw [if_neg (fun q => absurd q.1 (Int32.not_le.mpr h1))] at hk
    refine ⟨fun h3 => ?_, fun h3 => ?_⟩
    · rw [if_neg h3] at hk; exact ⟨hc, hk⟩
    · rw [if_pos h3] at hk; exact ⟨isCh95, hk⟩
  · rw [if_neg (fun q => absurd q.2 (Int32.not_le.mpr h2))] at hk
    refine ⟨fun h3 => ?_, fun h3 => ?_⟩
    · rw [if_neg h3] at hk; exact ⟨hc, hk⟩
    · rw [if_pos h3] at hk; exact ⟨isCh95, hk⟩
  · rw [if_pos ⟨Int32.not_lt.mp h1, Int32.not_lt.mp h2⟩] at hk
    exact ⟨isCh_c _, hk⟩)
set_option maxHeartbeats 1000000 in
set_option maxRecDepth 20000 in
theorem mX1_append (hlt : l.stackTraces = false) : Sem l z0 b N D cA yX1_append cX1_append 2 none 0 0 2 zno tX1_append := uX1_append hlt (fun M a h Kn Kx hok hN => by
  obtain ⟨ν, f, x, d, rfl, rfl, hc, hd, hd8, hk⟩ := hN
  obtain ⟨le, ln, dr, sz, dl⟩ := ν
  have hd' : dl = nI d := hd
  subst hd'
  have hcd := nI_clamp (show d < 2 ^ 31 by omega)
  simp only [bX1_append_0, pN_0, pN_3, pN_s2, pN_s4, hcd, isCh_nar hc, o_iload, o_aload, o_ic, o_lc, o_istore, o_astore, o_iinc, o_bin, o_idiv, o_ineg, o_i2c, o_i2l, o_lcmp, o_if1, o_if2, o_dup, o_dup2, o_getf, o_puti, o_ald, o_iast, o_cast, o_lald, o_last, o_mmin, o_mabs, o_ret, o_vret, o_throw, o_lsw01, o_callS0, o_callS1, o_callS2, o_callS3, o_callS4, o_callS5, o_callV0, o_callV1, o_callV2, o_callV3, o_callV4, o_callV5, zcall_no, zok_nil, zok_ref, zok_int, zE, List.map_cons, List.map_nil, List.length_cons, List.length_nil, List.replicate_succ, List.replicate_zero, List.cons_append, List.nil_append, List.append_nil, List.getElem?_cons_zero, List.getElem?_cons_succ, List.set_cons_zero, List.set_cons_succ, Option.toList_some, Option.toList_none, vp_nar_int, znar_b, zb_0, ne_eq, Bool.not_eq_false, Classical.not_not, nI_1, sh1_def, true_and, and_true, Nat.reduceAdd, Nat.reduceSub, Nat.reduceLT, Nat.reduceLeDiff, Value.category, Nat.zero_add, Nat.add_zero]
  exact ⟨vpin (by omega) (by omega), hk⟩)
set_option maxHeartbeats 1000000 in
set_option maxRecDepth 20000 in
theorem mX1_emptyDraft (hlt : l.stackTraces = false) : Sem l z0 b N D cA yX1_emptyDraft cX1_emptyDraft 1 none 0 0 1 zno tX1_emptyDraft := uX1_emptyDraft hlt (fun M a h Kn Kx hok hN => by
  obtain ⟨ν, f, rfl, rfl, hk⟩ := hN
  simp only [bX1_emptyDraft_0, pN_0, pN_s4, o_iload, o_aload, o_ic, o_lc, o_istore, o_astore, o_iinc, o_bin, o_idiv, o_ineg, o_i2c, o_i2l, o_lcmp, o_if1, o_if2, o_dup, o_dup2, o_getf, o_puti, o_ald, o_iast, o_cast, o_lald, o_last, o_mmin, o_mabs, o_ret, o_vret, o_throw, o_lsw01, o_callS0, o_callS1, o_callS2, o_callS3, o_callS4, o_callS5, o_callV0, o_callV1, o_callV2, o_callV3, o_callV4, o_callV5, zcall_no, zok_nil, zok_ref, zok_int, zE, List.map_cons, List.map_nil, List.length_cons, List.length_nil, List.replicate_succ, List.replicate_zero, List.cons_append, List.nil_append, List.append_nil, List.getElem?_cons_zero, List.getElem?_cons_succ, List.set_cons_zero, List.set_cons_succ, Option.toList_some, Option.toList_none, vp_nar_int, znar_b, zb_0, ne_eq, Bool.not_eq_false, Classical.not_not, nI_1, sh1_def, true_and, and_true, Nat.reduceAdd, Nat.reduceSub, Nat.reduceLT, Nat.reduceLeDiff, Value.category, Nat.zero_add, Nat.add_zero]
  exact hk)
theorem nI_mul8 (t i : Nat) : nI t * 8 + nI i = nI (t * 8 + i) := by
  rw [show (8 : Int32) = nI 8 from rfl, pk_mul, nI_add]
theorem nI_mul20 (t i : Nat) : nI t * 20 + nI i = nI (t * 20 + i) := by
  rw [show (20 : Int32) = nI 20 from rfl, pk_mul, nI_add]
set_option maxHeartbeats 1000000 in
set_option maxRecDepth 20000 in
theorem mX1_letterAt (hlt : l.stackTraces = false) : Sem l z0 b N D cA yX1_letterAt cX1_letterAt 3 (some .char) 0 0 3 zno tX1_letterAt := uX1_letterAt hlt (fun M a h Kn Kx hok hN => by
  obtain ⟨ν, f, t, i, rfl, rfl, ht, hi, hc, hk⟩ := hN
  have hcd := nI_clamp (show t * 8 + i < 2 ^ 31 by omega)
  simp only [bX1_letterAt_0, pN_0, pN_1, nI_mul8, hcd, o_iload, o_aload, o_ic, o_lc, o_istore, o_astore, o_iinc, o_bin, o_idiv, o_ineg, o_i2c, o_i2l, o_lcmp, o_if1, o_if2, o_dup, o_dup2, o_getf, o_puti, o_ald, o_iast, o_cast, o_lald, o_last, o_mmin, o_mabs, o_ret, o_vret, o_throw, o_lsw01, o_callS0, o_callS1, o_callS2, o_callS3, o_callS4, o_callS5, o_callV0, o_callV1, o_callV2, o_callV3, o_callV4, o_callV5, zcall_no, zok_nil, zok_ref, zok_int, zE, List.map_cons, List.map_nil, List.length_cons, List.length_nil, List.replicate_succ, List.replicate_zero, List.cons_append, List.nil_append, List.append_nil, List.getElem?_cons_zero, List.getElem?_cons_succ, List.set_cons_zero, List.set_cons_succ, Option.toList_some, Option.toList_none, vp_nar_int, znar_b, zb_0, ne_eq, Bool.not_eq_false, Classical.not_not, nI_1, sh1_def, true_and, and_true, Nat.reduceAdd, Nat.reduceSub, Nat.reduceLT, Nat.reduceLeDiff, Value.category, Nat.zero_add, Nat.add_zero]
  exact ⟨vpin (by omega) (by omega), hc, hk⟩)
set_option maxHeartbeats 1000000 in
set_option maxRecDepth 20000 in
theorem mX1_isDraft (hlt : l.stackTraces = false) : Sem l z0 b N D cA yX1_isDraft cX1_isDraft 3 (some .boolean) 1 22 2 zno tX1_isDraft := uX1_isDraft hlt (mX1_letterAt hlt) (mX1_plain hlt) (fun M a h Kn Kx hok hN A h17 => by
  obtain ⟨ν, f, t, d, rfl, rfl, ht, hch, hd, hd8, hk⟩ := hN
  obtain ⟨le, ln, dr, sz, dl⟩ := ν
  have hd' : dl = nI d := hd
  subst hd'
  have hct := nI_clamp (show t < 2 ^ 31 by omega)
  obtain ⟨q, hq⟩ : ∃ q, q = fun i => decide (fPl (le (t * 8 + i)) = fPl (dr i)) := ⟨_, rfl⟩
  have loop : ∀ (k i : Nat), i + k = d → Kn (some (.int (zb (fAll q k i)))) (pN (le, ln, dr, sz, nI d) f) → A 17 [some (.ref 1), some (.int (nI t)), some (.int (nI i))] [] (pN (le, ln, dr, sz, nI d) f) := by
    intro k
    induction k with
    | zero =>
      intro i hi hk
      apply h17
      have hi9 : i = d := by omega
      subst hi9
      simp only [bX1_isDraft_17, bX1_isDraft_0, pN_0, o_iload, o_aload, o_ic, o_lc, o_istore, o_astore, o_iinc, o_bin, o_idiv, o_ineg, o_i2c, o_i2l, o_lcmp, o_if1, o_if2, o_dup, o_dup2, o_getf, o_puti, o_ald, o_iast, o_cast, o_lald, o_last, o_mmin, o_mabs, o_ret, o_vret, o_throw, o_lsw01, o_callS0, o_callS1, o_callS2, o_callS3, o_callS4, o_callS5, o_callV0, o_callV1, o_callV2, o_callV3, o_callV4, o_callV5, zcall_no, zok_nil, zok_ref, zok_int, zE, List.map_cons, List.map_nil, List.length_cons, List.length_nil, List.replicate_succ, List.replicate_zero, List.cons_append, List.nil_append, List.append_nil, List.getElem?_cons_zero, List.getElem?_cons_succ, List.set_cons_zero, List.set_cons_succ, Option.toList_some, Option.toList_none, vp_nar_int, znar_b, zb_0, ne_eq, Bool.not_eq_false, Classical.not_not, nI_1, sh1_def, true_and, and_true, Nat.reduceAdd, Nat.reduceSub, Nat.reduceLT, Nat.reduceLeDiff, Value.category, Nat.zero_add, Nat.add_zero]
      exact ⟨fun _ => ⟨rfl, hk⟩, fun hc => absurd (Int32.le_refl _) hc⟩
    | succ k ih =>
      intro i hi hk
      apply h17
      have hc := nI_clamp (show i < 2 ^ 31 by omega)
      simp only [bX1_isDraft_17, bX1_isDraft_0, pN_0, pN_3, hc, o_iload, o_aload, o_ic, o_lc, o_istore, o_astore, o_iinc, o_bin, o_idiv, o_ineg, o_i2c, o_i2l, o_lcmp, o_if1, o_if2, o_dup, o_dup2, o_getf, o_puti, o_ald, o_iast, o_cast, o_lald, o_last, o_mmin, o_mabs, o_ret, o_vret, o_throw, o_lsw01, o_callS0, o_callS1, o_callS2, o_callS3, o_callS4, o_callS5, o_callV0, o_callV1, o_callV2, o_callV3, o_callV4, o_callV5, zcall_no, zok_nil, zok_ref, zok_int, zE, List.map_cons, List.map_nil, List.length_cons, List.length_nil, List.replicate_succ, List.replicate_zero, List.cons_append, List.nil_append, List.append_nil, List.getElem?_cons_zero, List.getElem?_cons_succ, List.set_cons_zero, List.set_cons_succ, Option.toList_some, Option.toList_none, vp_nar_int, znar_b, zb_0, ne_eq, Bool.not_eq_false, Classical.not_not, nI_1, sh1_def, true_and, and_true, Nat.reduceAdd, Nat.reduceSub, Nat.reduceLT, Nat.reduceLeDiff, Value.category, Nat.zero_add, Nat.add_zero]
      refine ⟨fun hc => absurd (nI_le_le (by omega) (by omega) hc) (by omega), fun _ => ⟨_, f, t, i, rfl, rfl, ht, by omega, hch.1 _, ?_⟩⟩
      simp only [bX1_isDraft_17, bX1_isDraft_0, pN_0, pN_3, hc, o_iload, o_aload, o_ic, o_lc, o_istore, o_astore, o_iinc, o_bin, o_idiv, o_ineg, o_i2c, o_i2l, o_lcmp, o_if1, o_if2, o_dup, o_dup2, o_getf, o_puti, o_ald, o_iast, o_cast, o_lald, o_last, o_mmin, o_mabs, o_ret, o_vret, o_throw, o_lsw01, o_callS0, o_callS1, o_callS2, o_callS3, o_callS4, o_callS5, o_callV0, o_callV1, o_callV2, o_callV3, o_callV4, o_callV5, zcall_no, zok_nil, zok_ref, zok_int, zE, List.map_cons, List.map_nil, List.length_cons, List.length_nil, List.replicate_succ, List.replicate_zero, List.cons_append, List.nil_append, List.append_nil, List.getElem?_cons_zero, List.getElem?_cons_succ, List.set_cons_zero, List.set_cons_succ, Option.toList_some, Option.toList_none, vp_nar_int, znar_b, zb_0, ne_eq, Bool.not_eq_false, Classical.not_not, nI_1, sh1_def, true_and, and_true, Nat.reduceAdd, Nat.reduceSub, Nat.reduceLT, Nat.reduceLeDiff, Value.category, Nat.zero_add, Nat.add_zero]
      refine ⟨_, rfl, hch.1 _, ?_⟩
      simp only [bX1_isDraft_17, bX1_isDraft_0, pN_0, pN_3, hc, o_iload, o_aload, o_ic, o_lc, o_istore, o_astore, o_iinc, o_bin, o_idiv, o_ineg, o_i2c, o_i2l, o_lcmp, o_if1, o_if2, o_dup, o_dup2, o_getf, o_puti, o_ald, o_iast, o_cast, o_lald, o_last, o_mmin, o_mabs, o_ret, o_vret, o_throw, o_lsw01, o_callS0, o_callS1, o_callS2, o_callS3, o_callS4, o_callS5, o_callV0, o_callV1, o_callV2, o_callV3, o_callV4, o_callV5, zcall_no, zok_nil, zok_ref, zok_int, zE, List.map_cons, List.map_nil, List.length_cons, List.length_nil, List.replicate_succ, List.replicate_zero, List.cons_append, List.nil_append, List.append_nil, List.getElem?_cons_zero, List.getElem?_cons_succ, List.set_cons_zero, List.set_cons_succ, Option.toList_some, Option.toList_none, vp_nar_int, znar_b, zb_0, ne_eq, Bool.not_eq_false, Classical.not_not, nI_1, sh1_def, true_and, and_true, Nat.reduceAdd, Nat.reduceSub, Nat.reduceLT, Nat.reduceLeDiff, Value.category, Nat.zero_add, Nat.add_zero]
      refine ⟨vpin (by omega) (by omega), _, rfl, hch.2 _, ?_⟩
      simp only [bX1_isDraft_17, bX1_isDraft_0, pN_0, pN_3, hc, o_iload, o_aload, o_ic, o_lc, o_istore, o_astore, o_iinc, o_bin, o_idiv, o_ineg, o_i2c, o_i2l, o_lcmp, o_if1, o_if2, o_dup, o_dup2, o_getf, o_puti, o_ald, o_iast, o_cast, o_lald, o_last, o_mmin, o_mabs, o_ret, o_vret, o_throw, o_lsw01, o_callS0, o_callS1, o_callS2, o_callS3, o_callS4, o_callS5, o_callV0, o_callV1, o_callV2, o_callV3, o_callV4, o_callV5, zcall_no, zok_nil, zok_ref, zok_int, zE, List.map_cons, List.map_nil, List.length_cons, List.length_nil, List.replicate_succ, List.replicate_zero, List.cons_append, List.nil_append, List.append_nil, List.getElem?_cons_zero, List.getElem?_cons_succ, List.set_cons_zero, List.set_cons_succ, Option.toList_some, Option.toList_none, vp_nar_int, znar_b, zb_0, ne_eq, Bool.not_eq_false, Classical.not_not, nI_1, sh1_def, true_and, and_true, Nat.reduceAdd, Nat.reduceSub, Nat.reduceLT, Nat.reduceLeDiff, Value.category, Nat.zero_add, Nat.add_zero]
      have e : fAll q (k + 1) i = (q i && fAll q k (i + 1)) := rfl
      rw [e] at hk
      refine ⟨fun h1 => ?_, fun h1 => ?_⟩
      · have : q i = true := by rw [hq]; simp [h1]
        rw [this] at hk
        exact ih (i + 1) (by omega) hk
      · have : q i = false := by rw [hq]; simp [h1]
        rw [this] at hk
        exact ⟨rfl, hk⟩
  simp only [bX1_isDraft_17, bX1_isDraft_0, pN_0, pN_2, hct, o_iload, o_aload, o_ic, o_lc, o_istore, o_astore, o_iinc, o_bin, o_idiv, o_ineg, o_i2c, o_i2l, o_lcmp, o_if1, o_if2, o_dup, o_dup2, o_getf, o_puti, o_ald, o_iast, o_cast, o_lald, o_last, o_mmin, o_mabs, o_ret, o_vret, o_throw, o_lsw01, o_callS0, o_callS1, o_callS2, o_callS3, o_callS4, o_callS5, o_callV0, o_callV1, o_callV2, o_callV3, o_callV4, o_callV5, zcall_no, zok_nil, zok_ref, zok_int, zE, List.map_cons, List.map_nil, List.length_cons, List.length_nil, List.replicate_succ, List.replicate_zero, List.cons_append, List.nil_append, List.append_nil, List.getElem?_cons_zero, List.getElem?_cons_succ, List.set_cons_zero, List.set_cons_succ, Option.toList_some, Option.toList_none, vp_nar_int, znar_b, zb_0, ne_eq, Bool.not_eq_false, Classical.not_not, nI_1, sh1_def, true_and, and_true, Nat.reduceAdd, Nat.reduceSub, Nat.reduceLT, Nat.reduceLeDiff, Value.category, Nat.zero_add, Nat.add_zero]
  refine ⟨vpin (by omega) (by omega), fun h1 => ?_, fun h1 => ?_⟩
  · have e : fIsD le ln dr d t = fAll q d 0 := by unfold fIsD; rw [hq]; simp [h1]
    have hk' := hk
    simp only [e] at hk'
    exact loop d 0 (by omega) hk'
  · have e : fIsD le ln dr d t = false := by unfold fIsD; simp [h1]
    have hk' := hk
    simp only [e] at hk'
    exact ⟨rfl, hk'⟩)
set_option maxHeartbeats 1000000 in
set_option maxRecDepth 20000 in
theorem mX1_findDraft (hlt : l.stackTraces = false) : Sem l z0 b N D cA yX1_findDraft cX1_findDraft 2 (some .int) 2 44 1 zno tX1_findDraft := uX1_findDraft hlt (mX1_isDraft hlt) (fun M a h Kn Kx hok hN A h2 => by
  obtain ⟨ν, f, n, d, rfl, rfl, hn, hn24, hch, hd, hd8, hk⟩ := hN
  obtain ⟨le, ln, dr, sz, dl⟩ := ν
  have hn' : sz = nI n := hn
  subst hn'
  obtain ⟨q, hq⟩ : ∃ q, q = fIsD le ln dr d := ⟨_, rfl⟩
  have hk' : Kn (some (.int (fOpt (fFind q n n 0)))) (pN (le, ln, dr, nI n, dl) f) := by rw [hq]; exact hk
  have loop : ∀ (k i : Nat), i + k = n → Kn (some (.int (fOpt (fFind q n k i)))) (pN (le, ln, dr, nI n, dl) f) → A 2 [some (.ref 1), some (.int (nI i))] [] (pN (le, ln, dr, nI n, dl) f) := by
    intro k
    induction k with
    | zero =>
      intro i hi hk
      apply h2
      have hi9 : i = n := by omega
      subst hi9
      simp only [bX1_findDraft_2, bX1_findDraft_0, pN_0, o_iload, o_aload, o_ic, o_lc, o_istore, o_astore, o_iinc, o_bin, o_idiv, o_ineg, o_i2c, o_i2l, o_lcmp, o_if1, o_if2, o_dup, o_dup2, o_getf, o_puti, o_ald, o_iast, o_cast, o_lald, o_last, o_mmin, o_mabs, o_ret, o_vret, o_throw, o_lsw01, o_callS0, o_callS1, o_callS2, o_callS3, o_callS4, o_callS5, o_callV0, o_callV1, o_callV2, o_callV3, o_callV4, o_callV5, zcall_no, zok_nil, zok_ref, zok_int, zE, List.map_cons, List.map_nil, List.length_cons, List.length_nil, List.replicate_succ, List.replicate_zero, List.cons_append, List.nil_append, List.append_nil, List.getElem?_cons_zero, List.getElem?_cons_succ, List.set_cons_zero, List.set_cons_succ, Option.toList_some, Option.toList_none, vp_nar_int, znar_b, zb_0, ne_eq, Bool.not_eq_false, Classical.not_not, nI_1, sh1_def, true_and, and_true, Nat.reduceAdd, Nat.reduceSub, Nat.reduceLT, Nat.reduceLeDiff, Value.category, Nat.zero_add, Nat.add_zero]
      exact ⟨fun _ => hk, fun hc => absurd (Int32.le_refl _) hc⟩
    | succ k ih =>
      intro i hi hk
      apply h2
      rw [fFind_s, if_pos (by omega)] at hk
      simp only [bX1_findDraft_2, bX1_findDraft_0, pN_0, o_iload, o_aload, o_ic, o_lc, o_istore, o_astore, o_iinc, o_bin, o_idiv, o_ineg, o_i2c, o_i2l, o_lcmp, o_if1, o_if2, o_dup, o_dup2, o_getf, o_puti, o_ald, o_iast, o_cast, o_lald, o_last, o_mmin, o_mabs, o_ret, o_vret, o_throw, o_lsw01, o_callS0, o_callS1, o_callS2, o_callS3, o_callS4, o_callS5, o_callV0, o_callV1, o_callV2, o_callV3, o_callV4, o_callV5, zcall_no, zok_nil, zok_ref, zok_int, zE, List.map_cons, List.map_nil, List.length_cons, List.length_nil, List.replicate_succ, List.replicate_zero, List.cons_append, List.nil_append, List.append_nil, List.getElem?_cons_zero, List.getElem?_cons_succ, List.set_cons_zero, List.set_cons_succ, Option.toList_some, Option.toList_none, vp_nar_int, znar_b, zb_0, ne_eq, Bool.not_eq_false, Classical.not_not, nI_1, sh1_def, true_and, and_true, Nat.reduceAdd, Nat.reduceSub, Nat.reduceLT, Nat.reduceLeDiff, Value.category, Nat.zero_add, Nat.add_zero]
      refine ⟨fun hc => absurd (nI_le_le (by omega) (by omega) hc) (by omega), fun _ => ⟨_, f, i, d, rfl, rfl, by omega, hch, hd, hd8, ?_⟩⟩
      simp only [bX1_findDraft_2, bX1_findDraft_0, pN_0, o_iload, o_aload, o_ic, o_lc, o_istore, o_astore, o_iinc, o_bin, o_idiv, o_ineg, o_i2c, o_i2l, o_lcmp, o_if1, o_if2, o_dup, o_dup2, o_getf, o_puti, o_ald, o_iast, o_cast, o_lald, o_last, o_mmin, o_mabs, o_ret, o_vret, o_throw, o_lsw01, o_callS0, o_callS1, o_callS2, o_callS3, o_callS4, o_callS5, o_callV0, o_callV1, o_callV2, o_callV3, o_callV4, o_callV5, zcall_no, zok_nil, zok_ref, zok_int, zE, List.map_cons, List.map_nil, List.length_cons, List.length_nil, List.replicate_succ, List.replicate_zero, List.cons_append, List.nil_append, List.append_nil, List.getElem?_cons_zero, List.getElem?_cons_succ, List.set_cons_zero, List.set_cons_succ, Option.toList_some, Option.toList_none, vp_nar_int, znar_b, zb_0, ne_eq, Bool.not_eq_false, Classical.not_not, nI_1, sh1_def, true_and, and_true, Nat.reduceAdd, Nat.reduceSub, Nat.reduceLT, Nat.reduceLeDiff, Value.category, Nat.zero_add, Nat.add_zero]
      rw [← hq]
      refine ⟨fun h1 => ?_, fun h1 => ?_⟩
      · rw [h1] at hk
        exact ih (i + 1) (by omega) hk
      · rw [h1] at hk
        exact hk
  simp only [bX1_findDraft_2, bX1_findDraft_0, o_iload, o_aload, o_ic, o_lc, o_istore, o_astore, o_iinc, o_bin, o_idiv, o_ineg, o_i2c, o_i2l, o_lcmp, o_if1, o_if2, o_dup, o_dup2, o_getf, o_puti, o_ald, o_iast, o_cast, o_lald, o_last, o_mmin, o_mabs, o_ret, o_vret, o_throw, o_lsw01, o_callS0, o_callS1, o_callS2, o_callS3, o_callS4, o_callS5, o_callV0, o_callV1, o_callV2, o_callV3, o_callV4, o_callV5, zcall_no, zok_nil, zok_ref, zok_int, zE, List.map_cons, List.map_nil, List.length_cons, List.length_nil, List.replicate_succ, List.replicate_zero, List.cons_append, List.nil_append, List.append_nil, List.getElem?_cons_zero, List.getElem?_cons_succ, List.set_cons_zero, List.set_cons_succ, Option.toList_some, Option.toList_none, vp_nar_int, znar_b, zb_0, ne_eq, Bool.not_eq_false, Classical.not_not, nI_1, sh1_def, true_and, and_true, Nat.reduceAdd, Nat.reduceSub, Nat.reduceLT, Nat.reduceLeDiff, Value.category, Nat.zero_add, Nat.add_zero]
  exact loop n 0 (by omega) hk')
set_option maxHeartbeats 1000000 in
set_option maxRecDepth 20000 in
theorem mX1_addDraft (hlt : l.stackTraces = false) : Sem l z0 b N D cA yX1_addDraft cX1_addDraft 2 (some .int) 0 0 1 zno tX1_addDraft := uX1_addDraft hlt (fun M a h Kn Kx hok hN A h2 => by
  obtain ⟨ν, f, n, d, rfl, rfl, hn, hn24, hch, hd, hd8, hk⟩ := hN
  obtain ⟨le, ln, dr, sz, dl⟩ := ν
  have hn' : sz = nI n := hn
  have hd' : dl = nI d := hd
  subst hn'; subst hd'
  have hcn := nI_clamp (show n < 2 ^ 31 by omega)
  have loop : ∀ (k i : Nat), i + k = d → A 2 [some (.ref 1), some (.int (nI i))] [] (pN ((fun j => if n * 8 ≤ j ∧ j < n * 8 + i then dr (j - n * 8) else le j), ln, dr, nI n, nI d) f) := by
    intro k
    induction k with
    | zero =>
      intro i hi
      apply h2
      have hi9 : i = d := by omega
      subst hi9
      simp only [bX1_addDraft_2, bX1_addDraft_0, pN_0, pN_2, pN_s1, pN_s3, hcn, pk_sub, o_iload, o_aload, o_ic, o_lc, o_istore, o_astore, o_iinc, o_bin, o_idiv, o_ineg, o_i2c, o_i2l, o_lcmp, o_if1, o_if2, o_dup, o_dup2, o_getf, o_puti, o_ald, o_iast, o_cast, o_lald, o_last, o_mmin, o_mabs, o_ret, o_vret, o_throw, o_lsw01, o_callS0, o_callS1, o_callS2, o_callS3, o_callS4, o_callS5, o_callV0, o_callV1, o_callV2, o_callV3, o_callV4, o_callV5, zcall_no, zok_nil, zok_ref, zok_int, zE, List.map_cons, List.map_nil, List.length_cons, List.length_nil, List.replicate_succ, List.replicate_zero, List.cons_append, List.nil_append, List.append_nil, List.getElem?_cons_zero, List.getElem?_cons_succ, List.set_cons_zero, List.set_cons_succ, Option.toList_some, Option.toList_none, vp_nar_int, znar_b, zb_0, ne_eq, Bool.not_eq_false, Classical.not_not, nI_1, sh1_def, true_and, and_true, Nat.reduceAdd, Nat.reduceSub, Nat.reduceLT, Nat.reduceLeDiff, Value.category, Nat.zero_add, Nat.add_zero]
      refine ⟨fun _ => ⟨vpin (by omega) (by omega), ?_⟩, fun hc => absurd (Int32.le_refl _) hc⟩
      rw [show nI (n + 1) - 1 = nI n from nI_pred n]
      exact hk
    | succ k ih =>
      intro i hi
      apply h2
      have hc := nI_clamp (show i < 2 ^ 31 by omega)
      have hc8 := nI_clamp (show n * 8 + i < 2 ^ 31 by omega)
      simp only [bX1_addDraft_2, bX1_addDraft_0, pN_0, pN_1, pN_3, pN_s0, hc, nI_mul8, hc8, isCh_nar (hch.2 i), o_iload, o_aload, o_ic, o_lc, o_istore, o_astore, o_iinc, o_bin, o_idiv, o_ineg, o_i2c, o_i2l, o_lcmp, o_if1, o_if2, o_dup, o_dup2, o_getf, o_puti, o_ald, o_iast, o_cast, o_lald, o_last, o_mmin, o_mabs, o_ret, o_vret, o_throw, o_lsw01, o_callS0, o_callS1, o_callS2, o_callS3, o_callS4, o_callS5, o_callV0, o_callV1, o_callV2, o_callV3, o_callV4, o_callV5, zcall_no, zok_nil, zok_ref, zok_int, zE, List.map_cons, List.map_nil, List.length_cons, List.length_nil, List.replicate_succ, List.replicate_zero, List.cons_append, List.nil_append, List.append_nil, List.getElem?_cons_zero, List.getElem?_cons_succ, List.set_cons_zero, List.set_cons_succ, Option.toList_some, Option.toList_none, vp_nar_int, znar_b, zb_0, ne_eq, Bool.not_eq_false, Classical.not_not, nI_1, sh1_def, true_and, and_true, Nat.reduceAdd, Nat.reduceSub, Nat.reduceLT, Nat.reduceLeDiff, Value.category, Nat.zero_add, Nat.add_zero]
      refine ⟨fun hc => absurd (nI_le_le (by omega) (by omega) hc) (by omega), fun _ => ⟨vpin (by omega) (by omega), vpin (by omega) (by omega), ?_⟩⟩
      have ih' := ih (i + 1) (by omega)
      rw [upd_blk (g := dr) rfl]
      exact ih'
  simp only [bX1_addDraft_2, bX1_addDraft_0, o_iload, o_aload, o_ic, o_lc, o_istore, o_astore, o_iinc, o_bin, o_idiv, o_ineg, o_i2c, o_i2l, o_lcmp, o_if1, o_if2, o_dup, o_dup2, o_getf, o_puti, o_ald, o_iast, o_cast, o_lald, o_last, o_mmin, o_mabs, o_ret, o_vret, o_throw, o_lsw01, o_callS0, o_callS1, o_callS2, o_callS3, o_callS4, o_callS5, o_callV0, o_callV1, o_callV2, o_callV3, o_callV4, o_callV5, zcall_no, zok_nil, zok_ref, zok_int, zE, List.map_cons, List.map_nil, List.length_cons, List.length_nil, List.replicate_succ, List.replicate_zero, List.cons_append, List.nil_append, List.append_nil, List.getElem?_cons_zero, List.getElem?_cons_succ, List.set_cons_zero, List.set_cons_succ, Option.toList_some, Option.toList_none, vp_nar_int, znar_b, zb_0, ne_eq, Bool.not_eq_false, Classical.not_not, nI_1, sh1_def, true_and, and_true, Nat.reduceAdd, Nat.reduceSub, Nat.reduceLT, Nat.reduceLeDiff, Value.category, Nat.zero_add, Nat.add_zero]
  have := loop d 0 (by omega)
  rw [← blk_0 (g := dr) (h := le)] at this
  exact this)
end S1
