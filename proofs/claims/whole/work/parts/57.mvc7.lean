section M8
variable {l : Launch} {z0 b N : Nat} {D : va_G} {cA : Nat → ClassId}
set_option maxHeartbeats 1000000 in
set_option maxRecDepth 20000 in
theorem mX6_sets (hlt : l.stackTraces = false) : Sem l z0 b N D cA yX6_sets cX6_sets 3 none 0 0 3 zno tX6_sets := uX6_sets hlt (fun M a h Kn Kx hok hN => by
  obtain ⟨μ, f, k, i, x, rfl, rfl, hkp, hk20, hi, hk⟩ := hN
  have hct := nI_clamp (show i < 2 ^ 31 by omega)
  have hck := nI_clamp (show k < 2 ^ 31 by omega)
  have hcb := nI_clamp (show k * 20 + i < 2 ^ 31 by omega)
  have hkp' : μ.2.2.2.2.2.2.2.2.2.2.2.2.2.2.2.2.2.1 = nI (k + 1) := hkp
  have hm : (20 : Int32) * nI k + nI i = nI (k * 20 + i) := by rw [Int32.mul_comm]; exact nI_mul20 k i
  have e0 : tn (mKp μ) - 1 = k := by rw [hkp, tn_nI (by omega)]; omega
  have e1 : gSets μ i x = vKp (vSe μ (upd (mSe μ) i x)) (mKp μ) (upd (mCh μ) k (mCh μ k ||| sh1 i)) (upd (mBe μ) (k * 20 + i) (mSe μ i)) := by
    unfold gSets; rw [e0, Nat.mul_comm]
  rw [e1, hkp] at hk
  simp only [bX6_sets_0, pM_0, pM_1, pM_2, pM_3, pM_4, pM_5, pM_6, pM_7, pM_8, pM_9, pM_10, pM_11, pM_12, pM_13, pM_14, pM_s9, pM_s18, pM_s19, hct, hck, hcb, hkp', nI_pred, hm, o_iload, o_aload, o_ic, o_lc, o_istore, o_astore, o_iinc, o_bin, o_idiv, o_ineg, o_i2c, o_i2l, o_lcmp, o_if1, o_if2, o_dup, o_dup2, o_getf, o_puti, o_ald, o_iast, o_cast, o_lald, o_last, o_mmin, o_mabs, o_ret, o_vret, o_throw, o_lsw01, o_callS0, o_callS1, o_callS2, o_callS3, o_callS4, o_callS5, o_callV0, o_callV1, o_callV2, o_callV3, o_callV4, o_callV5, zcall_no, zok_nil, zok_ref, zok_int, zE, List.map_cons, List.map_nil, List.length_cons, List.length_nil, List.replicate_succ, List.replicate_zero, List.cons_append, List.nil_append, List.append_nil, List.getElem?_cons_zero, List.getElem?_cons_succ, List.set_cons_zero, List.set_cons_succ, Option.toList_some, Option.toList_none, vp_nar_int, znar_b, zb_0, ne_eq, Bool.not_eq_false, Classical.not_not, nI_1, sh1_def, true_and, and_true, Nat.reduceAdd, Nat.reduceSub, Nat.reduceLT, Nat.reduceLeDiff, Value.category, Nat.zero_add, Nat.add_zero]
  exact ⟨vpin (by omega) (by omega), vpin (by omega) (by omega), vpin (by omega) (by omega), vpin (by omega) (by omega), vpin (by omega) (by omega), hk⟩)
set_option maxHeartbeats 1000000 in
set_option maxRecDepth 20000 in
theorem mX6_begins (hlt : l.stackTraces = false) : Sem l z0 b N D cA yX6_begins cX6_begins 2 none 0 0 1 zno tX6_begins := uX6_begins hlt (fun M a h Kn Kx hok hN A h21 h51 => by
  obtain ⟨μ, f, k, rfl, rfl, hkp, hk20, hk⟩ := hN
  have hck := nI_clamp (show k < 2 ^ 31 by omega)
  have hkp' : μ.2.2.2.2.2.2.2.2.2.2.2.2.2.2.2.2.2.1 = nI k := hkp
  have fin : ∀ (j : Nat) (μ' : zMS) (w : Option Value), j < 20 → mKp μ' = nI j → Kn none (pM (vKp μ' (nI (j + 1)) (upd (mCh μ') j 0) (mBe μ')) f) → bX6_begins_83 M Kn Kx (pM μ f) (A 21) (A 51) [some (.ref 29), w] [] (pM μ' f) := by
    intro j μ' w hj hkj hk
    have hcj := nI_clamp (show j < 2 ^ 31 by omega)
    have hkj' : μ'.2.2.2.2.2.2.2.2.2.2.2.2.2.2.2.2.2.1 = nI j := hkj
    simp only [pM_0, pM_1, pM_2, pM_3, pM_4, pM_5, pM_6, pM_7, pM_8, pM_9, pM_10, pM_11, pM_12, pM_13, pM_14, pM_s17, pM_s18, hcj, hkj', bX6_begins_83, o_iload, o_aload, o_ic, o_lc, o_istore, o_astore, o_iinc, o_bin, o_idiv, o_ineg, o_i2c, o_i2l, o_lcmp, o_if1, o_if2, o_dup, o_dup2, o_getf, o_puti, o_ald, o_iast, o_cast, o_lald, o_last, o_mmin, o_mabs, o_ret, o_vret, o_throw, o_lsw01, o_callS0, o_callS1, o_callS2, o_callS3, o_callS4, o_callS5, o_callV0, o_callV1, o_callV2, o_callV3, o_callV4, o_callV5, zcall_no, zok_nil, zok_ref, zok_int, zE, List.map_cons, List.map_nil, List.length_cons, List.length_nil, List.replicate_succ, List.replicate_zero, List.cons_append, List.nil_append, List.append_nil, List.getElem?_cons_zero, List.getElem?_cons_succ, List.set_cons_zero, List.set_cons_succ, Option.toList_some, Option.toList_none, vp_nar_int, znar_b, zb_0, ne_eq, Bool.not_eq_false, Classical.not_not, nI_1, sh1_def, true_and, and_true, Nat.reduceAdd, Nat.reduceSub, Nat.reduceLT, Nat.reduceLeDiff, Value.category, Nat.zero_add, Nat.add_zero]
    exact ⟨vpin (by omega) (by omega), hk⟩
  by_cases hk9 : k = 20
  · subst hk9
    have e1 : gBeg μ = vKp μ 20 (upd (fun j => if j < 19 then mCh μ (j + 1) else mCh μ j) 19 0) (fun j => if j < 380 then mBe μ (j + 20) else mBe μ j) := by
      unfold gBeg; rw [hkp, if_pos (show nI 20 = 20 from rfl)]
    rw [e1] at hk
    have loop2 : ∀ (r i : Nat), i + r = 380 → A 51 [some (.ref 29), some (.int (nI i))] [] (pM (vKp μ (nI 19) (fun j => if j < 19 then mCh μ (j + 1) else mCh μ j) (fun j => if j < i then mBe μ (j + 20) else mBe μ j)) f) := by
      intro r
      induction r with
      | zero =>
        intro i hi
        have hi9 : i = 380 := by omega
        subst hi9
        apply h51
        have e19 : (20 : Int32) * nI 19 = nI 380 := rfl
        simp only [pM_0, pM_1, pM_2, pM_3, pM_4, pM_5, pM_6, pM_7, pM_8, pM_9, pM_10, pM_11, pM_12, pM_13, pM_14, bX6_begins_51, vKp, e19, o_iload, o_aload, o_ic, o_lc, o_istore, o_astore, o_iinc, o_bin, o_idiv, o_ineg, o_i2c, o_i2l, o_lcmp, o_if1, o_if2, o_dup, o_dup2, o_getf, o_puti, o_ald, o_iast, o_cast, o_lald, o_last, o_mmin, o_mabs, o_ret, o_vret, o_throw, o_lsw01, o_callS0, o_callS1, o_callS2, o_callS3, o_callS4, o_callS5, o_callV0, o_callV1, o_callV2, o_callV3, o_callV4, o_callV5, zcall_no, zok_nil, zok_ref, zok_int, zE, List.map_cons, List.map_nil, List.length_cons, List.length_nil, List.replicate_succ, List.replicate_zero, List.cons_append, List.nil_append, List.append_nil, List.getElem?_cons_zero, List.getElem?_cons_succ, List.set_cons_zero, List.set_cons_succ, Option.toList_some, Option.toList_none, vp_nar_int, znar_b, zb_0, ne_eq, Bool.not_eq_false, Classical.not_not, nI_1, sh1_def, true_and, and_true, Nat.reduceAdd, Nat.reduceSub, Nat.reduceLT, Nat.reduceLeDiff, Value.category, Nat.zero_add, Nat.add_zero]
        refine ⟨fun _ => ?_, fun hc => absurd (Int32.le_refl _) hc⟩
        exact fin 19 (vKp μ (nI 19) (fun j => if j < 19 then mCh μ (j + 1) else mCh μ j) (fun j => if j < 380 then mBe μ (j + 20) else mBe μ j)) _ (by omega) rfl hk
      | succ r ih =>
        intro i hi
        apply h51
        have e19 : (20 : Int32) * nI 19 = nI 380 := rfl
        have hci := nI_clamp (show i < 2 ^ 31 by omega)
        have hci2 := nI_clamp (show i + 20 < 2 ^ 31 by omega)
        have e20 : nI i + (20 : Int32) = nI (i + 20) := by rw [show (20 : Int32) = nI 20 from rfl, nI_add]
        simp only [pM_0, pM_1, pM_2, pM_3, pM_4, pM_5, pM_6, pM_7, pM_8, pM_9, pM_10, pM_11, pM_12, pM_13, pM_14, bX6_begins_51, vKp, e19, pM_s19, hci, hci2, e20, o_iload, o_aload, o_ic, o_lc, o_istore, o_astore, o_iinc, o_bin, o_idiv, o_ineg, o_i2c, o_i2l, o_lcmp, o_if1, o_if2, o_dup, o_dup2, o_getf, o_puti, o_ald, o_iast, o_cast, o_lald, o_last, o_mmin, o_mabs, o_ret, o_vret, o_throw, o_lsw01, o_callS0, o_callS1, o_callS2, o_callS3, o_callS4, o_callS5, o_callV0, o_callV1, o_callV2, o_callV3, o_callV4, o_callV5, zcall_no, zok_nil, zok_ref, zok_int, zE, List.map_cons, List.map_nil, List.length_cons, List.length_nil, List.replicate_succ, List.replicate_zero, List.cons_append, List.nil_append, List.append_nil, List.getElem?_cons_zero, List.getElem?_cons_succ, List.set_cons_zero, List.set_cons_succ, Option.toList_some, Option.toList_none, vp_nar_int, znar_b, zb_0, ne_eq, Bool.not_eq_false, Classical.not_not, nI_1, sh1_def, true_and, and_true, Nat.reduceAdd, Nat.reduceSub, Nat.reduceLT, Nat.reduceLeDiff, Value.category, Nat.zero_add, Nat.add_zero]
        refine ⟨fun hc => absurd (nI_le_le (by omega) (by omega) hc) (by omega), fun _ => ⟨vpin (by omega) (by omega), vpin (by omega) (by omega), ?_⟩⟩
        have ih' := ih (i + 1) (by omega)
        have e : upd (fun j => if j < i then mBe μ (j + 20) else mBe μ j) i (mBe μ (i + 20)) = (fun j => if j < i + 1 then mBe μ (j + 20) else mBe μ j) := by
          funext j
          rcases Nat.lt_trichotomy j i with q | q | q
          · simp [upd, q, show ¬ j = i by omega, show j < i + 1 by omega]
          · subst q; simp [upd]
          · simp [upd, show ¬ j = i by omega, show ¬ j < i by omega, show ¬ j < i + 1 by omega]
        rw [if_neg (show ¬ i + 20 < i by omega)]
        rw [← e] at ih'
        exact ih'
    have loop1 : ∀ (r i : Nat), i + r = 19 → A 21 [some (.ref 29), some (.int (nI i))] [] (pM (vKp μ (nI 19) (fun j => if j < i then mCh μ (j + 1) else mCh μ j) (mBe μ)) f) := by
      intro r
      induction r with
      | zero =>
        intro i hi
        have hi9 : i = 19 := by omega
        subst hi9
        apply h21
        simp only [pM_0, pM_1, pM_2, pM_3, pM_4, pM_5, pM_6, pM_7, pM_8, pM_9, pM_10, pM_11, pM_12, pM_13, pM_14, bX6_begins_21, vKp, o_iload, o_aload, o_ic, o_lc, o_istore, o_astore, o_iinc, o_bin, o_idiv, o_ineg, o_i2c, o_i2l, o_lcmp, o_if1, o_if2, o_dup, o_dup2, o_getf, o_puti, o_ald, o_iast, o_cast, o_lald, o_last, o_mmin, o_mabs, o_ret, o_vret, o_throw, o_lsw01, o_callS0, o_callS1, o_callS2, o_callS3, o_callS4, o_callS5, o_callV0, o_callV1, o_callV2, o_callV3, o_callV4, o_callV5, zcall_no, zok_nil, zok_ref, zok_int, zE, List.map_cons, List.map_nil, List.length_cons, List.length_nil, List.replicate_succ, List.replicate_zero, List.cons_append, List.nil_append, List.append_nil, List.getElem?_cons_zero, List.getElem?_cons_succ, List.set_cons_zero, List.set_cons_succ, Option.toList_some, Option.toList_none, vp_nar_int, znar_b, zb_0, ne_eq, Bool.not_eq_false, Classical.not_not, nI_1, sh1_def, true_and, and_true, Nat.reduceAdd, Nat.reduceSub, Nat.reduceLT, Nat.reduceLeDiff, Value.category, Nat.zero_add, Nat.add_zero]
        refine ⟨fun _ => ?_, fun hc => absurd (Int32.le_refl _) hc⟩
        have := loop2 380 0 (by omega)
        exact this
      | succ r ih =>
        intro i hi
        apply h21
        have hci := nI_clamp (show i < 2 ^ 31 by omega)
        have hci2 := nI_clamp (show i + 1 < 2 ^ 31 by omega)
        simp only [pM_0, pM_1, pM_2, pM_3, pM_4, pM_5, pM_6, pM_7, pM_8, pM_9, pM_10, pM_11, pM_12, pM_13, pM_14, bX6_begins_21, vKp, pM_s18, hci, hci2, nI_1, o_iload, o_aload, o_ic, o_lc, o_istore, o_astore, o_iinc, o_bin, o_idiv, o_ineg, o_i2c, o_i2l, o_lcmp, o_if1, o_if2, o_dup, o_dup2, o_getf, o_puti, o_ald, o_iast, o_cast, o_lald, o_last, o_mmin, o_mabs, o_ret, o_vret, o_throw, o_lsw01, o_callS0, o_callS1, o_callS2, o_callS3, o_callS4, o_callS5, o_callV0, o_callV1, o_callV2, o_callV3, o_callV4, o_callV5, zcall_no, zok_nil, zok_ref, zok_int, zE, List.map_cons, List.map_nil, List.length_cons, List.length_nil, List.replicate_succ, List.replicate_zero, List.cons_append, List.nil_append, List.append_nil, List.getElem?_cons_zero, List.getElem?_cons_succ, List.set_cons_zero, List.set_cons_succ, Option.toList_some, Option.toList_none, vp_nar_int, znar_b, zb_0, ne_eq, Bool.not_eq_false, Classical.not_not, nI_1, sh1_def, true_and, and_true, Nat.reduceAdd, Nat.reduceSub, Nat.reduceLT, Nat.reduceLeDiff, Value.category, Nat.zero_add, Nat.add_zero]
        refine ⟨fun hc => absurd (nI_le_le (by omega) (by omega) hc) (by omega), fun _ => ⟨vpin (by omega) (by omega), vpin (by omega) (by omega), ?_⟩⟩
        have ih' := ih (i + 1) (by omega)
        have e : upd (fun j => if j < i then mCh μ (j + 1) else mCh μ j) i (mCh μ (i + 1)) = (fun j => if j < i + 1 then mCh μ (j + 1) else mCh μ j) := by
          funext j
          rcases Nat.lt_trichotomy j i with q | q | q
          · simp [upd, q, show ¬ j = i by omega, show j < i + 1 by omega]
          · subst q; simp [upd]
          · simp [upd, show ¬ j = i by omega, show ¬ j < i by omega, show ¬ j < i + 1 by omega]
        rw [if_neg (show ¬ i + 1 < i by omega)]
        rw [← e] at ih'
        exact ih'
    have e19 : nI 20 - (1 : Int32) = nI 19 := rfl
    simp only [pM_0, pM_1, pM_2, pM_3, pM_4, pM_5, pM_6, pM_7, pM_8, pM_9, pM_10, pM_11, pM_12, pM_13, pM_14, bX6_begins_0, hkp', pM_s17, e19, o_iload, o_aload, o_ic, o_lc, o_istore, o_astore, o_iinc, o_bin, o_idiv, o_ineg, o_i2c, o_i2l, o_lcmp, o_if1, o_if2, o_dup, o_dup2, o_getf, o_puti, o_ald, o_iast, o_cast, o_lald, o_last, o_mmin, o_mabs, o_ret, o_vret, o_throw, o_lsw01, o_callS0, o_callS1, o_callS2, o_callS3, o_callS4, o_callS5, o_callV0, o_callV1, o_callV2, o_callV3, o_callV4, o_callV5, zcall_no, zok_nil, zok_ref, zok_int, zE, List.map_cons, List.map_nil, List.length_cons, List.length_nil, List.replicate_succ, List.replicate_zero, List.cons_append, List.nil_append, List.append_nil, List.getElem?_cons_zero, List.getElem?_cons_succ, List.set_cons_zero, List.set_cons_succ, Option.toList_some, Option.toList_none, vp_nar_int, znar_b, zb_0, ne_eq, Bool.not_eq_false, Classical.not_not, nI_1, sh1_def, true_and, and_true, Nat.reduceAdd, Nat.reduceSub, Nat.reduceLT, Nat.reduceLeDiff, Value.category, Nat.zero_add, Nat.add_zero]
    refine ⟨fun q => absurd rfl q, fun _ => ?_⟩
    have := loop1 19 0 (by omega)
    exact this
  · have hne : ¬ nI k = 20 := fun e => hk9 (nI_ne (by omega) (by decide) e)
    have e1 : gBeg μ = vKp μ (mKp μ + 1) (upd (mCh μ) k 0) (mBe μ) := by
      unfold gBeg; rw [hkp, if_neg hne, tn_nI (by omega)]
    rw [e1, hkp, nI_1] at hk
    simp only [pM_0, pM_1, pM_2, pM_3, pM_4, pM_5, pM_6, pM_7, pM_8, pM_9, pM_10, pM_11, pM_12, pM_13, pM_14, bX6_begins_0, hkp', o_iload, o_aload, o_ic, o_lc, o_istore, o_astore, o_iinc, o_bin, o_idiv, o_ineg, o_i2c, o_i2l, o_lcmp, o_if1, o_if2, o_dup, o_dup2, o_getf, o_puti, o_ald, o_iast, o_cast, o_lald, o_last, o_mmin, o_mabs, o_ret, o_vret, o_throw, o_lsw01, o_callS0, o_callS1, o_callS2, o_callS3, o_callS4, o_callS5, o_callV0, o_callV1, o_callV2, o_callV3, o_callV4, o_callV5, zcall_no, zok_nil, zok_ref, zok_int, zE, List.map_cons, List.map_nil, List.length_cons, List.length_nil, List.replicate_succ, List.replicate_zero, List.cons_append, List.nil_append, List.append_nil, List.getElem?_cons_zero, List.getElem?_cons_succ, List.set_cons_zero, List.set_cons_succ, Option.toList_some, Option.toList_none, vp_nar_int, znar_b, zb_0, ne_eq, Bool.not_eq_false, Classical.not_not, nI_1, sh1_def, true_and, and_true, Nat.reduceAdd, Nat.reduceSub, Nat.reduceLT, Nat.reduceLeDiff, Value.category, Nat.zero_add, Nat.add_zero]
    exact ⟨fun _ => fin k μ _ (by omega) hkp hk, fun q => absurd q hne⟩)
set_option maxHeartbeats 1000000 in
set_option maxRecDepth 20000 in
theorem mX6_edited (hlt : l.stackTraces = false) : Sem l z0 b N D cA yX6_edited cX6_edited 7 (some .int) 5 112 5 zno tX6_edited := uX6_edited hlt (mX6_has hlt) (mX6_shownOf hlt) (mX6_endOf hlt) (fun M a h Kn Kx hok hN => by
  obtain ⟨μ, f, n, i, t, o, k, rfl, rfl, hR, hi, ht, ho, hk⟩ := hN
  have hn24 := hR.2.1
  have hct := nI_clamp (show i < 2 ^ 31 by omega)
  have hlt := fE_lt (al := mAl μ) (n := n) (by omega) n t ht
  unfold gEdi at hk
  simp only [bX6_edited_89, bX6_edited_40, bX6_edited_0, pM_0, pM_1, pM_2, pM_3, pM_4, pM_5, pM_6, pM_7, pM_8, pM_9, pM_10, pM_11, pM_12, pM_13, pM_14, hct, o_iload, o_aload, o_ic, o_lc, o_istore, o_astore, o_iinc, o_bin, o_idiv, o_ineg, o_i2c, o_i2l, o_lcmp, o_if1, o_if2, o_dup, o_dup2, o_getf, o_puti, o_ald, o_iast, o_cast, o_lald, o_last, o_mmin, o_mabs, o_ret, o_vret, o_throw, o_lsw01, o_callS0, o_callS1, o_callS2, o_callS3, o_callS4, o_callS5, o_callV0, o_callV1, o_callV2, o_callV3, o_callV4, o_callV5, zcall_no, zok_nil, zok_ref, zok_int, zE, List.map_cons, List.map_nil, List.length_cons, List.length_nil, List.replicate_succ, List.replicate_zero, List.cons_append, List.nil_append, List.append_nil, List.getElem?_cons_zero, List.getElem?_cons_succ, List.set_cons_zero, List.set_cons_succ, Option.toList_some, Option.toList_none, vp_nar_int, znar_b, zb_0, ne_eq, Bool.not_eq_false, Classical.not_not, nI_1, sh1_def, true_and, and_true, Nat.reduceAdd, Nat.reduceSub, Nat.reduceLT, Nat.reduceLeDiff, Value.category, Nat.zero_add, Nat.add_zero]
  refine ⟨vpin (by omega) (by omega), fun h1 => ⟨μ, f, n, i, rfl, rfl, hR, hi, ?_⟩, fun h1 => ⟨_, t, rfl, by omega, ?_⟩⟩
  · rw [if_neg h1] at hk
    simp only [bX6_edited_89, bX6_edited_40, bX6_edited_0, pM_0, pM_1, pM_2, pM_3, pM_4, pM_5, pM_6, pM_7, pM_8, pM_9, pM_10, pM_11, pM_12, pM_13, pM_14, hct, o_iload, o_aload, o_ic, o_lc, o_istore, o_astore, o_iinc, o_bin, o_idiv, o_ineg, o_i2c, o_i2l, o_lcmp, o_if1, o_if2, o_dup, o_dup2, o_getf, o_puti, o_ald, o_iast, o_cast, o_lald, o_last, o_mmin, o_mabs, o_ret, o_vret, o_throw, o_lsw01, o_callS0, o_callS1, o_callS2, o_callS3, o_callS4, o_callS5, o_callV0, o_callV1, o_callV2, o_callV3, o_callV4, o_callV5, zcall_no, zok_nil, zok_ref, zok_int, zE, List.map_cons, List.map_nil, List.length_cons, List.length_nil, List.replicate_succ, List.replicate_zero, List.cons_append, List.nil_append, List.append_nil, List.getElem?_cons_zero, List.getElem?_cons_succ, List.set_cons_zero, List.set_cons_succ, Option.toList_some, Option.toList_none, vp_nar_int, znar_b, zb_0, ne_eq, Bool.not_eq_false, Classical.not_not, nI_1, sh1_def, true_and, and_true, Nat.reduceAdd, Nat.reduceSub, Nat.reduceLT, Nat.reduceLeDiff, Value.category, Nat.zero_add, Nat.add_zero]
    refine ⟨μ, f, n, t, rfl, rfl, hR, ht, ?_⟩
    simp only [bX6_edited_89, bX6_edited_40, bX6_edited_0, pM_0, pM_1, pM_2, pM_3, pM_4, pM_5, pM_6, pM_7, pM_8, pM_9, pM_10, pM_11, pM_12, pM_13, pM_14, hct, o_iload, o_aload, o_ic, o_lc, o_istore, o_astore, o_iinc, o_bin, o_idiv, o_ineg, o_i2c, o_i2l, o_lcmp, o_if1, o_if2, o_dup, o_dup2, o_getf, o_puti, o_ald, o_iast, o_cast, o_lald, o_last, o_mmin, o_mabs, o_ret, o_vret, o_throw, o_lsw01, o_callS0, o_callS1, o_callS2, o_callS3, o_callS4, o_callS5, o_callV0, o_callV1, o_callV2, o_callV3, o_callV4, o_callV5, zcall_no, zok_nil, zok_ref, zok_int, zE, List.map_cons, List.map_nil, List.length_cons, List.length_nil, List.replicate_succ, List.replicate_zero, List.cons_append, List.nil_append, List.append_nil, List.getElem?_cons_zero, List.getElem?_cons_succ, List.set_cons_zero, List.set_cons_succ, Option.toList_some, Option.toList_none, vp_nar_int, znar_b, zb_0, ne_eq, Bool.not_eq_false, Classical.not_not, nI_1, sh1_def, true_and, and_true, Nat.reduceAdd, Nat.reduceSub, Nat.reduceLT, Nat.reduceLeDiff, Value.category, Nat.zero_add, Nat.add_zero]
    refine ⟨_, _, rfl, by omega, ?_⟩
    simp only [bX6_edited_89, bX6_edited_40, bX6_edited_0, pM_0, pM_1, pM_2, pM_3, pM_4, pM_5, pM_6, pM_7, pM_8, pM_9, pM_10, pM_11, pM_12, pM_13, pM_14, hct, o_iload, o_aload, o_ic, o_lc, o_istore, o_astore, o_iinc, o_bin, o_idiv, o_ineg, o_i2c, o_i2l, o_lcmp, o_if1, o_if2, o_dup, o_dup2, o_getf, o_puti, o_ald, o_iast, o_cast, o_lald, o_last, o_mmin, o_mabs, o_ret, o_vret, o_throw, o_lsw01, o_callS0, o_callS1, o_callS2, o_callS3, o_callS4, o_callS5, o_callV0, o_callV1, o_callV2, o_callV3, o_callV4, o_callV5, zcall_no, zok_nil, zok_ref, zok_int, zE, List.map_cons, List.map_nil, List.length_cons, List.length_nil, List.replicate_succ, List.replicate_zero, List.cons_append, List.nil_append, List.append_nil, List.getElem?_cons_zero, List.getElem?_cons_succ, List.set_cons_zero, List.set_cons_succ, Option.toList_some, Option.toList_none, vp_nar_int, znar_b, zb_0, ne_eq, Bool.not_eq_false, Classical.not_not, nI_1, sh1_def, true_and, and_true, Nat.reduceAdd, Nat.reduceSub, Nat.reduceLT, Nat.reduceLeDiff, Value.category, Nat.zero_add, Nat.add_zero]
    refine ⟨fun hb => ?_, fun hb => ?_⟩
    · have hb' : bt (fSho (mAl μ) (mIm μ) n (mSe μ i)) (fE (mAl μ) n n t) = true := by simpa using hb
      rw [if_pos hb'] at hk
      refine ⟨fun h2 => ?_, fun h2 => ?_⟩
      · rw [if_neg h2] at hk; exact hk
      · rw [if_pos h2] at hk; exact hk
    · have hb' : bt (fSho (mAl μ) (mIm μ) n (mSe μ i)) (fE (mAl μ) n n t) = false := by simpa using hb
      rw [hb', if_neg (by decide)] at hk
      exact hk
  · rw [if_pos h1] at hk
    simp only [bX6_edited_89, bX6_edited_40, bX6_edited_0, pM_0, pM_1, pM_2, pM_3, pM_4, pM_5, pM_6, pM_7, pM_8, pM_9, pM_10, pM_11, pM_12, pM_13, pM_14, hct, o_iload, o_aload, o_ic, o_lc, o_istore, o_astore, o_iinc, o_bin, o_idiv, o_ineg, o_i2c, o_i2l, o_lcmp, o_if1, o_if2, o_dup, o_dup2, o_getf, o_puti, o_ald, o_iast, o_cast, o_lald, o_last, o_mmin, o_mabs, o_ret, o_vret, o_throw, o_lsw01, o_callS0, o_callS1, o_callS2, o_callS3, o_callS4, o_callS5, o_callV0, o_callV1, o_callV2, o_callV3, o_callV4, o_callV5, zcall_no, zok_nil, zok_ref, zok_int, zE, List.map_cons, List.map_nil, List.length_cons, List.length_nil, List.replicate_succ, List.replicate_zero, List.cons_append, List.nil_append, List.append_nil, List.getElem?_cons_zero, List.getElem?_cons_succ, List.set_cons_zero, List.set_cons_succ, Option.toList_some, Option.toList_none, vp_nar_int, znar_b, zb_0, ne_eq, Bool.not_eq_false, Classical.not_not, nI_1, sh1_def, true_and, and_true, Nat.reduceAdd, Nat.reduceSub, Nat.reduceLT, Nat.reduceLeDiff, Value.category, Nat.zero_add, Nat.add_zero]
    refine ⟨fun hb => ?_, fun hb => ?_⟩
    · rw [if_neg (by rw [show bt (mSe μ i) t = false from hb]; decide)] at hk
      exact hk
    · rw [if_pos (show bt (mSe μ i) t = true by simpa using hb)] at hk
      exact hk)
end M8
