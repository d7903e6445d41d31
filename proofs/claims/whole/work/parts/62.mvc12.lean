section M13
variable {l : Launch} {z0 b N : Nat} {D : va_G} {cA : Nat → ClassId}
theorem gMm_mono (μ : zMS) (n : Nat) (x y z : Int32) (i : Nat) : ∀ r, gMm μ n x y z i ≤ gMm μ n x y z (i + r)
  | 0 => Nat.le_refl _
  | r + 1 => Nat.le_trans (gMm_mono μ n x y z i r) (Nat.le_add_right _ _)
theorem gMm_le (μ : zMS) (n : Nat) (x y z : Int32) : ∀ i, gMm μ n x y z i ≤ i
  | 0 => Nat.le_refl _
  | i + 1 => by
    have := gMm_le μ n x y z i
    show gMm μ n x y z i + (if gMt μ n i x y z then 1 else 0) ≤ i + 1
    split <;> omega
theorem nI_subn {a b : Nat} (h : b ≤ a) : nI a - nI b = nI (a - b) := by
  obtain ⟨c, rfl⟩ : ∃ c, a = c + b := ⟨a - b, by omega⟩
  rw [← nI_add, Nat.add_sub_cancel]
  apply Int32.toBitVec_inj.mp
  rw [Int32.toBitVec_sub, Int32.toBitVec_add]
  exact BitVec.add_sub_cancel _ _
theorem nI_posI {a : Nat} (ha : a < 2 ^ 31) : 0 < nI a ↔ 0 < a := by
  rw [Int32.lt_iff_toInt_lt, nI_toInt ha, show (0 : Int32).toInt = 0 from rfl]; omega
set_option maxHeartbeats 1000000 in
set_option maxRecDepth 20000 in
theorem mX6_match (hlt : l.stackTraces = false) : Sem l z0 b N D cA yX6_match cX6_match 8 (some .int) 7 162 5 zno tX6_match := uX6_match hlt (mX6_areSets hlt) (mX6_matches hlt) (mX6_holds hlt) (mX6_isMatch hlt) (fun M a h Kn Kx hok hN A h59 => by
  obtain ⟨μ, f, n, m, q, k, d, p, x, y, z, rfl, rfl, hI, hk⟩ := hN
  have hI' := hI
  obtain ⟨⟨hn, hn24, hm, hm20, hq, hq40, hkp, hk20, hd, hd8, hch1, hch2, hln, hac, hrq⟩, hrk⟩ := hI'
  have hRu : mRu μ n := ⟨hn, hn24, hac⟩
  unfold gMatch gH at hk
  rw [hn, tn_nI (by omega), hm, tn_nI (by omega)] at hk
  have bad : ∀ (c : Int32) (w5 : Option Value), ¬ c = 0 → Kn (some (.int 0)) (pM (vThr μ c) f) → bX6_match_45 M Kn Kx (pM μ f) (A 59) [some (.ref 29), some (.int p), some (.int x), some (.int y), some (.int z), w5, none, none] [.int c, .ref 29] (pM μ f) := by
    intro c w5 hc hk
    simp only [pM_0, pM_1, pM_2, pM_3, pM_4, pM_5, pM_6, pM_7, pM_8, pM_9, pM_10, pM_11, pM_12, pM_13, pM_14, bX6_match_45, o_iload, o_aload, o_ic, o_lc, o_istore, o_astore, o_iinc, o_bin, o_idiv, o_ineg, o_i2c, o_i2l, o_lcmp, o_if1, o_if2, o_dup, o_dup2, o_getf, o_puti, o_ald, o_iast, o_cast, o_lald, o_last, o_mmin, o_mabs, o_ret, o_vret, o_throw, o_lsw01, o_callS0, o_callS1, o_callS2, o_callS3, o_callS4, o_callS5, o_callV0, o_callV1, o_callV2, o_callV3, o_callV4, o_callV5, zcall_no, zok_nil, zok_ref, zok_int, zE, List.map_cons, List.map_nil, List.length_cons, List.length_nil, List.replicate_succ, List.replicate_zero, List.cons_append, List.nil_append, List.append_nil, List.getElem?_cons_zero, List.getElem?_cons_succ, List.set_cons_zero, List.set_cons_succ, Option.toList_some, Option.toList_none, vp_nar_int, znar_b, zb_0, ne_eq, Bool.not_eq_false, Classical.not_not, nI_1, sh1_def, true_and, and_true, Nat.reduceAdd, Nat.reduceSub, Nat.reduceLT, Nat.reduceLeDiff, Value.category, Nat.zero_add, Nat.add_zero]
    refine ⟨μ, f, c, rfl, rfl, ?_⟩
    simp only [pM_0, pM_1, pM_2, pM_3, pM_4, pM_5, pM_6, pM_7, pM_8, pM_9, pM_10, pM_11, pM_12, pM_13, pM_14, bX6_match_45, o_iload, o_aload, o_ic, o_lc, o_istore, o_astore, o_iinc, o_bin, o_idiv, o_ineg, o_i2c, o_i2l, o_lcmp, o_if1, o_if2, o_dup, o_dup2, o_getf, o_puti, o_ald, o_iast, o_cast, o_lald, o_last, o_mmin, o_mabs, o_ret, o_vret, o_throw, o_lsw01, o_callS0, o_callS1, o_callS2, o_callS3, o_callS4, o_callS5, o_callV0, o_callV1, o_callV2, o_callV3, o_callV4, o_callV5, zcall_no, zok_nil, zok_ref, zok_int, zE, List.map_cons, List.map_nil, List.length_cons, List.length_nil, List.replicate_succ, List.replicate_zero, List.cons_append, List.nil_append, List.append_nil, List.getElem?_cons_zero, List.getElem?_cons_succ, List.set_cons_zero, List.set_cons_succ, Option.toList_some, Option.toList_none, vp_nar_int, znar_b, zb_0, ne_eq, Bool.not_eq_false, Classical.not_not, nI_1, sh1_def, true_and, and_true, Nat.reduceAdd, Nat.reduceSub, Nat.reduceLT, Nat.reduceLeDiff, Value.category, Nat.zero_add, Nat.add_zero]
    exact ⟨fun h9 => absurd (of_decide_eq_true h9) hc, fun _ => hk⟩
  simp only [pM_0, pM_1, pM_2, pM_3, pM_4, pM_5, pM_6, pM_7, pM_8, pM_9, pM_10, pM_11, pM_12, pM_13, pM_14, bX6_match_0, o_iload, o_aload, o_ic, o_lc, o_istore, o_astore, o_iinc, o_bin, o_idiv, o_ineg, o_i2c, o_i2l, o_lcmp, o_if1, o_if2, o_dup, o_dup2, o_getf, o_puti, o_ald, o_iast, o_cast, o_lald, o_last, o_mmin, o_mabs, o_ret, o_vret, o_throw, o_lsw01, o_callS0, o_callS1, o_callS2, o_callS3, o_callS4, o_callS5, o_callV0, o_callV1, o_callV2, o_callV3, o_callV4, o_callV5, zcall_no, zok_nil, zok_ref, zok_int, zE, List.map_cons, List.map_nil, List.length_cons, List.length_nil, List.replicate_succ, List.replicate_zero, List.cons_append, List.nil_append, List.append_nil, List.getElem?_cons_zero, List.getElem?_cons_succ, List.set_cons_zero, List.set_cons_succ, Option.toList_some, Option.toList_none, vp_nar_int, znar_b, zb_0, ne_eq, Bool.not_eq_false, Classical.not_not, nI_1, sh1_def, true_and, and_true, Nat.reduceAdd, Nat.reduceSub, Nat.reduceLT, Nat.reduceLeDiff, Value.category, Nat.zero_add, Nat.add_zero]
  refine ⟨μ, f, n, x, y, z, rfl, rfl, hn, hn24, ?_⟩
  simp only [pM_0, pM_1, pM_2, pM_3, pM_4, pM_5, pM_6, pM_7, pM_8, pM_9, pM_10, pM_11, pM_12, pM_13, pM_14, bX6_match_0, o_iload, o_aload, o_ic, o_lc, o_istore, o_astore, o_iinc, o_bin, o_idiv, o_ineg, o_i2c, o_i2l, o_lcmp, o_if1, o_if2, o_dup, o_dup2, o_getf, o_puti, o_ald, o_iast, o_cast, o_lald, o_last, o_mmin, o_mabs, o_ret, o_vret, o_throw, o_lsw01, o_callS0, o_callS1, o_callS2, o_callS3, o_callS4, o_callS5, o_callV0, o_callV1, o_callV2, o_callV3, o_callV4, o_callV5, zcall_no, zok_nil, zok_ref, zok_int, zE, List.map_cons, List.map_nil, List.length_cons, List.length_nil, List.replicate_succ, List.replicate_zero, List.cons_append, List.nil_append, List.append_nil, List.getElem?_cons_zero, List.getElem?_cons_succ, List.set_cons_zero, List.set_cons_succ, Option.toList_some, Option.toList_none, vp_nar_int, znar_b, zb_0, ne_eq, Bool.not_eq_false, Classical.not_not, nI_1, sh1_def, true_and, and_true, Nat.reduceAdd, Nat.reduceSub, Nat.reduceLT, Nat.reduceLeDiff, Value.category, Nat.zero_add, Nat.add_zero]
  refine ⟨fun h0 => ⟨fun h1 => ⟨μ, f, n, m, x, y, z, rfl, rfl, hRu, hm, hm20, ?_⟩, fun h1 => ?_⟩, fun h0 => ?_⟩
  · have hp : ¬ p < 0 := Int32.not_lt.mpr h0
    have hs : gSet3 n x y z = true := h1
    rw [if_neg hp, hs, if_pos rfl] at hk
    simp only [pM_0, pM_1, pM_2, pM_3, pM_4, pM_5, pM_6, pM_7, pM_8, pM_9, pM_10, pM_11, pM_12, pM_13, pM_14, bX6_match_0, o_iload, o_aload, o_ic, o_lc, o_istore, o_astore, o_iinc, o_bin, o_idiv, o_ineg, o_i2c, o_i2l, o_lcmp, o_if1, o_if2, o_dup, o_dup2, o_getf, o_puti, o_ald, o_iast, o_cast, o_lald, o_last, o_mmin, o_mabs, o_ret, o_vret, o_throw, o_lsw01, o_callS0, o_callS1, o_callS2, o_callS3, o_callS4, o_callS5, o_callV0, o_callV1, o_callV2, o_callV3, o_callV4, o_callV5, zcall_no, zok_nil, zok_ref, zok_int, zE, List.map_cons, List.map_nil, List.length_cons, List.length_nil, List.replicate_succ, List.replicate_zero, List.cons_append, List.nil_append, List.append_nil, List.getElem?_cons_zero, List.getElem?_cons_succ, List.set_cons_zero, List.set_cons_succ, Option.toList_some, Option.toList_none, vp_nar_int, znar_b, zb_0, ne_eq, Bool.not_eq_false, Classical.not_not, nI_1, sh1_def, true_and, and_true, Nat.reduceAdd, Nat.reduceSub, Nat.reduceLT, Nat.reduceLeDiff, Value.category, Nat.zero_add, Nat.add_zero]
    refine ⟨fun h2 => bad 1 _ (by decide) ?_, fun h2 => ?_⟩
    · rw [if_neg (Int32.not_lt.mpr h2), if_neg (by decide)] at hk
      exact hk
    · have h3 : p < nI (gMm μ n x y z m) := Int32.not_le.mp h2
      rw [if_pos h3, if_pos rfl] at hk
      obtain ⟨c, hc, rfl⟩ := nI_of hp
      have hc3 : c < gMm μ n x y z m := by
        have hle := gMm_le μ n x y z m
        rcases Nat.lt_or_ge c (gMm μ n x y z m) with q9 | q9
        · exact q9
        · exact absurd h3 (Int32.not_lt.mpr ((nI_leI (by omega) (by omega)).mpr q9))
      rw [tn_nI hc] at hk
      obtain ⟨μ', hμ⟩ : ∃ μ', μ' = vThr μ 0 := ⟨_, rfl⟩
      have hI2 : mInw μ' n m q k d := by rw [hμ]; exact hI
      have hR2 : mRu μ' n := by rw [hμ]; exact hRu
      have hmt : ∀ i, gMt μ' n i x y z = gMt μ n i x y z := fun i => by rw [hμ]; rfl
      have hmm : ∀ i, gMm μ' n x y z i = gMm μ n x y z i := by
        intro i
        induction i with
        | zero => rfl
        | succ i ih => show gMm μ' n x y z i + (if gMt μ' n i x y z then 1 else 0) = gMm μ n x y z i + (if gMt μ n i x y z then 1 else 0); rw [ih, hmt]
      have hn2 : tn (mTg μ') = n := by rw [hI2.1.1]; exact tn_nI (by omega)
      have hm2 : tn (mTh μ') = m := by rw [hI2.1.2.2.1]; exact tn_nI (by omega)
      have hk2 : Kn (some (.int (nI (gAt μ' (tn (mTg μ')) x y z c (tn (mTh μ')) 0)))) (pM μ' f) := by rw [hμ]; exact hk
      rw [hn2, hm2] at hk2
      rw [← hmm] at hc3
      clear hk h3 h2 bad
      have hle : ∀ i, gMm μ' n x y z i ≤ i := gMm_le μ' n x y z
      have loop : ∀ (r i : Nat) (w5 : Option Value), i + r = m → gMm μ' n x y z i ≤ c → Kn (some (.int (nI (gAt μ' n x y z c r i)))) (pM μ' f) → A 59 [some (.ref 29), some (.int (nI c)), some (.int x), some (.int y), some (.int z), w5, some (.int (nI i)), some (.int (nI (c - gMm μ' n x y z i)))] [] (pM μ' f) := by
        intro r
        induction r with
        | zero =>
          intro i w5 hi hl hk
          have : i = m := by omega
          subst this
          omega
        | succ r ih =>
          intro i w5 hi hl hk
          have stp : gMm μ' n x y z (i + 1) = gMm μ' n x y z i + (if gMt μ' n i x y z then 1 else 0) := rfl
          have hgat : gAt μ' n x y z c (r + 1) i = if gMt μ' n i x y z && decide (gMm μ' n x y z i = c) then i else gAt μ' n x y z c r (i + 1) := rfl
          rw [hgat] at hk
          have t77 : ¬ (gMt μ' n i x y z = true ∧ gMm μ' n x y z i = c) → bX6_match_77 M Kn Kx (pM μ f) (A 59) [some (.ref 29), some (.int (nI c)), some (.int x), some (.int y), some (.int z), w5, some (.int (nI i)), some (.int (nI (c - gMm μ' n x y z i)))] [] (pM μ' f) := by
            intro hne
            rw [if_neg (by simpa using hne)] at hk
            simp only [pM_0, pM_1, pM_2, pM_3, pM_4, pM_5, pM_6, pM_7, pM_8, pM_9, pM_10, pM_11, pM_12, pM_13, pM_14, bX6_match_77, bX6_match_97, o_iload, o_aload, o_ic, o_lc, o_istore, o_astore, o_iinc, o_bin, o_idiv, o_ineg, o_i2c, o_i2l, o_lcmp, o_if1, o_if2, o_dup, o_dup2, o_getf, o_puti, o_ald, o_iast, o_cast, o_lald, o_last, o_mmin, o_mabs, o_ret, o_vret, o_throw, o_lsw01, o_callS0, o_callS1, o_callS2, o_callS3, o_callS4, o_callS5, o_callV0, o_callV1, o_callV2, o_callV3, o_callV4, o_callV5, zcall_no, zok_nil, zok_ref, zok_int, zE, List.map_cons, List.map_nil, List.length_cons, List.length_nil, List.replicate_succ, List.replicate_zero, List.cons_append, List.nil_append, List.append_nil, List.getElem?_cons_zero, List.getElem?_cons_succ, List.set_cons_zero, List.set_cons_succ, Option.toList_some, Option.toList_none, vp_nar_int, znar_b, zb_0, ne_eq, Bool.not_eq_false, Classical.not_not, nI_1, sh1_def, true_and, and_true, Nat.reduceAdd, Nat.reduceSub, Nat.reduceLT, Nat.reduceLeDiff, Value.category, Nat.zero_add, Nat.add_zero]
            refine ⟨μ', f, n, i, x, y, z, rfl, rfl, hR2, by omega, ?_⟩
            simp only [pM_0, pM_1, pM_2, pM_3, pM_4, pM_5, pM_6, pM_7, pM_8, pM_9, pM_10, pM_11, pM_12, pM_13, pM_14, bX6_match_77, bX6_match_97, o_iload, o_aload, o_ic, o_lc, o_istore, o_astore, o_iinc, o_bin, o_idiv, o_ineg, o_i2c, o_i2l, o_lcmp, o_if1, o_if2, o_dup, o_dup2, o_getf, o_puti, o_ald, o_iast, o_cast, o_lald, o_last, o_mmin, o_mabs, o_ret, o_vret, o_throw, o_lsw01, o_callS0, o_callS1, o_callS2, o_callS3, o_callS4, o_callS5, o_callV0, o_callV1, o_callV2, o_callV3, o_callV4, o_callV5, zcall_no, zok_nil, zok_ref, zok_int, zE, List.map_cons, List.map_nil, List.length_cons, List.length_nil, List.replicate_succ, List.replicate_zero, List.cons_append, List.nil_append, List.append_nil, List.getElem?_cons_zero, List.getElem?_cons_succ, List.set_cons_zero, List.set_cons_succ, Option.toList_some, Option.toList_none, vp_nar_int, znar_b, zb_0, ne_eq, Bool.not_eq_false, Classical.not_not, nI_1, sh1_def, true_and, and_true, Nat.reduceAdd, Nat.reduceSub, Nat.reduceLT, Nat.reduceLeDiff, Value.category, Nat.zero_add, Nat.add_zero]
            refine ⟨fun hb => ?_, fun hb => ?_⟩
            · rw [hb, if_neg (by decide), Nat.add_zero] at stp
              have ih' := ih (i + 1) w5 (by omega) (by omega) hk
              rw [stp] at ih'
              rw [show nI (c - gMm μ' n x y z i) - 0 = nI (c - gMm μ' n x y z i) from nI_subn (b := 0) (Nat.zero_le _)]
              exact ih'
            · rw [hb, if_pos rfl] at stp
              have hlt : gMm μ' n x y z i < c := by
                rcases Nat.lt_or_ge (gMm μ' n x y z i) c with q9 | q9
                · exact q9
                · exact absurd ⟨hb, by omega⟩ hne
              have ih' := ih (i + 1) w5 (by omega) (by omega) hk
              rw [stp] at ih'
              rw [show nI (c - gMm μ' n x y z i) - 1 = nI (c - (gMm μ' n x y z i + 1)) from by rw [show (1 : Int32) = nI 1 from rfl, nI_subn (by omega)]; rfl]
              exact ih'
          apply h59
          simp only [pM_0, pM_1, pM_2, pM_3, pM_4, pM_5, pM_6, pM_7, pM_8, pM_9, pM_10, pM_11, pM_12, pM_13, pM_14, bX6_match_59, o_iload, o_aload, o_ic, o_lc, o_istore, o_astore, o_iinc, o_bin, o_idiv, o_ineg, o_i2c, o_i2l, o_lcmp, o_if1, o_if2, o_dup, o_dup2, o_getf, o_puti, o_ald, o_iast, o_cast, o_lald, o_last, o_mmin, o_mabs, o_ret, o_vret, o_throw, o_lsw01, o_callS0, o_callS1, o_callS2, o_callS3, o_callS4, o_callS5, o_callV0, o_callV1, o_callV2, o_callV3, o_callV4, o_callV5, zcall_no, zok_nil, zok_ref, zok_int, zE, List.map_cons, List.map_nil, List.length_cons, List.length_nil, List.replicate_succ, List.replicate_zero, List.cons_append, List.nil_append, List.append_nil, List.getElem?_cons_zero, List.getElem?_cons_succ, List.set_cons_zero, List.set_cons_succ, Option.toList_some, Option.toList_none, vp_nar_int, znar_b, zb_0, ne_eq, Bool.not_eq_false, Classical.not_not, nI_1, sh1_def, true_and, and_true, Nat.reduceAdd, Nat.reduceSub, Nat.reduceLT, Nat.reduceLeDiff, Value.category, Nat.zero_add, Nat.add_zero]
          refine ⟨fun h4 => t77 (fun h5 => ?_), fun h4 => ⟨μ', f, n, i, x, y, z, rfl, rfl, hR2, by omega, ?_⟩⟩
          · rw [nI_posI (by omega)] at h4
            omega
          · rw [nI_posI (by omega)] at h4
            simp only [pM_0, pM_1, pM_2, pM_3, pM_4, pM_5, pM_6, pM_7, pM_8, pM_9, pM_10, pM_11, pM_12, pM_13, pM_14, bX6_match_59, o_iload, o_aload, o_ic, o_lc, o_istore, o_astore, o_iinc, o_bin, o_idiv, o_ineg, o_i2c, o_i2l, o_lcmp, o_if1, o_if2, o_dup, o_dup2, o_getf, o_puti, o_ald, o_iast, o_cast, o_lald, o_last, o_mmin, o_mabs, o_ret, o_vret, o_throw, o_lsw01, o_callS0, o_callS1, o_callS2, o_callS3, o_callS4, o_callS5, o_callV0, o_callV1, o_callV2, o_callV3, o_callV4, o_callV5, zcall_no, zok_nil, zok_ref, zok_int, zE, List.map_cons, List.map_nil, List.length_cons, List.length_nil, List.replicate_succ, List.replicate_zero, List.cons_append, List.nil_append, List.append_nil, List.getElem?_cons_zero, List.getElem?_cons_succ, List.set_cons_zero, List.set_cons_succ, Option.toList_some, Option.toList_none, vp_nar_int, znar_b, zb_0, ne_eq, Bool.not_eq_false, Classical.not_not, nI_1, sh1_def, true_and, and_true, Nat.reduceAdd, Nat.reduceSub, Nat.reduceLT, Nat.reduceLeDiff, Value.category, Nat.zero_add, Nat.add_zero]
            refine ⟨fun hb => ?_, fun hb => t77 (fun h5 => ?_)⟩
            · rw [hb, decide_eq_true (show gMm μ' n x y z i = c by omega), Bool.true_and, if_pos rfl] at hk
              exact hk
            · rw [hb] at h5
              exact absurd h5.1 (by decide)
      simp only [pM_0, pM_1, pM_2, pM_3, pM_4, pM_5, pM_6, pM_7, pM_8, pM_9, pM_10, pM_11, pM_12, pM_13, pM_14, bX6_match_45, o_iload, o_aload, o_ic, o_lc, o_istore, o_astore, o_iinc, o_bin, o_idiv, o_ineg, o_i2c, o_i2l, o_lcmp, o_if1, o_if2, o_dup, o_dup2, o_getf, o_puti, o_ald, o_iast, o_cast, o_lald, o_last, o_mmin, o_mabs, o_ret, o_vret, o_throw, o_lsw01, o_callS0, o_callS1, o_callS2, o_callS3, o_callS4, o_callS5, o_callV0, o_callV1, o_callV2, o_callV3, o_callV4, o_callV5, zcall_no, zok_nil, zok_ref, zok_int, zE, List.map_cons, List.map_nil, List.length_cons, List.length_nil, List.replicate_succ, List.replicate_zero, List.cons_append, List.nil_append, List.append_nil, List.getElem?_cons_zero, List.getElem?_cons_succ, List.set_cons_zero, List.set_cons_succ, Option.toList_some, Option.toList_none, vp_nar_int, znar_b, zb_0, ne_eq, Bool.not_eq_false, Classical.not_not, nI_1, sh1_def, true_and, and_true, Nat.reduceAdd, Nat.reduceSub, Nat.reduceLT, Nat.reduceLeDiff, Value.category, Nat.zero_add, Nat.add_zero]
      refine ⟨μ, f, 0, rfl, rfl, ?_⟩
      rw [← hμ]
      simp only [pM_0, pM_1, pM_2, pM_3, pM_4, pM_5, pM_6, pM_7, pM_8, pM_9, pM_10, pM_11, pM_12, pM_13, pM_14, bX6_match_45, o_iload, o_aload, o_ic, o_lc, o_istore, o_astore, o_iinc, o_bin, o_idiv, o_ineg, o_i2c, o_i2l, o_lcmp, o_if1, o_if2, o_dup, o_dup2, o_getf, o_puti, o_ald, o_iast, o_cast, o_lald, o_last, o_mmin, o_mabs, o_ret, o_vret, o_throw, o_lsw01, o_callS0, o_callS1, o_callS2, o_callS3, o_callS4, o_callS5, o_callV0, o_callV1, o_callV2, o_callV3, o_callV4, o_callV5, zcall_no, zok_nil, zok_ref, zok_int, zE, List.map_cons, List.map_nil, List.length_cons, List.length_nil, List.replicate_succ, List.replicate_zero, List.cons_append, List.nil_append, List.append_nil, List.getElem?_cons_zero, List.getElem?_cons_succ, List.set_cons_zero, List.set_cons_succ, Option.toList_some, Option.toList_none, vp_nar_int, znar_b, zb_0, ne_eq, Bool.not_eq_false, Classical.not_not, nI_1, sh1_def, true_and, and_true, Nat.reduceAdd, Nat.reduceSub, Nat.reduceLT, Nat.reduceLeDiff, Value.category, Nat.zero_add, Nat.add_zero]
      refine ⟨fun _ => ?_, fun h9 => absurd h9 (by decide)⟩
      exact loop m 0 _ (by omega) (Nat.zero_le _) hk2
  · have hp : ¬ p < 0 := Int32.not_lt.mpr h0
    have hs : gSet3 n x y z = false := h1
    rw [if_neg hp, hs] at hk
    exact bad 2 _ (by decide) hk
  · rw [if_pos (Int32.not_le.mp h0), if_neg (by decide)] at hk
    exact bad 1 _ (by decide) hk)
end M13
