section M17
variable {l : Launch} {z0 b N : Nat} {D : va_G} {cA : Nat → ClassId}
theorem gFd_thr {μ : zMS} {x : Int32} {d : Nat} : ∀ i, gFd (vThr μ x) d i = gFd μ d i
  | 0 => rfl
  | i + 1 => by
    unfold gFd
    rw [gFd_thr i]
    rfl
set_option maxHeartbeats 1000000 in
set_option maxRecDepth 20000 in
theorem mX6_enter (hlt : l.stackTraces = false) : Sem l z0 b N D cA yX6_enter cX6_enter 3 (some .int) 2 43 1 zno tX6_enter := uX6_enter hlt (mX6_isDraft hlt) (mX6_holds hlt) (fun M a h Kn Kx hok hN A h4 h74 => by
  obtain ⟨μ, f, n, m, q, kk, d, rfl, rfl, hI, hk⟩ := hN
  have hI' := hI
  obtain ⟨⟨hn, hn24, hm, hm20, hq, hq40, hkp, hk20, hd, hd8, hch1, hch2, hln, hac, hrq⟩, hrk⟩ := hI'
  have hd' : μ.2.2.1 = nI d := hd
  have hn' : μ.2.2.2.1 = nI n := hn
  have hcn := nI_clamp (show n < 2 ^ 31 by omega)
  unfold gEnter gH at hk
  rw [hd, hn, tn_nI (by omega), tn_nI (by omega)] at hk
  obtain ⟨F, hF⟩ : ∃ F, F = gFd μ d n := ⟨_, rfl⟩
  rw [← hF] at hk
  have bad : ∀ w2, Kn (some (.int 0)) (pM (vThr μ 1) f) → bX6_enter_59 M Kn Kx (pM μ f) (A 4) (A 74) [some (.ref 29), some (.int F), w2] [.int 1, .ref 29] (pM μ f) := by
    intro w2 hk
    simp only [pM_0, pM_1, pM_2, pM_3, pM_4, pM_5, pM_6, pM_7, pM_8, pM_9, pM_10, pM_11, pM_12, pM_13, pM_14, bX6_enter_59, o_iload, o_aload, o_ic, o_lc, o_istore, o_astore, o_iinc, o_bin, o_idiv, o_ineg, o_i2c, o_i2l, o_lcmp, o_if1, o_if2, o_dup, o_dup2, o_getf, o_puti, o_ald, o_iast, o_cast, o_lald, o_last, o_mmin, o_mabs, o_ret, o_vret, o_throw, o_lsw01, o_callS0, o_callS1, o_callS2, o_callS3, o_callS4, o_callS5, o_callV0, o_callV1, o_callV2, o_callV3, o_callV4, o_callV5, zcall_no, zok_nil, zok_ref, zok_int, zE, List.map_cons, List.map_nil, List.length_cons, List.length_nil, List.replicate_succ, List.replicate_zero, List.cons_append, List.nil_append, List.append_nil, List.getElem?_cons_zero, List.getElem?_cons_succ, List.set_cons_zero, List.set_cons_succ, Option.toList_some, Option.toList_none, vp_nar_int, znar_b, zb_0, ne_eq, Bool.not_eq_false, Classical.not_not, nI_1, sh1_def, true_and, and_true, Nat.reduceAdd, Nat.reduceSub, Nat.reduceLT, Nat.reduceLeDiff, Value.category, Nat.zero_add, Nat.add_zero]
    refine ⟨μ, f, 1, rfl, rfl, ?_⟩
    simp only [pM_0, pM_1, pM_2, pM_3, pM_4, pM_5, pM_6, pM_7, pM_8, pM_9, pM_10, pM_11, pM_12, pM_13, pM_14, bX6_enter_59, o_iload, o_aload, o_ic, o_lc, o_istore, o_astore, o_iinc, o_bin, o_idiv, o_ineg, o_i2c, o_i2l, o_lcmp, o_if1, o_if2, o_dup, o_dup2, o_getf, o_puti, o_ald, o_iast, o_cast, o_lald, o_last, o_mmin, o_mabs, o_ret, o_vret, o_throw, o_lsw01, o_callS0, o_callS1, o_callS2, o_callS3, o_callS4, o_callS5, o_callV0, o_callV1, o_callV2, o_callV3, o_callV4, o_callV5, zcall_no, zok_nil, zok_ref, zok_int, zE, List.map_cons, List.map_nil, List.length_cons, List.length_nil, List.replicate_succ, List.replicate_zero, List.cons_append, List.nil_append, List.append_nil, List.getElem?_cons_zero, List.getElem?_cons_succ, List.set_cons_zero, List.set_cons_succ, Option.toList_some, Option.toList_none, vp_nar_int, znar_b, zb_0, ne_eq, Bool.not_eq_false, Classical.not_not, nI_1, sh1_def, true_and, and_true, Nat.reduceAdd, Nat.reduceSub, Nat.reduceLT, Nat.reduceLeDiff, Value.category, Nat.zero_add, Nat.add_zero]
    exact ⟨fun h9 => absurd h9 (by decide), fun _ => hk⟩
  obtain ⟨μ', hμ⟩ : ∃ μ', μ' = vThr μ 0 := ⟨_, rfl⟩
  have jI : mInw μ' n m q kk d := by rw [hμ]; exact hI
  have jF : gFd μ' d n = F := by rw [hμ, gFd_thr, hF]
  have good : ∀ w2, (¬ F = -1 ∨ n < 24) → Kn (some (.int (if F = -1 then (mTg μ', vNew μ' 0 (mTg μ' + 1) (gEnL μ' (tn (mDl μ'))) (upd (mLn μ') (tn (mTg μ')) (mDl μ'))) else (F, vDr μ' (mDr μ') 0)).1)) (pM (if F = -1 then (mTg μ', vNew μ' 0 (mTg μ' + 1) (gEnL μ' (tn (mDl μ'))) (upd (mLn μ') (tn (mTg μ')) (mDl μ'))) else (F, vDr μ' (mDr μ') 0)).2 f) → bX6_enter_59 M Kn Kx (pM μ f) (A 4) (A 74) [some (.ref 29), some (.int F), w2] [.int 0, .ref 29] (pM μ f) := by
    intro w2 hc hk
    obtain ⟨⟨jn, -, -, -, -, -, -, -, jd, -, -, jch2, -, -, -⟩, -⟩ := jI
    have jd' : μ'.2.2.1 = nI d := jd
    have jn' : μ'.2.2.2.1 = nI n := jn
    have hcd := nI_clamp (show d < 2 ^ 31 by omega)
    simp only [pM_0, pM_1, pM_2, pM_3, pM_4, pM_5, pM_6, pM_7, pM_8, pM_9, pM_10, pM_11, pM_12, pM_13, pM_14, bX6_enter_59, o_iload, o_aload, o_ic, o_lc, o_istore, o_astore, o_iinc, o_bin, o_idiv, o_ineg, o_i2c, o_i2l, o_lcmp, o_if1, o_if2, o_dup, o_dup2, o_getf, o_puti, o_ald, o_iast, o_cast, o_lald, o_last, o_mmin, o_mabs, o_ret, o_vret, o_throw, o_lsw01, o_callS0, o_callS1, o_callS2, o_callS3, o_callS4, o_callS5, o_callV0, o_callV1, o_callV2, o_callV3, o_callV4, o_callV5, zcall_no, zok_nil, zok_ref, zok_int, zE, List.map_cons, List.map_nil, List.length_cons, List.length_nil, List.replicate_succ, List.replicate_zero, List.cons_append, List.nil_append, List.append_nil, List.getElem?_cons_zero, List.getElem?_cons_succ, List.set_cons_zero, List.set_cons_succ, Option.toList_some, Option.toList_none, vp_nar_int, znar_b, zb_0, ne_eq, Bool.not_eq_false, Classical.not_not, nI_1, sh1_def, true_and, and_true, Nat.reduceAdd, Nat.reduceSub, Nat.reduceLT, Nat.reduceLeDiff, Value.category, Nat.zero_add, Nat.add_zero]
    refine ⟨μ, f, 0, rfl, rfl, ?_⟩
    rw [← hμ]
    simp only [pM_0, pM_1, pM_2, pM_3, pM_4, pM_5, pM_6, pM_7, pM_8, pM_9, pM_10, pM_11, pM_12, pM_13, pM_14, bX6_enter_59, o_iload, o_aload, o_ic, o_lc, o_istore, o_astore, o_iinc, o_bin, o_idiv, o_ineg, o_i2c, o_i2l, o_lcmp, o_if1, o_if2, o_dup, o_dup2, o_getf, o_puti, o_ald, o_iast, o_cast, o_lald, o_last, o_mmin, o_mabs, o_ret, o_vret, o_throw, o_lsw01, o_callS0, o_callS1, o_callS2, o_callS3, o_callS4, o_callS5, o_callV0, o_callV1, o_callV2, o_callV3, o_callV4, o_callV5, zcall_no, zok_nil, zok_ref, zok_int, zE, List.map_cons, List.map_nil, List.length_cons, List.length_nil, List.replicate_succ, List.replicate_zero, List.cons_append, List.nil_append, List.append_nil, List.getElem?_cons_zero, List.getElem?_cons_succ, List.set_cons_zero, List.set_cons_succ, Option.toList_some, Option.toList_none, vp_nar_int, znar_b, zb_0, ne_eq, Bool.not_eq_false, Classical.not_not, nI_1, sh1_def, true_and, and_true, Nat.reduceAdd, Nat.reduceSub, Nat.reduceLT, Nat.reduceLeDiff, Value.category, Nat.zero_add, Nat.add_zero]
    refine ⟨fun _ => ⟨fun h1 => ?_, fun h1 => ?_⟩, fun h9 => absurd h9 (by decide)⟩
    · rw [if_neg h1] at hk
      simp only [pM_0, pM_1, pM_2, pM_3, pM_4, pM_5, pM_6, pM_7, pM_8, pM_9, pM_10, pM_11, pM_12, pM_13, pM_14, bX6_enter_136, pM_s2, o_iload, o_aload, o_ic, o_lc, o_istore, o_astore, o_iinc, o_bin, o_idiv, o_ineg, o_i2c, o_i2l, o_lcmp, o_if1, o_if2, o_dup, o_dup2, o_getf, o_puti, o_ald, o_iast, o_cast, o_lald, o_last, o_mmin, o_mabs, o_ret, o_vret, o_throw, o_lsw01, o_callS0, o_callS1, o_callS2, o_callS3, o_callS4, o_callS5, o_callV0, o_callV1, o_callV2, o_callV3, o_callV4, o_callV5, zcall_no, zok_nil, zok_ref, zok_int, zE, List.map_cons, List.map_nil, List.length_cons, List.length_nil, List.replicate_succ, List.replicate_zero, List.cons_append, List.nil_append, List.append_nil, List.getElem?_cons_zero, List.getElem?_cons_succ, List.set_cons_zero, List.set_cons_succ, Option.toList_some, Option.toList_none, vp_nar_int, znar_b, zb_0, ne_eq, Bool.not_eq_false, Classical.not_not, nI_1, sh1_def, true_and, and_true, Nat.reduceAdd, Nat.reduceSub, Nat.reduceLT, Nat.reduceLeDiff, Value.category, Nat.zero_add, Nat.add_zero]
      exact hk
    · rw [if_pos h1, jd, jn, tn_nI (by omega), tn_nI (by omega), nI_1] at hk
      have hn9 : n < 24 := hc.resolve_left (fun q => q h1)
      have loop : ∀ (r i : Nat), i + r = d → A 74 [some (.ref 29), some (.int F), some (.int (nI i))] [] (pM (vNew μ' (nI d) (nI n) (gEnL μ' i) (mLn μ')) f) := by
        intro r
        induction r with
        | zero =>
          intro i hi
          apply h74
          have hi9 : i = d := by omega
          subst hi9
          simp only [pM_0, pM_1, pM_2, pM_3, pM_4, pM_5, pM_6, pM_7, pM_8, pM_9, pM_10, pM_11, pM_12, pM_13, pM_14, bX6_enter_74, vNew, bX6_enter_136, pM_s5, pM_s3, pM_s2, hcn, o_iload, o_aload, o_ic, o_lc, o_istore, o_astore, o_iinc, o_bin, o_idiv, o_ineg, o_i2c, o_i2l, o_lcmp, o_if1, o_if2, o_dup, o_dup2, o_getf, o_puti, o_ald, o_iast, o_cast, o_lald, o_last, o_mmin, o_mabs, o_ret, o_vret, o_throw, o_lsw01, o_callS0, o_callS1, o_callS2, o_callS3, o_callS4, o_callS5, o_callV0, o_callV1, o_callV2, o_callV3, o_callV4, o_callV5, zcall_no, zok_nil, zok_ref, zok_int, zE, List.map_cons, List.map_nil, List.length_cons, List.length_nil, List.replicate_succ, List.replicate_zero, List.cons_append, List.nil_append, List.append_nil, List.getElem?_cons_zero, List.getElem?_cons_succ, List.set_cons_zero, List.set_cons_succ, Option.toList_some, Option.toList_none, vp_nar_int, znar_b, zb_0, ne_eq, Bool.not_eq_false, Classical.not_not, nI_1, sh1_def, true_and, and_true, Nat.reduceAdd, Nat.reduceSub, Nat.reduceLT, Nat.reduceLeDiff, Value.category, Nat.zero_add, Nat.add_zero]
          exact ⟨fun _ => ⟨vpin (by omega) (by omega), hk⟩, fun hc => absurd (Int32.le_refl _) hc⟩
        | succ r ih =>
          intro i hi
          apply h74
          have hci := nI_clamp (show i < 2 ^ 31 by omega)
          have hcb := nI_clamp (show 8 * n + i < 2 ^ 31 by omega)
          have hm8 : (8 : Int32) * nI n + nI i = nI (8 * n + i) := by rw [Int32.mul_comm, nI_mul8, Nat.mul_comm]
          have ih' := ih (i + 1) (by omega)
          have e : upd (gEnL μ' i) (8 * n + i) (mDr μ' i) = gEnL μ' (i + 1) := by
            funext j
            unfold gEnL
            rw [jn, tn_nI (by omega)]
            by_cases q1 : j = 8 * n + i
            · subst q1
              rw [if_pos (by omega), show 8 * n + i - n * 8 = i by omega]
              simp [upd]
            · by_cases q2 : n * 8 ≤ j ∧ j < n * 8 + i
              · rw [if_pos (by omega)]
                simp only [upd, if_neg q1, if_pos q2]
              · rw [if_neg (by omega)]
                simp only [upd, if_neg q1, if_neg q2]
          rw [← e] at ih'
          simp only [pM_0, pM_1, pM_2, pM_3, pM_4, pM_5, pM_6, pM_7, pM_8, pM_9, pM_10, pM_11, pM_12, pM_13, pM_14, bX6_enter_74, vNew, hm8, hci, hcb, pM_s4, isCh_nar (jch2 i), o_iload, o_aload, o_ic, o_lc, o_istore, o_astore, o_iinc, o_bin, o_idiv, o_ineg, o_i2c, o_i2l, o_lcmp, o_if1, o_if2, o_dup, o_dup2, o_getf, o_puti, o_ald, o_iast, o_cast, o_lald, o_last, o_mmin, o_mabs, o_ret, o_vret, o_throw, o_lsw01, o_callS0, o_callS1, o_callS2, o_callS3, o_callS4, o_callS5, o_callV0, o_callV1, o_callV2, o_callV3, o_callV4, o_callV5, zcall_no, zok_nil, zok_ref, zok_int, zE, List.map_cons, List.map_nil, List.length_cons, List.length_nil, List.replicate_succ, List.replicate_zero, List.cons_append, List.nil_append, List.append_nil, List.getElem?_cons_zero, List.getElem?_cons_succ, List.set_cons_zero, List.set_cons_succ, Option.toList_some, Option.toList_none, vp_nar_int, znar_b, zb_0, ne_eq, Bool.not_eq_false, Classical.not_not, nI_1, sh1_def, true_and, and_true, Nat.reduceAdd, Nat.reduceSub, Nat.reduceLT, Nat.reduceLeDiff, Value.category, Nat.zero_add, Nat.add_zero]
          refine ⟨fun hc => absurd (nI_le_le (by omega) (by omega) hc) (by omega), fun _ => ⟨vpin (by omega) (by omega), vpin (by omega) (by omega), ?_⟩⟩
          exact ih'
      have := loop d 0 (by omega)
      rw [show gEnL μ' 0 = mLe μ' from funext fun j => by unfold gEnL; rw [if_neg (by omega)]] at this
      rw [show vNew μ' (nI d) (nI n) (mLe μ') (mLn μ') = μ' by rw [← jd, ← jn]; rfl] at this
      exact this
  let E : zMS → zP := fun μ => if gFd μ (tn (mDl μ)) (tn (mTg μ)) = -1 then (mTg μ, vNew μ 0 (mTg μ + 1) (gEnL μ (tn (mDl μ))) (upd (mLn μ) (tn (mTg μ)) (mDl μ))) else (gFd μ (tn (mDl μ)) (tn (mTg μ)), vDr μ (mDr μ) 0)
  have hE : E (vThr μ 0) = (if F = -1 then (mTg μ', vNew μ' 0 (mTg μ' + 1) (gEnL μ' (tn (mDl μ'))) (upd (mLn μ') (tn (mTg μ')) (mDl μ'))) else (F, vDr μ' (mDr μ') 0)) := by
    rw [← hμ]
    show (if gFd μ' (tn (mDl μ')) (tn (mTg μ')) = -1 then (mTg μ', vNew μ' 0 (mTg μ' + 1) (gEnL μ' (tn (mDl μ'))) (upd (mLn μ') (tn (mTg μ')) (mDl μ'))) else (gFd μ' (tn (mDl μ')) (tn (mTg μ')), vDr μ' (mDr μ') 0)) = _
    have e1 : gFd μ' (tn (mDl μ')) (tn (mTg μ')) = F := by
      rw [jI.1.2.2.2.2.2.2.2.2.1, jI.1.1, tn_nI (by omega), tn_nI (by omega), jF]
    rw [e1]
  have loop1 : ∀ (r i : Nat), i + r = n → A 4 [some (.ref 29), some (.int (gFd μ d i)), some (.int (nI i))] [] (pM μ f) := by
    intro r
    induction r with
    | zero =>
      intro i hi
      apply h4
      have hi9 : i = n := by omega
      rw [hi9, ← hF]
      simp only [pM_0, pM_1, pM_2, pM_3, pM_4, pM_5, pM_6, pM_7, pM_8, pM_9, pM_10, pM_11, pM_12, pM_13, pM_14, bX6_enter_4, bX6_enter_54, bX6_enter_58, hd', hn', o_iload, o_aload, o_ic, o_lc, o_istore, o_astore, o_iinc, o_bin, o_idiv, o_ineg, o_i2c, o_i2l, o_lcmp, o_if1, o_if2, o_dup, o_dup2, o_getf, o_puti, o_ald, o_iast, o_cast, o_lald, o_last, o_mmin, o_mabs, o_ret, o_vret, o_throw, o_lsw01, o_callS0, o_callS1, o_callS2, o_callS3, o_callS4, o_callS5, o_callV0, o_callV1, o_callV2, o_callV3, o_callV4, o_callV5, zcall_no, zok_nil, zok_ref, zok_int, zE, List.map_cons, List.map_nil, List.length_cons, List.length_nil, List.replicate_succ, List.replicate_zero, List.cons_append, List.nil_append, List.append_nil, List.getElem?_cons_zero, List.getElem?_cons_succ, List.set_cons_zero, List.set_cons_succ, Option.toList_some, Option.toList_none, vp_nar_int, znar_b, zb_0, ne_eq, Bool.not_eq_false, Classical.not_not, nI_1, sh1_def, true_and, and_true, Nat.reduceAdd, Nat.reduceSub, Nat.reduceLT, Nat.reduceLeDiff, Value.category, Nat.zero_add, Nat.add_zero]
      refine ⟨fun _ => ⟨fun h1 => ?_, fun h1 => ⟨fun h2 => ?_, fun h2 => ⟨fun h3 => ?_, fun h3 => ?_⟩⟩⟩, fun hc => absurd (Int32.le_refl _) hc⟩
      · rw [if_pos h1] at hk
        exact bad _ hk
      · rw [if_neg h1, if_neg h2] at hk
        have hk2 : Kn (some (.int (E (vThr μ 0)).1)) (pM (E (vThr μ 0)).2 f) := hk
        rw [hE] at hk2
        exact good _ (Or.inl h2) hk2
      · rw [if_neg h1, if_pos h2, if_neg h3] at hk
        have hk2 : Kn (some (.int (E (vThr μ 0)).1)) (pM (E (vThr μ 0)).2 f) := hk
        rw [hE] at hk2
        refine good _ (Or.inr ?_) hk2
        rcases Nat.lt_or_ge n 24 with q9 | q9
        · exact q9
        · exact absurd (by rw [show n = 24 by omega]; rfl) h3
      · rw [if_neg h1, if_pos h2, if_pos h3] at hk
        exact bad _ hk
    | succ r ih =>
      intro i hi
      apply h4
      have ih' := ih (i + 1) (by omega)
      have stp : gFd μ d (i + 1) = if fIsD (mLe μ) (mLn μ) (mDr μ) d i then nI i else gFd μ d i := rfl
      rw [stp] at ih'
      simp only [pM_0, pM_1, pM_2, pM_3, pM_4, pM_5, pM_6, pM_7, pM_8, pM_9, pM_10, pM_11, pM_12, pM_13, pM_14, bX6_enter_4, bX6_enter_25, hd', hn', o_iload, o_aload, o_ic, o_lc, o_istore, o_astore, o_iinc, o_bin, o_idiv, o_ineg, o_i2c, o_i2l, o_lcmp, o_if1, o_if2, o_dup, o_dup2, o_getf, o_puti, o_ald, o_iast, o_cast, o_lald, o_last, o_mmin, o_mabs, o_ret, o_vret, o_throw, o_lsw01, o_callS0, o_callS1, o_callS2, o_callS3, o_callS4, o_callS5, o_callV0, o_callV1, o_callV2, o_callV3, o_callV4, o_callV5, zcall_no, zok_nil, zok_ref, zok_int, zE, List.map_cons, List.map_nil, List.length_cons, List.length_nil, List.replicate_succ, List.replicate_zero, List.cons_append, List.nil_append, List.append_nil, List.getElem?_cons_zero, List.getElem?_cons_succ, List.set_cons_zero, List.set_cons_succ, Option.toList_some, Option.toList_none, vp_nar_int, znar_b, zb_0, ne_eq, Bool.not_eq_false, Classical.not_not, nI_1, sh1_def, true_and, and_true, Nat.reduceAdd, Nat.reduceSub, Nat.reduceLT, Nat.reduceLeDiff, Value.category, Nat.zero_add, Nat.add_zero]
      refine ⟨fun hc => absurd (nI_le_le (by omega) (by omega) hc) (by omega), fun _ => ⟨μ, f, i, d, rfl, rfl, by omega, hch1, hch2, hd, hd8, ?_⟩⟩
      simp only [pM_0, pM_1, pM_2, pM_3, pM_4, pM_5, pM_6, pM_7, pM_8, pM_9, pM_10, pM_11, pM_12, pM_13, pM_14, bX6_enter_4, bX6_enter_25, hd', hn', o_iload, o_aload, o_ic, o_lc, o_istore, o_astore, o_iinc, o_bin, o_idiv, o_ineg, o_i2c, o_i2l, o_lcmp, o_if1, o_if2, o_dup, o_dup2, o_getf, o_puti, o_ald, o_iast, o_cast, o_lald, o_last, o_mmin, o_mabs, o_ret, o_vret, o_throw, o_lsw01, o_callS0, o_callS1, o_callS2, o_callS3, o_callS4, o_callS5, o_callV0, o_callV1, o_callV2, o_callV3, o_callV4, o_callV5, zcall_no, zok_nil, zok_ref, zok_int, zE, List.map_cons, List.map_nil, List.length_cons, List.length_nil, List.replicate_succ, List.replicate_zero, List.cons_append, List.nil_append, List.append_nil, List.getElem?_cons_zero, List.getElem?_cons_succ, List.set_cons_zero, List.set_cons_succ, Option.toList_some, Option.toList_none, vp_nar_int, znar_b, zb_0, ne_eq, Bool.not_eq_false, Classical.not_not, nI_1, sh1_def, true_and, and_true, Nat.reduceAdd, Nat.reduceSub, Nat.reduceLT, Nat.reduceLeDiff, Value.category, Nat.zero_add, Nat.add_zero]
      refine ⟨fun h1 => ?_, fun h1 => ?_⟩
      · rw [h1, if_neg (by decide)] at ih'
        exact ih'
      · rw [h1, if_pos rfl] at ih'
        exact ih'
  simp only [pM_0, pM_1, pM_2, pM_3, pM_4, pM_5, pM_6, pM_7, pM_8, pM_9, pM_10, pM_11, pM_12, pM_13, pM_14, bX6_enter_0, o_iload, o_aload, o_ic, o_lc, o_istore, o_astore, o_iinc, o_bin, o_idiv, o_ineg, o_i2c, o_i2l, o_lcmp, o_if1, o_if2, o_dup, o_dup2, o_getf, o_puti, o_ald, o_iast, o_cast, o_lald, o_last, o_mmin, o_mabs, o_ret, o_vret, o_throw, o_lsw01, o_callS0, o_callS1, o_callS2, o_callS3, o_callS4, o_callS5, o_callV0, o_callV1, o_callV2, o_callV3, o_callV4, o_callV5, zcall_no, zok_nil, zok_ref, zok_int, zE, List.map_cons, List.map_nil, List.length_cons, List.length_nil, List.replicate_succ, List.replicate_zero, List.cons_append, List.nil_append, List.append_nil, List.getElem?_cons_zero, List.getElem?_cons_succ, List.set_cons_zero, List.set_cons_succ, Option.toList_some, Option.toList_none, vp_nar_int, znar_b, zb_0, ne_eq, Bool.not_eq_false, Classical.not_not, nI_1, sh1_def, true_and, and_true, Nat.reduceAdd, Nat.reduceSub, Nat.reduceLT, Nat.reduceLeDiff, Value.category, Nat.zero_add, Nat.add_zero]
  exact loop1 n 0 (by omega))
end M17
