/-! what changes and what doesn't -/
theorem qs_rf {μ : zMS} : qSame μ μ := ⟨rfl, rfl, rfl, rfl⟩
theorem qs_tr {μ ν ρ : zMS} (h : qSame μ ν) (h2 : qSame ν ρ) : qSame μ ρ := ⟨h2.1.trans h.1, h2.2.1.trans h.2.1, h2.2.2.1.trans h.2.2.1, h2.2.2.2.trans h.2.2.2⟩
theorem qs_beg {μ : zMS} : qSame μ (gBeg μ) := by
  unfold gBeg
  split <;> exact ⟨rfl, rfl, rfl, rfl⟩
theorem qs_sets {μ : zMS} {i : Nat} {x : Int32} : qSame μ (gSets μ i x) := ⟨rfl, rfl, rfl, rfl⟩
theorem qs_s1 {μ : zMS} {i : Nat} {x : Int32} : qSame μ (gS1 μ i x).2 := by
  unfold gS1
  split
  · exact qs_rf
  · exact qs_tr qs_beg qs_sets
theorem qs_gH {μ : zMS} {p : Int32} {r : zMS → zP} (h : p = 0 → qSame (vThr μ 0) (r (vThr μ 0)).2) : qSame μ (gH μ p r).2 := by
  unfold gH
  split
  · next e => exact qs_tr (ν := vThr μ 0) ⟨rfl, rfl, rfl, rfl⟩ (h e)
  · exact ⟨rfl, rfl, rfl, rfl⟩
theorem qs_tag {μ : zMS} {x y : Int32} : qSame μ (gTag μ x y).2 := qs_gH (fun _ => qs_s1)
theorem qs_untag {μ : zMS} {x y : Int32} : qSame μ (gUntag μ x y).2 := qs_gH (fun _ => qs_s1)
theorem qs_ms {μ : zMS} {n : Nat} {k : Int32} {t o : Nat} : ∀ i, qSame μ (gMs μ n k t o i).2
  | 0 => qs_rf
  | i + 1 => by
    have ih := qs_ms (μ := μ) (n := n) (k := k) (t := t) (o := o) i
    unfold gMs
    split
    · exact ih
    · refine qs_tr ?_ qs_sets
      split
      · exact qs_tr ih qs_beg
      · exact ih
theorem qs_mass {μ : zMS} {k x y : Int32} : qSame μ (gMass μ k x y).2 := qs_gH (fun _ => qs_ms _)
theorem qs_undo {μ : zMS} : qSame μ (gUndo μ).2 := qs_gH (fun _ => ⟨rfl, rfl, rfl, rfl⟩)
theorem gH_c0 {μ : zMS} {p : Int32} {r : zMS → zP} (h : p = 0) (hr : (r (vThr μ 0)).2.1 = 0) : (gH μ p r).2.1 = 0 := by
  rw [h, gH_0]
  exact hr
theorem cd_s1 {μ : zMS} {i : Nat} {x : Int32} (h : μ.1 = 0) : (gS1 μ i x).2.1 = 0 := by
  unfold gS1 gBeg
  (repeat' split) <;> exact h
theorem cd_tag {μ : zMS} {x y : Int32} (h : fOk x (mTh μ) = true) (h2 : fOk y (mTg μ) = true) : (gTag μ x y).2.1 = 0 := gH_c0 (by unfold gThe; rw [h, h2]; rfl) (cd_s1 rfl)
theorem cd_ms {μ : zMS} {n : Nat} {k : Int32} {t o : Nat} (h : μ.1 = 0) : ∀ i, (gMs μ n k t o i).2.1 = 0
  | 0 => h
  | i + 1 => by
    have ih := cd_ms (n := n) (k := k) (t := t) (o := o) h i
    unfold gMs gBeg
    (repeat' split) <;> exact ih
theorem cd_mass {μ : zMS} {k x y : Int32} (h : fOk x (mTg μ) = true) (h2 : fOk y (mTg μ) = true) (h3 : fOk k 3 = true) : (gMass μ k x y).2.1 = 0 := gH_c0 (by rw [h, h2, h3]; rfl) (cd_ms rfl _)
theorem cd_undo {μ : zMS} (h : ¬ mKp μ = 0) : (gUndo μ).2.1 = 0 := gH_c0 (if_neg h) rfl
/-! what is kept for undo -/
theorem kp_ms {μ : zMS} {n : Nat} {k : Int32} {t o : Nat} : ∀ i, (gMs μ n k t o i).1 ≤ i ∧ ((gMs μ n k t o i).1 = 0 → (gMs μ n k t o i).2 = μ) ∧ (¬ (gMs μ n k t o i).1 = 0 → mKp (gMs μ n k t o i).2 = mKp (gBeg μ))
  | 0 => ⟨Nat.le_refl _, fun _ => rfl, fun h => absurd rfl h⟩
  | i + 1 => by
    obtain ⟨a1, a2, a3⟩ := kp_ms (μ := μ) (n := n) (k := k) (t := t) (o := o) i
    unfold gMs
    split
    · exact ⟨by omega, a2, a3⟩
    · refine ⟨by show (gMs μ n k t o i).1 + 1 ≤ i + 1; omega, fun h => absurd h (by show ¬ (gMs μ n k t o i).1 + 1 = 0; omega), fun _ => ?_⟩
      show mKp (if (gMs μ n k t o i).1 = 0 then gBeg (gMs μ n k t o i).2 else (gMs μ n k t o i).2) = mKp (gBeg μ)
      split
      · next h => rw [a2 h]
      · next h => exact a3 h
theorem kp_beg {μ : zMS} {a : Nat} (h : mKp μ = nI a) (ha : a ≤ 20) : ∃ b, 1 ≤ b ∧ b ≤ 20 ∧ (1 ≤ a → 2 ≤ b) ∧ mKp (gBeg μ) = nI b := by
  unfold gBeg
  split
  · next e =>
    have : a = 20 := nI_ne (by omega) (by omega) (h.symm.trans e)
    exact ⟨20, by omega, by omega, by omega, rfl⟩
  · next e =>
    have : ¬ a = 20 := fun q => e (by rw [h, q]; rfl)
    exact ⟨a + 1, by omega, by omega, by omega, by show mKp μ + 1 = _; rw [h, nI_1]⟩
theorem kp_tag {μ : zMS} {x y : Int32} {a : Nat} (h : fOk x (mTh μ) = true) (h2 : fOk y (mTg μ) = true) (h3 : tn y < 32) (hb : bt (mSe μ (tn x)) (tn y) = false) (hk : mKp μ = nI a) (ha : a ≤ 20) : ∃ b, 1 ≤ b ∧ b ≤ 20 ∧ mKp (gTag μ x y).2 = nI b := by
  have hne : ¬ mSe (vThr μ 0) (tn x) = mSe (vThr μ 0) (tn x) ||| sh1 (tn y) := by
    intro e
    have e : mSe μ (tn x) = mSe μ (tn x) ||| sh1 (tn y) := e
    rw [e, b_or, bt_sh1 h3 h3] at hb
    simp at hb
  obtain ⟨b, b1, b2, -, b3⟩ := kp_beg (μ := vThr μ 0) hk ha
  refine ⟨b, b1, b2, ?_⟩
  unfold gTag
  rw [show gIs (gThe μ x y) = 0 by unfold gThe; rw [h, h2]; rfl, gH_0]
  unfold gS1
  rw [if_neg hne]
  exact b3
theorem kp_mass {μ : zMS} {k x y : Int32} {m : Nat} (h : fOk x (mTg μ) = true) (h2 : fOk y (mTg μ) = true) (h3 : fOk k 3 = true) (e3 : mTh μ = nI m) (hm : m ≤ 20) : ∃ c, c ≤ 20 ∧ (gMass μ k x y).1 = nI c ∧ (c = 0 → mKp (gMass μ k x y).2 = mKp μ) ∧ (¬ c = 0 → mKp (gMass μ k x y).2 = mKp (gBeg μ)) := by
  have e : gMass μ k x y = (nI (gMs (vThr μ 0) (tn (mTg μ)) k (tn x) (tn y) (tn (mTh μ))).1, (gMs (vThr μ 0) (tn (mTg μ)) k (tn x) (tn y) (tn (mTh μ))).2) := by
    unfold gMass
    rw [h, h2, h3]
    exact gH_0
  obtain ⟨a1, a2, a3⟩ := kp_ms (μ := vThr μ 0) (n := tn (mTg μ)) (k := k) (t := tn x) (o := tn y) (tn (mTh μ))
  have h8 : tn (mTh μ) = m := by rw [e3, tn_nI (by omega)]
  rw [e]
  refine ⟨_, by omega, rfl, fun h => ?_, fun h => ?_⟩
  · show mKp (gMs (vThr μ 0) (tn (mTg μ)) k (tn x) (tn y) (tn (mTh μ))).2 = mKp μ
    rw [a2 h]; rfl
  · refine (a3 h).trans ?_
    unfold gBeg
    show mKp (if mKp μ = 20 then _ else _) = mKp (if mKp μ = 20 then _ else _)
    split <;> rfl
theorem kp_undo {μ : zMS} {b : Nat} (h1 : 1 ≤ b) (hb : b ≤ 20) (h : mKp μ = nI b) : mKp (gUndo μ).2 = nI (b - 1) := by
  have hne : ¬ mKp μ = 0 := fun q => absurd (nI_ne (a := b) (b := 0) (by omega) (by omega) (h.symm.trans q)) (by omega)
  unfold gUndo
  rw [if_neg hne, gH_0]
  show mKp μ - 1 = nI (b - 1)
  obtain ⟨c, rfl⟩ : ∃ c, b = c + 1 := ⟨b - 1, by omega⟩
  rw [h, nI_pred, Nat.add_sub_cancel]
theorem hand_v {μ : zMS} {x : Int32} (h : fOk x (mTh μ) = true) : (gHand μ x).1 = mSe μ (tn x) := by
  unfold gHand
  rw [h, show gIs true = 0 from rfl, gH_0]
  rfl
theorem bit_f {v : Int32} {j : Nat} (hj : j < 32) (h : sr v (nI j) &&& 1 = 0) : bt v j = false := by
  cases hb : bt v j with
  | false => rfl
  | true =>
    have h9 : sr v (nI j) &&& 1 = 1 := (hasb hj).mpr hb
    exact absurd (h.symm.trans h9) (by decide)
theorem kp_n0 {μ : zMS} {b : Nat} (h : mKp μ = nI b) (h1 : 1 ≤ b) (h2 : b ≤ 20) : ¬ mKp μ = 0 := fun q => absurd (nI_ne (a := b) (b := 0) (by omega) (by omega) (h.symm.trans q)) (by omega)
section VUNDONE
variable {l : Launch} {z0 b N : Nat} {D : va_G} {cA : Nat → ClassId}
set_option maxHeartbeats 2000000 in
theorem vL_isUndoneSo (hlt : l.stackTraces = false) : SemL l z0 b D cA yL_isUndoneSo (Cond.code yL_isUndoneSo cL_isUndoneSo 9 (some .boolean)) 8 129 5 0 tL_isUndoneSo := uL_isUndoneSo hlt (fun a μ ν Kn hok h => by
  unfold tL_isUndoneSo at h
  split at h
  rotate_left
  · exact h.elim
  next r r2 x y k =>
  obtain ⟨rfl, rfl, rfl, hm, hx, hy, hk, hK⟩ := h
  obtain ⟨n, m, q, kp, d, ⟨⟨e1, e2, e3, e4, e5, e6, e7, e8, e9, e10, e11, e12, e13, e14, -⟩, -⟩, -⟩ := id hm
  have hK0 : ∀ μo μp, Kn 0 μo μp 0 := fun μo μp => hK 0 μo μp (Or.inl rfl) (fun h => absurd h (by decide))
  have hn0 : narrow .boolean (.int 0) = .int 0 := rfl
  have hn1 : narrow .boolean (.int 1) = .int 1 := rfl
  have hxs : ∀ μo, qSame μ μo → fOk x (mTh μo) = true := fun μo h => by rw [h.2.1]; exact hx
  have hys : ∀ μo, qSame μ μo → fOk y (mTg μo) = true := fun μo h => by rw [h.1]; exact hy
  have S227 : ∀ (bb hd kt nn : Int32) (μo μp : zMS), (bb = 0 ∨ bb = 1) → (bb = 1 → μo = μp ∧ mOk μo ∧ qSame μ μo) → bL_isUndoneSo_227 Kn [some (.ref 0), some (.ref 29), some (.int x), some (.int y), some (.int k), some (.int hd), some (.int kt), some (.int bb), some (.int nn)] [] (μo, μp, 0, 0) := by
    intro bb hd kt nn μo μp hb hg
    rcases hb with rfl | rfl
    · simp only [bL_isUndoneSo_227, bL_isUndoneSo_266, bL_isUndoneSo_267, cd_tags, cd_things, cd_kept, vl_tags, vl_things, vl_kept, o_iload, o_aload, o_ic, o_lc, o_istore, o_astore, o_iinc, o_bin, o_idiv, o_ineg, o_i2c, o_i2l, o_lcmp, o_if1, o_if2, o_dup, o_dup2, o_getf, o_puti, o_ald, o_iast, o_cast, o_lald, o_last, o_mmin, o_mabs, o_ret, o_vret, o_throw, o_lsw01, o_callS0, o_callS1, o_callS2, o_callS3, o_callS4, o_callS5, o_callV0, o_callV1, o_callV2, o_callV3, o_callV4, o_callV5, o_rd0, o_rd1, o_rd2, o_rd3, o_wr0, o_wr1, o_wr2, o_wr3, o_tr0, o_tr1, o_tr2, o_tr3, o_tr4, o_to1, o_to4, o_cL, o_irem, o_ret2, zcall_no, zok_nil, zok_ref, zok_int, zE, List.map_cons, List.map_nil, List.length_cons, List.length_nil, List.replicate_succ, List.replicate_zero, List.cons_append, List.nil_append, List.append_nil, List.getElem?_cons_zero, List.getElem?_cons_succ, List.set_cons_zero, List.set_cons_succ, Option.toList_some, Option.toList_none, vp_nar_int, znar_b, zb_0, ne_eq, Bool.not_eq_false, Classical.not_not, nI_1, sh1_def, true_and, and_true, Nat.reduceAdd, Nat.reduceSub, Nat.reduceLT, Nat.reduceLeDiff, Value.category, Nat.zero_add, Nat.add_zero, qmu_M, qset_j, List.take_succ_cons, List.take_zero, List.drop_succ_cons, List.drop_zero, List.reverse_cons, List.reverse_nil, sr_def, qex, qix_qob, qix_0, qix_29, qob_f, qob_t, qM_f, qM_t, qset_f, qset_t, i01, i10, not_true_eq_false, not_false_eq_true, false_implies, true_implies, true_or, or_true, forall_const, qrs_nil, qrs_int, qrs_ref, qrs_ra]
      exact ⟨hn0, hK0 _ _⟩
    · obtain ⟨rfl, hm', hs'⟩ := hg rfl
      have hK1 := hK 1 μo μo (Or.inr rfl) (fun _ => ⟨rfl, hm', hs'⟩)
      have hx' := hxs _ hs'
      simp only [bL_isUndoneSo_227, bL_isUndoneSo_266, bL_isUndoneSo_267, cd_tags, cd_things, cd_kept, vl_tags, vl_things, vl_kept, o_iload, o_aload, o_ic, o_lc, o_istore, o_astore, o_iinc, o_bin, o_idiv, o_ineg, o_i2c, o_i2l, o_lcmp, o_if1, o_if2, o_dup, o_dup2, o_getf, o_puti, o_ald, o_iast, o_cast, o_lald, o_last, o_mmin, o_mabs, o_ret, o_vret, o_throw, o_lsw01, o_callS0, o_callS1, o_callS2, o_callS3, o_callS4, o_callS5, o_callV0, o_callV1, o_callV2, o_callV3, o_callV4, o_callV5, o_rd0, o_rd1, o_rd2, o_rd3, o_wr0, o_wr1, o_wr2, o_wr3, o_tr0, o_tr1, o_tr2, o_tr3, o_tr4, o_to1, o_to4, o_cL, o_irem, o_ret2, zcall_no, zok_nil, zok_ref, zok_int, zE, List.map_cons, List.map_nil, List.length_cons, List.length_nil, List.replicate_succ, List.replicate_zero, List.cons_append, List.nil_append, List.append_nil, List.getElem?_cons_zero, List.getElem?_cons_succ, List.set_cons_zero, List.set_cons_succ, Option.toList_some, Option.toList_none, vp_nar_int, znar_b, zb_0, ne_eq, Bool.not_eq_false, Classical.not_not, nI_1, sh1_def, true_and, and_true, Nat.reduceAdd, Nat.reduceSub, Nat.reduceLT, Nat.reduceLeDiff, Value.category, Nat.zero_add, Nat.add_zero, qmu_M, qset_j, List.take_succ_cons, List.take_zero, List.drop_succ_cons, List.drop_zero, List.reverse_cons, List.reverse_nil, sr_def, qex, qix_qob, qix_0, qix_29, qob_f, qob_t, qM_f, qM_t, qset_f, qset_t, i01, i10, not_true_eq_false, not_false_eq_true, false_implies, true_implies, true_or, or_true, forall_const, qrs_nil, qrs_int, qrs_ref, qrs_ra]
      repeat' (first | with_reducible exact hK0 _ _ | with_reducible exact hK1 | with_reducible exact hn0 | with_reducible exact hn1 | with_reducible exact cd_hand hx' | apply And.intro | intro _)
  have S188 : ∀ (bb hd kt nn : Int32) (x7 : Option Value) (μo μp : zMS), (bb = 0 ∨ bb = 1) → (bb = 1 → μo = μp ∧ mOk μo ∧ qSame μ μo) → (bb = 1 → sr hd y &&& 1 = 0 → (gUndo μo).2.1 = 0) → bL_isUndoneSo_188 Kn [some (.ref 0), some (.ref 29), some (.int x), some (.int y), some (.int k), some (.int hd), some (.int kt), x7, some (.int nn)] [.int bb] (μo, μp, 0, 0) := by
    intro bb hd kt nn x7 μo μp hb hg hu
    have z0 := fun μo μp => S227 0 hd kt nn μo μp (Or.inl rfl) (fun h => absurd h (by decide))
    rcases hb with rfl | rfl
    · simp only [bL_isUndoneSo_188, bL_isUndoneSo_224, bL_isUndoneSo_225, cd_tags, cd_things, cd_kept, vl_tags, vl_things, vl_kept, o_iload, o_aload, o_ic, o_lc, o_istore, o_astore, o_iinc, o_bin, o_idiv, o_ineg, o_i2c, o_i2l, o_lcmp, o_if1, o_if2, o_dup, o_dup2, o_getf, o_puti, o_ald, o_iast, o_cast, o_lald, o_last, o_mmin, o_mabs, o_ret, o_vret, o_throw, o_lsw01, o_callS0, o_callS1, o_callS2, o_callS3, o_callS4, o_callS5, o_callV0, o_callV1, o_callV2, o_callV3, o_callV4, o_callV5, o_rd0, o_rd1, o_rd2, o_rd3, o_wr0, o_wr1, o_wr2, o_wr3, o_tr0, o_tr1, o_tr2, o_tr3, o_tr4, o_to1, o_to4, o_cL, o_irem, o_ret2, zcall_no, zok_nil, zok_ref, zok_int, zE, List.map_cons, List.map_nil, List.length_cons, List.length_nil, List.replicate_succ, List.replicate_zero, List.cons_append, List.nil_append, List.append_nil, List.getElem?_cons_zero, List.getElem?_cons_succ, List.set_cons_zero, List.set_cons_succ, Option.toList_some, Option.toList_none, vp_nar_int, znar_b, zb_0, ne_eq, Bool.not_eq_false, Classical.not_not, nI_1, sh1_def, true_and, and_true, Nat.reduceAdd, Nat.reduceSub, Nat.reduceLT, Nat.reduceLeDiff, Value.category, Nat.zero_add, Nat.add_zero, qmu_M, qset_j, List.take_succ_cons, List.take_zero, List.drop_succ_cons, List.drop_zero, List.reverse_cons, List.reverse_nil, sr_def, qex, qix_qob, qix_0, qix_29, qob_f, qob_t, qM_f, qM_t, qset_f, qset_t, i01, i10, not_true_eq_false, not_false_eq_true, false_implies, true_implies, true_or, or_true, forall_const, qrs_nil, qrs_int, qrs_ref, qrs_ra]
      repeat' (first | with_reducible exact z0 _ _ | apply And.intro | intro _)
    · obtain ⟨rfl, hm', hs'⟩ := hg rfl
      have z1 := S227 1 hd kt nn μo μo (Or.inr rfl) (fun _ => ⟨rfl, hm', hs'⟩)
      have z2 := S227 1 hd kt nn (gUndo μo).2 (gUndo μo).2 (Or.inr rfl) (fun _ => ⟨rfl, mOk_undo hm', qs_tr hs' qs_undo⟩)
      simp only [bL_isUndoneSo_188, bL_isUndoneSo_224, bL_isUndoneSo_225, cd_tags, cd_things, cd_kept, vl_tags, vl_things, vl_kept, o_iload, o_aload, o_ic, o_lc, o_istore, o_astore, o_iinc, o_bin, o_idiv, o_ineg, o_i2c, o_i2l, o_lcmp, o_if1, o_if2, o_dup, o_dup2, o_getf, o_puti, o_ald, o_iast, o_cast, o_lald, o_last, o_mmin, o_mabs, o_ret, o_vret, o_throw, o_lsw01, o_callS0, o_callS1, o_callS2, o_callS3, o_callS4, o_callS5, o_callV0, o_callV1, o_callV2, o_callV3, o_callV4, o_callV5, o_rd0, o_rd1, o_rd2, o_rd3, o_wr0, o_wr1, o_wr2, o_wr3, o_tr0, o_tr1, o_tr2, o_tr3, o_tr4, o_to1, o_to4, o_cL, o_irem, o_ret2, zcall_no, zok_nil, zok_ref, zok_int, zE, List.map_cons, List.map_nil, List.length_cons, List.length_nil, List.replicate_succ, List.replicate_zero, List.cons_append, List.nil_append, List.append_nil, List.getElem?_cons_zero, List.getElem?_cons_succ, List.set_cons_zero, List.set_cons_succ, Option.toList_some, Option.toList_none, vp_nar_int, znar_b, zb_0, ne_eq, Bool.not_eq_false, Classical.not_not, nI_1, sh1_def, true_and, and_true, Nat.reduceAdd, Nat.reduceSub, Nat.reduceLT, Nat.reduceLeDiff, Value.category, Nat.zero_add, Nat.add_zero, qmu_M, qset_j, List.take_succ_cons, List.take_zero, List.drop_succ_cons, List.drop_zero, List.reverse_cons, List.reverse_nil, sr_def, qex, qix_qob, qix_0, qix_29, qob_f, qob_t, qM_f, qM_t, qset_f, qset_t, i01, i10, not_true_eq_false, not_false_eq_true, false_implies, true_implies, true_or, or_true, forall_const, qrs_nil, qrs_int, qrs_ref, qrs_ra]
      refine ⟨fun _ => z1, fun h9 => ?_⟩
      have h8 := hu rfl h9
      repeat' (first | with_reducible exact z0 _ _ | with_reducible exact z2 | with_reducible exact h8 | apply And.intro | intro _)
  have S164 : ∀ (bb hd kt nn : Int32) (μo μp : zMS), (bb = 0 ∨ bb = 1) → (bb = 1 → μo = μp ∧ mOk μo ∧ qSame μ μo) → (bb = 1 → sr hd y &&& 1 = 0 → (gUndo μo).2.1 = 0) → bL_isUndoneSo_164 Kn [some (.ref 0), some (.ref 29), some (.int x), some (.int y), some (.int k), some (.int hd), some (.int kt), some (.int bb), some (.int nn)] [] (μo, μp, 0, 0) := by
    intro bb hd kt nn μo μp hb hg hu
    have z0 := fun x7 => S188 0 hd kt nn x7 μo μp (Or.inl rfl) (fun h => absurd h (by decide)) (fun h => absurd h (by decide))
    rcases hb with rfl | rfl
    · simp only [bL_isUndoneSo_164, bL_isUndoneSo_187, cd_tags, cd_things, cd_kept, vl_tags, vl_things, vl_kept, o_iload, o_aload, o_ic, o_lc, o_istore, o_astore, o_iinc, o_bin, o_idiv, o_ineg, o_i2c, o_i2l, o_lcmp, o_if1, o_if2, o_dup, o_dup2, o_getf, o_puti, o_ald, o_iast, o_cast, o_lald, o_last, o_mmin, o_mabs, o_ret, o_vret, o_throw, o_lsw01, o_callS0, o_callS1, o_callS2, o_callS3, o_callS4, o_callS5, o_callV0, o_callV1, o_callV2, o_callV3, o_callV4, o_callV5, o_rd0, o_rd1, o_rd2, o_rd3, o_wr0, o_wr1, o_wr2, o_wr3, o_tr0, o_tr1, o_tr2, o_tr3, o_tr4, o_to1, o_to4, o_cL, o_irem, o_ret2, zcall_no, zok_nil, zok_ref, zok_int, zE, List.map_cons, List.map_nil, List.length_cons, List.length_nil, List.replicate_succ, List.replicate_zero, List.cons_append, List.nil_append, List.append_nil, List.getElem?_cons_zero, List.getElem?_cons_succ, List.set_cons_zero, List.set_cons_succ, Option.toList_some, Option.toList_none, vp_nar_int, znar_b, zb_0, ne_eq, Bool.not_eq_false, Classical.not_not, nI_1, sh1_def, true_and, and_true, Nat.reduceAdd, Nat.reduceSub, Nat.reduceLT, Nat.reduceLeDiff, Value.category, Nat.zero_add, Nat.add_zero, qmu_M, qset_j, List.take_succ_cons, List.take_zero, List.drop_succ_cons, List.drop_zero, List.reverse_cons, List.reverse_nil, sr_def, qex, qix_qob, qix_0, qix_29, qob_f, qob_t, qM_f, qM_t, qset_f, qset_t, i01, i10, not_true_eq_false, not_false_eq_true, false_implies, true_implies, true_or, or_true, forall_const, qrs_nil, qrs_int, qrs_ref, qrs_ra]
      exact z0 _
    · obtain ⟨rfl, hm', hs'⟩ := hg rfl
      have hx' := hxs _ hs'
      have z1 := fun x7 => S188 1 hd kt nn x7 μo μo (Or.inr rfl) (fun _ => ⟨rfl, hm', hs'⟩) (fun _ => hu rfl)
      simp only [bL_isUndoneSo_164, bL_isUndoneSo_187, cd_tags, cd_things, cd_kept, vl_tags, vl_things, vl_kept, o_iload, o_aload, o_ic, o_lc, o_istore, o_astore, o_iinc, o_bin, o_idiv, o_ineg, o_i2c, o_i2l, o_lcmp, o_if1, o_if2, o_dup, o_dup2, o_getf, o_puti, o_ald, o_iast, o_cast, o_lald, o_last, o_mmin, o_mabs, o_ret, o_vret, o_throw, o_lsw01, o_callS0, o_callS1, o_callS2, o_callS3, o_callS4, o_callS5, o_callV0, o_callV1, o_callV2, o_callV3, o_callV4, o_callV5, o_rd0, o_rd1, o_rd2, o_rd3, o_wr0, o_wr1, o_wr2, o_wr3, o_tr0, o_tr1, o_tr2, o_tr3, o_tr4, o_to1, o_to4, o_cL, o_irem, o_ret2, zcall_no, zok_nil, zok_ref, zok_int, zE, List.map_cons, List.map_nil, List.length_cons, List.length_nil, List.replicate_succ, List.replicate_zero, List.cons_append, List.nil_append, List.append_nil, List.getElem?_cons_zero, List.getElem?_cons_succ, List.set_cons_zero, List.set_cons_succ, Option.toList_some, Option.toList_none, vp_nar_int, znar_b, zb_0, ne_eq, Bool.not_eq_false, Classical.not_not, nI_1, sh1_def, true_and, and_true, Nat.reduceAdd, Nat.reduceSub, Nat.reduceLT, Nat.reduceLeDiff, Value.category, Nat.zero_add, Nat.add_zero, qmu_M, qset_j, List.take_succ_cons, List.take_zero, List.drop_succ_cons, List.drop_zero, List.reverse_cons, List.reverse_nil, sr_def, qex, qix_qob, qix_0, qix_29, qob_f, qob_t, qM_f, qM_t, qset_f, qset_t, i01, i10, not_true_eq_false, not_false_eq_true, false_implies, true_implies, true_or, or_true, forall_const, qrs_nil, qrs_int, qrs_ref, qrs_ra]
      exact ⟨cd_hand hx', fun _ => z0 _, fun _ => z1 _⟩
  have S127 : ∀ (bb hd kt nn : Int32) (x7 : Option Value) (μo μp : zMS), (bb = 0 ∨ bb = 1) → (bb = 1 → μo = μp ∧ mOk μo ∧ qSame μ μo) → (bb = 1 → nn ≤ 0 → sr hd y &&& 1 = 0 → (gUndo μo).2.1 = 0) → (bb = 1 → ¬ nn ≤ 0 → (gUndo μo).2.1 = 0 ∧ (sr hd y &&& 1 = 0 → (gUndo (gUndo μo).2).2.1 = 0)) → bL_isUndoneSo_127 Kn [some (.ref 0), some (.ref 29), some (.int x), some (.int y), some (.int k), some (.int hd), some (.int kt), x7, some (.int nn)] [.int bb] (μo, μp, 0, 0) := by
    intro bb hd kt nn x7 μo μp hb hg hu hu2
    have z0 := fun μo μp => S164 0 hd kt nn μo μp (Or.inl rfl) (fun h => absurd h (by decide)) (fun h => absurd h (by decide))
    rcases hb with rfl | rfl
    · simp only [bL_isUndoneSo_127, bL_isUndoneSo_161, bL_isUndoneSo_162, cd_tags, cd_things, cd_kept, vl_tags, vl_things, vl_kept, o_iload, o_aload, o_ic, o_lc, o_istore, o_astore, o_iinc, o_bin, o_idiv, o_ineg, o_i2c, o_i2l, o_lcmp, o_if1, o_if2, o_dup, o_dup2, o_getf, o_puti, o_ald, o_iast, o_cast, o_lald, o_last, o_mmin, o_mabs, o_ret, o_vret, o_throw, o_lsw01, o_callS0, o_callS1, o_callS2, o_callS3, o_callS4, o_callS5, o_callV0, o_callV1, o_callV2, o_callV3, o_callV4, o_callV5, o_rd0, o_rd1, o_rd2, o_rd3, o_wr0, o_wr1, o_wr2, o_wr3, o_tr0, o_tr1, o_tr2, o_tr3, o_tr4, o_to1, o_to4, o_cL, o_irem, o_ret2, zcall_no, zok_nil, zok_ref, zok_int, zE, List.map_cons, List.map_nil, List.length_cons, List.length_nil, List.replicate_succ, List.replicate_zero, List.cons_append, List.nil_append, List.append_nil, List.getElem?_cons_zero, List.getElem?_cons_succ, List.set_cons_zero, List.set_cons_succ, Option.toList_some, Option.toList_none, vp_nar_int, znar_b, zb_0, ne_eq, Bool.not_eq_false, Classical.not_not, nI_1, sh1_def, true_and, and_true, Nat.reduceAdd, Nat.reduceSub, Nat.reduceLT, Nat.reduceLeDiff, Value.category, Nat.zero_add, Nat.add_zero, qmu_M, qset_j, List.take_succ_cons, List.take_zero, List.drop_succ_cons, List.drop_zero, List.reverse_cons, List.reverse_nil, sr_def, qex, qix_qob, qix_0, qix_29, qob_f, qob_t, qM_f, qM_t, qset_f, qset_t, i01, i10, not_true_eq_false, not_false_eq_true, false_implies, true_implies, true_or, or_true, forall_const, qrs_nil, qrs_int, qrs_ref, qrs_ra]
      exact ⟨fun _ => z0 _ _, fun _ => z0 _ _⟩
    · obtain ⟨rfl, hm', hs'⟩ := hg rfl
      simp only [bL_isUndoneSo_127, bL_isUndoneSo_161, bL_isUndoneSo_162, cd_tags, cd_things, cd_kept, vl_tags, vl_things, vl_kept, o_iload, o_aload, o_ic, o_lc, o_istore, o_astore, o_iinc, o_bin, o_idiv, o_ineg, o_i2c, o_i2l, o_lcmp, o_if1, o_if2, o_dup, o_dup2, o_getf, o_puti, o_ald, o_iast, o_cast, o_lald, o_last, o_mmin, o_mabs, o_ret, o_vret, o_throw, o_lsw01, o_callS0, o_callS1, o_callS2, o_callS3, o_callS4, o_callS5, o_callV0, o_callV1, o_callV2, o_callV3, o_callV4, o_callV5, o_rd0, o_rd1, o_rd2, o_rd3, o_wr0, o_wr1, o_wr2, o_wr3, o_tr0, o_tr1, o_tr2, o_tr3, o_tr4, o_to1, o_to4, o_cL, o_irem, o_ret2, zcall_no, zok_nil, zok_ref, zok_int, zE, List.map_cons, List.map_nil, List.length_cons, List.length_nil, List.replicate_succ, List.replicate_zero, List.cons_append, List.nil_append, List.append_nil, List.getElem?_cons_zero, List.getElem?_cons_succ, List.set_cons_zero, List.set_cons_succ, Option.toList_some, Option.toList_none, vp_nar_int, znar_b, zb_0, ne_eq, Bool.not_eq_false, Classical.not_not, nI_1, sh1_def, true_and, and_true, Nat.reduceAdd, Nat.reduceSub, Nat.reduceLT, Nat.reduceLeDiff, Value.category, Nat.zero_add, Nat.add_zero, qmu_M, qset_j, List.take_succ_cons, List.take_zero, List.drop_succ_cons, List.drop_zero, List.reverse_cons, List.reverse_nil, sr_def, qex, qix_qob, qix_0, qix_29, qob_f, qob_t, qM_f, qM_t, qset_f, qset_t, i01, i10, not_true_eq_false, not_false_eq_true, false_implies, true_implies, true_or, or_true, forall_const, qrs_nil, qrs_int, qrs_ref, qrs_ra]
      refine ⟨fun h9 => S164 1 hd kt nn μo μo (Or.inr rfl) (fun _ => ⟨rfl, hm', hs'⟩) (fun _ => hu rfl h9), fun h9 => ?_⟩
      obtain ⟨h8, h7⟩ := hu2 rfl h9
      have z2 := S164 1 hd kt nn (gUndo μo).2 (gUndo μo).2 (Or.inr rfl) (fun _ => ⟨rfl, mOk_undo hm', qs_tr hs' qs_undo⟩) (fun _ => h7)
      repeat' (first | with_reducible exact z0 _ _ | with_reducible exact z2 | with_reducible exact h8 | apply And.intro | intro _)
  have S64 : ∀ (bb kt : Int32) (x7 x8 : Option Value) (μp : zMS), (bb = 0 ∨ bb = 1) → (bb = 1 → μp = (gTag μ x y).2) → bL_isUndoneSo_64 Kn [some (.ref 0), some (.ref 29), some (.int x), some (.int y), some (.int k), some (.int (gHand μ x).1), some (.int kt), x7, x8] [.int bb] ((gTag μ x y).2, μp, 0, 0) := by
    intro bb kt x7 x8 μp hb hg
    have hsT : qSame μ (gTag μ x y).2 := qs_tag
    have hmT : mOk (gTag μ x y).2 := mOk_tag hm
    have h1T := hys _ hsT
    have e1T : mTg (gTag μ x y).2 = nI n := hsT.1.trans e1
    have e3T : mTh (gTag μ x y).2 = nI m := hsT.2.1.trans e3
    have hyb : ∃ j, j < n ∧ y = nI j := (fOk_n (by omega)).mp (by rw [← e1]; exact hy)
    obtain ⟨j, hj, rfl⟩ := hyb
    have hoo : fOk (nI (j + 1) - nI (j + 1) / mTg (gTag μ x (nI j)).2 * mTg (gTag μ x (nI j)).2) (mTg (gTag μ x (nI j)).2) = true := by
      rw [e1T, rem_nI (by omega) (by omega) (by omega)]
      exact (fOk_n (by omega)).mpr ⟨_, Nat.mod_lt _ (by omega), rfl⟩
    have ht0 : ¬ mTg (gTag μ x (nI j)).2 = 0 := fun q => by
      have := nI_ne (a := n) (b := 0) (by omega) (by omega) (e1T.symm.trans q)
      omega
    have hM0 := cd_mass h1T hoo hk
    have hsM : mTg (gMass (gTag μ x (nI j)).2 k (nI j) (nI (j + 1) - nI (j + 1) / mTg (gTag μ x (nI j)).2 * mTg (gTag μ x (nI j)).2)).2 = mTg (gTag μ x (nI j)).2 := qs_mass.1
    obtain ⟨c, hc20, hc, hk0, hk1⟩ := kp_mass h1T hoo hk e3T e4
    have hsMM : qSame μ (gMass (gTag μ x (nI j)).2 k (nI j) (nI (j + 1) - nI (j + 1) / mTg (gTag μ x (nI j)).2 * mTg (gTag μ x (nI j)).2)).2 := qs_tr hsT qs_mass
    have hmM := mOk_mass (k := k) (x := nI j) (y := nI (j + 1) - nI (j + 1) / mTg (gTag μ x (nI j)).2 * mTg (gTag μ x (nI j)).2) hmT
    have z0 := fun nn x7 μo μp => S127 0 (gHand μ x).1 kt nn x7 μo μp (Or.inl rfl) (fun h => absurd h (by decide)) (fun h => absurd h (by decide)) (fun h => absurd h (by decide))
    rcases hb with rfl | rfl
    · simp only [bL_isUndoneSo_64, bL_isUndoneSo_126, cd_tags, cd_things, cd_kept, vl_tags, vl_things, vl_kept, hM0, hsM, hc, o_iload, o_aload, o_ic, o_lc, o_istore, o_astore, o_iinc, o_bin, o_idiv, o_ineg, o_i2c, o_i2l, o_lcmp, o_if1, o_if2, o_dup, o_dup2, o_getf, o_puti, o_ald, o_iast, o_cast, o_lald, o_last, o_mmin, o_mabs, o_ret, o_vret, o_throw, o_lsw01, o_callS0, o_callS1, o_callS2, o_callS3, o_callS4, o_callS5, o_callV0, o_callV1, o_callV2, o_callV3, o_callV4, o_callV5, o_rd0, o_rd1, o_rd2, o_rd3, o_wr0, o_wr1, o_wr2, o_wr3, o_tr0, o_tr1, o_tr2, o_tr3, o_tr4, o_to1, o_to4, o_cL, o_irem, o_ret2, zcall_no, zok_nil, zok_ref, zok_int, zE, List.map_cons, List.map_nil, List.length_cons, List.length_nil, List.replicate_succ, List.replicate_zero, List.cons_append, List.nil_append, List.append_nil, List.getElem?_cons_zero, List.getElem?_cons_succ, List.set_cons_zero, List.set_cons_succ, Option.toList_some, Option.toList_none, vp_nar_int, znar_b, zb_0, ne_eq, Bool.not_eq_false, Classical.not_not, nI_1, sh1_def, true_and, and_true, Nat.reduceAdd, Nat.reduceSub, Nat.reduceLT, Nat.reduceLeDiff, Value.category, Nat.zero_add, Nat.add_zero, qmu_M, qset_j, List.take_succ_cons, List.take_zero, List.drop_succ_cons, List.drop_zero, List.reverse_cons, List.reverse_nil, sr_def, qex, qix_qob, qix_0, qix_29, qob_f, qob_t, qM_f, qM_t, qset_f, qset_t, i01, i10, not_true_eq_false, not_false_eq_true, false_implies, true_implies, true_or, or_true, forall_const, qrs_nil, qrs_int, qrs_ref, qrs_ra]
      exact ⟨ht0, z0 _ _ _ _⟩
    · obtain rfl := hg rfl
      simp only [bL_isUndoneSo_64, bL_isUndoneSo_126, cd_tags, cd_things, cd_kept, vl_tags, vl_things, vl_kept, hM0, hsM, hc, o_iload, o_aload, o_ic, o_lc, o_istore, o_astore, o_iinc, o_bin, o_idiv, o_ineg, o_i2c, o_i2l, o_lcmp, o_if1, o_if2, o_dup, o_dup2, o_getf, o_puti, o_ald, o_iast, o_cast, o_lald, o_last, o_mmin, o_mabs, o_ret, o_vret, o_throw, o_lsw01, o_callS0, o_callS1, o_callS2, o_callS3, o_callS4, o_callS5, o_callV0, o_callV1, o_callV2, o_callV3, o_callV4, o_callV5, o_rd0, o_rd1, o_rd2, o_rd3, o_wr0, o_wr1, o_wr2, o_wr3, o_tr0, o_tr1, o_tr2, o_tr3, o_tr4, o_to1, o_to4, o_cL, o_irem, o_ret2, zcall_no, zok_nil, zok_ref, zok_int, zE, List.map_cons, List.map_nil, List.length_cons, List.length_nil, List.replicate_succ, List.replicate_zero, List.cons_append, List.nil_append, List.append_nil, List.getElem?_cons_zero, List.getElem?_cons_succ, List.set_cons_zero, List.set_cons_succ, Option.toList_some, Option.toList_none, vp_nar_int, znar_b, zb_0, ne_eq, Bool.not_eq_false, Classical.not_not, nI_1, sh1_def, true_and, and_true, Nat.reduceAdd, Nat.reduceSub, Nat.reduceLT, Nat.reduceLeDiff, Value.category, Nat.zero_add, Nat.add_zero, qmu_M, qset_j, List.take_succ_cons, List.take_zero, List.drop_succ_cons, List.drop_zero, List.reverse_cons, List.reverse_nil, sr_def, qex, qix_qob, qix_0, qix_29, qob_f, qob_t, qM_f, qM_t, qset_f, qset_t, i01, i10, not_true_eq_false, not_false_eq_true, false_implies, true_implies, true_or, or_true, forall_const, qrs_nil, qrs_int, qrs_ref, qrs_ra]
      have hbt : sr (gHand μ x).1 (nI j) &&& 1 = 0 → ∃ b, 1 ≤ b ∧ b ≤ 20 ∧ mKp (gTag μ x (nI j)).2 = nI b := fun h => by
        have h9 := bit_f (by omega) h
        rw [hand_v hx] at h9
        exact kp_tag hx hy (by rw [tn_nI (by omega)]; omega) (by rw [tn_nI (by omega)]; exact h9) e7 e8
      have z1 := fun x7 => S127 1 (gHand μ x).1 kt (nI c) x7 _ _ (Or.inr rfl) (fun _ => ⟨rfl, hmM, hsMM⟩) (fun _ h0 hb => by
        have hc0 : c = 0 := by
          have : nI c ≤ nI 0 := h0
          have := (nI_leI (by omega) (by omega)).mp this
          omega
        obtain ⟨b, b1, b2, b3⟩ := hbt hb
        exact cd_undo (kp_n0 ((hk0 hc0).trans b3) b1 b2)) (fun _ h0 => by
        have hc0 : ¬ c = 0 := fun q => h0 (by rw [q]; decide)
        have hm9 := hk1 hc0
        refine ⟨?_, fun hb => ?_⟩
        · obtain ⟨n', m', q', a, d', ⟨⟨-, -, -, -, -, -, a1, a2, -⟩, -⟩, -⟩ := id hmT
          obtain ⟨b, b1, b2, -, b3⟩ := kp_beg a1 a2
          exact cd_undo (kp_n0 (hm9.trans b3) b1 b2)
        · obtain ⟨a, a0, a2, a1⟩ := hbt hb
          obtain ⟨b, b1, b2, b4, b3⟩ := kp_beg a1 a2
          exact cd_undo (kp_n0 (kp_undo b1 b2 (hm9.trans b3)) (by have := b4 a0; omega) (by omega)))
      repeat' (first | with_reducible exact ht0 | with_reducible exact z0 _ _ _ _ | with_reducible exact z1 _ | apply And.intro | intro _)
  simp only [bL_isUndoneSo_0, bL_isUndoneSo_33, bL_isUndoneSo_56, bL_isUndoneSo_63, cd_tags, cd_things, cd_kept, vl_tags, vl_things, vl_kept, cd_tag hx hy, cd_hand hx, o_iload, o_aload, o_ic, o_lc, o_istore, o_astore, o_iinc, o_bin, o_idiv, o_ineg, o_i2c, o_i2l, o_lcmp, o_if1, o_if2, o_dup, o_dup2, o_getf, o_puti, o_ald, o_iast, o_cast, o_lald, o_last, o_mmin, o_mabs, o_ret, o_vret, o_throw, o_lsw01, o_callS0, o_callS1, o_callS2, o_callS3, o_callS4, o_callS5, o_callV0, o_callV1, o_callV2, o_callV3, o_callV4, o_callV5, o_rd0, o_rd1, o_rd2, o_rd3, o_wr0, o_wr1, o_wr2, o_wr3, o_tr0, o_tr1, o_tr2, o_tr3, o_tr4, o_to1, o_to4, o_cL, o_irem, o_ret2, zcall_no, zok_nil, zok_ref, zok_int, zE, List.map_cons, List.map_nil, List.length_cons, List.length_nil, List.replicate_succ, List.replicate_zero, List.cons_append, List.nil_append, List.append_nil, List.getElem?_cons_zero, List.getElem?_cons_succ, List.set_cons_zero, List.set_cons_succ, Option.toList_some, Option.toList_none, vp_nar_int, znar_b, zb_0, ne_eq, Bool.not_eq_false, Classical.not_not, nI_1, sh1_def, true_and, and_true, Nat.reduceAdd, Nat.reduceSub, Nat.reduceLT, Nat.reduceLeDiff, Value.category, Nat.zero_add, Nat.add_zero, qmu_M, qset_j, List.take_succ_cons, List.take_zero, List.drop_succ_cons, List.drop_zero, List.reverse_cons, List.reverse_nil, sr_def, qex, qix_qob, qix_0, qix_29, qob_f, qob_t, qM_f, qM_t, qset_f, qset_t, i01, i10, not_true_eq_false, not_false_eq_true, false_implies, true_implies, true_or, or_true, forall_const, qrs_nil, qrs_int, qrs_ref, qrs_ra]
  have s0 := fun μp => S64 0 (mKp μ) none none μp (Or.inl rfl) (fun h => absurd h (by decide))
  have s1 := S64 1 (mKp μ) none none (gTag μ x y).2 (Or.inr rfl) (fun _ => rfl)
  repeat' (first | with_reducible exact s0 _ | with_reducible exact s1 | apply And.intro | intro _))
end VUNDONE
