section T3
variable {l : Launch} {z0 b N : Nat} {D : va_G} {cA : Nat → ClassId}
theorem bfalse2 {x : Bool} (h : ¬ x = true) : x = false := by cases x <;> simp_all
theorem z_needTag {M : Nat} {Kx : Nat → Prop} {h0 : ZH} {K : ZK ZH} {ls : List (Option Value)} {x : Int32} {r : List Value} {σ : zTS} {f : ZH} (hs : zSh (pT σ f)) (hr : r.length ≤ 4) (hbad : ¬ okI x (sTags σ) → M = 1 ∧ Kx 2 ∧ pT σ f = h0) (hok : okI x (sTags σ) → K ls r (pT σ f)) : zcall M 2 eX5_needTag tX5_needTag Kx h0 K ls [.ref 0, .int x] r (pT σ f) := by
  refine ⟨rfl, hr, fun k hk => ?_, fun hne => ⟨hs, x, rfl, ?_⟩⟩
  · obtain ⟨-, y, e, hk, hb⟩ := hk
    cases e
    subst hk
    rw [gT_pT] at hb
    exact hbad hb
  · by_cases hc : okI x (sTags σ)
    · exact hok hc
    · exact absurd ⟨hs, x, rfl, rfl, by rw [gT_pT]; exact hc⟩ (hne 2)
theorem z_needThing {M : Nat} {Kx : Nat → Prop} {h0 : ZH} {K : ZK ZH} {ls : List (Option Value)} {x : Int32} {r : List Value} {σ : zTS} {f : ZH} (hs : zSh (pT σ f)) (hr : r.length ≤ 4) (hbad : ¬ okI x (sThings σ) → M = 1 ∧ Kx 2 ∧ pT σ f = h0) (hok : okI x (sThings σ) → K ls r (pT σ f)) : zcall M 2 eX5_needThing tX5_needThing Kx h0 K ls [.ref 0, .int x] r (pT σ f) := by
  refine ⟨rfl, hr, fun k hk => ?_, fun hne => ⟨hs, x, rfl, ?_⟩⟩
  · obtain ⟨-, y, e, hk, hb⟩ := hk
    cases e
    subst hk
    rw [gT_pT] at hb
    exact hbad hb
  · by_cases hc : okI x (sThings σ)
    · exact hok hc
    · exact absurd ⟨hs, x, rfl, rfl, by rw [gT_pT]; exact hc⟩ (hne 2)
theorem z_needRequest {M : Nat} {Kx : Nat → Prop} {h0 : ZH} {K : ZK ZH} {ls : List (Option Value)} {x : Int32} {r : List Value} {σ : zTS} {f : ZH} (hs : zSh (pT σ f)) (hr : r.length ≤ 4) (hbad : ¬ okI x (sReqs σ) → M = 1 ∧ Kx 2 ∧ pT σ f = h0) (hok : okI x (sReqs σ) → K ls r (pT σ f)) : zcall M 2 eX5_needRequest tX5_needRequest Kx h0 K ls [.ref 0, .int x] r (pT σ f) := by
  refine ⟨rfl, hr, fun k hk => ?_, fun hne => ⟨hs, x, rfl, ?_⟩⟩
  · obtain ⟨-, y, e, hk, hb⟩ := hk
    cases e
    subst hk
    rw [gT_pT] at hb
    exact hbad hb
  · by_cases hc : okI x (sReqs σ)
    · exact hok hc
    · exact absurd ⟨hs, x, rfl, rfl, by rw [gT_pT]; exact hc⟩ (hne 2)
theorem z_needSets {M : Nat} {Kx : Nat → Prop} {h0 : ZH} {K : ZK ZH} {ls : List (Option Value)} {x y z : Int32} {r : List Value} {σ : zTS} {f : ZH} (hs : zSh (pT σ f)) (hr : r.length ≤ 4) (hbad : fTs3 (sTags σ) x y z = false → M = 1 ∧ Kx 0 ∧ pT σ f = h0) (hok : fTs3 (sTags σ) x y z = true → K ls r (pT σ f)) : zcall M 4 eX5_needSets tX5_needSets Kx h0 K ls [.ref 0, .int x, .int y, .int z] r (pT σ f) := by
  refine ⟨rfl, hr, fun k hk => ?_, fun hne => ⟨hs, x, y, z, rfl, ?_⟩⟩
  · obtain ⟨-, _, _, _, e, hk, hb⟩ := hk
    cases e
    subst hk
    rw [gT_pT] at hb
    exact hbad hb
  · by_cases hc : fTs3 (sTags σ) x y z = true
    · exact hok hc
    · exact absurd ⟨hs, x, y, z, rfl, rfl, by rw [gT_pT]; exact bfalse2 hc⟩ (hne 0)
set_option maxHeartbeats 1000000 in
set_option maxRecDepth 20000 in
theorem mX5_hand (hlt : l.stackTraces = false) : Sem l z0 b N D cA yX5_hand cX5_hand 2 (some .int) 7 103 2 eX5_hand tX5_hand := uX5_hand hlt (mX5_needThing hlt) (fun M a h Kn Kx hok hX hN => by
  obtain ⟨hs, x, rfl⟩ : zSh h ∧ ∃ x, a = [.ref 0, .int x] := z_shape _ hN (fun k hk => ⟨hk.1, by obtain ⟨-, x, e, -⟩ := hk; exact ⟨x, e⟩⟩) (fun hk => ⟨hk.1, by obtain ⟨-, x, e, -⟩ := hk; exact ⟨x, e⟩⟩)
  have hs' := hs
  obtain ⟨σ, f, n, m, q, k0, s, d, rfl, hI⟩ := hs'
  have hI' := hI
  obtain ⟨hn, hn24, hd, hd8, hch, hlen, hR, hH, hq, hq40, hreq⟩ := hI
  have em : tn (sThings σ) = m := by rw [show sThings σ = nI m from hH.1]; exact nI_clamp (by have := hH.2.1; omega)
  have en : tn (sTags σ) = n := by rw [show sTags σ = nI n from hn]; exact nI_clamp (by omega)
  have hm20 := hH.2.1
  have hX2 : ∀ k, (k = 2 ∧ ¬ okI x (sThings σ)) → M = 1 ∧ Kx k := fun k hc => hX k ⟨hs, x, rfl, by rw [gT_pT]; exact hc⟩
  have hN2 : (∀ k, ¬ (k = 2 ∧ ¬ okI x (sThings σ))) → Kn (some (.int (sHand σ (tn x)))) (pT σ f) := fun hne => by
    obtain ⟨-, _, e, hk⟩ := hN (fun k hk => by
      obtain ⟨-, _, e, h9⟩ := hk
      cases e
      rw [gT_pT] at h9
      exact hne k h9)
    cases e
    simp only [gT_pT, pT_pT] at hk
    exact hk
  simp only [bX5_hand_0, pT_0, pT_1, pT_2, pT_3, pT_4, pT_5, pT_6, pT_7, pT_8, pT_9, pT_10, pT_11, pT_12, pT_13, pT_14, pT_15, pT_16, pT_17, pT_18, pT_19, pT_20, pT_21, pT_22, pT_23, pT_24, pT_25, pT_26, pT_27, pT_28, pT_N, pT_R, pT_U, pT_Q, pT_H, pT_V, pT_pT, o_iload, o_aload, o_ic, o_lc, o_istore, o_astore, o_iinc, o_bin, o_idiv, o_ineg, o_i2c, o_i2l, o_lcmp, o_if1, o_if2, o_dup, o_dup2, o_getf, o_puti, o_ald, o_iast, o_cast, o_lald, o_last, o_mmin, o_mabs, o_ret, o_vret, o_throw, o_lsw01, o_callS0, o_callS1, o_callS2, o_callS3, o_callS4, o_callS5, o_callV0, o_callV1, o_callV2, o_callV3, o_callV4, o_callV5, zcall_no, zok_nil, zok_ref, zok_int, zE, List.map_cons, List.map_nil, List.length_cons, List.length_nil, List.replicate_succ, List.replicate_zero, List.cons_append, List.nil_append, List.append_nil, List.getElem?_cons_zero, List.getElem?_cons_succ, List.set_cons_zero, List.set_cons_succ, Option.toList_some, Option.toList_none, vp_nar_int, znar_b, zb_0, ne_eq, Bool.not_eq_false, Classical.not_not, nI_1, sh1_def, true_and, and_true, Nat.reduceAdd, Nat.reduceSub, Nat.reduceLT, Nat.reduceLeDiff, Value.category, Nat.zero_add, Nat.add_zero]
  refine z_needThing hs (by decide) (fun hc => ?_) (fun hc => ?_)
  · obtain ⟨h1, h2⟩ := hX2 2 ⟨rfl, hc⟩
    exact ⟨h1, h2, rfl⟩
  · have hk := hN2 (fun k h9 => h9.2 hc)
    rw [show sThings σ = nI m from hH.1] at hc
    obtain ⟨i, hi, rfl⟩ := (okI_n (by omega)).mp hc
    have hci := nI_clamp (show i < 2 ^ 31 by omega)
    rw [show tn (nI i) = i from hci] at hk
    simp only [bX5_hand_0, pT_0, pT_1, pT_2, pT_3, pT_4, pT_5, pT_6, pT_7, pT_8, pT_9, pT_10, pT_11, pT_12, pT_13, pT_14, pT_15, pT_16, pT_17, pT_18, pT_19, pT_20, pT_21, pT_22, pT_23, pT_24, pT_25, pT_26, pT_27, pT_28, pT_N, pT_R, pT_U, pT_Q, pT_H, pT_V, pT_pT, hci, o_iload, o_aload, o_ic, o_lc, o_istore, o_astore, o_iinc, o_bin, o_idiv, o_ineg, o_i2c, o_i2l, o_lcmp, o_if1, o_if2, o_dup, o_dup2, o_getf, o_puti, o_ald, o_iast, o_cast, o_lald, o_last, o_mmin, o_mabs, o_ret, o_vret, o_throw, o_lsw01, o_callS0, o_callS1, o_callS2, o_callS3, o_callS4, o_callS5, o_callV0, o_callV1, o_callV2, o_callV3, o_callV4, o_callV5, zcall_no, zok_nil, zok_ref, zok_int, zE, List.map_cons, List.map_nil, List.length_cons, List.length_nil, List.replicate_succ, List.replicate_zero, List.cons_append, List.nil_append, List.append_nil, List.getElem?_cons_zero, List.getElem?_cons_succ, List.set_cons_zero, List.set_cons_succ, Option.toList_some, Option.toList_none, vp_nar_int, znar_b, zb_0, ne_eq, Bool.not_eq_false, Classical.not_not, nI_1, sh1_def, true_and, and_true, Nat.reduceAdd, Nat.reduceSub, Nat.reduceLT, Nat.reduceLeDiff, Value.category, Nat.zero_add, Nat.add_zero]
    exact ⟨vpin (by omega) (by omega), hk⟩)
set_option maxHeartbeats 1000000 in
set_option maxRecDepth 20000 in
theorem mX5_standing (hlt : l.stackTraces = false) : Sem l z0 b N D cA yX5_standing cX5_standing 2 (some .int) 7 103 2 eX5_standing tX5_standing := uX5_standing hlt (mX5_needRequest hlt) (fun M a h Kn Kx hok hX hN => by
  obtain ⟨hs, x, rfl⟩ : zSh h ∧ ∃ x, a = [.ref 0, .int x] := z_shape _ hN (fun k hk => ⟨hk.1, by obtain ⟨-, x, e, -⟩ := hk; exact ⟨x, e⟩⟩) (fun hk => ⟨hk.1, by obtain ⟨-, x, e, -⟩ := hk; exact ⟨x, e⟩⟩)
  have hs' := hs
  obtain ⟨σ, f, n, m, q, k0, s, d, rfl, hI⟩ := hs'
  have hI' := hI
  obtain ⟨hn, hn24, hd, hd8, hch, hlen, hR, hH, hq, hq40, hreq⟩ := hI
  have em : tn (sThings σ) = m := by rw [show sThings σ = nI m from hH.1]; exact nI_clamp (by have := hH.2.1; omega)
  have en : tn (sTags σ) = n := by rw [show sTags σ = nI n from hn]; exact nI_clamp (by omega)
  have hm20 := hH.2.1
  have hX2 : ∀ k, (k = 2 ∧ ¬ okI x (sReqs σ)) → M = 1 ∧ Kx k := fun k hc => hX k ⟨hs, x, rfl, by rw [gT_pT]; exact hc⟩
  have hN2 : (∀ k, ¬ (k = 2 ∧ ¬ okI x (sReqs σ))) → Kn (some (.int (qS σ.2.2.2.1 (tn x)))) (pT σ f) := fun hne => by
    obtain ⟨-, _, e, hk⟩ := hN (fun k hk => by
      obtain ⟨-, _, e, h9⟩ := hk
      cases e
      rw [gT_pT] at h9
      exact hne k h9)
    cases e
    simp only [gT_pT, pT_pT] at hk
    exact hk
  simp only [bX5_standing_0, pT_0, pT_1, pT_2, pT_3, pT_4, pT_5, pT_6, pT_7, pT_8, pT_9, pT_10, pT_11, pT_12, pT_13, pT_14, pT_15, pT_16, pT_17, pT_18, pT_19, pT_20, pT_21, pT_22, pT_23, pT_24, pT_25, pT_26, pT_27, pT_28, pT_N, pT_R, pT_U, pT_Q, pT_H, pT_V, pT_pT, o_iload, o_aload, o_ic, o_lc, o_istore, o_astore, o_iinc, o_bin, o_idiv, o_ineg, o_i2c, o_i2l, o_lcmp, o_if1, o_if2, o_dup, o_dup2, o_getf, o_puti, o_ald, o_iast, o_cast, o_lald, o_last, o_mmin, o_mabs, o_ret, o_vret, o_throw, o_lsw01, o_callS0, o_callS1, o_callS2, o_callS3, o_callS4, o_callS5, o_callV0, o_callV1, o_callV2, o_callV3, o_callV4, o_callV5, zcall_no, zok_nil, zok_ref, zok_int, zE, List.map_cons, List.map_nil, List.length_cons, List.length_nil, List.replicate_succ, List.replicate_zero, List.cons_append, List.nil_append, List.append_nil, List.getElem?_cons_zero, List.getElem?_cons_succ, List.set_cons_zero, List.set_cons_succ, Option.toList_some, Option.toList_none, vp_nar_int, znar_b, zb_0, ne_eq, Bool.not_eq_false, Classical.not_not, nI_1, sh1_def, true_and, and_true, Nat.reduceAdd, Nat.reduceSub, Nat.reduceLT, Nat.reduceLeDiff, Value.category, Nat.zero_add, Nat.add_zero]
  refine z_needRequest hs (by decide) (fun hc => ?_) (fun hc => ?_)
  · obtain ⟨h1, h2⟩ := hX2 2 ⟨rfl, hc⟩
    exact ⟨h1, h2, rfl⟩
  · have hk := hN2 (fun k h9 => h9.2 hc)
    rw [show sReqs σ = nI q from hq] at hc
    obtain ⟨i, hi, rfl⟩ := (okI_n (by omega)).mp hc
    have hci := nI_clamp (show i < 2 ^ 31 by omega)
    rw [show tn (nI i) = i from hci] at hk
    simp only [bX5_standing_0, pT_0, pT_1, pT_2, pT_3, pT_4, pT_5, pT_6, pT_7, pT_8, pT_9, pT_10, pT_11, pT_12, pT_13, pT_14, pT_15, pT_16, pT_17, pT_18, pT_19, pT_20, pT_21, pT_22, pT_23, pT_24, pT_25, pT_26, pT_27, pT_28, pT_N, pT_R, pT_U, pT_Q, pT_H, pT_V, pT_pT, hci, o_iload, o_aload, o_ic, o_lc, o_istore, o_astore, o_iinc, o_bin, o_idiv, o_ineg, o_i2c, o_i2l, o_lcmp, o_if1, o_if2, o_dup, o_dup2, o_getf, o_puti, o_ald, o_iast, o_cast, o_lald, o_last, o_mmin, o_mabs, o_ret, o_vret, o_throw, o_lsw01, o_callS0, o_callS1, o_callS2, o_callS3, o_callS4, o_callS5, o_callV0, o_callV1, o_callV2, o_callV3, o_callV4, o_callV5, zcall_no, zok_nil, zok_ref, zok_int, zE, List.map_cons, List.map_nil, List.length_cons, List.length_nil, List.replicate_succ, List.replicate_zero, List.cons_append, List.nil_append, List.append_nil, List.getElem?_cons_zero, List.getElem?_cons_succ, List.set_cons_zero, List.set_cons_succ, Option.toList_some, Option.toList_none, vp_nar_int, znar_b, zb_0, ne_eq, Bool.not_eq_false, Classical.not_not, nI_1, sh1_def, true_and, and_true, Nat.reduceAdd, Nat.reduceSub, Nat.reduceLT, Nat.reduceLeDiff, Value.category, Nat.zero_add, Nat.add_zero]
    exact ⟨vpin (by omega) (by omega), hk⟩)
set_option maxHeartbeats 1000000 in
set_option maxRecDepth 20000 in
theorem mX5_couldPass (hlt : l.stackTraces = false) : Sem l z0 b N D cA yX5_couldPass cX5_couldPass 2 (some .boolean) 7 113 2 eX5_couldPass tX5_couldPass := uX5_couldPass hlt (mX5_needRequest hlt) (mX5_isOpenAndAllowed hlt) (fun M a h Kn Kx hok hX hN => by
  obtain ⟨hs, x, rfl⟩ : zSh h ∧ ∃ x, a = [.ref 0, .int x] := z_shape _ hN (fun k hk => ⟨hk.1, by obtain ⟨-, x, e, -⟩ := hk; exact ⟨x, e⟩⟩) (fun hk => ⟨hk.1, by obtain ⟨-, x, e, -⟩ := hk; exact ⟨x, e⟩⟩)
  have hs' := hs
  obtain ⟨σ, f, n, m, q, k0, s, d, rfl, hI⟩ := hs'
  have hI' := hI
  obtain ⟨hn, hn24, hd, hd8, hch, hlen, hR, hH, hq, hq40, hreq⟩ := hI
  have em : tn (sThings σ) = m := by rw [show sThings σ = nI m from hH.1]; exact nI_clamp (by have := hH.2.1; omega)
  have en : tn (sTags σ) = n := by rw [show sTags σ = nI n from hn]; exact nI_clamp (by omega)
  have hm20 := hH.2.1
  have hX2 : ∀ k, (k = 2 ∧ ¬ okI x (sReqs σ)) → M = 1 ∧ Kx k := fun k hc => hX k ⟨hs, x, rfl, by rw [gT_pT]; exact hc⟩
  have hN2 : (∀ k, ¬ (k = 2 ∧ ¬ okI x (sReqs σ))) → Kn (some (.int (zb (fOa σ (tn x))))) (pT σ f) := fun hne => by
    obtain ⟨-, _, e, hk⟩ := hN (fun k hk => by
      obtain ⟨-, _, e, h9⟩ := hk
      cases e
      rw [gT_pT] at h9
      exact hne k h9)
    cases e
    simp only [gT_pT, pT_pT] at hk
    exact hk
  simp only [bX5_couldPass_0, pT_0, pT_1, pT_2, pT_3, pT_4, pT_5, pT_6, pT_7, pT_8, pT_9, pT_10, pT_11, pT_12, pT_13, pT_14, pT_15, pT_16, pT_17, pT_18, pT_19, pT_20, pT_21, pT_22, pT_23, pT_24, pT_25, pT_26, pT_27, pT_28, pT_N, pT_R, pT_U, pT_Q, pT_H, pT_V, pT_pT, o_iload, o_aload, o_ic, o_lc, o_istore, o_astore, o_iinc, o_bin, o_idiv, o_ineg, o_i2c, o_i2l, o_lcmp, o_if1, o_if2, o_dup, o_dup2, o_getf, o_puti, o_ald, o_iast, o_cast, o_lald, o_last, o_mmin, o_mabs, o_ret, o_vret, o_throw, o_lsw01, o_callS0, o_callS1, o_callS2, o_callS3, o_callS4, o_callS5, o_callV0, o_callV1, o_callV2, o_callV3, o_callV4, o_callV5, zcall_no, zok_nil, zok_ref, zok_int, zE, List.map_cons, List.map_nil, List.length_cons, List.length_nil, List.replicate_succ, List.replicate_zero, List.cons_append, List.nil_append, List.append_nil, List.getElem?_cons_zero, List.getElem?_cons_succ, List.set_cons_zero, List.set_cons_succ, Option.toList_some, Option.toList_none, vp_nar_int, znar_b, zb_0, ne_eq, Bool.not_eq_false, Classical.not_not, nI_1, sh1_def, true_and, and_true, Nat.reduceAdd, Nat.reduceSub, Nat.reduceLT, Nat.reduceLeDiff, Value.category, Nat.zero_add, Nat.add_zero]
  refine z_needRequest hs (by decide) (fun hc => ?_) (fun hc => ?_)
  · obtain ⟨h1, h2⟩ := hX2 2 ⟨rfl, hc⟩
    exact ⟨h1, h2, rfl⟩
  · have hk := hN2 (fun k h9 => h9.2 hc)
    rw [show sReqs σ = nI q from hq] at hc
    obtain ⟨i, hi, rfl⟩ := (okI_n (by omega)).mp hc
    have hci := nI_clamp (show i < 2 ^ 31 by omega)
    rw [show tn (nI i) = i from hci] at hk
    simp only [bX5_couldPass_0, pT_0, pT_1, pT_2, pT_3, pT_4, pT_5, pT_6, pT_7, pT_8, pT_9, pT_10, pT_11, pT_12, pT_13, pT_14, pT_15, pT_16, pT_17, pT_18, pT_19, pT_20, pT_21, pT_22, pT_23, pT_24, pT_25, pT_26, pT_27, pT_28, pT_N, pT_R, pT_U, pT_Q, pT_H, pT_V, pT_pT, hci, o_iload, o_aload, o_ic, o_lc, o_istore, o_astore, o_iinc, o_bin, o_idiv, o_ineg, o_i2c, o_i2l, o_lcmp, o_if1, o_if2, o_dup, o_dup2, o_getf, o_puti, o_ald, o_iast, o_cast, o_lald, o_last, o_mmin, o_mabs, o_ret, o_vret, o_throw, o_lsw01, o_callS0, o_callS1, o_callS2, o_callS3, o_callS4, o_callS5, o_callV0, o_callV1, o_callV2, o_callV3, o_callV4, o_callV5, zcall_no, zok_nil, zok_ref, zok_int, zE, List.map_cons, List.map_nil, List.length_cons, List.length_nil, List.replicate_succ, List.replicate_zero, List.cons_append, List.nil_append, List.append_nil, List.getElem?_cons_zero, List.getElem?_cons_succ, List.set_cons_zero, List.set_cons_succ, Option.toList_some, Option.toList_none, vp_nar_int, znar_b, zb_0, ne_eq, Bool.not_eq_false, Classical.not_not, nI_1, sh1_def, true_and, and_true, Nat.reduceAdd, Nat.reduceSub, Nat.reduceLT, Nat.reduceLeDiff, Value.category, Nat.zero_add, Nat.add_zero]
    refine ⟨σ, f, n, m, q, k0, s, d, i, rfl, rfl, hI', hi, ?_⟩
    simp only [bX5_couldPass_0, pT_0, pT_1, pT_2, pT_3, pT_4, pT_5, pT_6, pT_7, pT_8, pT_9, pT_10, pT_11, pT_12, pT_13, pT_14, pT_15, pT_16, pT_17, pT_18, pT_19, pT_20, pT_21, pT_22, pT_23, pT_24, pT_25, pT_26, pT_27, pT_28, pT_N, pT_R, pT_U, pT_Q, pT_H, pT_V, pT_pT, hci, o_iload, o_aload, o_ic, o_lc, o_istore, o_astore, o_iinc, o_bin, o_idiv, o_ineg, o_i2c, o_i2l, o_lcmp, o_if1, o_if2, o_dup, o_dup2, o_getf, o_puti, o_ald, o_iast, o_cast, o_lald, o_last, o_mmin, o_mabs, o_ret, o_vret, o_throw, o_lsw01, o_callS0, o_callS1, o_callS2, o_callS3, o_callS4, o_callS5, o_callV0, o_callV1, o_callV2, o_callV3, o_callV4, o_callV5, zcall_no, zok_nil, zok_ref, zok_int, zE, List.map_cons, List.map_nil, List.length_cons, List.length_nil, List.replicate_succ, List.replicate_zero, List.cons_append, List.nil_append, List.append_nil, List.getElem?_cons_zero, List.getElem?_cons_succ, List.set_cons_zero, List.set_cons_succ, Option.toList_some, Option.toList_none, vp_nar_int, znar_b, zb_0, ne_eq, Bool.not_eq_false, Classical.not_not, nI_1, sh1_def, true_and, and_true, Nat.reduceAdd, Nat.reduceSub, Nat.reduceLT, Nat.reduceLeDiff, Value.category, Nat.zero_add, Nat.add_zero]
    exact hk)
set_option maxHeartbeats 1000000 in
set_option maxRecDepth 20000 in
theorem mX5_alias (hlt : l.stackTraces = false) : Sem l z0 b N D cA yX5_alias cX5_alias 2 (some .int) 7 103 2 eX5_alias tX5_alias := uX5_alias hlt (mX5_needTag hlt) (fun M a h Kn Kx hok hX hN => by
  obtain ⟨hs, x, rfl⟩ : zSh h ∧ ∃ x, a = [.ref 0, .int x] := z_shape _ hN (fun k hk => ⟨hk.1, by obtain ⟨-, x, e, -⟩ := hk; exact ⟨x, e⟩⟩) (fun hk => ⟨hk.1, by obtain ⟨-, x, e, -⟩ := hk; exact ⟨x, e⟩⟩)
  have hs' := hs
  obtain ⟨σ, f, n, m, q, k0, s, d, rfl, hI⟩ := hs'
  have hI' := hI
  obtain ⟨hn, hn24, hd, hd8, hch, hlen, hR, hH, hq, hq40, hreq⟩ := hI
  have em : tn (sThings σ) = m := by rw [show sThings σ = nI m from hH.1]; exact nI_clamp (by have := hH.2.1; omega)
  have en : tn (sTags σ) = n := by rw [show sTags σ = nI n from hn]; exact nI_clamp (by omega)
  have hm20 := hH.2.1
  have hX2 : ∀ k, (k = 2 ∧ ¬ okI x (sTags σ)) → M = 1 ∧ Kx k := fun k hc => hX k ⟨hs, x, rfl, by rw [gT_pT]; exact hc⟩
  have hN2 : (∀ k, ¬ (k = 2 ∧ ¬ okI x (sTags σ))) → Kn (some (.int (σ.2.1.1 (tn x)))) (pT σ f) := fun hne => by
    obtain ⟨-, _, e, hk⟩ := hN (fun k hk => by
      obtain ⟨-, _, e, h9⟩ := hk
      cases e
      rw [gT_pT] at h9
      exact hne k h9)
    cases e
    simp only [gT_pT, pT_pT] at hk
    exact hk
  simp only [bX5_alias_0, pT_0, pT_1, pT_2, pT_3, pT_4, pT_5, pT_6, pT_7, pT_8, pT_9, pT_10, pT_11, pT_12, pT_13, pT_14, pT_15, pT_16, pT_17, pT_18, pT_19, pT_20, pT_21, pT_22, pT_23, pT_24, pT_25, pT_26, pT_27, pT_28, pT_N, pT_R, pT_U, pT_Q, pT_H, pT_V, pT_pT, o_iload, o_aload, o_ic, o_lc, o_istore, o_astore, o_iinc, o_bin, o_idiv, o_ineg, o_i2c, o_i2l, o_lcmp, o_if1, o_if2, o_dup, o_dup2, o_getf, o_puti, o_ald, o_iast, o_cast, o_lald, o_last, o_mmin, o_mabs, o_ret, o_vret, o_throw, o_lsw01, o_callS0, o_callS1, o_callS2, o_callS3, o_callS4, o_callS5, o_callV0, o_callV1, o_callV2, o_callV3, o_callV4, o_callV5, zcall_no, zok_nil, zok_ref, zok_int, zE, List.map_cons, List.map_nil, List.length_cons, List.length_nil, List.replicate_succ, List.replicate_zero, List.cons_append, List.nil_append, List.append_nil, List.getElem?_cons_zero, List.getElem?_cons_succ, List.set_cons_zero, List.set_cons_succ, Option.toList_some, Option.toList_none, vp_nar_int, znar_b, zb_0, ne_eq, Bool.not_eq_false, Classical.not_not, nI_1, sh1_def, true_and, and_true, Nat.reduceAdd, Nat.reduceSub, Nat.reduceLT, Nat.reduceLeDiff, Value.category, Nat.zero_add, Nat.add_zero]
  refine z_needTag hs (by decide) (fun hc => ?_) (fun hc => ?_)
  · obtain ⟨h1, h2⟩ := hX2 2 ⟨rfl, hc⟩
    exact ⟨h1, h2, rfl⟩
  · have hk := hN2 (fun k h9 => h9.2 hc)
    rw [show sTags σ = nI n from hn] at hc
    obtain ⟨i, hi, rfl⟩ := (okI_n (by omega)).mp hc
    have hci := nI_clamp (show i < 2 ^ 31 by omega)
    rw [show tn (nI i) = i from hci] at hk
    simp only [bX5_alias_0, pT_0, pT_1, pT_2, pT_3, pT_4, pT_5, pT_6, pT_7, pT_8, pT_9, pT_10, pT_11, pT_12, pT_13, pT_14, pT_15, pT_16, pT_17, pT_18, pT_19, pT_20, pT_21, pT_22, pT_23, pT_24, pT_25, pT_26, pT_27, pT_28, pT_N, pT_R, pT_U, pT_Q, pT_H, pT_V, pT_pT, hci, o_iload, o_aload, o_ic, o_lc, o_istore, o_astore, o_iinc, o_bin, o_idiv, o_ineg, o_i2c, o_i2l, o_lcmp, o_if1, o_if2, o_dup, o_dup2, o_getf, o_puti, o_ald, o_iast, o_cast, o_lald, o_last, o_mmin, o_mabs, o_ret, o_vret, o_throw, o_lsw01, o_callS0, o_callS1, o_callS2, o_callS3, o_callS4, o_callS5, o_callV0, o_callV1, o_callV2, o_callV3, o_callV4, o_callV5, zcall_no, zok_nil, zok_ref, zok_int, zE, List.map_cons, List.map_nil, List.length_cons, List.length_nil, List.replicate_succ, List.replicate_zero, List.cons_append, List.nil_append, List.append_nil, List.getElem?_cons_zero, List.getElem?_cons_succ, List.set_cons_zero, List.set_cons_succ, Option.toList_some, Option.toList_none, vp_nar_int, znar_b, zb_0, ne_eq, Bool.not_eq_false, Classical.not_not, nI_1, sh1_def, true_and, and_true, Nat.reduceAdd, Nat.reduceSub, Nat.reduceLT, Nat.reduceLeDiff, Value.category, Nat.zero_add, Nat.add_zero]
    exact ⟨vpin (by omega) (by omega), hk⟩)
set_option maxHeartbeats 1000000 in
set_option maxRecDepth 20000 in
theorem mX5_end (hlt : l.stackTraces = false) : Sem l z0 b N D cA yX5_end cX5_end 2 (some .int) 7 103 2 eX5_end tX5_end := uX5_end hlt (mX5_needTag hlt) (mX4_endOf hlt) (fun M a h Kn Kx hok hX hN => by
  obtain ⟨hs, x, rfl⟩ : zSh h ∧ ∃ x, a = [.ref 0, .int x] := z_shape _ hN (fun k hk => ⟨hk.1, by obtain ⟨-, x, e, -⟩ := hk; exact ⟨x, e⟩⟩) (fun hk => ⟨hk.1, by obtain ⟨-, x, e, -⟩ := hk; exact ⟨x, e⟩⟩)
  have hs' := hs
  obtain ⟨σ, f, n, m, q, k0, s, d, rfl, hI⟩ := hs'
  have hI' := hI
  obtain ⟨hn, hn24, hd, hd8, hch, hlen, hR, hH, hq, hq40, hreq⟩ := hI
  have em : tn (sThings σ) = m := by rw [show sThings σ = nI m from hH.1]; exact nI_clamp (by have := hH.2.1; omega)
  have en : tn (sTags σ) = n := by rw [show sTags σ = nI n from hn]; exact nI_clamp (by omega)
  have hm20 := hH.2.1
  have hX2 : ∀ k, (k = 2 ∧ ¬ okI x (sTags σ)) → M = 1 ∧ Kx k := fun k hc => hX k ⟨hs, x, rfl, by rw [gT_pT]; exact hc⟩
  have hN2 : (∀ k, ¬ (k = 2 ∧ ¬ okI x (sTags σ))) → Kn (some (.int (nI (fE σ.2.1.1 (tn (sTags σ)) (tn (sTags σ)) (tn x))))) (pT σ f) := fun hne => by
    obtain ⟨-, _, e, hk⟩ := hN (fun k hk => by
      obtain ⟨-, _, e, h9⟩ := hk
      cases e
      rw [gT_pT] at h9
      exact hne k h9)
    cases e
    simp only [gT_pT, pT_pT] at hk
    exact hk
  simp only [bX5_end_0, pT_0, pT_1, pT_2, pT_3, pT_4, pT_5, pT_6, pT_7, pT_8, pT_9, pT_10, pT_11, pT_12, pT_13, pT_14, pT_15, pT_16, pT_17, pT_18, pT_19, pT_20, pT_21, pT_22, pT_23, pT_24, pT_25, pT_26, pT_27, pT_28, pT_N, pT_R, pT_U, pT_Q, pT_H, pT_V, pT_pT, o_iload, o_aload, o_ic, o_lc, o_istore, o_astore, o_iinc, o_bin, o_idiv, o_ineg, o_i2c, o_i2l, o_lcmp, o_if1, o_if2, o_dup, o_dup2, o_getf, o_puti, o_ald, o_iast, o_cast, o_lald, o_last, o_mmin, o_mabs, o_ret, o_vret, o_throw, o_lsw01, o_callS0, o_callS1, o_callS2, o_callS3, o_callS4, o_callS5, o_callV0, o_callV1, o_callV2, o_callV3, o_callV4, o_callV5, zcall_no, zok_nil, zok_ref, zok_int, zE, List.map_cons, List.map_nil, List.length_cons, List.length_nil, List.replicate_succ, List.replicate_zero, List.cons_append, List.nil_append, List.append_nil, List.getElem?_cons_zero, List.getElem?_cons_succ, List.set_cons_zero, List.set_cons_succ, Option.toList_some, Option.toList_none, vp_nar_int, znar_b, zb_0, ne_eq, Bool.not_eq_false, Classical.not_not, nI_1, sh1_def, true_and, and_true, Nat.reduceAdd, Nat.reduceSub, Nat.reduceLT, Nat.reduceLeDiff, Value.category, Nat.zero_add, Nat.add_zero]
  refine z_needTag hs (by decide) (fun hc => ?_) (fun hc => ?_)
  · obtain ⟨h1, h2⟩ := hX2 2 ⟨rfl, hc⟩
    exact ⟨h1, h2, rfl⟩
  · have hk := hN2 (fun k h9 => h9.2 hc)
    rw [show sTags σ = nI n from hn] at hc
    obtain ⟨i, hi, rfl⟩ := (okI_n (by omega)).mp hc
    have hci := nI_clamp (show i < 2 ^ 31 by omega)
    rw [show tn (nI i) = i from hci] at hk
    rw [en] at hk
    simp only [bX5_end_0, pT_0, pT_1, pT_2, pT_3, pT_4, pT_5, pT_6, pT_7, pT_8, pT_9, pT_10, pT_11, pT_12, pT_13, pT_14, pT_15, pT_16, pT_17, pT_18, pT_19, pT_20, pT_21, pT_22, pT_23, pT_24, pT_25, pT_26, pT_27, pT_28, pT_N, pT_R, pT_U, pT_Q, pT_H, pT_V, pT_pT, hci, o_iload, o_aload, o_ic, o_lc, o_istore, o_astore, o_iinc, o_bin, o_idiv, o_ineg, o_i2c, o_i2l, o_lcmp, o_if1, o_if2, o_dup, o_dup2, o_getf, o_puti, o_ald, o_iast, o_cast, o_lald, o_last, o_mmin, o_mabs, o_ret, o_vret, o_throw, o_lsw01, o_callS0, o_callS1, o_callS2, o_callS3, o_callS4, o_callS5, o_callV0, o_callV1, o_callV2, o_callV3, o_callV4, o_callV5, zcall_no, zok_nil, zok_ref, zok_int, zE, List.map_cons, List.map_nil, List.length_cons, List.length_nil, List.replicate_succ, List.replicate_zero, List.cons_append, List.nil_append, List.append_nil, List.getElem?_cons_zero, List.getElem?_cons_succ, List.set_cons_zero, List.set_cons_succ, Option.toList_some, Option.toList_none, vp_nar_int, znar_b, zb_0, ne_eq, Bool.not_eq_false, Classical.not_not, nI_1, sh1_def, true_and, and_true, Nat.reduceAdd, Nat.reduceSub, Nat.reduceLT, Nat.reduceLeDiff, Value.category, Nat.zero_add, Nat.add_zero]
    refine ⟨5, σ.2.1, pT σ f, n, i, rfl, pT_Rs.symm, hR, hi, ?_⟩
    simp only [bX5_end_0, pT_0, pT_1, pT_2, pT_3, pT_4, pT_5, pT_6, pT_7, pT_8, pT_9, pT_10, pT_11, pT_12, pT_13, pT_14, pT_15, pT_16, pT_17, pT_18, pT_19, pT_20, pT_21, pT_22, pT_23, pT_24, pT_25, pT_26, pT_27, pT_28, pT_N, pT_R, pT_U, pT_Q, pT_H, pT_V, pT_pT, hci, o_iload, o_aload, o_ic, o_lc, o_istore, o_astore, o_iinc, o_bin, o_idiv, o_ineg, o_i2c, o_i2l, o_lcmp, o_if1, o_if2, o_dup, o_dup2, o_getf, o_puti, o_ald, o_iast, o_cast, o_lald, o_last, o_mmin, o_mabs, o_ret, o_vret, o_throw, o_lsw01, o_callS0, o_callS1, o_callS2, o_callS3, o_callS4, o_callS5, o_callV0, o_callV1, o_callV2, o_callV3, o_callV4, o_callV5, zcall_no, zok_nil, zok_ref, zok_int, zE, List.map_cons, List.map_nil, List.length_cons, List.length_nil, List.replicate_succ, List.replicate_zero, List.cons_append, List.nil_append, List.append_nil, List.getElem?_cons_zero, List.getElem?_cons_succ, List.set_cons_zero, List.set_cons_succ, Option.toList_some, Option.toList_none, vp_nar_int, znar_b, zb_0, ne_eq, Bool.not_eq_false, Classical.not_not, nI_1, sh1_def, true_and, and_true, Nat.reduceAdd, Nat.reduceSub, Nat.reduceLT, Nat.reduceLeDiff, Value.category, Nat.zero_add, Nat.add_zero]
    exact hk)
set_option maxHeartbeats 1000000 in
set_option maxRecDepth 20000 in
theorem mX5_shown (hlt : l.stackTraces = false) : Sem l z0 b N D cA yX5_shown cX5_shown 2 (some .int) 7 103 2 eX5_shown tX5_shown := uX5_shown hlt (mX5_needThing hlt) (mX3_column hlt) (fun M a h Kn Kx hok hX hN => by
  obtain ⟨hs, x, rfl⟩ : zSh h ∧ ∃ x, a = [.ref 0, .int x] := z_shape _ hN (fun k hk => ⟨hk.1, by obtain ⟨-, x, e, -⟩ := hk; exact ⟨x, e⟩⟩) (fun hk => ⟨hk.1, by obtain ⟨-, x, e, -⟩ := hk; exact ⟨x, e⟩⟩)
  have hs' := hs
  obtain ⟨σ, f, n, m, q, k0, s, d, rfl, hI⟩ := hs'
  have hI' := hI
  obtain ⟨hn, hn24, hd, hd8, hch, hlen, hR, hH, hq, hq40, hreq⟩ := hI
  have em : tn (sThings σ) = m := by rw [show sThings σ = nI m from hH.1]; exact nI_clamp (by have := hH.2.1; omega)
  have en : tn (sTags σ) = n := by rw [show sTags σ = nI n from hn]; exact nI_clamp (by omega)
  have hm20 := hH.2.1
  have hX2 : ∀ k, (k = 2 ∧ ¬ okI x (sThings σ)) → M = 1 ∧ Kx k := fun k hc => hX k ⟨hs, x, rfl, by rw [gT_pT]; exact hc⟩
  have hN2 : (∀ k, ¬ (k = 2 ∧ ¬ okI x (sThings σ))) → Kn (some (.int (fCol σ.2.2.2.2.2 (tn x) (tn (sTags σ))))) (pT σ f) := fun hne => by
    obtain ⟨-, _, e, hk⟩ := hN (fun k hk => by
      obtain ⟨-, _, e, h9⟩ := hk
      cases e
      rw [gT_pT] at h9
      exact hne k h9)
    cases e
    simp only [gT_pT, pT_pT] at hk
    exact hk
  simp only [bX5_shown_0, pT_0, pT_1, pT_2, pT_3, pT_4, pT_5, pT_6, pT_7, pT_8, pT_9, pT_10, pT_11, pT_12, pT_13, pT_14, pT_15, pT_16, pT_17, pT_18, pT_19, pT_20, pT_21, pT_22, pT_23, pT_24, pT_25, pT_26, pT_27, pT_28, pT_N, pT_R, pT_U, pT_Q, pT_H, pT_V, pT_pT, o_iload, o_aload, o_ic, o_lc, o_istore, o_astore, o_iinc, o_bin, o_idiv, o_ineg, o_i2c, o_i2l, o_lcmp, o_if1, o_if2, o_dup, o_dup2, o_getf, o_puti, o_ald, o_iast, o_cast, o_lald, o_last, o_mmin, o_mabs, o_ret, o_vret, o_throw, o_lsw01, o_callS0, o_callS1, o_callS2, o_callS3, o_callS4, o_callS5, o_callV0, o_callV1, o_callV2, o_callV3, o_callV4, o_callV5, zcall_no, zok_nil, zok_ref, zok_int, zE, List.map_cons, List.map_nil, List.length_cons, List.length_nil, List.replicate_succ, List.replicate_zero, List.cons_append, List.nil_append, List.append_nil, List.getElem?_cons_zero, List.getElem?_cons_succ, List.set_cons_zero, List.set_cons_succ, Option.toList_some, Option.toList_none, vp_nar_int, znar_b, zb_0, ne_eq, Bool.not_eq_false, Classical.not_not, nI_1, sh1_def, true_and, and_true, Nat.reduceAdd, Nat.reduceSub, Nat.reduceLT, Nat.reduceLeDiff, Value.category, Nat.zero_add, Nat.add_zero]
  refine z_needThing hs (by decide) (fun hc => ?_) (fun hc => ?_)
  · obtain ⟨h1, h2⟩ := hX2 2 ⟨rfl, hc⟩
    exact ⟨h1, h2, rfl⟩
  · have hk := hN2 (fun k h9 => h9.2 hc)
    rw [show sThings σ = nI m from hH.1] at hc
    obtain ⟨i, hi, rfl⟩ := (okI_n (by omega)).mp hc
    have hci := nI_clamp (show i < 2 ^ 31 by omega)
    rw [show tn (nI i) = i from hci] at hk
    rw [en] at hk
    simp only [bX5_shown_0, pT_0, pT_1, pT_2, pT_3, pT_4, pT_5, pT_6, pT_7, pT_8, pT_9, pT_10, pT_11, pT_12, pT_13, pT_14, pT_15, pT_16, pT_17, pT_18, pT_19, pT_20, pT_21, pT_22, pT_23, pT_24, pT_25, pT_26, pT_27, pT_28, pT_N, pT_R, pT_U, pT_Q, pT_H, pT_V, pT_pT, hci, hn, o_iload, o_aload, o_ic, o_lc, o_istore, o_astore, o_iinc, o_bin, o_idiv, o_ineg, o_i2c, o_i2l, o_lcmp, o_if1, o_if2, o_dup, o_dup2, o_getf, o_puti, o_ald, o_iast, o_cast, o_lald, o_last, o_mmin, o_mabs, o_ret, o_vret, o_throw, o_lsw01, o_callS0, o_callS1, o_callS2, o_callS3, o_callS4, o_callS5, o_callV0, o_callV1, o_callV2, o_callV3, o_callV4, o_callV5, zcall_no, zok_nil, zok_ref, zok_int, zE, List.map_cons, List.map_nil, List.length_cons, List.length_nil, List.replicate_succ, List.replicate_zero, List.cons_append, List.nil_append, List.append_nil, List.getElem?_cons_zero, List.getElem?_cons_succ, List.set_cons_zero, List.set_cons_succ, Option.toList_some, Option.toList_none, vp_nar_int, znar_b, zb_0, ne_eq, Bool.not_eq_false, Classical.not_not, nI_1, sh1_def, true_and, and_true, Nat.reduceAdd, Nat.reduceSub, Nat.reduceLT, Nat.reduceLeDiff, Value.category, Nat.zero_add, Nat.add_zero]
    refine ⟨σ.2.2.2.2.2, pT σ f, i, n, rfl, pT_Vs.symm, by omega, hn24, ?_⟩
    simp only [bX5_shown_0, pT_0, pT_1, pT_2, pT_3, pT_4, pT_5, pT_6, pT_7, pT_8, pT_9, pT_10, pT_11, pT_12, pT_13, pT_14, pT_15, pT_16, pT_17, pT_18, pT_19, pT_20, pT_21, pT_22, pT_23, pT_24, pT_25, pT_26, pT_27, pT_28, pT_N, pT_R, pT_U, pT_Q, pT_H, pT_V, pT_pT, hci, o_iload, o_aload, o_ic, o_lc, o_istore, o_astore, o_iinc, o_bin, o_idiv, o_ineg, o_i2c, o_i2l, o_lcmp, o_if1, o_if2, o_dup, o_dup2, o_getf, o_puti, o_ald, o_iast, o_cast, o_lald, o_last, o_mmin, o_mabs, o_ret, o_vret, o_throw, o_lsw01, o_callS0, o_callS1, o_callS2, o_callS3, o_callS4, o_callS5, o_callV0, o_callV1, o_callV2, o_callV3, o_callV4, o_callV5, zcall_no, zok_nil, zok_ref, zok_int, zE, List.map_cons, List.map_nil, List.length_cons, List.length_nil, List.replicate_succ, List.replicate_zero, List.cons_append, List.nil_append, List.append_nil, List.getElem?_cons_zero, List.getElem?_cons_succ, List.set_cons_zero, List.set_cons_succ, Option.toList_some, Option.toList_none, vp_nar_int, znar_b, zb_0, ne_eq, Bool.not_eq_false, Classical.not_not, nI_1, sh1_def, true_and, and_true, Nat.reduceAdd, Nat.reduceSub, Nat.reduceLT, Nat.reduceLeDiff, Value.category, Nat.zero_add, Nat.add_zero]
    exact hk)
set_option maxHeartbeats 1000000 in
set_option maxRecDepth 20000 in
theorem mX5_shownByHand (hlt : l.stackTraces = false) : Sem l z0 b N D cA yX5_shownByHand cX5_shownByHand 2 (some .int) 7 103 2 eX5_shownByHand tX5_shownByHand := uX5_shownByHand hlt (mX5_needThing hlt) (mX4_spread hlt) (fun M a h Kn Kx hok hX hN => by
  obtain ⟨hs, x, rfl⟩ : zSh h ∧ ∃ x, a = [.ref 0, .int x] := z_shape _ hN (fun k hk => ⟨hk.1, by obtain ⟨-, x, e, -⟩ := hk; exact ⟨x, e⟩⟩) (fun hk => ⟨hk.1, by obtain ⟨-, x, e, -⟩ := hk; exact ⟨x, e⟩⟩)
  have hs' := hs
  obtain ⟨σ, f, n, m, q, k0, s, d, rfl, hI⟩ := hs'
  have hI' := hI
  obtain ⟨hn, hn24, hd, hd8, hch, hlen, hR, hH, hq, hq40, hreq⟩ := hI
  have em : tn (sThings σ) = m := by rw [show sThings σ = nI m from hH.1]; exact nI_clamp (by have := hH.2.1; omega)
  have en : tn (sTags σ) = n := by rw [show sTags σ = nI n from hn]; exact nI_clamp (by omega)
  have hm20 := hH.2.1
  have hX2 : ∀ k, (k = 2 ∧ ¬ okI x (sThings σ)) → M = 1 ∧ Kx k := fun k hc => hX k ⟨hs, x, rfl, by rw [gT_pT]; exact hc⟩
  have hN2 : (∀ k, ¬ (k = 2 ∧ ¬ okI x (sThings σ))) → Kn (some (.int (fSp σ.2.1.2.2.1 (tn (sTags σ)) (tn (sTags σ)) (fEnds σ.2.1.1 (tn (sTags σ)) (sHand σ (tn x)) (tn (sTags σ)))))) (pT σ f) := fun hne => by
    obtain ⟨-, _, e, hk⟩ := hN (fun k hk => by
      obtain ⟨-, _, e, h9⟩ := hk
      cases e
      rw [gT_pT] at h9
      exact hne k h9)
    cases e
    simp only [gT_pT, pT_pT] at hk
    exact hk
  simp only [bX5_shownByHand_0, pT_0, pT_1, pT_2, pT_3, pT_4, pT_5, pT_6, pT_7, pT_8, pT_9, pT_10, pT_11, pT_12, pT_13, pT_14, pT_15, pT_16, pT_17, pT_18, pT_19, pT_20, pT_21, pT_22, pT_23, pT_24, pT_25, pT_26, pT_27, pT_28, pT_N, pT_R, pT_U, pT_Q, pT_H, pT_V, pT_pT, o_iload, o_aload, o_ic, o_lc, o_istore, o_astore, o_iinc, o_bin, o_idiv, o_ineg, o_i2c, o_i2l, o_lcmp, o_if1, o_if2, o_dup, o_dup2, o_getf, o_puti, o_ald, o_iast, o_cast, o_lald, o_last, o_mmin, o_mabs, o_ret, o_vret, o_throw, o_lsw01, o_callS0, o_callS1, o_callS2, o_callS3, o_callS4, o_callS5, o_callV0, o_callV1, o_callV2, o_callV3, o_callV4, o_callV5, zcall_no, zok_nil, zok_ref, zok_int, zE, List.map_cons, List.map_nil, List.length_cons, List.length_nil, List.replicate_succ, List.replicate_zero, List.cons_append, List.nil_append, List.append_nil, List.getElem?_cons_zero, List.getElem?_cons_succ, List.set_cons_zero, List.set_cons_succ, Option.toList_some, Option.toList_none, vp_nar_int, znar_b, zb_0, ne_eq, Bool.not_eq_false, Classical.not_not, nI_1, sh1_def, true_and, and_true, Nat.reduceAdd, Nat.reduceSub, Nat.reduceLT, Nat.reduceLeDiff, Value.category, Nat.zero_add, Nat.add_zero]
  refine z_needThing hs (by decide) (fun hc => ?_) (fun hc => ?_)
  · obtain ⟨h1, h2⟩ := hX2 2 ⟨rfl, hc⟩
    exact ⟨h1, h2, rfl⟩
  · have hk := hN2 (fun k h9 => h9.2 hc)
    rw [show sThings σ = nI m from hH.1] at hc
    obtain ⟨i, hi, rfl⟩ := (okI_n (by omega)).mp hc
    have hci := nI_clamp (show i < 2 ^ 31 by omega)
    rw [show tn (nI i) = i from hci] at hk
    rw [en] at hk
    simp only [bX5_shownByHand_0, pT_0, pT_1, pT_2, pT_3, pT_4, pT_5, pT_6, pT_7, pT_8, pT_9, pT_10, pT_11, pT_12, pT_13, pT_14, pT_15, pT_16, pT_17, pT_18, pT_19, pT_20, pT_21, pT_22, pT_23, pT_24, pT_25, pT_26, pT_27, pT_28, pT_N, pT_R, pT_U, pT_Q, pT_H, pT_V, pT_pT, hci, o_iload, o_aload, o_ic, o_lc, o_istore, o_astore, o_iinc, o_bin, o_idiv, o_ineg, o_i2c, o_i2l, o_lcmp, o_if1, o_if2, o_dup, o_dup2, o_getf, o_puti, o_ald, o_iast, o_cast, o_lald, o_last, o_mmin, o_mabs, o_ret, o_vret, o_throw, o_lsw01, o_callS0, o_callS1, o_callS2, o_callS3, o_callS4, o_callS5, o_callV0, o_callV1, o_callV2, o_callV3, o_callV4, o_callV5, zcall_no, zok_nil, zok_ref, zok_int, zE, List.map_cons, List.map_nil, List.length_cons, List.length_nil, List.replicate_succ, List.replicate_zero, List.cons_append, List.nil_append, List.append_nil, List.getElem?_cons_zero, List.getElem?_cons_succ, List.set_cons_zero, List.set_cons_succ, Option.toList_some, Option.toList_none, vp_nar_int, znar_b, zb_0, ne_eq, Bool.not_eq_false, Classical.not_not, nI_1, sh1_def, true_and, and_true, Nat.reduceAdd, Nat.reduceSub, Nat.reduceLT, Nat.reduceLeDiff, Value.category, Nat.zero_add, Nat.add_zero]
    refine ⟨vpin (by omega) (by omega), 5, σ.2.1, pT σ f, n, _, rfl, pT_Rs.symm, hR, ?_⟩
    simp only [bX5_shownByHand_0, pT_0, pT_1, pT_2, pT_3, pT_4, pT_5, pT_6, pT_7, pT_8, pT_9, pT_10, pT_11, pT_12, pT_13, pT_14, pT_15, pT_16, pT_17, pT_18, pT_19, pT_20, pT_21, pT_22, pT_23, pT_24, pT_25, pT_26, pT_27, pT_28, pT_N, pT_R, pT_U, pT_Q, pT_H, pT_V, pT_pT, hci, o_iload, o_aload, o_ic, o_lc, o_istore, o_astore, o_iinc, o_bin, o_idiv, o_ineg, o_i2c, o_i2l, o_lcmp, o_if1, o_if2, o_dup, o_dup2, o_getf, o_puti, o_ald, o_iast, o_cast, o_lald, o_last, o_mmin, o_mabs, o_ret, o_vret, o_throw, o_lsw01, o_callS0, o_callS1, o_callS2, o_callS3, o_callS4, o_callS5, o_callV0, o_callV1, o_callV2, o_callV3, o_callV4, o_callV5, zcall_no, zok_nil, zok_ref, zok_int, zE, List.map_cons, List.map_nil, List.length_cons, List.length_nil, List.replicate_succ, List.replicate_zero, List.cons_append, List.nil_append, List.append_nil, List.getElem?_cons_zero, List.getElem?_cons_succ, List.set_cons_zero, List.set_cons_succ, Option.toList_some, Option.toList_none, vp_nar_int, znar_b, zb_0, ne_eq, Bool.not_eq_false, Classical.not_not, nI_1, sh1_def, true_and, and_true, Nat.reduceAdd, Nat.reduceSub, Nat.reduceLT, Nat.reduceLeDiff, Value.category, Nat.zero_add, Nat.add_zero]
    exact hk)
set_option maxHeartbeats 1000000 in
set_option maxRecDepth 20000 in
theorem mX5_users (hlt : l.stackTraces = false) : Sem l z0 b N D cA yX5_users cX5_users 2 (some .int) 7 103 2 eX5_users tX5_users := uX5_users hlt (mX5_needTag hlt) (mJ6_bitCount_0f7a4 hlt) (fun M a h Kn Kx hok hX hN => by
  obtain ⟨hs, x, rfl⟩ : zSh h ∧ ∃ x, a = [.ref 0, .int x] := z_shape _ hN (fun k hk => ⟨hk.1, by obtain ⟨-, x, e, -⟩ := hk; exact ⟨x, e⟩⟩) (fun hk => ⟨hk.1, by obtain ⟨-, x, e, -⟩ := hk; exact ⟨x, e⟩⟩)
  have hs' := hs
  obtain ⟨σ, f, n, m, q, k0, s, d, rfl, hI⟩ := hs'
  have hI' := hI
  obtain ⟨hn, hn24, hd, hd8, hch, hlen, hR, hH, hq, hq40, hreq⟩ := hI
  have em : tn (sThings σ) = m := by rw [show sThings σ = nI m from hH.1]; exact nI_clamp (by have := hH.2.1; omega)
  have en : tn (sTags σ) = n := by rw [show sTags σ = nI n from hn]; exact nI_clamp (by omega)
  have hm20 := hH.2.1
  have hX2 : ∀ k, (k = 2 ∧ ¬ okI x (sTags σ)) → M = 1 ∧ Kx k := fun k hc => hX k ⟨hs, x, rfl, by rw [gT_pT]; exact hc⟩
  have hN2 : (∀ k, ¬ (k = 2 ∧ ¬ okI x (sTags σ))) → Kn (some (.int (fBc (σ.2.2.2.2.2 (tn x))))) (pT σ f) := fun hne => by
    obtain ⟨-, _, e, hk⟩ := hN (fun k hk => by
      obtain ⟨-, _, e, h9⟩ := hk
      cases e
      rw [gT_pT] at h9
      exact hne k h9)
    cases e
    simp only [gT_pT, pT_pT] at hk
    exact hk
  simp only [bX5_users_0, pT_0, pT_1, pT_2, pT_3, pT_4, pT_5, pT_6, pT_7, pT_8, pT_9, pT_10, pT_11, pT_12, pT_13, pT_14, pT_15, pT_16, pT_17, pT_18, pT_19, pT_20, pT_21, pT_22, pT_23, pT_24, pT_25, pT_26, pT_27, pT_28, pT_N, pT_R, pT_U, pT_Q, pT_H, pT_V, pT_pT, o_iload, o_aload, o_ic, o_lc, o_istore, o_astore, o_iinc, o_bin, o_idiv, o_ineg, o_i2c, o_i2l, o_lcmp, o_if1, o_if2, o_dup, o_dup2, o_getf, o_puti, o_ald, o_iast, o_cast, o_lald, o_last, o_mmin, o_mabs, o_ret, o_vret, o_throw, o_lsw01, o_callS0, o_callS1, o_callS2, o_callS3, o_callS4, o_callS5, o_callV0, o_callV1, o_callV2, o_callV3, o_callV4, o_callV5, zcall_no, zok_nil, zok_ref, zok_int, zE, List.map_cons, List.map_nil, List.length_cons, List.length_nil, List.replicate_succ, List.replicate_zero, List.cons_append, List.nil_append, List.append_nil, List.getElem?_cons_zero, List.getElem?_cons_succ, List.set_cons_zero, List.set_cons_succ, Option.toList_some, Option.toList_none, vp_nar_int, znar_b, zb_0, ne_eq, Bool.not_eq_false, Classical.not_not, nI_1, sh1_def, true_and, and_true, Nat.reduceAdd, Nat.reduceSub, Nat.reduceLT, Nat.reduceLeDiff, Value.category, Nat.zero_add, Nat.add_zero]
  refine z_needTag hs (by decide) (fun hc => ?_) (fun hc => ?_)
  · obtain ⟨h1, h2⟩ := hX2 2 ⟨rfl, hc⟩
    exact ⟨h1, h2, rfl⟩
  · have hk := hN2 (fun k h9 => h9.2 hc)
    rw [show sTags σ = nI n from hn] at hc
    obtain ⟨i, hi, rfl⟩ := (okI_n (by omega)).mp hc
    have hci := nI_clamp (show i < 2 ^ 31 by omega)
    rw [show tn (nI i) = i from hci] at hk
    simp only [bX5_users_0, pT_0, pT_1, pT_2, pT_3, pT_4, pT_5, pT_6, pT_7, pT_8, pT_9, pT_10, pT_11, pT_12, pT_13, pT_14, pT_15, pT_16, pT_17, pT_18, pT_19, pT_20, pT_21, pT_22, pT_23, pT_24, pT_25, pT_26, pT_27, pT_28, pT_N, pT_R, pT_U, pT_Q, pT_H, pT_V, pT_pT, hci, o_iload, o_aload, o_ic, o_lc, o_istore, o_astore, o_iinc, o_bin, o_idiv, o_ineg, o_i2c, o_i2l, o_lcmp, o_if1, o_if2, o_dup, o_dup2, o_getf, o_puti, o_ald, o_iast, o_cast, o_lald, o_last, o_mmin, o_mabs, o_ret, o_vret, o_throw, o_lsw01, o_callS0, o_callS1, o_callS2, o_callS3, o_callS4, o_callS5, o_callV0, o_callV1, o_callV2, o_callV3, o_callV4, o_callV5, zcall_no, zok_nil, zok_ref, zok_int, zE, List.map_cons, List.map_nil, List.length_cons, List.length_nil, List.replicate_succ, List.replicate_zero, List.cons_append, List.nil_append, List.append_nil, List.getElem?_cons_zero, List.getElem?_cons_succ, List.set_cons_zero, List.set_cons_succ, Option.toList_some, Option.toList_none, vp_nar_int, znar_b, zb_0, ne_eq, Bool.not_eq_false, Classical.not_not, nI_1, sh1_def, true_and, and_true, Nat.reduceAdd, Nat.reduceSub, Nat.reduceLT, Nat.reduceLeDiff, Value.category, Nat.zero_add, Nat.add_zero]
    refine ⟨vpin (by omega) (by omega), _, rfl, ?_⟩
    simp only [bX5_users_0, pT_0, pT_1, pT_2, pT_3, pT_4, pT_5, pT_6, pT_7, pT_8, pT_9, pT_10, pT_11, pT_12, pT_13, pT_14, pT_15, pT_16, pT_17, pT_18, pT_19, pT_20, pT_21, pT_22, pT_23, pT_24, pT_25, pT_26, pT_27, pT_28, pT_N, pT_R, pT_U, pT_Q, pT_H, pT_V, pT_pT, hci, o_iload, o_aload, o_ic, o_lc, o_istore, o_astore, o_iinc, o_bin, o_idiv, o_ineg, o_i2c, o_i2l, o_lcmp, o_if1, o_if2, o_dup, o_dup2, o_getf, o_puti, o_ald, o_iast, o_cast, o_lald, o_last, o_mmin, o_mabs, o_ret, o_vret, o_throw, o_lsw01, o_callS0, o_callS1, o_callS2, o_callS3, o_callS4, o_callS5, o_callV0, o_callV1, o_callV2, o_callV3, o_callV4, o_callV5, zcall_no, zok_nil, zok_ref, zok_int, zE, List.map_cons, List.map_nil, List.length_cons, List.length_nil, List.replicate_succ, List.replicate_zero, List.cons_append, List.nil_append, List.append_nil, List.getElem?_cons_zero, List.getElem?_cons_succ, List.set_cons_zero, List.set_cons_succ, Option.toList_some, Option.toList_none, vp_nar_int, znar_b, zb_0, ne_eq, Bool.not_eq_false, Classical.not_not, nI_1, sh1_def, true_and, and_true, Nat.reduceAdd, Nat.reduceSub, Nat.reduceLT, Nat.reduceLeDiff, Value.category, Nat.zero_add, Nat.add_zero]
    exact hk)
set_option maxHeartbeats 1000000 in
set_option maxRecDepth 20000 in
theorem mX5_tags (hlt : l.stackTraces = false) : Sem l z0 b N D cA yX5_tags cX5_tags 1 (some .int) 0 0 1 zno tX5_tags := uX5_tags hlt (fun M a h Kn Kx hok hN => by
  obtain ⟨⟨σ, f, n, m, q, k0, s, d, rfl, hI⟩, rfl, hk⟩ := hN
  rw [gT_pT] at hk
  simp only [bX5_tags_0, pT_0, pT_1, pT_2, pT_3, pT_4, pT_5, pT_6, pT_7, pT_8, pT_9, pT_10, pT_11, pT_12, pT_13, pT_14, pT_15, pT_16, pT_17, pT_18, pT_19, pT_20, pT_21, pT_22, pT_23, pT_24, pT_25, pT_26, pT_27, pT_28, pT_N, pT_R, pT_U, pT_Q, pT_H, pT_V, pT_pT, o_iload, o_aload, o_ic, o_lc, o_istore, o_astore, o_iinc, o_bin, o_idiv, o_ineg, o_i2c, o_i2l, o_lcmp, o_if1, o_if2, o_dup, o_dup2, o_getf, o_puti, o_ald, o_iast, o_cast, o_lald, o_last, o_mmin, o_mabs, o_ret, o_vret, o_throw, o_lsw01, o_callS0, o_callS1, o_callS2, o_callS3, o_callS4, o_callS5, o_callV0, o_callV1, o_callV2, o_callV3, o_callV4, o_callV5, zcall_no, zok_nil, zok_ref, zok_int, zE, List.map_cons, List.map_nil, List.length_cons, List.length_nil, List.replicate_succ, List.replicate_zero, List.cons_append, List.nil_append, List.append_nil, List.getElem?_cons_zero, List.getElem?_cons_succ, List.set_cons_zero, List.set_cons_succ, Option.toList_some, Option.toList_none, vp_nar_int, znar_b, zb_0, ne_eq, Bool.not_eq_false, Classical.not_not, nI_1, sh1_def, true_and, and_true, Nat.reduceAdd, Nat.reduceSub, Nat.reduceLT, Nat.reduceLeDiff, Value.category, Nat.zero_add, Nat.add_zero]
  exact hk)
set_option maxHeartbeats 1000000 in
set_option maxRecDepth 20000 in
theorem mX5_things (hlt : l.stackTraces = false) : Sem l z0 b N D cA yX5_things cX5_things 1 (some .int) 0 0 1 zno tX5_things := uX5_things hlt (fun M a h Kn Kx hok hN => by
  obtain ⟨⟨σ, f, n, m, q, k0, s, d, rfl, hI⟩, rfl, hk⟩ := hN
  rw [gT_pT] at hk
  simp only [bX5_things_0, pT_0, pT_1, pT_2, pT_3, pT_4, pT_5, pT_6, pT_7, pT_8, pT_9, pT_10, pT_11, pT_12, pT_13, pT_14, pT_15, pT_16, pT_17, pT_18, pT_19, pT_20, pT_21, pT_22, pT_23, pT_24, pT_25, pT_26, pT_27, pT_28, pT_N, pT_R, pT_U, pT_Q, pT_H, pT_V, pT_pT, o_iload, o_aload, o_ic, o_lc, o_istore, o_astore, o_iinc, o_bin, o_idiv, o_ineg, o_i2c, o_i2l, o_lcmp, o_if1, o_if2, o_dup, o_dup2, o_getf, o_puti, o_ald, o_iast, o_cast, o_lald, o_last, o_mmin, o_mabs, o_ret, o_vret, o_throw, o_lsw01, o_callS0, o_callS1, o_callS2, o_callS3, o_callS4, o_callS5, o_callV0, o_callV1, o_callV2, o_callV3, o_callV4, o_callV5, zcall_no, zok_nil, zok_ref, zok_int, zE, List.map_cons, List.map_nil, List.length_cons, List.length_nil, List.replicate_succ, List.replicate_zero, List.cons_append, List.nil_append, List.append_nil, List.getElem?_cons_zero, List.getElem?_cons_succ, List.set_cons_zero, List.set_cons_succ, Option.toList_some, Option.toList_none, vp_nar_int, znar_b, zb_0, ne_eq, Bool.not_eq_false, Classical.not_not, nI_1, sh1_def, true_and, and_true, Nat.reduceAdd, Nat.reduceSub, Nat.reduceLT, Nat.reduceLeDiff, Value.category, Nat.zero_add, Nat.add_zero]
  exact hk)
set_option maxHeartbeats 1000000 in
set_option maxRecDepth 20000 in
theorem mX5_kept (hlt : l.stackTraces = false) : Sem l z0 b N D cA yX5_kept cX5_kept 1 (some .int) 0 0 1 zno tX5_kept := uX5_kept hlt (fun M a h Kn Kx hok hN => by
  obtain ⟨⟨σ, f, n, m, q, k0, s, d, rfl, hI⟩, rfl, hk⟩ := hN
  rw [gT_pT] at hk
  simp only [bX5_kept_0, pT_0, pT_1, pT_2, pT_3, pT_4, pT_5, pT_6, pT_7, pT_8, pT_9, pT_10, pT_11, pT_12, pT_13, pT_14, pT_15, pT_16, pT_17, pT_18, pT_19, pT_20, pT_21, pT_22, pT_23, pT_24, pT_25, pT_26, pT_27, pT_28, pT_N, pT_R, pT_U, pT_Q, pT_H, pT_V, pT_pT, o_iload, o_aload, o_ic, o_lc, o_istore, o_astore, o_iinc, o_bin, o_idiv, o_ineg, o_i2c, o_i2l, o_lcmp, o_if1, o_if2, o_dup, o_dup2, o_getf, o_puti, o_ald, o_iast, o_cast, o_lald, o_last, o_mmin, o_mabs, o_ret, o_vret, o_throw, o_lsw01, o_callS0, o_callS1, o_callS2, o_callS3, o_callS4, o_callS5, o_callV0, o_callV1, o_callV2, o_callV3, o_callV4, o_callV5, zcall_no, zok_nil, zok_ref, zok_int, zE, List.map_cons, List.map_nil, List.length_cons, List.length_nil, List.replicate_succ, List.replicate_zero, List.cons_append, List.nil_append, List.append_nil, List.getElem?_cons_zero, List.getElem?_cons_succ, List.set_cons_zero, List.set_cons_succ, Option.toList_some, Option.toList_none, vp_nar_int, znar_b, zb_0, ne_eq, Bool.not_eq_false, Classical.not_not, nI_1, sh1_def, true_and, and_true, Nat.reduceAdd, Nat.reduceSub, Nat.reduceLT, Nat.reduceLeDiff, Value.category, Nat.zero_add, Nat.add_zero]
  exact hk)
set_option maxHeartbeats 1000000 in
set_option maxRecDepth 20000 in
theorem mX5_implies (hlt : l.stackTraces = false) : Sem l z0 b N D cA yX5_implies cX5_implies 3 (some .boolean) 7 103 3 eX5_implies tX5_implies := uX5_implies hlt (mX5_needTag hlt) (mX5_has hlt) (fun M a h Kn Kx hok hX hN => by
  obtain ⟨hs, x, y, rfl⟩ : zSh h ∧ ∃ x y, a = [.ref 0, .int x, .int y] := z_shape _ hN (fun k hk => ⟨hk.1, by obtain ⟨-, x, y, e, -⟩ := hk; exact ⟨x, y, e⟩⟩) (fun hk => ⟨hk.1, by obtain ⟨-, x, y, e, -⟩ := hk; exact ⟨x, y, e⟩⟩)
  have hs' := hs
  obtain ⟨σ, f, n, m, q, k0, s, d, rfl, hI⟩ := hs'
  have hI' := hI
  obtain ⟨hn, hn24, hd, hd8, hch, hlen, hR, hH, hq, hq40, hreq⟩ := hI
  have em : tn (sThings σ) = m := by rw [show sThings σ = nI m from hH.1]; exact nI_clamp (by have := hH.2.1; omega)
  have en : tn (sTags σ) = n := by rw [show sTags σ = nI n from hn]; exact nI_clamp (by omega)
  have hm20 := hH.2.1
  have hX2 : ∀ k, (k = 2 ∧ (¬ okI x (sTags σ) ∨ ¬ okI y (sTags σ))) → M = 1 ∧ Kx k := fun k hc => hX k ⟨hs, x, y, rfl, by rw [gT_pT]; exact hc⟩
  have hN2 : (∀ k, ¬ (k = 2 ∧ (¬ okI x (sTags σ) ∨ ¬ okI y (sTags σ)))) → Kn (some (.int (zb (bt (σ.2.1.2.1 (tn x)) (tn y))))) (pT σ f) := fun hne => by
    obtain ⟨-, _, _, e, hk⟩ := hN (fun k hk => by
      obtain ⟨-, _, _, e, h9⟩ := hk
      cases e
      rw [gT_pT] at h9
      exact hne k h9)
    cases e
    simp only [gT_pT, pT_pT] at hk
    exact hk
  simp only [bX5_implies_0, pT_0, pT_1, pT_2, pT_3, pT_4, pT_5, pT_6, pT_7, pT_8, pT_9, pT_10, pT_11, pT_12, pT_13, pT_14, pT_15, pT_16, pT_17, pT_18, pT_19, pT_20, pT_21, pT_22, pT_23, pT_24, pT_25, pT_26, pT_27, pT_28, pT_N, pT_R, pT_U, pT_Q, pT_H, pT_V, pT_pT, o_iload, o_aload, o_ic, o_lc, o_istore, o_astore, o_iinc, o_bin, o_idiv, o_ineg, o_i2c, o_i2l, o_lcmp, o_if1, o_if2, o_dup, o_dup2, o_getf, o_puti, o_ald, o_iast, o_cast, o_lald, o_last, o_mmin, o_mabs, o_ret, o_vret, o_throw, o_lsw01, o_callS0, o_callS1, o_callS2, o_callS3, o_callS4, o_callS5, o_callV0, o_callV1, o_callV2, o_callV3, o_callV4, o_callV5, zcall_no, zok_nil, zok_ref, zok_int, zE, List.map_cons, List.map_nil, List.length_cons, List.length_nil, List.replicate_succ, List.replicate_zero, List.cons_append, List.nil_append, List.append_nil, List.getElem?_cons_zero, List.getElem?_cons_succ, List.set_cons_zero, List.set_cons_succ, Option.toList_some, Option.toList_none, vp_nar_int, znar_b, zb_0, ne_eq, Bool.not_eq_false, Classical.not_not, nI_1, sh1_def, true_and, and_true, Nat.reduceAdd, Nat.reduceSub, Nat.reduceLT, Nat.reduceLeDiff, Value.category, Nat.zero_add, Nat.add_zero]
  refine z_needTag hs (by decide) (fun hc => ?_) (fun hc => ?_)
  · obtain ⟨h1, h2⟩ := hX2 2 ⟨rfl, Or.inl hc⟩
    exact ⟨h1, h2, rfl⟩
  · simp only [bX5_implies_0, pT_0, pT_1, pT_2, pT_3, pT_4, pT_5, pT_6, pT_7, pT_8, pT_9, pT_10, pT_11, pT_12, pT_13, pT_14, pT_15, pT_16, pT_17, pT_18, pT_19, pT_20, pT_21, pT_22, pT_23, pT_24, pT_25, pT_26, pT_27, pT_28, pT_N, pT_R, pT_U, pT_Q, pT_H, pT_V, pT_pT, o_iload, o_aload, o_ic, o_lc, o_istore, o_astore, o_iinc, o_bin, o_idiv, o_ineg, o_i2c, o_i2l, o_lcmp, o_if1, o_if2, o_dup, o_dup2, o_getf, o_puti, o_ald, o_iast, o_cast, o_lald, o_last, o_mmin, o_mabs, o_ret, o_vret, o_throw, o_lsw01, o_callS0, o_callS1, o_callS2, o_callS3, o_callS4, o_callS5, o_callV0, o_callV1, o_callV2, o_callV3, o_callV4, o_callV5, zcall_no, zok_nil, zok_ref, zok_int, zE, List.map_cons, List.map_nil, List.length_cons, List.length_nil, List.replicate_succ, List.replicate_zero, List.cons_append, List.nil_append, List.append_nil, List.getElem?_cons_zero, List.getElem?_cons_succ, List.set_cons_zero, List.set_cons_succ, Option.toList_some, Option.toList_none, vp_nar_int, znar_b, zb_0, ne_eq, Bool.not_eq_false, Classical.not_not, nI_1, sh1_def, true_and, and_true, Nat.reduceAdd, Nat.reduceSub, Nat.reduceLT, Nat.reduceLeDiff, Value.category, Nat.zero_add, Nat.add_zero]
    refine z_needTag hs (by decide) (fun hc2 => ?_) (fun hc2 => ?_)
    · obtain ⟨h1, h2⟩ := hX2 2 ⟨rfl, Or.inr hc2⟩
      exact ⟨h1, h2, rfl⟩
    · have hk := hN2 (fun k h9 => h9.2.elim (fun h => h hc) (fun h => h hc2))
      rw [show sTags σ = nI n from hn] at hc
      rw [show sTags σ = nI n from hn] at hc2
      obtain ⟨i, hi, rfl⟩ := (okI_n (by omega)).mp hc
      obtain ⟨j, hj, rfl⟩ := (okI_n (by omega)).mp hc2
      have hci := nI_clamp (show i < 2 ^ 31 by omega)
      have hcj := nI_clamp (show j < 2 ^ 31 by omega)
      rw [show tn (nI i) = i from hci, show tn (nI j) = j from hcj] at hk
      simp only [bX5_implies_0, pT_0, pT_1, pT_2, pT_3, pT_4, pT_5, pT_6, pT_7, pT_8, pT_9, pT_10, pT_11, pT_12, pT_13, pT_14, pT_15, pT_16, pT_17, pT_18, pT_19, pT_20, pT_21, pT_22, pT_23, pT_24, pT_25, pT_26, pT_27, pT_28, pT_N, pT_R, pT_U, pT_Q, pT_H, pT_V, pT_pT, hci, o_iload, o_aload, o_ic, o_lc, o_istore, o_astore, o_iinc, o_bin, o_idiv, o_ineg, o_i2c, o_i2l, o_lcmp, o_if1, o_if2, o_dup, o_dup2, o_getf, o_puti, o_ald, o_iast, o_cast, o_lald, o_last, o_mmin, o_mabs, o_ret, o_vret, o_throw, o_lsw01, o_callS0, o_callS1, o_callS2, o_callS3, o_callS4, o_callS5, o_callV0, o_callV1, o_callV2, o_callV3, o_callV4, o_callV5, zcall_no, zok_nil, zok_ref, zok_int, zE, List.map_cons, List.map_nil, List.length_cons, List.length_nil, List.replicate_succ, List.replicate_zero, List.cons_append, List.nil_append, List.append_nil, List.getElem?_cons_zero, List.getElem?_cons_succ, List.set_cons_zero, List.set_cons_succ, Option.toList_some, Option.toList_none, vp_nar_int, znar_b, zb_0, ne_eq, Bool.not_eq_false, Classical.not_not, nI_1, sh1_def, true_and, and_true, Nat.reduceAdd, Nat.reduceSub, Nat.reduceLT, Nat.reduceLeDiff, Value.category, Nat.zero_add, Nat.add_zero]
      refine ⟨vpin (by omega) (by omega), _, _, rfl, by omega, ?_⟩
      simp only [bX5_implies_0, pT_0, pT_1, pT_2, pT_3, pT_4, pT_5, pT_6, pT_7, pT_8, pT_9, pT_10, pT_11, pT_12, pT_13, pT_14, pT_15, pT_16, pT_17, pT_18, pT_19, pT_20, pT_21, pT_22, pT_23, pT_24, pT_25, pT_26, pT_27, pT_28, pT_N, pT_R, pT_U, pT_Q, pT_H, pT_V, pT_pT, o_iload, o_aload, o_ic, o_lc, o_istore, o_astore, o_iinc, o_bin, o_idiv, o_ineg, o_i2c, o_i2l, o_lcmp, o_if1, o_if2, o_dup, o_dup2, o_getf, o_puti, o_ald, o_iast, o_cast, o_lald, o_last, o_mmin, o_mabs, o_ret, o_vret, o_throw, o_lsw01, o_callS0, o_callS1, o_callS2, o_callS3, o_callS4, o_callS5, o_callV0, o_callV1, o_callV2, o_callV3, o_callV4, o_callV5, zcall_no, zok_nil, zok_ref, zok_int, zE, List.map_cons, List.map_nil, List.length_cons, List.length_nil, List.replicate_succ, List.replicate_zero, List.cons_append, List.nil_append, List.append_nil, List.getElem?_cons_zero, List.getElem?_cons_succ, List.set_cons_zero, List.set_cons_succ, Option.toList_some, Option.toList_none, vp_nar_int, znar_b, zb_0, ne_eq, Bool.not_eq_false, Classical.not_not, nI_1, sh1_def, true_and, and_true, Nat.reduceAdd, Nat.reduceSub, Nat.reduceLT, Nat.reduceLeDiff, Value.category, Nat.zero_add, Nat.add_zero]
      exact hk)
set_option maxHeartbeats 1000000 in
set_option maxRecDepth 20000 in
theorem mX5_reason (hlt : l.stackTraces = false) : Sem l z0 b N D cA yX5_reason cX5_reason 3 (some .int) 7 103 3 eX5_reason tX5_reason := uX5_reason hlt (mX5_needThing hlt) (mX5_needTag hlt) (mX4_nearest hlt) (fun M a h Kn Kx hok hX hN => by
  obtain ⟨hs, x, y, rfl⟩ : zSh h ∧ ∃ x y, a = [.ref 0, .int x, .int y] := z_shape _ hN (fun k hk => ⟨hk.1, by obtain ⟨-, x, y, e, -⟩ := hk; exact ⟨x, y, e⟩⟩) (fun hk => ⟨hk.1, by obtain ⟨-, x, y, e, -⟩ := hk; exact ⟨x, y, e⟩⟩)
  have hs' := hs
  obtain ⟨σ, f, n, m, q, k0, s, d, rfl, hI⟩ := hs'
  have hI' := hI
  obtain ⟨hn, hn24, hd, hd8, hch, hlen, hR, hH, hq, hq40, hreq⟩ := hI
  have em : tn (sThings σ) = m := by rw [show sThings σ = nI m from hH.1]; exact nI_clamp (by have := hH.2.1; omega)
  have en : tn (sTags σ) = n := by rw [show sTags σ = nI n from hn]; exact nI_clamp (by omega)
  have hm20 := hH.2.1
  have hX2 : ∀ k, (k = 2 ∧ (¬ okI x (sThings σ) ∨ ¬ okI y (sTags σ))) → M = 1 ∧ Kx k := fun k hc => hX k ⟨hs, x, y, rfl, by rw [gT_pT]; exact hc⟩
  have hN2 : (∀ k, ¬ (k = 2 ∧ (¬ okI x (sThings σ) ∨ ¬ okI y (sTags σ)))) → Kn (some (.int (fNear σ.2.1.1 σ.2.1.2.2.1 (tn (sTags σ)) (sHand σ (tn x)) (tn (sTags σ)) 0 (sh1 (tn y))))) (pT σ f) := fun hne => by
    obtain ⟨-, _, _, e, hk⟩ := hN (fun k hk => by
      obtain ⟨-, _, _, e, h9⟩ := hk
      cases e
      rw [gT_pT] at h9
      exact hne k h9)
    cases e
    simp only [gT_pT, pT_pT] at hk
    exact hk
  simp only [bX5_reason_0, pT_0, pT_1, pT_2, pT_3, pT_4, pT_5, pT_6, pT_7, pT_8, pT_9, pT_10, pT_11, pT_12, pT_13, pT_14, pT_15, pT_16, pT_17, pT_18, pT_19, pT_20, pT_21, pT_22, pT_23, pT_24, pT_25, pT_26, pT_27, pT_28, pT_N, pT_R, pT_U, pT_Q, pT_H, pT_V, pT_pT, o_iload, o_aload, o_ic, o_lc, o_istore, o_astore, o_iinc, o_bin, o_idiv, o_ineg, o_i2c, o_i2l, o_lcmp, o_if1, o_if2, o_dup, o_dup2, o_getf, o_puti, o_ald, o_iast, o_cast, o_lald, o_last, o_mmin, o_mabs, o_ret, o_vret, o_throw, o_lsw01, o_callS0, o_callS1, o_callS2, o_callS3, o_callS4, o_callS5, o_callV0, o_callV1, o_callV2, o_callV3, o_callV4, o_callV5, zcall_no, zok_nil, zok_ref, zok_int, zE, List.map_cons, List.map_nil, List.length_cons, List.length_nil, List.replicate_succ, List.replicate_zero, List.cons_append, List.nil_append, List.append_nil, List.getElem?_cons_zero, List.getElem?_cons_succ, List.set_cons_zero, List.set_cons_succ, Option.toList_some, Option.toList_none, vp_nar_int, znar_b, zb_0, ne_eq, Bool.not_eq_false, Classical.not_not, nI_1, sh1_def, true_and, and_true, Nat.reduceAdd, Nat.reduceSub, Nat.reduceLT, Nat.reduceLeDiff, Value.category, Nat.zero_add, Nat.add_zero]
  refine z_needThing hs (by decide) (fun hc => ?_) (fun hc => ?_)
  · obtain ⟨h1, h2⟩ := hX2 2 ⟨rfl, Or.inl hc⟩
    exact ⟨h1, h2, rfl⟩
  · simp only [bX5_reason_0, pT_0, pT_1, pT_2, pT_3, pT_4, pT_5, pT_6, pT_7, pT_8, pT_9, pT_10, pT_11, pT_12, pT_13, pT_14, pT_15, pT_16, pT_17, pT_18, pT_19, pT_20, pT_21, pT_22, pT_23, pT_24, pT_25, pT_26, pT_27, pT_28, pT_N, pT_R, pT_U, pT_Q, pT_H, pT_V, pT_pT, o_iload, o_aload, o_ic, o_lc, o_istore, o_astore, o_iinc, o_bin, o_idiv, o_ineg, o_i2c, o_i2l, o_lcmp, o_if1, o_if2, o_dup, o_dup2, o_getf, o_puti, o_ald, o_iast, o_cast, o_lald, o_last, o_mmin, o_mabs, o_ret, o_vret, o_throw, o_lsw01, o_callS0, o_callS1, o_callS2, o_callS3, o_callS4, o_callS5, o_callV0, o_callV1, o_callV2, o_callV3, o_callV4, o_callV5, zcall_no, zok_nil, zok_ref, zok_int, zE, List.map_cons, List.map_nil, List.length_cons, List.length_nil, List.replicate_succ, List.replicate_zero, List.cons_append, List.nil_append, List.append_nil, List.getElem?_cons_zero, List.getElem?_cons_succ, List.set_cons_zero, List.set_cons_succ, Option.toList_some, Option.toList_none, vp_nar_int, znar_b, zb_0, ne_eq, Bool.not_eq_false, Classical.not_not, nI_1, sh1_def, true_and, and_true, Nat.reduceAdd, Nat.reduceSub, Nat.reduceLT, Nat.reduceLeDiff, Value.category, Nat.zero_add, Nat.add_zero]
    refine z_needTag hs (by decide) (fun hc2 => ?_) (fun hc2 => ?_)
    · obtain ⟨h1, h2⟩ := hX2 2 ⟨rfl, Or.inr hc2⟩
      exact ⟨h1, h2, rfl⟩
    · have hk := hN2 (fun k h9 => h9.2.elim (fun h => h hc) (fun h => h hc2))
      rw [show sThings σ = nI m from hH.1] at hc
      rw [show sTags σ = nI n from hn] at hc2
      obtain ⟨i, hi, rfl⟩ := (okI_n (by omega)).mp hc
      obtain ⟨j, hj, rfl⟩ := (okI_n (by omega)).mp hc2
      have hci := nI_clamp (show i < 2 ^ 31 by omega)
      have hcj := nI_clamp (show j < 2 ^ 31 by omega)
      rw [show tn (nI i) = i from hci, show tn (nI j) = j from hcj, en] at hk
      simp only [bX5_reason_0, pT_0, pT_1, pT_2, pT_3, pT_4, pT_5, pT_6, pT_7, pT_8, pT_9, pT_10, pT_11, pT_12, pT_13, pT_14, pT_15, pT_16, pT_17, pT_18, pT_19, pT_20, pT_21, pT_22, pT_23, pT_24, pT_25, pT_26, pT_27, pT_28, pT_N, pT_R, pT_U, pT_Q, pT_H, pT_V, pT_pT, hci, o_iload, o_aload, o_ic, o_lc, o_istore, o_astore, o_iinc, o_bin, o_idiv, o_ineg, o_i2c, o_i2l, o_lcmp, o_if1, o_if2, o_dup, o_dup2, o_getf, o_puti, o_ald, o_iast, o_cast, o_lald, o_last, o_mmin, o_mabs, o_ret, o_vret, o_throw, o_lsw01, o_callS0, o_callS1, o_callS2, o_callS3, o_callS4, o_callS5, o_callV0, o_callV1, o_callV2, o_callV3, o_callV4, o_callV5, zcall_no, zok_nil, zok_ref, zok_int, zE, List.map_cons, List.map_nil, List.length_cons, List.length_nil, List.replicate_succ, List.replicate_zero, List.cons_append, List.nil_append, List.append_nil, List.getElem?_cons_zero, List.getElem?_cons_succ, List.set_cons_zero, List.set_cons_succ, Option.toList_some, Option.toList_none, vp_nar_int, znar_b, zb_0, ne_eq, Bool.not_eq_false, Classical.not_not, nI_1, sh1_def, true_and, and_true, Nat.reduceAdd, Nat.reduceSub, Nat.reduceLT, Nat.reduceLeDiff, Value.category, Nat.zero_add, Nat.add_zero]
      refine ⟨vpin (by omega) (by omega), 5, σ.2.1, pT σ f, n, j, _, rfl, pT_Rs.symm, hR, hj, ?_⟩
      simp only [bX5_reason_0, pT_0, pT_1, pT_2, pT_3, pT_4, pT_5, pT_6, pT_7, pT_8, pT_9, pT_10, pT_11, pT_12, pT_13, pT_14, pT_15, pT_16, pT_17, pT_18, pT_19, pT_20, pT_21, pT_22, pT_23, pT_24, pT_25, pT_26, pT_27, pT_28, pT_N, pT_R, pT_U, pT_Q, pT_H, pT_V, pT_pT, o_iload, o_aload, o_ic, o_lc, o_istore, o_astore, o_iinc, o_bin, o_idiv, o_ineg, o_i2c, o_i2l, o_lcmp, o_if1, o_if2, o_dup, o_dup2, o_getf, o_puti, o_ald, o_iast, o_cast, o_lald, o_last, o_mmin, o_mabs, o_ret, o_vret, o_throw, o_lsw01, o_callS0, o_callS1, o_callS2, o_callS3, o_callS4, o_callS5, o_callV0, o_callV1, o_callV2, o_callV3, o_callV4, o_callV5, zcall_no, zok_nil, zok_ref, zok_int, zE, List.map_cons, List.map_nil, List.length_cons, List.length_nil, List.replicate_succ, List.replicate_zero, List.cons_append, List.nil_append, List.append_nil, List.getElem?_cons_zero, List.getElem?_cons_succ, List.set_cons_zero, List.set_cons_succ, Option.toList_some, Option.toList_none, vp_nar_int, znar_b, zb_0, ne_eq, Bool.not_eq_false, Classical.not_not, nI_1, sh1_def, true_and, and_true, Nat.reduceAdd, Nat.reduceSub, Nat.reduceLT, Nat.reduceLeDiff, Value.category, Nat.zero_add, Nat.add_zero]
      exact hk)
set_option maxHeartbeats 1000000 in
set_option maxRecDepth 20000 in
theorem mX5_tag (hlt : l.stackTraces = false) : Sem l z0 b N D cA yX5_tag cX5_tag 3 (some .boolean) 7 103 3 eX5_tag tX5_tag := uX5_tag hlt (mX5_needThing hlt) (mX5_needTag hlt) (mX0_startEdit hlt) (mX5_finishEdit hlt) (fun M a h Kn Kx hok hX hN => by
  obtain ⟨hs, x, y, rfl⟩ : zSh h ∧ ∃ x y, a = [.ref 0, .int x, .int y] := z_shape _ hN (fun k hk => ⟨hk.1, by obtain ⟨-, x, y, e, -⟩ := hk; exact ⟨x, y, e⟩⟩) (fun hk => ⟨hk.1, by obtain ⟨-, x, y, e, -⟩ := hk; exact ⟨x, y, e⟩⟩)
  have hs' := hs
  obtain ⟨σ, f, n, m, q, k0, s, d, rfl, hI⟩ := hs'
  have hI' := hI
  obtain ⟨hn, hn24, hd, hd8, hch, hlen, hR, hH, hq, hq40, hreq⟩ := hI
  have em : tn (sThings σ) = m := by rw [show sThings σ = nI m from hH.1]; exact nI_clamp (by have := hH.2.1; omega)
  have en : tn (sTags σ) = n := by rw [show sTags σ = nI n from hn]; exact nI_clamp (by omega)
  have hm20 := hH.2.1
  have hX2 : ∀ k, (k = 2 ∧ (¬ okI x (sThings σ) ∨ ¬ okI y (sTags σ))) → M = 1 ∧ Kx k := fun k hc => hX k ⟨hs, x, y, rfl, by rw [gT_pT]; exact hc⟩
  have hN2 : (∀ k, ¬ (k = 2 ∧ (¬ okI x (sThings σ) ∨ ¬ okI y (sTags σ)))) → Kn (some (.int (zb (!decide (fChT (fTagS σ x y) = 0))))) (pT (fFin (fTagS σ x y)) f) := fun hne => by
    obtain ⟨-, _, _, e, hk⟩ := hN (fun k hk => by
      obtain ⟨-, _, _, e, h9⟩ := hk
      cases e
      rw [gT_pT] at h9
      exact hne k h9)
    cases e
    simp only [gT_pT, pT_pT] at hk
    exact hk
  simp only [bX5_tag_44, bX5_tag_0, pT_0, pT_1, pT_2, pT_3, pT_4, pT_5, pT_6, pT_7, pT_8, pT_9, pT_10, pT_11, pT_12, pT_13, pT_14, pT_15, pT_16, pT_17, pT_18, pT_19, pT_20, pT_21, pT_22, pT_23, pT_24, pT_25, pT_26, pT_27, pT_28, pT_N, pT_R, pT_U, pT_Q, pT_H, pT_V, pT_pT, o_iload, o_aload, o_ic, o_lc, o_istore, o_astore, o_iinc, o_bin, o_idiv, o_ineg, o_i2c, o_i2l, o_lcmp, o_if1, o_if2, o_dup, o_dup2, o_getf, o_puti, o_ald, o_iast, o_cast, o_lald, o_last, o_mmin, o_mabs, o_ret, o_vret, o_throw, o_lsw01, o_callS0, o_callS1, o_callS2, o_callS3, o_callS4, o_callS5, o_callV0, o_callV1, o_callV2, o_callV3, o_callV4, o_callV5, zcall_no, zok_nil, zok_ref, zok_int, zE, List.map_cons, List.map_nil, List.length_cons, List.length_nil, List.replicate_succ, List.replicate_zero, List.cons_append, List.nil_append, List.append_nil, List.getElem?_cons_zero, List.getElem?_cons_succ, List.set_cons_zero, List.set_cons_succ, Option.toList_some, Option.toList_none, vp_nar_int, znar_b, zb_0, ne_eq, Bool.not_eq_false, Classical.not_not, nI_1, sh1_def, true_and, and_true, Nat.reduceAdd, Nat.reduceSub, Nat.reduceLT, Nat.reduceLeDiff, Value.category, Nat.zero_add, Nat.add_zero]
  refine z_needThing hs (by decide) (fun hc => ?_) (fun hc => ?_)
  · obtain ⟨h1, h2⟩ := hX2 2 ⟨rfl, Or.inl hc⟩
    exact ⟨h1, h2, rfl⟩
  · simp only [bX5_tag_44, bX5_tag_0, pT_0, pT_1, pT_2, pT_3, pT_4, pT_5, pT_6, pT_7, pT_8, pT_9, pT_10, pT_11, pT_12, pT_13, pT_14, pT_15, pT_16, pT_17, pT_18, pT_19, pT_20, pT_21, pT_22, pT_23, pT_24, pT_25, pT_26, pT_27, pT_28, pT_N, pT_R, pT_U, pT_Q, pT_H, pT_V, pT_pT, o_iload, o_aload, o_ic, o_lc, o_istore, o_astore, o_iinc, o_bin, o_idiv, o_ineg, o_i2c, o_i2l, o_lcmp, o_if1, o_if2, o_dup, o_dup2, o_getf, o_puti, o_ald, o_iast, o_cast, o_lald, o_last, o_mmin, o_mabs, o_ret, o_vret, o_throw, o_lsw01, o_callS0, o_callS1, o_callS2, o_callS3, o_callS4, o_callS5, o_callV0, o_callV1, o_callV2, o_callV3, o_callV4, o_callV5, zcall_no, zok_nil, zok_ref, zok_int, zE, List.map_cons, List.map_nil, List.length_cons, List.length_nil, List.replicate_succ, List.replicate_zero, List.cons_append, List.nil_append, List.append_nil, List.getElem?_cons_zero, List.getElem?_cons_succ, List.set_cons_zero, List.set_cons_succ, Option.toList_some, Option.toList_none, vp_nar_int, znar_b, zb_0, ne_eq, Bool.not_eq_false, Classical.not_not, nI_1, sh1_def, true_and, and_true, Nat.reduceAdd, Nat.reduceSub, Nat.reduceLT, Nat.reduceLeDiff, Value.category, Nat.zero_add, Nat.add_zero]
    refine z_needTag hs (by decide) (fun hc2 => ?_) (fun hc2 => ?_)
    · obtain ⟨h1, h2⟩ := hX2 2 ⟨rfl, Or.inr hc2⟩
      exact ⟨h1, h2, rfl⟩
    · have hk := hN2 (fun k h9 => h9.2.elim (fun h => h hc) (fun h => h hc2))
      rw [show sThings σ = nI m from hH.1] at hc
      rw [show sTags σ = nI n from hn] at hc2
      obtain ⟨i, hi, rfl⟩ := (okI_n (by omega)).mp hc
      obtain ⟨j, hj, rfl⟩ := (okI_n (by omega)).mp hc2
      have hci := nI_clamp (show i < 2 ^ 31 by omega)
      have hcj := nI_clamp (show j < 2 ^ 31 by omega)
      simp only [bX5_tag_44, bX5_tag_0, pT_0, pT_1, pT_2, pT_3, pT_4, pT_5, pT_6, pT_7, pT_8, pT_9, pT_10, pT_11, pT_12, pT_13, pT_14, pT_15, pT_16, pT_17, pT_18, pT_19, pT_20, pT_21, pT_22, pT_23, pT_24, pT_25, pT_26, pT_27, pT_28, pT_N, pT_R, pT_U, pT_Q, pT_H, pT_V, pT_pT, o_iload, o_aload, o_ic, o_lc, o_istore, o_astore, o_iinc, o_bin, o_idiv, o_ineg, o_i2c, o_i2l, o_lcmp, o_if1, o_if2, o_dup, o_dup2, o_getf, o_puti, o_ald, o_iast, o_cast, o_lald, o_last, o_mmin, o_mabs, o_ret, o_vret, o_throw, o_lsw01, o_callS0, o_callS1, o_callS2, o_callS3, o_callS4, o_callS5, o_callV0, o_callV1, o_callV2, o_callV3, o_callV4, o_callV5, zcall_no, zok_nil, zok_ref, zok_int, zE, List.map_cons, List.map_nil, List.length_cons, List.length_nil, List.replicate_succ, List.replicate_zero, List.cons_append, List.nil_append, List.append_nil, List.getElem?_cons_zero, List.getElem?_cons_succ, List.set_cons_zero, List.set_cons_succ, Option.toList_some, Option.toList_none, vp_nar_int, znar_b, zb_0, ne_eq, Bool.not_eq_false, Classical.not_not, nI_1, sh1_def, true_and, and_true, Nat.reduceAdd, Nat.reduceSub, Nat.reduceLT, Nat.reduceLeDiff, Value.category, Nat.zero_add, Nat.add_zero]
      refine ⟨sK σ, pT σ f, m, rfl, pT_Hs.symm, hH.1, hm20, ?_⟩
      simp only [bX5_tag_44, bX5_tag_0, pT_0, pT_1, pT_2, pT_3, pT_4, pT_5, pT_6, pT_7, pT_8, pT_9, pT_10, pT_11, pT_12, pT_13, pT_14, pT_15, pT_16, pT_17, pT_18, pT_19, pT_20, pT_21, pT_22, pT_23, pT_24, pT_25, pT_26, pT_27, pT_28, pT_N, pT_R, pT_U, pT_Q, pT_H, pT_V, pT_pT, hci, pT_a4_1, hi, if_true, o_iload, o_aload, o_ic, o_lc, o_istore, o_astore, o_iinc, o_bin, o_idiv, o_ineg, o_i2c, o_i2l, o_lcmp, o_if1, o_if2, o_dup, o_dup2, o_getf, o_puti, o_ald, o_iast, o_cast, o_lald, o_last, o_mmin, o_mabs, o_ret, o_vret, o_throw, o_lsw01, o_callS0, o_callS1, o_callS2, o_callS3, o_callS4, o_callS5, o_callV0, o_callV1, o_callV2, o_callV3, o_callV4, o_callV5, zcall_no, zok_nil, zok_ref, zok_int, zE, List.map_cons, List.map_nil, List.length_cons, List.length_nil, List.replicate_succ, List.replicate_zero, List.cons_append, List.nil_append, List.append_nil, List.getElem?_cons_zero, List.getElem?_cons_succ, List.set_cons_zero, List.set_cons_succ, Option.toList_some, Option.toList_none, vp_nar_int, znar_b, zb_0, ne_eq, Bool.not_eq_false, Classical.not_not, nI_1, sh1_def, true_and, and_true, Nat.reduceAdd, Nat.reduceSub, Nat.reduceLT, Nat.reduceLeDiff, Value.category, Nat.zero_add, Nat.add_zero]
      refine ⟨vpin (by omega) (by omega), vpin (by omega) (by omega), ?_⟩
      refine ⟨fTagS σ (nI i) (nI j), f, n, m, q, k0, s, d, rfl, ?_, ?_⟩
      · unfold fTagS fEd fStart sHand sK
        rw [em, show tn (nI i) = i from hci, show tn (nI j) = j from hcj]
        rfl
      · refine ⟨hI', ?_⟩
        simp only [bX5_tag_44, bX5_tag_0, pT_0, pT_1, pT_2, pT_3, pT_4, pT_5, pT_6, pT_7, pT_8, pT_9, pT_10, pT_11, pT_12, pT_13, pT_14, pT_15, pT_16, pT_17, pT_18, pT_19, pT_20, pT_21, pT_22, pT_23, pT_24, pT_25, pT_26, pT_27, pT_28, pT_N, pT_R, pT_U, pT_Q, pT_H, pT_V, pT_pT, o_iload, o_aload, o_ic, o_lc, o_istore, o_astore, o_iinc, o_bin, o_idiv, o_ineg, o_i2c, o_i2l, o_lcmp, o_if1, o_if2, o_dup, o_dup2, o_getf, o_puti, o_ald, o_iast, o_cast, o_lald, o_last, o_mmin, o_mabs, o_ret, o_vret, o_throw, o_lsw01, o_callS0, o_callS1, o_callS2, o_callS3, o_callS4, o_callS5, o_callV0, o_callV1, o_callV2, o_callV3, o_callV4, o_callV5, zcall_no, zok_nil, zok_ref, zok_int, zE, List.map_cons, List.map_nil, List.length_cons, List.length_nil, List.replicate_succ, List.replicate_zero, List.cons_append, List.nil_append, List.append_nil, List.getElem?_cons_zero, List.getElem?_cons_succ, List.set_cons_zero, List.set_cons_succ, Option.toList_some, Option.toList_none, vp_nar_int, znar_b, zb_0, ne_eq, Bool.not_eq_false, Classical.not_not, nI_1, sh1_def, true_and, and_true, Nat.reduceAdd, Nat.reduceSub, Nat.reduceLT, Nat.reduceLeDiff, Value.category, Nat.zero_add, Nat.add_zero]
        by_cases h0 : fChT (fTagS σ (nI i) (nI j)) = 0
        · rw [decide_eq_true h0] at hk
          exact ⟨fun _ => ⟨rfl, hk⟩, fun h1 => absurd (fBc_le0.mpr h0) h1⟩
        · rw [decide_eq_false h0] at hk
          exact ⟨fun h1 => absurd (fBc_le0.mp h1) h0, fun _ => ⟨rfl, hk⟩⟩)
set_option maxHeartbeats 1000000 in
set_option maxRecDepth 20000 in
theorem mX5_untag (hlt : l.stackTraces = false) : Sem l z0 b N D cA yX5_untag cX5_untag 3 (some .boolean) 7 103 3 eX5_untag tX5_untag := uX5_untag hlt (mX5_needThing hlt) (mX5_needTag hlt) (mX0_startEdit hlt) (mX5_finishEdit hlt) (fun M a h Kn Kx hok hX hN => by
  obtain ⟨hs, x, y, rfl⟩ : zSh h ∧ ∃ x y, a = [.ref 0, .int x, .int y] := z_shape _ hN (fun k hk => ⟨hk.1, by obtain ⟨-, x, y, e, -⟩ := hk; exact ⟨x, y, e⟩⟩) (fun hk => ⟨hk.1, by obtain ⟨-, x, y, e, -⟩ := hk; exact ⟨x, y, e⟩⟩)
  have hs' := hs
  obtain ⟨σ, f, n, m, q, k0, s, d, rfl, hI⟩ := hs'
  have hI' := hI
  obtain ⟨hn, hn24, hd, hd8, hch, hlen, hR, hH, hq, hq40, hreq⟩ := hI
  have em : tn (sThings σ) = m := by rw [show sThings σ = nI m from hH.1]; exact nI_clamp (by have := hH.2.1; omega)
  have en : tn (sTags σ) = n := by rw [show sTags σ = nI n from hn]; exact nI_clamp (by omega)
  have hm20 := hH.2.1
  have hX2 : ∀ k, (k = 2 ∧ (¬ okI x (sThings σ) ∨ ¬ okI y (sTags σ))) → M = 1 ∧ Kx k := fun k hc => hX k ⟨hs, x, y, rfl, by rw [gT_pT]; exact hc⟩
  have hN2 : (∀ k, ¬ (k = 2 ∧ (¬ okI x (sThings σ) ∨ ¬ okI y (sTags σ)))) → Kn (some (.int (zb (!decide (fChT (fUntS σ x y) = 0))))) (pT (fFin (fUntS σ x y)) f) := fun hne => by
    obtain ⟨-, _, _, e, hk⟩ := hN (fun k hk => by
      obtain ⟨-, _, _, e, h9⟩ := hk
      cases e
      rw [gT_pT] at h9
      exact hne k h9)
    cases e
    simp only [gT_pT, pT_pT] at hk
    exact hk
  simp only [bX5_untag_46, bX5_untag_0, pT_0, pT_1, pT_2, pT_3, pT_4, pT_5, pT_6, pT_7, pT_8, pT_9, pT_10, pT_11, pT_12, pT_13, pT_14, pT_15, pT_16, pT_17, pT_18, pT_19, pT_20, pT_21, pT_22, pT_23, pT_24, pT_25, pT_26, pT_27, pT_28, pT_N, pT_R, pT_U, pT_Q, pT_H, pT_V, pT_pT, o_iload, o_aload, o_ic, o_lc, o_istore, o_astore, o_iinc, o_bin, o_idiv, o_ineg, o_i2c, o_i2l, o_lcmp, o_if1, o_if2, o_dup, o_dup2, o_getf, o_puti, o_ald, o_iast, o_cast, o_lald, o_last, o_mmin, o_mabs, o_ret, o_vret, o_throw, o_lsw01, o_callS0, o_callS1, o_callS2, o_callS3, o_callS4, o_callS5, o_callV0, o_callV1, o_callV2, o_callV3, o_callV4, o_callV5, zcall_no, zok_nil, zok_ref, zok_int, zE, List.map_cons, List.map_nil, List.length_cons, List.length_nil, List.replicate_succ, List.replicate_zero, List.cons_append, List.nil_append, List.append_nil, List.getElem?_cons_zero, List.getElem?_cons_succ, List.set_cons_zero, List.set_cons_succ, Option.toList_some, Option.toList_none, vp_nar_int, znar_b, zb_0, ne_eq, Bool.not_eq_false, Classical.not_not, nI_1, sh1_def, true_and, and_true, Nat.reduceAdd, Nat.reduceSub, Nat.reduceLT, Nat.reduceLeDiff, Value.category, Nat.zero_add, Nat.add_zero]
  refine z_needThing hs (by decide) (fun hc => ?_) (fun hc => ?_)
  · obtain ⟨h1, h2⟩ := hX2 2 ⟨rfl, Or.inl hc⟩
    exact ⟨h1, h2, rfl⟩
  · simp only [bX5_untag_46, bX5_untag_0, pT_0, pT_1, pT_2, pT_3, pT_4, pT_5, pT_6, pT_7, pT_8, pT_9, pT_10, pT_11, pT_12, pT_13, pT_14, pT_15, pT_16, pT_17, pT_18, pT_19, pT_20, pT_21, pT_22, pT_23, pT_24, pT_25, pT_26, pT_27, pT_28, pT_N, pT_R, pT_U, pT_Q, pT_H, pT_V, pT_pT, o_iload, o_aload, o_ic, o_lc, o_istore, o_astore, o_iinc, o_bin, o_idiv, o_ineg, o_i2c, o_i2l, o_lcmp, o_if1, o_if2, o_dup, o_dup2, o_getf, o_puti, o_ald, o_iast, o_cast, o_lald, o_last, o_mmin, o_mabs, o_ret, o_vret, o_throw, o_lsw01, o_callS0, o_callS1, o_callS2, o_callS3, o_callS4, o_callS5, o_callV0, o_callV1, o_callV2, o_callV3, o_callV4, o_callV5, zcall_no, zok_nil, zok_ref, zok_int, zE, List.map_cons, List.map_nil, List.length_cons, List.length_nil, List.replicate_succ, List.replicate_zero, List.cons_append, List.nil_append, List.append_nil, List.getElem?_cons_zero, List.getElem?_cons_succ, List.set_cons_zero, List.set_cons_succ, Option.toList_some, Option.toList_none, vp_nar_int, znar_b, zb_0, ne_eq, Bool.not_eq_false, Classical.not_not, nI_1, sh1_def, true_and, and_true, Nat.reduceAdd, Nat.reduceSub, Nat.reduceLT, Nat.reduceLeDiff, Value.category, Nat.zero_add, Nat.add_zero]
    refine z_needTag hs (by decide) (fun hc2 => ?_) (fun hc2 => ?_)
    · obtain ⟨h1, h2⟩ := hX2 2 ⟨rfl, Or.inr hc2⟩
      exact ⟨h1, h2, rfl⟩
    · have hk := hN2 (fun k h9 => h9.2.elim (fun h => h hc) (fun h => h hc2))
      rw [show sThings σ = nI m from hH.1] at hc
      rw [show sTags σ = nI n from hn] at hc2
      obtain ⟨i, hi, rfl⟩ := (okI_n (by omega)).mp hc
      obtain ⟨j, hj, rfl⟩ := (okI_n (by omega)).mp hc2
      have hci := nI_clamp (show i < 2 ^ 31 by omega)
      have hcj := nI_clamp (show j < 2 ^ 31 by omega)
      simp only [bX5_untag_46, bX5_untag_0, pT_0, pT_1, pT_2, pT_3, pT_4, pT_5, pT_6, pT_7, pT_8, pT_9, pT_10, pT_11, pT_12, pT_13, pT_14, pT_15, pT_16, pT_17, pT_18, pT_19, pT_20, pT_21, pT_22, pT_23, pT_24, pT_25, pT_26, pT_27, pT_28, pT_N, pT_R, pT_U, pT_Q, pT_H, pT_V, pT_pT, o_iload, o_aload, o_ic, o_lc, o_istore, o_astore, o_iinc, o_bin, o_idiv, o_ineg, o_i2c, o_i2l, o_lcmp, o_if1, o_if2, o_dup, o_dup2, o_getf, o_puti, o_ald, o_iast, o_cast, o_lald, o_last, o_mmin, o_mabs, o_ret, o_vret, o_throw, o_lsw01, o_callS0, o_callS1, o_callS2, o_callS3, o_callS4, o_callS5, o_callV0, o_callV1, o_callV2, o_callV3, o_callV4, o_callV5, zcall_no, zok_nil, zok_ref, zok_int, zE, List.map_cons, List.map_nil, List.length_cons, List.length_nil, List.replicate_succ, List.replicate_zero, List.cons_append, List.nil_append, List.append_nil, List.getElem?_cons_zero, List.getElem?_cons_succ, List.set_cons_zero, List.set_cons_succ, Option.toList_some, Option.toList_none, vp_nar_int, znar_b, zb_0, ne_eq, Bool.not_eq_false, Classical.not_not, nI_1, sh1_def, true_and, and_true, Nat.reduceAdd, Nat.reduceSub, Nat.reduceLT, Nat.reduceLeDiff, Value.category, Nat.zero_add, Nat.add_zero]
      refine ⟨sK σ, pT σ f, m, rfl, pT_Hs.symm, hH.1, hm20, ?_⟩
      simp only [bX5_untag_46, bX5_untag_0, pT_0, pT_1, pT_2, pT_3, pT_4, pT_5, pT_6, pT_7, pT_8, pT_9, pT_10, pT_11, pT_12, pT_13, pT_14, pT_15, pT_16, pT_17, pT_18, pT_19, pT_20, pT_21, pT_22, pT_23, pT_24, pT_25, pT_26, pT_27, pT_28, pT_N, pT_R, pT_U, pT_Q, pT_H, pT_V, pT_pT, hci, pT_a4_1, hi, if_true, o_iload, o_aload, o_ic, o_lc, o_istore, o_astore, o_iinc, o_bin, o_idiv, o_ineg, o_i2c, o_i2l, o_lcmp, o_if1, o_if2, o_dup, o_dup2, o_getf, o_puti, o_ald, o_iast, o_cast, o_lald, o_last, o_mmin, o_mabs, o_ret, o_vret, o_throw, o_lsw01, o_callS0, o_callS1, o_callS2, o_callS3, o_callS4, o_callS5, o_callV0, o_callV1, o_callV2, o_callV3, o_callV4, o_callV5, zcall_no, zok_nil, zok_ref, zok_int, zE, List.map_cons, List.map_nil, List.length_cons, List.length_nil, List.replicate_succ, List.replicate_zero, List.cons_append, List.nil_append, List.append_nil, List.getElem?_cons_zero, List.getElem?_cons_succ, List.set_cons_zero, List.set_cons_succ, Option.toList_some, Option.toList_none, vp_nar_int, znar_b, zb_0, ne_eq, Bool.not_eq_false, Classical.not_not, nI_1, sh1_def, true_and, and_true, Nat.reduceAdd, Nat.reduceSub, Nat.reduceLT, Nat.reduceLeDiff, Value.category, Nat.zero_add, Nat.add_zero]
      refine ⟨vpin (by omega) (by omega), vpin (by omega) (by omega), ?_⟩
      refine ⟨fUntS σ (nI i) (nI j), f, n, m, q, k0, s, d, rfl, ?_, ?_⟩
      · unfold fUntS fEd fStart sHand sK
        rw [em, show tn (nI i) = i from hci, show tn (nI j) = j from hcj]
        rfl
      · refine ⟨hI', ?_⟩
        simp only [bX5_untag_46, bX5_untag_0, pT_0, pT_1, pT_2, pT_3, pT_4, pT_5, pT_6, pT_7, pT_8, pT_9, pT_10, pT_11, pT_12, pT_13, pT_14, pT_15, pT_16, pT_17, pT_18, pT_19, pT_20, pT_21, pT_22, pT_23, pT_24, pT_25, pT_26, pT_27, pT_28, pT_N, pT_R, pT_U, pT_Q, pT_H, pT_V, pT_pT, o_iload, o_aload, o_ic, o_lc, o_istore, o_astore, o_iinc, o_bin, o_idiv, o_ineg, o_i2c, o_i2l, o_lcmp, o_if1, o_if2, o_dup, o_dup2, o_getf, o_puti, o_ald, o_iast, o_cast, o_lald, o_last, o_mmin, o_mabs, o_ret, o_vret, o_throw, o_lsw01, o_callS0, o_callS1, o_callS2, o_callS3, o_callS4, o_callS5, o_callV0, o_callV1, o_callV2, o_callV3, o_callV4, o_callV5, zcall_no, zok_nil, zok_ref, zok_int, zE, List.map_cons, List.map_nil, List.length_cons, List.length_nil, List.replicate_succ, List.replicate_zero, List.cons_append, List.nil_append, List.append_nil, List.getElem?_cons_zero, List.getElem?_cons_succ, List.set_cons_zero, List.set_cons_succ, Option.toList_some, Option.toList_none, vp_nar_int, znar_b, zb_0, ne_eq, Bool.not_eq_false, Classical.not_not, nI_1, sh1_def, true_and, and_true, Nat.reduceAdd, Nat.reduceSub, Nat.reduceLT, Nat.reduceLeDiff, Value.category, Nat.zero_add, Nat.add_zero]
        by_cases h0 : fChT (fUntS σ (nI i) (nI j)) = 0
        · rw [decide_eq_true h0] at hk
          exact ⟨fun _ => ⟨rfl, hk⟩, fun h1 => absurd (fBc_le0.mpr h0) h1⟩
        · rw [decide_eq_false h0] at hk
          exact ⟨fun h1 => absurd (fBc_le0.mp h1) h0, fun _ => ⟨rfl, hk⟩⟩)
end T3
