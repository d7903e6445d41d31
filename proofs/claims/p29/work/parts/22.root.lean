def bX5_type_0 (M : Nat) (Kn : Option Value → ZH → Prop) (Kx : Nat → Prop) (h0 : ZH) : ZK ZH := (o_iload 1 (o_callS1 M zno tX5_isNameCharacter Kx h0 (o_if1 (fun x => ¬ x = 0) (o_aload 0 (o_getf 5 0 (o_getf 1 4 (o_ic (8) (o_if2 (fun x y => x < y) (o_aload 0 (o_getf 5 0 (o_iload 1 (o_callV1 M 1 zno tX1_append Kx h0 (o_aload 0 (o_getf 5 0 (o_getf 1 4 (o_ret .int Kn)))))))) (o_throw M 1 Kx h0)))))) (o_throw M 0 Kx h0))))
def bX5_enter_84 (M : Nat) (Kn : Option Value → ZH → Prop) (Kx : Nat → Prop) (h0 : ZH) : ZK ZH := (o_aload 0 (o_getf 5 0 (o_callV0 M 1 zno tX1_emptyDraft Kx h0 (o_iload 2 (o_ret .int Kn)))))
def bX5_enter_55 (M : Nat) (Kn : Option Value → ZH → Prop) (Kx : Nat → Prop) (h0 : ZH) : ZK ZH := (o_iload 1 (o_istore 2 (o_iload 1 (o_ic (-1) (o_if2 (fun x y => ¬ x = y) (bX5_enter_84 M Kn Kx h0) (o_aload 0 (o_getf 5 0 (o_callV0 M 1 zno tX1_addDraft Kx h0 (o_istore 2 (o_aload 0 (o_getf 5 1 (o_aload 0 (o_getf 5 0 (o_getf 1 3 (o_callV1 M 4 zno tX4_grow Kx h0 (bX5_enter_84 M Kn Kx h0))))))))))))))))
def bX5_enter_0 (M : Nat) (Kn : Option Value → ZH → Prop) (Kx : Nat → Prop) (h0 : ZH) : ZK ZH := (o_aload 0 (o_getf 5 0 (o_getf 1 4 (o_if1 (fun x => ¬ x = 0) (o_aload 0 (o_getf 5 0 (o_callV0 M 1 zno tX1_findDraft Kx h0 (o_istore 1 (o_iload 1 (o_ic (-1) (o_if2 (fun x y => ¬ x = y) (bX5_enter_55 M Kn Kx h0) (o_aload 0 (o_getf 5 0 (o_getf 1 3 (o_ic (24) (o_if2 (fun x y => x < y) (bX5_enter_55 M Kn Kx h0) (o_throw M 1 Kx h0))))))))))))) (o_throw M 1 Kx h0)))))
def bX5_tags_0 (M : Nat) (Kn : Option Value → ZH → Prop) (Kx : Nat → Prop) (h0 : ZH) : ZK ZH := (o_aload 0 (o_getf 5 0 (o_getf 1 3 (o_ret .int Kn))))
def bX5_letter_22 (M : Nat) (Kn : Option Value → ZH → Prop) (Kx : Nat → Prop) (h0 : ZH) : ZK ZH := (o_throw M 2 Kx h0)
def bX5_letter_0 (M : Nat) (Kn : Option Value → ZH → Prop) (Kx : Nat → Prop) (h0 : ZH) : ZK ZH := (o_aload 0 (o_iload 1 (o_callV1 M 5 eX5_needTag tX5_needTag Kx h0 (o_iload 2 (o_if1 (fun x => x < 0) (bX5_letter_22 M Kn Kx h0) (o_iload 2 (o_aload 0 (o_getf 5 0 (o_getf 1 1 (o_iload 1 (o_ald 0 (o_if2 (fun x y => x < y) (o_aload 0 (o_getf 5 0 (o_iload 1 (o_iload 2 (o_callV2 M 1 zno tX1_letterAt Kx h0 (o_ret .char Kn)))))) (bX5_letter_22 M Kn Kx h0)))))))))))))
def bX5_addThing_0 (M : Nat) (Kn : Option Value → ZH → Prop) (Kx : Nat → Prop) (h0 : ZH) : ZK ZH := (o_aload 0 (o_getf 5 4 (o_getf 0 4 (o_ic (20) (o_if2 (fun x y => x < y) (o_aload 0 (o_getf 5 4 (o_dup (o_getf 0 4 (o_ic (1) (o_bin (fun x y => x + y) (o_puti 0 4 (o_aload 0 (o_getf 5 4 (o_getf 0 4 (o_ic (1) (o_bin (fun x y => x - y) (o_ret .int Kn))))))))))))) (o_throw M 1 Kx h0))))))
def bX5_things_0 (M : Nat) (Kn : Option Value → ZH → Prop) (Kx : Nat → Prop) (h0 : ZH) : ZK ZH := (o_aload 0 (o_getf 5 4 (o_getf 0 4 (o_ret .int Kn))))
def bX5_tag_44 (M : Nat) (Kn : Option Value → ZH → Prop) (Kx : Nat → Prop) (h0 : ZH) : ZK ZH := (o_ret .boolean Kn)
def bX5_tag_0 (M : Nat) (Kn : Option Value → ZH → Prop) (Kx : Nat → Prop) (h0 : ZH) : ZK ZH := (o_aload 0 (o_iload 1 (o_callV1 M 5 eX5_needThing tX5_needThing Kx h0 (o_aload 0 (o_iload 2 (o_callV1 M 5 eX5_needTag tX5_needTag Kx h0 (o_aload 0 (o_getf 5 4 (o_callV0 M 0 zno tX0_startEdit Kx h0 (o_aload 0 (o_getf 5 4 (o_getf 0 1 (o_iload 1 (o_dup2 (o_ald 0 (o_ic (1) (o_iload 2 (o_bin (fun x y => x <<< (y &&& 31)) (o_bin (fun x y => x ||| y) (o_iast (o_aload 0 (o_callV0 M 5 zno tX5_finishEdit Kx h0 (o_if1 (fun x => x ≤ 0) (o_ic (0) (bX5_tag_44 M Kn Kx h0)) (o_ic (1) (bX5_tag_44 M Kn Kx h0)))))))))))))))))))))))))
def bX5_untag_46 (M : Nat) (Kn : Option Value → ZH → Prop) (Kx : Nat → Prop) (h0 : ZH) : ZK ZH := (o_ret .boolean Kn)
def bX5_untag_0 (M : Nat) (Kn : Option Value → ZH → Prop) (Kx : Nat → Prop) (h0 : ZH) : ZK ZH := (o_aload 0 (o_iload 1 (o_callV1 M 5 eX5_needThing tX5_needThing Kx h0 (o_aload 0 (o_iload 2 (o_callV1 M 5 eX5_needTag tX5_needTag Kx h0 (o_aload 0 (o_getf 5 4 (o_callV0 M 0 zno tX0_startEdit Kx h0 (o_aload 0 (o_getf 5 4 (o_getf 0 1 (o_iload 1 (o_dup2 (o_ald 0 (o_ic (1) (o_iload 2 (o_bin (fun x y => x <<< (y &&& 31)) (o_ic (-1) (o_bin (fun x y => x ^^^ y) (o_bin (fun x y => x &&& y) (o_iast (o_aload 0 (o_callV0 M 5 zno tX5_finishEdit Kx h0 (o_if1 (fun x => x ≤ 0) (o_ic (0) (bX5_untag_46 M Kn Kx h0)) (o_ic (1) (bX5_untag_46 M Kn Kx h0)))))))))))))))))))))))))))
def bX5_mass_131 (M : Nat) (Kn : Option Value → ZH → Prop) (Kx : Nat → Prop) (h0 : ZH) (K57 : ZK ZH) : ZK ZH := (o_iinc 5 (1) K57)
def bX5_mass_98 (M : Nat) (Kn : Option Value → ZH → Prop) (Kx : Nat → Prop) (h0 : ZH) (K57 : ZK ZH) : ZK ZH := (o_istore 6 (o_iload 6 (o_if1 (fun x => x = 0) (bX5_mass_131 M Kn Kx h0 K57) (o_aload 0 (o_getf 5 4 (o_getf 0 1 (o_iload 5 (o_iload 1 (o_aload 0 (o_getf 5 4 (o_getf 0 0 (o_iload 5 (o_ald 0 (o_iload 2 (o_iload 3 (o_callS4 M zno tX5_massEdited Kx h0 (o_iast (bX5_mass_131 M Kn Kx h0 K57))))))))))))))))))
def bX5_mass_57 (M : Nat) (Kn : Option Value → ZH → Prop) (Kx : Nat → Prop) (h0 : ZH) (K57 : ZK ZH) : ZK ZH := (o_iload 5 (o_aload 0 (o_getf 5 4 (o_getf 0 4 (o_if2 (fun x y => y ≤ x) (o_aload 0 (o_callV0 M 5 zno tX5_finishEdit Kx h0 (o_ret .int Kn))) (o_iload 1 (o_ic (2) (o_if2 (fun x y => ¬ x = y) (o_iload 4 (o_iload 5 (o_callS2 M zno tX5_has Kx h0 (bX5_mass_98 M Kn Kx h0 K57)))) (o_aload 0 (o_getf 5 4 (o_getf 0 0 (o_iload 5 (o_ald 0 (o_iload 2 (o_callS2 M zno tX5_has Kx h0 (bX5_mass_98 M Kn Kx h0 K57))))))))))))))))
def bX5_mass_19 (M : Nat) (Kn : Option Value → ZH → Prop) (Kx : Nat → Prop) (h0 : ZH) (K57 : ZK ZH) : ZK ZH := (o_throw M 0 Kx h0)
def bX5_mass_0 (M : Nat) (Kn : Option Value → ZH → Prop) (Kx : Nat → Prop) (h0 : ZH) (K57 : ZK ZH) : ZK ZH := (o_aload 0 (o_iload 2 (o_callV1 M 5 eX5_needTag tX5_needTag Kx h0 (o_aload 0 (o_iload 3 (o_callV1 M 5 eX5_needTag tX5_needTag Kx h0 (o_iload 1 (o_if1 (fun x => x < 0) (bX5_mass_19 M Kn Kx h0 K57) (o_iload 1 (o_ic (2) (o_if2 (fun x y => x ≤ y) (o_aload 0 (o_getf 5 5 (o_getf 3 0 (o_aload 0 (o_getf 5 1 (o_iload 2 (o_callV1 M 4 zno tX4_endOf Kx h0 (o_ald 0 (o_istore 4 (o_aload 0 (o_getf 5 4 (o_callV0 M 0 zno tX0_startEdit Kx h0 (o_ic (0) (o_istore 5 K57)))))))))))))) (bX5_mass_19 M Kn Kx h0 K57))))))))))))
def bX5_undo_0 (M : Nat) (Kn : Option Value → ZH → Prop) (Kx : Nat → Prop) (h0 : ZH) : ZK ZH := (o_aload 0 (o_getf 5 4 (o_getf 0 5 (o_if1 (fun x => ¬ x = 0) (o_aload 0 (o_getf 5 4 (o_callV0 M 0 zno tX0_restoreLatest Kx h0 (o_istore 1 (o_aload 0 (o_getf 5 5 (o_aload 0 (o_getf 5 1 (o_aload 0 (o_getf 5 4 (o_callV2 M 3 zno tX3_refresh Kx h0 (o_iload 1 (o_ret .int Kn))))))))))))) (o_throw M 1 Kx h0)))))
def bX5_kept_0 (M : Nat) (Kn : Option Value → ZH → Prop) (Kx : Nat → Prop) (h0 : ZH) : ZK ZH := (o_aload 0 (o_getf 5 4 (o_getf 0 5 (o_ret .int Kn))))
def bX5_hand_0 (M : Nat) (Kn : Option Value → ZH → Prop) (Kx : Nat → Prop) (h0 : ZH) : ZK ZH := (o_aload 0 (o_iload 1 (o_callV1 M 5 eX5_needThing tX5_needThing Kx h0 (o_aload 0 (o_getf 5 4 (o_getf 0 0 (o_iload 1 (o_ald 0 (o_ret .int Kn)))))))))
def bX5_ask_19 (M : Nat) (Kn : Option Value → ZH → Prop) (Kx : Nat → Prop) (h0 : ZH) : ZK ZH := (o_throw M 0 Kx h0)
def bX5_ask_0 (M : Nat) (Kn : Option Value → ZH → Prop) (Kx : Nat → Prop) (h0 : ZH) : ZK ZH := (o_aload 0 (o_iload 2 (o_callV1 M 5 eX5_needTag tX5_needTag Kx h0 (o_aload 0 (o_iload 3 (o_callV1 M 5 eX5_needTag tX5_needTag Kx h0 (o_iload 1 (o_if1 (fun x => x < 0) (bX5_ask_19 M Kn Kx h0) (o_iload 1 (o_ic (3) (o_if2 (fun x y => x ≤ y) (o_iload 2 (o_iload 3 (o_if2 (fun x y => ¬ x = y) (o_aload 0 (o_getf 5 3 (o_getf 2 6 (o_ic (40) (o_if2 (fun x y => x < y) (o_aload 0 (o_getf 5 3 (o_iload 1 (o_iload 2 (o_iload 3 (o_callV3 M 2 zno tX2_add Kx h0 (o_ret .int Kn))))))) (o_throw M 1 Kx h0)))))) (o_throw M 0 Kx h0)))) (bX5_ask_19 M Kn Kx h0))))))))))))
def bX5_vote_15 (M : Nat) (Kn : Option Value → ZH → Prop) (Kx : Nat → Prop) (h0 : ZH) : ZK ZH := (o_throw M 0 Kx h0)
def bX5_vote_0 (M : Nat) (Kn : Option Value → ZH → Prop) (Kx : Nat → Prop) (h0 : ZH) : ZK ZH := (o_aload 0 (o_iload 1 (o_callV1 M 5 eX5_needRequest tX5_needRequest Kx h0 (o_iload 2 (o_if1 (fun x => x < 0) (bX5_vote_15 M Kn Kx h0) (o_iload 2 (o_ic (10) (o_if2 (fun x y => x < y) (o_aload 0 (o_getf 5 3 (o_getf 2 3 (o_iload 1 (o_ald 0 (o_if1 (fun x => x = 0) (o_aload 0 (o_getf 5 3 (o_iload 1 (o_iload 2 (o_iload 3 (o_callV3 M 2 zno tX2_setVote Kx h0 (o_aload 0 (o_iload 1 (o_aload 0 (o_getf 5 3 (o_iload 1 (o_callV1 M 2 zno tX2_leadOf Kx h0 (o_callV2 M 5 zno tX5_decide Kx h0 (o_aload 0 (o_getf 5 3 (o_getf 2 3 (o_iload 1 (o_ald 0 (o_ret .int Kn))))))))))))))))))) (o_throw M 1 Kx h0))))))) (bX5_vote_15 M Kn Kx h0)))))))))
def bX5_standing_0 (M : Nat) (Kn : Option Value → ZH → Prop) (Kx : Nat → Prop) (h0 : ZH) : ZK ZH := (o_aload 0 (o_iload 1 (o_callV1 M 5 eX5_needRequest tX5_needRequest Kx h0 (o_aload 0 (o_getf 5 3 (o_getf 2 3 (o_iload 1 (o_ald 0 (o_ret .int Kn)))))))))
def bX5_couldPass_0 (M : Nat) (Kn : Option Value → ZH → Prop) (Kx : Nat → Prop) (h0 : ZH) : ZK ZH := (o_aload 0 (o_iload 1 (o_callV1 M 5 eX5_needRequest tX5_needRequest Kx h0 (o_aload 0 (o_iload 1 (o_callV1 M 5 zno tX5_isOpenAndAllowed Kx h0 (o_ret .boolean Kn)))))))
def bX5_clashes_64 (M : Nat) (Kn : Option Value → ZH → Prop) (Kx : Nat → Prop) (h0 : ZH) (K19 : ZK ZH) : ZK ZH := (o_iinc 3 (1) K19)
def bX5_clashes_61 (M : Nat) (Kn : Option Value → ZH → Prop) (Kx : Nat → Prop) (h0 : ZH) (K19 : ZK ZH) : ZK ZH := (o_iinc 2 (1) (bX5_clashes_64 M Kn Kx h0 K19))
def bX5_clashes_19 (M : Nat) (Kn : Option Value → ZH → Prop) (Kx : Nat → Prop) (h0 : ZH) (K19 : ZK ZH) : ZK ZH := (o_iload 3 (o_aload 0 (o_getf 5 3 (o_getf 2 6 (o_if2 (fun x y => y ≤ x) (o_iload 2 (o_ret .int Kn)) (o_iload 3 (o_iload 1 (o_if2 (fun x y => x = y) (bX5_clashes_64 M Kn Kx h0 K19) (o_aload 0 (o_iload 3 (o_callV1 M 5 zno tX5_isOpenAndAllowed Kx h0 (o_if1 (fun x => x = 0) (bX5_clashes_64 M Kn Kx h0 K19) (o_aload 0 (o_iload 1 (o_iload 3 (o_callV2 M 5 zno tX5_isAllowedBehind Kx h0 (o_if1 (fun x => x = 0) (bX5_clashes_61 M Kn Kx h0 K19) (o_aload 0 (o_iload 3 (o_iload 1 (o_callV2 M 5 zno tX5_isAllowedBehind Kx h0 (o_if1 (fun x => ¬ x = 0) (bX5_clashes_64 M Kn Kx h0 K19) (bX5_clashes_61 M Kn Kx h0 K19)))))))))))))))))))))))
def bX5_clashes_0 (M : Nat) (Kn : Option Value → ZH → Prop) (Kx : Nat → Prop) (h0 : ZH) (K19 : ZK ZH) : ZK ZH := (o_aload 0 (o_iload 1 (o_callV1 M 5 eX5_needRequest tX5_needRequest Kx h0 (o_aload 0 (o_iload 1 (o_callV1 M 5 zno tX5_isOpenAndAllowed Kx h0 (o_if1 (fun x => ¬ x = 0) (o_ic (0) (o_istore 2 (o_ic (0) (o_istore 3 K19)))) (o_ic (0) (o_ret .int Kn)))))))))
def bX5_alias_0 (M : Nat) (Kn : Option Value → ZH → Prop) (Kx : Nat → Prop) (h0 : ZH) : ZK ZH := (o_aload 0 (o_iload 1 (o_callV1 M 5 eX5_needTag tX5_needTag Kx h0 (o_aload 0 (o_getf 5 1 (o_getf 4 0 (o_iload 1 (o_ald 0 (o_ret .int Kn)))))))))
def bX5_end_0 (M : Nat) (Kn : Option Value → ZH → Prop) (Kx : Nat → Prop) (h0 : ZH) : ZK ZH := (o_aload 0 (o_iload 1 (o_callV1 M 5 eX5_needTag tX5_needTag Kx h0 (o_aload 0 (o_getf 5 1 (o_iload 1 (o_callV1 M 4 zno tX4_endOf Kx h0 (o_ret .int Kn))))))))
def bX5_implies_0 (M : Nat) (Kn : Option Value → ZH → Prop) (Kx : Nat → Prop) (h0 : ZH) : ZK ZH := (o_aload 0 (o_iload 1 (o_callV1 M 5 eX5_needTag tX5_needTag Kx h0 (o_aload 0 (o_iload 2 (o_callV1 M 5 eX5_needTag tX5_needTag Kx h0 (o_aload 0 (o_getf 5 1 (o_getf 4 1 (o_iload 1 (o_ald 0 (o_iload 2 (o_callS2 M zno tX5_has Kx h0 (o_ret .boolean Kn))))))))))))))
def bX5_shown_0 (M : Nat) (Kn : Option Value → ZH → Prop) (Kx : Nat → Prop) (h0 : ZH) : ZK ZH := (o_aload 0 (o_iload 1 (o_callV1 M 5 eX5_needThing tX5_needThing Kx h0 (o_aload 0 (o_getf 5 5 (o_iload 1 (o_aload 0 (o_getf 5 0 (o_getf 1 3 (o_callV2 M 3 zno tX3_column Kx h0 (o_ret .int Kn)))))))))))
def bX5_shownByHand_0 (M : Nat) (Kn : Option Value → ZH → Prop) (Kx : Nat → Prop) (h0 : ZH) : ZK ZH := (o_aload 0 (o_iload 1 (o_callV1 M 5 eX5_needThing tX5_needThing Kx h0 (o_aload 0 (o_getf 5 1 (o_aload 0 (o_getf 5 4 (o_getf 0 0 (o_iload 1 (o_ald 0 (o_callV1 M 4 zno tX4_spread Kx h0 (o_ret .int Kn))))))))))))
def bX5_users_0 (M : Nat) (Kn : Option Value → ZH → Prop) (Kx : Nat → Prop) (h0 : ZH) : ZK ZH := (o_aload 0 (o_iload 1 (o_callV1 M 5 eX5_needTag tX5_needTag Kx h0 (o_aload 0 (o_getf 5 5 (o_getf 3 0 (o_iload 1 (o_ald 0 (o_callS1 M zno tJ6_bitCount_0f7a4 Kx h0 (o_ret .int Kn))))))))))
def bX5_reason_0 (M : Nat) (Kn : Option Value → ZH → Prop) (Kx : Nat → Prop) (h0 : ZH) : ZK ZH := (o_aload 0 (o_iload 1 (o_callV1 M 5 eX5_needThing tX5_needThing Kx h0 (o_aload 0 (o_iload 2 (o_callV1 M 5 eX5_needTag tX5_needTag Kx h0 (o_aload 0 (o_getf 5 1 (o_aload 0 (o_getf 5 4 (o_getf 0 0 (o_iload 1 (o_ald 0 (o_iload 2 (o_callV2 M 4 zno tX4_nearest Kx h0 (o_ret .int Kn))))))))))))))))
def bX5_count_0 (M : Nat) (Kn : Option Value → ZH → Prop) (Kx : Nat → Prop) (h0 : ZH) : ZK ZH := (o_aload 0 (o_iload 1 (o_iload 2 (o_iload 3 (o_callV3 M 5 eX5_needSets tX5_needSets Kx h0 (o_aload 0 (o_iload 1 (o_iload 2 (o_iload 3 (o_callV3 M 5 zno tX5_matching Kx h0 (o_callS1 M zno tJ6_bitCount_0f7a4 Kx h0 (o_ret .int Kn))))))))))))
def bX5_match_0 (M : Nat) (Kn : Option Value → ZH → Prop) (Kx : Nat → Prop) (h0 : ZH) : ZK ZH := (o_iload 1 (o_if1 (fun x => 0 ≤ x) (o_aload 0 (o_iload 2 (o_iload 3 (o_iload 4 (o_callV3 M 5 eX5_needSets tX5_needSets Kx h0 (o_aload 0 (o_iload 2 (o_iload 3 (o_iload 4 (o_callV3 M 5 zno tX5_matching Kx h0 (o_iload 1 (o_callS2 M zno tX5_memberAt Kx h0 (o_istore 5 (o_iload 5 (o_ic (-1) (o_if2 (fun x y => ¬ x = y) (o_iload 5 (o_ret .int Kn)) (o_throw M 2 Kx h0))))))))))))))))) (o_throw M 2 Kx h0)))
def bX5_needTag_15 (M : Nat) (Kn : Option Value → ZH → Prop) (Kx : Nat → Prop) (h0 : ZH) : ZK ZH := (o_throw M 2 Kx h0)
def bX5_needTag_0 (M : Nat) (Kn : Option Value → ZH → Prop) (Kx : Nat → Prop) (h0 : ZH) : ZK ZH := (o_iload 1 (o_if1 (fun x => x < 0) (bX5_needTag_15 M Kn Kx h0) (o_iload 1 (o_aload 0 (o_getf 5 0 (o_getf 1 3 (o_if2 (fun x y => x < y) (o_vret Kn) (bX5_needTag_15 M Kn Kx h0))))))))
def bX5_needThing_15 (M : Nat) (Kn : Option Value → ZH → Prop) (Kx : Nat → Prop) (h0 : ZH) : ZK ZH := (o_throw M 2 Kx h0)
def bX5_needThing_0 (M : Nat) (Kn : Option Value → ZH → Prop) (Kx : Nat → Prop) (h0 : ZH) : ZK ZH := (o_iload 1 (o_if1 (fun x => x < 0) (bX5_needThing_15 M Kn Kx h0) (o_iload 1 (o_aload 0 (o_getf 5 4 (o_getf 0 4 (o_if2 (fun x y => x < y) (o_vret Kn) (bX5_needThing_15 M Kn Kx h0))))))))
def bX5_needRequest_15 (M : Nat) (Kn : Option Value → ZH → Prop) (Kx : Nat → Prop) (h0 : ZH) : ZK ZH := (o_throw M 2 Kx h0)
def bX5_needRequest_0 (M : Nat) (Kn : Option Value → ZH → Prop) (Kx : Nat → Prop) (h0 : ZH) : ZK ZH := (o_iload 1 (o_if1 (fun x => x < 0) (bX5_needRequest_15 M Kn Kx h0) (o_iload 1 (o_aload 0 (o_getf 5 3 (o_getf 2 6 (o_if2 (fun x y => x < y) (o_vret Kn) (bX5_needRequest_15 M Kn Kx h0))))))))
def bX5_needSets_24 (M : Nat) (Kn : Option Value → ZH → Prop) (Kx : Nat → Prop) (h0 : ZH) : ZK ZH := (o_throw M 0 Kx h0)
def bX5_needSets_0 (M : Nat) (Kn : Option Value → ZH → Prop) (Kx : Nat → Prop) (h0 : ZH) : ZK ZH := (o_aload 0 (o_iload 1 (o_callV1 M 5 zno tX5_isTagSet Kx h0 (o_if1 (fun x => x = 0) (bX5_needSets_24 M Kn Kx h0) (o_aload 0 (o_iload 2 (o_callV1 M 5 zno tX5_isTagSet Kx h0 (o_if1 (fun x => x = 0) (bX5_needSets_24 M Kn Kx h0) (o_aload 0 (o_iload 3 (o_callV1 M 5 zno tX5_isTagSet Kx h0 (o_if1 (fun x => ¬ x = 0) (o_vret Kn) (bX5_needSets_24 M Kn Kx h0)))))))))))))
def bX5_isTagSet_22 (M : Nat) (Kn : Option Value → ZH → Prop) (Kx : Nat → Prop) (h0 : ZH) : ZK ZH := (o_ret .boolean Kn)
def bX5_isTagSet_21 (M : Nat) (Kn : Option Value → ZH → Prop) (Kx : Nat → Prop) (h0 : ZH) : ZK ZH := (o_ic (0) (bX5_isTagSet_22 M Kn Kx h0))
def bX5_isTagSet_0 (M : Nat) (Kn : Option Value → ZH → Prop) (Kx : Nat → Prop) (h0 : ZH) : ZK ZH := (o_iload 1 (o_if1 (fun x => x < 0) (bX5_isTagSet_21 M Kn Kx h0) (o_iload 1 (o_ic (1) (o_aload 0 (o_getf 5 0 (o_getf 1 3 (o_bin (fun x y => x <<< (y &&& 31)) (o_if2 (fun x y => y ≤ x) (bX5_isTagSet_21 M Kn Kx h0) (o_ic (1) (bX5_isTagSet_22 M Kn Kx h0)))))))))))
def bX5_finishEdit_27 (M : Nat) (Kn : Option Value → ZH → Prop) (Kx : Nat → Prop) (h0 : ZH) : ZK ZH := (o_iload 1 (o_ret .int Kn))
def bX5_finishEdit_0 (M : Nat) (Kn : Option Value → ZH → Prop) (Kx : Nat → Prop) (h0 : ZH) : ZK ZH := (o_aload 0 (o_getf 5 4 (o_callV0 M 0 zno tX0_finishEdit Kx h0 (o_istore 1 (o_iload 1 (o_if1 (fun x => x ≤ 0) (bX5_finishEdit_27 M Kn Kx h0) (o_aload 0 (o_getf 5 5 (o_aload 0 (o_getf 5 1 (o_aload 0 (o_getf 5 4 (o_callV2 M 3 zno tX3_refresh Kx h0 (bX5_finishEdit_27 M Kn Kx h0))))))))))))))
def bX5_decide_78 (M : Nat) (Kn : Option Value → ZH → Prop) (Kx : Nat → Prop) (h0 : ZH) : ZK ZH := (o_vret Kn)
def bX5_decide_60 (M : Nat) (Kn : Option Value → ZH → Prop) (Kx : Nat → Prop) (h0 : ZH) : ZK ZH := (o_iload 2 (o_mabs (o_ic (3) (o_if2 (fun x y => x < y) (bX5_decide_78 M Kn Kx h0) (o_aload 0 (o_getf 5 3 (o_getf 2 3 (o_iload 1 (o_ic (2) (o_iast (bX5_decide_78 M Kn Kx h0)))))))))))
def bX5_decide_0 (M : Nat) (Kn : Option Value → ZH → Prop) (Kx : Nat → Prop) (h0 : ZH) : ZK ZH := (o_iload 2 (o_ic (3) (o_if2 (fun x y => x < y) (bX5_decide_60 M Kn Kx h0) (o_aload 0 (o_getf 5 3 (o_aload 0 (o_getf 5 1 (o_iload 1 (o_callV2 M 2 zno tX2_isAllowedBy Kx h0 (o_if1 (fun x => x = 0) (bX5_decide_60 M Kn Kx h0) (o_aload 0 (o_getf 5 3 (o_getf 2 3 (o_iload 1 (o_ic (1) (o_iast (o_aload 0 (o_getf 5 3 (o_aload 0 (o_getf 5 1 (o_iload 1 (o_callV2 M 2 zno tX2_carryOut Kx h0 (o_aload 0 (o_getf 5 5 (o_aload 0 (o_getf 5 1 (o_aload 0 (o_getf 5 4 (o_callV2 M 3 zno tX3_refresh Kx h0 (bX5_decide_78 M Kn Kx h0))))))))))))))))))))))))))))))
def bX5_isOpenAndAllowed_32 (M : Nat) (Kn : Option Value → ZH → Prop) (Kx : Nat → Prop) (h0 : ZH) : ZK ZH := (o_ret .boolean Kn)
def bX5_isOpenAndAllowed_31 (M : Nat) (Kn : Option Value → ZH → Prop) (Kx : Nat → Prop) (h0 : ZH) : ZK ZH := (o_ic (0) (bX5_isOpenAndAllowed_32 M Kn Kx h0))
def bX5_isOpenAndAllowed_0 (M : Nat) (Kn : Option Value → ZH → Prop) (Kx : Nat → Prop) (h0 : ZH) : ZK ZH := (o_aload 0 (o_getf 5 3 (o_getf 2 3 (o_iload 1 (o_ald 0 (o_if1 (fun x => ¬ x = 0) (bX5_isOpenAndAllowed_31 M Kn Kx h0) (o_aload 0 (o_getf 5 3 (o_aload 0 (o_getf 5 1 (o_iload 1 (o_callV2 M 2 zno tX2_isAllowedBy Kx h0 (o_if1 (fun x => x = 0) (bX5_isOpenAndAllowed_31 M Kn Kx h0) (o_ic (1) (bX5_isOpenAndAllowed_32 M Kn Kx h0)))))))))))))))
def bX5_isAllowedBehind_0 (M : Nat) (Kn : Option Value → ZH → Prop) (Kx : Nat → Prop) (h0 : ZH) : ZK ZH := (o_aload 0 (o_getf 5 2 (o_aload 0 (o_getf 5 1 (o_callV1 M 4 zno tX4_copyFrom Kx h0 (o_aload 0 (o_getf 5 3 (o_aload 0 (o_getf 5 2 (o_iload 1 (o_callV2 M 2 zno tX2_carryOut Kx h0 (o_aload 0 (o_getf 5 3 (o_aload 0 (o_getf 5 2 (o_iload 2 (o_callV2 M 2 zno tX2_isAllowedBy Kx h0 (o_ret .boolean Kn))))))))))))))))))
def bX5_matching_109 (M : Nat) (Kn : Option Value → ZH → Prop) (Kx : Nat → Prop) (h0 : ZH) (K28 : ZK ZH) : ZK ZH := (o_iinc 6 (1) K28)
def bX5_matching_91 (M : Nat) (Kn : Option Value → ZH → Prop) (Kx : Nat → Prop) (h0 : ZH) (K28 : ZK ZH) : ZK ZH := (o_iload 3 (o_iload 6 (o_callS2 M zno tX5_has Kx h0 (o_if1 (fun x => x = 0) (bX5_matching_109 M Kn Kx h0 K28) (o_iload 4 (o_iload 7 (o_ic (-1) (o_bin (fun x y => x ^^^ y) (o_bin (fun x y => x &&& y) (o_istore 4 (bX5_matching_109 M Kn Kx h0 K28)))))))))))
def bX5_matching_75 (M : Nat) (Kn : Option Value → ZH → Prop) (Kx : Nat → Prop) (h0 : ZH) (K28 : ZK ZH) : ZK ZH := (o_iload 2 (o_iload 6 (o_callS2 M zno tX5_has Kx h0 (o_if1 (fun x => x = 0) (bX5_matching_91 M Kn Kx h0 K28) (o_iload 5 (o_iload 7 (o_bin (fun x y => x ||| y) (o_istore 5 (bX5_matching_91 M Kn Kx h0 K28)))))))))
def bX5_matching_28 (M : Nat) (Kn : Option Value → ZH → Prop) (Kx : Nat → Prop) (h0 : ZH) (K28 : ZK ZH) : ZK ZH := (o_iload 6 (o_aload 0 (o_getf 5 0 (o_getf 1 3 (o_if2 (fun x y => y ≤ x) (o_iload 4 (o_iload 5 (o_bin (fun x y => x &&& y) (o_ret .int Kn)))) (o_aload 0 (o_getf 5 5 (o_getf 3 0 (o_aload 0 (o_getf 5 1 (o_iload 6 (o_callV1 M 4 zno tX4_endOf Kx h0 (o_ald 0 (o_istore 7 (o_iload 1 (o_iload 6 (o_callS2 M zno tX5_has Kx h0 (o_if1 (fun x => x = 0) (bX5_matching_75 M Kn Kx h0 K28) (o_iload 4 (o_iload 7 (o_bin (fun x y => x &&& y) (o_istore 4 (bX5_matching_75 M Kn Kx h0 K28)))))))))))))))))))))))
def bX5_matching_23 (M : Nat) (Kn : Option Value → ZH → Prop) (Kx : Nat → Prop) (h0 : ZH) (K28 : ZK ZH) : ZK ZH := (o_istore 5 (o_ic (0) (o_istore 6 K28)))
def bX5_matching_0 (M : Nat) (Kn : Option Value → ZH → Prop) (Kx : Nat → Prop) (h0 : ZH) (K28 : ZK ZH) : ZK ZH := (o_ic (1) (o_aload 0 (o_getf 5 4 (o_getf 0 4 (o_bin (fun x y => x <<< (y &&& 31)) (o_ic (1) (o_bin (fun x y => x - y) (o_istore 4 (o_iload 2 (o_if1 (fun x => ¬ x = 0) (o_ic (0) (bX5_matching_23 M Kn Kx h0 K28)) (o_iload 4 (bX5_matching_23 M Kn Kx h0 K28))))))))))))
def bX5_memberAt_28 (M : Nat) (Kn : Option Value → ZH → Prop) (Kx : Nat → Prop) (h0 : ZH) (K4 : ZK ZH) : ZK ZH := (o_iinc 3 (1) K4)
def bX5_memberAt_4 (M : Nat) (Kn : Option Value → ZH → Prop) (Kx : Nat → Prop) (h0 : ZH) (K4 : ZK ZH) : ZK ZH := (o_iload 3 (o_ic (20) (o_if2 (fun x y => y ≤ x) (o_ic (-1) (o_ret .int Kn)) (o_iload 0 (o_iload 3 (o_callS2 M zno tX5_has Kx h0 (o_if1 (fun x => x = 0) (bX5_memberAt_28 M Kn Kx h0 K4) (o_iload 2 (o_iload 1 (o_if2 (fun x y => ¬ x = y) (o_iinc 2 (1) (bX5_memberAt_28 M Kn Kx h0 K4)) (o_iload 3 (o_ret .int Kn))))))))))))
def bX5_memberAt_0 (M : Nat) (Kn : Option Value → ZH → Prop) (Kx : Nat → Prop) (h0 : ZH) (K4 : ZK ZH) : ZK ZH := (o_ic (0) (o_istore 2 (o_ic (0) (o_istore 3 K4))))
def bX5_massEdited_0 (M : Nat) (Kn : Option Value → ZH → Prop) (Kx : Nat → Prop) (h0 : ZH) : ZK ZH := (o_iload 0 (o_lsw01 (o_iload 1 (o_ic (1) (o_iload 3 (o_bin (fun x y => x <<< (y &&& 31)) (o_bin (fun x y => x ||| y) (o_ret .int Kn)))))) (o_iload 1 (o_ic (1) (o_iload 3 (o_bin (fun x y => x <<< (y &&& 31)) (o_ic (-1) (o_bin (fun x y => x ^^^ y) (o_bin (fun x y => x &&& y) (o_ret .int Kn)))))))) (o_iload 1 (o_ic (1) (o_iload 2 (o_bin (fun x y => x <<< (y &&& 31)) (o_ic (-1) (o_bin (fun x y => x ^^^ y) (o_bin (fun x y => x &&& y) (o_ic (1) (o_iload 3 (o_bin (fun x y => x <<< (y &&& 31)) (o_bin (fun x y => x ||| y) (o_ret .int Kn))))))))))))))
def bX5_isNameCharacter_41 (M : Nat) (Kn : Option Value → ZH → Prop) (Kx : Nat → Prop) (h0 : ZH) : ZK ZH := (o_ret .boolean Kn)
def bX5_isNameCharacter_36 (M : Nat) (Kn : Option Value → ZH → Prop) (Kx : Nat → Prop) (h0 : ZH) : ZK ZH := (o_ic (1) (bX5_isNameCharacter_41 M Kn Kx h0))
def bX5_isNameCharacter_24 (M : Nat) (Kn : Option Value → ZH → Prop) (Kx : Nat → Prop) (h0 : ZH) : ZK ZH := (o_iload 0 (o_ic (45) (o_if2 (fun x y => x = y) (bX5_isNameCharacter_36 M Kn Kx h0) (o_iload 0 (o_ic (95) (o_if2 (fun x y => ¬ x = y) (o_ic (0) (bX5_isNameCharacter_41 M Kn Kx h0)) (bX5_isNameCharacter_36 M Kn Kx h0)))))))
def bX5_isNameCharacter_12 (M : Nat) (Kn : Option Value → ZH → Prop) (Kx : Nat → Prop) (h0 : ZH) : ZK ZH := (o_iload 0 (o_ic (65) (o_if2 (fun x y => x < y) (bX5_isNameCharacter_24 M Kn Kx h0) (o_iload 0 (o_ic (90) (o_if2 (fun x y => x ≤ y) (bX5_isNameCharacter_36 M Kn Kx h0) (bX5_isNameCharacter_24 M Kn Kx h0)))))))
def bX5_isNameCharacter_0 (M : Nat) (Kn : Option Value → ZH → Prop) (Kx : Nat → Prop) (h0 : ZH) : ZK ZH := (o_iload 0 (o_ic (97) (o_if2 (fun x y => x < y) (bX5_isNameCharacter_12 M Kn Kx h0) (o_iload 0 (o_ic (122) (o_if2 (fun x y => x ≤ y) (bX5_isNameCharacter_36 M Kn Kx h0) (bX5_isNameCharacter_12 M Kn Kx h0)))))))
set_option maxRecDepth 20000 in
theorem sX5_type_0 {l : Launch} {z0 b N M : Nat} {D : va_G} {cA : Nat → ClassId} {p : Program} {e : Env} {s : State} {m : MethodId} {args : Array Value} {below : List Frame} {meth : Method} {c : Code} {Kn : Option Value → ZH → Prop} {Kx : Nat → Prop} {h0 : ZH} (C : zCx p l (zRm 6 M 82) s m args meth c cX5_type 2 RX5 z0 D cA M) (htab : ∀ x ∈ c.exceptionTable.toList, False) (hr : meth.sig.returnType = (some .int)) (HX5_isNameCharacter : Sem l z0 b N D cA yX5_isNameCharacter cX5_isNameCharacter 1 (some .boolean) 0 0 1 zno tX5_isNameCharacter) (HX1_append : Sem l z0 b N D cA yX1_append cX1_append 2 none 0 0 2 zno tX1_append) : Snd p l e (zRm 6 M 82) s m args below meth c 2 z0 b (zI z0 b N D cA s) (fun _ => (0, 0)) (vx_MQ below (zQn z0 b N D cA Kn) (zXn z0 b N D cA Kx h0) args s M (6 * M) (fun q => z0 ≤ q)) 0 (bX5_type_0 M Kn Kx h0) := by
  obtain ⟨hx, hb, hml, hown, hts, -⟩ := id C
  unfold bX5_type_0
  refine k_iload_n hx hb dX5_type_0 rfl ?_
  refine k_callS1 C htab HX5_isNameCharacter zlX5_47 zsX5_isNameCharacter ziX5 zcX5_isNameCharacter (by decide +kernel) ⟨Nat.le_of_ble_eq_true rfl, Nat.le_of_ble_eq_true rfl⟩ dX5_type_1 ?_
  refine k_if_ne (tgt := 17) hx hb dX5_type_4 (by decide) ?_ ?_
  · refine k_aload_n hx hb dX5_type_17 rfl ?_
    refine k_getf C (ci := 5) (k := 0) (Tf := TX5) (Nf := 6) (Cn := RX5) rfl zinX5 (by decide) rfl zfX5_10 dX5_type_18 ?_
    refine k_getf C (ci := 1) (k := 4) (Tf := TX1) (Nf := 5) (Cn := RX1) rfl zinX1 (by decide) rfl zfX5_58 dX5_type_21 ?_
    refine k_bipush hx hb dX5_type_24 (by decide) ?_
    refine k_icmp_lt (tgt := 39) hx hb dX5_type_26 (by decide) ?_ ?_
    · refine k_aload_n hx hb dX5_type_39 rfl ?_
      refine k_getf C (ci := 5) (k := 0) (Tf := TX5) (Nf := 6) (Cn := RX5) rfl zinX5 (by decide) rfl zfX5_10 dX5_type_40 ?_
      refine k_iload_n hx hb dX5_type_43 rfl ?_
      refine k_callV1 C htab (ci := 1) (Tf := TX1) (Nf := 5) (Cn := RX1) rfl HX1_append rfl zlX5_67 zmX1_append zvX1_append ziX1 zcX1_append (by decide +kernel) ⟨Nat.le_of_ble_eq_true rfl, Nat.le_of_ble_eq_true rfl⟩ dX5_type_44 ?_
      refine k_aload_n hx hb dX5_type_47 rfl ?_
      refine k_getf C (ci := 5) (k := 0) (Tf := TX5) (Nf := 6) (Cn := RX5) rfl zinX5 (by decide) rfl zfX5_10 dX5_type_48 ?_
      refine k_getf C (ci := 1) (k := 4) (Tf := TX1) (Nf := 5) (Cn := RX1) rfl zinX1 (by decide) rfl zfX5_58 dX5_type_51 ?_
      exact k_ret C hr dX5_type_54
    · exact k_throw C htab (k := 1) (ik := 62) (is := 64) (ic := 66) (X := "java/lang/IllegalStateException") (text := "the draft is full") rfl (by decide +kernel) (by decide +kernel) zfit1 zfitN znX5_62 ziIllegalStateException zat1_66 zat2_66 zat3_66 dX5_type_29 dX5_type_32 dX5_type_33 dX5_type_35 dX5_type_38 ⟨Nat.le_of_ble_eq_true rfl, Nat.le_of_ble_eq_true rfl⟩
  · exact k_throw C htab (k := 0) (ik := 51) (is := 53) (ic := 55) (X := "java/lang/IllegalArgumentException") (text := "no character of names") rfl (by decide +kernel) (by decide +kernel) zfit0 zfitN znX5_51 ziIllegalArgumentException zat1_55 zat2_55 zat3_55 dX5_type_7 dX5_type_10 dX5_type_11 dX5_type_13 dX5_type_16 ⟨Nat.le_of_ble_eq_true rfl, Nat.le_of_ble_eq_true rfl⟩
set_option maxRecDepth 20000 in
theorem uX5_type {l : Launch} {z0 b N : Nat} {D : va_G} {cA : Nat → ClassId} (hlt : l.stackTraces = false) (HX5_isNameCharacter : Sem l z0 b N D cA yX5_isNameCharacter cX5_isNameCharacter 1 (some .boolean) 0 0 1 zno tX5_isNameCharacter) (HX1_append : Sem l z0 b N D cA yX1_append cX1_append 2 none 0 0 2 zno tX1_append) (spec : ∀ (M : Nat) (a : List Value) (h : ZH) (Kn : Option Value → ZH → Prop) (Kx : Nat → Prop), zok 2 a = true → (∀ k, eX5_type a h k → M = 1 ∧ Kx k) → ((∀ k, ¬ eX5_type a h k) → tX5_type a h Kn) → bX5_type_0 M Kn Kx h (zE 2 a) [] h) : Sem l z0 b N D cA yX5_type cX5_type 2 (some .int) 6 82 2 eX5_type tX5_type :=
  sem_of hlt (by decide +kernel) (by decide) (fun p e s m args below meth c M a h Kn Kx hok hX hN C hr htab => sX5_type_0 C htab hr HX5_isNameCharacter HX1_append _ _ _ (spec M a h Kn Kx hok hX hN))
set_option maxRecDepth 20000 in
theorem sX5_enter_84 {l : Launch} {z0 b N M : Nat} {D : va_G} {cA : Nat → ClassId} {p : Program} {e : Env} {s : State} {m : MethodId} {args : Array Value} {below : List Frame} {meth : Method} {c : Code} {Kn : Option Value → ZH → Prop} {Kx : Nat → Prop} {h0 : ZH} (C : zCx p l (zRm 6 M 90) s m args meth c cX5_enter 3 RX5 z0 D cA M) (htab : ∀ x ∈ c.exceptionTable.toList, False) (hr : meth.sig.returnType = (some .int)) (HX1_findDraft : Sem l z0 b N D cA yX1_findDraft cX1_findDraft 2 (some .int) 2 44 1 zno tX1_findDraft) (HX1_addDraft : Sem l z0 b N D cA yX1_addDraft cX1_addDraft 2 (some .int) 0 0 1 zno tX1_addDraft) (HX4_grow : Sem l z0 b N D cA yX4_grow cX4_grow 3 none 3 68 2 zno tX4_grow) (HX1_emptyDraft : Sem l z0 b N D cA yX1_emptyDraft cX1_emptyDraft 1 none 0 0 1 zno tX1_emptyDraft) : Snd p l e (zRm 6 M 90) s m args below meth c 3 z0 b (zI z0 b N D cA s) (fun _ => (0, 0)) (vx_MQ below (zQn z0 b N D cA Kn) (zXn z0 b N D cA Kx h0) args s M (6 * M) (fun q => z0 ≤ q)) 84 (bX5_enter_84 M Kn Kx h0) := by
  obtain ⟨hx, hb, hml, hown, hts, -⟩ := id C
  unfold bX5_enter_84
  refine k_aload_n hx hb dX5_enter_84 rfl ?_
  refine k_getf C (ci := 5) (k := 0) (Tf := TX5) (Nf := 6) (Cn := RX5) rfl zinX5 (by decide) rfl zfX5_10 dX5_enter_85 ?_
  refine k_callV0 C htab (ci := 1) (Tf := TX1) (Nf := 5) (Cn := RX1) rfl HX1_emptyDraft rfl zlX5_89 zmX1_emptyDraft zvX1_emptyDraft ziX1 zcX1_emptyDraft (by decide +kernel) ⟨Nat.le_of_ble_eq_true rfl, Nat.le_of_ble_eq_true rfl⟩ dX5_enter_88 ?_
  refine k_iload_n hx hb dX5_enter_91 rfl ?_
  exact k_ret C hr dX5_enter_92
set_option maxRecDepth 20000 in
theorem sX5_enter_55 {l : Launch} {z0 b N M : Nat} {D : va_G} {cA : Nat → ClassId} {p : Program} {e : Env} {s : State} {m : MethodId} {args : Array Value} {below : List Frame} {meth : Method} {c : Code} {Kn : Option Value → ZH → Prop} {Kx : Nat → Prop} {h0 : ZH} (C : zCx p l (zRm 6 M 90) s m args meth c cX5_enter 3 RX5 z0 D cA M) (htab : ∀ x ∈ c.exceptionTable.toList, False) (hr : meth.sig.returnType = (some .int)) (HX1_findDraft : Sem l z0 b N D cA yX1_findDraft cX1_findDraft 2 (some .int) 2 44 1 zno tX1_findDraft) (HX1_addDraft : Sem l z0 b N D cA yX1_addDraft cX1_addDraft 2 (some .int) 0 0 1 zno tX1_addDraft) (HX4_grow : Sem l z0 b N D cA yX4_grow cX4_grow 3 none 3 68 2 zno tX4_grow) (HX1_emptyDraft : Sem l z0 b N D cA yX1_emptyDraft cX1_emptyDraft 1 none 0 0 1 zno tX1_emptyDraft) : Snd p l e (zRm 6 M 90) s m args below meth c 3 z0 b (zI z0 b N D cA s) (fun _ => (0, 0)) (vx_MQ below (zQn z0 b N D cA Kn) (zXn z0 b N D cA Kx h0) args s M (6 * M) (fun q => z0 ≤ q)) 55 (bX5_enter_55 M Kn Kx h0) := by
  obtain ⟨hx, hb, hml, hown, hts, -⟩ := id C
  unfold bX5_enter_55
  refine k_iload_n hx hb dX5_enter_55 rfl ?_
  refine k_istore_n hx hb dX5_enter_56 rfl ?_
  refine k_iload_n hx hb dX5_enter_57 rfl ?_
  refine k_iconst hx hb dX5_enter_58 (by decide) ?_
  refine k_icmp_ne (tgt := 84) hx hb dX5_enter_59 (by decide) ?_ ?_
  · exact sX5_enter_84 C htab hr HX1_findDraft HX1_addDraft HX4_grow HX1_emptyDraft
  · refine k_aload_n hx hb dX5_enter_62 rfl ?_
    refine k_getf C (ci := 5) (k := 0) (Tf := TX5) (Nf := 6) (Cn := RX5) rfl zinX5 (by decide) rfl zfX5_10 dX5_enter_63 ?_
    refine k_callV0 C htab (ci := 1) (Tf := TX1) (Nf := 5) (Cn := RX1) rfl HX1_addDraft rfl zlX5_82 zmX1_addDraft zvX1_addDraft ziX1 zcX1_addDraft (by decide +kernel) ⟨Nat.le_of_ble_eq_true rfl, Nat.le_of_ble_eq_true rfl⟩ dX5_enter_66 ?_
    refine k_istore_n hx hb dX5_enter_69 rfl ?_
    refine k_aload_n hx hb dX5_enter_70 rfl ?_
    refine k_getf C (ci := 5) (k := 1) (Tf := TX5) (Nf := 6) (Cn := RX5) rfl zinX5 (by decide) rfl zfX5_19 dX5_enter_71 ?_
    refine k_aload_n hx hb dX5_enter_74 rfl ?_
    refine k_getf C (ci := 5) (k := 0) (Tf := TX5) (Nf := 6) (Cn := RX5) rfl zinX5 (by decide) rfl zfX5_10 dX5_enter_75 ?_
    refine k_getf C (ci := 1) (k := 3) (Tf := TX1) (Nf := 5) (Cn := RX1) rfl zinX1 (by decide) rfl zfX5_77 dX5_enter_78 ?_
    refine k_callV1 C htab (ci := 4) (Tf := TX4) (Nf := 5) (Cn := RX4) rfl HX4_grow rfl zlX5_85 zmX4_grow zvX4_grow ziX4 zcX4_grow (by decide +kernel) ⟨Nat.le_of_ble_eq_true rfl, Nat.le_of_ble_eq_true rfl⟩ dX5_enter_81 ?_
    exact sX5_enter_84 C htab hr HX1_findDraft HX1_addDraft HX4_grow HX1_emptyDraft
set_option maxRecDepth 20000 in
theorem sX5_enter_0 {l : Launch} {z0 b N M : Nat} {D : va_G} {cA : Nat → ClassId} {p : Program} {e : Env} {s : State} {m : MethodId} {args : Array Value} {below : List Frame} {meth : Method} {c : Code} {Kn : Option Value → ZH → Prop} {Kx : Nat → Prop} {h0 : ZH} (C : zCx p l (zRm 6 M 90) s m args meth c cX5_enter 3 RX5 z0 D cA M) (htab : ∀ x ∈ c.exceptionTable.toList, False) (hr : meth.sig.returnType = (some .int)) (HX1_findDraft : Sem l z0 b N D cA yX1_findDraft cX1_findDraft 2 (some .int) 2 44 1 zno tX1_findDraft) (HX1_addDraft : Sem l z0 b N D cA yX1_addDraft cX1_addDraft 2 (some .int) 0 0 1 zno tX1_addDraft) (HX4_grow : Sem l z0 b N D cA yX4_grow cX4_grow 3 none 3 68 2 zno tX4_grow) (HX1_emptyDraft : Sem l z0 b N D cA yX1_emptyDraft cX1_emptyDraft 1 none 0 0 1 zno tX1_emptyDraft) : Snd p l e (zRm 6 M 90) s m args below meth c 3 z0 b (zI z0 b N D cA s) (fun _ => (0, 0)) (vx_MQ below (zQn z0 b N D cA Kn) (zXn z0 b N D cA Kx h0) args s M (6 * M) (fun q => z0 ≤ q)) 0 (bX5_enter_0 M Kn Kx h0) := by
  obtain ⟨hx, hb, hml, hown, hts, -⟩ := id C
  unfold bX5_enter_0
  refine k_aload_n hx hb dX5_enter_0 rfl ?_
  refine k_getf C (ci := 5) (k := 0) (Tf := TX5) (Nf := 6) (Cn := RX5) rfl zinX5 (by decide) rfl zfX5_10 dX5_enter_1 ?_
  refine k_getf C (ci := 1) (k := 4) (Tf := TX1) (Nf := 5) (Cn := RX1) rfl zinX1 (by decide) rfl zfX5_58 dX5_enter_4 ?_
  refine k_if_ne (tgt := 20) hx hb dX5_enter_7 (by decide) ?_ ?_
  · refine k_aload_n hx hb dX5_enter_20 rfl ?_
    refine k_getf C (ci := 5) (k := 0) (Tf := TX5) (Nf := 6) (Cn := RX5) rfl zinX5 (by decide) rfl zfX5_10 dX5_enter_21 ?_
    refine k_callV0 C htab (ci := 1) (Tf := TX1) (Nf := 5) (Cn := RX1) rfl HX1_findDraft rfl zlX5_73 zmX1_findDraft zvX1_findDraft ziX1 zcX1_findDraft (by decide +kernel) ⟨Nat.le_of_ble_eq_true rfl, Nat.le_of_ble_eq_true rfl⟩ dX5_enter_24 ?_
    refine k_istore_n hx hb dX5_enter_27 rfl ?_
    refine k_iload_n hx hb dX5_enter_28 rfl ?_
    refine k_iconst hx hb dX5_enter_29 (by decide) ?_
    refine k_icmp_ne (tgt := 55) hx hb dX5_enter_30 (by decide) ?_ ?_
    · exact sX5_enter_55 C htab hr HX1_findDraft HX1_addDraft HX4_grow HX1_emptyDraft
    · refine k_aload_n hx hb dX5_enter_33 rfl ?_
      refine k_getf C (ci := 5) (k := 0) (Tf := TX5) (Nf := 6) (Cn := RX5) rfl zinX5 (by decide) rfl zfX5_10 dX5_enter_34 ?_
      refine k_getf C (ci := 1) (k := 3) (Tf := TX1) (Nf := 5) (Cn := RX1) rfl zinX1 (by decide) rfl zfX5_77 dX5_enter_37 ?_
      refine k_bipush hx hb dX5_enter_40 (by decide) ?_
      refine k_icmp_lt (tgt := 55) hx hb dX5_enter_42 (by decide) ?_ ?_
      · exact sX5_enter_55 C htab hr HX1_findDraft HX1_addDraft HX4_grow HX1_emptyDraft
      · exact k_throw C htab (k := 1) (ik := 62) (is := 80) (ic := 66) (X := "java/lang/IllegalStateException") (text := "there are no more tags to be had") rfl (by decide +kernel) (by decide +kernel) zfit1 zfitN znX5_62 ziIllegalStateException zat1_66 zat2_66 zat3_66 dX5_enter_45 dX5_enter_48 dX5_enter_49 dX5_enter_51 dX5_enter_54 ⟨Nat.le_of_ble_eq_true rfl, Nat.le_of_ble_eq_true rfl⟩
  · exact k_throw C htab (k := 1) (ik := 62) (is := 71) (ic := 66) (X := "java/lang/IllegalStateException") (text := "the draft is empty") rfl (by decide +kernel) (by decide +kernel) zfit1 zfitN znX5_62 ziIllegalStateException zat1_66 zat2_66 zat3_66 dX5_enter_10 dX5_enter_13 dX5_enter_14 dX5_enter_16 dX5_enter_19 ⟨Nat.le_of_ble_eq_true rfl, Nat.le_of_ble_eq_true rfl⟩
set_option maxRecDepth 20000 in
theorem uX5_enter {l : Launch} {z0 b N : Nat} {D : va_G} {cA : Nat → ClassId} (hlt : l.stackTraces = false) (HX1_findDraft : Sem l z0 b N D cA yX1_findDraft cX1_findDraft 2 (some .int) 2 44 1 zno tX1_findDraft) (HX1_addDraft : Sem l z0 b N D cA yX1_addDraft cX1_addDraft 2 (some .int) 0 0 1 zno tX1_addDraft) (HX4_grow : Sem l z0 b N D cA yX4_grow cX4_grow 3 none 3 68 2 zno tX4_grow) (HX1_emptyDraft : Sem l z0 b N D cA yX1_emptyDraft cX1_emptyDraft 1 none 0 0 1 zno tX1_emptyDraft) (spec : ∀ (M : Nat) (a : List Value) (h : ZH) (Kn : Option Value → ZH → Prop) (Kx : Nat → Prop), zok 1 a = true → (∀ k, eX5_enter a h k → M = 1 ∧ Kx k) → ((∀ k, ¬ eX5_enter a h k) → tX5_enter a h Kn) → bX5_enter_0 M Kn Kx h (zE 3 a) [] h) : Sem l z0 b N D cA yX5_enter cX5_enter 3 (some .int) 6 90 1 eX5_enter tX5_enter :=
  sem_of hlt (by decide +kernel) (by decide) (fun p e s m args below meth c M a h Kn Kx hok hX hN C hr htab => sX5_enter_0 C htab hr HX1_findDraft HX1_addDraft HX4_grow HX1_emptyDraft _ _ _ (spec M a h Kn Kx hok hX hN))
set_option maxRecDepth 20000 in
theorem sX5_tags_0 {l : Launch} {z0 b N M : Nat} {D : va_G} {cA : Nat → ClassId} {p : Program} {e : Env} {s : State} {m : MethodId} {args : Array Value} {below : List Frame} {meth : Method} {c : Code} {Kn : Option Value → ZH → Prop} {Kx : Nat → Prop} {h0 : ZH} (C : zCx p l (zRm 0 M 0) s m args meth c cX5_tags 1 RX5 z0 D cA M) (htab : ∀ x ∈ c.exceptionTable.toList, False) (hr : meth.sig.returnType = (some .int)) : Snd p l e (zRm 0 M 0) s m args below meth c 1 z0 b (zI z0 b N D cA s) (fun _ => (0, 0)) (vx_MQ below (zQn z0 b N D cA Kn) (zXn z0 b N D cA Kx h0) args s M (6 * M) (fun q => z0 ≤ q)) 0 (bX5_tags_0 M Kn Kx h0) := by
  obtain ⟨hx, hb, hml, hown, hts, -⟩ := id C
  unfold bX5_tags_0
  refine k_aload_n hx hb dX5_tags_0 rfl ?_
  refine k_getf C (ci := 5) (k := 0) (Tf := TX5) (Nf := 6) (Cn := RX5) rfl zinX5 (by decide) rfl zfX5_10 dX5_tags_1 ?_
  refine k_getf C (ci := 1) (k := 3) (Tf := TX1) (Nf := 5) (Cn := RX1) rfl zinX1 (by decide) rfl zfX5_77 dX5_tags_4 ?_
  exact k_ret C hr dX5_tags_7
set_option maxRecDepth 20000 in
theorem uX5_tags {l : Launch} {z0 b N : Nat} {D : va_G} {cA : Nat → ClassId} (hlt : l.stackTraces = false) (spec : ∀ (M : Nat) (a : List Value) (h : ZH) (Kn : Option Value → ZH → Prop) (Kx : Nat → Prop), zok 1 a = true → tX5_tags a h Kn → bX5_tags_0 M Kn Kx h (zE 1 a) [] h) : Sem l z0 b N D cA yX5_tags cX5_tags 1 (some .int) 0 0 1 zno tX5_tags :=
  sem_of hlt (by decide +kernel) (by decide) (fun p e s m args below meth c M a h Kn Kx hok hX hN C hr htab => sX5_tags_0 C htab hr _ _ _ (spec M a h Kn Kx hok (hN (fun _ h9 => h9))))
set_option maxRecDepth 20000 in
theorem sX5_letter_22 {l : Launch} {z0 b N M : Nat} {D : va_G} {cA : Nat → ClassId} {p : Program} {e : Env} {s : State} {m : MethodId} {args : Array Value} {below : List Frame} {meth : Method} {c : Code} {Kn : Option Value → ZH → Prop} {Kx : Nat → Prop} {h0 : ZH} (C : zCx p l (zRm 7 M 103) s m args meth c cX5_letter 3 RX5 z0 D cA M) (htab : ∀ x ∈ c.exceptionTable.toList, False) (hr : meth.sig.returnType = (some .char)) (HX5_needTag : Sem l z0 b N D cA yX5_needTag cX5_needTag 2 none 6 82 2 eX5_needTag tX5_needTag) (HX1_letterAt : Sem l z0 b N D cA yX1_letterAt cX1_letterAt 3 (some .char) 0 0 3 zno tX1_letterAt) : Snd p l e (zRm 7 M 103) s m args below meth c 3 z0 b (zI z0 b N D cA s) (fun _ => (0, 0)) (vx_MQ below (zQn z0 b N D cA Kn) (zXn z0 b N D cA Kx h0) args s M (6 * M) (fun q => z0 ≤ q)) 22 (bX5_letter_22 M Kn Kx h0) := by
  obtain ⟨hx, hb, hml, hown, hts, -⟩ := id C
  unfold bX5_letter_22
  exact k_throw C htab (k := 2) (ik := 99) (is := 101) (ic := 103) (X := "java/lang/IndexOutOfBoundsException") (text := "no such character") rfl (by decide +kernel) (by decide +kernel) zfit2 zfitN znX5_99 ziIndexOutOfBoundsException zat1_103 zat2_103 zat3_103 dX5_letter_22 dX5_letter_25 dX5_letter_26 dX5_letter_28 dX5_letter_31 ⟨Nat.le_of_ble_eq_true rfl, Nat.le_of_ble_eq_true rfl⟩
set_option maxRecDepth 20000 in
theorem sX5_letter_0 {l : Launch} {z0 b N M : Nat} {D : va_G} {cA : Nat → ClassId} {p : Program} {e : Env} {s : State} {m : MethodId} {args : Array Value} {below : List Frame} {meth : Method} {c : Code} {Kn : Option Value → ZH → Prop} {Kx : Nat → Prop} {h0 : ZH} (C : zCx p l (zRm 7 M 103) s m args meth c cX5_letter 3 RX5 z0 D cA M) (htab : ∀ x ∈ c.exceptionTable.toList, False) (hr : meth.sig.returnType = (some .char)) (HX5_needTag : Sem l z0 b N D cA yX5_needTag cX5_needTag 2 none 6 82 2 eX5_needTag tX5_needTag) (HX1_letterAt : Sem l z0 b N D cA yX1_letterAt cX1_letterAt 3 (some .char) 0 0 3 zno tX1_letterAt) : Snd p l e (zRm 7 M 103) s m args below meth c 3 z0 b (zI z0 b N D cA s) (fun _ => (0, 0)) (vx_MQ below (zQn z0 b N D cA Kn) (zXn z0 b N D cA Kx h0) args s M (6 * M) (fun q => z0 ≤ q)) 0 (bX5_letter_0 M Kn Kx h0) := by
  obtain ⟨hx, hb, hml, hown, hts, -⟩ := id C
  unfold bX5_letter_0
  refine k_aload_n hx hb dX5_letter_0 rfl ?_
  refine k_iload_n hx hb dX5_letter_1 rfl ?_
  refine k_callV1 C htab (ci := 5) (Tf := TX5) (Nf := 6) (Cn := RX5) rfl HX5_needTag rfl zlX5_92 zmX5_needTag zvX5_needTag ziX5 zcX5_needTag (by decide +kernel) ⟨Nat.le_of_ble_eq_true rfl, Nat.le_of_ble_eq_true rfl⟩ dX5_letter_2 ?_
  refine k_iload_n hx hb dX5_letter_5 rfl ?_
  refine k_if_lt (tgt := 22) hx hb dX5_letter_6 (by decide) ?_ ?_
  · exact sX5_letter_22 C htab hr HX5_needTag HX1_letterAt
  · refine k_iload_n hx hb dX5_letter_9 rfl ?_
    refine k_aload_n hx hb dX5_letter_10 rfl ?_
    refine k_getf C (ci := 5) (k := 0) (Tf := TX5) (Nf := 6) (Cn := RX5) rfl zinX5 (by decide) rfl zfX5_10 dX5_letter_11 ?_
    refine k_getf C (ci := 1) (k := 1) (Tf := TX1) (Nf := 5) (Cn := RX1) rfl zinX1 (by decide) rfl zfX5_95 dX5_letter_14 ?_
    refine k_iload_n hx hb dX5_letter_17 rfl ?_
    refine k_iald C dX5_letter_18 ?_
    refine k_icmp_lt (tgt := 32) hx hb dX5_letter_19 (by decide) ?_ ?_
    · refine k_aload_n hx hb dX5_letter_32 rfl ?_
      refine k_getf C (ci := 5) (k := 0) (Tf := TX5) (Nf := 6) (Cn := RX5) rfl zinX5 (by decide) rfl zfX5_10 dX5_letter_33 ?_
      refine k_iload_n hx hb dX5_letter_36 rfl ?_
      refine k_iload_n hx hb dX5_letter_37 rfl ?_
      refine k_callV2 C htab (ci := 1) (Tf := TX1) (Nf := 5) (Cn := RX1) rfl HX1_letterAt rfl zlX5_104 zmX1_letterAt zvX1_letterAt ziX1 zcX1_letterAt (by decide +kernel) ⟨Nat.le_of_ble_eq_true rfl, Nat.le_of_ble_eq_true rfl⟩ dX5_letter_38 ?_
      exact k_ret C hr dX5_letter_41
    · exact sX5_letter_22 C htab hr HX5_needTag HX1_letterAt
set_option maxRecDepth 20000 in
theorem uX5_letter {l : Launch} {z0 b N : Nat} {D : va_G} {cA : Nat → ClassId} (hlt : l.stackTraces = false) (HX5_needTag : Sem l z0 b N D cA yX5_needTag cX5_needTag 2 none 6 82 2 eX5_needTag tX5_needTag) (HX1_letterAt : Sem l z0 b N D cA yX1_letterAt cX1_letterAt 3 (some .char) 0 0 3 zno tX1_letterAt) (spec : ∀ (M : Nat) (a : List Value) (h : ZH) (Kn : Option Value → ZH → Prop) (Kx : Nat → Prop), zok 3 a = true → (∀ k, eX5_letter a h k → M = 1 ∧ Kx k) → ((∀ k, ¬ eX5_letter a h k) → tX5_letter a h Kn) → bX5_letter_0 M Kn Kx h (zE 3 a) [] h) : Sem l z0 b N D cA yX5_letter cX5_letter 3 (some .char) 7 103 3 eX5_letter tX5_letter :=
  sem_of hlt (by decide +kernel) (by decide) (fun p e s m args below meth c M a h Kn Kx hok hX hN C hr htab => sX5_letter_0 C htab hr HX5_needTag HX1_letterAt _ _ _ (spec M a h Kn Kx hok hX hN))
set_option maxRecDepth 20000 in
theorem sX5_addThing_0 {l : Launch} {z0 b N M : Nat} {D : va_G} {cA : Nat → ClassId} {p : Program} {e : Env} {s : State} {m : MethodId} {args : Array Value} {below : List Frame} {meth : Method} {c : Code} {Kn : Option Value → ZH → Prop} {Kx : Nat → Prop} {h0 : ZH} (C : zCx p l (zRm 6 M 82) s m args meth c cX5_addThing 1 RX5 z0 D cA M) (htab : ∀ x ∈ c.exceptionTable.toList, False) (hr : meth.sig.returnType = (some .int)) : Snd p l e (zRm 6 M 82) s m args below meth c 1 z0 b (zI z0 b N D cA s) (fun _ => (0, 0)) (vx_MQ below (zQn z0 b N D cA Kn) (zXn z0 b N D cA Kx h0) args s M (6 * M) (fun q => z0 ≤ q)) 0 (bX5_addThing_0 M Kn Kx h0) := by
  obtain ⟨hx, hb, hml, hown, hts, -⟩ := id C
  unfold bX5_addThing_0
  refine k_aload_n hx hb dX5_addThing_0 rfl ?_
  refine k_getf C (ci := 5) (k := 4) (Tf := TX5) (Nf := 6) (Cn := RX5) rfl zinX5 (by decide) rfl zfX5_36 dX5_addThing_1 ?_
  refine k_getf C (ci := 0) (k := 4) (Tf := TX0) (Nf := 7) (Cn := RX0) rfl zinX0 (by decide) rfl zfX5_108 dX5_addThing_4 ?_
  refine k_bipush hx hb dX5_addThing_7 (by decide) ?_
  refine k_icmp_lt (tgt := 22) hx hb dX5_addThing_9 (by decide) ?_ ?_
  · refine k_aload_n hx hb dX5_addThing_22 rfl ?_
    refine k_getf C (ci := 5) (k := 4) (Tf := TX5) (Nf := 6) (Cn := RX5) rfl zinX5 (by decide) rfl zfX5_36 dX5_addThing_23 ?_
    refine k_dup hx hb dX5_addThing_26 ?_
    refine k_getf C (ci := 0) (k := 4) (Tf := TX0) (Nf := 7) (Cn := RX0) rfl zinX0 (by decide) rfl zfX5_108 dX5_addThing_27 ?_
    refine k_iconst hx hb dX5_addThing_30 (by decide) ?_
    refine k_iadd hx hb dX5_addThing_31 ?_
    refine k_puti C (ci := 0) (k := 4) (Tf := TX0) (Nf := 7) (Cn := RX0) tyX0 tyX0_ok nmX0 rfl zinX0 (by decide) rfl rfl (by decide +kernel) zfX5_108 dX5_addThing_32 ?_
    refine k_aload_n hx hb dX5_addThing_35 rfl ?_
    refine k_getf C (ci := 5) (k := 4) (Tf := TX5) (Nf := 6) (Cn := RX5) rfl zinX5 (by decide) rfl zfX5_36 dX5_addThing_36 ?_
    refine k_getf C (ci := 0) (k := 4) (Tf := TX0) (Nf := 7) (Cn := RX0) rfl zinX0 (by decide) rfl zfX5_108 dX5_addThing_39 ?_
    refine k_iconst hx hb dX5_addThing_42 (by decide) ?_
    refine k_isub hx hb dX5_addThing_43 ?_
    exact k_ret C hr dX5_addThing_44
  · exact k_throw C htab (k := 1) (ik := 62) (is := 109) (ic := 66) (X := "java/lang/IllegalStateException") (text := "there are no more things to be had") rfl (by decide +kernel) (by decide +kernel) zfit1 zfitN znX5_62 ziIllegalStateException zat1_66 zat2_66 zat3_66 dX5_addThing_12 dX5_addThing_15 dX5_addThing_16 dX5_addThing_18 dX5_addThing_21 ⟨Nat.le_of_ble_eq_true rfl, Nat.le_of_ble_eq_true rfl⟩
set_option maxRecDepth 20000 in
theorem uX5_addThing {l : Launch} {z0 b N : Nat} {D : va_G} {cA : Nat → ClassId} (hlt : l.stackTraces = false) (spec : ∀ (M : Nat) (a : List Value) (h : ZH) (Kn : Option Value → ZH → Prop) (Kx : Nat → Prop), zok 1 a = true → (∀ k, eX5_addThing a h k → M = 1 ∧ Kx k) → ((∀ k, ¬ eX5_addThing a h k) → tX5_addThing a h Kn) → bX5_addThing_0 M Kn Kx h (zE 1 a) [] h) : Sem l z0 b N D cA yX5_addThing cX5_addThing 1 (some .int) 6 82 1 eX5_addThing tX5_addThing :=
  sem_of hlt (by decide +kernel) (by decide) (fun p e s m args below meth c M a h Kn Kx hok hX hN C hr htab => sX5_addThing_0 C htab hr _ _ _ (spec M a h Kn Kx hok hX hN))
set_option maxRecDepth 20000 in
theorem sX5_things_0 {l : Launch} {z0 b N M : Nat} {D : va_G} {cA : Nat → ClassId} {p : Program} {e : Env} {s : State} {m : MethodId} {args : Array Value} {below : List Frame} {meth : Method} {c : Code} {Kn : Option Value → ZH → Prop} {Kx : Nat → Prop} {h0 : ZH} (C : zCx p l (zRm 0 M 0) s m args meth c cX5_things 1 RX5 z0 D cA M) (htab : ∀ x ∈ c.exceptionTable.toList, False) (hr : meth.sig.returnType = (some .int)) : Snd p l e (zRm 0 M 0) s m args below meth c 1 z0 b (zI z0 b N D cA s) (fun _ => (0, 0)) (vx_MQ below (zQn z0 b N D cA Kn) (zXn z0 b N D cA Kx h0) args s M (6 * M) (fun q => z0 ≤ q)) 0 (bX5_things_0 M Kn Kx h0) := by
  obtain ⟨hx, hb, hml, hown, hts, -⟩ := id C
  unfold bX5_things_0
  refine k_aload_n hx hb dX5_things_0 rfl ?_
  refine k_getf C (ci := 5) (k := 4) (Tf := TX5) (Nf := 6) (Cn := RX5) rfl zinX5 (by decide) rfl zfX5_36 dX5_things_1 ?_
  refine k_getf C (ci := 0) (k := 4) (Tf := TX0) (Nf := 7) (Cn := RX0) rfl zinX0 (by decide) rfl zfX5_108 dX5_things_4 ?_
  exact k_ret C hr dX5_things_7
set_option maxRecDepth 20000 in
theorem uX5_things {l : Launch} {z0 b N : Nat} {D : va_G} {cA : Nat → ClassId} (hlt : l.stackTraces = false) (spec : ∀ (M : Nat) (a : List Value) (h : ZH) (Kn : Option Value → ZH → Prop) (Kx : Nat → Prop), zok 1 a = true → tX5_things a h Kn → bX5_things_0 M Kn Kx h (zE 1 a) [] h) : Sem l z0 b N D cA yX5_things cX5_things 1 (some .int) 0 0 1 zno tX5_things :=
  sem_of hlt (by decide +kernel) (by decide) (fun p e s m args below meth c M a h Kn Kx hok hX hN C hr htab => sX5_things_0 C htab hr _ _ _ (spec M a h Kn Kx hok (hN (fun _ h9 => h9))))
set_option maxRecDepth 20000 in
theorem sX5_tag_44 {l : Launch} {z0 b N M : Nat} {D : va_G} {cA : Nat → ClassId} {p : Program} {e : Env} {s : State} {m : MethodId} {args : Array Value} {below : List Frame} {meth : Method} {c : Code} {Kn : Option Value → ZH → Prop} {Kx : Nat → Prop} {h0 : ZH} (C : zCx p l (zRm 7 M 103) s m args meth c cX5_tag 3 RX5 z0 D cA M) (htab : ∀ x ∈ c.exceptionTable.toList, False) (hr : meth.sig.returnType = (some .boolean)) (HX5_needThing : Sem l z0 b N D cA yX5_needThing cX5_needThing 2 none 6 82 2 eX5_needThing tX5_needThing) (HX5_needTag : Sem l z0 b N D cA yX5_needTag cX5_needTag 2 none 6 82 2 eX5_needTag tX5_needTag) (HX0_startEdit : Sem l z0 b N D cA yX0_startEdit cX0_startEdit 2 none 0 0 1 zno tX0_startEdit) (HX5_finishEdit : Sem l z0 b N D cA yX5_finishEdit cX5_finishEdit 2 (some .int) 3 72 1 zno tX5_finishEdit) : Snd p l e (zRm 7 M 103) s m args below meth c 3 z0 b (zI z0 b N D cA s) (fun _ => (0, 0)) (vx_MQ below (zQn z0 b N D cA Kn) (zXn z0 b N D cA Kx h0) args s M (6 * M) (fun q => z0 ≤ q)) 44 (bX5_tag_44 M Kn Kx h0) := by
  obtain ⟨hx, hb, hml, hown, hts, -⟩ := id C
  unfold bX5_tag_44
  exact k_ret C hr dX5_tag_44
set_option maxRecDepth 20000 in
theorem sX5_tag_0 {l : Launch} {z0 b N M : Nat} {D : va_G} {cA : Nat → ClassId} {p : Program} {e : Env} {s : State} {m : MethodId} {args : Array Value} {below : List Frame} {meth : Method} {c : Code} {Kn : Option Value → ZH → Prop} {Kx : Nat → Prop} {h0 : ZH} (C : zCx p l (zRm 7 M 103) s m args meth c cX5_tag 3 RX5 z0 D cA M) (htab : ∀ x ∈ c.exceptionTable.toList, False) (hr : meth.sig.returnType = (some .boolean)) (HX5_needThing : Sem l z0 b N D cA yX5_needThing cX5_needThing 2 none 6 82 2 eX5_needThing tX5_needThing) (HX5_needTag : Sem l z0 b N D cA yX5_needTag cX5_needTag 2 none 6 82 2 eX5_needTag tX5_needTag) (HX0_startEdit : Sem l z0 b N D cA yX0_startEdit cX0_startEdit 2 none 0 0 1 zno tX0_startEdit) (HX5_finishEdit : Sem l z0 b N D cA yX5_finishEdit cX5_finishEdit 2 (some .int) 3 72 1 zno tX5_finishEdit) : Snd p l e (zRm 7 M 103) s m args below meth c 3 z0 b (zI z0 b N D cA s) (fun _ => (0, 0)) (vx_MQ below (zQn z0 b N D cA Kn) (zXn z0 b N D cA Kx h0) args s M (6 * M) (fun q => z0 ≤ q)) 0 (bX5_tag_0 M Kn Kx h0) := by
  obtain ⟨hx, hb, hml, hown, hts, -⟩ := id C
  unfold bX5_tag_0
  refine k_aload_n hx hb dX5_tag_0 rfl ?_
  refine k_iload_n hx hb dX5_tag_1 rfl ?_
  refine k_callV1 C htab (ci := 5) (Tf := TX5) (Nf := 6) (Cn := RX5) rfl HX5_needThing rfl zlX5_111 zmX5_needThing zvX5_needThing ziX5 zcX5_needThing (by decide +kernel) ⟨Nat.le_of_ble_eq_true rfl, Nat.le_of_ble_eq_true rfl⟩ dX5_tag_2 ?_
  refine k_aload_n hx hb dX5_tag_5 rfl ?_
  refine k_iload_n hx hb dX5_tag_6 rfl ?_
  refine k_callV1 C htab (ci := 5) (Tf := TX5) (Nf := 6) (Cn := RX5) rfl HX5_needTag rfl zlX5_92 zmX5_needTag zvX5_needTag ziX5 zcX5_needTag (by decide +kernel) ⟨Nat.le_of_ble_eq_true rfl, Nat.le_of_ble_eq_true rfl⟩ dX5_tag_7 ?_
  refine k_aload_n hx hb dX5_tag_10 rfl ?_
  refine k_getf C (ci := 5) (k := 4) (Tf := TX5) (Nf := 6) (Cn := RX5) rfl zinX5 (by decide) rfl zfX5_36 dX5_tag_11 ?_
  refine k_callV0 C htab (ci := 0) (Tf := TX0) (Nf := 7) (Cn := RX0) rfl HX0_startEdit rfl zlX5_114 zmX0_startEdit zvX0_startEdit ziX0 zcX0_startEdit (by decide +kernel) ⟨Nat.le_of_ble_eq_true rfl, Nat.le_of_ble_eq_true rfl⟩ dX5_tag_14 ?_
  refine k_aload_n hx hb dX5_tag_17 rfl ?_
  refine k_getf C (ci := 5) (k := 4) (Tf := TX5) (Nf := 6) (Cn := RX5) rfl zinX5 (by decide) rfl zfX5_36 dX5_tag_18 ?_
  refine k_getf C (ci := 0) (k := 1) (Tf := TX0) (Nf := 7) (Cn := RX0) rfl zinX0 (by decide) rfl zfX5_117 dX5_tag_21 ?_
  refine k_iload_n hx hb dX5_tag_24 rfl ?_
  refine k_dup2 hx hb dX5_tag_25 ?_
  refine k_iald C dX5_tag_26 ?_
  refine k_iconst hx hb dX5_tag_27 (by decide) ?_
  refine k_iload_n hx hb dX5_tag_28 rfl ?_
  refine k_ishl hx hb dX5_tag_29 ?_
  refine k_ior hx hb dX5_tag_30 ?_
  refine k_iast C dX5_tag_31 ?_
  refine k_aload_n hx hb dX5_tag_32 rfl ?_
  refine k_callV0 C htab (ci := 5) (Tf := TX5) (Nf := 6) (Cn := RX5) rfl HX5_finishEdit rfl zlX5_120 zmX5_finishEdit zvX5_finishEdit ziX5 zcX5_finishEdit (by decide +kernel) ⟨Nat.le_of_ble_eq_true rfl, Nat.le_of_ble_eq_true rfl⟩ dX5_tag_33 ?_
  refine k_if_le (tgt := 43) hx hb dX5_tag_36 (by decide) ?_ ?_
  · refine k_iconst hx hb dX5_tag_43 (by decide) ?_
    exact sX5_tag_44 C htab hr HX5_needThing HX5_needTag HX0_startEdit HX5_finishEdit
  · refine k_iconst hx hb dX5_tag_39 (by decide) ?_
    refine k_goto (tgt := 44) hx hb dX5_tag_40 (by decide) ?_
    exact sX5_tag_44 C htab hr HX5_needThing HX5_needTag HX0_startEdit HX5_finishEdit
set_option maxRecDepth 20000 in
theorem uX5_tag {l : Launch} {z0 b N : Nat} {D : va_G} {cA : Nat → ClassId} (hlt : l.stackTraces = false) (HX5_needThing : Sem l z0 b N D cA yX5_needThing cX5_needThing 2 none 6 82 2 eX5_needThing tX5_needThing) (HX5_needTag : Sem l z0 b N D cA yX5_needTag cX5_needTag 2 none 6 82 2 eX5_needTag tX5_needTag) (HX0_startEdit : Sem l z0 b N D cA yX0_startEdit cX0_startEdit 2 none 0 0 1 zno tX0_startEdit) (HX5_finishEdit : Sem l z0 b N D cA yX5_finishEdit cX5_finishEdit 2 (some .int) 3 72 1 zno tX5_finishEdit) (spec : ∀ (M : Nat) (a : List Value) (h : ZH) (Kn : Option Value → ZH → Prop) (Kx : Nat → Prop), zok 3 a = true → (∀ k, eX5_tag a h k → M = 1 ∧ Kx k) → ((∀ k, ¬ eX5_tag a h k) → tX5_tag a h Kn) → bX5_tag_0 M Kn Kx h (zE 3 a) [] h) : Sem l z0 b N D cA yX5_tag cX5_tag 3 (some .boolean) 7 103 3 eX5_tag tX5_tag :=
  sem_of hlt (by decide +kernel) (by decide) (fun p e s m args below meth c M a h Kn Kx hok hX hN C hr htab => sX5_tag_0 C htab hr HX5_needThing HX5_needTag HX0_startEdit HX5_finishEdit _ _ _ (spec M a h Kn Kx hok hX hN))
set_option maxRecDepth 20000 in
theorem sX5_untag_46 {l : Launch} {z0 b N M : Nat} {D : va_G} {cA : Nat → ClassId} {p : Program} {e : Env} {s : State} {m : MethodId} {args : Array Value} {below : List Frame} {meth : Method} {c : Code} {Kn : Option Value → ZH → Prop} {Kx : Nat → Prop} {h0 : ZH} (C : zCx p l (zRm 7 M 103) s m args meth c cX5_untag 3 RX5 z0 D cA M) (htab : ∀ x ∈ c.exceptionTable.toList, False) (hr : meth.sig.returnType = (some .boolean)) (HX5_needThing : Sem l z0 b N D cA yX5_needThing cX5_needThing 2 none 6 82 2 eX5_needThing tX5_needThing) (HX5_needTag : Sem l z0 b N D cA yX5_needTag cX5_needTag 2 none 6 82 2 eX5_needTag tX5_needTag) (HX0_startEdit : Sem l z0 b N D cA yX0_startEdit cX0_startEdit 2 none 0 0 1 zno tX0_startEdit) (HX5_finishEdit : Sem l z0 b N D cA yX5_finishEdit cX5_finishEdit 2 (some .int) 3 72 1 zno tX5_finishEdit) : Snd p l e (zRm 7 M 103) s m args below meth c 3 z0 b (zI z0 b N D cA s) (fun _ => (0, 0)) (vx_MQ below (zQn z0 b N D cA Kn) (zXn z0 b N D cA Kx h0) args s M (6 * M) (fun q => z0 ≤ q)) 46 (bX5_untag_46 M Kn Kx h0) := by
  obtain ⟨hx, hb, hml, hown, hts, -⟩ := id C
  unfold bX5_untag_46
  exact k_ret C hr dX5_untag_46
set_option maxRecDepth 20000 in
theorem sX5_untag_0 {l : Launch} {z0 b N M : Nat} {D : va_G} {cA : Nat → ClassId} {p : Program} {e : Env} {s : State} {m : MethodId} {args : Array Value} {below : List Frame} {meth : Method} {c : Code} {Kn : Option Value → ZH → Prop} {Kx : Nat → Prop} {h0 : ZH} (C : zCx p l (zRm 7 M 103) s m args meth c cX5_untag 3 RX5 z0 D cA M) (htab : ∀ x ∈ c.exceptionTable.toList, False) (hr : meth.sig.returnType = (some .boolean)) (HX5_needThing : Sem l z0 b N D cA yX5_needThing cX5_needThing 2 none 6 82 2 eX5_needThing tX5_needThing) (HX5_needTag : Sem l z0 b N D cA yX5_needTag cX5_needTag 2 none 6 82 2 eX5_needTag tX5_needTag) (HX0_startEdit : Sem l z0 b N D cA yX0_startEdit cX0_startEdit 2 none 0 0 1 zno tX0_startEdit) (HX5_finishEdit : Sem l z0 b N D cA yX5_finishEdit cX5_finishEdit 2 (some .int) 3 72 1 zno tX5_finishEdit) : Snd p l e (zRm 7 M 103) s m args below meth c 3 z0 b (zI z0 b N D cA s) (fun _ => (0, 0)) (vx_MQ below (zQn z0 b N D cA Kn) (zXn z0 b N D cA Kx h0) args s M (6 * M) (fun q => z0 ≤ q)) 0 (bX5_untag_0 M Kn Kx h0) := by
  obtain ⟨hx, hb, hml, hown, hts, -⟩ := id C
  unfold bX5_untag_0
  refine k_aload_n hx hb dX5_untag_0 rfl ?_
  refine k_iload_n hx hb dX5_untag_1 rfl ?_
  refine k_callV1 C htab (ci := 5) (Tf := TX5) (Nf := 6) (Cn := RX5) rfl HX5_needThing rfl zlX5_111 zmX5_needThing zvX5_needThing ziX5 zcX5_needThing (by decide +kernel) ⟨Nat.le_of_ble_eq_true rfl, Nat.le_of_ble_eq_true rfl⟩ dX5_untag_2 ?_
  refine k_aload_n hx hb dX5_untag_5 rfl ?_
  refine k_iload_n hx hb dX5_untag_6 rfl ?_
  refine k_callV1 C htab (ci := 5) (Tf := TX5) (Nf := 6) (Cn := RX5) rfl HX5_needTag rfl zlX5_92 zmX5_needTag zvX5_needTag ziX5 zcX5_needTag (by decide +kernel) ⟨Nat.le_of_ble_eq_true rfl, Nat.le_of_ble_eq_true rfl⟩ dX5_untag_7 ?_
  refine k_aload_n hx hb dX5_untag_10 rfl ?_
  refine k_getf C (ci := 5) (k := 4) (Tf := TX5) (Nf := 6) (Cn := RX5) rfl zinX5 (by decide) rfl zfX5_36 dX5_untag_11 ?_
  refine k_callV0 C htab (ci := 0) (Tf := TX0) (Nf := 7) (Cn := RX0) rfl HX0_startEdit rfl zlX5_114 zmX0_startEdit zvX0_startEdit ziX0 zcX0_startEdit (by decide +kernel) ⟨Nat.le_of_ble_eq_true rfl, Nat.le_of_ble_eq_true rfl⟩ dX5_untag_14 ?_
  refine k_aload_n hx hb dX5_untag_17 rfl ?_
  refine k_getf C (ci := 5) (k := 4) (Tf := TX5) (Nf := 6) (Cn := RX5) rfl zinX5 (by decide) rfl zfX5_36 dX5_untag_18 ?_
  refine k_getf C (ci := 0) (k := 1) (Tf := TX0) (Nf := 7) (Cn := RX0) rfl zinX0 (by decide) rfl zfX5_117 dX5_untag_21 ?_
  refine k_iload_n hx hb dX5_untag_24 rfl ?_
  refine k_dup2 hx hb dX5_untag_25 ?_
  refine k_iald C dX5_untag_26 ?_
  refine k_iconst hx hb dX5_untag_27 (by decide) ?_
  refine k_iload_n hx hb dX5_untag_28 rfl ?_
  refine k_ishl hx hb dX5_untag_29 ?_
  refine k_iconst hx hb dX5_untag_30 (by decide) ?_
  refine k_ixor hx hb dX5_untag_31 ?_
  refine k_iand hx hb dX5_untag_32 ?_
  refine k_iast C dX5_untag_33 ?_
  refine k_aload_n hx hb dX5_untag_34 rfl ?_
  refine k_callV0 C htab (ci := 5) (Tf := TX5) (Nf := 6) (Cn := RX5) rfl HX5_finishEdit rfl zlX5_120 zmX5_finishEdit zvX5_finishEdit ziX5 zcX5_finishEdit (by decide +kernel) ⟨Nat.le_of_ble_eq_true rfl, Nat.le_of_ble_eq_true rfl⟩ dX5_untag_35 ?_
  refine k_if_le (tgt := 45) hx hb dX5_untag_38 (by decide) ?_ ?_
  · refine k_iconst hx hb dX5_untag_45 (by decide) ?_
    exact sX5_untag_46 C htab hr HX5_needThing HX5_needTag HX0_startEdit HX5_finishEdit
  · refine k_iconst hx hb dX5_untag_41 (by decide) ?_
    refine k_goto (tgt := 46) hx hb dX5_untag_42 (by decide) ?_
    exact sX5_untag_46 C htab hr HX5_needThing HX5_needTag HX0_startEdit HX5_finishEdit
set_option maxRecDepth 20000 in
theorem uX5_untag {l : Launch} {z0 b N : Nat} {D : va_G} {cA : Nat → ClassId} (hlt : l.stackTraces = false) (HX5_needThing : Sem l z0 b N D cA yX5_needThing cX5_needThing 2 none 6 82 2 eX5_needThing tX5_needThing) (HX5_needTag : Sem l z0 b N D cA yX5_needTag cX5_needTag 2 none 6 82 2 eX5_needTag tX5_needTag) (HX0_startEdit : Sem l z0 b N D cA yX0_startEdit cX0_startEdit 2 none 0 0 1 zno tX0_startEdit) (HX5_finishEdit : Sem l z0 b N D cA yX5_finishEdit cX5_finishEdit 2 (some .int) 3 72 1 zno tX5_finishEdit) (spec : ∀ (M : Nat) (a : List Value) (h : ZH) (Kn : Option Value → ZH → Prop) (Kx : Nat → Prop), zok 3 a = true → (∀ k, eX5_untag a h k → M = 1 ∧ Kx k) → ((∀ k, ¬ eX5_untag a h k) → tX5_untag a h Kn) → bX5_untag_0 M Kn Kx h (zE 3 a) [] h) : Sem l z0 b N D cA yX5_untag cX5_untag 3 (some .boolean) 7 103 3 eX5_untag tX5_untag :=
  sem_of hlt (by decide +kernel) (by decide) (fun p e s m args below meth c M a h Kn Kx hok hX hN C hr htab => sX5_untag_0 C htab hr HX5_needThing HX5_needTag HX0_startEdit HX5_finishEdit _ _ _ (spec M a h Kn Kx hok hX hN))
set_option maxRecDepth 20000 in
theorem sX5_mass_131 {l : Launch} {z0 b N M : Nat} {D : va_G} {cA : Nat → ClassId} {p : Program} {e : Env} {s : State} {m : MethodId} {args : Array Value} {below : List Frame} {meth : Method} {c : Code} {Kn : Option Value → ZH → Prop} {Kx : Nat → Prop} {h0 : ZH} {K57 : ZK ZH} (C : zCx p l (zRm 7 M 103) s m args meth c cX5_mass 7 RX5 z0 D cA M) (htab : ∀ x ∈ c.exceptionTable.toList, False) (hr : meth.sig.returnType = (some .int)) (HX5_needTag : Sem l z0 b N D cA yX5_needTag cX5_needTag 2 none 6 82 2 eX5_needTag tX5_needTag) (HX4_endOf : Sem l z0 b N D cA yX4_endOf cX4_endOf 5 (some .int) 0 0 2 zno tX4_endOf) (HX0_startEdit : Sem l z0 b N D cA yX0_startEdit cX0_startEdit 2 none 0 0 1 zno tX0_startEdit) (HX5_has : Sem l z0 b N D cA yX5_has cX5_has 2 (some .boolean) 0 0 2 zno tX5_has) (HX5_massEdited : Sem l z0 b N D cA yX5_massEdited cX5_massEdited 4 (some .int) 0 0 4 zno tX5_massEdited) (HX5_finishEdit : Sem l z0 b N D cA yX5_finishEdit cX5_finishEdit 2 (some .int) 3 72 1 zno tX5_finishEdit) (hK57 : Snd p l e (zRm 7 M 103) s m args below meth c 7 z0 b (zI z0 b N D cA s) (fun _ => (0, 0)) (vx_MQ below (zQn z0 b N D cA Kn) (zXn z0 b N D cA Kx h0) args s M (6 * M) (fun q => z0 ≤ q)) 57 K57) : Snd p l e (zRm 7 M 103) s m args below meth c 7 z0 b (zI z0 b N D cA s) (fun _ => (0, 0)) (vx_MQ below (zQn z0 b N D cA Kn) (zXn z0 b N D cA Kx h0) args s M (6 * M) (fun q => z0 ≤ q)) 131 (bX5_mass_131 M Kn Kx h0 K57) := by
  obtain ⟨hx, hb, hml, hown, hts, -⟩ := id C
  unfold bX5_mass_131
  refine k_iinc hx hb dX5_mass_131 (by decide) ?_
  refine k_goto (tgt := 57) hx hb dX5_mass_134 (by decide) ?_
  exact hK57
set_option maxRecDepth 20000 in
theorem sX5_mass_98 {l : Launch} {z0 b N M : Nat} {D : va_G} {cA : Nat → ClassId} {p : Program} {e : Env} {s : State} {m : MethodId} {args : Array Value} {below : List Frame} {meth : Method} {c : Code} {Kn : Option Value → ZH → Prop} {Kx : Nat → Prop} {h0 : ZH} {K57 : ZK ZH} (C : zCx p l (zRm 7 M 103) s m args meth c cX5_mass 7 RX5 z0 D cA M) (htab : ∀ x ∈ c.exceptionTable.toList, False) (hr : meth.sig.returnType = (some .int)) (HX5_needTag : Sem l z0 b N D cA yX5_needTag cX5_needTag 2 none 6 82 2 eX5_needTag tX5_needTag) (HX4_endOf : Sem l z0 b N D cA yX4_endOf cX4_endOf 5 (some .int) 0 0 2 zno tX4_endOf) (HX0_startEdit : Sem l z0 b N D cA yX0_startEdit cX0_startEdit 2 none 0 0 1 zno tX0_startEdit) (HX5_has : Sem l z0 b N D cA yX5_has cX5_has 2 (some .boolean) 0 0 2 zno tX5_has) (HX5_massEdited : Sem l z0 b N D cA yX5_massEdited cX5_massEdited 4 (some .int) 0 0 4 zno tX5_massEdited) (HX5_finishEdit : Sem l z0 b N D cA yX5_finishEdit cX5_finishEdit 2 (some .int) 3 72 1 zno tX5_finishEdit) (hK57 : Snd p l e (zRm 7 M 103) s m args below meth c 7 z0 b (zI z0 b N D cA s) (fun _ => (0, 0)) (vx_MQ below (zQn z0 b N D cA Kn) (zXn z0 b N D cA Kx h0) args s M (6 * M) (fun q => z0 ≤ q)) 57 K57) : Snd p l e (zRm 7 M 103) s m args below meth c 7 z0 b (zI z0 b N D cA s) (fun _ => (0, 0)) (vx_MQ below (zQn z0 b N D cA Kn) (zXn z0 b N D cA Kx h0) args s M (6 * M) (fun q => z0 ≤ q)) 98 (bX5_mass_98 M Kn Kx h0 K57) := by
  obtain ⟨hx, hb, hml, hown, hts, -⟩ := id C
  unfold bX5_mass_98
  refine k_istore hx hb dX5_mass_98 ?_
  refine k_iload hx hb dX5_mass_100 ?_
  refine k_if_eq (tgt := 131) hx hb dX5_mass_102 (by decide) ?_ ?_
  · exact sX5_mass_131 C htab hr HX5_needTag HX4_endOf HX0_startEdit HX5_has HX5_massEdited HX5_finishEdit hK57
  · refine k_aload_n hx hb dX5_mass_105 rfl ?_
    refine k_getf C (ci := 5) (k := 4) (Tf := TX5) (Nf := 6) (Cn := RX5) rfl zinX5 (by decide) rfl zfX5_36 dX5_mass_106 ?_
    refine k_getf C (ci := 0) (k := 1) (Tf := TX0) (Nf := 7) (Cn := RX0) rfl zinX0 (by decide) rfl zfX5_117 dX5_mass_109 ?_
    refine k_iload hx hb dX5_mass_112 ?_
    refine k_iload_n hx hb dX5_mass_114 rfl ?_
    refine k_aload_n hx hb dX5_mass_115 rfl ?_
    refine k_getf C (ci := 5) (k := 4) (Tf := TX5) (Nf := 6) (Cn := RX5) rfl zinX5 (by decide) rfl zfX5_36 dX5_mass_116 ?_
    refine k_getf C (ci := 0) (k := 0) (Tf := TX0) (Nf := 7) (Cn := RX0) rfl zinX0 (by decide) rfl zfX5_132 dX5_mass_119 ?_
    refine k_iload hx hb dX5_mass_122 ?_
    refine k_iald C dX5_mass_124 ?_
    refine k_iload_n hx hb dX5_mass_125 rfl ?_
    refine k_iload_n hx hb dX5_mass_126 rfl ?_
    refine k_callS4 C htab HX5_massEdited zlX5_139 zsX5_massEdited ziX5 zcX5_massEdited (by decide +kernel) ⟨Nat.le_of_ble_eq_true rfl, Nat.le_of_ble_eq_true rfl⟩ dX5_mass_127 ?_
    refine k_iast C dX5_mass_130 ?_
    exact sX5_mass_131 C htab hr HX5_needTag HX4_endOf HX0_startEdit HX5_has HX5_massEdited HX5_finishEdit hK57
set_option maxRecDepth 20000 in
theorem sX5_mass_57 {l : Launch} {z0 b N M : Nat} {D : va_G} {cA : Nat → ClassId} {p : Program} {e : Env} {s : State} {m : MethodId} {args : Array Value} {below : List Frame} {meth : Method} {c : Code} {Kn : Option Value → ZH → Prop} {Kx : Nat → Prop} {h0 : ZH} {K57 : ZK ZH} (C : zCx p l (zRm 7 M 103) s m args meth c cX5_mass 7 RX5 z0 D cA M) (htab : ∀ x ∈ c.exceptionTable.toList, False) (hr : meth.sig.returnType = (some .int)) (HX5_needTag : Sem l z0 b N D cA yX5_needTag cX5_needTag 2 none 6 82 2 eX5_needTag tX5_needTag) (HX4_endOf : Sem l z0 b N D cA yX4_endOf cX4_endOf 5 (some .int) 0 0 2 zno tX4_endOf) (HX0_startEdit : Sem l z0 b N D cA yX0_startEdit cX0_startEdit 2 none 0 0 1 zno tX0_startEdit) (HX5_has : Sem l z0 b N D cA yX5_has cX5_has 2 (some .boolean) 0 0 2 zno tX5_has) (HX5_massEdited : Sem l z0 b N D cA yX5_massEdited cX5_massEdited 4 (some .int) 0 0 4 zno tX5_massEdited) (HX5_finishEdit : Sem l z0 b N D cA yX5_finishEdit cX5_finishEdit 2 (some .int) 3 72 1 zno tX5_finishEdit) (hK57 : Snd p l e (zRm 7 M 103) s m args below meth c 7 z0 b (zI z0 b N D cA s) (fun _ => (0, 0)) (vx_MQ below (zQn z0 b N D cA Kn) (zXn z0 b N D cA Kx h0) args s M (6 * M) (fun q => z0 ≤ q)) 57 K57) : Snd p l e (zRm 7 M 103) s m args below meth c 7 z0 b (zI z0 b N D cA s) (fun _ => (0, 0)) (vx_MQ below (zQn z0 b N D cA Kn) (zXn z0 b N D cA Kx h0) args s M (6 * M) (fun q => z0 ≤ q)) 57 (bX5_mass_57 M Kn Kx h0 K57) := by
  obtain ⟨hx, hb, hml, hown, hts, -⟩ := id C
  unfold bX5_mass_57
  refine k_iload hx hb dX5_mass_57 ?_
  refine k_aload_n hx hb dX5_mass_59 rfl ?_
  refine k_getf C (ci := 5) (k := 4) (Tf := TX5) (Nf := 6) (Cn := RX5) rfl zinX5 (by decide) rfl zfX5_36 dX5_mass_60 ?_
  refine k_getf C (ci := 0) (k := 4) (Tf := TX0) (Nf := 7) (Cn := RX0) rfl zinX0 (by decide) rfl zfX5_108 dX5_mass_63 ?_
  refine k_icmp_ge (tgt := 137) hx hb dX5_mass_66 (by decide) ?_ ?_
  · refine k_aload_n hx hb dX5_mass_137 rfl ?_
    refine k_callV0 C htab (ci := 5) (Tf := TX5) (Nf := 6) (Cn := RX5) rfl HX5_finishEdit rfl zlX5_120 zmX5_finishEdit zvX5_finishEdit ziX5 zcX5_finishEdit (by decide +kernel) ⟨Nat.le_of_ble_eq_true rfl, Nat.le_of_ble_eq_true rfl⟩ dX5_mass_138 ?_
    exact k_ret C hr dX5_mass_141
  · refine k_iload_n hx hb dX5_mass_69 rfl ?_
    refine k_iconst hx hb dX5_mass_70 (by decide) ?_
    refine k_icmp_ne (tgt := 91) hx hb dX5_mass_71 (by decide) ?_ ?_
    · refine k_iload hx hb dX5_mass_91 ?_
      refine k_iload hx hb dX5_mass_93 ?_
      refine k_callS2 C htab HX5_has zlX5_135 zsX5_has ziX5 zcX5_has (by decide +kernel) ⟨Nat.le_of_ble_eq_true rfl, Nat.le_of_ble_eq_true rfl⟩ dX5_mass_95 ?_
      exact sX5_mass_98 C htab hr HX5_needTag HX4_endOf HX0_startEdit HX5_has HX5_massEdited HX5_finishEdit hK57
    · refine k_aload_n hx hb dX5_mass_74 rfl ?_
      refine k_getf C (ci := 5) (k := 4) (Tf := TX5) (Nf := 6) (Cn := RX5) rfl zinX5 (by decide) rfl zfX5_36 dX5_mass_75 ?_
      refine k_getf C (ci := 0) (k := 0) (Tf := TX0) (Nf := 7) (Cn := RX0) rfl zinX0 (by decide) rfl zfX5_132 dX5_mass_78 ?_
      refine k_iload hx hb dX5_mass_81 ?_
      refine k_iald C dX5_mass_83 ?_
      refine k_iload_n hx hb dX5_mass_84 rfl ?_
      refine k_callS2 C htab HX5_has zlX5_135 zsX5_has ziX5 zcX5_has (by decide +kernel) ⟨Nat.le_of_ble_eq_true rfl, Nat.le_of_ble_eq_true rfl⟩ dX5_mass_85 ?_
      refine k_goto (tgt := 98) hx hb dX5_mass_88 (by decide) ?_
      exact sX5_mass_98 C htab hr HX5_needTag HX4_endOf HX0_startEdit HX5_has HX5_massEdited HX5_finishEdit hK57
set_option maxRecDepth 20000 in
theorem sX5_mass_19 {l : Launch} {z0 b N M : Nat} {D : va_G} {cA : Nat → ClassId} {p : Program} {e : Env} {s : State} {m : MethodId} {args : Array Value} {below : List Frame} {meth : Method} {c : Code} {Kn : Option Value → ZH → Prop} {Kx : Nat → Prop} {h0 : ZH} {K57 : ZK ZH} (C : zCx p l (zRm 7 M 103) s m args meth c cX5_mass 7 RX5 z0 D cA M) (htab : ∀ x ∈ c.exceptionTable.toList, False) (hr : meth.sig.returnType = (some .int)) (HX5_needTag : Sem l z0 b N D cA yX5_needTag cX5_needTag 2 none 6 82 2 eX5_needTag tX5_needTag) (HX4_endOf : Sem l z0 b N D cA yX4_endOf cX4_endOf 5 (some .int) 0 0 2 zno tX4_endOf) (HX0_startEdit : Sem l z0 b N D cA yX0_startEdit cX0_startEdit 2 none 0 0 1 zno tX0_startEdit) (HX5_has : Sem l z0 b N D cA yX5_has cX5_has 2 (some .boolean) 0 0 2 zno tX5_has) (HX5_massEdited : Sem l z0 b N D cA yX5_massEdited cX5_massEdited 4 (some .int) 0 0 4 zno tX5_massEdited) (HX5_finishEdit : Sem l z0 b N D cA yX5_finishEdit cX5_finishEdit 2 (some .int) 3 72 1 zno tX5_finishEdit) (hK57 : Snd p l e (zRm 7 M 103) s m args below meth c 7 z0 b (zI z0 b N D cA s) (fun _ => (0, 0)) (vx_MQ below (zQn z0 b N D cA Kn) (zXn z0 b N D cA Kx h0) args s M (6 * M) (fun q => z0 ≤ q)) 57 K57) : Snd p l e (zRm 7 M 103) s m args below meth c 7 z0 b (zI z0 b N D cA s) (fun _ => (0, 0)) (vx_MQ below (zQn z0 b N D cA Kn) (zXn z0 b N D cA Kx h0) args s M (6 * M) (fun q => z0 ≤ q)) 19 (bX5_mass_19 M Kn Kx h0 K57) := by
  obtain ⟨hx, hb, hml, hown, hts, -⟩ := id C
  unfold bX5_mass_19
  exact k_throw C htab (k := 0) (ik := 51) (is := 123) (ic := 55) (X := "java/lang/IllegalArgumentException") (text := "no such kind of edit") rfl (by decide +kernel) (by decide +kernel) zfit0 zfitN znX5_51 ziIllegalArgumentException zat1_55 zat2_55 zat3_55 dX5_mass_19 dX5_mass_22 dX5_mass_23 dX5_mass_25 dX5_mass_28 ⟨Nat.le_of_ble_eq_true rfl, Nat.le_of_ble_eq_true rfl⟩
set_option maxRecDepth 20000 in
theorem sX5_mass_0 {l : Launch} {z0 b N M : Nat} {D : va_G} {cA : Nat → ClassId} {p : Program} {e : Env} {s : State} {m : MethodId} {args : Array Value} {below : List Frame} {meth : Method} {c : Code} {Kn : Option Value → ZH → Prop} {Kx : Nat → Prop} {h0 : ZH} {K57 : ZK ZH} (C : zCx p l (zRm 7 M 103) s m args meth c cX5_mass 7 RX5 z0 D cA M) (htab : ∀ x ∈ c.exceptionTable.toList, False) (hr : meth.sig.returnType = (some .int)) (HX5_needTag : Sem l z0 b N D cA yX5_needTag cX5_needTag 2 none 6 82 2 eX5_needTag tX5_needTag) (HX4_endOf : Sem l z0 b N D cA yX4_endOf cX4_endOf 5 (some .int) 0 0 2 zno tX4_endOf) (HX0_startEdit : Sem l z0 b N D cA yX0_startEdit cX0_startEdit 2 none 0 0 1 zno tX0_startEdit) (HX5_has : Sem l z0 b N D cA yX5_has cX5_has 2 (some .boolean) 0 0 2 zno tX5_has) (HX5_massEdited : Sem l z0 b N D cA yX5_massEdited cX5_massEdited 4 (some .int) 0 0 4 zno tX5_massEdited) (HX5_finishEdit : Sem l z0 b N D cA yX5_finishEdit cX5_finishEdit 2 (some .int) 3 72 1 zno tX5_finishEdit) (hK57 : Snd p l e (zRm 7 M 103) s m args below meth c 7 z0 b (zI z0 b N D cA s) (fun _ => (0, 0)) (vx_MQ below (zQn z0 b N D cA Kn) (zXn z0 b N D cA Kx h0) args s M (6 * M) (fun q => z0 ≤ q)) 57 K57) : Snd p l e (zRm 7 M 103) s m args below meth c 7 z0 b (zI z0 b N D cA s) (fun _ => (0, 0)) (vx_MQ below (zQn z0 b N D cA Kn) (zXn z0 b N D cA Kx h0) args s M (6 * M) (fun q => z0 ≤ q)) 0 (bX5_mass_0 M Kn Kx h0 K57) := by
  obtain ⟨hx, hb, hml, hown, hts, -⟩ := id C
  unfold bX5_mass_0
  refine k_aload_n hx hb dX5_mass_0 rfl ?_
  refine k_iload_n hx hb dX5_mass_1 rfl ?_
  refine k_callV1 C htab (ci := 5) (Tf := TX5) (Nf := 6) (Cn := RX5) rfl HX5_needTag rfl zlX5_92 zmX5_needTag zvX5_needTag ziX5 zcX5_needTag (by decide +kernel) ⟨Nat.le_of_ble_eq_true rfl, Nat.le_of_ble_eq_true rfl⟩ dX5_mass_2 ?_
  refine k_aload_n hx hb dX5_mass_5 rfl ?_
  refine k_iload_n hx hb dX5_mass_6 rfl ?_
  refine k_callV1 C htab (ci := 5) (Tf := TX5) (Nf := 6) (Cn := RX5) rfl HX5_needTag rfl zlX5_92 zmX5_needTag zvX5_needTag ziX5 zcX5_needTag (by decide +kernel) ⟨Nat.le_of_ble_eq_true rfl, Nat.le_of_ble_eq_true rfl⟩ dX5_mass_7 ?_
  refine k_iload_n hx hb dX5_mass_10 rfl ?_
  refine k_if_lt (tgt := 19) hx hb dX5_mass_11 (by decide) ?_ ?_
  · exact sX5_mass_19 C htab hr HX5_needTag HX4_endOf HX0_startEdit HX5_has HX5_massEdited HX5_finishEdit hK57
  · refine k_iload_n hx hb dX5_mass_14 rfl ?_
    refine k_iconst hx hb dX5_mass_15 (by decide) ?_
    refine k_icmp_le (tgt := 29) hx hb dX5_mass_16 (by decide) ?_ ?_
    · refine k_aload_n hx hb dX5_mass_29 rfl ?_
      refine k_getf C (ci := 5) (k := 5) (Tf := TX5) (Nf := 6) (Cn := RX5) rfl zinX5 (by decide) rfl zfX5_43 dX5_mass_30 ?_
      refine k_getf C (ci := 3) (k := 0) (Tf := TX3) (Nf := 1) (Cn := RX3) rfl zinX3 (by decide) rfl zfX5_125 dX5_mass_33 ?_
      refine k_aload_n hx hb dX5_mass_36 rfl ?_
      refine k_getf C (ci := 5) (k := 1) (Tf := TX5) (Nf := 6) (Cn := RX5) rfl zinX5 (by decide) rfl zfX5_19 dX5_mass_37 ?_
      refine k_iload_n hx hb dX5_mass_40 rfl ?_
      refine k_callV1 C htab (ci := 4) (Tf := TX4) (Nf := 5) (Cn := RX4) rfl HX4_endOf rfl zlX5_128 zmX4_endOf zvX4_endOf ziX4 zcX4_endOf (by decide +kernel) ⟨Nat.le_of_ble_eq_true rfl, Nat.le_of_ble_eq_true rfl⟩ dX5_mass_41 ?_
      refine k_iald C dX5_mass_44 ?_
      refine k_istore hx hb dX5_mass_45 ?_
      refine k_aload_n hx hb dX5_mass_47 rfl ?_
      refine k_getf C (ci := 5) (k := 4) (Tf := TX5) (Nf := 6) (Cn := RX5) rfl zinX5 (by decide) rfl zfX5_36 dX5_mass_48 ?_
      refine k_callV0 C htab (ci := 0) (Tf := TX0) (Nf := 7) (Cn := RX0) rfl HX0_startEdit rfl zlX5_114 zmX0_startEdit zvX0_startEdit ziX0 zcX0_startEdit (by decide +kernel) ⟨Nat.le_of_ble_eq_true rfl, Nat.le_of_ble_eq_true rfl⟩ dX5_mass_51 ?_
      refine k_iconst hx hb dX5_mass_54 (by decide) ?_
      refine k_istore hx hb dX5_mass_55 ?_
      exact hK57
    · exact sX5_mass_19 C htab hr HX5_needTag HX4_endOf HX0_startEdit HX5_has HX5_massEdited HX5_finishEdit hK57
set_option maxRecDepth 20000 in
theorem uX5_mass {l : Launch} {z0 b N : Nat} {D : va_G} {cA : Nat → ClassId} (hlt : l.stackTraces = false) (HX5_needTag : Sem l z0 b N D cA yX5_needTag cX5_needTag 2 none 6 82 2 eX5_needTag tX5_needTag) (HX4_endOf : Sem l z0 b N D cA yX4_endOf cX4_endOf 5 (some .int) 0 0 2 zno tX4_endOf) (HX0_startEdit : Sem l z0 b N D cA yX0_startEdit cX0_startEdit 2 none 0 0 1 zno tX0_startEdit) (HX5_has : Sem l z0 b N D cA yX5_has cX5_has 2 (some .boolean) 0 0 2 zno tX5_has) (HX5_massEdited : Sem l z0 b N D cA yX5_massEdited cX5_massEdited 4 (some .int) 0 0 4 zno tX5_massEdited) (HX5_finishEdit : Sem l z0 b N D cA yX5_finishEdit cX5_finishEdit 2 (some .int) 3 72 1 zno tX5_finishEdit) (spec : ∀ (M : Nat) (a : List Value) (h : ZH) (Kn : Option Value → ZH → Prop) (Kx : Nat → Prop), zok 4 a = true → (∀ k, eX5_mass a h k → M = 1 ∧ Kx k) → ((∀ k, ¬ eX5_mass a h k) → tX5_mass a h Kn) → ∀ (A : Nat → ZK ZH), (∀ ls st h', bX5_mass_57 M Kn Kx h (A 57) ls st h' → A 57 ls st h') → bX5_mass_0 M Kn Kx h (A 57) (zE 7 a) [] h) : Sem l z0 b N D cA yX5_mass cX5_mass 7 (some .int) 7 103 4 eX5_mass tX5_mass :=
  sem_of hlt (by decide +kernel) (by decide) (fun p e s m args below meth c M a h Kn Kx hok hX hN C hr htab => sX5_mass_0 C htab hr HX5_needTag HX4_endOf HX0_startEdit HX5_has HX5_massEdited HX5_finishEdit (fun _ _ _ q => q) _ _ _ (spec M a h Kn Kx hok hX hN (fun pc => AW p l e (zRm 7 M 103) s m args below meth c 7 z0 b (zI z0 b N D cA s) (fun _ => (0, 0)) (vx_MQ below (zQn z0 b N D cA Kn) (zXn z0 b N D cA Kx h) args s M (6 * M) (fun q => z0 ≤ q)) pc) (fun ls st h' hq => sX5_mass_57 C htab hr HX5_needTag HX4_endOf HX0_startEdit HX5_has HX5_massEdited HX5_finishEdit (fun _ _ _ q => q) ls st h' hq)))
set_option maxRecDepth 20000 in
theorem sX5_undo_0 {l : Launch} {z0 b N M : Nat} {D : va_G} {cA : Nat → ClassId} {p : Program} {e : Env} {s : State} {m : MethodId} {args : Array Value} {below : List Frame} {meth : Method} {c : Code} {Kn : Option Value → ZH → Prop} {Kx : Nat → Prop} {h0 : ZH} (C : zCx p l (zRm 6 M 82) s m args meth c cX5_undo 2 RX5 z0 D cA M) (htab : ∀ x ∈ c.exceptionTable.toList, False) (hr : meth.sig.returnType = (some .int)) (HX0_restoreLatest : Sem l z0 b N D cA yX0_restoreLatest cX0_restoreLatest 3 (some .int) 1 21 1 zno tX0_restoreLatest) (HX3_refresh : Sem l z0 b N D cA yX3_refresh cX3_refresh 6 none 2 47 3 zno tX3_refresh) : Snd p l e (zRm 6 M 82) s m args below meth c 2 z0 b (zI z0 b N D cA s) (fun _ => (0, 0)) (vx_MQ below (zQn z0 b N D cA Kn) (zXn z0 b N D cA Kx h0) args s M (6 * M) (fun q => z0 ≤ q)) 0 (bX5_undo_0 M Kn Kx h0) := by
  obtain ⟨hx, hb, hml, hown, hts, -⟩ := id C
  unfold bX5_undo_0
  refine k_aload_n hx hb dX5_undo_0 rfl ?_
  refine k_getf C (ci := 5) (k := 4) (Tf := TX5) (Nf := 6) (Cn := RX5) rfl zinX5 (by decide) rfl zfX5_36 dX5_undo_1 ?_
  refine k_getf C (ci := 0) (k := 5) (Tf := TX0) (Nf := 7) (Cn := RX0) rfl zinX0 (by decide) rfl zfX5_143 dX5_undo_4 ?_
  refine k_if_ne (tgt := 20) hx hb dX5_undo_7 (by decide) ?_ ?_
  · refine k_aload_n hx hb dX5_undo_20 rfl ?_
    refine k_getf C (ci := 5) (k := 4) (Tf := TX5) (Nf := 6) (Cn := RX5) rfl zinX5 (by decide) rfl zfX5_36 dX5_undo_21 ?_
    refine k_callV0 C htab (ci := 0) (Tf := TX0) (Nf := 7) (Cn := RX0) rfl HX0_restoreLatest rfl zlX5_148 zmX0_restoreLatest zvX0_restoreLatest ziX0 zcX0_restoreLatest (by decide +kernel) ⟨Nat.le_of_ble_eq_true rfl, Nat.le_of_ble_eq_true rfl⟩ dX5_undo_24 ?_
    refine k_istore_n hx hb dX5_undo_27 rfl ?_
    refine k_aload_n hx hb dX5_undo_28 rfl ?_
    refine k_getf C (ci := 5) (k := 5) (Tf := TX5) (Nf := 6) (Cn := RX5) rfl zinX5 (by decide) rfl zfX5_43 dX5_undo_29 ?_
    refine k_aload_n hx hb dX5_undo_32 rfl ?_
    refine k_getf C (ci := 5) (k := 1) (Tf := TX5) (Nf := 6) (Cn := RX5) rfl zinX5 (by decide) rfl zfX5_19 dX5_undo_33 ?_
    refine k_aload_n hx hb dX5_undo_36 rfl ?_
    refine k_getf C (ci := 5) (k := 4) (Tf := TX5) (Nf := 6) (Cn := RX5) rfl zinX5 (by decide) rfl zfX5_36 dX5_undo_37 ?_
    refine k_callV2 C htab (ci := 3) (Tf := TX3) (Nf := 1) (Cn := RX3) rfl HX3_refresh rfl zlX5_151 zmX3_refresh zvX3_refresh ziX3 zcX3_refresh (by decide +kernel) ⟨Nat.le_of_ble_eq_true rfl, Nat.le_of_ble_eq_true rfl⟩ dX5_undo_40 ?_
    refine k_iload_n hx hb dX5_undo_43 rfl ?_
    exact k_ret C hr dX5_undo_44
  · exact k_throw C htab (k := 1) (ik := 62) (is := 146) (ic := 66) (X := "java/lang/IllegalStateException") (text := "no change is kept") rfl (by decide +kernel) (by decide +kernel) zfit1 zfitN znX5_62 ziIllegalStateException zat1_66 zat2_66 zat3_66 dX5_undo_10 dX5_undo_13 dX5_undo_14 dX5_undo_16 dX5_undo_19 ⟨Nat.le_of_ble_eq_true rfl, Nat.le_of_ble_eq_true rfl⟩
set_option maxRecDepth 20000 in
theorem uX5_undo {l : Launch} {z0 b N : Nat} {D : va_G} {cA : Nat → ClassId} (hlt : l.stackTraces = false) (HX0_restoreLatest : Sem l z0 b N D cA yX0_restoreLatest cX0_restoreLatest 3 (some .int) 1 21 1 zno tX0_restoreLatest) (HX3_refresh : Sem l z0 b N D cA yX3_refresh cX3_refresh 6 none 2 47 3 zno tX3_refresh) (spec : ∀ (M : Nat) (a : List Value) (h : ZH) (Kn : Option Value → ZH → Prop) (Kx : Nat → Prop), zok 1 a = true → (∀ k, eX5_undo a h k → M = 1 ∧ Kx k) → ((∀ k, ¬ eX5_undo a h k) → tX5_undo a h Kn) → bX5_undo_0 M Kn Kx h (zE 2 a) [] h) : Sem l z0 b N D cA yX5_undo cX5_undo 2 (some .int) 6 82 1 eX5_undo tX5_undo :=
  sem_of hlt (by decide +kernel) (by decide) (fun p e s m args below meth c M a h Kn Kx hok hX hN C hr htab => sX5_undo_0 C htab hr HX0_restoreLatest HX3_refresh _ _ _ (spec M a h Kn Kx hok hX hN))
set_option maxRecDepth 20000 in
theorem sX5_kept_0 {l : Launch} {z0 b N M : Nat} {D : va_G} {cA : Nat → ClassId} {p : Program} {e : Env} {s : State} {m : MethodId} {args : Array Value} {below : List Frame} {meth : Method} {c : Code} {Kn : Option Value → ZH → Prop} {Kx : Nat → Prop} {h0 : ZH} (C : zCx p l (zRm 0 M 0) s m args meth c cX5_kept 1 RX5 z0 D cA M) (htab : ∀ x ∈ c.exceptionTable.toList, False) (hr : meth.sig.returnType = (some .int)) : Snd p l e (zRm 0 M 0) s m args below meth c 1 z0 b (zI z0 b N D cA s) (fun _ => (0, 0)) (vx_MQ below (zQn z0 b N D cA Kn) (zXn z0 b N D cA Kx h0) args s M (6 * M) (fun q => z0 ≤ q)) 0 (bX5_kept_0 M Kn Kx h0) := by
  obtain ⟨hx, hb, hml, hown, hts, -⟩ := id C
  unfold bX5_kept_0
  refine k_aload_n hx hb dX5_kept_0 rfl ?_
  refine k_getf C (ci := 5) (k := 4) (Tf := TX5) (Nf := 6) (Cn := RX5) rfl zinX5 (by decide) rfl zfX5_36 dX5_kept_1 ?_
  refine k_getf C (ci := 0) (k := 5) (Tf := TX0) (Nf := 7) (Cn := RX0) rfl zinX0 (by decide) rfl zfX5_143 dX5_kept_4 ?_
  exact k_ret C hr dX5_kept_7
set_option maxRecDepth 20000 in
theorem uX5_kept {l : Launch} {z0 b N : Nat} {D : va_G} {cA : Nat → ClassId} (hlt : l.stackTraces = false) (spec : ∀ (M : Nat) (a : List Value) (h : ZH) (Kn : Option Value → ZH → Prop) (Kx : Nat → Prop), zok 1 a = true → tX5_kept a h Kn → bX5_kept_0 M Kn Kx h (zE 1 a) [] h) : Sem l z0 b N D cA yX5_kept cX5_kept 1 (some .int) 0 0 1 zno tX5_kept :=
  sem_of hlt (by decide +kernel) (by decide) (fun p e s m args below meth c M a h Kn Kx hok hX hN C hr htab => sX5_kept_0 C htab hr _ _ _ (spec M a h Kn Kx hok (hN (fun _ h9 => h9))))
set_option maxRecDepth 20000 in
theorem sX5_hand_0 {l : Launch} {z0 b N M : Nat} {D : va_G} {cA : Nat → ClassId} {p : Program} {e : Env} {s : State} {m : MethodId} {args : Array Value} {below : List Frame} {meth : Method} {c : Code} {Kn : Option Value → ZH → Prop} {Kx : Nat → Prop} {h0 : ZH} (C : zCx p l (zRm 7 M 103) s m args meth c cX5_hand 2 RX5 z0 D cA M) (htab : ∀ x ∈ c.exceptionTable.toList, False) (hr : meth.sig.returnType = (some .int)) (HX5_needThing : Sem l z0 b N D cA yX5_needThing cX5_needThing 2 none 6 82 2 eX5_needThing tX5_needThing) : Snd p l e (zRm 7 M 103) s m args below meth c 2 z0 b (zI z0 b N D cA s) (fun _ => (0, 0)) (vx_MQ below (zQn z0 b N D cA Kn) (zXn z0 b N D cA Kx h0) args s M (6 * M) (fun q => z0 ≤ q)) 0 (bX5_hand_0 M Kn Kx h0) := by
  obtain ⟨hx, hb, hml, hown, hts, -⟩ := id C
  unfold bX5_hand_0
  refine k_aload_n hx hb dX5_hand_0 rfl ?_
  refine k_iload_n hx hb dX5_hand_1 rfl ?_
  refine k_callV1 C htab (ci := 5) (Tf := TX5) (Nf := 6) (Cn := RX5) rfl HX5_needThing rfl zlX5_111 zmX5_needThing zvX5_needThing ziX5 zcX5_needThing (by decide +kernel) ⟨Nat.le_of_ble_eq_true rfl, Nat.le_of_ble_eq_true rfl⟩ dX5_hand_2 ?_
  refine k_aload_n hx hb dX5_hand_5 rfl ?_
  refine k_getf C (ci := 5) (k := 4) (Tf := TX5) (Nf := 6) (Cn := RX5) rfl zinX5 (by decide) rfl zfX5_36 dX5_hand_6 ?_
  refine k_getf C (ci := 0) (k := 0) (Tf := TX0) (Nf := 7) (Cn := RX0) rfl zinX0 (by decide) rfl zfX5_132 dX5_hand_9 ?_
  refine k_iload_n hx hb dX5_hand_12 rfl ?_
  refine k_iald C dX5_hand_13 ?_
  exact k_ret C hr dX5_hand_14
set_option maxRecDepth 20000 in
theorem uX5_hand {l : Launch} {z0 b N : Nat} {D : va_G} {cA : Nat → ClassId} (hlt : l.stackTraces = false) (HX5_needThing : Sem l z0 b N D cA yX5_needThing cX5_needThing 2 none 6 82 2 eX5_needThing tX5_needThing) (spec : ∀ (M : Nat) (a : List Value) (h : ZH) (Kn : Option Value → ZH → Prop) (Kx : Nat → Prop), zok 2 a = true → (∀ k, eX5_hand a h k → M = 1 ∧ Kx k) → ((∀ k, ¬ eX5_hand a h k) → tX5_hand a h Kn) → bX5_hand_0 M Kn Kx h (zE 2 a) [] h) : Sem l z0 b N D cA yX5_hand cX5_hand 2 (some .int) 7 103 2 eX5_hand tX5_hand :=
  sem_of hlt (by decide +kernel) (by decide) (fun p e s m args below meth c M a h Kn Kx hok hX hN C hr htab => sX5_hand_0 C htab hr HX5_needThing _ _ _ (spec M a h Kn Kx hok hX hN))
set_option maxRecDepth 20000 in
theorem sX5_ask_19 {l : Launch} {z0 b N M : Nat} {D : va_G} {cA : Nat → ClassId} {p : Program} {e : Env} {s : State} {m : MethodId} {args : Array Value} {below : List Frame} {meth : Method} {c : Code} {Kn : Option Value → ZH → Prop} {Kx : Nat → Prop} {h0 : ZH} (C : zCx p l (zRm 7 M 103) s m args meth c cX5_ask 4 RX5 z0 D cA M) (htab : ∀ x ∈ c.exceptionTable.toList, False) (hr : meth.sig.returnType = (some .int)) (HX5_needTag : Sem l z0 b N D cA yX5_needTag cX5_needTag 2 none 6 82 2 eX5_needTag tX5_needTag) (HX2_add : Sem l z0 b N D cA yX2_add cX2_add 4 (some .int) 0 0 4 zno tX2_add) : Snd p l e (zRm 7 M 103) s m args below meth c 4 z0 b (zI z0 b N D cA s) (fun _ => (0, 0)) (vx_MQ below (zQn z0 b N D cA Kn) (zXn z0 b N D cA Kx h0) args s M (6 * M) (fun q => z0 ≤ q)) 19 (bX5_ask_19 M Kn Kx h0) := by
  obtain ⟨hx, hb, hml, hown, hts, -⟩ := id C
  unfold bX5_ask_19
  exact k_throw C htab (k := 0) (ik := 51) (is := 155) (ic := 55) (X := "java/lang/IllegalArgumentException") (text := "no such kind of request") rfl (by decide +kernel) (by decide +kernel) zfit0 zfitN znX5_51 ziIllegalArgumentException zat1_55 zat2_55 zat3_55 dX5_ask_19 dX5_ask_22 dX5_ask_23 dX5_ask_25 dX5_ask_28 ⟨Nat.le_of_ble_eq_true rfl, Nat.le_of_ble_eq_true rfl⟩
set_option maxRecDepth 20000 in
theorem sX5_ask_0 {l : Launch} {z0 b N M : Nat} {D : va_G} {cA : Nat → ClassId} {p : Program} {e : Env} {s : State} {m : MethodId} {args : Array Value} {below : List Frame} {meth : Method} {c : Code} {Kn : Option Value → ZH → Prop} {Kx : Nat → Prop} {h0 : ZH} (C : zCx p l (zRm 7 M 103) s m args meth c cX5_ask 4 RX5 z0 D cA M) (htab : ∀ x ∈ c.exceptionTable.toList, False) (hr : meth.sig.returnType = (some .int)) (HX5_needTag : Sem l z0 b N D cA yX5_needTag cX5_needTag 2 none 6 82 2 eX5_needTag tX5_needTag) (HX2_add : Sem l z0 b N D cA yX2_add cX2_add 4 (some .int) 0 0 4 zno tX2_add) : Snd p l e (zRm 7 M 103) s m args below meth c 4 z0 b (zI z0 b N D cA s) (fun _ => (0, 0)) (vx_MQ below (zQn z0 b N D cA Kn) (zXn z0 b N D cA Kx h0) args s M (6 * M) (fun q => z0 ≤ q)) 0 (bX5_ask_0 M Kn Kx h0) := by
  obtain ⟨hx, hb, hml, hown, hts, -⟩ := id C
  unfold bX5_ask_0
  refine k_aload_n hx hb dX5_ask_0 rfl ?_
  refine k_iload_n hx hb dX5_ask_1 rfl ?_
  refine k_callV1 C htab (ci := 5) (Tf := TX5) (Nf := 6) (Cn := RX5) rfl HX5_needTag rfl zlX5_92 zmX5_needTag zvX5_needTag ziX5 zcX5_needTag (by decide +kernel) ⟨Nat.le_of_ble_eq_true rfl, Nat.le_of_ble_eq_true rfl⟩ dX5_ask_2 ?_
  refine k_aload_n hx hb dX5_ask_5 rfl ?_
  refine k_iload_n hx hb dX5_ask_6 rfl ?_
  refine k_callV1 C htab (ci := 5) (Tf := TX5) (Nf := 6) (Cn := RX5) rfl HX5_needTag rfl zlX5_92 zmX5_needTag zvX5_needTag ziX5 zcX5_needTag (by decide +kernel) ⟨Nat.le_of_ble_eq_true rfl, Nat.le_of_ble_eq_true rfl⟩ dX5_ask_7 ?_
  refine k_iload_n hx hb dX5_ask_10 rfl ?_
  refine k_if_lt (tgt := 19) hx hb dX5_ask_11 (by decide) ?_ ?_
  · exact sX5_ask_19 C htab hr HX5_needTag HX2_add
  · refine k_iload_n hx hb dX5_ask_14 rfl ?_
    refine k_iconst hx hb dX5_ask_15 (by decide) ?_
    refine k_icmp_le (tgt := 29) hx hb dX5_ask_16 (by decide) ?_ ?_
    · refine k_iload_n hx hb dX5_ask_29 rfl ?_
      refine k_iload_n hx hb dX5_ask_30 rfl ?_
      refine k_icmp_ne (tgt := 44) hx hb dX5_ask_31 (by decide) ?_ ?_
      · refine k_aload_n hx hb dX5_ask_44 rfl ?_
        refine k_getf C (ci := 5) (k := 3) (Tf := TX5) (Nf := 6) (Cn := RX5) rfl zinX5 (by decide) rfl zfX5_29 dX5_ask_45 ?_
        refine k_getf C (ci := 2) (k := 6) (Tf := TX2) (Nf := 7) (Cn := RX2) rfl zinX2 (by decide) rfl zfX5_159 dX5_ask_48 ?_
        refine k_bipush hx hb dX5_ask_51 (by decide) ?_
        refine k_icmp_lt (tgt := 66) hx hb dX5_ask_53 (by decide) ?_ ?_
        · refine k_aload_n hx hb dX5_ask_66 rfl ?_
          refine k_getf C (ci := 5) (k := 3) (Tf := TX5) (Nf := 6) (Cn := RX5) rfl zinX5 (by decide) rfl zfX5_29 dX5_ask_67 ?_
          refine k_iload_n hx hb dX5_ask_70 rfl ?_
          refine k_iload_n hx hb dX5_ask_71 rfl ?_
          refine k_iload_n hx hb dX5_ask_72 rfl ?_
          refine k_callV3 C htab (ci := 2) (Tf := TX2) (Nf := 7) (Cn := RX2) rfl HX2_add rfl zlX5_162 zmX2_add zvX2_add ziX2 zcX2_add (by decide +kernel) ⟨Nat.le_of_ble_eq_true rfl, Nat.le_of_ble_eq_true rfl⟩ dX5_ask_73 ?_
          exact k_ret C hr dX5_ask_76
        · exact k_throw C htab (k := 1) (ik := 62) (is := 160) (ic := 66) (X := "java/lang/IllegalStateException") (text := "there are no more requests to be had") rfl (by decide +kernel) (by decide +kernel) zfit1 zfitN znX5_62 ziIllegalStateException zat1_66 zat2_66 zat3_66 dX5_ask_56 dX5_ask_59 dX5_ask_60 dX5_ask_62 dX5_ask_65 ⟨Nat.le_of_ble_eq_true rfl, Nat.le_of_ble_eq_true rfl⟩
      · exact k_throw C htab (k := 0) (ik := 51) (is := 157) (ic := 55) (X := "java/lang/IllegalArgumentException") (text := "a rule leads to another tag") rfl (by decide +kernel) (by decide +kernel) zfit0 zfitN znX5_51 ziIllegalArgumentException zat1_55 zat2_55 zat3_55 dX5_ask_34 dX5_ask_37 dX5_ask_38 dX5_ask_40 dX5_ask_43 ⟨Nat.le_of_ble_eq_true rfl, Nat.le_of_ble_eq_true rfl⟩
    · exact sX5_ask_19 C htab hr HX5_needTag HX2_add
set_option maxRecDepth 20000 in
theorem uX5_ask {l : Launch} {z0 b N : Nat} {D : va_G} {cA : Nat → ClassId} (hlt : l.stackTraces = false) (HX5_needTag : Sem l z0 b N D cA yX5_needTag cX5_needTag 2 none 6 82 2 eX5_needTag tX5_needTag) (HX2_add : Sem l z0 b N D cA yX2_add cX2_add 4 (some .int) 0 0 4 zno tX2_add) (spec : ∀ (M : Nat) (a : List Value) (h : ZH) (Kn : Option Value → ZH → Prop) (Kx : Nat → Prop), zok 4 a = true → (∀ k, eX5_ask a h k → M = 1 ∧ Kx k) → ((∀ k, ¬ eX5_ask a h k) → tX5_ask a h Kn) → bX5_ask_0 M Kn Kx h (zE 4 a) [] h) : Sem l z0 b N D cA yX5_ask cX5_ask 4 (some .int) 7 103 4 eX5_ask tX5_ask :=
  sem_of hlt (by decide +kernel) (by decide) (fun p e s m args below meth c M a h Kn Kx hok hX hN C hr htab => sX5_ask_0 C htab hr HX5_needTag HX2_add _ _ _ (spec M a h Kn Kx hok hX hN))
set_option maxRecDepth 20000 in
theorem sX5_vote_15 {l : Launch} {z0 b N M : Nat} {D : va_G} {cA : Nat → ClassId} {p : Program} {e : Env} {s : State} {m : MethodId} {args : Array Value} {below : List Frame} {meth : Method} {c : Code} {Kn : Option Value → ZH → Prop} {Kx : Nat → Prop} {h0 : ZH} (C : zCx p l (zRm 7 M 135) s m args meth c cX5_vote 4 RX5 z0 D cA M) (htab : ∀ x ∈ c.exceptionTable.toList, False) (hr : meth.sig.returnType = (some .int)) (HX5_needRequest : Sem l z0 b N D cA yX5_needRequest cX5_needRequest 2 none 6 82 2 eX5_needRequest tX5_needRequest) (HX2_setVote : Sem l z0 b N D cA yX2_setVote cX2_setVote 5 none 0 0 4 zno tX2_setVote) (HX2_leadOf : Sem l z0 b N D cA yX2_leadOf cX2_leadOf 2 (some .int) 1 20 2 zno tX2_leadOf) (HX5_decide : Sem l z0 b N D cA yX5_decide cX5_decide 3 none 5 113 3 zno tX5_decide) : Snd p l e (zRm 7 M 135) s m args below meth c 4 z0 b (zI z0 b N D cA s) (fun _ => (0, 0)) (vx_MQ below (zQn z0 b N D cA Kn) (zXn z0 b N D cA Kx h0) args s M (6 * M) (fun q => z0 ≤ q)) 15 (bX5_vote_15 M Kn Kx h0) := by
  obtain ⟨hx, hb, hml, hown, hts, -⟩ := id C
  unfold bX5_vote_15
  exact k_throw C htab (k := 0) (ik := 51) (is := 169) (ic := 55) (X := "java/lang/IllegalArgumentException") (text := "no such voter") rfl (by decide +kernel) (by decide +kernel) zfit0 zfitN znX5_51 ziIllegalArgumentException zat1_55 zat2_55 zat3_55 dX5_vote_15 dX5_vote_18 dX5_vote_19 dX5_vote_21 dX5_vote_24 ⟨Nat.le_of_ble_eq_true rfl, Nat.le_of_ble_eq_true rfl⟩
set_option maxRecDepth 20000 in
theorem sX5_vote_0 {l : Launch} {z0 b N M : Nat} {D : va_G} {cA : Nat → ClassId} {p : Program} {e : Env} {s : State} {m : MethodId} {args : Array Value} {below : List Frame} {meth : Method} {c : Code} {Kn : Option Value → ZH → Prop} {Kx : Nat → Prop} {h0 : ZH} (C : zCx p l (zRm 7 M 135) s m args meth c cX5_vote 4 RX5 z0 D cA M) (htab : ∀ x ∈ c.exceptionTable.toList, False) (hr : meth.sig.returnType = (some .int)) (HX5_needRequest : Sem l z0 b N D cA yX5_needRequest cX5_needRequest 2 none 6 82 2 eX5_needRequest tX5_needRequest) (HX2_setVote : Sem l z0 b N D cA yX2_setVote cX2_setVote 5 none 0 0 4 zno tX2_setVote) (HX2_leadOf : Sem l z0 b N D cA yX2_leadOf cX2_leadOf 2 (some .int) 1 20 2 zno tX2_leadOf) (HX5_decide : Sem l z0 b N D cA yX5_decide cX5_decide 3 none 5 113 3 zno tX5_decide) : Snd p l e (zRm 7 M 135) s m args below meth c 4 z0 b (zI z0 b N D cA s) (fun _ => (0, 0)) (vx_MQ below (zQn z0 b N D cA Kn) (zXn z0 b N D cA Kx h0) args s M (6 * M) (fun q => z0 ≤ q)) 0 (bX5_vote_0 M Kn Kx h0) := by
  obtain ⟨hx, hb, hml, hown, hts, -⟩ := id C
  unfold bX5_vote_0
  refine k_aload_n hx hb dX5_vote_0 rfl ?_
  refine k_iload_n hx hb dX5_vote_1 rfl ?_
  refine k_callV1 C htab (ci := 5) (Tf := TX5) (Nf := 6) (Cn := RX5) rfl HX5_needRequest rfl zlX5_166 zmX5_needRequest zvX5_needRequest ziX5 zcX5_needRequest (by decide +kernel) ⟨Nat.le_of_ble_eq_true rfl, Nat.le_of_ble_eq_true rfl⟩ dX5_vote_2 ?_
  refine k_iload_n hx hb dX5_vote_5 rfl ?_
  refine k_if_lt (tgt := 15) hx hb dX5_vote_6 (by decide) ?_ ?_
  · exact sX5_vote_15 C htab hr HX5_needRequest HX2_setVote HX2_leadOf HX5_decide
  · refine k_iload_n hx hb dX5_vote_9 rfl ?_
    refine k_bipush hx hb dX5_vote_10 (by decide) ?_
    refine k_icmp_lt (tgt := 25) hx hb dX5_vote_12 (by decide) ?_ ?_
    · refine k_aload_n hx hb dX5_vote_25 rfl ?_
      refine k_getf C (ci := 5) (k := 3) (Tf := TX5) (Nf := 6) (Cn := RX5) rfl zinX5 (by decide) rfl zfX5_29 dX5_vote_26 ?_
      refine k_getf C (ci := 2) (k := 3) (Tf := TX2) (Nf := 7) (Cn := RX2) rfl zinX2 (by decide) rfl zfX5_171 dX5_vote_29 ?_
      refine k_iload_n hx hb dX5_vote_32 rfl ?_
      refine k_iald C dX5_vote_33 ?_
      refine k_if_eq (tgt := 47) hx hb dX5_vote_34 (by decide) ?_ ?_
      · refine k_aload_n hx hb dX5_vote_47 rfl ?_
        refine k_getf C (ci := 5) (k := 3) (Tf := TX5) (Nf := 6) (Cn := RX5) rfl zinX5 (by decide) rfl zfX5_29 dX5_vote_48 ?_
        refine k_iload_n hx hb dX5_vote_51 rfl ?_
        refine k_iload_n hx hb dX5_vote_52 rfl ?_
        refine k_iload_n hx hb dX5_vote_53 rfl ?_
        refine k_callV3 C htab (ci := 2) (Tf := TX2) (Nf := 7) (Cn := RX2) rfl HX2_setVote rfl zlX5_176 zmX2_setVote zvX2_setVote ziX2 zcX2_setVote (by decide +kernel) ⟨Nat.le_of_ble_eq_true rfl, Nat.le_of_ble_eq_true rfl⟩ dX5_vote_54 ?_
        refine k_aload_n hx hb dX5_vote_57 rfl ?_
        refine k_iload_n hx hb dX5_vote_58 rfl ?_
        refine k_aload_n hx hb dX5_vote_59 rfl ?_
        refine k_getf C (ci := 5) (k := 3) (Tf := TX5) (Nf := 6) (Cn := RX5) rfl zinX5 (by decide) rfl zfX5_29 dX5_vote_60 ?_
        refine k_iload_n hx hb dX5_vote_63 rfl ?_
        refine k_callV1 C htab (ci := 2) (Tf := TX2) (Nf := 7) (Cn := RX2) rfl HX2_leadOf rfl zlX5_180 zmX2_leadOf zvX2_leadOf ziX2 zcX2_leadOf (by decide +kernel) ⟨Nat.le_of_ble_eq_true rfl, Nat.le_of_ble_eq_true rfl⟩ dX5_vote_64 ?_
        refine k_callV2 C htab (ci := 5) (Tf := TX5) (Nf := 6) (Cn := RX5) rfl HX5_decide rfl zlX5_183 zmX5_decide zvX5_decide ziX5 zcX5_decide (by decide +kernel) ⟨Nat.le_of_ble_eq_true rfl, Nat.le_of_ble_eq_true rfl⟩ dX5_vote_67 ?_
        refine k_aload_n hx hb dX5_vote_70 rfl ?_
        refine k_getf C (ci := 5) (k := 3) (Tf := TX5) (Nf := 6) (Cn := RX5) rfl zinX5 (by decide) rfl zfX5_29 dX5_vote_71 ?_
        refine k_getf C (ci := 2) (k := 3) (Tf := TX2) (Nf := 7) (Cn := RX2) rfl zinX2 (by decide) rfl zfX5_171 dX5_vote_74 ?_
        refine k_iload_n hx hb dX5_vote_77 rfl ?_
        refine k_iald C dX5_vote_78 ?_
        exact k_ret C hr dX5_vote_79
      · exact k_throw C htab (k := 1) (ik := 62) (is := 174) (ic := 66) (X := "java/lang/IllegalStateException") (text := "the request is not open") rfl (by decide +kernel) (by decide +kernel) zfit1 zfitN znX5_62 ziIllegalStateException zat1_66 zat2_66 zat3_66 dX5_vote_37 dX5_vote_40 dX5_vote_41 dX5_vote_43 dX5_vote_46 ⟨Nat.le_of_ble_eq_true rfl, Nat.le_of_ble_eq_true rfl⟩
    · exact sX5_vote_15 C htab hr HX5_needRequest HX2_setVote HX2_leadOf HX5_decide
set_option maxRecDepth 20000 in
theorem uX5_vote {l : Launch} {z0 b N : Nat} {D : va_G} {cA : Nat → ClassId} (hlt : l.stackTraces = false) (HX5_needRequest : Sem l z0 b N D cA yX5_needRequest cX5_needRequest 2 none 6 82 2 eX5_needRequest tX5_needRequest) (HX2_setVote : Sem l z0 b N D cA yX2_setVote cX2_setVote 5 none 0 0 4 zno tX2_setVote) (HX2_leadOf : Sem l z0 b N D cA yX2_leadOf cX2_leadOf 2 (some .int) 1 20 2 zno tX2_leadOf) (HX5_decide : Sem l z0 b N D cA yX5_decide cX5_decide 3 none 5 113 3 zno tX5_decide) (spec : ∀ (M : Nat) (a : List Value) (h : ZH) (Kn : Option Value → ZH → Prop) (Kx : Nat → Prop), zok 4 a = true → (∀ k, eX5_vote a h k → M = 1 ∧ Kx k) → ((∀ k, ¬ eX5_vote a h k) → tX5_vote a h Kn) → bX5_vote_0 M Kn Kx h (zE 4 a) [] h) : Sem l z0 b N D cA yX5_vote cX5_vote 4 (some .int) 7 135 4 eX5_vote tX5_vote :=
  sem_of hlt (by decide +kernel) (by decide) (fun p e s m args below meth c M a h Kn Kx hok hX hN C hr htab => sX5_vote_0 C htab hr HX5_needRequest HX2_setVote HX2_leadOf HX5_decide _ _ _ (spec M a h Kn Kx hok hX hN))
set_option maxRecDepth 20000 in
theorem sX5_standing_0 {l : Launch} {z0 b N M : Nat} {D : va_G} {cA : Nat → ClassId} {p : Program} {e : Env} {s : State} {m : MethodId} {args : Array Value} {below : List Frame} {meth : Method} {c : Code} {Kn : Option Value → ZH → Prop} {Kx : Nat → Prop} {h0 : ZH} (C : zCx p l (zRm 7 M 103) s m args meth c cX5_standing 2 RX5 z0 D cA M) (htab : ∀ x ∈ c.exceptionTable.toList, False) (hr : meth.sig.returnType = (some .int)) (HX5_needRequest : Sem l z0 b N D cA yX5_needRequest cX5_needRequest 2 none 6 82 2 eX5_needRequest tX5_needRequest) : Snd p l e (zRm 7 M 103) s m args below meth c 2 z0 b (zI z0 b N D cA s) (fun _ => (0, 0)) (vx_MQ below (zQn z0 b N D cA Kn) (zXn z0 b N D cA Kx h0) args s M (6 * M) (fun q => z0 ≤ q)) 0 (bX5_standing_0 M Kn Kx h0) := by
  obtain ⟨hx, hb, hml, hown, hts, -⟩ := id C
  unfold bX5_standing_0
  refine k_aload_n hx hb dX5_standing_0 rfl ?_
  refine k_iload_n hx hb dX5_standing_1 rfl ?_
  refine k_callV1 C htab (ci := 5) (Tf := TX5) (Nf := 6) (Cn := RX5) rfl HX5_needRequest rfl zlX5_166 zmX5_needRequest zvX5_needRequest ziX5 zcX5_needRequest (by decide +kernel) ⟨Nat.le_of_ble_eq_true rfl, Nat.le_of_ble_eq_true rfl⟩ dX5_standing_2 ?_
  refine k_aload_n hx hb dX5_standing_5 rfl ?_
  refine k_getf C (ci := 5) (k := 3) (Tf := TX5) (Nf := 6) (Cn := RX5) rfl zinX5 (by decide) rfl zfX5_29 dX5_standing_6 ?_
  refine k_getf C (ci := 2) (k := 3) (Tf := TX2) (Nf := 7) (Cn := RX2) rfl zinX2 (by decide) rfl zfX5_171 dX5_standing_9 ?_
  refine k_iload_n hx hb dX5_standing_12 rfl ?_
  refine k_iald C dX5_standing_13 ?_
  exact k_ret C hr dX5_standing_14
set_option maxRecDepth 20000 in
theorem uX5_standing {l : Launch} {z0 b N : Nat} {D : va_G} {cA : Nat → ClassId} (hlt : l.stackTraces = false) (HX5_needRequest : Sem l z0 b N D cA yX5_needRequest cX5_needRequest 2 none 6 82 2 eX5_needRequest tX5_needRequest) (spec : ∀ (M : Nat) (a : List Value) (h : ZH) (Kn : Option Value → ZH → Prop) (Kx : Nat → Prop), zok 2 a = true → (∀ k, eX5_standing a h k → M = 1 ∧ Kx k) → ((∀ k, ¬ eX5_standing a h k) → tX5_standing a h Kn) → bX5_standing_0 M Kn Kx h (zE 2 a) [] h) : Sem l z0 b N D cA yX5_standing cX5_standing 2 (some .int) 7 103 2 eX5_standing tX5_standing :=
  sem_of hlt (by decide +kernel) (by decide) (fun p e s m args below meth c M a h Kn Kx hok hX hN C hr htab => sX5_standing_0 C htab hr HX5_needRequest _ _ _ (spec M a h Kn Kx hok hX hN))
set_option maxRecDepth 20000 in
theorem sX5_couldPass_0 {l : Launch} {z0 b N M : Nat} {D : va_G} {cA : Nat → ClassId} {p : Program} {e : Env} {s : State} {m : MethodId} {args : Array Value} {below : List Frame} {meth : Method} {c : Code} {Kn : Option Value → ZH → Prop} {Kx : Nat → Prop} {h0 : ZH} (C : zCx p l (zRm 7 M 113) s m args meth c cX5_couldPass 2 RX5 z0 D cA M) (htab : ∀ x ∈ c.exceptionTable.toList, False) (hr : meth.sig.returnType = (some .boolean)) (HX5_needRequest : Sem l z0 b N D cA yX5_needRequest cX5_needRequest 2 none 6 82 2 eX5_needRequest tX5_needRequest) (HX5_isOpenAndAllowed : Sem l z0 b N D cA yX5_isOpenAndAllowed cX5_isOpenAndAllowed 2 (some .boolean) 4 92 2 zno tX5_isOpenAndAllowed) : Snd p l e (zRm 7 M 113) s m args below meth c 2 z0 b (zI z0 b N D cA s) (fun _ => (0, 0)) (vx_MQ below (zQn z0 b N D cA Kn) (zXn z0 b N D cA Kx h0) args s M (6 * M) (fun q => z0 ≤ q)) 0 (bX5_couldPass_0 M Kn Kx h0) := by
  obtain ⟨hx, hb, hml, hown, hts, -⟩ := id C
  unfold bX5_couldPass_0
  refine k_aload_n hx hb dX5_couldPass_0 rfl ?_
  refine k_iload_n hx hb dX5_couldPass_1 rfl ?_
  refine k_callV1 C htab (ci := 5) (Tf := TX5) (Nf := 6) (Cn := RX5) rfl HX5_needRequest rfl zlX5_166 zmX5_needRequest zvX5_needRequest ziX5 zcX5_needRequest (by decide +kernel) ⟨Nat.le_of_ble_eq_true rfl, Nat.le_of_ble_eq_true rfl⟩ dX5_couldPass_2 ?_
  refine k_aload_n hx hb dX5_couldPass_5 rfl ?_
  refine k_iload_n hx hb dX5_couldPass_6 rfl ?_
  refine k_callV1 C htab (ci := 5) (Tf := TX5) (Nf := 6) (Cn := RX5) rfl HX5_isOpenAndAllowed rfl zlX5_187 zmX5_isOpenAndAllowed zvX5_isOpenAndAllowed ziX5 zcX5_isOpenAndAllowed (by decide +kernel) ⟨Nat.le_of_ble_eq_true rfl, Nat.le_of_ble_eq_true rfl⟩ dX5_couldPass_7 ?_
  exact k_ret C hr dX5_couldPass_10
set_option maxRecDepth 20000 in
theorem uX5_couldPass {l : Launch} {z0 b N : Nat} {D : va_G} {cA : Nat → ClassId} (hlt : l.stackTraces = false) (HX5_needRequest : Sem l z0 b N D cA yX5_needRequest cX5_needRequest 2 none 6 82 2 eX5_needRequest tX5_needRequest) (HX5_isOpenAndAllowed : Sem l z0 b N D cA yX5_isOpenAndAllowed cX5_isOpenAndAllowed 2 (some .boolean) 4 92 2 zno tX5_isOpenAndAllowed) (spec : ∀ (M : Nat) (a : List Value) (h : ZH) (Kn : Option Value → ZH → Prop) (Kx : Nat → Prop), zok 2 a = true → (∀ k, eX5_couldPass a h k → M = 1 ∧ Kx k) → ((∀ k, ¬ eX5_couldPass a h k) → tX5_couldPass a h Kn) → bX5_couldPass_0 M Kn Kx h (zE 2 a) [] h) : Sem l z0 b N D cA yX5_couldPass cX5_couldPass 2 (some .boolean) 7 113 2 eX5_couldPass tX5_couldPass :=
  sem_of hlt (by decide +kernel) (by decide) (fun p e s m args below meth c M a h Kn Kx hok hX hN C hr htab => sX5_couldPass_0 C htab hr HX5_needRequest HX5_isOpenAndAllowed _ _ _ (spec M a h Kn Kx hok hX hN))
set_option maxRecDepth 20000 in
theorem sX5_clashes_64 {l : Launch} {z0 b N M : Nat} {D : va_G} {cA : Nat → ClassId} {p : Program} {e : Env} {s : State} {m : MethodId} {args : Array Value} {below : List Frame} {meth : Method} {c : Code} {Kn : Option Value → ZH → Prop} {Kx : Nat → Prop} {h0 : ZH} {K19 : ZK ZH} (C : zCx p l (zRm 7 M 135) s m args meth c cX5_clashes 4 RX5 z0 D cA M) (htab : ∀ x ∈ c.exceptionTable.toList, False) (hr : meth.sig.returnType = (some .int)) (HX5_needRequest : Sem l z0 b N D cA yX5_needRequest cX5_needRequest 2 none 6 82 2 eX5_needRequest tX5_needRequest) (HX5_isOpenAndAllowed : Sem l z0 b N D cA yX5_isOpenAndAllowed cX5_isOpenAndAllowed 2 (some .boolean) 4 92 2 zno tX5_isOpenAndAllowed) (HX5_isAllowedBehind : Sem l z0 b N D cA yX5_isAllowedBehind cX5_isAllowedBehind 3 (some .boolean) 5 113 3 zno tX5_isAllowedBehind) (hK19 : Snd p l e (zRm 7 M 135) s m args below meth c 4 z0 b (zI z0 b N D cA s) (fun _ => (0, 0)) (vx_MQ below (zQn z0 b N D cA Kn) (zXn z0 b N D cA Kx h0) args s M (6 * M) (fun q => z0 ≤ q)) 19 K19) : Snd p l e (zRm 7 M 135) s m args below meth c 4 z0 b (zI z0 b N D cA s) (fun _ => (0, 0)) (vx_MQ below (zQn z0 b N D cA Kn) (zXn z0 b N D cA Kx h0) args s M (6 * M) (fun q => z0 ≤ q)) 64 (bX5_clashes_64 M Kn Kx h0 K19) := by
  obtain ⟨hx, hb, hml, hown, hts, -⟩ := id C
  unfold bX5_clashes_64
  refine k_iinc hx hb dX5_clashes_64 (by decide) ?_
  refine k_goto (tgt := 19) hx hb dX5_clashes_67 (by decide) ?_
  exact hK19
set_option maxRecDepth 20000 in
theorem sX5_clashes_61 {l : Launch} {z0 b N M : Nat} {D : va_G} {cA : Nat → ClassId} {p : Program} {e : Env} {s : State} {m : MethodId} {args : Array Value} {below : List Frame} {meth : Method} {c : Code} {Kn : Option Value → ZH → Prop} {Kx : Nat → Prop} {h0 : ZH} {K19 : ZK ZH} (C : zCx p l (zRm 7 M 135) s m args meth c cX5_clashes 4 RX5 z0 D cA M) (htab : ∀ x ∈ c.exceptionTable.toList, False) (hr : meth.sig.returnType = (some .int)) (HX5_needRequest : Sem l z0 b N D cA yX5_needRequest cX5_needRequest 2 none 6 82 2 eX5_needRequest tX5_needRequest) (HX5_isOpenAndAllowed : Sem l z0 b N D cA yX5_isOpenAndAllowed cX5_isOpenAndAllowed 2 (some .boolean) 4 92 2 zno tX5_isOpenAndAllowed) (HX5_isAllowedBehind : Sem l z0 b N D cA yX5_isAllowedBehind cX5_isAllowedBehind 3 (some .boolean) 5 113 3 zno tX5_isAllowedBehind) (hK19 : Snd p l e (zRm 7 M 135) s m args below meth c 4 z0 b (zI z0 b N D cA s) (fun _ => (0, 0)) (vx_MQ below (zQn z0 b N D cA Kn) (zXn z0 b N D cA Kx h0) args s M (6 * M) (fun q => z0 ≤ q)) 19 K19) : Snd p l e (zRm 7 M 135) s m args below meth c 4 z0 b (zI z0 b N D cA s) (fun _ => (0, 0)) (vx_MQ below (zQn z0 b N D cA Kn) (zXn z0 b N D cA Kx h0) args s M (6 * M) (fun q => z0 ≤ q)) 61 (bX5_clashes_61 M Kn Kx h0 K19) := by
  obtain ⟨hx, hb, hml, hown, hts, -⟩ := id C
  unfold bX5_clashes_61
  refine k_iinc hx hb dX5_clashes_61 (by decide) ?_
  exact sX5_clashes_64 C htab hr HX5_needRequest HX5_isOpenAndAllowed HX5_isAllowedBehind hK19
set_option maxRecDepth 20000 in
theorem sX5_clashes_19 {l : Launch} {z0 b N M : Nat} {D : va_G} {cA : Nat → ClassId} {p : Program} {e : Env} {s : State} {m : MethodId} {args : Array Value} {below : List Frame} {meth : Method} {c : Code} {Kn : Option Value → ZH → Prop} {Kx : Nat → Prop} {h0 : ZH} {K19 : ZK ZH} (C : zCx p l (zRm 7 M 135) s m args meth c cX5_clashes 4 RX5 z0 D cA M) (htab : ∀ x ∈ c.exceptionTable.toList, False) (hr : meth.sig.returnType = (some .int)) (HX5_needRequest : Sem l z0 b N D cA yX5_needRequest cX5_needRequest 2 none 6 82 2 eX5_needRequest tX5_needRequest) (HX5_isOpenAndAllowed : Sem l z0 b N D cA yX5_isOpenAndAllowed cX5_isOpenAndAllowed 2 (some .boolean) 4 92 2 zno tX5_isOpenAndAllowed) (HX5_isAllowedBehind : Sem l z0 b N D cA yX5_isAllowedBehind cX5_isAllowedBehind 3 (some .boolean) 5 113 3 zno tX5_isAllowedBehind) (hK19 : Snd p l e (zRm 7 M 135) s m args below meth c 4 z0 b (zI z0 b N D cA s) (fun _ => (0, 0)) (vx_MQ below (zQn z0 b N D cA Kn) (zXn z0 b N D cA Kx h0) args s M (6 * M) (fun q => z0 ≤ q)) 19 K19) : Snd p l e (zRm 7 M 135) s m args below meth c 4 z0 b (zI z0 b N D cA s) (fun _ => (0, 0)) (vx_MQ below (zQn z0 b N D cA Kn) (zXn z0 b N D cA Kx h0) args s M (6 * M) (fun q => z0 ≤ q)) 19 (bX5_clashes_19 M Kn Kx h0 K19) := by
  obtain ⟨hx, hb, hml, hown, hts, -⟩ := id C
  unfold bX5_clashes_19
  refine k_iload_n hx hb dX5_clashes_19 rfl ?_
  refine k_aload_n hx hb dX5_clashes_20 rfl ?_
  refine k_getf C (ci := 5) (k := 3) (Tf := TX5) (Nf := 6) (Cn := RX5) rfl zinX5 (by decide) rfl zfX5_29 dX5_clashes_21 ?_
  refine k_getf C (ci := 2) (k := 6) (Tf := TX2) (Nf := 7) (Cn := RX2) rfl zinX2 (by decide) rfl zfX5_159 dX5_clashes_24 ?_
  refine k_icmp_ge (tgt := 70) hx hb dX5_clashes_27 (by decide) ?_ ?_
  · refine k_iload_n hx hb dX5_clashes_70 rfl ?_
    exact k_ret C hr dX5_clashes_71
  · refine k_iload_n hx hb dX5_clashes_30 rfl ?_
    refine k_iload_n hx hb dX5_clashes_31 rfl ?_
    refine k_icmp_eq (tgt := 64) hx hb dX5_clashes_32 (by decide) ?_ ?_
    · exact sX5_clashes_64 C htab hr HX5_needRequest HX5_isOpenAndAllowed HX5_isAllowedBehind hK19
    · refine k_aload_n hx hb dX5_clashes_35 rfl ?_
      refine k_iload_n hx hb dX5_clashes_36 rfl ?_
      refine k_callV1 C htab (ci := 5) (Tf := TX5) (Nf := 6) (Cn := RX5) rfl HX5_isOpenAndAllowed rfl zlX5_187 zmX5_isOpenAndAllowed zvX5_isOpenAndAllowed ziX5 zcX5_isOpenAndAllowed (by decide +kernel) ⟨Nat.le_of_ble_eq_true rfl, Nat.le_of_ble_eq_true rfl⟩ dX5_clashes_37 ?_
      refine k_if_eq (tgt := 64) hx hb dX5_clashes_40 (by decide) ?_ ?_
      · exact sX5_clashes_64 C htab hr HX5_needRequest HX5_isOpenAndAllowed HX5_isAllowedBehind hK19
      · refine k_aload_n hx hb dX5_clashes_43 rfl ?_
        refine k_iload_n hx hb dX5_clashes_44 rfl ?_
        refine k_iload_n hx hb dX5_clashes_45 rfl ?_
        refine k_callV2 C htab (ci := 5) (Tf := TX5) (Nf := 6) (Cn := RX5) rfl HX5_isAllowedBehind rfl zlX5_191 zmX5_isAllowedBehind zvX5_isAllowedBehind ziX5 zcX5_isAllowedBehind (by decide +kernel) ⟨Nat.le_of_ble_eq_true rfl, Nat.le_of_ble_eq_true rfl⟩ dX5_clashes_46 ?_
        refine k_if_eq (tgt := 61) hx hb dX5_clashes_49 (by decide) ?_ ?_
        · exact sX5_clashes_61 C htab hr HX5_needRequest HX5_isOpenAndAllowed HX5_isAllowedBehind hK19
        · refine k_aload_n hx hb dX5_clashes_52 rfl ?_
          refine k_iload_n hx hb dX5_clashes_53 rfl ?_
          refine k_iload_n hx hb dX5_clashes_54 rfl ?_
          refine k_callV2 C htab (ci := 5) (Tf := TX5) (Nf := 6) (Cn := RX5) rfl HX5_isAllowedBehind rfl zlX5_191 zmX5_isAllowedBehind zvX5_isAllowedBehind ziX5 zcX5_isAllowedBehind (by decide +kernel) ⟨Nat.le_of_ble_eq_true rfl, Nat.le_of_ble_eq_true rfl⟩ dX5_clashes_55 ?_
          refine k_if_ne (tgt := 64) hx hb dX5_clashes_58 (by decide) ?_ ?_
          · exact sX5_clashes_64 C htab hr HX5_needRequest HX5_isOpenAndAllowed HX5_isAllowedBehind hK19
          · exact sX5_clashes_61 C htab hr HX5_needRequest HX5_isOpenAndAllowed HX5_isAllowedBehind hK19
set_option maxRecDepth 20000 in
theorem sX5_clashes_0 {l : Launch} {z0 b N M : Nat} {D : va_G} {cA : Nat → ClassId} {p : Program} {e : Env} {s : State} {m : MethodId} {args : Array Value} {below : List Frame} {meth : Method} {c : Code} {Kn : Option Value → ZH → Prop} {Kx : Nat → Prop} {h0 : ZH} {K19 : ZK ZH} (C : zCx p l (zRm 7 M 135) s m args meth c cX5_clashes 4 RX5 z0 D cA M) (htab : ∀ x ∈ c.exceptionTable.toList, False) (hr : meth.sig.returnType = (some .int)) (HX5_needRequest : Sem l z0 b N D cA yX5_needRequest cX5_needRequest 2 none 6 82 2 eX5_needRequest tX5_needRequest) (HX5_isOpenAndAllowed : Sem l z0 b N D cA yX5_isOpenAndAllowed cX5_isOpenAndAllowed 2 (some .boolean) 4 92 2 zno tX5_isOpenAndAllowed) (HX5_isAllowedBehind : Sem l z0 b N D cA yX5_isAllowedBehind cX5_isAllowedBehind 3 (some .boolean) 5 113 3 zno tX5_isAllowedBehind) (hK19 : Snd p l e (zRm 7 M 135) s m args below meth c 4 z0 b (zI z0 b N D cA s) (fun _ => (0, 0)) (vx_MQ below (zQn z0 b N D cA Kn) (zXn z0 b N D cA Kx h0) args s M (6 * M) (fun q => z0 ≤ q)) 19 K19) : Snd p l e (zRm 7 M 135) s m args below meth c 4 z0 b (zI z0 b N D cA s) (fun _ => (0, 0)) (vx_MQ below (zQn z0 b N D cA Kn) (zXn z0 b N D cA Kx h0) args s M (6 * M) (fun q => z0 ≤ q)) 0 (bX5_clashes_0 M Kn Kx h0 K19) := by
  obtain ⟨hx, hb, hml, hown, hts, -⟩ := id C
  unfold bX5_clashes_0
  refine k_aload_n hx hb dX5_clashes_0 rfl ?_
  refine k_iload_n hx hb dX5_clashes_1 rfl ?_
  refine k_callV1 C htab (ci := 5) (Tf := TX5) (Nf := 6) (Cn := RX5) rfl HX5_needRequest rfl zlX5_166 zmX5_needRequest zvX5_needRequest ziX5 zcX5_needRequest (by decide +kernel) ⟨Nat.le_of_ble_eq_true rfl, Nat.le_of_ble_eq_true rfl⟩ dX5_clashes_2 ?_
  refine k_aload_n hx hb dX5_clashes_5 rfl ?_
  refine k_iload_n hx hb dX5_clashes_6 rfl ?_
  refine k_callV1 C htab (ci := 5) (Tf := TX5) (Nf := 6) (Cn := RX5) rfl HX5_isOpenAndAllowed rfl zlX5_187 zmX5_isOpenAndAllowed zvX5_isOpenAndAllowed ziX5 zcX5_isOpenAndAllowed (by decide +kernel) ⟨Nat.le_of_ble_eq_true rfl, Nat.le_of_ble_eq_true rfl⟩ dX5_clashes_7 ?_
  refine k_if_ne (tgt := 15) hx hb dX5_clashes_10 (by decide) ?_ ?_
  · refine k_iconst hx hb dX5_clashes_15 (by decide) ?_
    refine k_istore_n hx hb dX5_clashes_16 rfl ?_
    refine k_iconst hx hb dX5_clashes_17 (by decide) ?_
    refine k_istore_n hx hb dX5_clashes_18 rfl ?_
    exact hK19
  · refine k_iconst hx hb dX5_clashes_13 (by decide) ?_
    exact k_ret C hr dX5_clashes_14
set_option maxRecDepth 20000 in
theorem uX5_clashes {l : Launch} {z0 b N : Nat} {D : va_G} {cA : Nat → ClassId} (hlt : l.stackTraces = false) (HX5_needRequest : Sem l z0 b N D cA yX5_needRequest cX5_needRequest 2 none 6 82 2 eX5_needRequest tX5_needRequest) (HX5_isOpenAndAllowed : Sem l z0 b N D cA yX5_isOpenAndAllowed cX5_isOpenAndAllowed 2 (some .boolean) 4 92 2 zno tX5_isOpenAndAllowed) (HX5_isAllowedBehind : Sem l z0 b N D cA yX5_isAllowedBehind cX5_isAllowedBehind 3 (some .boolean) 5 113 3 zno tX5_isAllowedBehind) (spec : ∀ (M : Nat) (a : List Value) (h : ZH) (Kn : Option Value → ZH → Prop) (Kx : Nat → Prop), zok 2 a = true → (∀ k, eX5_clashes a h k → M = 1 ∧ Kx k) → ((∀ k, ¬ eX5_clashes a h k) → tX5_clashes a h Kn) → ∀ (A : Nat → ZK ZH), (∀ ls st h', bX5_clashes_19 M Kn Kx h (A 19) ls st h' → A 19 ls st h') → bX5_clashes_0 M Kn Kx h (A 19) (zE 4 a) [] h) : Sem l z0 b N D cA yX5_clashes cX5_clashes 4 (some .int) 7 135 2 eX5_clashes tX5_clashes :=
  sem_of hlt (by decide +kernel) (by decide) (fun p e s m args below meth c M a h Kn Kx hok hX hN C hr htab => sX5_clashes_0 C htab hr HX5_needRequest HX5_isOpenAndAllowed HX5_isAllowedBehind (fun _ _ _ q => q) _ _ _ (spec M a h Kn Kx hok hX hN (fun pc => AW p l e (zRm 7 M 135) s m args below meth c 4 z0 b (zI z0 b N D cA s) (fun _ => (0, 0)) (vx_MQ below (zQn z0 b N D cA Kn) (zXn z0 b N D cA Kx h) args s M (6 * M) (fun q => z0 ≤ q)) pc) (fun ls st h' hq => sX5_clashes_19 C htab hr HX5_needRequest HX5_isOpenAndAllowed HX5_isAllowedBehind (fun _ _ _ q => q) ls st h' hq)))
set_option maxRecDepth 20000 in
theorem sX5_alias_0 {l : Launch} {z0 b N M : Nat} {D : va_G} {cA : Nat → ClassId} {p : Program} {e : Env} {s : State} {m : MethodId} {args : Array Value} {below : List Frame} {meth : Method} {c : Code} {Kn : Option Value → ZH → Prop} {Kx : Nat → Prop} {h0 : ZH} (C : zCx p l (zRm 7 M 103) s m args meth c cX5_alias 2 RX5 z0 D cA M) (htab : ∀ x ∈ c.exceptionTable.toList, False) (hr : meth.sig.returnType = (some .int)) (HX5_needTag : Sem l z0 b N D cA yX5_needTag cX5_needTag 2 none 6 82 2 eX5_needTag tX5_needTag) : Snd p l e (zRm 7 M 103) s m args below meth c 2 z0 b (zI z0 b N D cA s) (fun _ => (0, 0)) (vx_MQ below (zQn z0 b N D cA Kn) (zXn z0 b N D cA Kx h0) args s M (6 * M) (fun q => z0 ≤ q)) 0 (bX5_alias_0 M Kn Kx h0) := by
  obtain ⟨hx, hb, hml, hown, hts, -⟩ := id C
  unfold bX5_alias_0
  refine k_aload_n hx hb dX5_alias_0 rfl ?_
  refine k_iload_n hx hb dX5_alias_1 rfl ?_
  refine k_callV1 C htab (ci := 5) (Tf := TX5) (Nf := 6) (Cn := RX5) rfl HX5_needTag rfl zlX5_92 zmX5_needTag zvX5_needTag ziX5 zcX5_needTag (by decide +kernel) ⟨Nat.le_of_ble_eq_true rfl, Nat.le_of_ble_eq_true rfl⟩ dX5_alias_2 ?_
  refine k_aload_n hx hb dX5_alias_5 rfl ?_
  refine k_getf C (ci := 5) (k := 1) (Tf := TX5) (Nf := 6) (Cn := RX5) rfl zinX5 (by decide) rfl zfX5_19 dX5_alias_6 ?_
  refine k_getf C (ci := 4) (k := 0) (Tf := TX4) (Nf := 5) (Cn := RX4) rfl zinX4 (by decide) rfl zfX5_194 dX5_alias_9 ?_
  refine k_iload_n hx hb dX5_alias_12 rfl ?_
  refine k_iald C dX5_alias_13 ?_
  exact k_ret C hr dX5_alias_14
set_option maxRecDepth 20000 in
theorem uX5_alias {l : Launch} {z0 b N : Nat} {D : va_G} {cA : Nat → ClassId} (hlt : l.stackTraces = false) (HX5_needTag : Sem l z0 b N D cA yX5_needTag cX5_needTag 2 none 6 82 2 eX5_needTag tX5_needTag) (spec : ∀ (M : Nat) (a : List Value) (h : ZH) (Kn : Option Value → ZH → Prop) (Kx : Nat → Prop), zok 2 a = true → (∀ k, eX5_alias a h k → M = 1 ∧ Kx k) → ((∀ k, ¬ eX5_alias a h k) → tX5_alias a h Kn) → bX5_alias_0 M Kn Kx h (zE 2 a) [] h) : Sem l z0 b N D cA yX5_alias cX5_alias 2 (some .int) 7 103 2 eX5_alias tX5_alias :=
  sem_of hlt (by decide +kernel) (by decide) (fun p e s m args below meth c M a h Kn Kx hok hX hN C hr htab => sX5_alias_0 C htab hr HX5_needTag _ _ _ (spec M a h Kn Kx hok hX hN))
set_option maxRecDepth 20000 in
theorem sX5_end_0 {l : Launch} {z0 b N M : Nat} {D : va_G} {cA : Nat → ClassId} {p : Program} {e : Env} {s : State} {m : MethodId} {args : Array Value} {below : List Frame} {meth : Method} {c : Code} {Kn : Option Value → ZH → Prop} {Kx : Nat → Prop} {h0 : ZH} (C : zCx p l (zRm 7 M 103) s m args meth c cX5_end 2 RX5 z0 D cA M) (htab : ∀ x ∈ c.exceptionTable.toList, False) (hr : meth.sig.returnType = (some .int)) (HX5_needTag : Sem l z0 b N D cA yX5_needTag cX5_needTag 2 none 6 82 2 eX5_needTag tX5_needTag) (HX4_endOf : Sem l z0 b N D cA yX4_endOf cX4_endOf 5 (some .int) 0 0 2 zno tX4_endOf) : Snd p l e (zRm 7 M 103) s m args below meth c 2 z0 b (zI z0 b N D cA s) (fun _ => (0, 0)) (vx_MQ below (zQn z0 b N D cA Kn) (zXn z0 b N D cA Kx h0) args s M (6 * M) (fun q => z0 ≤ q)) 0 (bX5_end_0 M Kn Kx h0) := by
  obtain ⟨hx, hb, hml, hown, hts, -⟩ := id C
  unfold bX5_end_0
  refine k_aload_n hx hb dX5_end_0 rfl ?_
  refine k_iload_n hx hb dX5_end_1 rfl ?_
  refine k_callV1 C htab (ci := 5) (Tf := TX5) (Nf := 6) (Cn := RX5) rfl HX5_needTag rfl zlX5_92 zmX5_needTag zvX5_needTag ziX5 zcX5_needTag (by decide +kernel) ⟨Nat.le_of_ble_eq_true rfl, Nat.le_of_ble_eq_true rfl⟩ dX5_end_2 ?_
  refine k_aload_n hx hb dX5_end_5 rfl ?_
  refine k_getf C (ci := 5) (k := 1) (Tf := TX5) (Nf := 6) (Cn := RX5) rfl zinX5 (by decide) rfl zfX5_19 dX5_end_6 ?_
  refine k_iload_n hx hb dX5_end_9 rfl ?_
  refine k_callV1 C htab (ci := 4) (Tf := TX4) (Nf := 5) (Cn := RX4) rfl HX4_endOf rfl zlX5_128 zmX4_endOf zvX4_endOf ziX4 zcX4_endOf (by decide +kernel) ⟨Nat.le_of_ble_eq_true rfl, Nat.le_of_ble_eq_true rfl⟩ dX5_end_10 ?_
  exact k_ret C hr dX5_end_13
set_option maxRecDepth 20000 in
theorem uX5_end {l : Launch} {z0 b N : Nat} {D : va_G} {cA : Nat → ClassId} (hlt : l.stackTraces = false) (HX5_needTag : Sem l z0 b N D cA yX5_needTag cX5_needTag 2 none 6 82 2 eX5_needTag tX5_needTag) (HX4_endOf : Sem l z0 b N D cA yX4_endOf cX4_endOf 5 (some .int) 0 0 2 zno tX4_endOf) (spec : ∀ (M : Nat) (a : List Value) (h : ZH) (Kn : Option Value → ZH → Prop) (Kx : Nat → Prop), zok 2 a = true → (∀ k, eX5_end a h k → M = 1 ∧ Kx k) → ((∀ k, ¬ eX5_end a h k) → tX5_end a h Kn) → bX5_end_0 M Kn Kx h (zE 2 a) [] h) : Sem l z0 b N D cA yX5_end cX5_end 2 (some .int) 7 103 2 eX5_end tX5_end :=
  sem_of hlt (by decide +kernel) (by decide) (fun p e s m args below meth c M a h Kn Kx hok hX hN C hr htab => sX5_end_0 C htab hr HX5_needTag HX4_endOf _ _ _ (spec M a h Kn Kx hok hX hN))
set_option maxRecDepth 20000 in
theorem sX5_implies_0 {l : Launch} {z0 b N M : Nat} {D : va_G} {cA : Nat → ClassId} {p : Program} {e : Env} {s : State} {m : MethodId} {args : Array Value} {below : List Frame} {meth : Method} {c : Code} {Kn : Option Value → ZH → Prop} {Kx : Nat → Prop} {h0 : ZH} (C : zCx p l (zRm 7 M 103) s m args meth c cX5_implies 3 RX5 z0 D cA M) (htab : ∀ x ∈ c.exceptionTable.toList, False) (hr : meth.sig.returnType = (some .boolean)) (HX5_needTag : Sem l z0 b N D cA yX5_needTag cX5_needTag 2 none 6 82 2 eX5_needTag tX5_needTag) (HX5_has : Sem l z0 b N D cA yX5_has cX5_has 2 (some .boolean) 0 0 2 zno tX5_has) : Snd p l e (zRm 7 M 103) s m args below meth c 3 z0 b (zI z0 b N D cA s) (fun _ => (0, 0)) (vx_MQ below (zQn z0 b N D cA Kn) (zXn z0 b N D cA Kx h0) args s M (6 * M) (fun q => z0 ≤ q)) 0 (bX5_implies_0 M Kn Kx h0) := by
  obtain ⟨hx, hb, hml, hown, hts, -⟩ := id C
  unfold bX5_implies_0
  refine k_aload_n hx hb dX5_implies_0 rfl ?_
  refine k_iload_n hx hb dX5_implies_1 rfl ?_
  refine k_callV1 C htab (ci := 5) (Tf := TX5) (Nf := 6) (Cn := RX5) rfl HX5_needTag rfl zlX5_92 zmX5_needTag zvX5_needTag ziX5 zcX5_needTag (by decide +kernel) ⟨Nat.le_of_ble_eq_true rfl, Nat.le_of_ble_eq_true rfl⟩ dX5_implies_2 ?_
  refine k_aload_n hx hb dX5_implies_5 rfl ?_
  refine k_iload_n hx hb dX5_implies_6 rfl ?_
  refine k_callV1 C htab (ci := 5) (Tf := TX5) (Nf := 6) (Cn := RX5) rfl HX5_needTag rfl zlX5_92 zmX5_needTag zvX5_needTag ziX5 zcX5_needTag (by decide +kernel) ⟨Nat.le_of_ble_eq_true rfl, Nat.le_of_ble_eq_true rfl⟩ dX5_implies_7 ?_
  refine k_aload_n hx hb dX5_implies_10 rfl ?_
  refine k_getf C (ci := 5) (k := 1) (Tf := TX5) (Nf := 6) (Cn := RX5) rfl zinX5 (by decide) rfl zfX5_19 dX5_implies_11 ?_
  refine k_getf C (ci := 4) (k := 1) (Tf := TX4) (Nf := 5) (Cn := RX4) rfl zinX4 (by decide) rfl zfX5_197 dX5_implies_14 ?_
  refine k_iload_n hx hb dX5_implies_17 rfl ?_
  refine k_iald C dX5_implies_18 ?_
  refine k_iload_n hx hb dX5_implies_19 rfl ?_
  refine k_callS2 C htab HX5_has zlX5_135 zsX5_has ziX5 zcX5_has (by decide +kernel) ⟨Nat.le_of_ble_eq_true rfl, Nat.le_of_ble_eq_true rfl⟩ dX5_implies_20 ?_
  exact k_ret C hr dX5_implies_23
set_option maxRecDepth 20000 in
theorem uX5_implies {l : Launch} {z0 b N : Nat} {D : va_G} {cA : Nat → ClassId} (hlt : l.stackTraces = false) (HX5_needTag : Sem l z0 b N D cA yX5_needTag cX5_needTag 2 none 6 82 2 eX5_needTag tX5_needTag) (HX5_has : Sem l z0 b N D cA yX5_has cX5_has 2 (some .boolean) 0 0 2 zno tX5_has) (spec : ∀ (M : Nat) (a : List Value) (h : ZH) (Kn : Option Value → ZH → Prop) (Kx : Nat → Prop), zok 3 a = true → (∀ k, eX5_implies a h k → M = 1 ∧ Kx k) → ((∀ k, ¬ eX5_implies a h k) → tX5_implies a h Kn) → bX5_implies_0 M Kn Kx h (zE 3 a) [] h) : Sem l z0 b N D cA yX5_implies cX5_implies 3 (some .boolean) 7 103 3 eX5_implies tX5_implies :=
  sem_of hlt (by decide +kernel) (by decide) (fun p e s m args below meth c M a h Kn Kx hok hX hN C hr htab => sX5_implies_0 C htab hr HX5_needTag HX5_has _ _ _ (spec M a h Kn Kx hok hX hN))
set_option maxRecDepth 20000 in
theorem sX5_shown_0 {l : Launch} {z0 b N M : Nat} {D : va_G} {cA : Nat → ClassId} {p : Program} {e : Env} {s : State} {m : MethodId} {args : Array Value} {below : List Frame} {meth : Method} {c : Code} {Kn : Option Value → ZH → Prop} {Kx : Nat → Prop} {h0 : ZH} (C : zCx p l (zRm 7 M 103) s m args meth c cX5_shown 2 RX5 z0 D cA M) (htab : ∀ x ∈ c.exceptionTable.toList, False) (hr : meth.sig.returnType = (some .int)) (HX5_needThing : Sem l z0 b N D cA yX5_needThing cX5_needThing 2 none 6 82 2 eX5_needThing tX5_needThing) (HX3_column : Sem l z0 b N D cA yX3_column cX3_column 5 (some .int) 1 21 3 zno tX3_column) : Snd p l e (zRm 7 M 103) s m args below meth c 2 z0 b (zI z0 b N D cA s) (fun _ => (0, 0)) (vx_MQ below (zQn z0 b N D cA Kn) (zXn z0 b N D cA Kx h0) args s M (6 * M) (fun q => z0 ≤ q)) 0 (bX5_shown_0 M Kn Kx h0) := by
  obtain ⟨hx, hb, hml, hown, hts, -⟩ := id C
  unfold bX5_shown_0
  refine k_aload_n hx hb dX5_shown_0 rfl ?_
  refine k_iload_n hx hb dX5_shown_1 rfl ?_
  refine k_callV1 C htab (ci := 5) (Tf := TX5) (Nf := 6) (Cn := RX5) rfl HX5_needThing rfl zlX5_111 zmX5_needThing zvX5_needThing ziX5 zcX5_needThing (by decide +kernel) ⟨Nat.le_of_ble_eq_true rfl, Nat.le_of_ble_eq_true rfl⟩ dX5_shown_2 ?_
  refine k_aload_n hx hb dX5_shown_5 rfl ?_
  refine k_getf C (ci := 5) (k := 5) (Tf := TX5) (Nf := 6) (Cn := RX5) rfl zinX5 (by decide) rfl zfX5_43 dX5_shown_6 ?_
  refine k_iload_n hx hb dX5_shown_9 rfl ?_
  refine k_aload_n hx hb dX5_shown_10 rfl ?_
  refine k_getf C (ci := 5) (k := 0) (Tf := TX5) (Nf := 6) (Cn := RX5) rfl zinX5 (by decide) rfl zfX5_10 dX5_shown_11 ?_
  refine k_getf C (ci := 1) (k := 3) (Tf := TX1) (Nf := 5) (Cn := RX1) rfl zinX1 (by decide) rfl zfX5_77 dX5_shown_14 ?_
  refine k_callV2 C htab (ci := 3) (Tf := TX3) (Nf := 1) (Cn := RX3) rfl HX3_column rfl zlX5_200 zmX3_column zvX3_column ziX3 zcX3_column (by decide +kernel) ⟨Nat.le_of_ble_eq_true rfl, Nat.le_of_ble_eq_true rfl⟩ dX5_shown_17 ?_
  exact k_ret C hr dX5_shown_20
set_option maxRecDepth 20000 in
theorem uX5_shown {l : Launch} {z0 b N : Nat} {D : va_G} {cA : Nat → ClassId} (hlt : l.stackTraces = false) (HX5_needThing : Sem l z0 b N D cA yX5_needThing cX5_needThing 2 none 6 82 2 eX5_needThing tX5_needThing) (HX3_column : Sem l z0 b N D cA yX3_column cX3_column 5 (some .int) 1 21 3 zno tX3_column) (spec : ∀ (M : Nat) (a : List Value) (h : ZH) (Kn : Option Value → ZH → Prop) (Kx : Nat → Prop), zok 2 a = true → (∀ k, eX5_shown a h k → M = 1 ∧ Kx k) → ((∀ k, ¬ eX5_shown a h k) → tX5_shown a h Kn) → bX5_shown_0 M Kn Kx h (zE 2 a) [] h) : Sem l z0 b N D cA yX5_shown cX5_shown 2 (some .int) 7 103 2 eX5_shown tX5_shown :=
  sem_of hlt (by decide +kernel) (by decide) (fun p e s m args below meth c M a h Kn Kx hok hX hN C hr htab => sX5_shown_0 C htab hr HX5_needThing HX3_column _ _ _ (spec M a h Kn Kx hok hX hN))
set_option maxRecDepth 20000 in
theorem sX5_shownByHand_0 {l : Launch} {z0 b N M : Nat} {D : va_G} {cA : Nat → ClassId} {p : Program} {e : Env} {s : State} {m : MethodId} {args : Array Value} {below : List Frame} {meth : Method} {c : Code} {Kn : Option Value → ZH → Prop} {Kx : Nat → Prop} {h0 : ZH} (C : zCx p l (zRm 7 M 103) s m args meth c cX5_shownByHand 2 RX5 z0 D cA M) (htab : ∀ x ∈ c.exceptionTable.toList, False) (hr : meth.sig.returnType = (some .int)) (HX5_needThing : Sem l z0 b N D cA yX5_needThing cX5_needThing 2 none 6 82 2 eX5_needThing tX5_needThing) (HX4_spread : Sem l z0 b N D cA yX4_spread cX4_spread 6 (some .int) 2 47 2 zno tX4_spread) : Snd p l e (zRm 7 M 103) s m args below meth c 2 z0 b (zI z0 b N D cA s) (fun _ => (0, 0)) (vx_MQ below (zQn z0 b N D cA Kn) (zXn z0 b N D cA Kx h0) args s M (6 * M) (fun q => z0 ≤ q)) 0 (bX5_shownByHand_0 M Kn Kx h0) := by
  obtain ⟨hx, hb, hml, hown, hts, -⟩ := id C
  unfold bX5_shownByHand_0
  refine k_aload_n hx hb dX5_shownByHand_0 rfl ?_
  refine k_iload_n hx hb dX5_shownByHand_1 rfl ?_
  refine k_callV1 C htab (ci := 5) (Tf := TX5) (Nf := 6) (Cn := RX5) rfl HX5_needThing rfl zlX5_111 zmX5_needThing zvX5_needThing ziX5 zcX5_needThing (by decide +kernel) ⟨Nat.le_of_ble_eq_true rfl, Nat.le_of_ble_eq_true rfl⟩ dX5_shownByHand_2 ?_
  refine k_aload_n hx hb dX5_shownByHand_5 rfl ?_
  refine k_getf C (ci := 5) (k := 1) (Tf := TX5) (Nf := 6) (Cn := RX5) rfl zinX5 (by decide) rfl zfX5_19 dX5_shownByHand_6 ?_
  refine k_aload_n hx hb dX5_shownByHand_9 rfl ?_
  refine k_getf C (ci := 5) (k := 4) (Tf := TX5) (Nf := 6) (Cn := RX5) rfl zinX5 (by decide) rfl zfX5_36 dX5_shownByHand_10 ?_
  refine k_getf C (ci := 0) (k := 0) (Tf := TX0) (Nf := 7) (Cn := RX0) rfl zinX0 (by decide) rfl zfX5_132 dX5_shownByHand_13 ?_
  refine k_iload_n hx hb dX5_shownByHand_16 rfl ?_
  refine k_iald C dX5_shownByHand_17 ?_
  refine k_callV1 C htab (ci := 4) (Tf := TX4) (Nf := 5) (Cn := RX4) rfl HX4_spread rfl zlX5_204 zmX4_spread zvX4_spread ziX4 zcX4_spread (by decide +kernel) ⟨Nat.le_of_ble_eq_true rfl, Nat.le_of_ble_eq_true rfl⟩ dX5_shownByHand_18 ?_
  exact k_ret C hr dX5_shownByHand_21
set_option maxRecDepth 20000 in
theorem uX5_shownByHand {l : Launch} {z0 b N : Nat} {D : va_G} {cA : Nat → ClassId} (hlt : l.stackTraces = false) (HX5_needThing : Sem l z0 b N D cA yX5_needThing cX5_needThing 2 none 6 82 2 eX5_needThing tX5_needThing) (HX4_spread : Sem l z0 b N D cA yX4_spread cX4_spread 6 (some .int) 2 47 2 zno tX4_spread) (spec : ∀ (M : Nat) (a : List Value) (h : ZH) (Kn : Option Value → ZH → Prop) (Kx : Nat → Prop), zok 2 a = true → (∀ k, eX5_shownByHand a h k → M = 1 ∧ Kx k) → ((∀ k, ¬ eX5_shownByHand a h k) → tX5_shownByHand a h Kn) → bX5_shownByHand_0 M Kn Kx h (zE 2 a) [] h) : Sem l z0 b N D cA yX5_shownByHand cX5_shownByHand 2 (some .int) 7 103 2 eX5_shownByHand tX5_shownByHand :=
  sem_of hlt (by decide +kernel) (by decide) (fun p e s m args below meth c M a h Kn Kx hok hX hN C hr htab => sX5_shownByHand_0 C htab hr HX5_needThing HX4_spread _ _ _ (spec M a h Kn Kx hok hX hN))
set_option maxRecDepth 20000 in
theorem sX5_users_0 {l : Launch} {z0 b N M : Nat} {D : va_G} {cA : Nat → ClassId} {p : Program} {e : Env} {s : State} {m : MethodId} {args : Array Value} {below : List Frame} {meth : Method} {c : Code} {Kn : Option Value → ZH → Prop} {Kx : Nat → Prop} {h0 : ZH} (C : zCx p l (zRm 7 M 103) s m args meth c cX5_users 2 RX5 z0 D cA M) (htab : ∀ x ∈ c.exceptionTable.toList, False) (hr : meth.sig.returnType = (some .int)) (HX5_needTag : Sem l z0 b N D cA yX5_needTag cX5_needTag 2 none 6 82 2 eX5_needTag tX5_needTag) (HJ6_bitCount_0f7a4 : Sem l z0 b N D cA yJ6_bitCount_0f7a4 cJ6_bitCount_0f7a4 1 (some .int) 0 0 1 zno tJ6_bitCount_0f7a4) : Snd p l e (zRm 7 M 103) s m args below meth c 2 z0 b (zI z0 b N D cA s) (fun _ => (0, 0)) (vx_MQ below (zQn z0 b N D cA Kn) (zXn z0 b N D cA Kx h0) args s M (6 * M) (fun q => z0 ≤ q)) 0 (bX5_users_0 M Kn Kx h0) := by
  obtain ⟨hx, hb, hml, hown, hts, -⟩ := id C
  unfold bX5_users_0
  refine k_aload_n hx hb dX5_users_0 rfl ?_
  refine k_iload_n hx hb dX5_users_1 rfl ?_
  refine k_callV1 C htab (ci := 5) (Tf := TX5) (Nf := 6) (Cn := RX5) rfl HX5_needTag rfl zlX5_92 zmX5_needTag zvX5_needTag ziX5 zcX5_needTag (by decide +kernel) ⟨Nat.le_of_ble_eq_true rfl, Nat.le_of_ble_eq_true rfl⟩ dX5_users_2 ?_
  refine k_aload_n hx hb dX5_users_5 rfl ?_
  refine k_getf C (ci := 5) (k := 5) (Tf := TX5) (Nf := 6) (Cn := RX5) rfl zinX5 (by decide) rfl zfX5_43 dX5_users_6 ?_
  refine k_getf C (ci := 3) (k := 0) (Tf := TX3) (Nf := 1) (Cn := RX3) rfl zinX3 (by decide) rfl zfX5_125 dX5_users_9 ?_
  refine k_iload_n hx hb dX5_users_12 rfl ?_
  refine k_iald C dX5_users_13 ?_
  refine k_callS1 C htab HJ6_bitCount_0f7a4 zlX5_207 zsJ6_bitCount_0f7a4 ziJ6 zcJ6_bitCount_0f7a4 (by decide +kernel) ⟨Nat.le_of_ble_eq_true rfl, Nat.le_of_ble_eq_true rfl⟩ dX5_users_14 ?_
  exact k_ret C hr dX5_users_17
set_option maxRecDepth 20000 in
theorem uX5_users {l : Launch} {z0 b N : Nat} {D : va_G} {cA : Nat → ClassId} (hlt : l.stackTraces = false) (HX5_needTag : Sem l z0 b N D cA yX5_needTag cX5_needTag 2 none 6 82 2 eX5_needTag tX5_needTag) (HJ6_bitCount_0f7a4 : Sem l z0 b N D cA yJ6_bitCount_0f7a4 cJ6_bitCount_0f7a4 1 (some .int) 0 0 1 zno tJ6_bitCount_0f7a4) (spec : ∀ (M : Nat) (a : List Value) (h : ZH) (Kn : Option Value → ZH → Prop) (Kx : Nat → Prop), zok 2 a = true → (∀ k, eX5_users a h k → M = 1 ∧ Kx k) → ((∀ k, ¬ eX5_users a h k) → tX5_users a h Kn) → bX5_users_0 M Kn Kx h (zE 2 a) [] h) : Sem l z0 b N D cA yX5_users cX5_users 2 (some .int) 7 103 2 eX5_users tX5_users :=
  sem_of hlt (by decide +kernel) (by decide) (fun p e s m args below meth c M a h Kn Kx hok hX hN C hr htab => sX5_users_0 C htab hr HX5_needTag HJ6_bitCount_0f7a4 _ _ _ (spec M a h Kn Kx hok hX hN))
set_option maxRecDepth 20000 in
theorem sX5_reason_0 {l : Launch} {z0 b N M : Nat} {D : va_G} {cA : Nat → ClassId} {p : Program} {e : Env} {s : State} {m : MethodId} {args : Array Value} {below : List Frame} {meth : Method} {c : Code} {Kn : Option Value → ZH → Prop} {Kx : Nat → Prop} {h0 : ZH} (C : zCx p l (zRm 7 M 103) s m args meth c cX5_reason 3 RX5 z0 D cA M) (htab : ∀ x ∈ c.exceptionTable.toList, False) (hr : meth.sig.returnType = (some .int)) (HX5_needThing : Sem l z0 b N D cA yX5_needThing cX5_needThing 2 none 6 82 2 eX5_needThing tX5_needThing) (HX5_needTag : Sem l z0 b N D cA yX5_needTag cX5_needTag 2 none 6 82 2 eX5_needTag tX5_needTag) (HX4_nearest : Sem l z0 b N D cA yX4_nearest cX4_nearest 6 (some .int) 1 24 3 zno tX4_nearest) : Snd p l e (zRm 7 M 103) s m args below meth c 3 z0 b (zI z0 b N D cA s) (fun _ => (0, 0)) (vx_MQ below (zQn z0 b N D cA Kn) (zXn z0 b N D cA Kx h0) args s M (6 * M) (fun q => z0 ≤ q)) 0 (bX5_reason_0 M Kn Kx h0) := by
  obtain ⟨hx, hb, hml, hown, hts, -⟩ := id C
  unfold bX5_reason_0
  refine k_aload_n hx hb dX5_reason_0 rfl ?_
  refine k_iload_n hx hb dX5_reason_1 rfl ?_
  refine k_callV1 C htab (ci := 5) (Tf := TX5) (Nf := 6) (Cn := RX5) rfl HX5_needThing rfl zlX5_111 zmX5_needThing zvX5_needThing ziX5 zcX5_needThing (by decide +kernel) ⟨Nat.le_of_ble_eq_true rfl, Nat.le_of_ble_eq_true rfl⟩ dX5_reason_2 ?_
  refine k_aload_n hx hb dX5_reason_5 rfl ?_
  refine k_iload_n hx hb dX5_reason_6 rfl ?_
  refine k_callV1 C htab (ci := 5) (Tf := TX5) (Nf := 6) (Cn := RX5) rfl HX5_needTag rfl zlX5_92 zmX5_needTag zvX5_needTag ziX5 zcX5_needTag (by decide +kernel) ⟨Nat.le_of_ble_eq_true rfl, Nat.le_of_ble_eq_true rfl⟩ dX5_reason_7 ?_
  refine k_aload_n hx hb dX5_reason_10 rfl ?_
  refine k_getf C (ci := 5) (k := 1) (Tf := TX5) (Nf := 6) (Cn := RX5) rfl zinX5 (by decide) rfl zfX5_19 dX5_reason_11 ?_
  refine k_aload_n hx hb dX5_reason_14 rfl ?_
  refine k_getf C (ci := 5) (k := 4) (Tf := TX5) (Nf := 6) (Cn := RX5) rfl zinX5 (by decide) rfl zfX5_36 dX5_reason_15 ?_
  refine k_getf C (ci := 0) (k := 0) (Tf := TX0) (Nf := 7) (Cn := RX0) rfl zinX0 (by decide) rfl zfX5_132 dX5_reason_18 ?_
  refine k_iload_n hx hb dX5_reason_21 rfl ?_
  refine k_iald C dX5_reason_22 ?_
  refine k_iload_n hx hb dX5_reason_23 rfl ?_
  refine k_callV2 C htab (ci := 4) (Tf := TX4) (Nf := 5) (Cn := RX4) rfl HX4_nearest rfl zlX5_212 zmX4_nearest zvX4_nearest ziX4 zcX4_nearest (by decide +kernel) ⟨Nat.le_of_ble_eq_true rfl, Nat.le_of_ble_eq_true rfl⟩ dX5_reason_24 ?_
  exact k_ret C hr dX5_reason_27
set_option maxRecDepth 20000 in
theorem uX5_reason {l : Launch} {z0 b N : Nat} {D : va_G} {cA : Nat → ClassId} (hlt : l.stackTraces = false) (HX5_needThing : Sem l z0 b N D cA yX5_needThing cX5_needThing 2 none 6 82 2 eX5_needThing tX5_needThing) (HX5_needTag : Sem l z0 b N D cA yX5_needTag cX5_needTag 2 none 6 82 2 eX5_needTag tX5_needTag) (HX4_nearest : Sem l z0 b N D cA yX4_nearest cX4_nearest 6 (some .int) 1 24 3 zno tX4_nearest) (spec : ∀ (M : Nat) (a : List Value) (h : ZH) (Kn : Option Value → ZH → Prop) (Kx : Nat → Prop), zok 3 a = true → (∀ k, eX5_reason a h k → M = 1 ∧ Kx k) → ((∀ k, ¬ eX5_reason a h k) → tX5_reason a h Kn) → bX5_reason_0 M Kn Kx h (zE 3 a) [] h) : Sem l z0 b N D cA yX5_reason cX5_reason 3 (some .int) 7 103 3 eX5_reason tX5_reason :=
  sem_of hlt (by decide +kernel) (by decide) (fun p e s m args below meth c M a h Kn Kx hok hX hN C hr htab => sX5_reason_0 C htab hr HX5_needThing HX5_needTag HX4_nearest _ _ _ (spec M a h Kn Kx hok hX hN))
set_option maxRecDepth 20000 in
theorem sX5_count_0 {l : Launch} {z0 b N M : Nat} {D : va_G} {cA : Nat → ClassId} {p : Program} {e : Env} {s : State} {m : MethodId} {args : Array Value} {below : List Frame} {meth : Method} {c : Code} {Kn : Option Value → ZH → Prop} {Kx : Nat → Prop} {h0 : ZH} (C : zCx p l (zRm 7 M 105) s m args meth c cX5_count 4 RX5 z0 D cA M) (htab : ∀ x ∈ c.exceptionTable.toList, False) (hr : meth.sig.returnType = (some .int)) (HX5_needSets : Sem l z0 b N D cA yX5_needSets cX5_needSets 4 none 6 82 4 eX5_needSets tX5_needSets) (HX5_matching : Sem l z0 b N D cA yX5_matching cX5_matching 8 (some .int) 1 24 4 zno tX5_matching) (HJ6_bitCount_0f7a4 : Sem l z0 b N D cA yJ6_bitCount_0f7a4 cJ6_bitCount_0f7a4 1 (some .int) 0 0 1 zno tJ6_bitCount_0f7a4) : Snd p l e (zRm 7 M 105) s m args below meth c 4 z0 b (zI z0 b N D cA s) (fun _ => (0, 0)) (vx_MQ below (zQn z0 b N D cA Kn) (zXn z0 b N D cA Kx h0) args s M (6 * M) (fun q => z0 ≤ q)) 0 (bX5_count_0 M Kn Kx h0) := by
  obtain ⟨hx, hb, hml, hown, hts, -⟩ := id C
  unfold bX5_count_0
  refine k_aload_n hx hb dX5_count_0 rfl ?_
  refine k_iload_n hx hb dX5_count_1 rfl ?_
  refine k_iload_n hx hb dX5_count_2 rfl ?_
  refine k_iload_n hx hb dX5_count_3 rfl ?_
  refine k_callV3 C htab (ci := 5) (Tf := TX5) (Nf := 6) (Cn := RX5) rfl HX5_needSets rfl zlX5_215 zmX5_needSets zvX5_needSets ziX5 zcX5_needSets (by decide +kernel) ⟨Nat.le_of_ble_eq_true rfl, Nat.le_of_ble_eq_true rfl⟩ dX5_count_4 ?_
  refine k_aload_n hx hb dX5_count_7 rfl ?_
  refine k_iload_n hx hb dX5_count_8 rfl ?_
  refine k_iload_n hx hb dX5_count_9 rfl ?_
  refine k_iload_n hx hb dX5_count_10 rfl ?_
  refine k_callV3 C htab (ci := 5) (Tf := TX5) (Nf := 6) (Cn := RX5) rfl HX5_matching rfl zlX5_219 zmX5_matching zvX5_matching ziX5 zcX5_matching (by decide +kernel) ⟨Nat.le_of_ble_eq_true rfl, Nat.le_of_ble_eq_true rfl⟩ dX5_count_11 ?_
  refine k_callS1 C htab HJ6_bitCount_0f7a4 zlX5_207 zsJ6_bitCount_0f7a4 ziJ6 zcJ6_bitCount_0f7a4 (by decide +kernel) ⟨Nat.le_of_ble_eq_true rfl, Nat.le_of_ble_eq_true rfl⟩ dX5_count_14 ?_
  exact k_ret C hr dX5_count_17
set_option maxRecDepth 20000 in
theorem uX5_count {l : Launch} {z0 b N : Nat} {D : va_G} {cA : Nat → ClassId} (hlt : l.stackTraces = false) (HX5_needSets : Sem l z0 b N D cA yX5_needSets cX5_needSets 4 none 6 82 4 eX5_needSets tX5_needSets) (HX5_matching : Sem l z0 b N D cA yX5_matching cX5_matching 8 (some .int) 1 24 4 zno tX5_matching) (HJ6_bitCount_0f7a4 : Sem l z0 b N D cA yJ6_bitCount_0f7a4 cJ6_bitCount_0f7a4 1 (some .int) 0 0 1 zno tJ6_bitCount_0f7a4) (spec : ∀ (M : Nat) (a : List Value) (h : ZH) (Kn : Option Value → ZH → Prop) (Kx : Nat → Prop), zok 4 a = true → (∀ k, eX5_count a h k → M = 1 ∧ Kx k) → ((∀ k, ¬ eX5_count a h k) → tX5_count a h Kn) → bX5_count_0 M Kn Kx h (zE 4 a) [] h) : Sem l z0 b N D cA yX5_count cX5_count 4 (some .int) 7 105 4 eX5_count tX5_count :=
  sem_of hlt (by decide +kernel) (by decide) (fun p e s m args below meth c M a h Kn Kx hok hX hN C hr htab => sX5_count_0 C htab hr HX5_needSets HX5_matching HJ6_bitCount_0f7a4 _ _ _ (spec M a h Kn Kx hok hX hN))
set_option maxRecDepth 20000 in
theorem sX5_match_0 {l : Launch} {z0 b N M : Nat} {D : va_G} {cA : Nat → ClassId} {p : Program} {e : Env} {s : State} {m : MethodId} {args : Array Value} {below : List Frame} {meth : Method} {c : Code} {Kn : Option Value → ZH → Prop} {Kx : Nat → Prop} {h0 : ZH} (C : zCx p l (zRm 7 M 105) s m args meth c cX5_match 6 RX5 z0 D cA M) (htab : ∀ x ∈ c.exceptionTable.toList, False) (hr : meth.sig.returnType = (some .int)) (HX5_needSets : Sem l z0 b N D cA yX5_needSets cX5_needSets 4 none 6 82 4 eX5_needSets tX5_needSets) (HX5_matching : Sem l z0 b N D cA yX5_matching cX5_matching 8 (some .int) 1 24 4 zno tX5_matching) (HX5_memberAt : Sem l z0 b N D cA yX5_memberAt cX5_memberAt 4 (some .int) 1 21 2 zno tX5_memberAt) : Snd p l e (zRm 7 M 105) s m args below meth c 6 z0 b (zI z0 b N D cA s) (fun _ => (0, 0)) (vx_MQ below (zQn z0 b N D cA Kn) (zXn z0 b N D cA Kx h0) args s M (6 * M) (fun q => z0 ≤ q)) 0 (bX5_match_0 M Kn Kx h0) := by
  obtain ⟨hx, hb, hml, hown, hts, -⟩ := id C
  unfold bX5_match_0
  refine k_iload_n hx hb dX5_match_0 rfl ?_
  refine k_if_ge (tgt := 14) hx hb dX5_match_1 (by decide) ?_ ?_
  · refine k_aload_n hx hb dX5_match_14 rfl ?_
    refine k_iload_n hx hb dX5_match_15 rfl ?_
    refine k_iload_n hx hb dX5_match_16 rfl ?_
    refine k_iload hx hb dX5_match_17 ?_
    refine k_callV3 C htab (ci := 5) (Tf := TX5) (Nf := 6) (Cn := RX5) rfl HX5_needSets rfl zlX5_215 zmX5_needSets zvX5_needSets ziX5 zcX5_needSets (by decide +kernel) ⟨Nat.le_of_ble_eq_true rfl, Nat.le_of_ble_eq_true rfl⟩ dX5_match_19 ?_
    refine k_aload_n hx hb dX5_match_22 rfl ?_
    refine k_iload_n hx hb dX5_match_23 rfl ?_
    refine k_iload_n hx hb dX5_match_24 rfl ?_
    refine k_iload hx hb dX5_match_25 ?_
    refine k_callV3 C htab (ci := 5) (Tf := TX5) (Nf := 6) (Cn := RX5) rfl HX5_matching rfl zlX5_219 zmX5_matching zvX5_matching ziX5 zcX5_matching (by decide +kernel) ⟨Nat.le_of_ble_eq_true rfl, Nat.le_of_ble_eq_true rfl⟩ dX5_match_27 ?_
    refine k_iload_n hx hb dX5_match_30 rfl ?_
    refine k_callS2 C htab HX5_memberAt zlX5_224 zsX5_memberAt ziX5 zcX5_memberAt (by decide +kernel) ⟨Nat.le_of_ble_eq_true rfl, Nat.le_of_ble_eq_true rfl⟩ dX5_match_31 ?_
    refine k_istore hx hb dX5_match_34 ?_
    refine k_iload hx hb dX5_match_36 ?_
    refine k_iconst hx hb dX5_match_38 (by decide) ?_
    refine k_icmp_ne (tgt := 52) hx hb dX5_match_39 (by decide) ?_ ?_
    · refine k_iload hx hb dX5_match_52 ?_
      exact k_ret C hr dX5_match_54
    · exact k_throw C htab (k := 2) (ik := 99) (is := 227) (ic := 103) (X := "java/lang/IndexOutOfBoundsException") (text := "no such place") rfl (by decide +kernel) (by decide +kernel) zfit2 zfitN znX5_99 ziIndexOutOfBoundsException zat1_103 zat2_103 zat3_103 dX5_match_42 dX5_match_45 dX5_match_46 dX5_match_48 dX5_match_51 ⟨Nat.le_of_ble_eq_true rfl, Nat.le_of_ble_eq_true rfl⟩
  · exact k_throw C htab (k := 2) (ik := 99) (is := 222) (ic := 103) (X := "java/lang/IndexOutOfBoundsException") (text := "no place is below 0") rfl (by decide +kernel) (by decide +kernel) zfit2 zfitN znX5_99 ziIndexOutOfBoundsException zat1_103 zat2_103 zat3_103 dX5_match_4 dX5_match_7 dX5_match_8 dX5_match_10 dX5_match_13 ⟨Nat.le_of_ble_eq_true rfl, Nat.le_of_ble_eq_true rfl⟩
set_option maxRecDepth 20000 in
theorem uX5_match {l : Launch} {z0 b N : Nat} {D : va_G} {cA : Nat → ClassId} (hlt : l.stackTraces = false) (HX5_needSets : Sem l z0 b N D cA yX5_needSets cX5_needSets 4 none 6 82 4 eX5_needSets tX5_needSets) (HX5_matching : Sem l z0 b N D cA yX5_matching cX5_matching 8 (some .int) 1 24 4 zno tX5_matching) (HX5_memberAt : Sem l z0 b N D cA yX5_memberAt cX5_memberAt 4 (some .int) 1 21 2 zno tX5_memberAt) (spec : ∀ (M : Nat) (a : List Value) (h : ZH) (Kn : Option Value → ZH → Prop) (Kx : Nat → Prop), zok 5 a = true → (∀ k, eX5_match a h k → M = 1 ∧ Kx k) → ((∀ k, ¬ eX5_match a h k) → tX5_match a h Kn) → bX5_match_0 M Kn Kx h (zE 6 a) [] h) : Sem l z0 b N D cA yX5_match cX5_match 6 (some .int) 7 105 5 eX5_match tX5_match :=
  sem_of hlt (by decide +kernel) (by decide) (fun p e s m args below meth c M a h Kn Kx hok hX hN C hr htab => sX5_match_0 C htab hr HX5_needSets HX5_matching HX5_memberAt _ _ _ (spec M a h Kn Kx hok hX hN))
set_option maxRecDepth 20000 in
theorem sX5_needTag_15 {l : Launch} {z0 b N M : Nat} {D : va_G} {cA : Nat → ClassId} {p : Program} {e : Env} {s : State} {m : MethodId} {args : Array Value} {below : List Frame} {meth : Method} {c : Code} {Kn : Option Value → ZH → Prop} {Kx : Nat → Prop} {h0 : ZH} (C : zCx p l (zRm 6 M 82) s m args meth c cX5_needTag 2 RX5 z0 D cA M) (htab : ∀ x ∈ c.exceptionTable.toList, False) (hr : meth.sig.returnType = none) : Snd p l e (zRm 6 M 82) s m args below meth c 2 z0 b (zI z0 b N D cA s) (fun _ => (0, 0)) (vx_MQ below (zQn z0 b N D cA Kn) (zXn z0 b N D cA Kx h0) args s M (6 * M) (fun q => z0 ≤ q)) 15 (bX5_needTag_15 M Kn Kx h0) := by
  obtain ⟨hx, hb, hml, hown, hts, -⟩ := id C
  unfold bX5_needTag_15
  exact k_throw C htab (k := 2) (ik := 99) (is := 229) (ic := 103) (X := "java/lang/IndexOutOfBoundsException") (text := "no such tag") rfl (by decide +kernel) (by decide +kernel) zfit2 zfitN znX5_99 ziIndexOutOfBoundsException zat1_103 zat2_103 zat3_103 dX5_needTag_15 dX5_needTag_18 dX5_needTag_19 dX5_needTag_21 dX5_needTag_24 ⟨Nat.le_of_ble_eq_true rfl, Nat.le_of_ble_eq_true rfl⟩
set_option maxRecDepth 20000 in
theorem sX5_needTag_0 {l : Launch} {z0 b N M : Nat} {D : va_G} {cA : Nat → ClassId} {p : Program} {e : Env} {s : State} {m : MethodId} {args : Array Value} {below : List Frame} {meth : Method} {c : Code} {Kn : Option Value → ZH → Prop} {Kx : Nat → Prop} {h0 : ZH} (C : zCx p l (zRm 6 M 82) s m args meth c cX5_needTag 2 RX5 z0 D cA M) (htab : ∀ x ∈ c.exceptionTable.toList, False) (hr : meth.sig.returnType = none) : Snd p l e (zRm 6 M 82) s m args below meth c 2 z0 b (zI z0 b N D cA s) (fun _ => (0, 0)) (vx_MQ below (zQn z0 b N D cA Kn) (zXn z0 b N D cA Kx h0) args s M (6 * M) (fun q => z0 ≤ q)) 0 (bX5_needTag_0 M Kn Kx h0) := by
  obtain ⟨hx, hb, hml, hown, hts, -⟩ := id C
  unfold bX5_needTag_0
  refine k_iload_n hx hb dX5_needTag_0 rfl ?_
  refine k_if_lt (tgt := 15) hx hb dX5_needTag_1 (by decide) ?_ ?_
  · exact sX5_needTag_15 C htab hr
  · refine k_iload_n hx hb dX5_needTag_4 rfl ?_
    refine k_aload_n hx hb dX5_needTag_5 rfl ?_
    refine k_getf C (ci := 5) (k := 0) (Tf := TX5) (Nf := 6) (Cn := RX5) rfl zinX5 (by decide) rfl zfX5_10 dX5_needTag_6 ?_
    refine k_getf C (ci := 1) (k := 3) (Tf := TX1) (Nf := 5) (Cn := RX1) rfl zinX1 (by decide) rfl zfX5_77 dX5_needTag_9 ?_
    refine k_icmp_lt (tgt := 25) hx hb dX5_needTag_12 (by decide) ?_ ?_
    · exact k_vret C hr dX5_needTag_25
    · exact sX5_needTag_15 C htab hr
set_option maxRecDepth 20000 in
theorem uX5_needTag {l : Launch} {z0 b N : Nat} {D : va_G} {cA : Nat → ClassId} (hlt : l.stackTraces = false) (spec : ∀ (M : Nat) (a : List Value) (h : ZH) (Kn : Option Value → ZH → Prop) (Kx : Nat → Prop), zok 2 a = true → (∀ k, eX5_needTag a h k → M = 1 ∧ Kx k) → ((∀ k, ¬ eX5_needTag a h k) → tX5_needTag a h Kn) → bX5_needTag_0 M Kn Kx h (zE 2 a) [] h) : Sem l z0 b N D cA yX5_needTag cX5_needTag 2 none 6 82 2 eX5_needTag tX5_needTag :=
  sem_of hlt (by decide +kernel) (by decide) (fun p e s m args below meth c M a h Kn Kx hok hX hN C hr htab => sX5_needTag_0 C htab hr _ _ _ (spec M a h Kn Kx hok hX hN))
set_option maxRecDepth 20000 in
theorem sX5_needThing_15 {l : Launch} {z0 b N M : Nat} {D : va_G} {cA : Nat → ClassId} {p : Program} {e : Env} {s : State} {m : MethodId} {args : Array Value} {below : List Frame} {meth : Method} {c : Code} {Kn : Option Value → ZH → Prop} {Kx : Nat → Prop} {h0 : ZH} (C : zCx p l (zRm 6 M 82) s m args meth c cX5_needThing 2 RX5 z0 D cA M) (htab : ∀ x ∈ c.exceptionTable.toList, False) (hr : meth.sig.returnType = none) : Snd p l e (zRm 6 M 82) s m args below meth c 2 z0 b (zI z0 b N D cA s) (fun _ => (0, 0)) (vx_MQ below (zQn z0 b N D cA Kn) (zXn z0 b N D cA Kx h0) args s M (6 * M) (fun q => z0 ≤ q)) 15 (bX5_needThing_15 M Kn Kx h0) := by
  obtain ⟨hx, hb, hml, hown, hts, -⟩ := id C
  unfold bX5_needThing_15
  exact k_throw C htab (k := 2) (ik := 99) (is := 231) (ic := 103) (X := "java/lang/IndexOutOfBoundsException") (text := "no such thing") rfl (by decide +kernel) (by decide +kernel) zfit2 zfitN znX5_99 ziIndexOutOfBoundsException zat1_103 zat2_103 zat3_103 dX5_needThing_15 dX5_needThing_18 dX5_needThing_19 dX5_needThing_21 dX5_needThing_24 ⟨Nat.le_of_ble_eq_true rfl, Nat.le_of_ble_eq_true rfl⟩
set_option maxRecDepth 20000 in
theorem sX5_needThing_0 {l : Launch} {z0 b N M : Nat} {D : va_G} {cA : Nat → ClassId} {p : Program} {e : Env} {s : State} {m : MethodId} {args : Array Value} {below : List Frame} {meth : Method} {c : Code} {Kn : Option Value → ZH → Prop} {Kx : Nat → Prop} {h0 : ZH} (C : zCx p l (zRm 6 M 82) s m args meth c cX5_needThing 2 RX5 z0 D cA M) (htab : ∀ x ∈ c.exceptionTable.toList, False) (hr : meth.sig.returnType = none) : Snd p l e (zRm 6 M 82) s m args below meth c 2 z0 b (zI z0 b N D cA s) (fun _ => (0, 0)) (vx_MQ below (zQn z0 b N D cA Kn) (zXn z0 b N D cA Kx h0) args s M (6 * M) (fun q => z0 ≤ q)) 0 (bX5_needThing_0 M Kn Kx h0) := by
  obtain ⟨hx, hb, hml, hown, hts, -⟩ := id C
  unfold bX5_needThing_0
  refine k_iload_n hx hb dX5_needThing_0 rfl ?_
  refine k_if_lt (tgt := 15) hx hb dX5_needThing_1 (by decide) ?_ ?_
  · exact sX5_needThing_15 C htab hr
  · refine k_iload_n hx hb dX5_needThing_4 rfl ?_
    refine k_aload_n hx hb dX5_needThing_5 rfl ?_
    refine k_getf C (ci := 5) (k := 4) (Tf := TX5) (Nf := 6) (Cn := RX5) rfl zinX5 (by decide) rfl zfX5_36 dX5_needThing_6 ?_
    refine k_getf C (ci := 0) (k := 4) (Tf := TX0) (Nf := 7) (Cn := RX0) rfl zinX0 (by decide) rfl zfX5_108 dX5_needThing_9 ?_
    refine k_icmp_lt (tgt := 25) hx hb dX5_needThing_12 (by decide) ?_ ?_
    · exact k_vret C hr dX5_needThing_25
    · exact sX5_needThing_15 C htab hr
set_option maxRecDepth 20000 in
theorem uX5_needThing {l : Launch} {z0 b N : Nat} {D : va_G} {cA : Nat → ClassId} (hlt : l.stackTraces = false) (spec : ∀ (M : Nat) (a : List Value) (h : ZH) (Kn : Option Value → ZH → Prop) (Kx : Nat → Prop), zok 2 a = true → (∀ k, eX5_needThing a h k → M = 1 ∧ Kx k) → ((∀ k, ¬ eX5_needThing a h k) → tX5_needThing a h Kn) → bX5_needThing_0 M Kn Kx h (zE 2 a) [] h) : Sem l z0 b N D cA yX5_needThing cX5_needThing 2 none 6 82 2 eX5_needThing tX5_needThing :=
  sem_of hlt (by decide +kernel) (by decide) (fun p e s m args below meth c M a h Kn Kx hok hX hN C hr htab => sX5_needThing_0 C htab hr _ _ _ (spec M a h Kn Kx hok hX hN))
set_option maxRecDepth 20000 in
theorem sX5_needRequest_15 {l : Launch} {z0 b N M : Nat} {D : va_G} {cA : Nat → ClassId} {p : Program} {e : Env} {s : State} {m : MethodId} {args : Array Value} {below : List Frame} {meth : Method} {c : Code} {Kn : Option Value → ZH → Prop} {Kx : Nat → Prop} {h0 : ZH} (C : zCx p l (zRm 6 M 82) s m args meth c cX5_needRequest 2 RX5 z0 D cA M) (htab : ∀ x ∈ c.exceptionTable.toList, False) (hr : meth.sig.returnType = none) : Snd p l e (zRm 6 M 82) s m args below meth c 2 z0 b (zI z0 b N D cA s) (fun _ => (0, 0)) (vx_MQ below (zQn z0 b N D cA Kn) (zXn z0 b N D cA Kx h0) args s M (6 * M) (fun q => z0 ≤ q)) 15 (bX5_needRequest_15 M Kn Kx h0) := by
  obtain ⟨hx, hb, hml, hown, hts, -⟩ := id C
  unfold bX5_needRequest_15
  exact k_throw C htab (k := 2) (ik := 99) (is := 233) (ic := 103) (X := "java/lang/IndexOutOfBoundsException") (text := "no such request") rfl (by decide +kernel) (by decide +kernel) zfit2 zfitN znX5_99 ziIndexOutOfBoundsException zat1_103 zat2_103 zat3_103 dX5_needRequest_15 dX5_needRequest_18 dX5_needRequest_19 dX5_needRequest_21 dX5_needRequest_24 ⟨Nat.le_of_ble_eq_true rfl, Nat.le_of_ble_eq_true rfl⟩
set_option maxRecDepth 20000 in
theorem sX5_needRequest_0 {l : Launch} {z0 b N M : Nat} {D : va_G} {cA : Nat → ClassId} {p : Program} {e : Env} {s : State} {m : MethodId} {args : Array Value} {below : List Frame} {meth : Method} {c : Code} {Kn : Option Value → ZH → Prop} {Kx : Nat → Prop} {h0 : ZH} (C : zCx p l (zRm 6 M 82) s m args meth c cX5_needRequest 2 RX5 z0 D cA M) (htab : ∀ x ∈ c.exceptionTable.toList, False) (hr : meth.sig.returnType = none) : Snd p l e (zRm 6 M 82) s m args below meth c 2 z0 b (zI z0 b N D cA s) (fun _ => (0, 0)) (vx_MQ below (zQn z0 b N D cA Kn) (zXn z0 b N D cA Kx h0) args s M (6 * M) (fun q => z0 ≤ q)) 0 (bX5_needRequest_0 M Kn Kx h0) := by
  obtain ⟨hx, hb, hml, hown, hts, -⟩ := id C
  unfold bX5_needRequest_0
  refine k_iload_n hx hb dX5_needRequest_0 rfl ?_
  refine k_if_lt (tgt := 15) hx hb dX5_needRequest_1 (by decide) ?_ ?_
  · exact sX5_needRequest_15 C htab hr
  · refine k_iload_n hx hb dX5_needRequest_4 rfl ?_
    refine k_aload_n hx hb dX5_needRequest_5 rfl ?_
    refine k_getf C (ci := 5) (k := 3) (Tf := TX5) (Nf := 6) (Cn := RX5) rfl zinX5 (by decide) rfl zfX5_29 dX5_needRequest_6 ?_
    refine k_getf C (ci := 2) (k := 6) (Tf := TX2) (Nf := 7) (Cn := RX2) rfl zinX2 (by decide) rfl zfX5_159 dX5_needRequest_9 ?_
    refine k_icmp_lt (tgt := 25) hx hb dX5_needRequest_12 (by decide) ?_ ?_
    · exact k_vret C hr dX5_needRequest_25
    · exact sX5_needRequest_15 C htab hr
set_option maxRecDepth 20000 in
theorem uX5_needRequest {l : Launch} {z0 b N : Nat} {D : va_G} {cA : Nat → ClassId} (hlt : l.stackTraces = false) (spec : ∀ (M : Nat) (a : List Value) (h : ZH) (Kn : Option Value → ZH → Prop) (Kx : Nat → Prop), zok 2 a = true → (∀ k, eX5_needRequest a h k → M = 1 ∧ Kx k) → ((∀ k, ¬ eX5_needRequest a h k) → tX5_needRequest a h Kn) → bX5_needRequest_0 M Kn Kx h (zE 2 a) [] h) : Sem l z0 b N D cA yX5_needRequest cX5_needRequest 2 none 6 82 2 eX5_needRequest tX5_needRequest :=
  sem_of hlt (by decide +kernel) (by decide) (fun p e s m args below meth c M a h Kn Kx hok hX hN C hr htab => sX5_needRequest_0 C htab hr _ _ _ (spec M a h Kn Kx hok hX hN))
set_option maxRecDepth 20000 in
theorem sX5_needSets_24 {l : Launch} {z0 b N M : Nat} {D : va_G} {cA : Nat → ClassId} {p : Program} {e : Env} {s : State} {m : MethodId} {args : Array Value} {below : List Frame} {meth : Method} {c : Code} {Kn : Option Value → ZH → Prop} {Kx : Nat → Prop} {h0 : ZH} (C : zCx p l (zRm 6 M 82) s m args meth c cX5_needSets 4 RX5 z0 D cA M) (htab : ∀ x ∈ c.exceptionTable.toList, False) (hr : meth.sig.returnType = none) (HX5_isTagSet : Sem l z0 b N D cA yX5_isTagSet cX5_isTagSet 2 (some .boolean) 0 0 2 zno tX5_isTagSet) : Snd p l e (zRm 6 M 82) s m args below meth c 4 z0 b (zI z0 b N D cA s) (fun _ => (0, 0)) (vx_MQ below (zQn z0 b N D cA Kn) (zXn z0 b N D cA Kx h0) args s M (6 * M) (fun q => z0 ≤ q)) 24 (bX5_needSets_24 M Kn Kx h0) := by
  obtain ⟨hx, hb, hml, hown, hts, -⟩ := id C
  unfold bX5_needSets_24
  exact k_throw C htab (k := 0) (ik := 51) (is := 238) (ic := 55) (X := "java/lang/IllegalArgumentException") (text := "no set of tags") rfl (by decide +kernel) (by decide +kernel) zfit0 zfitN znX5_51 ziIllegalArgumentException zat1_55 zat2_55 zat3_55 dX5_needSets_24 dX5_needSets_27 dX5_needSets_28 dX5_needSets_30 dX5_needSets_33 ⟨Nat.le_of_ble_eq_true rfl, Nat.le_of_ble_eq_true rfl⟩
set_option maxRecDepth 20000 in
theorem sX5_needSets_0 {l : Launch} {z0 b N M : Nat} {D : va_G} {cA : Nat → ClassId} {p : Program} {e : Env} {s : State} {m : MethodId} {args : Array Value} {below : List Frame} {meth : Method} {c : Code} {Kn : Option Value → ZH → Prop} {Kx : Nat → Prop} {h0 : ZH} (C : zCx p l (zRm 6 M 82) s m args meth c cX5_needSets 4 RX5 z0 D cA M) (htab : ∀ x ∈ c.exceptionTable.toList, False) (hr : meth.sig.returnType = none) (HX5_isTagSet : Sem l z0 b N D cA yX5_isTagSet cX5_isTagSet 2 (some .boolean) 0 0 2 zno tX5_isTagSet) : Snd p l e (zRm 6 M 82) s m args below meth c 4 z0 b (zI z0 b N D cA s) (fun _ => (0, 0)) (vx_MQ below (zQn z0 b N D cA Kn) (zXn z0 b N D cA Kx h0) args s M (6 * M) (fun q => z0 ≤ q)) 0 (bX5_needSets_0 M Kn Kx h0) := by
  obtain ⟨hx, hb, hml, hown, hts, -⟩ := id C
  unfold bX5_needSets_0
  refine k_aload_n hx hb dX5_needSets_0 rfl ?_
  refine k_iload_n hx hb dX5_needSets_1 rfl ?_
  refine k_callV1 C htab (ci := 5) (Tf := TX5) (Nf := 6) (Cn := RX5) rfl HX5_isTagSet rfl zlX5_235 zmX5_isTagSet zvX5_isTagSet ziX5 zcX5_isTagSet (by decide +kernel) ⟨Nat.le_of_ble_eq_true rfl, Nat.le_of_ble_eq_true rfl⟩ dX5_needSets_2 ?_
  refine k_if_eq (tgt := 24) hx hb dX5_needSets_5 (by decide) ?_ ?_
  · exact sX5_needSets_24 C htab hr HX5_isTagSet
  · refine k_aload_n hx hb dX5_needSets_8 rfl ?_
    refine k_iload_n hx hb dX5_needSets_9 rfl ?_
    refine k_callV1 C htab (ci := 5) (Tf := TX5) (Nf := 6) (Cn := RX5) rfl HX5_isTagSet rfl zlX5_235 zmX5_isTagSet zvX5_isTagSet ziX5 zcX5_isTagSet (by decide +kernel) ⟨Nat.le_of_ble_eq_true rfl, Nat.le_of_ble_eq_true rfl⟩ dX5_needSets_10 ?_
    refine k_if_eq (tgt := 24) hx hb dX5_needSets_13 (by decide) ?_ ?_
    · exact sX5_needSets_24 C htab hr HX5_isTagSet
    · refine k_aload_n hx hb dX5_needSets_16 rfl ?_
      refine k_iload_n hx hb dX5_needSets_17 rfl ?_
      refine k_callV1 C htab (ci := 5) (Tf := TX5) (Nf := 6) (Cn := RX5) rfl HX5_isTagSet rfl zlX5_235 zmX5_isTagSet zvX5_isTagSet ziX5 zcX5_isTagSet (by decide +kernel) ⟨Nat.le_of_ble_eq_true rfl, Nat.le_of_ble_eq_true rfl⟩ dX5_needSets_18 ?_
      refine k_if_ne (tgt := 34) hx hb dX5_needSets_21 (by decide) ?_ ?_
      · exact k_vret C hr dX5_needSets_34
      · exact sX5_needSets_24 C htab hr HX5_isTagSet
set_option maxRecDepth 20000 in
theorem uX5_needSets {l : Launch} {z0 b N : Nat} {D : va_G} {cA : Nat → ClassId} (hlt : l.stackTraces = false) (HX5_isTagSet : Sem l z0 b N D cA yX5_isTagSet cX5_isTagSet 2 (some .boolean) 0 0 2 zno tX5_isTagSet) (spec : ∀ (M : Nat) (a : List Value) (h : ZH) (Kn : Option Value → ZH → Prop) (Kx : Nat → Prop), zok 4 a = true → (∀ k, eX5_needSets a h k → M = 1 ∧ Kx k) → ((∀ k, ¬ eX5_needSets a h k) → tX5_needSets a h Kn) → bX5_needSets_0 M Kn Kx h (zE 4 a) [] h) : Sem l z0 b N D cA yX5_needSets cX5_needSets 4 none 6 82 4 eX5_needSets tX5_needSets :=
  sem_of hlt (by decide +kernel) (by decide) (fun p e s m args below meth c M a h Kn Kx hok hX hN C hr htab => sX5_needSets_0 C htab hr HX5_isTagSet _ _ _ (spec M a h Kn Kx hok hX hN))
set_option maxRecDepth 20000 in
theorem sX5_isTagSet_22 {l : Launch} {z0 b N M : Nat} {D : va_G} {cA : Nat → ClassId} {p : Program} {e : Env} {s : State} {m : MethodId} {args : Array Value} {below : List Frame} {meth : Method} {c : Code} {Kn : Option Value → ZH → Prop} {Kx : Nat → Prop} {h0 : ZH} (C : zCx p l (zRm 0 M 0) s m args meth c cX5_isTagSet 2 RX5 z0 D cA M) (htab : ∀ x ∈ c.exceptionTable.toList, False) (hr : meth.sig.returnType = (some .boolean)) : Snd p l e (zRm 0 M 0) s m args below meth c 2 z0 b (zI z0 b N D cA s) (fun _ => (0, 0)) (vx_MQ below (zQn z0 b N D cA Kn) (zXn z0 b N D cA Kx h0) args s M (6 * M) (fun q => z0 ≤ q)) 22 (bX5_isTagSet_22 M Kn Kx h0) := by
  obtain ⟨hx, hb, hml, hown, hts, -⟩ := id C
  unfold bX5_isTagSet_22
  exact k_ret C hr dX5_isTagSet_22
set_option maxRecDepth 20000 in
theorem sX5_isTagSet_21 {l : Launch} {z0 b N M : Nat} {D : va_G} {cA : Nat → ClassId} {p : Program} {e : Env} {s : State} {m : MethodId} {args : Array Value} {below : List Frame} {meth : Method} {c : Code} {Kn : Option Value → ZH → Prop} {Kx : Nat → Prop} {h0 : ZH} (C : zCx p l (zRm 0 M 0) s m args meth c cX5_isTagSet 2 RX5 z0 D cA M) (htab : ∀ x ∈ c.exceptionTable.toList, False) (hr : meth.sig.returnType = (some .boolean)) : Snd p l e (zRm 0 M 0) s m args below meth c 2 z0 b (zI z0 b N D cA s) (fun _ => (0, 0)) (vx_MQ below (zQn z0 b N D cA Kn) (zXn z0 b N D cA Kx h0) args s M (6 * M) (fun q => z0 ≤ q)) 21 (bX5_isTagSet_21 M Kn Kx h0) := by
  obtain ⟨hx, hb, hml, hown, hts, -⟩ := id C
  unfold bX5_isTagSet_21
  refine k_iconst hx hb dX5_isTagSet_21 (by decide) ?_
  exact sX5_isTagSet_22 C htab hr
set_option maxRecDepth 20000 in
theorem sX5_isTagSet_0 {l : Launch} {z0 b N M : Nat} {D : va_G} {cA : Nat → ClassId} {p : Program} {e : Env} {s : State} {m : MethodId} {args : Array Value} {below : List Frame} {meth : Method} {c : Code} {Kn : Option Value → ZH → Prop} {Kx : Nat → Prop} {h0 : ZH} (C : zCx p l (zRm 0 M 0) s m args meth c cX5_isTagSet 2 RX5 z0 D cA M) (htab : ∀ x ∈ c.exceptionTable.toList, False) (hr : meth.sig.returnType = (some .boolean)) : Snd p l e (zRm 0 M 0) s m args below meth c 2 z0 b (zI z0 b N D cA s) (fun _ => (0, 0)) (vx_MQ below (zQn z0 b N D cA Kn) (zXn z0 b N D cA Kx h0) args s M (6 * M) (fun q => z0 ≤ q)) 0 (bX5_isTagSet_0 M Kn Kx h0) := by
  obtain ⟨hx, hb, hml, hown, hts, -⟩ := id C
  unfold bX5_isTagSet_0
  refine k_iload_n hx hb dX5_isTagSet_0 rfl ?_
  refine k_if_lt (tgt := 21) hx hb dX5_isTagSet_1 (by decide) ?_ ?_
  · exact sX5_isTagSet_21 C htab hr
  · refine k_iload_n hx hb dX5_isTagSet_4 rfl ?_
    refine k_iconst hx hb dX5_isTagSet_5 (by decide) ?_
    refine k_aload_n hx hb dX5_isTagSet_6 rfl ?_
    refine k_getf C (ci := 5) (k := 0) (Tf := TX5) (Nf := 6) (Cn := RX5) rfl zinX5 (by decide) rfl zfX5_10 dX5_isTagSet_7 ?_
    refine k_getf C (ci := 1) (k := 3) (Tf := TX1) (Nf := 5) (Cn := RX1) rfl zinX1 (by decide) rfl zfX5_77 dX5_isTagSet_10 ?_
    refine k_ishl hx hb dX5_isTagSet_13 ?_
    refine k_icmp_ge (tgt := 21) hx hb dX5_isTagSet_14 (by decide) ?_ ?_
    · exact sX5_isTagSet_21 C htab hr
    · refine k_iconst hx hb dX5_isTagSet_17 (by decide) ?_
      refine k_goto (tgt := 22) hx hb dX5_isTagSet_18 (by decide) ?_
      exact sX5_isTagSet_22 C htab hr
set_option maxRecDepth 20000 in
theorem uX5_isTagSet {l : Launch} {z0 b N : Nat} {D : va_G} {cA : Nat → ClassId} (hlt : l.stackTraces = false) (spec : ∀ (M : Nat) (a : List Value) (h : ZH) (Kn : Option Value → ZH → Prop) (Kx : Nat → Prop), zok 2 a = true → tX5_isTagSet a h Kn → bX5_isTagSet_0 M Kn Kx h (zE 2 a) [] h) : Sem l z0 b N D cA yX5_isTagSet cX5_isTagSet 2 (some .boolean) 0 0 2 zno tX5_isTagSet :=
  sem_of hlt (by decide +kernel) (by decide) (fun p e s m args below meth c M a h Kn Kx hok hX hN C hr htab => sX5_isTagSet_0 C htab hr _ _ _ (spec M a h Kn Kx hok (hN (fun _ h9 => h9))))
set_option maxRecDepth 20000 in
theorem sX5_finishEdit_27 {l : Launch} {z0 b N M : Nat} {D : va_G} {cA : Nat → ClassId} {p : Program} {e : Env} {s : State} {m : MethodId} {args : Array Value} {below : List Frame} {meth : Method} {c : Code} {Kn : Option Value → ZH → Prop} {Kx : Nat → Prop} {h0 : ZH} (C : zCx p l (zRm 3 M 72) s m args meth c cX5_finishEdit 2 RX5 z0 D cA M) (htab : ∀ x ∈ c.exceptionTable.toList, False) (hr : meth.sig.returnType = (some .int)) (HX0_finishEdit : Sem l z0 b N D cA yX0_finishEdit cX0_finishEdit 3 (some .int) 2 41 1 zno tX0_finishEdit) (HX3_refresh : Sem l z0 b N D cA yX3_refresh cX3_refresh 6 none 2 47 3 zno tX3_refresh) : Snd p l e (zRm 3 M 72) s m args below meth c 2 z0 b (zI z0 b N D cA s) (fun _ => (0, 0)) (vx_MQ below (zQn z0 b N D cA Kn) (zXn z0 b N D cA Kx h0) args s M (6 * M) (fun q => z0 ≤ q)) 27 (bX5_finishEdit_27 M Kn Kx h0) := by
  obtain ⟨hx, hb, hml, hown, hts, -⟩ := id C
  unfold bX5_finishEdit_27
  refine k_iload_n hx hb dX5_finishEdit_27 rfl ?_
  exact k_ret C hr dX5_finishEdit_28
set_option maxRecDepth 20000 in
theorem sX5_finishEdit_0 {l : Launch} {z0 b N M : Nat} {D : va_G} {cA : Nat → ClassId} {p : Program} {e : Env} {s : State} {m : MethodId} {args : Array Value} {below : List Frame} {meth : Method} {c : Code} {Kn : Option Value → ZH → Prop} {Kx : Nat → Prop} {h0 : ZH} (C : zCx p l (zRm 3 M 72) s m args meth c cX5_finishEdit 2 RX5 z0 D cA M) (htab : ∀ x ∈ c.exceptionTable.toList, False) (hr : meth.sig.returnType = (some .int)) (HX0_finishEdit : Sem l z0 b N D cA yX0_finishEdit cX0_finishEdit 3 (some .int) 2 41 1 zno tX0_finishEdit) (HX3_refresh : Sem l z0 b N D cA yX3_refresh cX3_refresh 6 none 2 47 3 zno tX3_refresh) : Snd p l e (zRm 3 M 72) s m args below meth c 2 z0 b (zI z0 b N D cA s) (fun _ => (0, 0)) (vx_MQ below (zQn z0 b N D cA Kn) (zXn z0 b N D cA Kx h0) args s M (6 * M) (fun q => z0 ≤ q)) 0 (bX5_finishEdit_0 M Kn Kx h0) := by
  obtain ⟨hx, hb, hml, hown, hts, -⟩ := id C
  unfold bX5_finishEdit_0
  refine k_aload_n hx hb dX5_finishEdit_0 rfl ?_
  refine k_getf C (ci := 5) (k := 4) (Tf := TX5) (Nf := 6) (Cn := RX5) rfl zinX5 (by decide) rfl zfX5_36 dX5_finishEdit_1 ?_
  refine k_callV0 C htab (ci := 0) (Tf := TX0) (Nf := 7) (Cn := RX0) rfl HX0_finishEdit rfl zlX5_240 zmX0_finishEdit zvX0_finishEdit ziX0 zcX0_finishEdit (by decide +kernel) ⟨Nat.le_of_ble_eq_true rfl, Nat.le_of_ble_eq_true rfl⟩ dX5_finishEdit_4 ?_
  refine k_istore_n hx hb dX5_finishEdit_7 rfl ?_
  refine k_iload_n hx hb dX5_finishEdit_8 rfl ?_
  refine k_if_le (tgt := 27) hx hb dX5_finishEdit_9 (by decide) ?_ ?_
  · exact sX5_finishEdit_27 C htab hr HX0_finishEdit HX3_refresh
  · refine k_aload_n hx hb dX5_finishEdit_12 rfl ?_
    refine k_getf C (ci := 5) (k := 5) (Tf := TX5) (Nf := 6) (Cn := RX5) rfl zinX5 (by decide) rfl zfX5_43 dX5_finishEdit_13 ?_
    refine k_aload_n hx hb dX5_finishEdit_16 rfl ?_
    refine k_getf C (ci := 5) (k := 1) (Tf := TX5) (Nf := 6) (Cn := RX5) rfl zinX5 (by decide) rfl zfX5_19 dX5_finishEdit_17 ?_
    refine k_aload_n hx hb dX5_finishEdit_20 rfl ?_
    refine k_getf C (ci := 5) (k := 4) (Tf := TX5) (Nf := 6) (Cn := RX5) rfl zinX5 (by decide) rfl zfX5_36 dX5_finishEdit_21 ?_
    refine k_callV2 C htab (ci := 3) (Tf := TX3) (Nf := 1) (Cn := RX3) rfl HX3_refresh rfl zlX5_151 zmX3_refresh zvX3_refresh ziX3 zcX3_refresh (by decide +kernel) ⟨Nat.le_of_ble_eq_true rfl, Nat.le_of_ble_eq_true rfl⟩ dX5_finishEdit_24 ?_
    exact sX5_finishEdit_27 C htab hr HX0_finishEdit HX3_refresh
set_option maxRecDepth 20000 in
theorem uX5_finishEdit {l : Launch} {z0 b N : Nat} {D : va_G} {cA : Nat → ClassId} (hlt : l.stackTraces = false) (HX0_finishEdit : Sem l z0 b N D cA yX0_finishEdit cX0_finishEdit 3 (some .int) 2 41 1 zno tX0_finishEdit) (HX3_refresh : Sem l z0 b N D cA yX3_refresh cX3_refresh 6 none 2 47 3 zno tX3_refresh) (spec : ∀ (M : Nat) (a : List Value) (h : ZH) (Kn : Option Value → ZH → Prop) (Kx : Nat → Prop), zok 1 a = true → tX5_finishEdit a h Kn → bX5_finishEdit_0 M Kn Kx h (zE 2 a) [] h) : Sem l z0 b N D cA yX5_finishEdit cX5_finishEdit 2 (some .int) 3 72 1 zno tX5_finishEdit :=
  sem_of hlt (by decide +kernel) (by decide) (fun p e s m args below meth c M a h Kn Kx hok hX hN C hr htab => sX5_finishEdit_0 C htab hr HX0_finishEdit HX3_refresh _ _ _ (spec M a h Kn Kx hok (hN (fun _ h9 => h9))))
set_option maxRecDepth 20000 in
theorem sX5_decide_78 {l : Launch} {z0 b N M : Nat} {D : va_G} {cA : Nat → ClassId} {p : Program} {e : Env} {s : State} {m : MethodId} {args : Array Value} {below : List Frame} {meth : Method} {c : Code} {Kn : Option Value → ZH → Prop} {Kx : Nat → Prop} {h0 : ZH} (C : zCx p l (zRm 5 M 113) s m args meth c cX5_decide 3 RX5 z0 D cA M) (htab : ∀ x ∈ c.exceptionTable.toList, False) (hr : meth.sig.returnType = none) (HX2_isAllowedBy : Sem l z0 b N D cA yX2_isAllowedBy cX2_isAllowedBy 3 (some .boolean) 3 70 3 zno tX2_isAllowedBy) (HX2_carryOut : Sem l z0 b N D cA yX2_carryOut cX2_carryOut 3 none 4 91 3 zno tX2_carryOut) (HX3_refresh : Sem l z0 b N D cA yX3_refresh cX3_refresh 6 none 2 47 3 zno tX3_refresh) : Snd p l e (zRm 5 M 113) s m args below meth c 3 z0 b (zI z0 b N D cA s) (fun _ => (0, 0)) (vx_MQ below (zQn z0 b N D cA Kn) (zXn z0 b N D cA Kx h0) args s M (6 * M) (fun q => z0 ≤ q)) 78 (bX5_decide_78 M Kn Kx h0) := by
  obtain ⟨hx, hb, hml, hown, hts, -⟩ := id C
  unfold bX5_decide_78
  exact k_vret C hr dX5_decide_78
set_option maxRecDepth 20000 in
theorem sX5_decide_60 {l : Launch} {z0 b N M : Nat} {D : va_G} {cA : Nat → ClassId} {p : Program} {e : Env} {s : State} {m : MethodId} {args : Array Value} {below : List Frame} {meth : Method} {c : Code} {Kn : Option Value → ZH → Prop} {Kx : Nat → Prop} {h0 : ZH} (C : zCx p l (zRm 5 M 113) s m args meth c cX5_decide 3 RX5 z0 D cA M) (htab : ∀ x ∈ c.exceptionTable.toList, False) (hr : meth.sig.returnType = none) (HX2_isAllowedBy : Sem l z0 b N D cA yX2_isAllowedBy cX2_isAllowedBy 3 (some .boolean) 3 70 3 zno tX2_isAllowedBy) (HX2_carryOut : Sem l z0 b N D cA yX2_carryOut cX2_carryOut 3 none 4 91 3 zno tX2_carryOut) (HX3_refresh : Sem l z0 b N D cA yX3_refresh cX3_refresh 6 none 2 47 3 zno tX3_refresh) : Snd p l e (zRm 5 M 113) s m args below meth c 3 z0 b (zI z0 b N D cA s) (fun _ => (0, 0)) (vx_MQ below (zQn z0 b N D cA Kn) (zXn z0 b N D cA Kx h0) args s M (6 * M) (fun q => z0 ≤ q)) 60 (bX5_decide_60 M Kn Kx h0) := by
  obtain ⟨hx, hb, hml, hown, hts, -⟩ := id C
  unfold bX5_decide_60
  refine k_iload_n hx hb dX5_decide_60 rfl ?_
  refine k_mabs C zlX5_249 zsJ9_abs_0f7a4 ziJ9 zcJ9_abs_0f7a4 ⟨Nat.le_of_ble_eq_true rfl, Nat.le_of_ble_eq_true rfl⟩ dX5_decide_61 ?_
  refine k_iconst hx hb dX5_decide_64 (by decide) ?_
  refine k_icmp_lt (tgt := 78) hx hb dX5_decide_65 (by decide) ?_ ?_
  · exact sX5_decide_78 C htab hr HX2_isAllowedBy HX2_carryOut HX3_refresh
  · refine k_aload_n hx hb dX5_decide_68 rfl ?_
    refine k_getf C (ci := 5) (k := 3) (Tf := TX5) (Nf := 6) (Cn := RX5) rfl zinX5 (by decide) rfl zfX5_29 dX5_decide_69 ?_
    refine k_getf C (ci := 2) (k := 3) (Tf := TX2) (Nf := 7) (Cn := RX2) rfl zinX2 (by decide) rfl zfX5_171 dX5_decide_72 ?_
    refine k_iload_n hx hb dX5_decide_75 rfl ?_
    refine k_iconst hx hb dX5_decide_76 (by decide) ?_
    refine k_iast C dX5_decide_77 ?_
    exact sX5_decide_78 C htab hr HX2_isAllowedBy HX2_carryOut HX3_refresh
set_option maxRecDepth 20000 in
theorem sX5_decide_0 {l : Launch} {z0 b N M : Nat} {D : va_G} {cA : Nat → ClassId} {p : Program} {e : Env} {s : State} {m : MethodId} {args : Array Value} {below : List Frame} {meth : Method} {c : Code} {Kn : Option Value → ZH → Prop} {Kx : Nat → Prop} {h0 : ZH} (C : zCx p l (zRm 5 M 113) s m args meth c cX5_decide 3 RX5 z0 D cA M) (htab : ∀ x ∈ c.exceptionTable.toList, False) (hr : meth.sig.returnType = none) (HX2_isAllowedBy : Sem l z0 b N D cA yX2_isAllowedBy cX2_isAllowedBy 3 (some .boolean) 3 70 3 zno tX2_isAllowedBy) (HX2_carryOut : Sem l z0 b N D cA yX2_carryOut cX2_carryOut 3 none 4 91 3 zno tX2_carryOut) (HX3_refresh : Sem l z0 b N D cA yX3_refresh cX3_refresh 6 none 2 47 3 zno tX3_refresh) : Snd p l e (zRm 5 M 113) s m args below meth c 3 z0 b (zI z0 b N D cA s) (fun _ => (0, 0)) (vx_MQ below (zQn z0 b N D cA Kn) (zXn z0 b N D cA Kx h0) args s M (6 * M) (fun q => z0 ≤ q)) 0 (bX5_decide_0 M Kn Kx h0) := by
  obtain ⟨hx, hb, hml, hown, hts, -⟩ := id C
  unfold bX5_decide_0
  refine k_iload_n hx hb dX5_decide_0 rfl ?_
  refine k_iconst hx hb dX5_decide_1 (by decide) ?_
  refine k_icmp_lt (tgt := 60) hx hb dX5_decide_2 (by decide) ?_ ?_
  · exact sX5_decide_60 C htab hr HX2_isAllowedBy HX2_carryOut HX3_refresh
  · refine k_aload_n hx hb dX5_decide_5 rfl ?_
    refine k_getf C (ci := 5) (k := 3) (Tf := TX5) (Nf := 6) (Cn := RX5) rfl zinX5 (by decide) rfl zfX5_29 dX5_decide_6 ?_
    refine k_aload_n hx hb dX5_decide_9 rfl ?_
    refine k_getf C (ci := 5) (k := 1) (Tf := TX5) (Nf := 6) (Cn := RX5) rfl zinX5 (by decide) rfl zfX5_19 dX5_decide_10 ?_
    refine k_iload_n hx hb dX5_decide_13 rfl ?_
    refine k_callV2 C htab (ci := 2) (Tf := TX2) (Nf := 7) (Cn := RX2) rfl HX2_isAllowedBy rfl zlX5_241 zmX2_isAllowedBy zvX2_isAllowedBy ziX2 zcX2_isAllowedBy (by decide +kernel) ⟨Nat.le_of_ble_eq_true rfl, Nat.le_of_ble_eq_true rfl⟩ dX5_decide_14 ?_
    refine k_if_eq (tgt := 60) hx hb dX5_decide_17 (by decide) ?_ ?_
    · exact sX5_decide_60 C htab hr HX2_isAllowedBy HX2_carryOut HX3_refresh
    · refine k_aload_n hx hb dX5_decide_20 rfl ?_
      refine k_getf C (ci := 5) (k := 3) (Tf := TX5) (Nf := 6) (Cn := RX5) rfl zinX5 (by decide) rfl zfX5_29 dX5_decide_21 ?_
      refine k_getf C (ci := 2) (k := 3) (Tf := TX2) (Nf := 7) (Cn := RX2) rfl zinX2 (by decide) rfl zfX5_171 dX5_decide_24 ?_
      refine k_iload_n hx hb dX5_decide_27 rfl ?_
      refine k_iconst hx hb dX5_decide_28 (by decide) ?_
      refine k_iast C dX5_decide_29 ?_
      refine k_aload_n hx hb dX5_decide_30 rfl ?_
      refine k_getf C (ci := 5) (k := 3) (Tf := TX5) (Nf := 6) (Cn := RX5) rfl zinX5 (by decide) rfl zfX5_29 dX5_decide_31 ?_
      refine k_aload_n hx hb dX5_decide_34 rfl ?_
      refine k_getf C (ci := 5) (k := 1) (Tf := TX5) (Nf := 6) (Cn := RX5) rfl zinX5 (by decide) rfl zfX5_19 dX5_decide_35 ?_
      refine k_iload_n hx hb dX5_decide_38 rfl ?_
      refine k_callV2 C htab (ci := 2) (Tf := TX2) (Nf := 7) (Cn := RX2) rfl HX2_carryOut rfl zlX5_245 zmX2_carryOut zvX2_carryOut ziX2 zcX2_carryOut (by decide +kernel) ⟨Nat.le_of_ble_eq_true rfl, Nat.le_of_ble_eq_true rfl⟩ dX5_decide_39 ?_
      refine k_aload_n hx hb dX5_decide_42 rfl ?_
      refine k_getf C (ci := 5) (k := 5) (Tf := TX5) (Nf := 6) (Cn := RX5) rfl zinX5 (by decide) rfl zfX5_43 dX5_decide_43 ?_
      refine k_aload_n hx hb dX5_decide_46 rfl ?_
      refine k_getf C (ci := 5) (k := 1) (Tf := TX5) (Nf := 6) (Cn := RX5) rfl zinX5 (by decide) rfl zfX5_19 dX5_decide_47 ?_
      refine k_aload_n hx hb dX5_decide_50 rfl ?_
      refine k_getf C (ci := 5) (k := 4) (Tf := TX5) (Nf := 6) (Cn := RX5) rfl zinX5 (by decide) rfl zfX5_36 dX5_decide_51 ?_
      refine k_callV2 C htab (ci := 3) (Tf := TX3) (Nf := 1) (Cn := RX3) rfl HX3_refresh rfl zlX5_151 zmX3_refresh zvX3_refresh ziX3 zcX3_refresh (by decide +kernel) ⟨Nat.le_of_ble_eq_true rfl, Nat.le_of_ble_eq_true rfl⟩ dX5_decide_54 ?_
      refine k_goto (tgt := 78) hx hb dX5_decide_57 (by decide) ?_
      exact sX5_decide_78 C htab hr HX2_isAllowedBy HX2_carryOut HX3_refresh
set_option maxRecDepth 20000 in
theorem uX5_decide {l : Launch} {z0 b N : Nat} {D : va_G} {cA : Nat → ClassId} (hlt : l.stackTraces = false) (HX2_isAllowedBy : Sem l z0 b N D cA yX2_isAllowedBy cX2_isAllowedBy 3 (some .boolean) 3 70 3 zno tX2_isAllowedBy) (HX2_carryOut : Sem l z0 b N D cA yX2_carryOut cX2_carryOut 3 none 4 91 3 zno tX2_carryOut) (HX3_refresh : Sem l z0 b N D cA yX3_refresh cX3_refresh 6 none 2 47 3 zno tX3_refresh) (spec : ∀ (M : Nat) (a : List Value) (h : ZH) (Kn : Option Value → ZH → Prop) (Kx : Nat → Prop), zok 3 a = true → tX5_decide a h Kn → bX5_decide_0 M Kn Kx h (zE 3 a) [] h) : Sem l z0 b N D cA yX5_decide cX5_decide 3 none 5 113 3 zno tX5_decide :=
  sem_of hlt (by decide +kernel) (by decide) (fun p e s m args below meth c M a h Kn Kx hok hX hN C hr htab => sX5_decide_0 C htab hr HX2_isAllowedBy HX2_carryOut HX3_refresh _ _ _ (spec M a h Kn Kx hok (hN (fun _ h9 => h9))))
set_option maxRecDepth 20000 in
theorem sX5_isOpenAndAllowed_32 {l : Launch} {z0 b N M : Nat} {D : va_G} {cA : Nat → ClassId} {p : Program} {e : Env} {s : State} {m : MethodId} {args : Array Value} {below : List Frame} {meth : Method} {c : Code} {Kn : Option Value → ZH → Prop} {Kx : Nat → Prop} {h0 : ZH} (C : zCx p l (zRm 4 M 92) s m args meth c cX5_isOpenAndAllowed 2 RX5 z0 D cA M) (htab : ∀ x ∈ c.exceptionTable.toList, False) (hr : meth.sig.returnType = (some .boolean)) (HX2_isAllowedBy : Sem l z0 b N D cA yX2_isAllowedBy cX2_isAllowedBy 3 (some .boolean) 3 70 3 zno tX2_isAllowedBy) : Snd p l e (zRm 4 M 92) s m args below meth c 2 z0 b (zI z0 b N D cA s) (fun _ => (0, 0)) (vx_MQ below (zQn z0 b N D cA Kn) (zXn z0 b N D cA Kx h0) args s M (6 * M) (fun q => z0 ≤ q)) 32 (bX5_isOpenAndAllowed_32 M Kn Kx h0) := by
  obtain ⟨hx, hb, hml, hown, hts, -⟩ := id C
  unfold bX5_isOpenAndAllowed_32
  exact k_ret C hr dX5_isOpenAndAllowed_32
set_option maxRecDepth 20000 in
theorem sX5_isOpenAndAllowed_31 {l : Launch} {z0 b N M : Nat} {D : va_G} {cA : Nat → ClassId} {p : Program} {e : Env} {s : State} {m : MethodId} {args : Array Value} {below : List Frame} {meth : Method} {c : Code} {Kn : Option Value → ZH → Prop} {Kx : Nat → Prop} {h0 : ZH} (C : zCx p l (zRm 4 M 92) s m args meth c cX5_isOpenAndAllowed 2 RX5 z0 D cA M) (htab : ∀ x ∈ c.exceptionTable.toList, False) (hr : meth.sig.returnType = (some .boolean)) (HX2_isAllowedBy : Sem l z0 b N D cA yX2_isAllowedBy cX2_isAllowedBy 3 (some .boolean) 3 70 3 zno tX2_isAllowedBy) : Snd p l e (zRm 4 M 92) s m args below meth c 2 z0 b (zI z0 b N D cA s) (fun _ => (0, 0)) (vx_MQ below (zQn z0 b N D cA Kn) (zXn z0 b N D cA Kx h0) args s M (6 * M) (fun q => z0 ≤ q)) 31 (bX5_isOpenAndAllowed_31 M Kn Kx h0) := by
  obtain ⟨hx, hb, hml, hown, hts, -⟩ := id C
  unfold bX5_isOpenAndAllowed_31
  refine k_iconst hx hb dX5_isOpenAndAllowed_31 (by decide) ?_
  exact sX5_isOpenAndAllowed_32 C htab hr HX2_isAllowedBy
set_option maxRecDepth 20000 in
theorem sX5_isOpenAndAllowed_0 {l : Launch} {z0 b N M : Nat} {D : va_G} {cA : Nat → ClassId} {p : Program} {e : Env} {s : State} {m : MethodId} {args : Array Value} {below : List Frame} {meth : Method} {c : Code} {Kn : Option Value → ZH → Prop} {Kx : Nat → Prop} {h0 : ZH} (C : zCx p l (zRm 4 M 92) s m args meth c cX5_isOpenAndAllowed 2 RX5 z0 D cA M) (htab : ∀ x ∈ c.exceptionTable.toList, False) (hr : meth.sig.returnType = (some .boolean)) (HX2_isAllowedBy : Sem l z0 b N D cA yX2_isAllowedBy cX2_isAllowedBy 3 (some .boolean) 3 70 3 zno tX2_isAllowedBy) : Snd p l e (zRm 4 M 92) s m args below meth c 2 z0 b (zI z0 b N D cA s) (fun _ => (0, 0)) (vx_MQ below (zQn z0 b N D cA Kn) (zXn z0 b N D cA Kx h0) args s M (6 * M) (fun q => z0 ≤ q)) 0 (bX5_isOpenAndAllowed_0 M Kn Kx h0) := by
  obtain ⟨hx, hb, hml, hown, hts, -⟩ := id C
  unfold bX5_isOpenAndAllowed_0
  refine k_aload_n hx hb dX5_isOpenAndAllowed_0 rfl ?_
  refine k_getf C (ci := 5) (k := 3) (Tf := TX5) (Nf := 6) (Cn := RX5) rfl zinX5 (by decide) rfl zfX5_29 dX5_isOpenAndAllowed_1 ?_
  refine k_getf C (ci := 2) (k := 3) (Tf := TX2) (Nf := 7) (Cn := RX2) rfl zinX2 (by decide) rfl zfX5_171 dX5_isOpenAndAllowed_4 ?_
  refine k_iload_n hx hb dX5_isOpenAndAllowed_7 rfl ?_
  refine k_iald C dX5_isOpenAndAllowed_8 ?_
  refine k_if_ne (tgt := 31) hx hb dX5_isOpenAndAllowed_9 (by decide) ?_ ?_
  · exact sX5_isOpenAndAllowed_31 C htab hr HX2_isAllowedBy
  · refine k_aload_n hx hb dX5_isOpenAndAllowed_12 rfl ?_
    refine k_getf C (ci := 5) (k := 3) (Tf := TX5) (Nf := 6) (Cn := RX5) rfl zinX5 (by decide) rfl zfX5_29 dX5_isOpenAndAllowed_13 ?_
    refine k_aload_n hx hb dX5_isOpenAndAllowed_16 rfl ?_
    refine k_getf C (ci := 5) (k := 1) (Tf := TX5) (Nf := 6) (Cn := RX5) rfl zinX5 (by decide) rfl zfX5_19 dX5_isOpenAndAllowed_17 ?_
    refine k_iload_n hx hb dX5_isOpenAndAllowed_20 rfl ?_
    refine k_callV2 C htab (ci := 2) (Tf := TX2) (Nf := 7) (Cn := RX2) rfl HX2_isAllowedBy rfl zlX5_241 zmX2_isAllowedBy zvX2_isAllowedBy ziX2 zcX2_isAllowedBy (by decide +kernel) ⟨Nat.le_of_ble_eq_true rfl, Nat.le_of_ble_eq_true rfl⟩ dX5_isOpenAndAllowed_21 ?_
    refine k_if_eq (tgt := 31) hx hb dX5_isOpenAndAllowed_24 (by decide) ?_ ?_
    · exact sX5_isOpenAndAllowed_31 C htab hr HX2_isAllowedBy
    · refine k_iconst hx hb dX5_isOpenAndAllowed_27 (by decide) ?_
      refine k_goto (tgt := 32) hx hb dX5_isOpenAndAllowed_28 (by decide) ?_
      exact sX5_isOpenAndAllowed_32 C htab hr HX2_isAllowedBy
set_option maxRecDepth 20000 in
theorem uX5_isOpenAndAllowed {l : Launch} {z0 b N : Nat} {D : va_G} {cA : Nat → ClassId} (hlt : l.stackTraces = false) (HX2_isAllowedBy : Sem l z0 b N D cA yX2_isAllowedBy cX2_isAllowedBy 3 (some .boolean) 3 70 3 zno tX2_isAllowedBy) (spec : ∀ (M : Nat) (a : List Value) (h : ZH) (Kn : Option Value → ZH → Prop) (Kx : Nat → Prop), zok 2 a = true → tX5_isOpenAndAllowed a h Kn → bX5_isOpenAndAllowed_0 M Kn Kx h (zE 2 a) [] h) : Sem l z0 b N D cA yX5_isOpenAndAllowed cX5_isOpenAndAllowed 2 (some .boolean) 4 92 2 zno tX5_isOpenAndAllowed :=
  sem_of hlt (by decide +kernel) (by decide) (fun p e s m args below meth c M a h Kn Kx hok hX hN C hr htab => sX5_isOpenAndAllowed_0 C htab hr HX2_isAllowedBy _ _ _ (spec M a h Kn Kx hok (hN (fun _ h9 => h9))))
set_option maxRecDepth 20000 in
theorem sX5_isAllowedBehind_0 {l : Launch} {z0 b N M : Nat} {D : va_G} {cA : Nat → ClassId} {p : Program} {e : Env} {s : State} {m : MethodId} {args : Array Value} {below : List Frame} {meth : Method} {c : Code} {Kn : Option Value → ZH → Prop} {Kx : Nat → Prop} {h0 : ZH} (C : zCx p l (zRm 5 M 113) s m args meth c cX5_isAllowedBehind 3 RX5 z0 D cA M) (htab : ∀ x ∈ c.exceptionTable.toList, False) (hr : meth.sig.returnType = (some .boolean)) (HX4_copyFrom : Sem l z0 b N D cA yX4_copyFrom cX4_copyFrom 3 none 0 0 2 zno tX4_copyFrom) (HX2_carryOut : Sem l z0 b N D cA yX2_carryOut cX2_carryOut 3 none 4 91 3 zno tX2_carryOut) (HX2_isAllowedBy : Sem l z0 b N D cA yX2_isAllowedBy cX2_isAllowedBy 3 (some .boolean) 3 70 3 zno tX2_isAllowedBy) : Snd p l e (zRm 5 M 113) s m args below meth c 3 z0 b (zI z0 b N D cA s) (fun _ => (0, 0)) (vx_MQ below (zQn z0 b N D cA Kn) (zXn z0 b N D cA Kx h0) args s M (6 * M) (fun q => z0 ≤ q)) 0 (bX5_isAllowedBehind_0 M Kn Kx h0) := by
  obtain ⟨hx, hb, hml, hown, hts, -⟩ := id C
  unfold bX5_isAllowedBehind_0
  refine k_aload_n hx hb dX5_isAllowedBehind_0 rfl ?_
  refine k_getf C (ci := 5) (k := 2) (Tf := TX5) (Nf := 6) (Cn := RX5) rfl zinX5 (by decide) rfl zfX5_23 dX5_isAllowedBehind_1 ?_
  refine k_aload_n hx hb dX5_isAllowedBehind_4 rfl ?_
  refine k_getf C (ci := 5) (k := 1) (Tf := TX5) (Nf := 6) (Cn := RX5) rfl zinX5 (by decide) rfl zfX5_19 dX5_isAllowedBehind_5 ?_
  refine k_callV1 C htab (ci := 4) (Tf := TX4) (Nf := 5) (Cn := RX4) rfl HX4_copyFrom rfl zlX5_254 zmX4_copyFrom zvX4_copyFrom ziX4 zcX4_copyFrom (by decide +kernel) ⟨Nat.le_of_ble_eq_true rfl, Nat.le_of_ble_eq_true rfl⟩ dX5_isAllowedBehind_8 ?_
  refine k_aload_n hx hb dX5_isAllowedBehind_11 rfl ?_
  refine k_getf C (ci := 5) (k := 3) (Tf := TX5) (Nf := 6) (Cn := RX5) rfl zinX5 (by decide) rfl zfX5_29 dX5_isAllowedBehind_12 ?_
  refine k_aload_n hx hb dX5_isAllowedBehind_15 rfl ?_
  refine k_getf C (ci := 5) (k := 2) (Tf := TX5) (Nf := 6) (Cn := RX5) rfl zinX5 (by decide) rfl zfX5_23 dX5_isAllowedBehind_16 ?_
  refine k_iload_n hx hb dX5_isAllowedBehind_19 rfl ?_
  refine k_callV2 C htab (ci := 2) (Tf := TX2) (Nf := 7) (Cn := RX2) rfl HX2_carryOut rfl zlX5_245 zmX2_carryOut zvX2_carryOut ziX2 zcX2_carryOut (by decide +kernel) ⟨Nat.le_of_ble_eq_true rfl, Nat.le_of_ble_eq_true rfl⟩ dX5_isAllowedBehind_20 ?_
  refine k_aload_n hx hb dX5_isAllowedBehind_23 rfl ?_
  refine k_getf C (ci := 5) (k := 3) (Tf := TX5) (Nf := 6) (Cn := RX5) rfl zinX5 (by decide) rfl zfX5_29 dX5_isAllowedBehind_24 ?_
  refine k_aload_n hx hb dX5_isAllowedBehind_27 rfl ?_
  refine k_getf C (ci := 5) (k := 2) (Tf := TX5) (Nf := 6) (Cn := RX5) rfl zinX5 (by decide) rfl zfX5_23 dX5_isAllowedBehind_28 ?_
  refine k_iload_n hx hb dX5_isAllowedBehind_31 rfl ?_
  refine k_callV2 C htab (ci := 2) (Tf := TX2) (Nf := 7) (Cn := RX2) rfl HX2_isAllowedBy rfl zlX5_241 zmX2_isAllowedBy zvX2_isAllowedBy ziX2 zcX2_isAllowedBy (by decide +kernel) ⟨Nat.le_of_ble_eq_true rfl, Nat.le_of_ble_eq_true rfl⟩ dX5_isAllowedBehind_32 ?_
  exact k_ret C hr dX5_isAllowedBehind_35
set_option maxRecDepth 20000 in
theorem uX5_isAllowedBehind {l : Launch} {z0 b N : Nat} {D : va_G} {cA : Nat → ClassId} (hlt : l.stackTraces = false) (HX4_copyFrom : Sem l z0 b N D cA yX4_copyFrom cX4_copyFrom 3 none 0 0 2 zno tX4_copyFrom) (HX2_carryOut : Sem l z0 b N D cA yX2_carryOut cX2_carryOut 3 none 4 91 3 zno tX2_carryOut) (HX2_isAllowedBy : Sem l z0 b N D cA yX2_isAllowedBy cX2_isAllowedBy 3 (some .boolean) 3 70 3 zno tX2_isAllowedBy) (spec : ∀ (M : Nat) (a : List Value) (h : ZH) (Kn : Option Value → ZH → Prop) (Kx : Nat → Prop), zok 3 a = true → tX5_isAllowedBehind a h Kn → bX5_isAllowedBehind_0 M Kn Kx h (zE 3 a) [] h) : Sem l z0 b N D cA yX5_isAllowedBehind cX5_isAllowedBehind 3 (some .boolean) 5 113 3 zno tX5_isAllowedBehind :=
  sem_of hlt (by decide +kernel) (by decide) (fun p e s m args below meth c M a h Kn Kx hok hX hN C hr htab => sX5_isAllowedBehind_0 C htab hr HX4_copyFrom HX2_carryOut HX2_isAllowedBy _ _ _ (spec M a h Kn Kx hok (hN (fun _ h9 => h9))))
set_option maxRecDepth 20000 in
theorem sX5_matching_109 {l : Launch} {z0 b N M : Nat} {D : va_G} {cA : Nat → ClassId} {p : Program} {e : Env} {s : State} {m : MethodId} {args : Array Value} {below : List Frame} {meth : Method} {c : Code} {Kn : Option Value → ZH → Prop} {Kx : Nat → Prop} {h0 : ZH} {K28 : ZK ZH} (C : zCx p l (zRm 1 M 24) s m args meth c cX5_matching 8 RX5 z0 D cA M) (htab : ∀ x ∈ c.exceptionTable.toList, False) (hr : meth.sig.returnType = (some .int)) (HX4_endOf : Sem l z0 b N D cA yX4_endOf cX4_endOf 5 (some .int) 0 0 2 zno tX4_endOf) (HX5_has : Sem l z0 b N D cA yX5_has cX5_has 2 (some .boolean) 0 0 2 zno tX5_has) (hK28 : Snd p l e (zRm 1 M 24) s m args below meth c 8 z0 b (zI z0 b N D cA s) (fun _ => (0, 0)) (vx_MQ below (zQn z0 b N D cA Kn) (zXn z0 b N D cA Kx h0) args s M (6 * M) (fun q => z0 ≤ q)) 28 K28) : Snd p l e (zRm 1 M 24) s m args below meth c 8 z0 b (zI z0 b N D cA s) (fun _ => (0, 0)) (vx_MQ below (zQn z0 b N D cA Kn) (zXn z0 b N D cA Kx h0) args s M (6 * M) (fun q => z0 ≤ q)) 109 (bX5_matching_109 M Kn Kx h0 K28) := by
  obtain ⟨hx, hb, hml, hown, hts, -⟩ := id C
  unfold bX5_matching_109
  refine k_iinc hx hb dX5_matching_109 (by decide) ?_
  refine k_goto (tgt := 28) hx hb dX5_matching_112 (by decide) ?_
  exact hK28
set_option maxRecDepth 20000 in
theorem sX5_matching_91 {l : Launch} {z0 b N M : Nat} {D : va_G} {cA : Nat → ClassId} {p : Program} {e : Env} {s : State} {m : MethodId} {args : Array Value} {below : List Frame} {meth : Method} {c : Code} {Kn : Option Value → ZH → Prop} {Kx : Nat → Prop} {h0 : ZH} {K28 : ZK ZH} (C : zCx p l (zRm 1 M 24) s m args meth c cX5_matching 8 RX5 z0 D cA M) (htab : ∀ x ∈ c.exceptionTable.toList, False) (hr : meth.sig.returnType = (some .int)) (HX4_endOf : Sem l z0 b N D cA yX4_endOf cX4_endOf 5 (some .int) 0 0 2 zno tX4_endOf) (HX5_has : Sem l z0 b N D cA yX5_has cX5_has 2 (some .boolean) 0 0 2 zno tX5_has) (hK28 : Snd p l e (zRm 1 M 24) s m args below meth c 8 z0 b (zI z0 b N D cA s) (fun _ => (0, 0)) (vx_MQ below (zQn z0 b N D cA Kn) (zXn z0 b N D cA Kx h0) args s M (6 * M) (fun q => z0 ≤ q)) 28 K28) : Snd p l e (zRm 1 M 24) s m args below meth c 8 z0 b (zI z0 b N D cA s) (fun _ => (0, 0)) (vx_MQ below (zQn z0 b N D cA Kn) (zXn z0 b N D cA Kx h0) args s M (6 * M) (fun q => z0 ≤ q)) 91 (bX5_matching_91 M Kn Kx h0 K28) := by
  obtain ⟨hx, hb, hml, hown, hts, -⟩ := id C
  unfold bX5_matching_91
  refine k_iload_n hx hb dX5_matching_91 rfl ?_
  refine k_iload hx hb dX5_matching_92 ?_
  refine k_callS2 C htab HX5_has zlX5_135 zsX5_has ziX5 zcX5_has (by decide +kernel) ⟨Nat.le_of_ble_eq_true rfl, Nat.le_of_ble_eq_true rfl⟩ dX5_matching_94 ?_
  refine k_if_eq (tgt := 109) hx hb dX5_matching_97 (by decide) ?_ ?_
  · exact sX5_matching_109 C htab hr HX4_endOf HX5_has hK28
  · refine k_iload hx hb dX5_matching_100 ?_
    refine k_iload hx hb dX5_matching_102 ?_
    refine k_iconst hx hb dX5_matching_104 (by decide) ?_
    refine k_ixor hx hb dX5_matching_105 ?_
    refine k_iand hx hb dX5_matching_106 ?_
    refine k_istore hx hb dX5_matching_107 ?_
    exact sX5_matching_109 C htab hr HX4_endOf HX5_has hK28
set_option maxRecDepth 20000 in
theorem sX5_matching_75 {l : Launch} {z0 b N M : Nat} {D : va_G} {cA : Nat → ClassId} {p : Program} {e : Env} {s : State} {m : MethodId} {args : Array Value} {below : List Frame} {meth : Method} {c : Code} {Kn : Option Value → ZH → Prop} {Kx : Nat → Prop} {h0 : ZH} {K28 : ZK ZH} (C : zCx p l (zRm 1 M 24) s m args meth c cX5_matching 8 RX5 z0 D cA M) (htab : ∀ x ∈ c.exceptionTable.toList, False) (hr : meth.sig.returnType = (some .int)) (HX4_endOf : Sem l z0 b N D cA yX4_endOf cX4_endOf 5 (some .int) 0 0 2 zno tX4_endOf) (HX5_has : Sem l z0 b N D cA yX5_has cX5_has 2 (some .boolean) 0 0 2 zno tX5_has) (hK28 : Snd p l e (zRm 1 M 24) s m args below meth c 8 z0 b (zI z0 b N D cA s) (fun _ => (0, 0)) (vx_MQ below (zQn z0 b N D cA Kn) (zXn z0 b N D cA Kx h0) args s M (6 * M) (fun q => z0 ≤ q)) 28 K28) : Snd p l e (zRm 1 M 24) s m args below meth c 8 z0 b (zI z0 b N D cA s) (fun _ => (0, 0)) (vx_MQ below (zQn z0 b N D cA Kn) (zXn z0 b N D cA Kx h0) args s M (6 * M) (fun q => z0 ≤ q)) 75 (bX5_matching_75 M Kn Kx h0 K28) := by
  obtain ⟨hx, hb, hml, hown, hts, -⟩ := id C
  unfold bX5_matching_75
  refine k_iload_n hx hb dX5_matching_75 rfl ?_
  refine k_iload hx hb dX5_matching_76 ?_
  refine k_callS2 C htab HX5_has zlX5_135 zsX5_has ziX5 zcX5_has (by decide +kernel) ⟨Nat.le_of_ble_eq_true rfl, Nat.le_of_ble_eq_true rfl⟩ dX5_matching_78 ?_
  refine k_if_eq (tgt := 91) hx hb dX5_matching_81 (by decide) ?_ ?_
  · exact sX5_matching_91 C htab hr HX4_endOf HX5_has hK28
  · refine k_iload hx hb dX5_matching_84 ?_
    refine k_iload hx hb dX5_matching_86 ?_
    refine k_ior hx hb dX5_matching_88 ?_
    refine k_istore hx hb dX5_matching_89 ?_
    exact sX5_matching_91 C htab hr HX4_endOf HX5_has hK28
set_option maxRecDepth 20000 in
theorem sX5_matching_28 {l : Launch} {z0 b N M : Nat} {D : va_G} {cA : Nat → ClassId} {p : Program} {e : Env} {s : State} {m : MethodId} {args : Array Value} {below : List Frame} {meth : Method} {c : Code} {Kn : Option Value → ZH → Prop} {Kx : Nat → Prop} {h0 : ZH} {K28 : ZK ZH} (C : zCx p l (zRm 1 M 24) s m args meth c cX5_matching 8 RX5 z0 D cA M) (htab : ∀ x ∈ c.exceptionTable.toList, False) (hr : meth.sig.returnType = (some .int)) (HX4_endOf : Sem l z0 b N D cA yX4_endOf cX4_endOf 5 (some .int) 0 0 2 zno tX4_endOf) (HX5_has : Sem l z0 b N D cA yX5_has cX5_has 2 (some .boolean) 0 0 2 zno tX5_has) (hK28 : Snd p l e (zRm 1 M 24) s m args below meth c 8 z0 b (zI z0 b N D cA s) (fun _ => (0, 0)) (vx_MQ below (zQn z0 b N D cA Kn) (zXn z0 b N D cA Kx h0) args s M (6 * M) (fun q => z0 ≤ q)) 28 K28) : Snd p l e (zRm 1 M 24) s m args below meth c 8 z0 b (zI z0 b N D cA s) (fun _ => (0, 0)) (vx_MQ below (zQn z0 b N D cA Kn) (zXn z0 b N D cA Kx h0) args s M (6 * M) (fun q => z0 ≤ q)) 28 (bX5_matching_28 M Kn Kx h0 K28) := by
  obtain ⟨hx, hb, hml, hown, hts, -⟩ := id C
  unfold bX5_matching_28
  refine k_iload hx hb dX5_matching_28 ?_
  refine k_aload_n hx hb dX5_matching_30 rfl ?_
  refine k_getf C (ci := 5) (k := 0) (Tf := TX5) (Nf := 6) (Cn := RX5) rfl zinX5 (by decide) rfl zfX5_10 dX5_matching_31 ?_
  refine k_getf C (ci := 1) (k := 3) (Tf := TX1) (Nf := 5) (Cn := RX1) rfl zinX1 (by decide) rfl zfX5_77 dX5_matching_34 ?_
  refine k_icmp_ge (tgt := 115) hx hb dX5_matching_37 (by decide) ?_ ?_
  · refine k_iload hx hb dX5_matching_115 ?_
    refine k_iload hx hb dX5_matching_117 ?_
    refine k_iand hx hb dX5_matching_119 ?_
    exact k_ret C hr dX5_matching_120
  · refine k_aload_n hx hb dX5_matching_40 rfl ?_
    refine k_getf C (ci := 5) (k := 5) (Tf := TX5) (Nf := 6) (Cn := RX5) rfl zinX5 (by decide) rfl zfX5_43 dX5_matching_41 ?_
    refine k_getf C (ci := 3) (k := 0) (Tf := TX3) (Nf := 1) (Cn := RX3) rfl zinX3 (by decide) rfl zfX5_125 dX5_matching_44 ?_
    refine k_aload_n hx hb dX5_matching_47 rfl ?_
    refine k_getf C (ci := 5) (k := 1) (Tf := TX5) (Nf := 6) (Cn := RX5) rfl zinX5 (by decide) rfl zfX5_19 dX5_matching_48 ?_
    refine k_iload hx hb dX5_matching_51 ?_
    refine k_callV1 C htab (ci := 4) (Tf := TX4) (Nf := 5) (Cn := RX4) rfl HX4_endOf rfl zlX5_128 zmX4_endOf zvX4_endOf ziX4 zcX4_endOf (by decide +kernel) ⟨Nat.le_of_ble_eq_true rfl, Nat.le_of_ble_eq_true rfl⟩ dX5_matching_53 ?_
    refine k_iald C dX5_matching_56 ?_
    refine k_istore hx hb dX5_matching_57 ?_
    refine k_iload_n hx hb dX5_matching_59 rfl ?_
    refine k_iload hx hb dX5_matching_60 ?_
    refine k_callS2 C htab HX5_has zlX5_135 zsX5_has ziX5 zcX5_has (by decide +kernel) ⟨Nat.le_of_ble_eq_true rfl, Nat.le_of_ble_eq_true rfl⟩ dX5_matching_62 ?_
    refine k_if_eq (tgt := 75) hx hb dX5_matching_65 (by decide) ?_ ?_
    · exact sX5_matching_75 C htab hr HX4_endOf HX5_has hK28
    · refine k_iload hx hb dX5_matching_68 ?_
      refine k_iload hx hb dX5_matching_70 ?_
      refine k_iand hx hb dX5_matching_72 ?_
      refine k_istore hx hb dX5_matching_73 ?_
      exact sX5_matching_75 C htab hr HX4_endOf HX5_has hK28
set_option maxRecDepth 20000 in
theorem sX5_matching_23 {l : Launch} {z0 b N M : Nat} {D : va_G} {cA : Nat → ClassId} {p : Program} {e : Env} {s : State} {m : MethodId} {args : Array Value} {below : List Frame} {meth : Method} {c : Code} {Kn : Option Value → ZH → Prop} {Kx : Nat → Prop} {h0 : ZH} {K28 : ZK ZH} (C : zCx p l (zRm 1 M 24) s m args meth c cX5_matching 8 RX5 z0 D cA M) (htab : ∀ x ∈ c.exceptionTable.toList, False) (hr : meth.sig.returnType = (some .int)) (HX4_endOf : Sem l z0 b N D cA yX4_endOf cX4_endOf 5 (some .int) 0 0 2 zno tX4_endOf) (HX5_has : Sem l z0 b N D cA yX5_has cX5_has 2 (some .boolean) 0 0 2 zno tX5_has) (hK28 : Snd p l e (zRm 1 M 24) s m args below meth c 8 z0 b (zI z0 b N D cA s) (fun _ => (0, 0)) (vx_MQ below (zQn z0 b N D cA Kn) (zXn z0 b N D cA Kx h0) args s M (6 * M) (fun q => z0 ≤ q)) 28 K28) : Snd p l e (zRm 1 M 24) s m args below meth c 8 z0 b (zI z0 b N D cA s) (fun _ => (0, 0)) (vx_MQ below (zQn z0 b N D cA Kn) (zXn z0 b N D cA Kx h0) args s M (6 * M) (fun q => z0 ≤ q)) 23 (bX5_matching_23 M Kn Kx h0 K28) := by
  obtain ⟨hx, hb, hml, hown, hts, -⟩ := id C
  unfold bX5_matching_23
  refine k_istore hx hb dX5_matching_23 ?_
  refine k_iconst hx hb dX5_matching_25 (by decide) ?_
  refine k_istore hx hb dX5_matching_26 ?_
  exact hK28
set_option maxRecDepth 20000 in
theorem sX5_matching_0 {l : Launch} {z0 b N M : Nat} {D : va_G} {cA : Nat → ClassId} {p : Program} {e : Env} {s : State} {m : MethodId} {args : Array Value} {below : List Frame} {meth : Method} {c : Code} {Kn : Option Value → ZH → Prop} {Kx : Nat → Prop} {h0 : ZH} {K28 : ZK ZH} (C : zCx p l (zRm 1 M 24) s m args meth c cX5_matching 8 RX5 z0 D cA M) (htab : ∀ x ∈ c.exceptionTable.toList, False) (hr : meth.sig.returnType = (some .int)) (HX4_endOf : Sem l z0 b N D cA yX4_endOf cX4_endOf 5 (some .int) 0 0 2 zno tX4_endOf) (HX5_has : Sem l z0 b N D cA yX5_has cX5_has 2 (some .boolean) 0 0 2 zno tX5_has) (hK28 : Snd p l e (zRm 1 M 24) s m args below meth c 8 z0 b (zI z0 b N D cA s) (fun _ => (0, 0)) (vx_MQ below (zQn z0 b N D cA Kn) (zXn z0 b N D cA Kx h0) args s M (6 * M) (fun q => z0 ≤ q)) 28 K28) : Snd p l e (zRm 1 M 24) s m args below meth c 8 z0 b (zI z0 b N D cA s) (fun _ => (0, 0)) (vx_MQ below (zQn z0 b N D cA Kn) (zXn z0 b N D cA Kx h0) args s M (6 * M) (fun q => z0 ≤ q)) 0 (bX5_matching_0 M Kn Kx h0 K28) := by
  obtain ⟨hx, hb, hml, hown, hts, -⟩ := id C
  unfold bX5_matching_0
  refine k_iconst hx hb dX5_matching_0 (by decide) ?_
  refine k_aload_n hx hb dX5_matching_1 rfl ?_
  refine k_getf C (ci := 5) (k := 4) (Tf := TX5) (Nf := 6) (Cn := RX5) rfl zinX5 (by decide) rfl zfX5_36 dX5_matching_2 ?_
  refine k_getf C (ci := 0) (k := 4) (Tf := TX0) (Nf := 7) (Cn := RX0) rfl zinX0 (by decide) rfl zfX5_108 dX5_matching_5 ?_
  refine k_ishl hx hb dX5_matching_8 ?_
  refine k_iconst hx hb dX5_matching_9 (by decide) ?_
  refine k_isub hx hb dX5_matching_10 ?_
  refine k_istore hx hb dX5_matching_11 ?_
  refine k_iload_n hx hb dX5_matching_13 rfl ?_
  refine k_if_ne (tgt := 22) hx hb dX5_matching_14 (by decide) ?_ ?_
  · refine k_iconst hx hb dX5_matching_22 (by decide) ?_
    exact sX5_matching_23 C htab hr HX4_endOf HX5_has hK28
  · refine k_iload hx hb dX5_matching_17 ?_
    refine k_goto (tgt := 23) hx hb dX5_matching_19 (by decide) ?_
    exact sX5_matching_23 C htab hr HX4_endOf HX5_has hK28
set_option maxRecDepth 20000 in
theorem uX5_matching {l : Launch} {z0 b N : Nat} {D : va_G} {cA : Nat → ClassId} (hlt : l.stackTraces = false) (HX4_endOf : Sem l z0 b N D cA yX4_endOf cX4_endOf 5 (some .int) 0 0 2 zno tX4_endOf) (HX5_has : Sem l z0 b N D cA yX5_has cX5_has 2 (some .boolean) 0 0 2 zno tX5_has) (spec : ∀ (M : Nat) (a : List Value) (h : ZH) (Kn : Option Value → ZH → Prop) (Kx : Nat → Prop), zok 4 a = true → tX5_matching a h Kn → ∀ (A : Nat → ZK ZH), (∀ ls st h', bX5_matching_28 M Kn Kx h (A 28) ls st h' → A 28 ls st h') → bX5_matching_0 M Kn Kx h (A 28) (zE 8 a) [] h) : Sem l z0 b N D cA yX5_matching cX5_matching 8 (some .int) 1 24 4 zno tX5_matching :=
  sem_of hlt (by decide +kernel) (by decide) (fun p e s m args below meth c M a h Kn Kx hok hX hN C hr htab => sX5_matching_0 C htab hr HX4_endOf HX5_has (fun _ _ _ q => q) _ _ _ (spec M a h Kn Kx hok (hN (fun _ h9 => h9)) (fun pc => AW p l e (zRm 1 M 24) s m args below meth c 8 z0 b (zI z0 b N D cA s) (fun _ => (0, 0)) (vx_MQ below (zQn z0 b N D cA Kn) (zXn z0 b N D cA Kx h) args s M (6 * M) (fun q => z0 ≤ q)) pc) (fun ls st h' hq => sX5_matching_28 C htab hr HX4_endOf HX5_has (fun _ _ _ q => q) ls st h' hq)))
set_option maxRecDepth 20000 in
theorem sX5_memberAt_28 {l : Launch} {z0 b N M : Nat} {D : va_G} {cA : Nat → ClassId} {p : Program} {e : Env} {s : State} {m : MethodId} {args : Array Value} {below : List Frame} {meth : Method} {c : Code} {Kn : Option Value → ZH → Prop} {Kx : Nat → Prop} {h0 : ZH} {K4 : ZK ZH} (C : zCx p l (zRm 1 M 21) s m args meth c cX5_memberAt 4 RX5 z0 D cA M) (htab : ∀ x ∈ c.exceptionTable.toList, False) (hr : meth.sig.returnType = (some .int)) (HX5_has : Sem l z0 b N D cA yX5_has cX5_has 2 (some .boolean) 0 0 2 zno tX5_has) (hK4 : Snd p l e (zRm 1 M 21) s m args below meth c 4 z0 b (zI z0 b N D cA s) (fun _ => (0, 0)) (vx_MQ below (zQn z0 b N D cA Kn) (zXn z0 b N D cA Kx h0) args s M (6 * M) (fun q => z0 ≤ q)) 4 K4) : Snd p l e (zRm 1 M 21) s m args below meth c 4 z0 b (zI z0 b N D cA s) (fun _ => (0, 0)) (vx_MQ below (zQn z0 b N D cA Kn) (zXn z0 b N D cA Kx h0) args s M (6 * M) (fun q => z0 ≤ q)) 28 (bX5_memberAt_28 M Kn Kx h0 K4) := by
  obtain ⟨hx, hb, hml, hown, hts, -⟩ := id C
  unfold bX5_memberAt_28
  refine k_iinc hx hb dX5_memberAt_28 (by decide) ?_
  refine k_goto (tgt := 4) hx hb dX5_memberAt_31 (by decide) ?_
  exact hK4
set_option maxRecDepth 20000 in
theorem sX5_memberAt_4 {l : Launch} {z0 b N M : Nat} {D : va_G} {cA : Nat → ClassId} {p : Program} {e : Env} {s : State} {m : MethodId} {args : Array Value} {below : List Frame} {meth : Method} {c : Code} {Kn : Option Value → ZH → Prop} {Kx : Nat → Prop} {h0 : ZH} {K4 : ZK ZH} (C : zCx p l (zRm 1 M 21) s m args meth c cX5_memberAt 4 RX5 z0 D cA M) (htab : ∀ x ∈ c.exceptionTable.toList, False) (hr : meth.sig.returnType = (some .int)) (HX5_has : Sem l z0 b N D cA yX5_has cX5_has 2 (some .boolean) 0 0 2 zno tX5_has) (hK4 : Snd p l e (zRm 1 M 21) s m args below meth c 4 z0 b (zI z0 b N D cA s) (fun _ => (0, 0)) (vx_MQ below (zQn z0 b N D cA Kn) (zXn z0 b N D cA Kx h0) args s M (6 * M) (fun q => z0 ≤ q)) 4 K4) : Snd p l e (zRm 1 M 21) s m args below meth c 4 z0 b (zI z0 b N D cA s) (fun _ => (0, 0)) (vx_MQ below (zQn z0 b N D cA Kn) (zXn z0 b N D cA Kx h0) args s M (6 * M) (fun q => z0 ≤ q)) 4 (bX5_memberAt_4 M Kn Kx h0 K4) := by
  obtain ⟨hx, hb, hml, hown, hts, -⟩ := id C
  unfold bX5_memberAt_4
  refine k_iload_n hx hb dX5_memberAt_4 rfl ?_
  refine k_bipush hx hb dX5_memberAt_5 (by decide) ?_
  refine k_icmp_ge (tgt := 34) hx hb dX5_memberAt_7 (by decide) ?_ ?_
  · refine k_iconst hx hb dX5_memberAt_34 (by decide) ?_
    exact k_ret C hr dX5_memberAt_35
  · refine k_iload_n hx hb dX5_memberAt_10 rfl ?_
    refine k_iload_n hx hb dX5_memberAt_11 rfl ?_
    refine k_callS2 C htab HX5_has zlX5_135 zsX5_has ziX5 zcX5_has (by decide +kernel) ⟨Nat.le_of_ble_eq_true rfl, Nat.le_of_ble_eq_true rfl⟩ dX5_memberAt_12 ?_
    refine k_if_eq (tgt := 28) hx hb dX5_memberAt_15 (by decide) ?_ ?_
    · exact sX5_memberAt_28 C htab hr HX5_has hK4
    · refine k_iload_n hx hb dX5_memberAt_18 rfl ?_
      refine k_iload_n hx hb dX5_memberAt_19 rfl ?_
      refine k_icmp_ne (tgt := 25) hx hb dX5_memberAt_20 (by decide) ?_ ?_
      · refine k_iinc hx hb dX5_memberAt_25 (by decide) ?_
        exact sX5_memberAt_28 C htab hr HX5_has hK4
      · refine k_iload_n hx hb dX5_memberAt_23 rfl ?_
        exact k_ret C hr dX5_memberAt_24
set_option maxRecDepth 20000 in
theorem sX5_memberAt_0 {l : Launch} {z0 b N M : Nat} {D : va_G} {cA : Nat → ClassId} {p : Program} {e : Env} {s : State} {m : MethodId} {args : Array Value} {below : List Frame} {meth : Method} {c : Code} {Kn : Option Value → ZH → Prop} {Kx : Nat → Prop} {h0 : ZH} {K4 : ZK ZH} (C : zCx p l (zRm 1 M 21) s m args meth c cX5_memberAt 4 RX5 z0 D cA M) (htab : ∀ x ∈ c.exceptionTable.toList, False) (hr : meth.sig.returnType = (some .int)) (HX5_has : Sem l z0 b N D cA yX5_has cX5_has 2 (some .boolean) 0 0 2 zno tX5_has) (hK4 : Snd p l e (zRm 1 M 21) s m args below meth c 4 z0 b (zI z0 b N D cA s) (fun _ => (0, 0)) (vx_MQ below (zQn z0 b N D cA Kn) (zXn z0 b N D cA Kx h0) args s M (6 * M) (fun q => z0 ≤ q)) 4 K4) : Snd p l e (zRm 1 M 21) s m args below meth c 4 z0 b (zI z0 b N D cA s) (fun _ => (0, 0)) (vx_MQ below (zQn z0 b N D cA Kn) (zXn z0 b N D cA Kx h0) args s M (6 * M) (fun q => z0 ≤ q)) 0 (bX5_memberAt_0 M Kn Kx h0 K4) := by
  obtain ⟨hx, hb, hml, hown, hts, -⟩ := id C
  unfold bX5_memberAt_0
  refine k_iconst hx hb dX5_memberAt_0 (by decide) ?_
  refine k_istore_n hx hb dX5_memberAt_1 rfl ?_
  refine k_iconst hx hb dX5_memberAt_2 (by decide) ?_
  refine k_istore_n hx hb dX5_memberAt_3 rfl ?_
  exact hK4
set_option maxRecDepth 20000 in
theorem uX5_memberAt {l : Launch} {z0 b N : Nat} {D : va_G} {cA : Nat → ClassId} (hlt : l.stackTraces = false) (HX5_has : Sem l z0 b N D cA yX5_has cX5_has 2 (some .boolean) 0 0 2 zno tX5_has) (spec : ∀ (M : Nat) (a : List Value) (h : ZH) (Kn : Option Value → ZH → Prop) (Kx : Nat → Prop), zok 2 a = true → tX5_memberAt a h Kn → ∀ (A : Nat → ZK ZH), (∀ ls st h', bX5_memberAt_4 M Kn Kx h (A 4) ls st h' → A 4 ls st h') → bX5_memberAt_0 M Kn Kx h (A 4) (zE 4 a) [] h) : Sem l z0 b N D cA yX5_memberAt cX5_memberAt 4 (some .int) 1 21 2 zno tX5_memberAt :=
  sem_of hlt (by decide +kernel) (by decide) (fun p e s m args below meth c M a h Kn Kx hok hX hN C hr htab => sX5_memberAt_0 C htab hr HX5_has (fun _ _ _ q => q) _ _ _ (spec M a h Kn Kx hok (hN (fun _ h9 => h9)) (fun pc => AW p l e (zRm 1 M 21) s m args below meth c 4 z0 b (zI z0 b N D cA s) (fun _ => (0, 0)) (vx_MQ below (zQn z0 b N D cA Kn) (zXn z0 b N D cA Kx h) args s M (6 * M) (fun q => z0 ≤ q)) pc) (fun ls st h' hq => sX5_memberAt_4 C htab hr HX5_has (fun _ _ _ q => q) ls st h' hq)))
set_option maxRecDepth 20000 in
theorem sX5_massEdited_0 {l : Launch} {z0 b N M : Nat} {D : va_G} {cA : Nat → ClassId} {p : Program} {e : Env} {s : State} {m : MethodId} {args : Array Value} {below : List Frame} {meth : Method} {c : Code} {Kn : Option Value → ZH → Prop} {Kx : Nat → Prop} {h0 : ZH} (C : zCx p l (zRm 0 M 0) s m args meth c cX5_massEdited 4 RX5 z0 D cA M) (htab : ∀ x ∈ c.exceptionTable.toList, False) (hr : meth.sig.returnType = (some .int)) : Snd p l e (zRm 0 M 0) s m args below meth c 4 z0 b (zI z0 b N D cA s) (fun _ => (0, 0)) (vx_MQ below (zQn z0 b N D cA Kn) (zXn z0 b N D cA Kx h0) args s M (6 * M) (fun q => z0 ≤ q)) 0 (bX5_massEdited_0 M Kn Kx h0) := by
  obtain ⟨hx, hb, hml, hown, hts, -⟩ := id C
  unfold bX5_massEdited_0
  refine k_iload_n hx hb dX5_massEdited_0 rfl ?_
  refine k_lsw01 hx hb (t0 := 28) (t1 := 34) (td := 42) dX5_massEdited_1 (by decide) (by decide) (by decide) ?_ ?_ ?_
  · refine k_iload_n hx hb dX5_massEdited_28 rfl ?_
    refine k_iconst hx hb dX5_massEdited_29 (by decide) ?_
    refine k_iload_n hx hb dX5_massEdited_30 rfl ?_
    refine k_ishl hx hb dX5_massEdited_31 ?_
    refine k_ior hx hb dX5_massEdited_32 ?_
    exact k_ret C hr dX5_massEdited_33
  · refine k_iload_n hx hb dX5_massEdited_34 rfl ?_
    refine k_iconst hx hb dX5_massEdited_35 (by decide) ?_
    refine k_iload_n hx hb dX5_massEdited_36 rfl ?_
    refine k_ishl hx hb dX5_massEdited_37 ?_
    refine k_iconst hx hb dX5_massEdited_38 (by decide) ?_
    refine k_ixor hx hb dX5_massEdited_39 ?_
    refine k_iand hx hb dX5_massEdited_40 ?_
    exact k_ret C hr dX5_massEdited_41
  · refine k_iload_n hx hb dX5_massEdited_42 rfl ?_
    refine k_iconst hx hb dX5_massEdited_43 (by decide) ?_
    refine k_iload_n hx hb dX5_massEdited_44 rfl ?_
    refine k_ishl hx hb dX5_massEdited_45 ?_
    refine k_iconst hx hb dX5_massEdited_46 (by decide) ?_
    refine k_ixor hx hb dX5_massEdited_47 ?_
    refine k_iand hx hb dX5_massEdited_48 ?_
    refine k_iconst hx hb dX5_massEdited_49 (by decide) ?_
    refine k_iload_n hx hb dX5_massEdited_50 rfl ?_
    refine k_ishl hx hb dX5_massEdited_51 ?_
    refine k_ior hx hb dX5_massEdited_52 ?_
    exact k_ret C hr dX5_massEdited_53
set_option maxRecDepth 20000 in
theorem uX5_massEdited {l : Launch} {z0 b N : Nat} {D : va_G} {cA : Nat → ClassId} (hlt : l.stackTraces = false) (spec : ∀ (M : Nat) (a : List Value) (h : ZH) (Kn : Option Value → ZH → Prop) (Kx : Nat → Prop), zok 4 a = true → tX5_massEdited a h Kn → bX5_massEdited_0 M Kn Kx h (zE 4 a) [] h) : Sem l z0 b N D cA yX5_massEdited cX5_massEdited 4 (some .int) 0 0 4 zno tX5_massEdited :=
  sem_of hlt (by decide +kernel) (by decide) (fun p e s m args below meth c M a h Kn Kx hok hX hN C hr htab => sX5_massEdited_0 C htab hr _ _ _ (spec M a h Kn Kx hok (hN (fun _ h9 => h9))))
set_option maxRecDepth 20000 in
theorem sX5_isNameCharacter_41 {l : Launch} {z0 b N M : Nat} {D : va_G} {cA : Nat → ClassId} {p : Program} {e : Env} {s : State} {m : MethodId} {args : Array Value} {below : List Frame} {meth : Method} {c : Code} {Kn : Option Value → ZH → Prop} {Kx : Nat → Prop} {h0 : ZH} (C : zCx p l (zRm 0 M 0) s m args meth c cX5_isNameCharacter 1 RX5 z0 D cA M) (htab : ∀ x ∈ c.exceptionTable.toList, False) (hr : meth.sig.returnType = (some .boolean)) : Snd p l e (zRm 0 M 0) s m args below meth c 1 z0 b (zI z0 b N D cA s) (fun _ => (0, 0)) (vx_MQ below (zQn z0 b N D cA Kn) (zXn z0 b N D cA Kx h0) args s M (6 * M) (fun q => z0 ≤ q)) 41 (bX5_isNameCharacter_41 M Kn Kx h0) := by
  obtain ⟨hx, hb, hml, hown, hts, -⟩ := id C
  unfold bX5_isNameCharacter_41
  exact k_ret C hr dX5_isNameCharacter_41
set_option maxRecDepth 20000 in
theorem sX5_isNameCharacter_36 {l : Launch} {z0 b N M : Nat} {D : va_G} {cA : Nat → ClassId} {p : Program} {e : Env} {s : State} {m : MethodId} {args : Array Value} {below : List Frame} {meth : Method} {c : Code} {Kn : Option Value → ZH → Prop} {Kx : Nat → Prop} {h0 : ZH} (C : zCx p l (zRm 0 M 0) s m args meth c cX5_isNameCharacter 1 RX5 z0 D cA M) (htab : ∀ x ∈ c.exceptionTable.toList, False) (hr : meth.sig.returnType = (some .boolean)) : Snd p l e (zRm 0 M 0) s m args below meth c 1 z0 b (zI z0 b N D cA s) (fun _ => (0, 0)) (vx_MQ below (zQn z0 b N D cA Kn) (zXn z0 b N D cA Kx h0) args s M (6 * M) (fun q => z0 ≤ q)) 36 (bX5_isNameCharacter_36 M Kn Kx h0) := by
  obtain ⟨hx, hb, hml, hown, hts, -⟩ := id C
  unfold bX5_isNameCharacter_36
  refine k_iconst hx hb dX5_isNameCharacter_36 (by decide) ?_
  refine k_goto (tgt := 41) hx hb dX5_isNameCharacter_37 (by decide) ?_
  exact sX5_isNameCharacter_41 C htab hr
set_option maxRecDepth 20000 in
theorem sX5_isNameCharacter_24 {l : Launch} {z0 b N M : Nat} {D : va_G} {cA : Nat → ClassId} {p : Program} {e : Env} {s : State} {m : MethodId} {args : Array Value} {below : List Frame} {meth : Method} {c : Code} {Kn : Option Value → ZH → Prop} {Kx : Nat → Prop} {h0 : ZH} (C : zCx p l (zRm 0 M 0) s m args meth c cX5_isNameCharacter 1 RX5 z0 D cA M) (htab : ∀ x ∈ c.exceptionTable.toList, False) (hr : meth.sig.returnType = (some .boolean)) : Snd p l e (zRm 0 M 0) s m args below meth c 1 z0 b (zI z0 b N D cA s) (fun _ => (0, 0)) (vx_MQ below (zQn z0 b N D cA Kn) (zXn z0 b N D cA Kx h0) args s M (6 * M) (fun q => z0 ≤ q)) 24 (bX5_isNameCharacter_24 M Kn Kx h0) := by
  obtain ⟨hx, hb, hml, hown, hts, -⟩ := id C
  unfold bX5_isNameCharacter_24
  refine k_iload_n hx hb dX5_isNameCharacter_24 rfl ?_
  refine k_bipush hx hb dX5_isNameCharacter_25 (by decide) ?_
  refine k_icmp_eq (tgt := 36) hx hb dX5_isNameCharacter_27 (by decide) ?_ ?_
  · exact sX5_isNameCharacter_36 C htab hr
  · refine k_iload_n hx hb dX5_isNameCharacter_30 rfl ?_
    refine k_bipush hx hb dX5_isNameCharacter_31 (by decide) ?_
    refine k_icmp_ne (tgt := 40) hx hb dX5_isNameCharacter_33 (by decide) ?_ ?_
    · refine k_iconst hx hb dX5_isNameCharacter_40 (by decide) ?_
      exact sX5_isNameCharacter_41 C htab hr
    · exact sX5_isNameCharacter_36 C htab hr
set_option maxRecDepth 20000 in
theorem sX5_isNameCharacter_12 {l : Launch} {z0 b N M : Nat} {D : va_G} {cA : Nat → ClassId} {p : Program} {e : Env} {s : State} {m : MethodId} {args : Array Value} {below : List Frame} {meth : Method} {c : Code} {Kn : Option Value → ZH → Prop} {Kx : Nat → Prop} {h0 : ZH} (C : zCx p l (zRm 0 M 0) s m args meth c cX5_isNameCharacter 1 RX5 z0 D cA M) (htab : ∀ x ∈ c.exceptionTable.toList, False) (hr : meth.sig.returnType = (some .boolean)) : Snd p l e (zRm 0 M 0) s m args below meth c 1 z0 b (zI z0 b N D cA s) (fun _ => (0, 0)) (vx_MQ below (zQn z0 b N D cA Kn) (zXn z0 b N D cA Kx h0) args s M (6 * M) (fun q => z0 ≤ q)) 12 (bX5_isNameCharacter_12 M Kn Kx h0) := by
  obtain ⟨hx, hb, hml, hown, hts, -⟩ := id C
  unfold bX5_isNameCharacter_12
  refine k_iload_n hx hb dX5_isNameCharacter_12 rfl ?_
  refine k_bipush hx hb dX5_isNameCharacter_13 (by decide) ?_
  refine k_icmp_lt (tgt := 24) hx hb dX5_isNameCharacter_15 (by decide) ?_ ?_
  · exact sX5_isNameCharacter_24 C htab hr
  · refine k_iload_n hx hb dX5_isNameCharacter_18 rfl ?_
    refine k_bipush hx hb dX5_isNameCharacter_19 (by decide) ?_
    refine k_icmp_le (tgt := 36) hx hb dX5_isNameCharacter_21 (by decide) ?_ ?_
    · exact sX5_isNameCharacter_36 C htab hr
    · exact sX5_isNameCharacter_24 C htab hr
set_option maxRecDepth 20000 in
theorem sX5_isNameCharacter_0 {l : Launch} {z0 b N M : Nat} {D : va_G} {cA : Nat → ClassId} {p : Program} {e : Env} {s : State} {m : MethodId} {args : Array Value} {below : List Frame} {meth : Method} {c : Code} {Kn : Option Value → ZH → Prop} {Kx : Nat → Prop} {h0 : ZH} (C : zCx p l (zRm 0 M 0) s m args meth c cX5_isNameCharacter 1 RX5 z0 D cA M) (htab : ∀ x ∈ c.exceptionTable.toList, False) (hr : meth.sig.returnType = (some .boolean)) : Snd p l e (zRm 0 M 0) s m args below meth c 1 z0 b (zI z0 b N D cA s) (fun _ => (0, 0)) (vx_MQ below (zQn z0 b N D cA Kn) (zXn z0 b N D cA Kx h0) args s M (6 * M) (fun q => z0 ≤ q)) 0 (bX5_isNameCharacter_0 M Kn Kx h0) := by
  obtain ⟨hx, hb, hml, hown, hts, -⟩ := id C
  unfold bX5_isNameCharacter_0
  refine k_iload_n hx hb dX5_isNameCharacter_0 rfl ?_
  refine k_bipush hx hb dX5_isNameCharacter_1 (by decide) ?_
  refine k_icmp_lt (tgt := 12) hx hb dX5_isNameCharacter_3 (by decide) ?_ ?_
  · exact sX5_isNameCharacter_12 C htab hr
  · refine k_iload_n hx hb dX5_isNameCharacter_6 rfl ?_
    refine k_bipush hx hb dX5_isNameCharacter_7 (by decide) ?_
    refine k_icmp_le (tgt := 36) hx hb dX5_isNameCharacter_9 (by decide) ?_ ?_
    · exact sX5_isNameCharacter_36 C htab hr
    · exact sX5_isNameCharacter_12 C htab hr
set_option maxRecDepth 20000 in
theorem uX5_isNameCharacter {l : Launch} {z0 b N : Nat} {D : va_G} {cA : Nat → ClassId} (hlt : l.stackTraces = false) (spec : ∀ (M : Nat) (a : List Value) (h : ZH) (Kn : Option Value → ZH → Prop) (Kx : Nat → Prop), zok 1 a = true → tX5_isNameCharacter a h Kn → bX5_isNameCharacter_0 M Kn Kx h (zE 1 a) [] h) : Sem l z0 b N D cA yX5_isNameCharacter cX5_isNameCharacter 1 (some .boolean) 0 0 1 zno tX5_isNameCharacter :=
  sem_of hlt (by decide +kernel) (by decide) (fun p e s m args below meth c M a h Kn Kx hok hX hN C hr htab => sX5_isNameCharacter_0 C htab hr _ _ _ (spec M a h Kn Kx hok (hN (fun _ h9 => h9))))
