def bX0_startEdit_2 (M : Nat) (Kn : Option Value → ZH → Prop) (Kx : Nat → Prop) (h0 : ZH) (K2 : ZK ZH) : ZK ZH := (o_iload 1 (o_aload 0 (o_getf 0 4 (o_if2 (fun x y => y ≤ x) (o_vret Kn) (o_aload 0 (o_getf 0 1 (o_iload 1 (o_aload 0 (o_getf 0 0 (o_iload 1 (o_ald 0 (o_iast (o_iinc 1 (1) K2)))))))))))))
def bX0_startEdit_0 (M : Nat) (Kn : Option Value → ZH → Prop) (Kx : Nat → Prop) (h0 : ZH) (K2 : ZK ZH) : ZK ZH := (o_ic (0) (o_istore 1 K2))
def bX0_finishEdit_48 (M : Nat) (Kn : Option Value → ZH → Prop) (Kx : Nat → Prop) (h0 : ZH) (K4 : ZK ZH) : ZK ZH := (o_iload 1 (o_callS1 M zno tJ6_bitCount_0f7a4 Kx h0 (o_ret .int Kn)))
def bX0_finishEdit_33 (M : Nat) (Kn : Option Value → ZH → Prop) (Kx : Nat → Prop) (h0 : ZH) (K4 : ZK ZH) : ZK ZH := (o_iinc 2 (1) K4)
def bX0_finishEdit_4 (M : Nat) (Kn : Option Value → ZH → Prop) (Kx : Nat → Prop) (h0 : ZH) (K4 : ZK ZH) : ZK ZH := (o_iload 2 (o_aload 0 (o_getf 0 4 (o_if2 (fun x y => y ≤ x) (o_iload 1 (o_if1 (fun x => x = 0) (bX0_finishEdit_48 M Kn Kx h0 K4) (o_aload 0 (o_iload 1 (o_callV1 M 0 zno tX0_keep Kx h0 (bX0_finishEdit_48 M Kn Kx h0 K4)))))) (o_aload 0 (o_getf 0 1 (o_iload 2 (o_ald 0 (o_aload 0 (o_getf 0 0 (o_iload 2 (o_ald 0 (o_if2 (fun x y => x = y) (bX0_finishEdit_33 M Kn Kx h0 K4) (o_iload 1 (o_ic (1) (o_iload 2 (o_bin (fun x y => x <<< (y &&& 31)) (o_bin (fun x y => x ||| y) (o_istore 1 (bX0_finishEdit_33 M Kn Kx h0 K4))))))))))))))))))))
def bX0_finishEdit_0 (M : Nat) (Kn : Option Value → ZH → Prop) (Kx : Nat → Prop) (h0 : ZH) (K4 : ZK ZH) : ZK ZH := (o_ic (0) (o_istore 1 (o_ic (0) (o_istore 2 K4))))
def bX0_keep_80 (M : Nat) (Kn : Option Value → ZH → Prop) (Kx : Nat → Prop) (h0 : ZH) (K2 : ZK ZH) : ZK ZH := (o_puti 0 6 (o_aload 0 (o_aload 0 (o_getf 0 5 (o_ic (1) (o_bin (fun x y => x + y) (o_ic (20) (o_mmin (o_puti 0 5 (o_vret Kn))))))))))
def bX0_keep_2 (M : Nat) (Kn : Option Value → ZH → Prop) (Kx : Nat → Prop) (h0 : ZH) (K2 : ZK ZH) : ZK ZH := (o_iload 2 (o_aload 0 (o_getf 0 4 (o_if2 (fun x y => y ≤ x) (o_aload 0 (o_getf 0 2 (o_aload 0 (o_getf 0 6 (o_iload 1 (o_iast (o_aload 0 (o_aload 0 (o_getf 0 6 (o_ic (1) (o_bin (fun x y => x + y) (o_ic (20) (o_if2 (fun x y => y ≤ x) (o_ic (0) (bX0_keep_80 M Kn Kx h0 K2)) (o_aload 0 (o_getf 0 6 (o_ic (1) (o_bin (fun x y => x + y) (bX0_keep_80 M Kn Kx h0 K2)))))))))))))))))) (o_aload 0 (o_getf 0 3 (o_aload 0 (o_getf 0 6 (o_ic (20) (o_bin (fun x y => x * y) (o_iload 2 (o_bin (fun x y => x + y) (o_aload 0 (o_getf 0 0 (o_iload 2 (o_ald 0 (o_iast (o_aload 0 (o_getf 0 0 (o_iload 2 (o_aload 0 (o_getf 0 1 (o_iload 2 (o_ald 0 (o_iast (o_iinc 2 (1) K2))))))))))))))))))))))))))
def bX0_keep_0 (M : Nat) (Kn : Option Value → ZH → Prop) (Kx : Nat → Prop) (h0 : ZH) (K2 : ZK ZH) : ZK ZH := (o_ic (0) (o_istore 2 K2))
def bX0_restoreLatest_80 (M : Nat) (Kn : Option Value → ZH → Prop) (Kx : Nat → Prop) (h0 : ZH) (K44 : ZK ZH) : ZK ZH := (o_iinc 2 (1) K44)
def bX0_restoreLatest_44 (M : Nat) (Kn : Option Value → ZH → Prop) (Kx : Nat → Prop) (h0 : ZH) (K44 : ZK ZH) : ZK ZH := (o_iload 2 (o_aload 0 (o_getf 0 4 (o_if2 (fun x y => y ≤ x) (o_iload 1 (o_callS1 M zno tJ6_bitCount_0f7a4 Kx h0 (o_ret .int Kn))) (o_iload 1 (o_iload 2 (o_callS2 M zno tX5_has Kx h0 (o_if1 (fun x => x = 0) (bX0_restoreLatest_80 M Kn Kx h0 K44) (o_aload 0 (o_getf 0 0 (o_iload 2 (o_aload 0 (o_getf 0 3 (o_aload 0 (o_getf 0 6 (o_ic (20) (o_bin (fun x y => x * y) (o_iload 2 (o_bin (fun x y => x + y) (o_ald 0 (o_iast (bX0_restoreLatest_80 M Kn Kx h0 K44))))))))))))))))))))))
def bX0_restoreLatest_19 (M : Nat) (Kn : Option Value → ZH → Prop) (Kx : Nat → Prop) (h0 : ZH) (K44 : ZK ZH) : ZK ZH := (o_puti 0 6 (o_aload 0 (o_dup (o_getf 0 5 (o_ic (1) (o_bin (fun x y => x - y) (o_puti 0 5 (o_aload 0 (o_getf 0 2 (o_aload 0 (o_getf 0 6 (o_ald 0 (o_istore 1 (o_ic (0) (o_istore 2 K44)))))))))))))))
def bX0_restoreLatest_0 (M : Nat) (Kn : Option Value → ZH → Prop) (Kx : Nat → Prop) (h0 : ZH) (K44 : ZK ZH) : ZK ZH := (o_aload 0 (o_aload 0 (o_getf 0 6 (o_if1 (fun x => x ≤ 0) (o_ic (19) (bX0_restoreLatest_19 M Kn Kx h0 K44)) (o_aload 0 (o_getf 0 6 (o_ic (1) (o_bin (fun x y => x - y) (bX0_restoreLatest_19 M Kn Kx h0 K44)))))))))
def bX1_append_0 (M : Nat) (Kn : Option Value → ZH → Prop) (Kx : Nat → Prop) (h0 : ZH) : ZK ZH := (o_aload 0 (o_getf 1 2 (o_aload 0 (o_getf 1 4 (o_iload 1 (o_cast (o_aload 0 (o_dup (o_getf 1 4 (o_ic (1) (o_bin (fun x y => x + y) (o_puti 1 4 (o_vret Kn)))))))))))))
def bX1_emptyDraft_0 (M : Nat) (Kn : Option Value → ZH → Prop) (Kx : Nat → Prop) (h0 : ZH) : ZK ZH := (o_aload 0 (o_ic (0) (o_puti 1 4 (o_vret Kn))))
def bX1_letterAt_0 (M : Nat) (Kn : Option Value → ZH → Prop) (Kx : Nat → Prop) (h0 : ZH) : ZK ZH := (o_aload 0 (o_getf 1 0 (o_iload 1 (o_ic (8) (o_bin (fun x y => x * y) (o_iload 2 (o_bin (fun x y => x + y) (o_ald 1 (o_ret .char Kn)))))))))
def bX1_findDraft_2 (M : Nat) (Kn : Option Value → ZH → Prop) (Kx : Nat → Prop) (h0 : ZH) (K2 : ZK ZH) : ZK ZH := (o_iload 1 (o_aload 0 (o_getf 1 3 (o_if2 (fun x y => y ≤ x) (o_ic (-1) (o_ret .int Kn)) (o_aload 0 (o_iload 1 (o_callV1 M 1 zno tX1_isDraft Kx h0 (o_if1 (fun x => x = 0) (o_iinc 1 (1) K2) (o_iload 1 (o_ret .int Kn))))))))))
def bX1_findDraft_0 (M : Nat) (Kn : Option Value → ZH → Prop) (Kx : Nat → Prop) (h0 : ZH) (K2 : ZK ZH) : ZK ZH := (o_ic (0) (o_istore 1 K2))
def bX1_addDraft_2 (M : Nat) (Kn : Option Value → ZH → Prop) (Kx : Nat → Prop) (h0 : ZH) (K2 : ZK ZH) : ZK ZH := (o_iload 1 (o_aload 0 (o_getf 1 4 (o_if2 (fun x y => y ≤ x) (o_aload 0 (o_getf 1 1 (o_aload 0 (o_getf 1 3 (o_aload 0 (o_getf 1 4 (o_iast (o_aload 0 (o_dup (o_getf 1 3 (o_ic (1) (o_bin (fun x y => x + y) (o_puti 1 3 (o_aload 0 (o_getf 1 3 (o_ic (1) (o_bin (fun x y => x - y) (o_ret .int Kn)))))))))))))))))) (o_aload 0 (o_getf 1 0 (o_aload 0 (o_getf 1 3 (o_ic (8) (o_bin (fun x y => x * y) (o_iload 1 (o_bin (fun x y => x + y) (o_aload 0 (o_getf 1 2 (o_iload 1 (o_ald 1 (o_cast (o_iinc 1 (1) K2))))))))))))))))))
def bX1_addDraft_0 (M : Nat) (Kn : Option Value → ZH → Prop) (Kx : Nat → Prop) (h0 : ZH) (K2 : ZK ZH) : ZK ZH := (o_ic (0) (o_istore 1 K2))
def bX1_isDraft_17 (M : Nat) (Kn : Option Value → ZH → Prop) (Kx : Nat → Prop) (h0 : ZH) (K17 : ZK ZH) : ZK ZH := (o_iload 2 (o_aload 0 (o_getf 1 4 (o_if2 (fun x y => y ≤ x) (o_ic (1) (o_ret .boolean Kn)) (o_aload 0 (o_iload 1 (o_iload 2 (o_callV2 M 1 zno tX1_letterAt Kx h0 (o_callS1 M zno tX1_plain Kx h0 (o_aload 0 (o_getf 1 2 (o_iload 2 (o_ald 1 (o_callS1 M zno tX1_plain Kx h0 (o_if2 (fun x y => x = y) (o_iinc 2 (1) K17) (o_ic (0) (o_ret .boolean Kn)))))))))))))))))
def bX1_isDraft_0 (M : Nat) (Kn : Option Value → ZH → Prop) (Kx : Nat → Prop) (h0 : ZH) (K17 : ZK ZH) : ZK ZH := (o_aload 0 (o_getf 1 1 (o_iload 1 (o_ald 0 (o_aload 0 (o_getf 1 4 (o_if2 (fun x y => x = y) (o_ic (0) (o_istore 2 K17)) (o_ic (0) (o_ret .boolean Kn)))))))))
def bX1_plain_33 (M : Nat) (Kn : Option Value → ZH → Prop) (Kx : Nat → Prop) (h0 : ZH) : ZK ZH := (o_ret .char Kn)
def bX1_plain_21 (M : Nat) (Kn : Option Value → ZH → Prop) (Kx : Nat → Prop) (h0 : ZH) : ZK ZH := (o_iload 0 (o_ic (45) (o_if2 (fun x y => ¬ x = y) (o_iload 0 (bX1_plain_33 M Kn Kx h0)) (o_ic (95) (bX1_plain_33 M Kn Kx h0)))))
def bX1_plain_0 (M : Nat) (Kn : Option Value → ZH → Prop) (Kx : Nat → Prop) (h0 : ZH) : ZK ZH := (o_iload 0 (o_ic (65) (o_if2 (fun x y => x < y) (bX1_plain_21 M Kn Kx h0) (o_iload 0 (o_ic (90) (o_if2 (fun x y => y < x) (bX1_plain_21 M Kn Kx h0) (o_iload 0 (o_ic (65) (o_bin (fun x y => x - y) (o_ic (97) (o_bin (fun x y => x + y) (o_i2c (o_ret .char Kn)))))))))))))
def bX2_add_0 (M : Nat) (Kn : Option Value → ZH → Prop) (Kx : Nat → Prop) (h0 : ZH) : ZK ZH := (o_aload 0 (o_getf 2 0 (o_aload 0 (o_getf 2 6 (o_iload 1 (o_iast (o_aload 0 (o_getf 2 1 (o_aload 0 (o_getf 2 6 (o_iload 2 (o_iast (o_aload 0 (o_getf 2 2 (o_aload 0 (o_getf 2 6 (o_iload 3 (o_iast (o_aload 0 (o_getf 2 3 (o_aload 0 (o_getf 2 6 (o_ic (0) (o_iast (o_aload 0 (o_dup (o_getf 2 6 (o_ic (1) (o_bin (fun x y => x + y) (o_puti 2 6 (o_aload 0 (o_getf 2 6 (o_ic (1) (o_bin (fun x y => x - y) (o_ret .int Kn)))))))))))))))))))))))))))))))))))
def bX2_setVote_60 (M : Nat) (Kn : Option Value → ZH → Prop) (Kx : Nat → Prop) (h0 : ZH) : ZK ZH := (o_vret Kn)
def bX2_setVote_0 (M : Nat) (Kn : Option Value → ZH → Prop) (Kx : Nat → Prop) (h0 : ZH) : ZK ZH := (o_ic (1) (o_iload 2 (o_bin (fun x y => x <<< (y &&& 31)) (o_istore 4 (o_iload 3 (o_if1 (fun x => x = 0) (o_aload 0 (o_getf 2 4 (o_iload 1 (o_dup2 (o_ald 0 (o_iload 4 (o_ic (-1) (o_bin (fun x y => x ^^^ y) (o_bin (fun x y => x &&& y) (o_iast (o_aload 0 (o_getf 2 5 (o_iload 1 (o_dup2 (o_ald 0 (o_iload 4 (o_bin (fun x y => x ||| y) (o_iast (bX2_setVote_60 M Kn Kx h0))))))))))))))))))) (o_aload 0 (o_getf 2 4 (o_iload 1 (o_dup2 (o_ald 0 (o_iload 4 (o_bin (fun x y => x ||| y) (o_iast (o_aload 0 (o_getf 2 5 (o_iload 1 (o_dup2 (o_ald 0 (o_iload 4 (o_ic (-1) (o_bin (fun x y => x ^^^ y) (o_bin (fun x y => x &&& y) (o_iast (bX2_setVote_60 M Kn Kx h0)))))))))))))))))))))))))
def bX2_leadOf_0 (M : Nat) (Kn : Option Value → ZH → Prop) (Kx : Nat → Prop) (h0 : ZH) : ZK ZH := (o_aload 0 (o_getf 2 4 (o_iload 1 (o_ald 0 (o_callS1 M zno tJ6_bitCount_0f7a4 Kx h0 (o_aload 0 (o_getf 2 5 (o_iload 1 (o_ald 0 (o_callS1 M zno tJ6_bitCount_0f7a4 Kx h0 (o_bin (fun x y => x - y) (o_ret .int Kn))))))))))))
def bX2_isAllowedBy_0 (M : Nat) (Kn : Option Value → ZH → Prop) (Kx : Nat → Prop) (h0 : ZH) : ZK ZH := (o_aload 1 (o_aload 0 (o_getf 2 0 (o_iload 2 (o_ald 0 (o_aload 0 (o_getf 2 1 (o_iload 2 (o_ald 0 (o_aload 0 (o_getf 2 2 (o_iload 2 (o_ald 0 (o_callV3 M 4 zno tX4_allows Kx h0 (o_ret .boolean Kn)))))))))))))))
def bX2_carryOut_0 (M : Nat) (Kn : Option Value → ZH → Prop) (Kx : Nat → Prop) (h0 : ZH) : ZK ZH := (o_aload 1 (o_aload 0 (o_getf 2 0 (o_iload 2 (o_ald 0 (o_aload 0 (o_getf 2 1 (o_iload 2 (o_ald 0 (o_aload 0 (o_getf 2 2 (o_iload 2 (o_ald 0 (o_callV3 M 4 zno tX4_carryOut Kx h0 (o_vret Kn)))))))))))))))
def bX3_refresh_80 (M : Nat) (Kn : Option Value → ZH → Prop) (Kx : Nat → Prop) (h0 : ZH) (K2 K25 K48 : ZK ZH) : ZK ZH := (o_iinc 5 (1) K48)
def bX3_refresh_48 (M : Nat) (Kn : Option Value → ZH → Prop) (Kx : Nat → Prop) (h0 : ZH) (K2 K25 K48 : ZK ZH) : ZK ZH := (o_iload 5 (o_aload 1 (o_getf 4 4 (o_if2 (fun x y => y ≤ x) (o_iinc 3 (1) K25) (o_iload 4 (o_iload 5 (o_callS2 M zno tX5_has Kx h0 (o_if1 (fun x => x = 0) (bX3_refresh_80 M Kn Kx h0 K2 K25 K48) (o_aload 0 (o_getf 3 0 (o_iload 5 (o_dup2 (o_ald 0 (o_ic (1) (o_iload 3 (o_bin (fun x y => x <<< (y &&& 31)) (o_bin (fun x y => x ||| y) (o_iast (bX3_refresh_80 M Kn Kx h0 K2 K25 K48)))))))))))))))))))
def bX3_refresh_25 (M : Nat) (Kn : Option Value → ZH → Prop) (Kx : Nat → Prop) (h0 : ZH) (K2 K25 K48 : ZK ZH) : ZK ZH := (o_iload 3 (o_aload 2 (o_getf 0 4 (o_if2 (fun x y => y ≤ x) (o_vret Kn) (o_aload 1 (o_aload 2 (o_getf 0 0 (o_iload 3 (o_ald 0 (o_callV1 M 4 zno tX4_reachedFrom Kx h0 (o_istore 4 (o_ic (0) (o_istore 5 K48)))))))))))))
def bX3_refresh_2 (M : Nat) (Kn : Option Value → ZH → Prop) (Kx : Nat → Prop) (h0 : ZH) (K2 K25 K48 : ZK ZH) : ZK ZH := (o_iload 3 (o_aload 1 (o_getf 4 4 (o_if2 (fun x y => y ≤ x) (o_ic (0) (o_istore 3 K25)) (o_aload 0 (o_getf 3 0 (o_iload 3 (o_ic (0) (o_iast (o_iinc 3 (1) K2))))))))))
def bX3_refresh_0 (M : Nat) (Kn : Option Value → ZH → Prop) (Kx : Nat → Prop) (h0 : ZH) (K2 K25 K48 : ZK ZH) : ZK ZH := (o_ic (0) (o_istore 3 K2))
def bX3_column_32 (M : Nat) (Kn : Option Value → ZH → Prop) (Kx : Nat → Prop) (h0 : ZH) (K5 : ZK ZH) : ZK ZH := (o_iinc 4 (1) K5)
def bX3_column_5 (M : Nat) (Kn : Option Value → ZH → Prop) (Kx : Nat → Prop) (h0 : ZH) (K5 : ZK ZH) : ZK ZH := (o_iload 4 (o_iload 2 (o_if2 (fun x y => y ≤ x) (o_iload 3 (o_ret .int Kn)) (o_aload 0 (o_getf 3 0 (o_iload 4 (o_ald 0 (o_iload 1 (o_callS2 M zno tX5_has Kx h0 (o_if1 (fun x => x = 0) (bX3_column_32 M Kn Kx h0 K5) (o_iload 3 (o_ic (1) (o_iload 4 (o_bin (fun x y => x <<< (y &&& 31)) (o_bin (fun x y => x ||| y) (o_istore 3 (bX3_column_32 M Kn Kx h0 K5)))))))))))))))))
def bX3_column_0 (M : Nat) (Kn : Option Value → ZH → Prop) (Kx : Nat → Prop) (h0 : ZH) (K5 : ZK ZH) : ZK ZH := (o_ic (0) (o_istore 3 (o_ic (0) (o_istore 4 K5))))
def bJ6_bitCount_0f7a4_0 (M : Nat) (Kn : Option Value → ZH → Prop) (Kx : Nat → Prop) (h0 : ZH) : ZK ZH := (o_iload 0 (o_iload 0 (o_ic (1) (o_bin (fun x y => (x.toUInt32 >>> (y.toUInt32 &&& Int32.toUInt32 31)).toInt32) (o_ic (1431655765) (o_bin (fun x y => x &&& y) (o_bin (fun x y => x - y) (o_istore 0 (o_iload 0 (o_ic (858993459) (o_bin (fun x y => x &&& y) (o_iload 0 (o_ic (2) (o_bin (fun x y => (x.toUInt32 >>> (y.toUInt32 &&& Int32.toUInt32 31)).toInt32) (o_ic (858993459) (o_bin (fun x y => x &&& y) (o_bin (fun x y => x + y) (o_istore 0 (o_iload 0 (o_iload 0 (o_ic (4) (o_bin (fun x y => (x.toUInt32 >>> (y.toUInt32 &&& Int32.toUInt32 31)).toInt32) (o_bin (fun x y => x + y) (o_ic (252645135) (o_bin (fun x y => x &&& y) (o_istore 0 (o_iload 0 (o_iload 0 (o_ic (8) (o_bin (fun x y => (x.toUInt32 >>> (y.toUInt32 &&& Int32.toUInt32 31)).toInt32) (o_bin (fun x y => x + y) (o_istore 0 (o_iload 0 (o_iload 0 (o_ic (16) (o_bin (fun x y => (x.toUInt32 >>> (y.toUInt32 &&& Int32.toUInt32 31)).toInt32) (o_bin (fun x y => x + y) (o_istore 0 (o_iload 0 (o_ic (63) (o_bin (fun x y => x &&& y) (o_ret .int Kn))))))))))))))))))))))))))))))))))))))))))
set_option maxRecDepth 20000 in
theorem sX0_startEdit_2 {l : Launch} {z0 b N M : Nat} {D : va_G} {cA : Nat → ClassId} {p : Program} {e : Env} {s : State} {m : MethodId} {args : Array Value} {below : List Frame} {meth : Method} {c : Code} {Kn : Option Value → ZH → Prop} {Kx : Nat → Prop} {h0 : ZH} {K2 : ZK ZH} (C : zCx p l (zRm 0 M 0) s m args meth c cX0_startEdit 2 RX0 z0 D cA M) (htab : ∀ x ∈ c.exceptionTable.toList, False) (hr : meth.sig.returnType = none) (hK2 : Snd p l e (zRm 0 M 0) s m args below meth c 2 z0 b (zI z0 b N D cA s) (fun _ => (0, 0)) (vx_MQ below (zQn z0 b N D cA Kn) (zXn z0 b N D cA Kx h0) args s M (6 * M) (fun q => z0 ≤ q)) 2 K2) : Snd p l e (zRm 0 M 0) s m args below meth c 2 z0 b (zI z0 b N D cA s) (fun _ => (0, 0)) (vx_MQ below (zQn z0 b N D cA Kn) (zXn z0 b N D cA Kx h0) args s M (6 * M) (fun q => z0 ≤ q)) 2 (bX0_startEdit_2 M Kn Kx h0 K2) := by
  obtain ⟨hx, hb, hml, hown, hts, -⟩ := id C
  unfold bX0_startEdit_2
  refine k_iload_n hx hb dX0_startEdit_2 rfl ?_
  refine k_aload_n hx hb dX0_startEdit_3 rfl ?_
  refine k_getf C (ci := 0) (k := 4) (Tf := TX0) (Nf := 7) (Cn := RX0) rfl zinX0 (by decide) rfl zfX0_24 dX0_startEdit_4 ?_
  refine k_icmp_ge (tgt := 28) hx hb dX0_startEdit_7 (by decide) ?_ ?_
  · exact k_vret C hr dX0_startEdit_28
  · refine k_aload_n hx hb dX0_startEdit_10 rfl ?_
    refine k_getf C (ci := 0) (k := 1) (Tf := TX0) (Nf := 7) (Cn := RX0) rfl zinX0 (by decide) rfl zfX0_15 dX0_startEdit_11 ?_
    refine k_iload_n hx hb dX0_startEdit_14 rfl ?_
    refine k_aload_n hx hb dX0_startEdit_15 rfl ?_
    refine k_getf C (ci := 0) (k := 0) (Tf := TX0) (Nf := 7) (Cn := RX0) rfl zinX0 (by decide) rfl zfX0_9 dX0_startEdit_16 ?_
    refine k_iload_n hx hb dX0_startEdit_19 rfl ?_
    refine k_iald C dX0_startEdit_20 ?_
    refine k_iast C dX0_startEdit_21 ?_
    refine k_iinc hx hb dX0_startEdit_22 (by decide) ?_
    refine k_goto (tgt := 2) hx hb dX0_startEdit_25 (by decide) ?_
    exact hK2
set_option maxRecDepth 20000 in
theorem sX0_startEdit_0 {l : Launch} {z0 b N M : Nat} {D : va_G} {cA : Nat → ClassId} {p : Program} {e : Env} {s : State} {m : MethodId} {args : Array Value} {below : List Frame} {meth : Method} {c : Code} {Kn : Option Value → ZH → Prop} {Kx : Nat → Prop} {h0 : ZH} {K2 : ZK ZH} (C : zCx p l (zRm 0 M 0) s m args meth c cX0_startEdit 2 RX0 z0 D cA M) (htab : ∀ x ∈ c.exceptionTable.toList, False) (hr : meth.sig.returnType = none) (hK2 : Snd p l e (zRm 0 M 0) s m args below meth c 2 z0 b (zI z0 b N D cA s) (fun _ => (0, 0)) (vx_MQ below (zQn z0 b N D cA Kn) (zXn z0 b N D cA Kx h0) args s M (6 * M) (fun q => z0 ≤ q)) 2 K2) : Snd p l e (zRm 0 M 0) s m args below meth c 2 z0 b (zI z0 b N D cA s) (fun _ => (0, 0)) (vx_MQ below (zQn z0 b N D cA Kn) (zXn z0 b N D cA Kx h0) args s M (6 * M) (fun q => z0 ≤ q)) 0 (bX0_startEdit_0 M Kn Kx h0 K2) := by
  obtain ⟨hx, hb, hml, hown, hts, -⟩ := id C
  unfold bX0_startEdit_0
  refine k_iconst hx hb dX0_startEdit_0 (by decide) ?_
  refine k_istore_n hx hb dX0_startEdit_1 rfl ?_
  exact hK2
set_option maxRecDepth 20000 in
theorem uX0_startEdit {l : Launch} {z0 b N : Nat} {D : va_G} {cA : Nat → ClassId} (hlt : l.stackTraces = false) (spec : ∀ (M : Nat) (a : List Value) (h : ZH) (Kn : Option Value → ZH → Prop) (Kx : Nat → Prop), zok 1 a = true → tX0_startEdit a h Kn → ∀ (A : Nat → ZK ZH), (∀ ls st h', bX0_startEdit_2 M Kn Kx h (A 2) ls st h' → A 2 ls st h') → bX0_startEdit_0 M Kn Kx h (A 2) (zE 2 a) [] h) : Sem l z0 b N D cA yX0_startEdit cX0_startEdit 2 none 0 0 1 zno tX0_startEdit :=
  sem_of hlt (by decide +kernel) (by decide) (fun p e s m args below meth c M a h Kn Kx hok hX hN C hr htab => sX0_startEdit_0 C htab hr (fun _ _ _ q => q) _ _ _ (spec M a h Kn Kx hok (hN (fun _ h9 => h9)) (fun pc => AW p l e (zRm 0 M 0) s m args below meth c 2 z0 b (zI z0 b N D cA s) (fun _ => (0, 0)) (vx_MQ below (zQn z0 b N D cA Kn) (zXn z0 b N D cA Kx h) args s M (6 * M) (fun q => z0 ≤ q)) pc) (fun ls st h' hq => sX0_startEdit_2 C htab hr (fun _ _ _ q => q) ls st h' hq)))
set_option maxRecDepth 20000 in
theorem sX0_finishEdit_48 {l : Launch} {z0 b N M : Nat} {D : va_G} {cA : Nat → ClassId} {p : Program} {e : Env} {s : State} {m : MethodId} {args : Array Value} {below : List Frame} {meth : Method} {c : Code} {Kn : Option Value → ZH → Prop} {Kx : Nat → Prop} {h0 : ZH} {K4 : ZK ZH} (C : zCx p l (zRm 2 M 41) s m args meth c cX0_finishEdit 3 RX0 z0 D cA M) (htab : ∀ x ∈ c.exceptionTable.toList, False) (hr : meth.sig.returnType = (some .int)) (HX0_keep : Sem l z0 b N D cA yX0_keep cX0_keep 3 none 1 19 2 zno tX0_keep) (HJ6_bitCount_0f7a4 : Sem l z0 b N D cA yJ6_bitCount_0f7a4 cJ6_bitCount_0f7a4 1 (some .int) 0 0 1 zno tJ6_bitCount_0f7a4) (hK4 : Snd p l e (zRm 2 M 41) s m args below meth c 3 z0 b (zI z0 b N D cA s) (fun _ => (0, 0)) (vx_MQ below (zQn z0 b N D cA Kn) (zXn z0 b N D cA Kx h0) args s M (6 * M) (fun q => z0 ≤ q)) 4 K4) : Snd p l e (zRm 2 M 41) s m args below meth c 3 z0 b (zI z0 b N D cA s) (fun _ => (0, 0)) (vx_MQ below (zQn z0 b N D cA Kn) (zXn z0 b N D cA Kx h0) args s M (6 * M) (fun q => z0 ≤ q)) 48 (bX0_finishEdit_48 M Kn Kx h0 K4) := by
  obtain ⟨hx, hb, hml, hown, hts, -⟩ := id C
  unfold bX0_finishEdit_48
  refine k_iload_n hx hb dX0_finishEdit_48 rfl ?_
  refine k_callS1 C htab HJ6_bitCount_0f7a4 zlX0_32 zsJ6_bitCount_0f7a4 ziJ6 zcJ6_bitCount_0f7a4 (by decide +kernel) ⟨Nat.le_of_ble_eq_true rfl, Nat.le_of_ble_eq_true rfl⟩ dX0_finishEdit_49 ?_
  exact k_ret C hr dX0_finishEdit_52
set_option maxRecDepth 20000 in
theorem sX0_finishEdit_33 {l : Launch} {z0 b N M : Nat} {D : va_G} {cA : Nat → ClassId} {p : Program} {e : Env} {s : State} {m : MethodId} {args : Array Value} {below : List Frame} {meth : Method} {c : Code} {Kn : Option Value → ZH → Prop} {Kx : Nat → Prop} {h0 : ZH} {K4 : ZK ZH} (C : zCx p l (zRm 2 M 41) s m args meth c cX0_finishEdit 3 RX0 z0 D cA M) (htab : ∀ x ∈ c.exceptionTable.toList, False) (hr : meth.sig.returnType = (some .int)) (HX0_keep : Sem l z0 b N D cA yX0_keep cX0_keep 3 none 1 19 2 zno tX0_keep) (HJ6_bitCount_0f7a4 : Sem l z0 b N D cA yJ6_bitCount_0f7a4 cJ6_bitCount_0f7a4 1 (some .int) 0 0 1 zno tJ6_bitCount_0f7a4) (hK4 : Snd p l e (zRm 2 M 41) s m args below meth c 3 z0 b (zI z0 b N D cA s) (fun _ => (0, 0)) (vx_MQ below (zQn z0 b N D cA Kn) (zXn z0 b N D cA Kx h0) args s M (6 * M) (fun q => z0 ≤ q)) 4 K4) : Snd p l e (zRm 2 M 41) s m args below meth c 3 z0 b (zI z0 b N D cA s) (fun _ => (0, 0)) (vx_MQ below (zQn z0 b N D cA Kn) (zXn z0 b N D cA Kx h0) args s M (6 * M) (fun q => z0 ≤ q)) 33 (bX0_finishEdit_33 M Kn Kx h0 K4) := by
  obtain ⟨hx, hb, hml, hown, hts, -⟩ := id C
  unfold bX0_finishEdit_33
  refine k_iinc hx hb dX0_finishEdit_33 (by decide) ?_
  refine k_goto (tgt := 4) hx hb dX0_finishEdit_36 (by decide) ?_
  exact hK4
set_option maxRecDepth 20000 in
theorem sX0_finishEdit_4 {l : Launch} {z0 b N M : Nat} {D : va_G} {cA : Nat → ClassId} {p : Program} {e : Env} {s : State} {m : MethodId} {args : Array Value} {below : List Frame} {meth : Method} {c : Code} {Kn : Option Value → ZH → Prop} {Kx : Nat → Prop} {h0 : ZH} {K4 : ZK ZH} (C : zCx p l (zRm 2 M 41) s m args meth c cX0_finishEdit 3 RX0 z0 D cA M) (htab : ∀ x ∈ c.exceptionTable.toList, False) (hr : meth.sig.returnType = (some .int)) (HX0_keep : Sem l z0 b N D cA yX0_keep cX0_keep 3 none 1 19 2 zno tX0_keep) (HJ6_bitCount_0f7a4 : Sem l z0 b N D cA yJ6_bitCount_0f7a4 cJ6_bitCount_0f7a4 1 (some .int) 0 0 1 zno tJ6_bitCount_0f7a4) (hK4 : Snd p l e (zRm 2 M 41) s m args below meth c 3 z0 b (zI z0 b N D cA s) (fun _ => (0, 0)) (vx_MQ below (zQn z0 b N D cA Kn) (zXn z0 b N D cA Kx h0) args s M (6 * M) (fun q => z0 ≤ q)) 4 K4) : Snd p l e (zRm 2 M 41) s m args below meth c 3 z0 b (zI z0 b N D cA s) (fun _ => (0, 0)) (vx_MQ below (zQn z0 b N D cA Kn) (zXn z0 b N D cA Kx h0) args s M (6 * M) (fun q => z0 ≤ q)) 4 (bX0_finishEdit_4 M Kn Kx h0 K4) := by
  obtain ⟨hx, hb, hml, hown, hts, -⟩ := id C
  unfold bX0_finishEdit_4
  refine k_iload_n hx hb dX0_finishEdit_4 rfl ?_
  refine k_aload_n hx hb dX0_finishEdit_5 rfl ?_
  refine k_getf C (ci := 0) (k := 4) (Tf := TX0) (Nf := 7) (Cn := RX0) rfl zinX0 (by decide) rfl zfX0_24 dX0_finishEdit_6 ?_
  refine k_icmp_ge (tgt := 39) hx hb dX0_finishEdit_9 (by decide) ?_ ?_
  · refine k_iload_n hx hb dX0_finishEdit_39 rfl ?_
    refine k_if_eq (tgt := 48) hx hb dX0_finishEdit_40 (by decide) ?_ ?_
    · exact sX0_finishEdit_48 C htab hr HX0_keep HJ6_bitCount_0f7a4 hK4
    · refine k_aload_n hx hb dX0_finishEdit_43 rfl ?_
      refine k_iload_n hx hb dX0_finishEdit_44 rfl ?_
      refine k_callV1 C htab (ci := 0) (Tf := TX0) (Nf := 7) (Cn := RX0) rfl HX0_keep rfl zlX0_28 zmX0_keep zvX0_keep ziX0 zcX0_keep (by decide +kernel) ⟨Nat.le_of_ble_eq_true rfl, Nat.le_of_ble_eq_true rfl⟩ dX0_finishEdit_45 ?_
      exact sX0_finishEdit_48 C htab hr HX0_keep HJ6_bitCount_0f7a4 hK4
  · refine k_aload_n hx hb dX0_finishEdit_12 rfl ?_
    refine k_getf C (ci := 0) (k := 1) (Tf := TX0) (Nf := 7) (Cn := RX0) rfl zinX0 (by decide) rfl zfX0_15 dX0_finishEdit_13 ?_
    refine k_iload_n hx hb dX0_finishEdit_16 rfl ?_
    refine k_iald C dX0_finishEdit_17 ?_
    refine k_aload_n hx hb dX0_finishEdit_18 rfl ?_
    refine k_getf C (ci := 0) (k := 0) (Tf := TX0) (Nf := 7) (Cn := RX0) rfl zinX0 (by decide) rfl zfX0_9 dX0_finishEdit_19 ?_
    refine k_iload_n hx hb dX0_finishEdit_22 rfl ?_
    refine k_iald C dX0_finishEdit_23 ?_
    refine k_icmp_eq (tgt := 33) hx hb dX0_finishEdit_24 (by decide) ?_ ?_
    · exact sX0_finishEdit_33 C htab hr HX0_keep HJ6_bitCount_0f7a4 hK4
    · refine k_iload_n hx hb dX0_finishEdit_27 rfl ?_
      refine k_iconst hx hb dX0_finishEdit_28 (by decide) ?_
      refine k_iload_n hx hb dX0_finishEdit_29 rfl ?_
      refine k_ishl hx hb dX0_finishEdit_30 ?_
      refine k_ior hx hb dX0_finishEdit_31 ?_
      refine k_istore_n hx hb dX0_finishEdit_32 rfl ?_
      exact sX0_finishEdit_33 C htab hr HX0_keep HJ6_bitCount_0f7a4 hK4
set_option maxRecDepth 20000 in
theorem sX0_finishEdit_0 {l : Launch} {z0 b N M : Nat} {D : va_G} {cA : Nat → ClassId} {p : Program} {e : Env} {s : State} {m : MethodId} {args : Array Value} {below : List Frame} {meth : Method} {c : Code} {Kn : Option Value → ZH → Prop} {Kx : Nat → Prop} {h0 : ZH} {K4 : ZK ZH} (C : zCx p l (zRm 2 M 41) s m args meth c cX0_finishEdit 3 RX0 z0 D cA M) (htab : ∀ x ∈ c.exceptionTable.toList, False) (hr : meth.sig.returnType = (some .int)) (HX0_keep : Sem l z0 b N D cA yX0_keep cX0_keep 3 none 1 19 2 zno tX0_keep) (HJ6_bitCount_0f7a4 : Sem l z0 b N D cA yJ6_bitCount_0f7a4 cJ6_bitCount_0f7a4 1 (some .int) 0 0 1 zno tJ6_bitCount_0f7a4) (hK4 : Snd p l e (zRm 2 M 41) s m args below meth c 3 z0 b (zI z0 b N D cA s) (fun _ => (0, 0)) (vx_MQ below (zQn z0 b N D cA Kn) (zXn z0 b N D cA Kx h0) args s M (6 * M) (fun q => z0 ≤ q)) 4 K4) : Snd p l e (zRm 2 M 41) s m args below meth c 3 z0 b (zI z0 b N D cA s) (fun _ => (0, 0)) (vx_MQ below (zQn z0 b N D cA Kn) (zXn z0 b N D cA Kx h0) args s M (6 * M) (fun q => z0 ≤ q)) 0 (bX0_finishEdit_0 M Kn Kx h0 K4) := by
  obtain ⟨hx, hb, hml, hown, hts, -⟩ := id C
  unfold bX0_finishEdit_0
  refine k_iconst hx hb dX0_finishEdit_0 (by decide) ?_
  refine k_istore_n hx hb dX0_finishEdit_1 rfl ?_
  refine k_iconst hx hb dX0_finishEdit_2 (by decide) ?_
  refine k_istore_n hx hb dX0_finishEdit_3 rfl ?_
  exact hK4
set_option maxRecDepth 20000 in
theorem uX0_finishEdit {l : Launch} {z0 b N : Nat} {D : va_G} {cA : Nat → ClassId} (hlt : l.stackTraces = false) (HX0_keep : Sem l z0 b N D cA yX0_keep cX0_keep 3 none 1 19 2 zno tX0_keep) (HJ6_bitCount_0f7a4 : Sem l z0 b N D cA yJ6_bitCount_0f7a4 cJ6_bitCount_0f7a4 1 (some .int) 0 0 1 zno tJ6_bitCount_0f7a4) (spec : ∀ (M : Nat) (a : List Value) (h : ZH) (Kn : Option Value → ZH → Prop) (Kx : Nat → Prop), zok 1 a = true → tX0_finishEdit a h Kn → ∀ (A : Nat → ZK ZH), (∀ ls st h', bX0_finishEdit_4 M Kn Kx h (A 4) ls st h' → A 4 ls st h') → bX0_finishEdit_0 M Kn Kx h (A 4) (zE 3 a) [] h) : Sem l z0 b N D cA yX0_finishEdit cX0_finishEdit 3 (some .int) 2 41 1 zno tX0_finishEdit :=
  sem_of hlt (by decide +kernel) (by decide) (fun p e s m args below meth c M a h Kn Kx hok hX hN C hr htab => sX0_finishEdit_0 C htab hr HX0_keep HJ6_bitCount_0f7a4 (fun _ _ _ q => q) _ _ _ (spec M a h Kn Kx hok (hN (fun _ h9 => h9)) (fun pc => AW p l e (zRm 2 M 41) s m args below meth c 3 z0 b (zI z0 b N D cA s) (fun _ => (0, 0)) (vx_MQ below (zQn z0 b N D cA Kn) (zXn z0 b N D cA Kx h) args s M (6 * M) (fun q => z0 ≤ q)) pc) (fun ls st h' hq => sX0_finishEdit_4 C htab hr HX0_keep HJ6_bitCount_0f7a4 (fun _ _ _ q => q) ls st h' hq)))
set_option maxRecDepth 20000 in
theorem sX0_keep_80 {l : Launch} {z0 b N M : Nat} {D : va_G} {cA : Nat → ClassId} {p : Program} {e : Env} {s : State} {m : MethodId} {args : Array Value} {below : List Frame} {meth : Method} {c : Code} {Kn : Option Value → ZH → Prop} {Kx : Nat → Prop} {h0 : ZH} {K2 : ZK ZH} (C : zCx p l (zRm 1 M 19) s m args meth c cX0_keep 3 RX0 z0 D cA M) (htab : ∀ x ∈ c.exceptionTable.toList, False) (hr : meth.sig.returnType = none) (hK2 : Snd p l e (zRm 1 M 19) s m args below meth c 3 z0 b (zI z0 b N D cA s) (fun _ => (0, 0)) (vx_MQ below (zQn z0 b N D cA Kn) (zXn z0 b N D cA Kx h0) args s M (6 * M) (fun q => z0 ≤ q)) 2 K2) : Snd p l e (zRm 1 M 19) s m args below meth c 3 z0 b (zI z0 b N D cA s) (fun _ => (0, 0)) (vx_MQ below (zQn z0 b N D cA Kn) (zXn z0 b N D cA Kx h0) args s M (6 * M) (fun q => z0 ≤ q)) 80 (bX0_keep_80 M Kn Kx h0 K2) := by
  obtain ⟨hx, hb, hml, hown, hts, -⟩ := id C
  unfold bX0_keep_80
  refine k_puti C (ci := 0) (k := 6) (Tf := TX0) (Nf := 7) (Cn := RX0) tyX0 tyX0_ok nmX0 rfl zinX0 (by decide) rfl rfl (by decide +kernel) zfX0_38 dX0_keep_80 ?_
  refine k_aload_n hx hb dX0_keep_83 rfl ?_
  refine k_aload_n hx hb dX0_keep_84 rfl ?_
  refine k_getf C (ci := 0) (k := 5) (Tf := TX0) (Nf := 7) (Cn := RX0) rfl zinX0 (by decide) rfl zfX0_41 dX0_keep_85 ?_
  refine k_iconst hx hb dX0_keep_88 (by decide) ?_
  refine k_iadd hx hb dX0_keep_89 ?_
  refine k_bipush hx hb dX0_keep_90 (by decide) ?_
  refine k_mmin C zlX0_44 zsJ9_min_7cf53 ziJ9 zcJ9_min_7cf53 ⟨Nat.le_of_ble_eq_true rfl, Nat.le_of_ble_eq_true rfl⟩ dX0_keep_92 ?_
  refine k_puti C (ci := 0) (k := 5) (Tf := TX0) (Nf := 7) (Cn := RX0) tyX0 tyX0_ok nmX0 rfl zinX0 (by decide) rfl rfl (by decide +kernel) zfX0_41 dX0_keep_95 ?_
  exact k_vret C hr dX0_keep_98
set_option maxRecDepth 20000 in
theorem sX0_keep_2 {l : Launch} {z0 b N M : Nat} {D : va_G} {cA : Nat → ClassId} {p : Program} {e : Env} {s : State} {m : MethodId} {args : Array Value} {below : List Frame} {meth : Method} {c : Code} {Kn : Option Value → ZH → Prop} {Kx : Nat → Prop} {h0 : ZH} {K2 : ZK ZH} (C : zCx p l (zRm 1 M 19) s m args meth c cX0_keep 3 RX0 z0 D cA M) (htab : ∀ x ∈ c.exceptionTable.toList, False) (hr : meth.sig.returnType = none) (hK2 : Snd p l e (zRm 1 M 19) s m args below meth c 3 z0 b (zI z0 b N D cA s) (fun _ => (0, 0)) (vx_MQ below (zQn z0 b N D cA Kn) (zXn z0 b N D cA Kx h0) args s M (6 * M) (fun q => z0 ≤ q)) 2 K2) : Snd p l e (zRm 1 M 19) s m args below meth c 3 z0 b (zI z0 b N D cA s) (fun _ => (0, 0)) (vx_MQ below (zQn z0 b N D cA Kn) (zXn z0 b N D cA Kx h0) args s M (6 * M) (fun q => z0 ≤ q)) 2 (bX0_keep_2 M Kn Kx h0 K2) := by
  obtain ⟨hx, hb, hml, hown, hts, -⟩ := id C
  unfold bX0_keep_2
  refine k_iload_n hx hb dX0_keep_2 rfl ?_
  refine k_aload_n hx hb dX0_keep_3 rfl ?_
  refine k_getf C (ci := 0) (k := 4) (Tf := TX0) (Nf := 7) (Cn := RX0) rfl zinX0 (by decide) rfl zfX0_24 dX0_keep_4 ?_
  refine k_icmp_ge (tgt := 48) hx hb dX0_keep_7 (by decide) ?_ ?_
  · refine k_aload_n hx hb dX0_keep_48 rfl ?_
    refine k_getf C (ci := 0) (k := 2) (Tf := TX0) (Nf := 7) (Cn := RX0) rfl zinX0 (by decide) rfl zfX0_18 dX0_keep_49 ?_
    refine k_aload_n hx hb dX0_keep_52 rfl ?_
    refine k_getf C (ci := 0) (k := 6) (Tf := TX0) (Nf := 7) (Cn := RX0) rfl zinX0 (by decide) rfl zfX0_38 dX0_keep_53 ?_
    refine k_iload_n hx hb dX0_keep_56 rfl ?_
    refine k_iast C dX0_keep_57 ?_
    refine k_aload_n hx hb dX0_keep_58 rfl ?_
    refine k_aload_n hx hb dX0_keep_59 rfl ?_
    refine k_getf C (ci := 0) (k := 6) (Tf := TX0) (Nf := 7) (Cn := RX0) rfl zinX0 (by decide) rfl zfX0_38 dX0_keep_60 ?_
    refine k_iconst hx hb dX0_keep_63 (by decide) ?_
    refine k_iadd hx hb dX0_keep_64 ?_
    refine k_bipush hx hb dX0_keep_65 (by decide) ?_
    refine k_icmp_ge (tgt := 79) hx hb dX0_keep_67 (by decide) ?_ ?_
    · refine k_iconst hx hb dX0_keep_79 (by decide) ?_
      exact sX0_keep_80 C htab hr hK2
    · refine k_aload_n hx hb dX0_keep_70 rfl ?_
      refine k_getf C (ci := 0) (k := 6) (Tf := TX0) (Nf := 7) (Cn := RX0) rfl zinX0 (by decide) rfl zfX0_38 dX0_keep_71 ?_
      refine k_iconst hx hb dX0_keep_74 (by decide) ?_
      refine k_iadd hx hb dX0_keep_75 ?_
      refine k_goto (tgt := 80) hx hb dX0_keep_76 (by decide) ?_
      exact sX0_keep_80 C htab hr hK2
  · refine k_aload_n hx hb dX0_keep_10 rfl ?_
    refine k_getf C (ci := 0) (k := 3) (Tf := TX0) (Nf := 7) (Cn := RX0) rfl zinX0 (by decide) rfl zfX0_21 dX0_keep_11 ?_
    refine k_aload_n hx hb dX0_keep_14 rfl ?_
    refine k_getf C (ci := 0) (k := 6) (Tf := TX0) (Nf := 7) (Cn := RX0) rfl zinX0 (by decide) rfl zfX0_38 dX0_keep_15 ?_
    refine k_bipush hx hb dX0_keep_18 (by decide) ?_
    refine k_imul hx hb dX0_keep_20 ?_
    refine k_iload_n hx hb dX0_keep_21 rfl ?_
    refine k_iadd hx hb dX0_keep_22 ?_
    refine k_aload_n hx hb dX0_keep_23 rfl ?_
    refine k_getf C (ci := 0) (k := 0) (Tf := TX0) (Nf := 7) (Cn := RX0) rfl zinX0 (by decide) rfl zfX0_9 dX0_keep_24 ?_
    refine k_iload_n hx hb dX0_keep_27 rfl ?_
    refine k_iald C dX0_keep_28 ?_
    refine k_iast C dX0_keep_29 ?_
    refine k_aload_n hx hb dX0_keep_30 rfl ?_
    refine k_getf C (ci := 0) (k := 0) (Tf := TX0) (Nf := 7) (Cn := RX0) rfl zinX0 (by decide) rfl zfX0_9 dX0_keep_31 ?_
    refine k_iload_n hx hb dX0_keep_34 rfl ?_
    refine k_aload_n hx hb dX0_keep_35 rfl ?_
    refine k_getf C (ci := 0) (k := 1) (Tf := TX0) (Nf := 7) (Cn := RX0) rfl zinX0 (by decide) rfl zfX0_15 dX0_keep_36 ?_
    refine k_iload_n hx hb dX0_keep_39 rfl ?_
    refine k_iald C dX0_keep_40 ?_
    refine k_iast C dX0_keep_41 ?_
    refine k_iinc hx hb dX0_keep_42 (by decide) ?_
    refine k_goto (tgt := 2) hx hb dX0_keep_45 (by decide) ?_
    exact hK2
set_option maxRecDepth 20000 in
theorem sX0_keep_0 {l : Launch} {z0 b N M : Nat} {D : va_G} {cA : Nat → ClassId} {p : Program} {e : Env} {s : State} {m : MethodId} {args : Array Value} {below : List Frame} {meth : Method} {c : Code} {Kn : Option Value → ZH → Prop} {Kx : Nat → Prop} {h0 : ZH} {K2 : ZK ZH} (C : zCx p l (zRm 1 M 19) s m args meth c cX0_keep 3 RX0 z0 D cA M) (htab : ∀ x ∈ c.exceptionTable.toList, False) (hr : meth.sig.returnType = none) (hK2 : Snd p l e (zRm 1 M 19) s m args below meth c 3 z0 b (zI z0 b N D cA s) (fun _ => (0, 0)) (vx_MQ below (zQn z0 b N D cA Kn) (zXn z0 b N D cA Kx h0) args s M (6 * M) (fun q => z0 ≤ q)) 2 K2) : Snd p l e (zRm 1 M 19) s m args below meth c 3 z0 b (zI z0 b N D cA s) (fun _ => (0, 0)) (vx_MQ below (zQn z0 b N D cA Kn) (zXn z0 b N D cA Kx h0) args s M (6 * M) (fun q => z0 ≤ q)) 0 (bX0_keep_0 M Kn Kx h0 K2) := by
  obtain ⟨hx, hb, hml, hown, hts, -⟩ := id C
  unfold bX0_keep_0
  refine k_iconst hx hb dX0_keep_0 (by decide) ?_
  refine k_istore_n hx hb dX0_keep_1 rfl ?_
  exact hK2
set_option maxRecDepth 20000 in
theorem uX0_keep {l : Launch} {z0 b N : Nat} {D : va_G} {cA : Nat → ClassId} (hlt : l.stackTraces = false) (spec : ∀ (M : Nat) (a : List Value) (h : ZH) (Kn : Option Value → ZH → Prop) (Kx : Nat → Prop), zok 2 a = true → tX0_keep a h Kn → ∀ (A : Nat → ZK ZH), (∀ ls st h', bX0_keep_2 M Kn Kx h (A 2) ls st h' → A 2 ls st h') → bX0_keep_0 M Kn Kx h (A 2) (zE 3 a) [] h) : Sem l z0 b N D cA yX0_keep cX0_keep 3 none 1 19 2 zno tX0_keep :=
  sem_of hlt (by decide +kernel) (by decide) (fun p e s m args below meth c M a h Kn Kx hok hX hN C hr htab => sX0_keep_0 C htab hr (fun _ _ _ q => q) _ _ _ (spec M a h Kn Kx hok (hN (fun _ h9 => h9)) (fun pc => AW p l e (zRm 1 M 19) s m args below meth c 3 z0 b (zI z0 b N D cA s) (fun _ => (0, 0)) (vx_MQ below (zQn z0 b N D cA Kn) (zXn z0 b N D cA Kx h) args s M (6 * M) (fun q => z0 ≤ q)) pc) (fun ls st h' hq => sX0_keep_2 C htab hr (fun _ _ _ q => q) ls st h' hq)))
set_option maxRecDepth 20000 in
theorem sX0_restoreLatest_80 {l : Launch} {z0 b N M : Nat} {D : va_G} {cA : Nat → ClassId} {p : Program} {e : Env} {s : State} {m : MethodId} {args : Array Value} {below : List Frame} {meth : Method} {c : Code} {Kn : Option Value → ZH → Prop} {Kx : Nat → Prop} {h0 : ZH} {K44 : ZK ZH} (C : zCx p l (zRm 1 M 21) s m args meth c cX0_restoreLatest 3 RX0 z0 D cA M) (htab : ∀ x ∈ c.exceptionTable.toList, False) (hr : meth.sig.returnType = (some .int)) (HX5_has : Sem l z0 b N D cA yX5_has cX5_has 2 (some .boolean) 0 0 2 zno tX5_has) (HJ6_bitCount_0f7a4 : Sem l z0 b N D cA yJ6_bitCount_0f7a4 cJ6_bitCount_0f7a4 1 (some .int) 0 0 1 zno tJ6_bitCount_0f7a4) (hK44 : Snd p l e (zRm 1 M 21) s m args below meth c 3 z0 b (zI z0 b N D cA s) (fun _ => (0, 0)) (vx_MQ below (zQn z0 b N D cA Kn) (zXn z0 b N D cA Kx h0) args s M (6 * M) (fun q => z0 ≤ q)) 44 K44) : Snd p l e (zRm 1 M 21) s m args below meth c 3 z0 b (zI z0 b N D cA s) (fun _ => (0, 0)) (vx_MQ below (zQn z0 b N D cA Kn) (zXn z0 b N D cA Kx h0) args s M (6 * M) (fun q => z0 ≤ q)) 80 (bX0_restoreLatest_80 M Kn Kx h0 K44) := by
  obtain ⟨hx, hb, hml, hown, hts, -⟩ := id C
  unfold bX0_restoreLatest_80
  refine k_iinc hx hb dX0_restoreLatest_80 (by decide) ?_
  refine k_goto (tgt := 44) hx hb dX0_restoreLatest_83 (by decide) ?_
  exact hK44
set_option maxRecDepth 20000 in
theorem sX0_restoreLatest_44 {l : Launch} {z0 b N M : Nat} {D : va_G} {cA : Nat → ClassId} {p : Program} {e : Env} {s : State} {m : MethodId} {args : Array Value} {below : List Frame} {meth : Method} {c : Code} {Kn : Option Value → ZH → Prop} {Kx : Nat → Prop} {h0 : ZH} {K44 : ZK ZH} (C : zCx p l (zRm 1 M 21) s m args meth c cX0_restoreLatest 3 RX0 z0 D cA M) (htab : ∀ x ∈ c.exceptionTable.toList, False) (hr : meth.sig.returnType = (some .int)) (HX5_has : Sem l z0 b N D cA yX5_has cX5_has 2 (some .boolean) 0 0 2 zno tX5_has) (HJ6_bitCount_0f7a4 : Sem l z0 b N D cA yJ6_bitCount_0f7a4 cJ6_bitCount_0f7a4 1 (some .int) 0 0 1 zno tJ6_bitCount_0f7a4) (hK44 : Snd p l e (zRm 1 M 21) s m args below meth c 3 z0 b (zI z0 b N D cA s) (fun _ => (0, 0)) (vx_MQ below (zQn z0 b N D cA Kn) (zXn z0 b N D cA Kx h0) args s M (6 * M) (fun q => z0 ≤ q)) 44 K44) : Snd p l e (zRm 1 M 21) s m args below meth c 3 z0 b (zI z0 b N D cA s) (fun _ => (0, 0)) (vx_MQ below (zQn z0 b N D cA Kn) (zXn z0 b N D cA Kx h0) args s M (6 * M) (fun q => z0 ≤ q)) 44 (bX0_restoreLatest_44 M Kn Kx h0 K44) := by
  obtain ⟨hx, hb, hml, hown, hts, -⟩ := id C
  unfold bX0_restoreLatest_44
  refine k_iload_n hx hb dX0_restoreLatest_44 rfl ?_
  refine k_aload_n hx hb dX0_restoreLatest_45 rfl ?_
  refine k_getf C (ci := 0) (k := 4) (Tf := TX0) (Nf := 7) (Cn := RX0) rfl zinX0 (by decide) rfl zfX0_24 dX0_restoreLatest_46 ?_
  refine k_icmp_ge (tgt := 86) hx hb dX0_restoreLatest_49 (by decide) ?_ ?_
  · refine k_iload_n hx hb dX0_restoreLatest_86 rfl ?_
    refine k_callS1 C htab HJ6_bitCount_0f7a4 zlX0_32 zsJ6_bitCount_0f7a4 ziJ6 zcJ6_bitCount_0f7a4 (by decide +kernel) ⟨Nat.le_of_ble_eq_true rfl, Nat.le_of_ble_eq_true rfl⟩ dX0_restoreLatest_87 ?_
    exact k_ret C hr dX0_restoreLatest_90
  · refine k_iload_n hx hb dX0_restoreLatest_52 rfl ?_
    refine k_iload_n hx hb dX0_restoreLatest_53 rfl ?_
    refine k_callSN2 C HX5_has (host := "TagRoot") (by decide +kernel) (fun _ _ _ h => h) zsX5_has ziX5 zcX5_has (by decide +kernel) ⟨Nat.le_of_ble_eq_true rfl, Nat.le_of_ble_eq_true rfl⟩ dX0_restoreLatest_54 ?_
    refine k_if_eq (tgt := 80) hx hb dX0_restoreLatest_57 (by decide) ?_ ?_
    · exact sX0_restoreLatest_80 C htab hr HX5_has HJ6_bitCount_0f7a4 hK44
    · refine k_aload_n hx hb dX0_restoreLatest_60 rfl ?_
      refine k_getf C (ci := 0) (k := 0) (Tf := TX0) (Nf := 7) (Cn := RX0) rfl zinX0 (by decide) rfl zfX0_9 dX0_restoreLatest_61 ?_
      refine k_iload_n hx hb dX0_restoreLatest_64 rfl ?_
      refine k_aload_n hx hb dX0_restoreLatest_65 rfl ?_
      refine k_getf C (ci := 0) (k := 3) (Tf := TX0) (Nf := 7) (Cn := RX0) rfl zinX0 (by decide) rfl zfX0_21 dX0_restoreLatest_66 ?_
      refine k_aload_n hx hb dX0_restoreLatest_69 rfl ?_
      refine k_getf C (ci := 0) (k := 6) (Tf := TX0) (Nf := 7) (Cn := RX0) rfl zinX0 (by decide) rfl zfX0_38 dX0_restoreLatest_70 ?_
      refine k_bipush hx hb dX0_restoreLatest_73 (by decide) ?_
      refine k_imul hx hb dX0_restoreLatest_75 ?_
      refine k_iload_n hx hb dX0_restoreLatest_76 rfl ?_
      refine k_iadd hx hb dX0_restoreLatest_77 ?_
      refine k_iald C dX0_restoreLatest_78 ?_
      refine k_iast C dX0_restoreLatest_79 ?_
      exact sX0_restoreLatest_80 C htab hr HX5_has HJ6_bitCount_0f7a4 hK44
set_option maxRecDepth 20000 in
theorem sX0_restoreLatest_19 {l : Launch} {z0 b N M : Nat} {D : va_G} {cA : Nat → ClassId} {p : Program} {e : Env} {s : State} {m : MethodId} {args : Array Value} {below : List Frame} {meth : Method} {c : Code} {Kn : Option Value → ZH → Prop} {Kx : Nat → Prop} {h0 : ZH} {K44 : ZK ZH} (C : zCx p l (zRm 1 M 21) s m args meth c cX0_restoreLatest 3 RX0 z0 D cA M) (htab : ∀ x ∈ c.exceptionTable.toList, False) (hr : meth.sig.returnType = (some .int)) (HX5_has : Sem l z0 b N D cA yX5_has cX5_has 2 (some .boolean) 0 0 2 zno tX5_has) (HJ6_bitCount_0f7a4 : Sem l z0 b N D cA yJ6_bitCount_0f7a4 cJ6_bitCount_0f7a4 1 (some .int) 0 0 1 zno tJ6_bitCount_0f7a4) (hK44 : Snd p l e (zRm 1 M 21) s m args below meth c 3 z0 b (zI z0 b N D cA s) (fun _ => (0, 0)) (vx_MQ below (zQn z0 b N D cA Kn) (zXn z0 b N D cA Kx h0) args s M (6 * M) (fun q => z0 ≤ q)) 44 K44) : Snd p l e (zRm 1 M 21) s m args below meth c 3 z0 b (zI z0 b N D cA s) (fun _ => (0, 0)) (vx_MQ below (zQn z0 b N D cA Kn) (zXn z0 b N D cA Kx h0) args s M (6 * M) (fun q => z0 ≤ q)) 19 (bX0_restoreLatest_19 M Kn Kx h0 K44) := by
  obtain ⟨hx, hb, hml, hown, hts, -⟩ := id C
  unfold bX0_restoreLatest_19
  refine k_puti C (ci := 0) (k := 6) (Tf := TX0) (Nf := 7) (Cn := RX0) tyX0 tyX0_ok nmX0 rfl zinX0 (by decide) rfl rfl (by decide +kernel) zfX0_38 dX0_restoreLatest_19 ?_
  refine k_aload_n hx hb dX0_restoreLatest_22 rfl ?_
  refine k_dup hx hb dX0_restoreLatest_23 ?_
  refine k_getf C (ci := 0) (k := 5) (Tf := TX0) (Nf := 7) (Cn := RX0) rfl zinX0 (by decide) rfl zfX0_41 dX0_restoreLatest_24 ?_
  refine k_iconst hx hb dX0_restoreLatest_27 (by decide) ?_
  refine k_isub hx hb dX0_restoreLatest_28 ?_
  refine k_puti C (ci := 0) (k := 5) (Tf := TX0) (Nf := 7) (Cn := RX0) tyX0 tyX0_ok nmX0 rfl zinX0 (by decide) rfl rfl (by decide +kernel) zfX0_41 dX0_restoreLatest_29 ?_
  refine k_aload_n hx hb dX0_restoreLatest_32 rfl ?_
  refine k_getf C (ci := 0) (k := 2) (Tf := TX0) (Nf := 7) (Cn := RX0) rfl zinX0 (by decide) rfl zfX0_18 dX0_restoreLatest_33 ?_
  refine k_aload_n hx hb dX0_restoreLatest_36 rfl ?_
  refine k_getf C (ci := 0) (k := 6) (Tf := TX0) (Nf := 7) (Cn := RX0) rfl zinX0 (by decide) rfl zfX0_38 dX0_restoreLatest_37 ?_
  refine k_iald C dX0_restoreLatest_40 ?_
  refine k_istore_n hx hb dX0_restoreLatest_41 rfl ?_
  refine k_iconst hx hb dX0_restoreLatest_42 (by decide) ?_
  refine k_istore_n hx hb dX0_restoreLatest_43 rfl ?_
  exact hK44
set_option maxRecDepth 20000 in
theorem sX0_restoreLatest_0 {l : Launch} {z0 b N M : Nat} {D : va_G} {cA : Nat → ClassId} {p : Program} {e : Env} {s : State} {m : MethodId} {args : Array Value} {below : List Frame} {meth : Method} {c : Code} {Kn : Option Value → ZH → Prop} {Kx : Nat → Prop} {h0 : ZH} {K44 : ZK ZH} (C : zCx p l (zRm 1 M 21) s m args meth c cX0_restoreLatest 3 RX0 z0 D cA M) (htab : ∀ x ∈ c.exceptionTable.toList, False) (hr : meth.sig.returnType = (some .int)) (HX5_has : Sem l z0 b N D cA yX5_has cX5_has 2 (some .boolean) 0 0 2 zno tX5_has) (HJ6_bitCount_0f7a4 : Sem l z0 b N D cA yJ6_bitCount_0f7a4 cJ6_bitCount_0f7a4 1 (some .int) 0 0 1 zno tJ6_bitCount_0f7a4) (hK44 : Snd p l e (zRm 1 M 21) s m args below meth c 3 z0 b (zI z0 b N D cA s) (fun _ => (0, 0)) (vx_MQ below (zQn z0 b N D cA Kn) (zXn z0 b N D cA Kx h0) args s M (6 * M) (fun q => z0 ≤ q)) 44 K44) : Snd p l e (zRm 1 M 21) s m args below meth c 3 z0 b (zI z0 b N D cA s) (fun _ => (0, 0)) (vx_MQ below (zQn z0 b N D cA Kn) (zXn z0 b N D cA Kx h0) args s M (6 * M) (fun q => z0 ≤ q)) 0 (bX0_restoreLatest_0 M Kn Kx h0 K44) := by
  obtain ⟨hx, hb, hml, hown, hts, -⟩ := id C
  unfold bX0_restoreLatest_0
  refine k_aload_n hx hb dX0_restoreLatest_0 rfl ?_
  refine k_aload_n hx hb dX0_restoreLatest_1 rfl ?_
  refine k_getf C (ci := 0) (k := 6) (Tf := TX0) (Nf := 7) (Cn := RX0) rfl zinX0 (by decide) rfl zfX0_38 dX0_restoreLatest_2 ?_
  refine k_if_le (tgt := 17) hx hb dX0_restoreLatest_5 (by decide) ?_ ?_
  · refine k_bipush hx hb dX0_restoreLatest_17 (by decide) ?_
    exact sX0_restoreLatest_19 C htab hr HX5_has HJ6_bitCount_0f7a4 hK44
  · refine k_aload_n hx hb dX0_restoreLatest_8 rfl ?_
    refine k_getf C (ci := 0) (k := 6) (Tf := TX0) (Nf := 7) (Cn := RX0) rfl zinX0 (by decide) rfl zfX0_38 dX0_restoreLatest_9 ?_
    refine k_iconst hx hb dX0_restoreLatest_12 (by decide) ?_
    refine k_isub hx hb dX0_restoreLatest_13 ?_
    refine k_goto (tgt := 19) hx hb dX0_restoreLatest_14 (by decide) ?_
    exact sX0_restoreLatest_19 C htab hr HX5_has HJ6_bitCount_0f7a4 hK44
set_option maxRecDepth 20000 in
theorem uX0_restoreLatest {l : Launch} {z0 b N : Nat} {D : va_G} {cA : Nat → ClassId} (hlt : l.stackTraces = false) (HX5_has : Sem l z0 b N D cA yX5_has cX5_has 2 (some .boolean) 0 0 2 zno tX5_has) (HJ6_bitCount_0f7a4 : Sem l z0 b N D cA yJ6_bitCount_0f7a4 cJ6_bitCount_0f7a4 1 (some .int) 0 0 1 zno tJ6_bitCount_0f7a4) (spec : ∀ (M : Nat) (a : List Value) (h : ZH) (Kn : Option Value → ZH → Prop) (Kx : Nat → Prop), zok 1 a = true → tX0_restoreLatest a h Kn → ∀ (A : Nat → ZK ZH), (∀ ls st h', bX0_restoreLatest_44 M Kn Kx h (A 44) ls st h' → A 44 ls st h') → bX0_restoreLatest_0 M Kn Kx h (A 44) (zE 3 a) [] h) : Sem l z0 b N D cA yX0_restoreLatest cX0_restoreLatest 3 (some .int) 1 21 1 zno tX0_restoreLatest :=
  sem_of hlt (by decide +kernel) (by decide) (fun p e s m args below meth c M a h Kn Kx hok hX hN C hr htab => sX0_restoreLatest_0 C htab hr HX5_has HJ6_bitCount_0f7a4 (fun _ _ _ q => q) _ _ _ (spec M a h Kn Kx hok (hN (fun _ h9 => h9)) (fun pc => AW p l e (zRm 1 M 21) s m args below meth c 3 z0 b (zI z0 b N D cA s) (fun _ => (0, 0)) (vx_MQ below (zQn z0 b N D cA Kn) (zXn z0 b N D cA Kx h) args s M (6 * M) (fun q => z0 ≤ q)) pc) (fun ls st h' hq => sX0_restoreLatest_44 C htab hr HX5_has HJ6_bitCount_0f7a4 (fun _ _ _ q => q) ls st h' hq)))
set_option maxRecDepth 20000 in
theorem sX1_append_0 {l : Launch} {z0 b N M : Nat} {D : va_G} {cA : Nat → ClassId} {p : Program} {e : Env} {s : State} {m : MethodId} {args : Array Value} {below : List Frame} {meth : Method} {c : Code} {Kn : Option Value → ZH → Prop} {Kx : Nat → Prop} {h0 : ZH} (C : zCx p l (zRm 0 M 0) s m args meth c cX1_append 2 RX1 z0 D cA M) (htab : ∀ x ∈ c.exceptionTable.toList, False) (hr : meth.sig.returnType = none) : Snd p l e (zRm 0 M 0) s m args below meth c 2 z0 b (zI z0 b N D cA s) (fun _ => (0, 0)) (vx_MQ below (zQn z0 b N D cA Kn) (zXn z0 b N D cA Kx h0) args s M (6 * M) (fun q => z0 ≤ q)) 0 (bX1_append_0 M Kn Kx h0) := by
  obtain ⟨hx, hb, hml, hown, hts, -⟩ := id C
  unfold bX1_append_0
  refine k_aload_n hx hb dX1_append_0 rfl ?_
  refine k_getf C (ci := 1) (k := 2) (Tf := TX1) (Nf := 5) (Cn := RX1) rfl zinX1 (by decide) rfl zfX1_19 dX1_append_1 ?_
  refine k_aload_n hx hb dX1_append_4 rfl ?_
  refine k_getf C (ci := 1) (k := 4) (Tf := TX1) (Nf := 5) (Cn := RX1) rfl zinX1 (by decide) rfl zfX1_22 dX1_append_5 ?_
  refine k_iload_n hx hb dX1_append_8 rfl ?_
  refine k_cast C dX1_append_9 ?_
  refine k_aload_n hx hb dX1_append_10 rfl ?_
  refine k_dup hx hb dX1_append_11 ?_
  refine k_getf C (ci := 1) (k := 4) (Tf := TX1) (Nf := 5) (Cn := RX1) rfl zinX1 (by decide) rfl zfX1_22 dX1_append_12 ?_
  refine k_iconst hx hb dX1_append_15 (by decide) ?_
  refine k_iadd hx hb dX1_append_16 ?_
  refine k_puti C (ci := 1) (k := 4) (Tf := TX1) (Nf := 5) (Cn := RX1) tyX1 tyX1_ok nmX1 rfl zinX1 (by decide) rfl rfl (by decide +kernel) zfX1_22 dX1_append_17 ?_
  exact k_vret C hr dX1_append_20
set_option maxRecDepth 20000 in
theorem uX1_append {l : Launch} {z0 b N : Nat} {D : va_G} {cA : Nat → ClassId} (hlt : l.stackTraces = false) (spec : ∀ (M : Nat) (a : List Value) (h : ZH) (Kn : Option Value → ZH → Prop) (Kx : Nat → Prop), zok 2 a = true → tX1_append a h Kn → bX1_append_0 M Kn Kx h (zE 2 a) [] h) : Sem l z0 b N D cA yX1_append cX1_append 2 none 0 0 2 zno tX1_append :=
  sem_of hlt (by decide +kernel) (by decide) (fun p e s m args below meth c M a h Kn Kx hok hX hN C hr htab => sX1_append_0 C htab hr _ _ _ (spec M a h Kn Kx hok (hN (fun _ h9 => h9))))
set_option maxRecDepth 20000 in
theorem sX1_emptyDraft_0 {l : Launch} {z0 b N M : Nat} {D : va_G} {cA : Nat → ClassId} {p : Program} {e : Env} {s : State} {m : MethodId} {args : Array Value} {below : List Frame} {meth : Method} {c : Code} {Kn : Option Value → ZH → Prop} {Kx : Nat → Prop} {h0 : ZH} (C : zCx p l (zRm 0 M 0) s m args meth c cX1_emptyDraft 1 RX1 z0 D cA M) (htab : ∀ x ∈ c.exceptionTable.toList, False) (hr : meth.sig.returnType = none) : Snd p l e (zRm 0 M 0) s m args below meth c 1 z0 b (zI z0 b N D cA s) (fun _ => (0, 0)) (vx_MQ below (zQn z0 b N D cA Kn) (zXn z0 b N D cA Kx h0) args s M (6 * M) (fun q => z0 ≤ q)) 0 (bX1_emptyDraft_0 M Kn Kx h0) := by
  obtain ⟨hx, hb, hml, hown, hts, -⟩ := id C
  unfold bX1_emptyDraft_0
  refine k_aload_n hx hb dX1_emptyDraft_0 rfl ?_
  refine k_iconst hx hb dX1_emptyDraft_1 (by decide) ?_
  refine k_puti C (ci := 1) (k := 4) (Tf := TX1) (Nf := 5) (Cn := RX1) tyX1 tyX1_ok nmX1 rfl zinX1 (by decide) rfl rfl (by decide +kernel) zfX1_22 dX1_emptyDraft_2 ?_
  exact k_vret C hr dX1_emptyDraft_5
set_option maxRecDepth 20000 in
theorem uX1_emptyDraft {l : Launch} {z0 b N : Nat} {D : va_G} {cA : Nat → ClassId} (hlt : l.stackTraces = false) (spec : ∀ (M : Nat) (a : List Value) (h : ZH) (Kn : Option Value → ZH → Prop) (Kx : Nat → Prop), zok 1 a = true → tX1_emptyDraft a h Kn → bX1_emptyDraft_0 M Kn Kx h (zE 1 a) [] h) : Sem l z0 b N D cA yX1_emptyDraft cX1_emptyDraft 1 none 0 0 1 zno tX1_emptyDraft :=
  sem_of hlt (by decide +kernel) (by decide) (fun p e s m args below meth c M a h Kn Kx hok hX hN C hr htab => sX1_emptyDraft_0 C htab hr _ _ _ (spec M a h Kn Kx hok (hN (fun _ h9 => h9))))
set_option maxRecDepth 20000 in
theorem sX1_letterAt_0 {l : Launch} {z0 b N M : Nat} {D : va_G} {cA : Nat → ClassId} {p : Program} {e : Env} {s : State} {m : MethodId} {args : Array Value} {below : List Frame} {meth : Method} {c : Code} {Kn : Option Value → ZH → Prop} {Kx : Nat → Prop} {h0 : ZH} (C : zCx p l (zRm 0 M 0) s m args meth c cX1_letterAt 3 RX1 z0 D cA M) (htab : ∀ x ∈ c.exceptionTable.toList, False) (hr : meth.sig.returnType = (some .char)) : Snd p l e (zRm 0 M 0) s m args below meth c 3 z0 b (zI z0 b N D cA s) (fun _ => (0, 0)) (vx_MQ below (zQn z0 b N D cA Kn) (zXn z0 b N D cA Kx h0) args s M (6 * M) (fun q => z0 ≤ q)) 0 (bX1_letterAt_0 M Kn Kx h0) := by
  obtain ⟨hx, hb, hml, hown, hts, -⟩ := id C
  unfold bX1_letterAt_0
  refine k_aload_n hx hb dX1_letterAt_0 rfl ?_
  refine k_getf C (ci := 1) (k := 0) (Tf := TX1) (Nf := 5) (Cn := RX1) rfl zinX1 (by decide) rfl zfX1_9 dX1_letterAt_1 ?_
  refine k_iload_n hx hb dX1_letterAt_4 rfl ?_
  refine k_bipush hx hb dX1_letterAt_5 (by decide) ?_
  refine k_imul hx hb dX1_letterAt_7 ?_
  refine k_iload_n hx hb dX1_letterAt_8 rfl ?_
  refine k_iadd hx hb dX1_letterAt_9 ?_
  refine k_cald C dX1_letterAt_10 ?_
  exact k_ret C hr dX1_letterAt_11
set_option maxRecDepth 20000 in
theorem uX1_letterAt {l : Launch} {z0 b N : Nat} {D : va_G} {cA : Nat → ClassId} (hlt : l.stackTraces = false) (spec : ∀ (M : Nat) (a : List Value) (h : ZH) (Kn : Option Value → ZH → Prop) (Kx : Nat → Prop), zok 3 a = true → tX1_letterAt a h Kn → bX1_letterAt_0 M Kn Kx h (zE 3 a) [] h) : Sem l z0 b N D cA yX1_letterAt cX1_letterAt 3 (some .char) 0 0 3 zno tX1_letterAt :=
  sem_of hlt (by decide +kernel) (by decide) (fun p e s m args below meth c M a h Kn Kx hok hX hN C hr htab => sX1_letterAt_0 C htab hr _ _ _ (spec M a h Kn Kx hok (hN (fun _ h9 => h9))))
set_option maxRecDepth 20000 in
theorem sX1_findDraft_2 {l : Launch} {z0 b N M : Nat} {D : va_G} {cA : Nat → ClassId} {p : Program} {e : Env} {s : State} {m : MethodId} {args : Array Value} {below : List Frame} {meth : Method} {c : Code} {Kn : Option Value → ZH → Prop} {Kx : Nat → Prop} {h0 : ZH} {K2 : ZK ZH} (C : zCx p l (zRm 2 M 44) s m args meth c cX1_findDraft 2 RX1 z0 D cA M) (htab : ∀ x ∈ c.exceptionTable.toList, False) (hr : meth.sig.returnType = (some .int)) (HX1_isDraft : Sem l z0 b N D cA yX1_isDraft cX1_isDraft 3 (some .boolean) 1 22 2 zno tX1_isDraft) (hK2 : Snd p l e (zRm 2 M 44) s m args below meth c 2 z0 b (zI z0 b N D cA s) (fun _ => (0, 0)) (vx_MQ below (zQn z0 b N D cA Kn) (zXn z0 b N D cA Kx h0) args s M (6 * M) (fun q => z0 ≤ q)) 2 K2) : Snd p l e (zRm 2 M 44) s m args below meth c 2 z0 b (zI z0 b N D cA s) (fun _ => (0, 0)) (vx_MQ below (zQn z0 b N D cA Kn) (zXn z0 b N D cA Kx h0) args s M (6 * M) (fun q => z0 ≤ q)) 2 (bX1_findDraft_2 M Kn Kx h0 K2) := by
  obtain ⟨hx, hb, hml, hown, hts, -⟩ := id C
  unfold bX1_findDraft_2
  refine k_iload_n hx hb dX1_findDraft_2 rfl ?_
  refine k_aload_n hx hb dX1_findDraft_3 rfl ?_
  refine k_getf C (ci := 1) (k := 3) (Tf := TX1) (Nf := 5) (Cn := RX1) rfl zinX1 (by decide) rfl zfX1_26 dX1_findDraft_4 ?_
  refine k_icmp_ge (tgt := 26) hx hb dX1_findDraft_7 (by decide) ?_ ?_
  · refine k_iconst hx hb dX1_findDraft_26 (by decide) ?_
    exact k_ret C hr dX1_findDraft_27
  · refine k_aload_n hx hb dX1_findDraft_10 rfl ?_
    refine k_iload_n hx hb dX1_findDraft_11 rfl ?_
    refine k_callV1 C htab (ci := 1) (Tf := TX1) (Nf := 5) (Cn := RX1) rfl HX1_isDraft rfl zlX1_29 zmX1_isDraft zvX1_isDraft ziX1 zcX1_isDraft (by decide +kernel) ⟨Nat.le_of_ble_eq_true rfl, Nat.le_of_ble_eq_true rfl⟩ dX1_findDraft_12 ?_
    refine k_if_eq (tgt := 20) hx hb dX1_findDraft_15 (by decide) ?_ ?_
    · refine k_iinc hx hb dX1_findDraft_20 (by decide) ?_
      refine k_goto (tgt := 2) hx hb dX1_findDraft_23 (by decide) ?_
      exact hK2
    · refine k_iload_n hx hb dX1_findDraft_18 rfl ?_
      exact k_ret C hr dX1_findDraft_19
set_option maxRecDepth 20000 in
theorem sX1_findDraft_0 {l : Launch} {z0 b N M : Nat} {D : va_G} {cA : Nat → ClassId} {p : Program} {e : Env} {s : State} {m : MethodId} {args : Array Value} {below : List Frame} {meth : Method} {c : Code} {Kn : Option Value → ZH → Prop} {Kx : Nat → Prop} {h0 : ZH} {K2 : ZK ZH} (C : zCx p l (zRm 2 M 44) s m args meth c cX1_findDraft 2 RX1 z0 D cA M) (htab : ∀ x ∈ c.exceptionTable.toList, False) (hr : meth.sig.returnType = (some .int)) (HX1_isDraft : Sem l z0 b N D cA yX1_isDraft cX1_isDraft 3 (some .boolean) 1 22 2 zno tX1_isDraft) (hK2 : Snd p l e (zRm 2 M 44) s m args below meth c 2 z0 b (zI z0 b N D cA s) (fun _ => (0, 0)) (vx_MQ below (zQn z0 b N D cA Kn) (zXn z0 b N D cA Kx h0) args s M (6 * M) (fun q => z0 ≤ q)) 2 K2) : Snd p l e (zRm 2 M 44) s m args below meth c 2 z0 b (zI z0 b N D cA s) (fun _ => (0, 0)) (vx_MQ below (zQn z0 b N D cA Kn) (zXn z0 b N D cA Kx h0) args s M (6 * M) (fun q => z0 ≤ q)) 0 (bX1_findDraft_0 M Kn Kx h0 K2) := by
  obtain ⟨hx, hb, hml, hown, hts, -⟩ := id C
  unfold bX1_findDraft_0
  refine k_iconst hx hb dX1_findDraft_0 (by decide) ?_
  refine k_istore_n hx hb dX1_findDraft_1 rfl ?_
  exact hK2
set_option maxRecDepth 20000 in
theorem uX1_findDraft {l : Launch} {z0 b N : Nat} {D : va_G} {cA : Nat → ClassId} (hlt : l.stackTraces = false) (HX1_isDraft : Sem l z0 b N D cA yX1_isDraft cX1_isDraft 3 (some .boolean) 1 22 2 zno tX1_isDraft) (spec : ∀ (M : Nat) (a : List Value) (h : ZH) (Kn : Option Value → ZH → Prop) (Kx : Nat → Prop), zok 1 a = true → tX1_findDraft a h Kn → ∀ (A : Nat → ZK ZH), (∀ ls st h', bX1_findDraft_2 M Kn Kx h (A 2) ls st h' → A 2 ls st h') → bX1_findDraft_0 M Kn Kx h (A 2) (zE 2 a) [] h) : Sem l z0 b N D cA yX1_findDraft cX1_findDraft 2 (some .int) 2 44 1 zno tX1_findDraft :=
  sem_of hlt (by decide +kernel) (by decide) (fun p e s m args below meth c M a h Kn Kx hok hX hN C hr htab => sX1_findDraft_0 C htab hr HX1_isDraft (fun _ _ _ q => q) _ _ _ (spec M a h Kn Kx hok (hN (fun _ h9 => h9)) (fun pc => AW p l e (zRm 2 M 44) s m args below meth c 2 z0 b (zI z0 b N D cA s) (fun _ => (0, 0)) (vx_MQ below (zQn z0 b N D cA Kn) (zXn z0 b N D cA Kx h) args s M (6 * M) (fun q => z0 ≤ q)) pc) (fun ls st h' hq => sX1_findDraft_2 C htab hr HX1_isDraft (fun _ _ _ q => q) ls st h' hq)))
set_option maxRecDepth 20000 in
theorem sX1_addDraft_2 {l : Launch} {z0 b N M : Nat} {D : va_G} {cA : Nat → ClassId} {p : Program} {e : Env} {s : State} {m : MethodId} {args : Array Value} {below : List Frame} {meth : Method} {c : Code} {Kn : Option Value → ZH → Prop} {Kx : Nat → Prop} {h0 : ZH} {K2 : ZK ZH} (C : zCx p l (zRm 0 M 0) s m args meth c cX1_addDraft 2 RX1 z0 D cA M) (htab : ∀ x ∈ c.exceptionTable.toList, False) (hr : meth.sig.returnType = (some .int)) (hK2 : Snd p l e (zRm 0 M 0) s m args below meth c 2 z0 b (zI z0 b N D cA s) (fun _ => (0, 0)) (vx_MQ below (zQn z0 b N D cA Kn) (zXn z0 b N D cA Kx h0) args s M (6 * M) (fun q => z0 ≤ q)) 2 K2) : Snd p l e (zRm 0 M 0) s m args below meth c 2 z0 b (zI z0 b N D cA s) (fun _ => (0, 0)) (vx_MQ below (zQn z0 b N D cA Kn) (zXn z0 b N D cA Kx h0) args s M (6 * M) (fun q => z0 ≤ q)) 2 (bX1_addDraft_2 M Kn Kx h0 K2) := by
  obtain ⟨hx, hb, hml, hown, hts, -⟩ := id C
  unfold bX1_addDraft_2
  refine k_iload_n hx hb dX1_addDraft_2 rfl ?_
  refine k_aload_n hx hb dX1_addDraft_3 rfl ?_
  refine k_getf C (ci := 1) (k := 4) (Tf := TX1) (Nf := 5) (Cn := RX1) rfl zinX1 (by decide) rfl zfX1_22 dX1_addDraft_4 ?_
  refine k_icmp_ge (tgt := 36) hx hb dX1_addDraft_7 (by decide) ?_ ?_
  · refine k_aload_n hx hb dX1_addDraft_36 rfl ?_
    refine k_getf C (ci := 1) (k := 1) (Tf := TX1) (Nf := 5) (Cn := RX1) rfl zinX1 (by decide) rfl zfX1_15 dX1_addDraft_37 ?_
    refine k_aload_n hx hb dX1_addDraft_40 rfl ?_
    refine k_getf C (ci := 1) (k := 3) (Tf := TX1) (Nf := 5) (Cn := RX1) rfl zinX1 (by decide) rfl zfX1_26 dX1_addDraft_41 ?_
    refine k_aload_n hx hb dX1_addDraft_44 rfl ?_
    refine k_getf C (ci := 1) (k := 4) (Tf := TX1) (Nf := 5) (Cn := RX1) rfl zinX1 (by decide) rfl zfX1_22 dX1_addDraft_45 ?_
    refine k_iast C dX1_addDraft_48 ?_
    refine k_aload_n hx hb dX1_addDraft_49 rfl ?_
    refine k_dup hx hb dX1_addDraft_50 ?_
    refine k_getf C (ci := 1) (k := 3) (Tf := TX1) (Nf := 5) (Cn := RX1) rfl zinX1 (by decide) rfl zfX1_26 dX1_addDraft_51 ?_
    refine k_iconst hx hb dX1_addDraft_54 (by decide) ?_
    refine k_iadd hx hb dX1_addDraft_55 ?_
    refine k_puti C (ci := 1) (k := 3) (Tf := TX1) (Nf := 5) (Cn := RX1) tyX1 tyX1_ok nmX1 rfl zinX1 (by decide) rfl rfl (by decide +kernel) zfX1_26 dX1_addDraft_56 ?_
    refine k_aload_n hx hb dX1_addDraft_59 rfl ?_
    refine k_getf C (ci := 1) (k := 3) (Tf := TX1) (Nf := 5) (Cn := RX1) rfl zinX1 (by decide) rfl zfX1_26 dX1_addDraft_60 ?_
    refine k_iconst hx hb dX1_addDraft_63 (by decide) ?_
    refine k_isub hx hb dX1_addDraft_64 ?_
    exact k_ret C hr dX1_addDraft_65
  · refine k_aload_n hx hb dX1_addDraft_10 rfl ?_
    refine k_getf C (ci := 1) (k := 0) (Tf := TX1) (Nf := 5) (Cn := RX1) rfl zinX1 (by decide) rfl zfX1_9 dX1_addDraft_11 ?_
    refine k_aload_n hx hb dX1_addDraft_14 rfl ?_
    refine k_getf C (ci := 1) (k := 3) (Tf := TX1) (Nf := 5) (Cn := RX1) rfl zinX1 (by decide) rfl zfX1_26 dX1_addDraft_15 ?_
    refine k_bipush hx hb dX1_addDraft_18 (by decide) ?_
    refine k_imul hx hb dX1_addDraft_20 ?_
    refine k_iload_n hx hb dX1_addDraft_21 rfl ?_
    refine k_iadd hx hb dX1_addDraft_22 ?_
    refine k_aload_n hx hb dX1_addDraft_23 rfl ?_
    refine k_getf C (ci := 1) (k := 2) (Tf := TX1) (Nf := 5) (Cn := RX1) rfl zinX1 (by decide) rfl zfX1_19 dX1_addDraft_24 ?_
    refine k_iload_n hx hb dX1_addDraft_27 rfl ?_
    refine k_cald C dX1_addDraft_28 ?_
    refine k_cast C dX1_addDraft_29 ?_
    refine k_iinc hx hb dX1_addDraft_30 (by decide) ?_
    refine k_goto (tgt := 2) hx hb dX1_addDraft_33 (by decide) ?_
    exact hK2
set_option maxRecDepth 20000 in
theorem sX1_addDraft_0 {l : Launch} {z0 b N M : Nat} {D : va_G} {cA : Nat → ClassId} {p : Program} {e : Env} {s : State} {m : MethodId} {args : Array Value} {below : List Frame} {meth : Method} {c : Code} {Kn : Option Value → ZH → Prop} {Kx : Nat → Prop} {h0 : ZH} {K2 : ZK ZH} (C : zCx p l (zRm 0 M 0) s m args meth c cX1_addDraft 2 RX1 z0 D cA M) (htab : ∀ x ∈ c.exceptionTable.toList, False) (hr : meth.sig.returnType = (some .int)) (hK2 : Snd p l e (zRm 0 M 0) s m args below meth c 2 z0 b (zI z0 b N D cA s) (fun _ => (0, 0)) (vx_MQ below (zQn z0 b N D cA Kn) (zXn z0 b N D cA Kx h0) args s M (6 * M) (fun q => z0 ≤ q)) 2 K2) : Snd p l e (zRm 0 M 0) s m args below meth c 2 z0 b (zI z0 b N D cA s) (fun _ => (0, 0)) (vx_MQ below (zQn z0 b N D cA Kn) (zXn z0 b N D cA Kx h0) args s M (6 * M) (fun q => z0 ≤ q)) 0 (bX1_addDraft_0 M Kn Kx h0 K2) := by
  obtain ⟨hx, hb, hml, hown, hts, -⟩ := id C
  unfold bX1_addDraft_0
  refine k_iconst hx hb dX1_addDraft_0 (by decide) ?_
  refine k_istore_n hx hb dX1_addDraft_1 rfl ?_
  exact hK2
set_option maxRecDepth 20000 in
theorem uX1_addDraft {l : Launch} {z0 b N : Nat} {D : va_G} {cA : Nat → ClassId} (hlt : l.stackTraces = false) (spec : ∀ (M : Nat) (a : List Value) (h : ZH) (Kn : Option Value → ZH → Prop) (Kx : Nat → Prop), zok 1 a = true → tX1_addDraft a h Kn → ∀ (A : Nat → ZK ZH), (∀ ls st h', bX1_addDraft_2 M Kn Kx h (A 2) ls st h' → A 2 ls st h') → bX1_addDraft_0 M Kn Kx h (A 2) (zE 2 a) [] h) : Sem l z0 b N D cA yX1_addDraft cX1_addDraft 2 (some .int) 0 0 1 zno tX1_addDraft :=
  sem_of hlt (by decide +kernel) (by decide) (fun p e s m args below meth c M a h Kn Kx hok hX hN C hr htab => sX1_addDraft_0 C htab hr (fun _ _ _ q => q) _ _ _ (spec M a h Kn Kx hok (hN (fun _ h9 => h9)) (fun pc => AW p l e (zRm 0 M 0) s m args below meth c 2 z0 b (zI z0 b N D cA s) (fun _ => (0, 0)) (vx_MQ below (zQn z0 b N D cA Kn) (zXn z0 b N D cA Kx h) args s M (6 * M) (fun q => z0 ≤ q)) pc) (fun ls st h' hq => sX1_addDraft_2 C htab hr (fun _ _ _ q => q) ls st h' hq)))
set_option maxRecDepth 20000 in
theorem sX1_isDraft_17 {l : Launch} {z0 b N M : Nat} {D : va_G} {cA : Nat → ClassId} {p : Program} {e : Env} {s : State} {m : MethodId} {args : Array Value} {below : List Frame} {meth : Method} {c : Code} {Kn : Option Value → ZH → Prop} {Kx : Nat → Prop} {h0 : ZH} {K17 : ZK ZH} (C : zCx p l (zRm 1 M 22) s m args meth c cX1_isDraft 3 RX1 z0 D cA M) (htab : ∀ x ∈ c.exceptionTable.toList, False) (hr : meth.sig.returnType = (some .boolean)) (HX1_letterAt : Sem l z0 b N D cA yX1_letterAt cX1_letterAt 3 (some .char) 0 0 3 zno tX1_letterAt) (HX1_plain : Sem l z0 b N D cA yX1_plain cX1_plain 1 (some .char) 0 0 1 zno tX1_plain) (hK17 : Snd p l e (zRm 1 M 22) s m args below meth c 3 z0 b (zI z0 b N D cA s) (fun _ => (0, 0)) (vx_MQ below (zQn z0 b N D cA Kn) (zXn z0 b N D cA Kx h0) args s M (6 * M) (fun q => z0 ≤ q)) 17 K17) : Snd p l e (zRm 1 M 22) s m args below meth c 3 z0 b (zI z0 b N D cA s) (fun _ => (0, 0)) (vx_MQ below (zQn z0 b N D cA Kn) (zXn z0 b N D cA Kx h0) args s M (6 * M) (fun q => z0 ≤ q)) 17 (bX1_isDraft_17 M Kn Kx h0 K17) := by
  obtain ⟨hx, hb, hml, hown, hts, -⟩ := id C
  unfold bX1_isDraft_17
  refine k_iload_n hx hb dX1_isDraft_17 rfl ?_
  refine k_aload_n hx hb dX1_isDraft_18 rfl ?_
  refine k_getf C (ci := 1) (k := 4) (Tf := TX1) (Nf := 5) (Cn := RX1) rfl zinX1 (by decide) rfl zfX1_22 dX1_isDraft_19 ?_
  refine k_icmp_ge (tgt := 54) hx hb dX1_isDraft_22 (by decide) ?_ ?_
  · refine k_iconst hx hb dX1_isDraft_54 (by decide) ?_
    exact k_ret C hr dX1_isDraft_55
  · refine k_aload_n hx hb dX1_isDraft_25 rfl ?_
    refine k_iload_n hx hb dX1_isDraft_26 rfl ?_
    refine k_iload_n hx hb dX1_isDraft_27 rfl ?_
    refine k_callV2 C htab (ci := 1) (Tf := TX1) (Nf := 5) (Cn := RX1) rfl HX1_letterAt rfl zlX1_33 zmX1_letterAt zvX1_letterAt ziX1 zcX1_letterAt (by decide +kernel) ⟨Nat.le_of_ble_eq_true rfl, Nat.le_of_ble_eq_true rfl⟩ dX1_isDraft_28 ?_
    refine k_callS1 C htab HX1_plain zlX1_37 zsX1_plain ziX1 zcX1_plain (by decide +kernel) ⟨Nat.le_of_ble_eq_true rfl, Nat.le_of_ble_eq_true rfl⟩ dX1_isDraft_31 ?_
    refine k_aload_n hx hb dX1_isDraft_34 rfl ?_
    refine k_getf C (ci := 1) (k := 2) (Tf := TX1) (Nf := 5) (Cn := RX1) rfl zinX1 (by decide) rfl zfX1_19 dX1_isDraft_35 ?_
    refine k_iload_n hx hb dX1_isDraft_38 rfl ?_
    refine k_cald C dX1_isDraft_39 ?_
    refine k_callS1 C htab HX1_plain zlX1_37 zsX1_plain ziX1 zcX1_plain (by decide +kernel) ⟨Nat.le_of_ble_eq_true rfl, Nat.le_of_ble_eq_true rfl⟩ dX1_isDraft_40 ?_
    refine k_icmp_eq (tgt := 48) hx hb dX1_isDraft_43 (by decide) ?_ ?_
    · refine k_iinc hx hb dX1_isDraft_48 (by decide) ?_
      refine k_goto (tgt := 17) hx hb dX1_isDraft_51 (by decide) ?_
      exact hK17
    · refine k_iconst hx hb dX1_isDraft_46 (by decide) ?_
      exact k_ret C hr dX1_isDraft_47
set_option maxRecDepth 20000 in
theorem sX1_isDraft_0 {l : Launch} {z0 b N M : Nat} {D : va_G} {cA : Nat → ClassId} {p : Program} {e : Env} {s : State} {m : MethodId} {args : Array Value} {below : List Frame} {meth : Method} {c : Code} {Kn : Option Value → ZH → Prop} {Kx : Nat → Prop} {h0 : ZH} {K17 : ZK ZH} (C : zCx p l (zRm 1 M 22) s m args meth c cX1_isDraft 3 RX1 z0 D cA M) (htab : ∀ x ∈ c.exceptionTable.toList, False) (hr : meth.sig.returnType = (some .boolean)) (HX1_letterAt : Sem l z0 b N D cA yX1_letterAt cX1_letterAt 3 (some .char) 0 0 3 zno tX1_letterAt) (HX1_plain : Sem l z0 b N D cA yX1_plain cX1_plain 1 (some .char) 0 0 1 zno tX1_plain) (hK17 : Snd p l e (zRm 1 M 22) s m args below meth c 3 z0 b (zI z0 b N D cA s) (fun _ => (0, 0)) (vx_MQ below (zQn z0 b N D cA Kn) (zXn z0 b N D cA Kx h0) args s M (6 * M) (fun q => z0 ≤ q)) 17 K17) : Snd p l e (zRm 1 M 22) s m args below meth c 3 z0 b (zI z0 b N D cA s) (fun _ => (0, 0)) (vx_MQ below (zQn z0 b N D cA Kn) (zXn z0 b N D cA Kx h0) args s M (6 * M) (fun q => z0 ≤ q)) 0 (bX1_isDraft_0 M Kn Kx h0 K17) := by
  obtain ⟨hx, hb, hml, hown, hts, -⟩ := id C
  unfold bX1_isDraft_0
  refine k_aload_n hx hb dX1_isDraft_0 rfl ?_
  refine k_getf C (ci := 1) (k := 1) (Tf := TX1) (Nf := 5) (Cn := RX1) rfl zinX1 (by decide) rfl zfX1_15 dX1_isDraft_1 ?_
  refine k_iload_n hx hb dX1_isDraft_4 rfl ?_
  refine k_iald C dX1_isDraft_5 ?_
  refine k_aload_n hx hb dX1_isDraft_6 rfl ?_
  refine k_getf C (ci := 1) (k := 4) (Tf := TX1) (Nf := 5) (Cn := RX1) rfl zinX1 (by decide) rfl zfX1_22 dX1_isDraft_7 ?_
  refine k_icmp_eq (tgt := 15) hx hb dX1_isDraft_10 (by decide) ?_ ?_
  · refine k_iconst hx hb dX1_isDraft_15 (by decide) ?_
    refine k_istore_n hx hb dX1_isDraft_16 rfl ?_
    exact hK17
  · refine k_iconst hx hb dX1_isDraft_13 (by decide) ?_
    exact k_ret C hr dX1_isDraft_14
set_option maxRecDepth 20000 in
theorem uX1_isDraft {l : Launch} {z0 b N : Nat} {D : va_G} {cA : Nat → ClassId} (hlt : l.stackTraces = false) (HX1_letterAt : Sem l z0 b N D cA yX1_letterAt cX1_letterAt 3 (some .char) 0 0 3 zno tX1_letterAt) (HX1_plain : Sem l z0 b N D cA yX1_plain cX1_plain 1 (some .char) 0 0 1 zno tX1_plain) (spec : ∀ (M : Nat) (a : List Value) (h : ZH) (Kn : Option Value → ZH → Prop) (Kx : Nat → Prop), zok 2 a = true → tX1_isDraft a h Kn → ∀ (A : Nat → ZK ZH), (∀ ls st h', bX1_isDraft_17 M Kn Kx h (A 17) ls st h' → A 17 ls st h') → bX1_isDraft_0 M Kn Kx h (A 17) (zE 3 a) [] h) : Sem l z0 b N D cA yX1_isDraft cX1_isDraft 3 (some .boolean) 1 22 2 zno tX1_isDraft :=
  sem_of hlt (by decide +kernel) (by decide) (fun p e s m args below meth c M a h Kn Kx hok hX hN C hr htab => sX1_isDraft_0 C htab hr HX1_letterAt HX1_plain (fun _ _ _ q => q) _ _ _ (spec M a h Kn Kx hok (hN (fun _ h9 => h9)) (fun pc => AW p l e (zRm 1 M 22) s m args below meth c 3 z0 b (zI z0 b N D cA s) (fun _ => (0, 0)) (vx_MQ below (zQn z0 b N D cA Kn) (zXn z0 b N D cA Kx h) args s M (6 * M) (fun q => z0 ≤ q)) pc) (fun ls st h' hq => sX1_isDraft_17 C htab hr HX1_letterAt HX1_plain (fun _ _ _ q => q) ls st h' hq)))
set_option maxRecDepth 20000 in
theorem sX1_plain_33 {l : Launch} {z0 b N M : Nat} {D : va_G} {cA : Nat → ClassId} {p : Program} {e : Env} {s : State} {m : MethodId} {args : Array Value} {below : List Frame} {meth : Method} {c : Code} {Kn : Option Value → ZH → Prop} {Kx : Nat → Prop} {h0 : ZH} (C : zCx p l (zRm 0 M 0) s m args meth c cX1_plain 1 RX1 z0 D cA M) (htab : ∀ x ∈ c.exceptionTable.toList, False) (hr : meth.sig.returnType = (some .char)) : Snd p l e (zRm 0 M 0) s m args below meth c 1 z0 b (zI z0 b N D cA s) (fun _ => (0, 0)) (vx_MQ below (zQn z0 b N D cA Kn) (zXn z0 b N D cA Kx h0) args s M (6 * M) (fun q => z0 ≤ q)) 33 (bX1_plain_33 M Kn Kx h0) := by
  obtain ⟨hx, hb, hml, hown, hts, -⟩ := id C
  unfold bX1_plain_33
  exact k_ret C hr dX1_plain_33
set_option maxRecDepth 20000 in
theorem sX1_plain_21 {l : Launch} {z0 b N M : Nat} {D : va_G} {cA : Nat → ClassId} {p : Program} {e : Env} {s : State} {m : MethodId} {args : Array Value} {below : List Frame} {meth : Method} {c : Code} {Kn : Option Value → ZH → Prop} {Kx : Nat → Prop} {h0 : ZH} (C : zCx p l (zRm 0 M 0) s m args meth c cX1_plain 1 RX1 z0 D cA M) (htab : ∀ x ∈ c.exceptionTable.toList, False) (hr : meth.sig.returnType = (some .char)) : Snd p l e (zRm 0 M 0) s m args below meth c 1 z0 b (zI z0 b N D cA s) (fun _ => (0, 0)) (vx_MQ below (zQn z0 b N D cA Kn) (zXn z0 b N D cA Kx h0) args s M (6 * M) (fun q => z0 ≤ q)) 21 (bX1_plain_21 M Kn Kx h0) := by
  obtain ⟨hx, hb, hml, hown, hts, -⟩ := id C
  unfold bX1_plain_21
  refine k_iload_n hx hb dX1_plain_21 rfl ?_
  refine k_bipush hx hb dX1_plain_22 (by decide) ?_
  refine k_icmp_ne (tgt := 32) hx hb dX1_plain_24 (by decide) ?_ ?_
  · refine k_iload_n hx hb dX1_plain_32 rfl ?_
    exact sX1_plain_33 C htab hr
  · refine k_bipush hx hb dX1_plain_27 (by decide) ?_
    refine k_goto (tgt := 33) hx hb dX1_plain_29 (by decide) ?_
    exact sX1_plain_33 C htab hr
set_option maxRecDepth 20000 in
theorem sX1_plain_0 {l : Launch} {z0 b N M : Nat} {D : va_G} {cA : Nat → ClassId} {p : Program} {e : Env} {s : State} {m : MethodId} {args : Array Value} {below : List Frame} {meth : Method} {c : Code} {Kn : Option Value → ZH → Prop} {Kx : Nat → Prop} {h0 : ZH} (C : zCx p l (zRm 0 M 0) s m args meth c cX1_plain 1 RX1 z0 D cA M) (htab : ∀ x ∈ c.exceptionTable.toList, False) (hr : meth.sig.returnType = (some .char)) : Snd p l e (zRm 0 M 0) s m args below meth c 1 z0 b (zI z0 b N D cA s) (fun _ => (0, 0)) (vx_MQ below (zQn z0 b N D cA Kn) (zXn z0 b N D cA Kx h0) args s M (6 * M) (fun q => z0 ≤ q)) 0 (bX1_plain_0 M Kn Kx h0) := by
  obtain ⟨hx, hb, hml, hown, hts, -⟩ := id C
  unfold bX1_plain_0
  refine k_iload_n hx hb dX1_plain_0 rfl ?_
  refine k_bipush hx hb dX1_plain_1 (by decide) ?_
  refine k_icmp_lt (tgt := 21) hx hb dX1_plain_3 (by decide) ?_ ?_
  · exact sX1_plain_21 C htab hr
  · refine k_iload_n hx hb dX1_plain_6 rfl ?_
    refine k_bipush hx hb dX1_plain_7 (by decide) ?_
    refine k_icmp_gt (tgt := 21) hx hb dX1_plain_9 (by decide) ?_ ?_
    · exact sX1_plain_21 C htab hr
    · refine k_iload_n hx hb dX1_plain_12 rfl ?_
      refine k_bipush hx hb dX1_plain_13 (by decide) ?_
      refine k_isub hx hb dX1_plain_15 ?_
      refine k_bipush hx hb dX1_plain_16 (by decide) ?_
      refine k_iadd hx hb dX1_plain_18 ?_
      refine k_i2c hx hb dX1_plain_19 ?_
      exact k_ret C hr dX1_plain_20
set_option maxRecDepth 20000 in
theorem uX1_plain {l : Launch} {z0 b N : Nat} {D : va_G} {cA : Nat → ClassId} (hlt : l.stackTraces = false) (spec : ∀ (M : Nat) (a : List Value) (h : ZH) (Kn : Option Value → ZH → Prop) (Kx : Nat → Prop), zok 1 a = true → tX1_plain a h Kn → bX1_plain_0 M Kn Kx h (zE 1 a) [] h) : Sem l z0 b N D cA yX1_plain cX1_plain 1 (some .char) 0 0 1 zno tX1_plain :=
  sem_of hlt (by decide +kernel) (by decide) (fun p e s m args below meth c M a h Kn Kx hok hX hN C hr htab => sX1_plain_0 C htab hr _ _ _ (spec M a h Kn Kx hok (hN (fun _ h9 => h9))))
set_option maxRecDepth 20000 in
theorem sX2_add_0 {l : Launch} {z0 b N M : Nat} {D : va_G} {cA : Nat → ClassId} {p : Program} {e : Env} {s : State} {m : MethodId} {args : Array Value} {below : List Frame} {meth : Method} {c : Code} {Kn : Option Value → ZH → Prop} {Kx : Nat → Prop} {h0 : ZH} (C : zCx p l (zRm 0 M 0) s m args meth c cX2_add 4 RX2 z0 D cA M) (htab : ∀ x ∈ c.exceptionTable.toList, False) (hr : meth.sig.returnType = (some .int)) : Snd p l e (zRm 0 M 0) s m args below meth c 4 z0 b (zI z0 b N D cA s) (fun _ => (0, 0)) (vx_MQ below (zQn z0 b N D cA Kn) (zXn z0 b N D cA Kx h0) args s M (6 * M) (fun q => z0 ≤ q)) 0 (bX2_add_0 M Kn Kx h0) := by
  obtain ⟨hx, hb, hml, hown, hts, -⟩ := id C
  unfold bX2_add_0
  refine k_aload_n hx hb dX2_add_0 rfl ?_
  refine k_getf C (ci := 2) (k := 0) (Tf := TX2) (Nf := 7) (Cn := RX2) rfl zinX2 (by decide) rfl zfX2_9 dX2_add_1 ?_
  refine k_aload_n hx hb dX2_add_4 rfl ?_
  refine k_getf C (ci := 2) (k := 6) (Tf := TX2) (Nf := 7) (Cn := RX2) rfl zinX2 (by decide) rfl zfX2_30 dX2_add_5 ?_
  refine k_iload_n hx hb dX2_add_8 rfl ?_
  refine k_iast C dX2_add_9 ?_
  refine k_aload_n hx hb dX2_add_10 rfl ?_
  refine k_getf C (ci := 2) (k := 1) (Tf := TX2) (Nf := 7) (Cn := RX2) rfl zinX2 (by decide) rfl zfX2_15 dX2_add_11 ?_
  refine k_aload_n hx hb dX2_add_14 rfl ?_
  refine k_getf C (ci := 2) (k := 6) (Tf := TX2) (Nf := 7) (Cn := RX2) rfl zinX2 (by decide) rfl zfX2_30 dX2_add_15 ?_
  refine k_iload_n hx hb dX2_add_18 rfl ?_
  refine k_iast C dX2_add_19 ?_
  refine k_aload_n hx hb dX2_add_20 rfl ?_
  refine k_getf C (ci := 2) (k := 2) (Tf := TX2) (Nf := 7) (Cn := RX2) rfl zinX2 (by decide) rfl zfX2_18 dX2_add_21 ?_
  refine k_aload_n hx hb dX2_add_24 rfl ?_
  refine k_getf C (ci := 2) (k := 6) (Tf := TX2) (Nf := 7) (Cn := RX2) rfl zinX2 (by decide) rfl zfX2_30 dX2_add_25 ?_
  refine k_iload_n hx hb dX2_add_28 rfl ?_
  refine k_iast C dX2_add_29 ?_
  refine k_aload_n hx hb dX2_add_30 rfl ?_
  refine k_getf C (ci := 2) (k := 3) (Tf := TX2) (Nf := 7) (Cn := RX2) rfl zinX2 (by decide) rfl zfX2_21 dX2_add_31 ?_
  refine k_aload_n hx hb dX2_add_34 rfl ?_
  refine k_getf C (ci := 2) (k := 6) (Tf := TX2) (Nf := 7) (Cn := RX2) rfl zinX2 (by decide) rfl zfX2_30 dX2_add_35 ?_
  refine k_iconst hx hb dX2_add_38 (by decide) ?_
  refine k_iast C dX2_add_39 ?_
  refine k_aload_n hx hb dX2_add_40 rfl ?_
  refine k_dup hx hb dX2_add_41 ?_
  refine k_getf C (ci := 2) (k := 6) (Tf := TX2) (Nf := 7) (Cn := RX2) rfl zinX2 (by decide) rfl zfX2_30 dX2_add_42 ?_
  refine k_iconst hx hb dX2_add_45 (by decide) ?_
  refine k_iadd hx hb dX2_add_46 ?_
  refine k_puti C (ci := 2) (k := 6) (Tf := TX2) (Nf := 7) (Cn := RX2) tyX2 tyX2_ok nmX2 rfl zinX2 (by decide) rfl rfl (by decide +kernel) zfX2_30 dX2_add_47 ?_
  refine k_aload_n hx hb dX2_add_50 rfl ?_
  refine k_getf C (ci := 2) (k := 6) (Tf := TX2) (Nf := 7) (Cn := RX2) rfl zinX2 (by decide) rfl zfX2_30 dX2_add_51 ?_
  refine k_iconst hx hb dX2_add_54 (by decide) ?_
  refine k_isub hx hb dX2_add_55 ?_
  exact k_ret C hr dX2_add_56
set_option maxRecDepth 20000 in
theorem uX2_add {l : Launch} {z0 b N : Nat} {D : va_G} {cA : Nat → ClassId} (hlt : l.stackTraces = false) (spec : ∀ (M : Nat) (a : List Value) (h : ZH) (Kn : Option Value → ZH → Prop) (Kx : Nat → Prop), zok 4 a = true → tX2_add a h Kn → bX2_add_0 M Kn Kx h (zE 4 a) [] h) : Sem l z0 b N D cA yX2_add cX2_add 4 (some .int) 0 0 4 zno tX2_add :=
  sem_of hlt (by decide +kernel) (by decide) (fun p e s m args below meth c M a h Kn Kx hok hX hN C hr htab => sX2_add_0 C htab hr _ _ _ (spec M a h Kn Kx hok (hN (fun _ h9 => h9))))
set_option maxRecDepth 20000 in
theorem sX2_setVote_60 {l : Launch} {z0 b N M : Nat} {D : va_G} {cA : Nat → ClassId} {p : Program} {e : Env} {s : State} {m : MethodId} {args : Array Value} {below : List Frame} {meth : Method} {c : Code} {Kn : Option Value → ZH → Prop} {Kx : Nat → Prop} {h0 : ZH} (C : zCx p l (zRm 0 M 0) s m args meth c cX2_setVote 5 RX2 z0 D cA M) (htab : ∀ x ∈ c.exceptionTable.toList, False) (hr : meth.sig.returnType = none) : Snd p l e (zRm 0 M 0) s m args below meth c 5 z0 b (zI z0 b N D cA s) (fun _ => (0, 0)) (vx_MQ below (zQn z0 b N D cA Kn) (zXn z0 b N D cA Kx h0) args s M (6 * M) (fun q => z0 ≤ q)) 60 (bX2_setVote_60 M Kn Kx h0) := by
  obtain ⟨hx, hb, hml, hown, hts, -⟩ := id C
  unfold bX2_setVote_60
  exact k_vret C hr dX2_setVote_60
set_option maxRecDepth 20000 in
theorem sX2_setVote_0 {l : Launch} {z0 b N M : Nat} {D : va_G} {cA : Nat → ClassId} {p : Program} {e : Env} {s : State} {m : MethodId} {args : Array Value} {below : List Frame} {meth : Method} {c : Code} {Kn : Option Value → ZH → Prop} {Kx : Nat → Prop} {h0 : ZH} (C : zCx p l (zRm 0 M 0) s m args meth c cX2_setVote 5 RX2 z0 D cA M) (htab : ∀ x ∈ c.exceptionTable.toList, False) (hr : meth.sig.returnType = none) : Snd p l e (zRm 0 M 0) s m args below meth c 5 z0 b (zI z0 b N D cA s) (fun _ => (0, 0)) (vx_MQ below (zQn z0 b N D cA Kn) (zXn z0 b N D cA Kx h0) args s M (6 * M) (fun q => z0 ≤ q)) 0 (bX2_setVote_0 M Kn Kx h0) := by
  obtain ⟨hx, hb, hml, hown, hts, -⟩ := id C
  unfold bX2_setVote_0
  refine k_iconst hx hb dX2_setVote_0 (by decide) ?_
  refine k_iload_n hx hb dX2_setVote_1 rfl ?_
  refine k_ishl hx hb dX2_setVote_2 ?_
  refine k_istore hx hb dX2_setVote_3 ?_
  refine k_iload_n hx hb dX2_setVote_5 rfl ?_
  refine k_if_eq (tgt := 36) hx hb dX2_setVote_6 (by decide) ?_ ?_
  · refine k_aload_n hx hb dX2_setVote_36 rfl ?_
    refine k_getf C (ci := 2) (k := 4) (Tf := TX2) (Nf := 7) (Cn := RX2) rfl zinX2 (by decide) rfl zfX2_24 dX2_setVote_37 ?_
    refine k_iload_n hx hb dX2_setVote_40 rfl ?_
    refine k_dup2 hx hb dX2_setVote_41 ?_
    refine k_iald C dX2_setVote_42 ?_
    refine k_iload hx hb dX2_setVote_43 ?_
    refine k_iconst hx hb dX2_setVote_45 (by decide) ?_
    refine k_ixor hx hb dX2_setVote_46 ?_
    refine k_iand hx hb dX2_setVote_47 ?_
    refine k_iast C dX2_setVote_48 ?_
    refine k_aload_n hx hb dX2_setVote_49 rfl ?_
    refine k_getf C (ci := 2) (k := 5) (Tf := TX2) (Nf := 7) (Cn := RX2) rfl zinX2 (by decide) rfl zfX2_27 dX2_setVote_50 ?_
    refine k_iload_n hx hb dX2_setVote_53 rfl ?_
    refine k_dup2 hx hb dX2_setVote_54 ?_
    refine k_iald C dX2_setVote_55 ?_
    refine k_iload hx hb dX2_setVote_56 ?_
    refine k_ior hx hb dX2_setVote_58 ?_
    refine k_iast C dX2_setVote_59 ?_
    exact sX2_setVote_60 C htab hr
  · refine k_aload_n hx hb dX2_setVote_9 rfl ?_
    refine k_getf C (ci := 2) (k := 4) (Tf := TX2) (Nf := 7) (Cn := RX2) rfl zinX2 (by decide) rfl zfX2_24 dX2_setVote_10 ?_
    refine k_iload_n hx hb dX2_setVote_13 rfl ?_
    refine k_dup2 hx hb dX2_setVote_14 ?_
    refine k_iald C dX2_setVote_15 ?_
    refine k_iload hx hb dX2_setVote_16 ?_
    refine k_ior hx hb dX2_setVote_18 ?_
    refine k_iast C dX2_setVote_19 ?_
    refine k_aload_n hx hb dX2_setVote_20 rfl ?_
    refine k_getf C (ci := 2) (k := 5) (Tf := TX2) (Nf := 7) (Cn := RX2) rfl zinX2 (by decide) rfl zfX2_27 dX2_setVote_21 ?_
    refine k_iload_n hx hb dX2_setVote_24 rfl ?_
    refine k_dup2 hx hb dX2_setVote_25 ?_
    refine k_iald C dX2_setVote_26 ?_
    refine k_iload hx hb dX2_setVote_27 ?_
    refine k_iconst hx hb dX2_setVote_29 (by decide) ?_
    refine k_ixor hx hb dX2_setVote_30 ?_
    refine k_iand hx hb dX2_setVote_31 ?_
    refine k_iast C dX2_setVote_32 ?_
    refine k_goto (tgt := 60) hx hb dX2_setVote_33 (by decide) ?_
    exact sX2_setVote_60 C htab hr
set_option maxRecDepth 20000 in
theorem uX2_setVote {l : Launch} {z0 b N : Nat} {D : va_G} {cA : Nat → ClassId} (hlt : l.stackTraces = false) (spec : ∀ (M : Nat) (a : List Value) (h : ZH) (Kn : Option Value → ZH → Prop) (Kx : Nat → Prop), zok 4 a = true → tX2_setVote a h Kn → bX2_setVote_0 M Kn Kx h (zE 5 a) [] h) : Sem l z0 b N D cA yX2_setVote cX2_setVote 5 none 0 0 4 zno tX2_setVote :=
  sem_of hlt (by decide +kernel) (by decide) (fun p e s m args below meth c M a h Kn Kx hok hX hN C hr htab => sX2_setVote_0 C htab hr _ _ _ (spec M a h Kn Kx hok (hN (fun _ h9 => h9))))
set_option maxRecDepth 20000 in
theorem sX2_leadOf_0 {l : Launch} {z0 b N M : Nat} {D : va_G} {cA : Nat → ClassId} {p : Program} {e : Env} {s : State} {m : MethodId} {args : Array Value} {below : List Frame} {meth : Method} {c : Code} {Kn : Option Value → ZH → Prop} {Kx : Nat → Prop} {h0 : ZH} (C : zCx p l (zRm 1 M 20) s m args meth c cX2_leadOf 2 RX2 z0 D cA M) (htab : ∀ x ∈ c.exceptionTable.toList, False) (hr : meth.sig.returnType = (some .int)) (HJ6_bitCount_0f7a4 : Sem l z0 b N D cA yJ6_bitCount_0f7a4 cJ6_bitCount_0f7a4 1 (some .int) 0 0 1 zno tJ6_bitCount_0f7a4) : Snd p l e (zRm 1 M 20) s m args below meth c 2 z0 b (zI z0 b N D cA s) (fun _ => (0, 0)) (vx_MQ below (zQn z0 b N D cA Kn) (zXn z0 b N D cA Kx h0) args s M (6 * M) (fun q => z0 ≤ q)) 0 (bX2_leadOf_0 M Kn Kx h0) := by
  obtain ⟨hx, hb, hml, hown, hts, -⟩ := id C
  unfold bX2_leadOf_0
  refine k_aload_n hx hb dX2_leadOf_0 rfl ?_
  refine k_getf C (ci := 2) (k := 4) (Tf := TX2) (Nf := 7) (Cn := RX2) rfl zinX2 (by decide) rfl zfX2_24 dX2_leadOf_1 ?_
  refine k_iload_n hx hb dX2_leadOf_4 rfl ?_
  refine k_iald C dX2_leadOf_5 ?_
  refine k_callS1 C htab HJ6_bitCount_0f7a4 zlX2_34 zsJ6_bitCount_0f7a4 ziJ6 zcJ6_bitCount_0f7a4 (by decide +kernel) ⟨Nat.le_of_ble_eq_true rfl, Nat.le_of_ble_eq_true rfl⟩ dX2_leadOf_6 ?_
  refine k_aload_n hx hb dX2_leadOf_9 rfl ?_
  refine k_getf C (ci := 2) (k := 5) (Tf := TX2) (Nf := 7) (Cn := RX2) rfl zinX2 (by decide) rfl zfX2_27 dX2_leadOf_10 ?_
  refine k_iload_n hx hb dX2_leadOf_13 rfl ?_
  refine k_iald C dX2_leadOf_14 ?_
  refine k_callS1 C htab HJ6_bitCount_0f7a4 zlX2_34 zsJ6_bitCount_0f7a4 ziJ6 zcJ6_bitCount_0f7a4 (by decide +kernel) ⟨Nat.le_of_ble_eq_true rfl, Nat.le_of_ble_eq_true rfl⟩ dX2_leadOf_15 ?_
  refine k_isub hx hb dX2_leadOf_18 ?_
  exact k_ret C hr dX2_leadOf_19
set_option maxRecDepth 20000 in
theorem uX2_leadOf {l : Launch} {z0 b N : Nat} {D : va_G} {cA : Nat → ClassId} (hlt : l.stackTraces = false) (HJ6_bitCount_0f7a4 : Sem l z0 b N D cA yJ6_bitCount_0f7a4 cJ6_bitCount_0f7a4 1 (some .int) 0 0 1 zno tJ6_bitCount_0f7a4) (spec : ∀ (M : Nat) (a : List Value) (h : ZH) (Kn : Option Value → ZH → Prop) (Kx : Nat → Prop), zok 2 a = true → tX2_leadOf a h Kn → bX2_leadOf_0 M Kn Kx h (zE 2 a) [] h) : Sem l z0 b N D cA yX2_leadOf cX2_leadOf 2 (some .int) 1 20 2 zno tX2_leadOf :=
  sem_of hlt (by decide +kernel) (by decide) (fun p e s m args below meth c M a h Kn Kx hok hX hN C hr htab => sX2_leadOf_0 C htab hr HJ6_bitCount_0f7a4 _ _ _ (spec M a h Kn Kx hok (hN (fun _ h9 => h9))))
set_option maxRecDepth 20000 in
theorem sX2_isAllowedBy_0 {l : Launch} {z0 b N M : Nat} {D : va_G} {cA : Nat → ClassId} {p : Program} {e : Env} {s : State} {m : MethodId} {args : Array Value} {below : List Frame} {meth : Method} {c : Code} {Kn : Option Value → ZH → Prop} {Kx : Nat → Prop} {h0 : ZH} (C : zCx p l (zRm 3 M 70) s m args meth c cX2_isAllowedBy 3 RX2 z0 D cA M) (htab : ∀ x ∈ c.exceptionTable.toList, False) (hr : meth.sig.returnType = (some .boolean)) (HX4_allows : Sem l z0 b N D cA yX4_allows cX4_allows 4 (some .boolean) 2 47 4 zno tX4_allows) : Snd p l e (zRm 3 M 70) s m args below meth c 3 z0 b (zI z0 b N D cA s) (fun _ => (0, 0)) (vx_MQ below (zQn z0 b N D cA Kn) (zXn z0 b N D cA Kx h0) args s M (6 * M) (fun q => z0 ≤ q)) 0 (bX2_isAllowedBy_0 M Kn Kx h0) := by
  obtain ⟨hx, hb, hml, hown, hts, -⟩ := id C
  unfold bX2_isAllowedBy_0
  refine k_aload_n hx hb dX2_isAllowedBy_0 rfl ?_
  refine k_aload_n hx hb dX2_isAllowedBy_1 rfl ?_
  refine k_getf C (ci := 2) (k := 0) (Tf := TX2) (Nf := 7) (Cn := RX2) rfl zinX2 (by decide) rfl zfX2_9 dX2_isAllowedBy_2 ?_
  refine k_iload_n hx hb dX2_isAllowedBy_5 rfl ?_
  refine k_iald C dX2_isAllowedBy_6 ?_
  refine k_aload_n hx hb dX2_isAllowedBy_7 rfl ?_
  refine k_getf C (ci := 2) (k := 1) (Tf := TX2) (Nf := 7) (Cn := RX2) rfl zinX2 (by decide) rfl zfX2_15 dX2_isAllowedBy_8 ?_
  refine k_iload_n hx hb dX2_isAllowedBy_11 rfl ?_
  refine k_iald C dX2_isAllowedBy_12 ?_
  refine k_aload_n hx hb dX2_isAllowedBy_13 rfl ?_
  refine k_getf C (ci := 2) (k := 2) (Tf := TX2) (Nf := 7) (Cn := RX2) rfl zinX2 (by decide) rfl zfX2_18 dX2_isAllowedBy_14 ?_
  refine k_iload_n hx hb dX2_isAllowedBy_17 rfl ?_
  refine k_iald C dX2_isAllowedBy_18 ?_
  refine k_callV3 C htab (ci := 4) (Tf := TX4) (Nf := 5) (Cn := RX4) rfl HX4_allows rfl zlX2_40 zmX4_allows zvX4_allows ziX4 zcX4_allows (by decide +kernel) ⟨Nat.le_of_ble_eq_true rfl, Nat.le_of_ble_eq_true rfl⟩ dX2_isAllowedBy_19 ?_
  exact k_ret C hr dX2_isAllowedBy_22
set_option maxRecDepth 20000 in
theorem uX2_isAllowedBy {l : Launch} {z0 b N : Nat} {D : va_G} {cA : Nat → ClassId} (hlt : l.stackTraces = false) (HX4_allows : Sem l z0 b N D cA yX4_allows cX4_allows 4 (some .boolean) 2 47 4 zno tX4_allows) (spec : ∀ (M : Nat) (a : List Value) (h : ZH) (Kn : Option Value → ZH → Prop) (Kx : Nat → Prop), zok 3 a = true → tX2_isAllowedBy a h Kn → bX2_isAllowedBy_0 M Kn Kx h (zE 3 a) [] h) : Sem l z0 b N D cA yX2_isAllowedBy cX2_isAllowedBy 3 (some .boolean) 3 70 3 zno tX2_isAllowedBy :=
  sem_of hlt (by decide +kernel) (by decide) (fun p e s m args below meth c M a h Kn Kx hok hX hN C hr htab => sX2_isAllowedBy_0 C htab hr HX4_allows _ _ _ (spec M a h Kn Kx hok (hN (fun _ h9 => h9))))
set_option maxRecDepth 20000 in
theorem sX2_carryOut_0 {l : Launch} {z0 b N M : Nat} {D : va_G} {cA : Nat → ClassId} {p : Program} {e : Env} {s : State} {m : MethodId} {args : Array Value} {below : List Frame} {meth : Method} {c : Code} {Kn : Option Value → ZH → Prop} {Kx : Nat → Prop} {h0 : ZH} (C : zCx p l (zRm 4 M 91) s m args meth c cX2_carryOut 3 RX2 z0 D cA M) (htab : ∀ x ∈ c.exceptionTable.toList, False) (hr : meth.sig.returnType = none) (HX4_carryOut : Sem l z0 b N D cA yX4_carryOut cX4_carryOut 4 none 3 68 4 zno tX4_carryOut) : Snd p l e (zRm 4 M 91) s m args below meth c 3 z0 b (zI z0 b N D cA s) (fun _ => (0, 0)) (vx_MQ below (zQn z0 b N D cA Kn) (zXn z0 b N D cA Kx h0) args s M (6 * M) (fun q => z0 ≤ q)) 0 (bX2_carryOut_0 M Kn Kx h0) := by
  obtain ⟨hx, hb, hml, hown, hts, -⟩ := id C
  unfold bX2_carryOut_0
  refine k_aload_n hx hb dX2_carryOut_0 rfl ?_
  refine k_aload_n hx hb dX2_carryOut_1 rfl ?_
  refine k_getf C (ci := 2) (k := 0) (Tf := TX2) (Nf := 7) (Cn := RX2) rfl zinX2 (by decide) rfl zfX2_9 dX2_carryOut_2 ?_
  refine k_iload_n hx hb dX2_carryOut_5 rfl ?_
  refine k_iald C dX2_carryOut_6 ?_
  refine k_aload_n hx hb dX2_carryOut_7 rfl ?_
  refine k_getf C (ci := 2) (k := 1) (Tf := TX2) (Nf := 7) (Cn := RX2) rfl zinX2 (by decide) rfl zfX2_15 dX2_carryOut_8 ?_
  refine k_iload_n hx hb dX2_carryOut_11 rfl ?_
  refine k_iald C dX2_carryOut_12 ?_
  refine k_aload_n hx hb dX2_carryOut_13 rfl ?_
  refine k_getf C (ci := 2) (k := 2) (Tf := TX2) (Nf := 7) (Cn := RX2) rfl zinX2 (by decide) rfl zfX2_18 dX2_carryOut_14 ?_
  refine k_iload_n hx hb dX2_carryOut_17 rfl ?_
  refine k_iald C dX2_carryOut_18 ?_
  refine k_callV3 C htab (ci := 4) (Tf := TX4) (Nf := 5) (Cn := RX4) rfl HX4_carryOut rfl zlX2_46 zmX4_carryOut zvX4_carryOut ziX4 zcX4_carryOut (by decide +kernel) ⟨Nat.le_of_ble_eq_true rfl, Nat.le_of_ble_eq_true rfl⟩ dX2_carryOut_19 ?_
  exact k_vret C hr dX2_carryOut_22
set_option maxRecDepth 20000 in
theorem uX2_carryOut {l : Launch} {z0 b N : Nat} {D : va_G} {cA : Nat → ClassId} (hlt : l.stackTraces = false) (HX4_carryOut : Sem l z0 b N D cA yX4_carryOut cX4_carryOut 4 none 3 68 4 zno tX4_carryOut) (spec : ∀ (M : Nat) (a : List Value) (h : ZH) (Kn : Option Value → ZH → Prop) (Kx : Nat → Prop), zok 3 a = true → tX2_carryOut a h Kn → bX2_carryOut_0 M Kn Kx h (zE 3 a) [] h) : Sem l z0 b N D cA yX2_carryOut cX2_carryOut 3 none 4 91 3 zno tX2_carryOut :=
  sem_of hlt (by decide +kernel) (by decide) (fun p e s m args below meth c M a h Kn Kx hok hX hN C hr htab => sX2_carryOut_0 C htab hr HX4_carryOut _ _ _ (spec M a h Kn Kx hok (hN (fun _ h9 => h9))))
set_option maxRecDepth 20000 in
theorem sX3_refresh_80 {l : Launch} {z0 b N M : Nat} {D : va_G} {cA : Nat → ClassId} {p : Program} {e : Env} {s : State} {m : MethodId} {args : Array Value} {below : List Frame} {meth : Method} {c : Code} {Kn : Option Value → ZH → Prop} {Kx : Nat → Prop} {h0 : ZH} {K2 K25 K48 : ZK ZH} (C : zCx p l (zRm 2 M 47) s m args meth c cX3_refresh 6 RX3 z0 D cA M) (htab : ∀ x ∈ c.exceptionTable.toList, False) (hr : meth.sig.returnType = none) (HX4_reachedFrom : Sem l z0 b N D cA yX4_reachedFrom cX4_reachedFrom 4 (some .int) 1 24 2 zno tX4_reachedFrom) (HX5_has : Sem l z0 b N D cA yX5_has cX5_has 2 (some .boolean) 0 0 2 zno tX5_has) (hK2 : Snd p l e (zRm 2 M 47) s m args below meth c 6 z0 b (zI z0 b N D cA s) (fun _ => (0, 0)) (vx_MQ below (zQn z0 b N D cA Kn) (zXn z0 b N D cA Kx h0) args s M (6 * M) (fun q => z0 ≤ q)) 2 K2) (hK25 : Snd p l e (zRm 2 M 47) s m args below meth c 6 z0 b (zI z0 b N D cA s) (fun _ => (0, 0)) (vx_MQ below (zQn z0 b N D cA Kn) (zXn z0 b N D cA Kx h0) args s M (6 * M) (fun q => z0 ≤ q)) 25 K25) (hK48 : Snd p l e (zRm 2 M 47) s m args below meth c 6 z0 b (zI z0 b N D cA s) (fun _ => (0, 0)) (vx_MQ below (zQn z0 b N D cA Kn) (zXn z0 b N D cA Kx h0) args s M (6 * M) (fun q => z0 ≤ q)) 48 K48) : Snd p l e (zRm 2 M 47) s m args below meth c 6 z0 b (zI z0 b N D cA s) (fun _ => (0, 0)) (vx_MQ below (zQn z0 b N D cA Kn) (zXn z0 b N D cA Kx h0) args s M (6 * M) (fun q => z0 ≤ q)) 80 (bX3_refresh_80 M Kn Kx h0 K2 K25 K48) := by
  obtain ⟨hx, hb, hml, hown, hts, -⟩ := id C
  unfold bX3_refresh_80
  refine k_iinc hx hb dX3_refresh_80 (by decide) ?_
  refine k_goto (tgt := 48) hx hb dX3_refresh_83 (by decide) ?_
  exact hK48
set_option maxRecDepth 20000 in
theorem sX3_refresh_48 {l : Launch} {z0 b N M : Nat} {D : va_G} {cA : Nat → ClassId} {p : Program} {e : Env} {s : State} {m : MethodId} {args : Array Value} {below : List Frame} {meth : Method} {c : Code} {Kn : Option Value → ZH → Prop} {Kx : Nat → Prop} {h0 : ZH} {K2 K25 K48 : ZK ZH} (C : zCx p l (zRm 2 M 47) s m args meth c cX3_refresh 6 RX3 z0 D cA M) (htab : ∀ x ∈ c.exceptionTable.toList, False) (hr : meth.sig.returnType = none) (HX4_reachedFrom : Sem l z0 b N D cA yX4_reachedFrom cX4_reachedFrom 4 (some .int) 1 24 2 zno tX4_reachedFrom) (HX5_has : Sem l z0 b N D cA yX5_has cX5_has 2 (some .boolean) 0 0 2 zno tX5_has) (hK2 : Snd p l e (zRm 2 M 47) s m args below meth c 6 z0 b (zI z0 b N D cA s) (fun _ => (0, 0)) (vx_MQ below (zQn z0 b N D cA Kn) (zXn z0 b N D cA Kx h0) args s M (6 * M) (fun q => z0 ≤ q)) 2 K2) (hK25 : Snd p l e (zRm 2 M 47) s m args below meth c 6 z0 b (zI z0 b N D cA s) (fun _ => (0, 0)) (vx_MQ below (zQn z0 b N D cA Kn) (zXn z0 b N D cA Kx h0) args s M (6 * M) (fun q => z0 ≤ q)) 25 K25) (hK48 : Snd p l e (zRm 2 M 47) s m args below meth c 6 z0 b (zI z0 b N D cA s) (fun _ => (0, 0)) (vx_MQ below (zQn z0 b N D cA Kn) (zXn z0 b N D cA Kx h0) args s M (6 * M) (fun q => z0 ≤ q)) 48 K48) : Snd p l e (zRm 2 M 47) s m args below meth c 6 z0 b (zI z0 b N D cA s) (fun _ => (0, 0)) (vx_MQ below (zQn z0 b N D cA Kn) (zXn z0 b N D cA Kx h0) args s M (6 * M) (fun q => z0 ≤ q)) 48 (bX3_refresh_48 M Kn Kx h0 K2 K25 K48) := by
  obtain ⟨hx, hb, hml, hown, hts, -⟩ := id C
  unfold bX3_refresh_48
  refine k_iload hx hb dX3_refresh_48 ?_
  refine k_aload_n hx hb dX3_refresh_50 rfl ?_
  refine k_getf C (ci := 4) (k := 4) (Tf := TX4) (Nf := 5) (Cn := RX4) rfl zinX4 (by decide) rfl zfX3_15 dX3_refresh_51 ?_
  refine k_icmp_ge (tgt := 86) hx hb dX3_refresh_54 (by decide) ?_ ?_
  · refine k_iinc hx hb dX3_refresh_86 (by decide) ?_
    refine k_goto (tgt := 25) hx hb dX3_refresh_89 (by decide) ?_
    exact hK25
  · refine k_iload hx hb dX3_refresh_57 ?_
    refine k_iload hx hb dX3_refresh_59 ?_
    refine k_callSN2 C HX5_has (host := "TagRoot") (by decide +kernel) (fun _ _ _ h => h) zsX5_has ziX5 zcX5_has (by decide +kernel) ⟨Nat.le_of_ble_eq_true rfl, Nat.le_of_ble_eq_true rfl⟩ dX3_refresh_61 ?_
    refine k_if_eq (tgt := 80) hx hb dX3_refresh_64 (by decide) ?_ ?_
    · exact sX3_refresh_80 C htab hr HX4_reachedFrom HX5_has hK2 hK25 hK48
    · refine k_aload_n hx hb dX3_refresh_67 rfl ?_
      refine k_getf C (ci := 3) (k := 0) (Tf := TX3) (Nf := 1) (Cn := RX3) rfl zinX3 (by decide) rfl zfX3_9 dX3_refresh_68 ?_
      refine k_iload hx hb dX3_refresh_71 ?_
      refine k_dup2 hx hb dX3_refresh_73 ?_
      refine k_iald C dX3_refresh_74 ?_
      refine k_iconst hx hb dX3_refresh_75 (by decide) ?_
      refine k_iload_n hx hb dX3_refresh_76 rfl ?_
      refine k_ishl hx hb dX3_refresh_77 ?_
      refine k_ior hx hb dX3_refresh_78 ?_
      refine k_iast C dX3_refresh_79 ?_
      exact sX3_refresh_80 C htab hr HX4_reachedFrom HX5_has hK2 hK25 hK48
set_option maxRecDepth 20000 in
theorem sX3_refresh_25 {l : Launch} {z0 b N M : Nat} {D : va_G} {cA : Nat → ClassId} {p : Program} {e : Env} {s : State} {m : MethodId} {args : Array Value} {below : List Frame} {meth : Method} {c : Code} {Kn : Option Value → ZH → Prop} {Kx : Nat → Prop} {h0 : ZH} {K2 K25 K48 : ZK ZH} (C : zCx p l (zRm 2 M 47) s m args meth c cX3_refresh 6 RX3 z0 D cA M) (htab : ∀ x ∈ c.exceptionTable.toList, False) (hr : meth.sig.returnType = none) (HX4_reachedFrom : Sem l z0 b N D cA yX4_reachedFrom cX4_reachedFrom 4 (some .int) 1 24 2 zno tX4_reachedFrom) (HX5_has : Sem l z0 b N D cA yX5_has cX5_has 2 (some .boolean) 0 0 2 zno tX5_has) (hK2 : Snd p l e (zRm 2 M 47) s m args below meth c 6 z0 b (zI z0 b N D cA s) (fun _ => (0, 0)) (vx_MQ below (zQn z0 b N D cA Kn) (zXn z0 b N D cA Kx h0) args s M (6 * M) (fun q => z0 ≤ q)) 2 K2) (hK25 : Snd p l e (zRm 2 M 47) s m args below meth c 6 z0 b (zI z0 b N D cA s) (fun _ => (0, 0)) (vx_MQ below (zQn z0 b N D cA Kn) (zXn z0 b N D cA Kx h0) args s M (6 * M) (fun q => z0 ≤ q)) 25 K25) (hK48 : Snd p l e (zRm 2 M 47) s m args below meth c 6 z0 b (zI z0 b N D cA s) (fun _ => (0, 0)) (vx_MQ below (zQn z0 b N D cA Kn) (zXn z0 b N D cA Kx h0) args s M (6 * M) (fun q => z0 ≤ q)) 48 K48) : Snd p l e (zRm 2 M 47) s m args below meth c 6 z0 b (zI z0 b N D cA s) (fun _ => (0, 0)) (vx_MQ below (zQn z0 b N D cA Kn) (zXn z0 b N D cA Kx h0) args s M (6 * M) (fun q => z0 ≤ q)) 25 (bX3_refresh_25 M Kn Kx h0 K2 K25 K48) := by
  obtain ⟨hx, hb, hml, hown, hts, -⟩ := id C
  unfold bX3_refresh_25
  refine k_iload_n hx hb dX3_refresh_25 rfl ?_
  refine k_aload_n hx hb dX3_refresh_26 rfl ?_
  refine k_getf C (ci := 0) (k := 4) (Tf := TX0) (Nf := 7) (Cn := RX0) rfl zinX0 (by decide) rfl zfX3_21 dX3_refresh_27 ?_
  refine k_icmp_ge (tgt := 92) hx hb dX3_refresh_30 (by decide) ?_ ?_
  · exact k_vret C hr dX3_refresh_92
  · refine k_aload_n hx hb dX3_refresh_33 rfl ?_
    refine k_aload_n hx hb dX3_refresh_34 rfl ?_
    refine k_getf C (ci := 0) (k := 0) (Tf := TX0) (Nf := 7) (Cn := RX0) rfl zinX0 (by decide) rfl zfX3_24 dX3_refresh_35 ?_
    refine k_iload_n hx hb dX3_refresh_38 rfl ?_
    refine k_iald C dX3_refresh_39 ?_
    refine k_callV1 C htab (ci := 4) (Tf := TX4) (Nf := 5) (Cn := RX4) rfl HX4_reachedFrom rfl zlX3_27 zmX4_reachedFrom zvX4_reachedFrom ziX4 zcX4_reachedFrom (by decide +kernel) ⟨Nat.le_of_ble_eq_true rfl, Nat.le_of_ble_eq_true rfl⟩ dX3_refresh_40 ?_
    refine k_istore hx hb dX3_refresh_43 ?_
    refine k_iconst hx hb dX3_refresh_45 (by decide) ?_
    refine k_istore hx hb dX3_refresh_46 ?_
    exact hK48
set_option maxRecDepth 20000 in
theorem sX3_refresh_2 {l : Launch} {z0 b N M : Nat} {D : va_G} {cA : Nat → ClassId} {p : Program} {e : Env} {s : State} {m : MethodId} {args : Array Value} {below : List Frame} {meth : Method} {c : Code} {Kn : Option Value → ZH → Prop} {Kx : Nat → Prop} {h0 : ZH} {K2 K25 K48 : ZK ZH} (C : zCx p l (zRm 2 M 47) s m args meth c cX3_refresh 6 RX3 z0 D cA M) (htab : ∀ x ∈ c.exceptionTable.toList, False) (hr : meth.sig.returnType = none) (HX4_reachedFrom : Sem l z0 b N D cA yX4_reachedFrom cX4_reachedFrom 4 (some .int) 1 24 2 zno tX4_reachedFrom) (HX5_has : Sem l z0 b N D cA yX5_has cX5_has 2 (some .boolean) 0 0 2 zno tX5_has) (hK2 : Snd p l e (zRm 2 M 47) s m args below meth c 6 z0 b (zI z0 b N D cA s) (fun _ => (0, 0)) (vx_MQ below (zQn z0 b N D cA Kn) (zXn z0 b N D cA Kx h0) args s M (6 * M) (fun q => z0 ≤ q)) 2 K2) (hK25 : Snd p l e (zRm 2 M 47) s m args below meth c 6 z0 b (zI z0 b N D cA s) (fun _ => (0, 0)) (vx_MQ below (zQn z0 b N D cA Kn) (zXn z0 b N D cA Kx h0) args s M (6 * M) (fun q => z0 ≤ q)) 25 K25) (hK48 : Snd p l e (zRm 2 M 47) s m args below meth c 6 z0 b (zI z0 b N D cA s) (fun _ => (0, 0)) (vx_MQ below (zQn z0 b N D cA Kn) (zXn z0 b N D cA Kx h0) args s M (6 * M) (fun q => z0 ≤ q)) 48 K48) : Snd p l e (zRm 2 M 47) s m args below meth c 6 z0 b (zI z0 b N D cA s) (fun _ => (0, 0)) (vx_MQ below (zQn z0 b N D cA Kn) (zXn z0 b N D cA Kx h0) args s M (6 * M) (fun q => z0 ≤ q)) 2 (bX3_refresh_2 M Kn Kx h0 K2 K25 K48) := by
  obtain ⟨hx, hb, hml, hown, hts, -⟩ := id C
  unfold bX3_refresh_2
  refine k_iload_n hx hb dX3_refresh_2 rfl ?_
  refine k_aload_n hx hb dX3_refresh_3 rfl ?_
  refine k_getf C (ci := 4) (k := 4) (Tf := TX4) (Nf := 5) (Cn := RX4) rfl zinX4 (by decide) rfl zfX3_15 dX3_refresh_4 ?_
  refine k_icmp_ge (tgt := 23) hx hb dX3_refresh_7 (by decide) ?_ ?_
  · refine k_iconst hx hb dX3_refresh_23 (by decide) ?_
    refine k_istore_n hx hb dX3_refresh_24 rfl ?_
    exact hK25
  · refine k_aload_n hx hb dX3_refresh_10 rfl ?_
    refine k_getf C (ci := 3) (k := 0) (Tf := TX3) (Nf := 1) (Cn := RX3) rfl zinX3 (by decide) rfl zfX3_9 dX3_refresh_11 ?_
    refine k_iload_n hx hb dX3_refresh_14 rfl ?_
    refine k_iconst hx hb dX3_refresh_15 (by decide) ?_
    refine k_iast C dX3_refresh_16 ?_
    refine k_iinc hx hb dX3_refresh_17 (by decide) ?_
    refine k_goto (tgt := 2) hx hb dX3_refresh_20 (by decide) ?_
    exact hK2
set_option maxRecDepth 20000 in
theorem sX3_refresh_0 {l : Launch} {z0 b N M : Nat} {D : va_G} {cA : Nat → ClassId} {p : Program} {e : Env} {s : State} {m : MethodId} {args : Array Value} {below : List Frame} {meth : Method} {c : Code} {Kn : Option Value → ZH → Prop} {Kx : Nat → Prop} {h0 : ZH} {K2 K25 K48 : ZK ZH} (C : zCx p l (zRm 2 M 47) s m args meth c cX3_refresh 6 RX3 z0 D cA M) (htab : ∀ x ∈ c.exceptionTable.toList, False) (hr : meth.sig.returnType = none) (HX4_reachedFrom : Sem l z0 b N D cA yX4_reachedFrom cX4_reachedFrom 4 (some .int) 1 24 2 zno tX4_reachedFrom) (HX5_has : Sem l z0 b N D cA yX5_has cX5_has 2 (some .boolean) 0 0 2 zno tX5_has) (hK2 : Snd p l e (zRm 2 M 47) s m args below meth c 6 z0 b (zI z0 b N D cA s) (fun _ => (0, 0)) (vx_MQ below (zQn z0 b N D cA Kn) (zXn z0 b N D cA Kx h0) args s M (6 * M) (fun q => z0 ≤ q)) 2 K2) (hK25 : Snd p l e (zRm 2 M 47) s m args below meth c 6 z0 b (zI z0 b N D cA s) (fun _ => (0, 0)) (vx_MQ below (zQn z0 b N D cA Kn) (zXn z0 b N D cA Kx h0) args s M (6 * M) (fun q => z0 ≤ q)) 25 K25) (hK48 : Snd p l e (zRm 2 M 47) s m args below meth c 6 z0 b (zI z0 b N D cA s) (fun _ => (0, 0)) (vx_MQ below (zQn z0 b N D cA Kn) (zXn z0 b N D cA Kx h0) args s M (6 * M) (fun q => z0 ≤ q)) 48 K48) : Snd p l e (zRm 2 M 47) s m args below meth c 6 z0 b (zI z0 b N D cA s) (fun _ => (0, 0)) (vx_MQ below (zQn z0 b N D cA Kn) (zXn z0 b N D cA Kx h0) args s M (6 * M) (fun q => z0 ≤ q)) 0 (bX3_refresh_0 M Kn Kx h0 K2 K25 K48) := by
  obtain ⟨hx, hb, hml, hown, hts, -⟩ := id C
  unfold bX3_refresh_0
  refine k_iconst hx hb dX3_refresh_0 (by decide) ?_
  refine k_istore_n hx hb dX3_refresh_1 rfl ?_
  exact hK2
set_option maxRecDepth 20000 in
theorem uX3_refresh {l : Launch} {z0 b N : Nat} {D : va_G} {cA : Nat → ClassId} (hlt : l.stackTraces = false) (HX4_reachedFrom : Sem l z0 b N D cA yX4_reachedFrom cX4_reachedFrom 4 (some .int) 1 24 2 zno tX4_reachedFrom) (HX5_has : Sem l z0 b N D cA yX5_has cX5_has 2 (some .boolean) 0 0 2 zno tX5_has) (spec : ∀ (M : Nat) (a : List Value) (h : ZH) (Kn : Option Value → ZH → Prop) (Kx : Nat → Prop), zok 3 a = true → tX3_refresh a h Kn → ∀ (A : Nat → ZK ZH), (∀ ls st h', bX3_refresh_2 M Kn Kx h (A 2) (A 25) (A 48) ls st h' → A 2 ls st h') → (∀ ls st h', bX3_refresh_25 M Kn Kx h (A 2) (A 25) (A 48) ls st h' → A 25 ls st h') → (∀ ls st h', bX3_refresh_48 M Kn Kx h (A 2) (A 25) (A 48) ls st h' → A 48 ls st h') → bX3_refresh_0 M Kn Kx h (A 2) (A 25) (A 48) (zE 6 a) [] h) : Sem l z0 b N D cA yX3_refresh cX3_refresh 6 none 2 47 3 zno tX3_refresh :=
  sem_of hlt (by decide +kernel) (by decide) (fun p e s m args below meth c M a h Kn Kx hok hX hN C hr htab => sX3_refresh_0 C htab hr HX4_reachedFrom HX5_has (fun _ _ _ q => q) (fun _ _ _ q => q) (fun _ _ _ q => q) _ _ _ (spec M a h Kn Kx hok (hN (fun _ h9 => h9)) (fun pc => AW p l e (zRm 2 M 47) s m args below meth c 6 z0 b (zI z0 b N D cA s) (fun _ => (0, 0)) (vx_MQ below (zQn z0 b N D cA Kn) (zXn z0 b N D cA Kx h) args s M (6 * M) (fun q => z0 ≤ q)) pc) (fun ls st h' hq => sX3_refresh_2 C htab hr HX4_reachedFrom HX5_has (fun _ _ _ q => q) (fun _ _ _ q => q) (fun _ _ _ q => q) ls st h' hq) (fun ls st h' hq => sX3_refresh_25 C htab hr HX4_reachedFrom HX5_has (fun _ _ _ q => q) (fun _ _ _ q => q) (fun _ _ _ q => q) ls st h' hq) (fun ls st h' hq => sX3_refresh_48 C htab hr HX4_reachedFrom HX5_has (fun _ _ _ q => q) (fun _ _ _ q => q) (fun _ _ _ q => q) ls st h' hq)))
set_option maxRecDepth 20000 in
theorem sX3_column_32 {l : Launch} {z0 b N M : Nat} {D : va_G} {cA : Nat → ClassId} {p : Program} {e : Env} {s : State} {m : MethodId} {args : Array Value} {below : List Frame} {meth : Method} {c : Code} {Kn : Option Value → ZH → Prop} {Kx : Nat → Prop} {h0 : ZH} {K5 : ZK ZH} (C : zCx p l (zRm 1 M 21) s m args meth c cX3_column 5 RX3 z0 D cA M) (htab : ∀ x ∈ c.exceptionTable.toList, False) (hr : meth.sig.returnType = (some .int)) (HX5_has : Sem l z0 b N D cA yX5_has cX5_has 2 (some .boolean) 0 0 2 zno tX5_has) (hK5 : Snd p l e (zRm 1 M 21) s m args below meth c 5 z0 b (zI z0 b N D cA s) (fun _ => (0, 0)) (vx_MQ below (zQn z0 b N D cA Kn) (zXn z0 b N D cA Kx h0) args s M (6 * M) (fun q => z0 ≤ q)) 5 K5) : Snd p l e (zRm 1 M 21) s m args below meth c 5 z0 b (zI z0 b N D cA s) (fun _ => (0, 0)) (vx_MQ below (zQn z0 b N D cA Kn) (zXn z0 b N D cA Kx h0) args s M (6 * M) (fun q => z0 ≤ q)) 32 (bX3_column_32 M Kn Kx h0 K5) := by
  obtain ⟨hx, hb, hml, hown, hts, -⟩ := id C
  unfold bX3_column_32
  refine k_iinc hx hb dX3_column_32 (by decide) ?_
  refine k_goto (tgt := 5) hx hb dX3_column_35 (by decide) ?_
  exact hK5
set_option maxRecDepth 20000 in
theorem sX3_column_5 {l : Launch} {z0 b N M : Nat} {D : va_G} {cA : Nat → ClassId} {p : Program} {e : Env} {s : State} {m : MethodId} {args : Array Value} {below : List Frame} {meth : Method} {c : Code} {Kn : Option Value → ZH → Prop} {Kx : Nat → Prop} {h0 : ZH} {K5 : ZK ZH} (C : zCx p l (zRm 1 M 21) s m args meth c cX3_column 5 RX3 z0 D cA M) (htab : ∀ x ∈ c.exceptionTable.toList, False) (hr : meth.sig.returnType = (some .int)) (HX5_has : Sem l z0 b N D cA yX5_has cX5_has 2 (some .boolean) 0 0 2 zno tX5_has) (hK5 : Snd p l e (zRm 1 M 21) s m args below meth c 5 z0 b (zI z0 b N D cA s) (fun _ => (0, 0)) (vx_MQ below (zQn z0 b N D cA Kn) (zXn z0 b N D cA Kx h0) args s M (6 * M) (fun q => z0 ≤ q)) 5 K5) : Snd p l e (zRm 1 M 21) s m args below meth c 5 z0 b (zI z0 b N D cA s) (fun _ => (0, 0)) (vx_MQ below (zQn z0 b N D cA Kn) (zXn z0 b N D cA Kx h0) args s M (6 * M) (fun q => z0 ≤ q)) 5 (bX3_column_5 M Kn Kx h0 K5) := by
  obtain ⟨hx, hb, hml, hown, hts, -⟩ := id C
  unfold bX3_column_5
  refine k_iload hx hb dX3_column_5 ?_
  refine k_iload_n hx hb dX3_column_7 rfl ?_
  refine k_icmp_ge (tgt := 38) hx hb dX3_column_8 (by decide) ?_ ?_
  · refine k_iload_n hx hb dX3_column_38 rfl ?_
    exact k_ret C hr dX3_column_39
  · refine k_aload_n hx hb dX3_column_11 rfl ?_
    refine k_getf C (ci := 3) (k := 0) (Tf := TX3) (Nf := 1) (Cn := RX3) rfl zinX3 (by decide) rfl zfX3_9 dX3_column_12 ?_
    refine k_iload hx hb dX3_column_15 ?_
    refine k_iald C dX3_column_17 ?_
    refine k_iload_n hx hb dX3_column_18 rfl ?_
    refine k_callSN2 C HX5_has (host := "TagRoot") (by decide +kernel) (fun _ _ _ h => h) zsX5_has ziX5 zcX5_has (by decide +kernel) ⟨Nat.le_of_ble_eq_true rfl, Nat.le_of_ble_eq_true rfl⟩ dX3_column_19 ?_
    refine k_if_eq (tgt := 32) hx hb dX3_column_22 (by decide) ?_ ?_
    · exact sX3_column_32 C htab hr HX5_has hK5
    · refine k_iload_n hx hb dX3_column_25 rfl ?_
      refine k_iconst hx hb dX3_column_26 (by decide) ?_
      refine k_iload hx hb dX3_column_27 ?_
      refine k_ishl hx hb dX3_column_29 ?_
      refine k_ior hx hb dX3_column_30 ?_
      refine k_istore_n hx hb dX3_column_31 rfl ?_
      exact sX3_column_32 C htab hr HX5_has hK5
set_option maxRecDepth 20000 in
theorem sX3_column_0 {l : Launch} {z0 b N M : Nat} {D : va_G} {cA : Nat → ClassId} {p : Program} {e : Env} {s : State} {m : MethodId} {args : Array Value} {below : List Frame} {meth : Method} {c : Code} {Kn : Option Value → ZH → Prop} {Kx : Nat → Prop} {h0 : ZH} {K5 : ZK ZH} (C : zCx p l (zRm 1 M 21) s m args meth c cX3_column 5 RX3 z0 D cA M) (htab : ∀ x ∈ c.exceptionTable.toList, False) (hr : meth.sig.returnType = (some .int)) (HX5_has : Sem l z0 b N D cA yX5_has cX5_has 2 (some .boolean) 0 0 2 zno tX5_has) (hK5 : Snd p l e (zRm 1 M 21) s m args below meth c 5 z0 b (zI z0 b N D cA s) (fun _ => (0, 0)) (vx_MQ below (zQn z0 b N D cA Kn) (zXn z0 b N D cA Kx h0) args s M (6 * M) (fun q => z0 ≤ q)) 5 K5) : Snd p l e (zRm 1 M 21) s m args below meth c 5 z0 b (zI z0 b N D cA s) (fun _ => (0, 0)) (vx_MQ below (zQn z0 b N D cA Kn) (zXn z0 b N D cA Kx h0) args s M (6 * M) (fun q => z0 ≤ q)) 0 (bX3_column_0 M Kn Kx h0 K5) := by
  obtain ⟨hx, hb, hml, hown, hts, -⟩ := id C
  unfold bX3_column_0
  refine k_iconst hx hb dX3_column_0 (by decide) ?_
  refine k_istore_n hx hb dX3_column_1 rfl ?_
  refine k_iconst hx hb dX3_column_2 (by decide) ?_
  refine k_istore hx hb dX3_column_3 ?_
  exact hK5
set_option maxRecDepth 20000 in
theorem uX3_column {l : Launch} {z0 b N : Nat} {D : va_G} {cA : Nat → ClassId} (hlt : l.stackTraces = false) (HX5_has : Sem l z0 b N D cA yX5_has cX5_has 2 (some .boolean) 0 0 2 zno tX5_has) (spec : ∀ (M : Nat) (a : List Value) (h : ZH) (Kn : Option Value → ZH → Prop) (Kx : Nat → Prop), zok 3 a = true → tX3_column a h Kn → ∀ (A : Nat → ZK ZH), (∀ ls st h', bX3_column_5 M Kn Kx h (A 5) ls st h' → A 5 ls st h') → bX3_column_0 M Kn Kx h (A 5) (zE 5 a) [] h) : Sem l z0 b N D cA yX3_column cX3_column 5 (some .int) 1 21 3 zno tX3_column :=
  sem_of hlt (by decide +kernel) (by decide) (fun p e s m args below meth c M a h Kn Kx hok hX hN C hr htab => sX3_column_0 C htab hr HX5_has (fun _ _ _ q => q) _ _ _ (spec M a h Kn Kx hok (hN (fun _ h9 => h9)) (fun pc => AW p l e (zRm 1 M 21) s m args below meth c 5 z0 b (zI z0 b N D cA s) (fun _ => (0, 0)) (vx_MQ below (zQn z0 b N D cA Kn) (zXn z0 b N D cA Kx h) args s M (6 * M) (fun q => z0 ≤ q)) pc) (fun ls st h' hq => sX3_column_5 C htab hr HX5_has (fun _ _ _ q => q) ls st h' hq)))
set_option maxRecDepth 20000 in
theorem sJ6_bitCount_0f7a4_0 {l : Launch} {z0 b N M : Nat} {D : va_G} {cA : Nat → ClassId} {p : Program} {e : Env} {s : State} {m : MethodId} {args : Array Value} {below : List Frame} {meth : Method} {c : Code} {Kn : Option Value → ZH → Prop} {Kx : Nat → Prop} {h0 : ZH} (C : zCx p l (zRm 0 M 0) s m args meth c cJ6_bitCount_0f7a4 1 RJ6 z0 D cA M) (htab : ∀ x ∈ c.exceptionTable.toList, False) (hr : meth.sig.returnType = (some .int)) : Snd p l e (zRm 0 M 0) s m args below meth c 1 z0 b (zI z0 b N D cA s) (fun _ => (0, 0)) (vx_MQ below (zQn z0 b N D cA Kn) (zXn z0 b N D cA Kx h0) args s M (6 * M) (fun q => z0 ≤ q)) 0 (bJ6_bitCount_0f7a4_0 M Kn Kx h0) := by
  obtain ⟨hx, hb, hml, hown, hts, -⟩ := id C
  unfold bJ6_bitCount_0f7a4_0
  refine k_iload_n hx hb dJ6_bitCount_0f7a4_0 rfl ?_
  refine k_iload_n hx hb dJ6_bitCount_0f7a4_1 rfl ?_
  refine k_iconst hx hb dJ6_bitCount_0f7a4_2 (by decide) ?_
  refine k_iushr hx hb dJ6_bitCount_0f7a4_3 ?_
  refine k_ldcw hx hb hown (hts _ zkJ6_265) dJ6_bitCount_0f7a4_4 ?_
  refine k_iand hx hb dJ6_bitCount_0f7a4_7 ?_
  refine k_isub hx hb dJ6_bitCount_0f7a4_8 ?_
  refine k_istore_n hx hb dJ6_bitCount_0f7a4_9 rfl ?_
  refine k_iload_n hx hb dJ6_bitCount_0f7a4_10 rfl ?_
  refine k_ldcw hx hb hown (hts _ zkJ6_266) dJ6_bitCount_0f7a4_11 ?_
  refine k_iand hx hb dJ6_bitCount_0f7a4_14 ?_
  refine k_iload_n hx hb dJ6_bitCount_0f7a4_15 rfl ?_
  refine k_iconst hx hb dJ6_bitCount_0f7a4_16 (by decide) ?_
  refine k_iushr hx hb dJ6_bitCount_0f7a4_17 ?_
  refine k_ldcw hx hb hown (hts _ zkJ6_266) dJ6_bitCount_0f7a4_18 ?_
  refine k_iand hx hb dJ6_bitCount_0f7a4_21 ?_
  refine k_iadd hx hb dJ6_bitCount_0f7a4_22 ?_
  refine k_istore_n hx hb dJ6_bitCount_0f7a4_23 rfl ?_
  refine k_iload_n hx hb dJ6_bitCount_0f7a4_24 rfl ?_
  refine k_iload_n hx hb dJ6_bitCount_0f7a4_25 rfl ?_
  refine k_iconst hx hb dJ6_bitCount_0f7a4_26 (by decide) ?_
  refine k_iushr hx hb dJ6_bitCount_0f7a4_27 ?_
  refine k_iadd hx hb dJ6_bitCount_0f7a4_28 ?_
  refine k_ldcw hx hb hown (hts _ zkJ6_267) dJ6_bitCount_0f7a4_29 ?_
  refine k_iand hx hb dJ6_bitCount_0f7a4_32 ?_
  refine k_istore_n hx hb dJ6_bitCount_0f7a4_33 rfl ?_
  refine k_iload_n hx hb dJ6_bitCount_0f7a4_34 rfl ?_
  refine k_iload_n hx hb dJ6_bitCount_0f7a4_35 rfl ?_
  refine k_bipush hx hb dJ6_bitCount_0f7a4_36 (by decide) ?_
  refine k_iushr hx hb dJ6_bitCount_0f7a4_38 ?_
  refine k_iadd hx hb dJ6_bitCount_0f7a4_39 ?_
  refine k_istore_n hx hb dJ6_bitCount_0f7a4_40 rfl ?_
  refine k_iload_n hx hb dJ6_bitCount_0f7a4_41 rfl ?_
  refine k_iload_n hx hb dJ6_bitCount_0f7a4_42 rfl ?_
  refine k_bipush hx hb dJ6_bitCount_0f7a4_43 (by decide) ?_
  refine k_iushr hx hb dJ6_bitCount_0f7a4_45 ?_
  refine k_iadd hx hb dJ6_bitCount_0f7a4_46 ?_
  refine k_istore_n hx hb dJ6_bitCount_0f7a4_47 rfl ?_
  refine k_iload_n hx hb dJ6_bitCount_0f7a4_48 rfl ?_
  refine k_bipush hx hb dJ6_bitCount_0f7a4_49 (by decide) ?_
  refine k_iand hx hb dJ6_bitCount_0f7a4_51 ?_
  exact k_ret C hr dJ6_bitCount_0f7a4_52
set_option maxRecDepth 20000 in
theorem uJ6_bitCount_0f7a4 {l : Launch} {z0 b N : Nat} {D : va_G} {cA : Nat → ClassId} (hlt : l.stackTraces = false) (spec : ∀ (M : Nat) (a : List Value) (h : ZH) (Kn : Option Value → ZH → Prop) (Kx : Nat → Prop), zok 1 a = true → tJ6_bitCount_0f7a4 a h Kn → bJ6_bitCount_0f7a4_0 M Kn Kx h (zE 1 a) [] h) : Sem l z0 b N D cA yJ6_bitCount_0f7a4 cJ6_bitCount_0f7a4 1 (some .int) 0 0 1 zno tJ6_bitCount_0f7a4 :=
  sem_of hlt (by decide +kernel) (by decide) (fun p e s m args below meth c M a h Kn Kx hok hX hN C hr htab => sJ6_bitCount_0f7a4_0 C htab hr _ _ _ (spec M a h Kn Kx hok (hN (fun _ h9 => h9))))
