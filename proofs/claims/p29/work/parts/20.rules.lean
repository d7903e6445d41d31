def bX5_has_14 (M : Nat) (Kn : Option Value → ZH → Prop) (Kx : Nat → Prop) (h0 : ZH) : ZK ZH := (o_ret .boolean Kn)
def bX5_has_0 (M : Nat) (Kn : Option Value → ZH → Prop) (Kx : Nat → Prop) (h0 : ZH) : ZK ZH := (o_iload 0 (o_iload 1 (o_bin (fun x y => x >>> (y &&& 31)) (o_ic (1) (o_bin (fun x y => x &&& y) (o_ic (1) (o_if2 (fun x y => ¬ x = y) (o_ic (0) (bX5_has_14 M Kn Kx h0)) (o_ic (1) (bX5_has_14 M Kn Kx h0)))))))))
def bX4_grow_5 (M : Nat) (Kn : Option Value → ZH → Prop) (Kx : Nat → Prop) (h0 : ZH) (K5 : ZK ZH) : ZK ZH := (o_iload 2 (o_iload 1 (o_if2 (fun x y => y ≤ x) (o_aload 0 (o_iload 1 (o_puti 4 4 (o_aload 0 (o_callV0 M 4 zno tX4_workOut Kx h0 (o_vret Kn)))))) (o_aload 0 (o_getf 4 0 (o_iload 2 (o_ic (-1) (o_iast (o_iinc 2 (1) K5)))))))))
def bX4_grow_0 (M : Nat) (Kn : Option Value → ZH → Prop) (Kx : Nat → Prop) (h0 : ZH) (K5 : ZK ZH) : ZK ZH := (o_aload 0 (o_getf 4 4 (o_istore 2 K5)))
def bX4_copyFrom_10 (M : Nat) (Kn : Option Value → ZH → Prop) (Kx : Nat → Prop) (h0 : ZH) (K10 : ZK ZH) : ZK ZH := (o_iload 2 (o_aload 0 (o_getf 4 4 (o_if2 (fun x y => y ≤ x) (o_vret Kn) (o_aload 0 (o_getf 4 0 (o_iload 2 (o_aload 1 (o_getf 4 0 (o_iload 2 (o_ald 0 (o_iast (o_aload 0 (o_getf 4 1 (o_iload 2 (o_aload 1 (o_getf 4 1 (o_iload 2 (o_ald 0 (o_iast (o_iinc 2 (1) K10)))))))))))))))))))))
def bX4_copyFrom_0 (M : Nat) (Kn : Option Value → ZH → Prop) (Kx : Nat → Prop) (h0 : ZH) (K10 : ZK ZH) : ZK ZH := (o_aload 0 (o_aload 1 (o_getf 4 4 (o_puti 4 4 (o_ic (0) (o_istore 2 K10))))))
def bX4_endOf_46 (M : Nat) (Kn : Option Value → ZH → Prop) (Kx : Nat → Prop) (h0 : ZH) (K4 : ZK ZH) : ZK ZH := (o_iload 2 (o_ret .int Kn))
def bX4_endOf_4 (M : Nat) (Kn : Option Value → ZH → Prop) (Kx : Nat → Prop) (h0 : ZH) (K4 : ZK ZH) : ZK ZH := (o_iload 3 (o_aload 0 (o_getf 4 4 (o_if2 (fun x y => y ≤ x) (bX4_endOf_46 M Kn Kx h0 K4) (o_aload 0 (o_getf 4 0 (o_iload 2 (o_ald 0 (o_istore 4 (o_iload 4 (o_if1 (fun x => x < 0) (bX4_endOf_46 M Kn Kx h0 K4) (o_iload 4 (o_aload 0 (o_getf 4 4 (o_if2 (fun x y => x < y) (o_iload 4 (o_istore 2 (o_iinc 3 (1) K4))) (bX4_endOf_46 M Kn Kx h0 K4))))))))))))))))
def bX4_endOf_0 (M : Nat) (Kn : Option Value → ZH → Prop) (Kx : Nat → Prop) (h0 : ZH) (K4 : ZK ZH) : ZK ZH := (o_iload 1 (o_istore 2 (o_ic (0) (o_istore 3 K4))))
def bX4_allows_90 (M : Nat) (Kn : Option Value → ZH → Prop) (Kx : Nat → Prop) (h0 : ZH) : ZK ZH := (o_ret .boolean Kn)
def bX4_allows_74 (M : Nat) (Kn : Option Value → ZH → Prop) (Kx : Nat → Prop) (h0 : ZH) : ZK ZH := (o_ret .boolean Kn)
def bX4_allows_73 (M : Nat) (Kn : Option Value → ZH → Prop) (Kx : Nat → Prop) (h0 : ZH) : ZK ZH := (o_ic (0) (bX4_allows_74 M Kn Kx h0))
def bX4_allows_0 (M : Nat) (Kn : Option Value → ZH → Prop) (Kx : Nat → Prop) (h0 : ZH) : ZK ZH := (o_iload 1 (o_tsw 0 [(o_aload 0 (o_iload 2 (o_iload 3 (o_callV2 M 4 zno tX4_allowsAlias Kx h0 (o_ret .boolean Kn))))), (o_aload 0 (o_getf 4 1 (o_iload 2 (o_ald 0 (o_iload 3 (o_callS2 M zno tX5_has Kx h0 (o_if1 (fun x => ¬ x = 0) (bX4_allows_73 M Kn Kx h0) (o_aload 0 (o_getf 4 3 (o_aload 0 (o_iload 3 (o_callV1 M 4 zno tX4_endOf Kx h0 (o_ald 0 (o_aload 0 (o_iload 2 (o_callV1 M 4 zno tX4_endOf Kx h0 (o_callS2 M zno tX5_has Kx h0 (o_if1 (fun x => ¬ x = 0) (bX4_allows_73 M Kn Kx h0) (o_ic (1) (bX4_allows_74 M Kn Kx h0)))))))))))))))))))), (o_aload 0 (o_getf 4 0 (o_iload 2 (o_ald 0 (o_iload 3 (o_if2 (fun x y => ¬ x = y) (o_ic (0) (bX4_allows_90 M Kn Kx h0)) (o_ic (1) (bX4_allows_90 M Kn Kx h0))))))))] (o_aload 0 (o_getf 4 1 (o_iload 2 (o_ald 0 (o_iload 3 (o_callS2 M zno tX5_has Kx h0 (o_ret .boolean Kn)))))))))
def bX4_allowsAlias_52 (M : Nat) (Kn : Option Value → ZH → Prop) (Kx : Nat → Prop) (h0 : ZH) : ZK ZH := (o_ret .boolean Kn)
def bX4_allowsAlias_51 (M : Nat) (Kn : Option Value → ZH → Prop) (Kx : Nat → Prop) (h0 : ZH) : ZK ZH := (o_ic (0) (bX4_allowsAlias_52 M Kn Kx h0))
def bX4_allowsAlias_0 (M : Nat) (Kn : Option Value → ZH → Prop) (Kx : Nat → Prop) (h0 : ZH) : ZK ZH := (o_aload 0 (o_iload 2 (o_callV1 M 4 zno tX4_endOf Kx h0 (o_istore 3 (o_aload 0 (o_getf 4 0 (o_iload 1 (o_ald 0 (o_ic (-1) (o_if2 (fun x y => ¬ x = y) (bX4_allowsAlias_51 M Kn Kx h0) (o_iload 3 (o_iload 1 (o_if2 (fun x y => x = y) (bX4_allowsAlias_51 M Kn Kx h0) (o_aload 0 (o_getf 4 3 (o_iload 1 (o_ald 0 (o_iload 3 (o_callS2 M zno tX5_has Kx h0 (o_if1 (fun x => ¬ x = 0) (bX4_allowsAlias_51 M Kn Kx h0) (o_aload 0 (o_getf 4 3 (o_iload 3 (o_ald 0 (o_iload 1 (o_callS2 M zno tX5_has Kx h0 (o_if1 (fun x => ¬ x = 0) (bX4_allowsAlias_51 M Kn Kx h0) (o_ic (1) (bX4_allowsAlias_52 M Kn Kx h0)))))))))))))))))))))))))))))
def bX4_carryOut_77 (M : Nat) (Kn : Option Value → ZH → Prop) (Kx : Nat → Prop) (h0 : ZH) : ZK ZH := (o_aload 0 (o_callV0 M 4 zno tX4_workOut Kx h0 (o_vret Kn)))
def bX4_carryOut_0 (M : Nat) (Kn : Option Value → ZH → Prop) (Kx : Nat → Prop) (h0 : ZH) : ZK ZH := (o_iload 1 (o_tsw 0 [(o_aload 0 (o_getf 4 0 (o_iload 2 (o_iload 3 (o_iast (bX4_carryOut_77 M Kn Kx h0)))))), (o_aload 0 (o_getf 4 1 (o_iload 2 (o_dup2 (o_ald 0 (o_ic (1) (o_iload 3 (o_bin (fun x y => x <<< (y &&& 31)) (o_bin (fun x y => x ||| y) (o_iast (bX4_carryOut_77 M Kn Kx h0))))))))))), (o_aload 0 (o_getf 4 0 (o_iload 2 (o_ic (-1) (o_iast (bX4_carryOut_77 M Kn Kx h0))))))] (o_aload 0 (o_getf 4 1 (o_iload 2 (o_dup2 (o_ald 0 (o_ic (1) (o_iload 3 (o_bin (fun x y => x <<< (y &&& 31)) (o_ic (-1) (o_bin (fun x y => x ^^^ y) (o_bin (fun x y => x &&& y) (o_iast (bX4_carryOut_77 M Kn Kx h0)))))))))))))))
def bX4_workOut_127 (M : Nat) (Kn : Option Value → ZH → Prop) (Kx : Nat → Prop) (h0 : ZH) (K2 K25 K73 K105 : ZK ZH) : ZK ZH := (o_iinc 1 (1) K105)
def bX4_workOut_105 (M : Nat) (Kn : Option Value → ZH → Prop) (Kx : Nat → Prop) (h0 : ZH) (K2 K25 K73 K105 : ZK ZH) : ZK ZH := (o_iload 1 (o_aload 0 (o_getf 4 4 (o_if2 (fun x y => y ≤ x) (o_vret Kn) (o_aload 0 (o_getf 4 2 (o_iload 1 (o_ald 0 (o_if1 (fun x => x = 0) (bX4_workOut_127 M Kn Kx h0 K2 K25 K73 K105) (o_aload 0 (o_iload 1 (o_callV1 M 4 zno tX4_reachOver Kx h0 (bX4_workOut_127 M Kn Kx h0 K2 K25 K73 K105)))))))))))))
def bX4_workOut_73 (M : Nat) (Kn : Option Value → ZH → Prop) (Kx : Nat → Prop) (h0 : ZH) (K2 K25 K73 K105 : ZK ZH) : ZK ZH := (o_iload 1 (o_aload 0 (o_getf 4 4 (o_if2 (fun x y => y ≤ x) (o_ic (0) (o_istore 1 K105)) (o_aload 0 (o_getf 4 3 (o_iload 1 (o_aload 0 (o_getf 4 2 (o_iload 1 (o_ald 0 (o_ic (1) (o_iload 1 (o_bin (fun x y => x <<< (y &&& 31)) (o_bin (fun x y => x ||| y) (o_iast (o_iinc 1 (1) K73)))))))))))))))))
def bX4_workOut_65 (M : Nat) (Kn : Option Value → ZH → Prop) (Kx : Nat → Prop) (h0 : ZH) (K2 K25 K73 K105 : ZK ZH) : ZK ZH := (o_iinc 1 (1) K25)
def bX4_workOut_25 (M : Nat) (Kn : Option Value → ZH → Prop) (Kx : Nat → Prop) (h0 : ZH) (K2 K25 K73 K105 : ZK ZH) : ZK ZH := (o_iload 1 (o_aload 0 (o_getf 4 4 (o_if2 (fun x y => y ≤ x) (o_ic (0) (o_istore 1 K73)) (o_aload 0 (o_getf 4 1 (o_iload 1 (o_ald 0 (o_if1 (fun x => x = 0) (bX4_workOut_65 M Kn Kx h0 K2 K25 K73 K105) (o_aload 0 (o_getf 4 2 (o_aload 0 (o_iload 1 (o_callV1 M 4 zno tX4_endOf Kx h0 (o_dup2 (o_ald 0 (o_aload 0 (o_aload 0 (o_getf 4 1 (o_iload 1 (o_ald 0 (o_callV1 M 4 zno tX4_endsOf Kx h0 (o_bin (fun x y => x ||| y) (o_iast (bX4_workOut_65 M Kn Kx h0 K2 K25 K73 K105)))))))))))))))))))))))))
def bX4_workOut_2 (M : Nat) (Kn : Option Value → ZH → Prop) (Kx : Nat → Prop) (h0 : ZH) (K2 K25 K73 K105 : ZK ZH) : ZK ZH := (o_iload 1 (o_aload 0 (o_getf 4 4 (o_if2 (fun x y => y ≤ x) (o_ic (0) (o_istore 1 K25)) (o_aload 0 (o_getf 4 2 (o_iload 1 (o_ic (0) (o_iast (o_iinc 1 (1) K2))))))))))
def bX4_workOut_0 (M : Nat) (Kn : Option Value → ZH → Prop) (Kx : Nat → Prop) (h0 : ZH) (K2 K25 K73 K105 : ZK ZH) : ZK ZH := (o_ic (0) (o_istore 1 K2))
def bX4_reachOver_38 (M : Nat) (Kn : Option Value → ZH → Prop) (Kx : Nat → Prop) (h0 : ZH) (K2 : ZK ZH) : ZK ZH := (o_iinc 2 (1) K2)
def bX4_reachOver_2 (M : Nat) (Kn : Option Value → ZH → Prop) (Kx : Nat → Prop) (h0 : ZH) (K2 : ZK ZH) : ZK ZH := (o_iload 2 (o_aload 0 (o_getf 4 4 (o_if2 (fun x y => y ≤ x) (o_vret Kn) (o_aload 0 (o_getf 4 3 (o_iload 2 (o_ald 0 (o_iload 1 (o_callS2 M zno tX5_has Kx h0 (o_if1 (fun x => x = 0) (bX4_reachOver_38 M Kn Kx h0 K2) (o_aload 0 (o_getf 4 3 (o_iload 2 (o_dup2 (o_ald 0 (o_aload 0 (o_getf 4 3 (o_iload 1 (o_ald 0 (o_bin (fun x y => x ||| y) (o_iast (bX4_reachOver_38 M Kn Kx h0 K2)))))))))))))))))))))))
def bX4_reachOver_0 (M : Nat) (Kn : Option Value → ZH → Prop) (Kx : Nat → Prop) (h0 : ZH) (K2 : ZK ZH) : ZK ZH := (o_ic (0) (o_istore 2 K2))
def bX4_endsOf_30 (M : Nat) (Kn : Option Value → ZH → Prop) (Kx : Nat → Prop) (h0 : ZH) (K4 : ZK ZH) : ZK ZH := (o_iinc 3 (1) K4)
def bX4_endsOf_4 (M : Nat) (Kn : Option Value → ZH → Prop) (Kx : Nat → Prop) (h0 : ZH) (K4 : ZK ZH) : ZK ZH := (o_iload 3 (o_aload 0 (o_getf 4 4 (o_if2 (fun x y => y ≤ x) (o_iload 2 (o_ret .int Kn)) (o_iload 1 (o_iload 3 (o_callS2 M zno tX5_has Kx h0 (o_if1 (fun x => x = 0) (bX4_endsOf_30 M Kn Kx h0 K4) (o_iload 2 (o_ic (1) (o_aload 0 (o_iload 3 (o_callV1 M 4 zno tX4_endOf Kx h0 (o_bin (fun x y => x <<< (y &&& 31)) (o_bin (fun x y => x ||| y) (o_istore 2 (bX4_endsOf_30 M Kn Kx h0 K4)))))))))))))))))
def bX4_endsOf_0 (M : Nat) (Kn : Option Value → ZH → Prop) (Kx : Nat → Prop) (h0 : ZH) (K4 : ZK ZH) : ZK ZH := (o_ic (0) (o_istore 2 (o_ic (0) (o_istore 3 K4))))
def bX4_reachedFrom_33 (M : Nat) (Kn : Option Value → ZH → Prop) (Kx : Nat → Prop) (h0 : ZH) (K4 : ZK ZH) : ZK ZH := (o_iinc 3 (1) K4)
def bX4_reachedFrom_4 (M : Nat) (Kn : Option Value → ZH → Prop) (Kx : Nat → Prop) (h0 : ZH) (K4 : ZK ZH) : ZK ZH := (o_iload 3 (o_aload 0 (o_getf 4 4 (o_if2 (fun x y => y ≤ x) (o_iload 2 (o_ret .int Kn)) (o_iload 1 (o_iload 3 (o_callS2 M zno tX5_has Kx h0 (o_if1 (fun x => x = 0) (bX4_reachedFrom_33 M Kn Kx h0 K4) (o_iload 2 (o_aload 0 (o_getf 4 3 (o_aload 0 (o_iload 3 (o_callV1 M 4 zno tX4_endOf Kx h0 (o_ald 0 (o_bin (fun x y => x ||| y) (o_istore 2 (bX4_reachedFrom_33 M Kn Kx h0 K4))))))))))))))))))
def bX4_reachedFrom_0 (M : Nat) (Kn : Option Value → ZH → Prop) (Kx : Nat → Prop) (h0 : ZH) (K4 : ZK ZH) : ZK ZH := (o_ic (0) (o_istore 2 (o_ic (0) (o_istore 3 K4))))
def bX4_spread_76 (M : Nat) (Kn : Option Value → ZH → Prop) (Kx : Nat → Prop) (h0 : ZH) (K8 K22 : ZK ZH) : ZK ZH := (o_iload 2 (o_ret .int Kn))
def bX4_spread_52 (M : Nat) (Kn : Option Value → ZH → Prop) (Kx : Nat → Prop) (h0 : ZH) (K8 K22 : ZK ZH) : ZK ZH := (o_iinc 5 (1) K22)
def bX4_spread_22 (M : Nat) (Kn : Option Value → ZH → Prop) (Kx : Nat → Prop) (h0 : ZH) (K8 K22 : ZK ZH) : ZK ZH := (o_iload 5 (o_aload 0 (o_getf 4 4 (o_if2 (fun x y => y ≤ x) (o_iload 4 (o_iload 2 (o_if2 (fun x y => ¬ x = y) (o_iload 4 (o_istore 2 (o_iinc 3 (1) K8))) (bX4_spread_76 M Kn Kx h0 K8 K22)))) (o_iload 2 (o_iload 5 (o_callS2 M zno tX5_has Kx h0 (o_if1 (fun x => x = 0) (bX4_spread_52 M Kn Kx h0 K8 K22) (o_iload 4 (o_aload 0 (o_getf 4 2 (o_iload 5 (o_ald 0 (o_bin (fun x y => x ||| y) (o_istore 4 (bX4_spread_52 M Kn Kx h0 K8 K22))))))))))))))))
def bX4_spread_8 (M : Nat) (Kn : Option Value → ZH → Prop) (Kx : Nat → Prop) (h0 : ZH) (K8 K22 : ZK ZH) : ZK ZH := (o_iload 3 (o_aload 0 (o_getf 4 4 (o_if2 (fun x y => y ≤ x) (bX4_spread_76 M Kn Kx h0 K8 K22) (o_iload 2 (o_istore 4 (o_ic (0) (o_istore 5 K22))))))))
def bX4_spread_0 (M : Nat) (Kn : Option Value → ZH → Prop) (Kx : Nat → Prop) (h0 : ZH) (K8 K22 : ZK ZH) : ZK ZH := (o_aload 0 (o_iload 1 (o_callV1 M 4 zno tX4_endsOf Kx h0 (o_istore 2 (o_ic (0) (o_istore 3 K8))))))
def bX4_nearest_59 (M : Nat) (Kn : Option Value → ZH → Prop) (Kx : Nat → Prop) (h0 : ZH) (K7 K19 : ZK ZH) : ZK ZH := (o_iinc 5 (1) K19)
def bX4_nearest_19 (M : Nat) (Kn : Option Value → ZH → Prop) (Kx : Nat → Prop) (h0 : ZH) (K7 K19 : ZK ZH) : ZK ZH := (o_iload 5 (o_aload 0 (o_getf 4 4 (o_if2 (fun x y => y ≤ x) (o_iload 3 (o_aload 0 (o_iload 3 (o_callV1 M 4 zno tX4_leadingTo Kx h0 (o_bin (fun x y => x ||| y) (o_istore 3 (o_iinc 4 (1) K7))))))) (o_iload 1 (o_iload 5 (o_callS2 M zno tX5_has Kx h0 (o_if1 (fun x => x = 0) (bX4_nearest_59 M Kn Kx h0 K7 K19) (o_iload 3 (o_aload 0 (o_iload 5 (o_callV1 M 4 zno tX4_endOf Kx h0 (o_callS2 M zno tX5_has Kx h0 (o_if1 (fun x => x = 0) (bX4_nearest_59 M Kn Kx h0 K7 K19) (o_ic (100) (o_iload 4 (o_bin (fun x y => x * y) (o_iload 5 (o_bin (fun x y => x + y) (o_ret .int Kn))))))))))))))))))))
def bX4_nearest_7 (M : Nat) (Kn : Option Value → ZH → Prop) (Kx : Nat → Prop) (h0 : ZH) (K7 K19 : ZK ZH) : ZK ZH := (o_iload 4 (o_aload 0 (o_getf 4 4 (o_if2 (fun x y => y ≤ x) (o_ic (-1) (o_ret .int Kn)) (o_ic (0) (o_istore 5 K19))))))
def bX4_nearest_0 (M : Nat) (Kn : Option Value → ZH → Prop) (Kx : Nat → Prop) (h0 : ZH) (K7 K19 : ZK ZH) : ZK ZH := (o_ic (1) (o_iload 2 (o_bin (fun x y => x <<< (y &&& 31)) (o_istore 3 (o_ic (0) (o_istore 4 K7))))))
def bX4_leadingTo_29 (M : Nat) (Kn : Option Value → ZH → Prop) (Kx : Nat → Prop) (h0 : ZH) (K4 : ZK ZH) : ZK ZH := (o_iinc 3 (1) K4)
def bX4_leadingTo_4 (M : Nat) (Kn : Option Value → ZH → Prop) (Kx : Nat → Prop) (h0 : ZH) (K4 : ZK ZH) : ZK ZH := (o_iload 3 (o_aload 0 (o_getf 4 4 (o_if2 (fun x y => y ≤ x) (o_iload 2 (o_ret .int Kn)) (o_aload 0 (o_getf 4 2 (o_iload 3 (o_ald 0 (o_iload 1 (o_bin (fun x y => x &&& y) (o_if1 (fun x => x = 0) (bX4_leadingTo_29 M Kn Kx h0 K4) (o_iload 2 (o_ic (1) (o_iload 3 (o_bin (fun x y => x <<< (y &&& 31)) (o_bin (fun x y => x ||| y) (o_istore 2 (bX4_leadingTo_29 M Kn Kx h0 K4))))))))))))))))))
def bX4_leadingTo_0 (M : Nat) (Kn : Option Value → ZH → Prop) (Kx : Nat → Prop) (h0 : ZH) (K4 : ZK ZH) : ZK ZH := (o_ic (0) (o_istore 2 (o_ic (0) (o_istore 3 K4))))
set_option maxRecDepth 20000 in
theorem sX5_has_14 {l : Launch} {z0 b N M : Nat} {D : va_G} {cA : Nat → ClassId} {p : Program} {e : Env} {s : State} {m : MethodId} {args : Array Value} {below : List Frame} {meth : Method} {c : Code} {Kn : Option Value → ZH → Prop} {Kx : Nat → Prop} {h0 : ZH} (C : zCx p l (zRm 0 M 0) s m args meth c cX5_has 2 RX5 z0 D cA M) (htab : ∀ x ∈ c.exceptionTable.toList, False) (hr : meth.sig.returnType = (some .boolean)) : Snd p l e (zRm 0 M 0) s m args below meth c 2 z0 b (zI z0 b N D cA s) (fun _ => (0, 0)) (vx_MQ below (zQn z0 b N D cA Kn) (zXn z0 b N D cA Kx h0) args s M (6 * M) (fun q => z0 ≤ q)) 14 (bX5_has_14 M Kn Kx h0) := by
  obtain ⟨hx, hb, hml, hown, hts, -⟩ := id C
  unfold bX5_has_14
  exact k_ret C hr dX5_has_14
set_option maxRecDepth 20000 in
theorem sX5_has_0 {l : Launch} {z0 b N M : Nat} {D : va_G} {cA : Nat → ClassId} {p : Program} {e : Env} {s : State} {m : MethodId} {args : Array Value} {below : List Frame} {meth : Method} {c : Code} {Kn : Option Value → ZH → Prop} {Kx : Nat → Prop} {h0 : ZH} (C : zCx p l (zRm 0 M 0) s m args meth c cX5_has 2 RX5 z0 D cA M) (htab : ∀ x ∈ c.exceptionTable.toList, False) (hr : meth.sig.returnType = (some .boolean)) : Snd p l e (zRm 0 M 0) s m args below meth c 2 z0 b (zI z0 b N D cA s) (fun _ => (0, 0)) (vx_MQ below (zQn z0 b N D cA Kn) (zXn z0 b N D cA Kx h0) args s M (6 * M) (fun q => z0 ≤ q)) 0 (bX5_has_0 M Kn Kx h0) := by
  obtain ⟨hx, hb, hml, hown, hts, -⟩ := id C
  unfold bX5_has_0
  refine k_iload_n hx hb dX5_has_0 rfl ?_
  refine k_iload_n hx hb dX5_has_1 rfl ?_
  refine k_ishr hx hb dX5_has_2 ?_
  refine k_iconst hx hb dX5_has_3 (by decide) ?_
  refine k_iand hx hb dX5_has_4 ?_
  refine k_iconst hx hb dX5_has_5 (by decide) ?_
  refine k_icmp_ne (tgt := 13) hx hb dX5_has_6 (by decide) ?_ ?_
  · refine k_iconst hx hb dX5_has_13 (by decide) ?_
    exact sX5_has_14 C htab hr
  · refine k_iconst hx hb dX5_has_9 (by decide) ?_
    refine k_goto (tgt := 14) hx hb dX5_has_10 (by decide) ?_
    exact sX5_has_14 C htab hr
set_option maxRecDepth 20000 in
theorem uX5_has {l : Launch} {z0 b N : Nat} {D : va_G} {cA : Nat → ClassId} (hlt : l.stackTraces = false) (spec : ∀ (M : Nat) (a : List Value) (h : ZH) (Kn : Option Value → ZH → Prop) (Kx : Nat → Prop), zok 2 a = true → tX5_has a h Kn → bX5_has_0 M Kn Kx h (zE 2 a) [] h) : Sem l z0 b N D cA yX5_has cX5_has 2 (some .boolean) 0 0 2 zno tX5_has :=
  sem_of hlt (by decide +kernel) (by decide) (fun p e s m args below meth c M a h Kn Kx hok hX hN C hr htab => sX5_has_0 C htab hr _ _ _ (spec M a h Kn Kx hok (hN (fun _ h9 => h9))))
set_option maxRecDepth 20000 in
theorem sX4_grow_5 {l : Launch} {z0 b N M : Nat} {D : va_G} {cA : Nat → ClassId} {p : Program} {e : Env} {s : State} {m : MethodId} {args : Array Value} {below : List Frame} {meth : Method} {c : Code} {Kn : Option Value → ZH → Prop} {Kx : Nat → Prop} {h0 : ZH} {K5 : ZK ZH} (C : zCx p l (zRm 3 M 68) s m args meth c cX4_grow 3 RX4 z0 D cA M) (htab : ∀ x ∈ c.exceptionTable.toList, False) (hr : meth.sig.returnType = none) (HX4_workOut : Sem l z0 b N D cA yX4_workOut cX4_workOut 2 none 2 47 1 zno tX4_workOut) (hK5 : Snd p l e (zRm 3 M 68) s m args below meth c 3 z0 b (zI z0 b N D cA s) (fun _ => (0, 0)) (vx_MQ below (zQn z0 b N D cA Kn) (zXn z0 b N D cA Kx h0) args s M (6 * M) (fun q => z0 ≤ q)) 5 K5) : Snd p l e (zRm 3 M 68) s m args below meth c 3 z0 b (zI z0 b N D cA s) (fun _ => (0, 0)) (vx_MQ below (zQn z0 b N D cA Kn) (zXn z0 b N D cA Kx h0) args s M (6 * M) (fun q => z0 ≤ q)) 5 (bX4_grow_5 M Kn Kx h0 K5) := by
  obtain ⟨hx, hb, hml, hown, hts, -⟩ := id C
  unfold bX4_grow_5
  refine k_iload_n hx hb dX4_grow_5 rfl ?_
  refine k_iload_n hx hb dX4_grow_6 rfl ?_
  refine k_icmp_ge (tgt := 23) hx hb dX4_grow_7 (by decide) ?_ ?_
  · refine k_aload_n hx hb dX4_grow_23 rfl ?_
    refine k_iload_n hx hb dX4_grow_24 rfl ?_
    refine k_puti C (ci := 4) (k := 4) (Tf := TX4) (Nf := 5) (Cn := RX4) tyX4 tyX4_ok nmX4 rfl zinX4 (by decide) rfl rfl (by decide +kernel) zfX4_24 dX4_grow_25 ?_
    refine k_aload_n hx hb dX4_grow_28 rfl ?_
    refine k_callV0 C htab (ci := 4) (Tf := TX4) (Nf := 5) (Cn := RX4) rfl HX4_workOut rfl zlX4_28 zmX4_workOut zvX4_workOut ziX4 zcX4_workOut (by decide +kernel) ⟨Nat.le_of_ble_eq_true rfl, Nat.le_of_ble_eq_true rfl⟩ dX4_grow_29 ?_
    exact k_vret C hr dX4_grow_32
  · refine k_aload_n hx hb dX4_grow_10 rfl ?_
    refine k_getf C (ci := 4) (k := 0) (Tf := TX4) (Nf := 5) (Cn := RX4) rfl zinX4 (by decide) rfl zfX4_9 dX4_grow_11 ?_
    refine k_iload_n hx hb dX4_grow_14 rfl ?_
    refine k_iconst hx hb dX4_grow_15 (by decide) ?_
    refine k_iast C dX4_grow_16 ?_
    refine k_iinc hx hb dX4_grow_17 (by decide) ?_
    refine k_goto (tgt := 5) hx hb dX4_grow_20 (by decide) ?_
    exact hK5
set_option maxRecDepth 20000 in
theorem sX4_grow_0 {l : Launch} {z0 b N M : Nat} {D : va_G} {cA : Nat → ClassId} {p : Program} {e : Env} {s : State} {m : MethodId} {args : Array Value} {below : List Frame} {meth : Method} {c : Code} {Kn : Option Value → ZH → Prop} {Kx : Nat → Prop} {h0 : ZH} {K5 : ZK ZH} (C : zCx p l (zRm 3 M 68) s m args meth c cX4_grow 3 RX4 z0 D cA M) (htab : ∀ x ∈ c.exceptionTable.toList, False) (hr : meth.sig.returnType = none) (HX4_workOut : Sem l z0 b N D cA yX4_workOut cX4_workOut 2 none 2 47 1 zno tX4_workOut) (hK5 : Snd p l e (zRm 3 M 68) s m args below meth c 3 z0 b (zI z0 b N D cA s) (fun _ => (0, 0)) (vx_MQ below (zQn z0 b N D cA Kn) (zXn z0 b N D cA Kx h0) args s M (6 * M) (fun q => z0 ≤ q)) 5 K5) : Snd p l e (zRm 3 M 68) s m args below meth c 3 z0 b (zI z0 b N D cA s) (fun _ => (0, 0)) (vx_MQ below (zQn z0 b N D cA Kn) (zXn z0 b N D cA Kx h0) args s M (6 * M) (fun q => z0 ≤ q)) 0 (bX4_grow_0 M Kn Kx h0 K5) := by
  obtain ⟨hx, hb, hml, hown, hts, -⟩ := id C
  unfold bX4_grow_0
  refine k_aload_n hx hb dX4_grow_0 rfl ?_
  refine k_getf C (ci := 4) (k := 4) (Tf := TX4) (Nf := 5) (Cn := RX4) rfl zinX4 (by decide) rfl zfX4_24 dX4_grow_1 ?_
  refine k_istore_n hx hb dX4_grow_4 rfl ?_
  exact hK5
set_option maxRecDepth 20000 in
theorem uX4_grow {l : Launch} {z0 b N : Nat} {D : va_G} {cA : Nat → ClassId} (hlt : l.stackTraces = false) (HX4_workOut : Sem l z0 b N D cA yX4_workOut cX4_workOut 2 none 2 47 1 zno tX4_workOut) (spec : ∀ (M : Nat) (a : List Value) (h : ZH) (Kn : Option Value → ZH → Prop) (Kx : Nat → Prop), zok 2 a = true → tX4_grow a h Kn → ∀ (A : Nat → ZK ZH), (∀ ls st h', bX4_grow_5 M Kn Kx h (A 5) ls st h' → A 5 ls st h') → bX4_grow_0 M Kn Kx h (A 5) (zE 3 a) [] h) : Sem l z0 b N D cA yX4_grow cX4_grow 3 none 3 68 2 zno tX4_grow :=
  sem_of hlt (by decide +kernel) (by decide) (fun p e s m args below meth c M a h Kn Kx hok hX hN C hr htab => sX4_grow_0 C htab hr HX4_workOut (fun _ _ _ q => q) _ _ _ (spec M a h Kn Kx hok (hN (fun _ h9 => h9)) (fun pc => AW p l e (zRm 3 M 68) s m args below meth c 3 z0 b (zI z0 b N D cA s) (fun _ => (0, 0)) (vx_MQ below (zQn z0 b N D cA Kn) (zXn z0 b N D cA Kx h) args s M (6 * M) (fun q => z0 ≤ q)) pc) (fun ls st h' hq => sX4_grow_5 C htab hr HX4_workOut (fun _ _ _ q => q) ls st h' hq)))
set_option maxRecDepth 20000 in
theorem sX4_copyFrom_10 {l : Launch} {z0 b N M : Nat} {D : va_G} {cA : Nat → ClassId} {p : Program} {e : Env} {s : State} {m : MethodId} {args : Array Value} {below : List Frame} {meth : Method} {c : Code} {Kn : Option Value → ZH → Prop} {Kx : Nat → Prop} {h0 : ZH} {K10 : ZK ZH} (C : zCx p l (zRm 0 M 0) s m args meth c cX4_copyFrom 3 RX4 z0 D cA M) (htab : ∀ x ∈ c.exceptionTable.toList, False) (hr : meth.sig.returnType = none) (hK10 : Snd p l e (zRm 0 M 0) s m args below meth c 3 z0 b (zI z0 b N D cA s) (fun _ => (0, 0)) (vx_MQ below (zQn z0 b N D cA Kn) (zXn z0 b N D cA Kx h0) args s M (6 * M) (fun q => z0 ≤ q)) 10 K10) : Snd p l e (zRm 0 M 0) s m args below meth c 3 z0 b (zI z0 b N D cA s) (fun _ => (0, 0)) (vx_MQ below (zQn z0 b N D cA Kn) (zXn z0 b N D cA Kx h0) args s M (6 * M) (fun q => z0 ≤ q)) 10 (bX4_copyFrom_10 M Kn Kx h0 K10) := by
  obtain ⟨hx, hb, hml, hown, hts, -⟩ := id C
  unfold bX4_copyFrom_10
  refine k_iload_n hx hb dX4_copyFrom_10 rfl ?_
  refine k_aload_n hx hb dX4_copyFrom_11 rfl ?_
  refine k_getf C (ci := 4) (k := 4) (Tf := TX4) (Nf := 5) (Cn := RX4) rfl zinX4 (by decide) rfl zfX4_24 dX4_copyFrom_12 ?_
  refine k_icmp_ge (tgt := 48) hx hb dX4_copyFrom_15 (by decide) ?_ ?_
  · exact k_vret C hr dX4_copyFrom_48
  · refine k_aload_n hx hb dX4_copyFrom_18 rfl ?_
    refine k_getf C (ci := 4) (k := 0) (Tf := TX4) (Nf := 5) (Cn := RX4) rfl zinX4 (by decide) rfl zfX4_9 dX4_copyFrom_19 ?_
    refine k_iload_n hx hb dX4_copyFrom_22 rfl ?_
    refine k_aload_n hx hb dX4_copyFrom_23 rfl ?_
    refine k_getf C (ci := 4) (k := 0) (Tf := TX4) (Nf := 5) (Cn := RX4) rfl zinX4 (by decide) rfl zfX4_9 dX4_copyFrom_24 ?_
    refine k_iload_n hx hb dX4_copyFrom_27 rfl ?_
    refine k_iald C dX4_copyFrom_28 ?_
    refine k_iast C dX4_copyFrom_29 ?_
    refine k_aload_n hx hb dX4_copyFrom_30 rfl ?_
    refine k_getf C (ci := 4) (k := 1) (Tf := TX4) (Nf := 5) (Cn := RX4) rfl zinX4 (by decide) rfl zfX4_15 dX4_copyFrom_31 ?_
    refine k_iload_n hx hb dX4_copyFrom_34 rfl ?_
    refine k_aload_n hx hb dX4_copyFrom_35 rfl ?_
    refine k_getf C (ci := 4) (k := 1) (Tf := TX4) (Nf := 5) (Cn := RX4) rfl zinX4 (by decide) rfl zfX4_15 dX4_copyFrom_36 ?_
    refine k_iload_n hx hb dX4_copyFrom_39 rfl ?_
    refine k_iald C dX4_copyFrom_40 ?_
    refine k_iast C dX4_copyFrom_41 ?_
    refine k_iinc hx hb dX4_copyFrom_42 (by decide) ?_
    refine k_goto (tgt := 10) hx hb dX4_copyFrom_45 (by decide) ?_
    exact hK10
set_option maxRecDepth 20000 in
theorem sX4_copyFrom_0 {l : Launch} {z0 b N M : Nat} {D : va_G} {cA : Nat → ClassId} {p : Program} {e : Env} {s : State} {m : MethodId} {args : Array Value} {below : List Frame} {meth : Method} {c : Code} {Kn : Option Value → ZH → Prop} {Kx : Nat → Prop} {h0 : ZH} {K10 : ZK ZH} (C : zCx p l (zRm 0 M 0) s m args meth c cX4_copyFrom 3 RX4 z0 D cA M) (htab : ∀ x ∈ c.exceptionTable.toList, False) (hr : meth.sig.returnType = none) (hK10 : Snd p l e (zRm 0 M 0) s m args below meth c 3 z0 b (zI z0 b N D cA s) (fun _ => (0, 0)) (vx_MQ below (zQn z0 b N D cA Kn) (zXn z0 b N D cA Kx h0) args s M (6 * M) (fun q => z0 ≤ q)) 10 K10) : Snd p l e (zRm 0 M 0) s m args below meth c 3 z0 b (zI z0 b N D cA s) (fun _ => (0, 0)) (vx_MQ below (zQn z0 b N D cA Kn) (zXn z0 b N D cA Kx h0) args s M (6 * M) (fun q => z0 ≤ q)) 0 (bX4_copyFrom_0 M Kn Kx h0 K10) := by
  obtain ⟨hx, hb, hml, hown, hts, -⟩ := id C
  unfold bX4_copyFrom_0
  refine k_aload_n hx hb dX4_copyFrom_0 rfl ?_
  refine k_aload_n hx hb dX4_copyFrom_1 rfl ?_
  refine k_getf C (ci := 4) (k := 4) (Tf := TX4) (Nf := 5) (Cn := RX4) rfl zinX4 (by decide) rfl zfX4_24 dX4_copyFrom_2 ?_
  refine k_puti C (ci := 4) (k := 4) (Tf := TX4) (Nf := 5) (Cn := RX4) tyX4 tyX4_ok nmX4 rfl zinX4 (by decide) rfl rfl (by decide +kernel) zfX4_24 dX4_copyFrom_5 ?_
  refine k_iconst hx hb dX4_copyFrom_8 (by decide) ?_
  refine k_istore_n hx hb dX4_copyFrom_9 rfl ?_
  exact hK10
set_option maxRecDepth 20000 in
theorem uX4_copyFrom {l : Launch} {z0 b N : Nat} {D : va_G} {cA : Nat → ClassId} (hlt : l.stackTraces = false) (spec : ∀ (M : Nat) (a : List Value) (h : ZH) (Kn : Option Value → ZH → Prop) (Kx : Nat → Prop), zok 2 a = true → tX4_copyFrom a h Kn → ∀ (A : Nat → ZK ZH), (∀ ls st h', bX4_copyFrom_10 M Kn Kx h (A 10) ls st h' → A 10 ls st h') → bX4_copyFrom_0 M Kn Kx h (A 10) (zE 3 a) [] h) : Sem l z0 b N D cA yX4_copyFrom cX4_copyFrom 3 none 0 0 2 zno tX4_copyFrom :=
  sem_of hlt (by decide +kernel) (by decide) (fun p e s m args below meth c M a h Kn Kx hok hX hN C hr htab => sX4_copyFrom_0 C htab hr (fun _ _ _ q => q) _ _ _ (spec M a h Kn Kx hok (hN (fun _ h9 => h9)) (fun pc => AW p l e (zRm 0 M 0) s m args below meth c 3 z0 b (zI z0 b N D cA s) (fun _ => (0, 0)) (vx_MQ below (zQn z0 b N D cA Kn) (zXn z0 b N D cA Kx h) args s M (6 * M) (fun q => z0 ≤ q)) pc) (fun ls st h' hq => sX4_copyFrom_10 C htab hr (fun _ _ _ q => q) ls st h' hq)))
set_option maxRecDepth 20000 in
theorem sX4_endOf_46 {l : Launch} {z0 b N M : Nat} {D : va_G} {cA : Nat → ClassId} {p : Program} {e : Env} {s : State} {m : MethodId} {args : Array Value} {below : List Frame} {meth : Method} {c : Code} {Kn : Option Value → ZH → Prop} {Kx : Nat → Prop} {h0 : ZH} {K4 : ZK ZH} (C : zCx p l (zRm 0 M 0) s m args meth c cX4_endOf 5 RX4 z0 D cA M) (htab : ∀ x ∈ c.exceptionTable.toList, False) (hr : meth.sig.returnType = (some .int)) (hK4 : Snd p l e (zRm 0 M 0) s m args below meth c 5 z0 b (zI z0 b N D cA s) (fun _ => (0, 0)) (vx_MQ below (zQn z0 b N D cA Kn) (zXn z0 b N D cA Kx h0) args s M (6 * M) (fun q => z0 ≤ q)) 4 K4) : Snd p l e (zRm 0 M 0) s m args below meth c 5 z0 b (zI z0 b N D cA s) (fun _ => (0, 0)) (vx_MQ below (zQn z0 b N D cA Kn) (zXn z0 b N D cA Kx h0) args s M (6 * M) (fun q => z0 ≤ q)) 46 (bX4_endOf_46 M Kn Kx h0 K4) := by
  obtain ⟨hx, hb, hml, hown, hts, -⟩ := id C
  unfold bX4_endOf_46
  refine k_iload_n hx hb dX4_endOf_46 rfl ?_
  exact k_ret C hr dX4_endOf_47
set_option maxRecDepth 20000 in
theorem sX4_endOf_4 {l : Launch} {z0 b N M : Nat} {D : va_G} {cA : Nat → ClassId} {p : Program} {e : Env} {s : State} {m : MethodId} {args : Array Value} {below : List Frame} {meth : Method} {c : Code} {Kn : Option Value → ZH → Prop} {Kx : Nat → Prop} {h0 : ZH} {K4 : ZK ZH} (C : zCx p l (zRm 0 M 0) s m args meth c cX4_endOf 5 RX4 z0 D cA M) (htab : ∀ x ∈ c.exceptionTable.toList, False) (hr : meth.sig.returnType = (some .int)) (hK4 : Snd p l e (zRm 0 M 0) s m args below meth c 5 z0 b (zI z0 b N D cA s) (fun _ => (0, 0)) (vx_MQ below (zQn z0 b N D cA Kn) (zXn z0 b N D cA Kx h0) args s M (6 * M) (fun q => z0 ≤ q)) 4 K4) : Snd p l e (zRm 0 M 0) s m args below meth c 5 z0 b (zI z0 b N D cA s) (fun _ => (0, 0)) (vx_MQ below (zQn z0 b N D cA Kn) (zXn z0 b N D cA Kx h0) args s M (6 * M) (fun q => z0 ≤ q)) 4 (bX4_endOf_4 M Kn Kx h0 K4) := by
  obtain ⟨hx, hb, hml, hown, hts, -⟩ := id C
  unfold bX4_endOf_4
  refine k_iload_n hx hb dX4_endOf_4 rfl ?_
  refine k_aload_n hx hb dX4_endOf_5 rfl ?_
  refine k_getf C (ci := 4) (k := 4) (Tf := TX4) (Nf := 5) (Cn := RX4) rfl zinX4 (by decide) rfl zfX4_24 dX4_endOf_6 ?_
  refine k_icmp_ge (tgt := 46) hx hb dX4_endOf_9 (by decide) ?_ ?_
  · exact sX4_endOf_46 C htab hr hK4
  · refine k_aload_n hx hb dX4_endOf_12 rfl ?_
    refine k_getf C (ci := 4) (k := 0) (Tf := TX4) (Nf := 5) (Cn := RX4) rfl zinX4 (by decide) rfl zfX4_9 dX4_endOf_13 ?_
    refine k_iload_n hx hb dX4_endOf_16 rfl ?_
    refine k_iald C dX4_endOf_17 ?_
    refine k_istore hx hb dX4_endOf_18 ?_
    refine k_iload hx hb dX4_endOf_20 ?_
    refine k_if_lt (tgt := 46) hx hb dX4_endOf_22 (by decide) ?_ ?_
    · exact sX4_endOf_46 C htab hr hK4
    · refine k_iload hx hb dX4_endOf_25 ?_
      refine k_aload_n hx hb dX4_endOf_27 rfl ?_
      refine k_getf C (ci := 4) (k := 4) (Tf := TX4) (Nf := 5) (Cn := RX4) rfl zinX4 (by decide) rfl zfX4_24 dX4_endOf_28 ?_
      refine k_icmp_lt (tgt := 37) hx hb dX4_endOf_31 (by decide) ?_ ?_
      · refine k_iload hx hb dX4_endOf_37 ?_
        refine k_istore_n hx hb dX4_endOf_39 rfl ?_
        refine k_iinc hx hb dX4_endOf_40 (by decide) ?_
        refine k_goto (tgt := 4) hx hb dX4_endOf_43 (by decide) ?_
        exact hK4
      · refine k_goto (tgt := 46) hx hb dX4_endOf_34 (by decide) ?_
        exact sX4_endOf_46 C htab hr hK4
set_option maxRecDepth 20000 in
theorem sX4_endOf_0 {l : Launch} {z0 b N M : Nat} {D : va_G} {cA : Nat → ClassId} {p : Program} {e : Env} {s : State} {m : MethodId} {args : Array Value} {below : List Frame} {meth : Method} {c : Code} {Kn : Option Value → ZH → Prop} {Kx : Nat → Prop} {h0 : ZH} {K4 : ZK ZH} (C : zCx p l (zRm 0 M 0) s m args meth c cX4_endOf 5 RX4 z0 D cA M) (htab : ∀ x ∈ c.exceptionTable.toList, False) (hr : meth.sig.returnType = (some .int)) (hK4 : Snd p l e (zRm 0 M 0) s m args below meth c 5 z0 b (zI z0 b N D cA s) (fun _ => (0, 0)) (vx_MQ below (zQn z0 b N D cA Kn) (zXn z0 b N D cA Kx h0) args s M (6 * M) (fun q => z0 ≤ q)) 4 K4) : Snd p l e (zRm 0 M 0) s m args below meth c 5 z0 b (zI z0 b N D cA s) (fun _ => (0, 0)) (vx_MQ below (zQn z0 b N D cA Kn) (zXn z0 b N D cA Kx h0) args s M (6 * M) (fun q => z0 ≤ q)) 0 (bX4_endOf_0 M Kn Kx h0 K4) := by
  obtain ⟨hx, hb, hml, hown, hts, -⟩ := id C
  unfold bX4_endOf_0
  refine k_iload_n hx hb dX4_endOf_0 rfl ?_
  refine k_istore_n hx hb dX4_endOf_1 rfl ?_
  refine k_iconst hx hb dX4_endOf_2 (by decide) ?_
  refine k_istore_n hx hb dX4_endOf_3 rfl ?_
  exact hK4
set_option maxRecDepth 20000 in
theorem uX4_endOf {l : Launch} {z0 b N : Nat} {D : va_G} {cA : Nat → ClassId} (hlt : l.stackTraces = false) (spec : ∀ (M : Nat) (a : List Value) (h : ZH) (Kn : Option Value → ZH → Prop) (Kx : Nat → Prop), zok 2 a = true → tX4_endOf a h Kn → ∀ (A : Nat → ZK ZH), (∀ ls st h', bX4_endOf_4 M Kn Kx h (A 4) ls st h' → A 4 ls st h') → bX4_endOf_0 M Kn Kx h (A 4) (zE 5 a) [] h) : Sem l z0 b N D cA yX4_endOf cX4_endOf 5 (some .int) 0 0 2 zno tX4_endOf :=
  sem_of hlt (by decide +kernel) (by decide) (fun p e s m args below meth c M a h Kn Kx hok hX hN C hr htab => sX4_endOf_0 C htab hr (fun _ _ _ q => q) _ _ _ (spec M a h Kn Kx hok (hN (fun _ h9 => h9)) (fun pc => AW p l e (zRm 0 M 0) s m args below meth c 5 z0 b (zI z0 b N D cA s) (fun _ => (0, 0)) (vx_MQ below (zQn z0 b N D cA Kn) (zXn z0 b N D cA Kx h) args s M (6 * M) (fun q => z0 ≤ q)) pc) (fun ls st h' hq => sX4_endOf_4 C htab hr (fun _ _ _ q => q) ls st h' hq)))
set_option maxRecDepth 20000 in
theorem sX4_allows_90 {l : Launch} {z0 b N M : Nat} {D : va_G} {cA : Nat → ClassId} {p : Program} {e : Env} {s : State} {m : MethodId} {args : Array Value} {below : List Frame} {meth : Method} {c : Code} {Kn : Option Value → ZH → Prop} {Kx : Nat → Prop} {h0 : ZH} (C : zCx p l (zRm 2 M 47) s m args meth c cX4_allows 4 RX4 z0 D cA M) (htab : ∀ x ∈ c.exceptionTable.toList, False) (hr : meth.sig.returnType = (some .boolean)) (HX4_allowsAlias : Sem l z0 b N D cA yX4_allowsAlias cX4_allowsAlias 4 (some .boolean) 1 24 3 zno tX4_allowsAlias) (HX5_has : Sem l z0 b N D cA yX5_has cX5_has 2 (some .boolean) 0 0 2 zno tX5_has) (HX4_endOf : Sem l z0 b N D cA yX4_endOf cX4_endOf 5 (some .int) 0 0 2 zno tX4_endOf) : Snd p l e (zRm 2 M 47) s m args below meth c 4 z0 b (zI z0 b N D cA s) (fun _ => (0, 0)) (vx_MQ below (zQn z0 b N D cA Kn) (zXn z0 b N D cA Kx h0) args s M (6 * M) (fun q => z0 ≤ q)) 90 (bX4_allows_90 M Kn Kx h0) := by
  obtain ⟨hx, hb, hml, hown, hts, -⟩ := id C
  unfold bX4_allows_90
  exact k_ret C hr dX4_allows_90
set_option maxRecDepth 20000 in
theorem sX4_allows_74 {l : Launch} {z0 b N M : Nat} {D : va_G} {cA : Nat → ClassId} {p : Program} {e : Env} {s : State} {m : MethodId} {args : Array Value} {below : List Frame} {meth : Method} {c : Code} {Kn : Option Value → ZH → Prop} {Kx : Nat → Prop} {h0 : ZH} (C : zCx p l (zRm 2 M 47) s m args meth c cX4_allows 4 RX4 z0 D cA M) (htab : ∀ x ∈ c.exceptionTable.toList, False) (hr : meth.sig.returnType = (some .boolean)) (HX4_allowsAlias : Sem l z0 b N D cA yX4_allowsAlias cX4_allowsAlias 4 (some .boolean) 1 24 3 zno tX4_allowsAlias) (HX5_has : Sem l z0 b N D cA yX5_has cX5_has 2 (some .boolean) 0 0 2 zno tX5_has) (HX4_endOf : Sem l z0 b N D cA yX4_endOf cX4_endOf 5 (some .int) 0 0 2 zno tX4_endOf) : Snd p l e (zRm 2 M 47) s m args below meth c 4 z0 b (zI z0 b N D cA s) (fun _ => (0, 0)) (vx_MQ below (zQn z0 b N D cA Kn) (zXn z0 b N D cA Kx h0) args s M (6 * M) (fun q => z0 ≤ q)) 74 (bX4_allows_74 M Kn Kx h0) := by
  obtain ⟨hx, hb, hml, hown, hts, -⟩ := id C
  unfold bX4_allows_74
  exact k_ret C hr dX4_allows_74
set_option maxRecDepth 20000 in
theorem sX4_allows_73 {l : Launch} {z0 b N M : Nat} {D : va_G} {cA : Nat → ClassId} {p : Program} {e : Env} {s : State} {m : MethodId} {args : Array Value} {below : List Frame} {meth : Method} {c : Code} {Kn : Option Value → ZH → Prop} {Kx : Nat → Prop} {h0 : ZH} (C : zCx p l (zRm 2 M 47) s m args meth c cX4_allows 4 RX4 z0 D cA M) (htab : ∀ x ∈ c.exceptionTable.toList, False) (hr : meth.sig.returnType = (some .boolean)) (HX4_allowsAlias : Sem l z0 b N D cA yX4_allowsAlias cX4_allowsAlias 4 (some .boolean) 1 24 3 zno tX4_allowsAlias) (HX5_has : Sem l z0 b N D cA yX5_has cX5_has 2 (some .boolean) 0 0 2 zno tX5_has) (HX4_endOf : Sem l z0 b N D cA yX4_endOf cX4_endOf 5 (some .int) 0 0 2 zno tX4_endOf) : Snd p l e (zRm 2 M 47) s m args below meth c 4 z0 b (zI z0 b N D cA s) (fun _ => (0, 0)) (vx_MQ below (zQn z0 b N D cA Kn) (zXn z0 b N D cA Kx h0) args s M (6 * M) (fun q => z0 ≤ q)) 73 (bX4_allows_73 M Kn Kx h0) := by
  obtain ⟨hx, hb, hml, hown, hts, -⟩ := id C
  unfold bX4_allows_73
  refine k_iconst hx hb dX4_allows_73 (by decide) ?_
  exact sX4_allows_74 C htab hr HX4_allowsAlias HX5_has HX4_endOf
set_option maxRecDepth 20000 in
theorem sX4_allows_0 {l : Launch} {z0 b N M : Nat} {D : va_G} {cA : Nat → ClassId} {p : Program} {e : Env} {s : State} {m : MethodId} {args : Array Value} {below : List Frame} {meth : Method} {c : Code} {Kn : Option Value → ZH → Prop} {Kx : Nat → Prop} {h0 : ZH} (C : zCx p l (zRm 2 M 47) s m args meth c cX4_allows 4 RX4 z0 D cA M) (htab : ∀ x ∈ c.exceptionTable.toList, False) (hr : meth.sig.returnType = (some .boolean)) (HX4_allowsAlias : Sem l z0 b N D cA yX4_allowsAlias cX4_allowsAlias 4 (some .boolean) 1 24 3 zno tX4_allowsAlias) (HX5_has : Sem l z0 b N D cA yX5_has cX5_has 2 (some .boolean) 0 0 2 zno tX5_has) (HX4_endOf : Sem l z0 b N D cA yX4_endOf cX4_endOf 5 (some .int) 0 0 2 zno tX4_endOf) : Snd p l e (zRm 2 M 47) s m args below meth c 4 z0 b (zI z0 b N D cA s) (fun _ => (0, 0)) (vx_MQ below (zQn z0 b N D cA Kn) (zXn z0 b N D cA Kx h0) args s M (6 * M) (fun q => z0 ≤ q)) 0 (bX4_allows_0 M Kn Kx h0) := by
  obtain ⟨hx, hb, hml, hown, hts, -⟩ := id C
  unfold bX4_allows_0
  refine k_iload_n hx hb dX4_allows_0 rfl ?_
  refine k_tsw hx hb (tgtD := 91) dX4_allows_1 [28, 35, 75] rfl rfl (by decide) (by decide) ?_ ?_
  · refine k_aload_n hx hb dX4_allows_91 rfl ?_
    refine k_getf C (ci := 4) (k := 1) (Tf := TX4) (Nf := 5) (Cn := RX4) rfl zinX4 (by decide) rfl zfX4_15 dX4_allows_92 ?_
    refine k_iload_n hx hb dX4_allows_95 rfl ?_
    refine k_iald C dX4_allows_96 ?_
    refine k_iload_n hx hb dX4_allows_97 rfl ?_
    refine k_callSN2 C HX5_has (host := "TagRoot") (by decide +kernel) (fun _ _ _ h => h) zsX5_has ziX5 zcX5_has (by decide +kernel) ⟨Nat.le_of_ble_eq_true rfl, Nat.le_of_ble_eq_true rfl⟩ dX4_allows_98 ?_
    exact k_ret C hr dX4_allows_101
  · intro i K t h1 h2
    match i, h1, h2 with
    | 0, h1, h2 =>
      cases h1; cases h2
      refine k_aload_n hx hb dX4_allows_28 rfl ?_
      refine k_iload_n hx hb dX4_allows_29 rfl ?_
      refine k_iload_n hx hb dX4_allows_30 rfl ?_
      refine k_callV2 C htab (ci := 4) (Tf := TX4) (Nf := 5) (Cn := RX4) rfl HX4_allowsAlias rfl zlX4_31 zmX4_allowsAlias zvX4_allowsAlias ziX4 zcX4_allowsAlias (by decide +kernel) ⟨Nat.le_of_ble_eq_true rfl, Nat.le_of_ble_eq_true rfl⟩ dX4_allows_31 ?_
      exact k_ret C hr dX4_allows_34
    | 1, h1, h2 =>
      cases h1; cases h2
      refine k_aload_n hx hb dX4_allows_35 rfl ?_
      refine k_getf C (ci := 4) (k := 1) (Tf := TX4) (Nf := 5) (Cn := RX4) rfl zinX4 (by decide) rfl zfX4_15 dX4_allows_36 ?_
      refine k_iload_n hx hb dX4_allows_39 rfl ?_
      refine k_iald C dX4_allows_40 ?_
      refine k_iload_n hx hb dX4_allows_41 rfl ?_
      refine k_callSN2 C HX5_has (host := "TagRoot") (by decide +kernel) (fun _ _ _ h => h) zsX5_has ziX5 zcX5_has (by decide +kernel) ⟨Nat.le_of_ble_eq_true rfl, Nat.le_of_ble_eq_true rfl⟩ dX4_allows_42 ?_
      refine k_if_ne (tgt := 73) hx hb dX4_allows_45 (by decide) ?_ ?_
      · exact sX4_allows_73 C htab hr HX4_allowsAlias HX5_has HX4_endOf
      · refine k_aload_n hx hb dX4_allows_48 rfl ?_
        refine k_getf C (ci := 4) (k := 3) (Tf := TX4) (Nf := 5) (Cn := RX4) rfl zinX4 (by decide) rfl zfX4_21 dX4_allows_49 ?_
        refine k_aload_n hx hb dX4_allows_52 rfl ?_
        refine k_iload_n hx hb dX4_allows_53 rfl ?_
        refine k_callV1 C htab (ci := 4) (Tf := TX4) (Nf := 5) (Cn := RX4) rfl HX4_endOf rfl zlX4_38 zmX4_endOf zvX4_endOf ziX4 zcX4_endOf (by decide +kernel) ⟨Nat.le_of_ble_eq_true rfl, Nat.le_of_ble_eq_true rfl⟩ dX4_allows_54 ?_
        refine k_iald C dX4_allows_57 ?_
        refine k_aload_n hx hb dX4_allows_58 rfl ?_
        refine k_iload_n hx hb dX4_allows_59 rfl ?_
        refine k_callV1 C htab (ci := 4) (Tf := TX4) (Nf := 5) (Cn := RX4) rfl HX4_endOf rfl zlX4_38 zmX4_endOf zvX4_endOf ziX4 zcX4_endOf (by decide +kernel) ⟨Nat.le_of_ble_eq_true rfl, Nat.le_of_ble_eq_true rfl⟩ dX4_allows_60 ?_
        refine k_callSN2 C HX5_has (host := "TagRoot") (by decide +kernel) (fun _ _ _ h => h) zsX5_has ziX5 zcX5_has (by decide +kernel) ⟨Nat.le_of_ble_eq_true rfl, Nat.le_of_ble_eq_true rfl⟩ dX4_allows_63 ?_
        refine k_if_ne (tgt := 73) hx hb dX4_allows_66 (by decide) ?_ ?_
        · exact sX4_allows_73 C htab hr HX4_allowsAlias HX5_has HX4_endOf
        · refine k_iconst hx hb dX4_allows_69 (by decide) ?_
          refine k_goto (tgt := 74) hx hb dX4_allows_70 (by decide) ?_
          exact sX4_allows_74 C htab hr HX4_allowsAlias HX5_has HX4_endOf
    | 2, h1, h2 =>
      cases h1; cases h2
      refine k_aload_n hx hb dX4_allows_75 rfl ?_
      refine k_getf C (ci := 4) (k := 0) (Tf := TX4) (Nf := 5) (Cn := RX4) rfl zinX4 (by decide) rfl zfX4_9 dX4_allows_76 ?_
      refine k_iload_n hx hb dX4_allows_79 rfl ?_
      refine k_iald C dX4_allows_80 ?_
      refine k_iload_n hx hb dX4_allows_81 rfl ?_
      refine k_icmp_ne (tgt := 89) hx hb dX4_allows_82 (by decide) ?_ ?_
      · refine k_iconst hx hb dX4_allows_89 (by decide) ?_
        exact sX4_allows_90 C htab hr HX4_allowsAlias HX5_has HX4_endOf
      · refine k_iconst hx hb dX4_allows_85 (by decide) ?_
        refine k_goto (tgt := 90) hx hb dX4_allows_86 (by decide) ?_
        exact sX4_allows_90 C htab hr HX4_allowsAlias HX5_has HX4_endOf
    | n + 3, h1, h2 => exact absurd h1 (by simp)
set_option maxRecDepth 20000 in
theorem uX4_allows {l : Launch} {z0 b N : Nat} {D : va_G} {cA : Nat → ClassId} (hlt : l.stackTraces = false) (HX4_allowsAlias : Sem l z0 b N D cA yX4_allowsAlias cX4_allowsAlias 4 (some .boolean) 1 24 3 zno tX4_allowsAlias) (HX5_has : Sem l z0 b N D cA yX5_has cX5_has 2 (some .boolean) 0 0 2 zno tX5_has) (HX4_endOf : Sem l z0 b N D cA yX4_endOf cX4_endOf 5 (some .int) 0 0 2 zno tX4_endOf) (spec : ∀ (M : Nat) (a : List Value) (h : ZH) (Kn : Option Value → ZH → Prop) (Kx : Nat → Prop), zok 4 a = true → tX4_allows a h Kn → bX4_allows_0 M Kn Kx h (zE 4 a) [] h) : Sem l z0 b N D cA yX4_allows cX4_allows 4 (some .boolean) 2 47 4 zno tX4_allows :=
  sem_of hlt (by decide +kernel) (by decide) (fun p e s m args below meth c M a h Kn Kx hok hX hN C hr htab => sX4_allows_0 C htab hr HX4_allowsAlias HX5_has HX4_endOf _ _ _ (spec M a h Kn Kx hok (hN (fun _ h9 => h9))))
set_option maxRecDepth 20000 in
theorem sX4_allowsAlias_52 {l : Launch} {z0 b N M : Nat} {D : va_G} {cA : Nat → ClassId} {p : Program} {e : Env} {s : State} {m : MethodId} {args : Array Value} {below : List Frame} {meth : Method} {c : Code} {Kn : Option Value → ZH → Prop} {Kx : Nat → Prop} {h0 : ZH} (C : zCx p l (zRm 1 M 24) s m args meth c cX4_allowsAlias 4 RX4 z0 D cA M) (htab : ∀ x ∈ c.exceptionTable.toList, False) (hr : meth.sig.returnType = (some .boolean)) (HX4_endOf : Sem l z0 b N D cA yX4_endOf cX4_endOf 5 (some .int) 0 0 2 zno tX4_endOf) (HX5_has : Sem l z0 b N D cA yX5_has cX5_has 2 (some .boolean) 0 0 2 zno tX5_has) : Snd p l e (zRm 1 M 24) s m args below meth c 4 z0 b (zI z0 b N D cA s) (fun _ => (0, 0)) (vx_MQ below (zQn z0 b N D cA Kn) (zXn z0 b N D cA Kx h0) args s M (6 * M) (fun q => z0 ≤ q)) 52 (bX4_allowsAlias_52 M Kn Kx h0) := by
  obtain ⟨hx, hb, hml, hown, hts, -⟩ := id C
  unfold bX4_allowsAlias_52
  exact k_ret C hr dX4_allowsAlias_52
set_option maxRecDepth 20000 in
theorem sX4_allowsAlias_51 {l : Launch} {z0 b N M : Nat} {D : va_G} {cA : Nat → ClassId} {p : Program} {e : Env} {s : State} {m : MethodId} {args : Array Value} {below : List Frame} {meth : Method} {c : Code} {Kn : Option Value → ZH → Prop} {Kx : Nat → Prop} {h0 : ZH} (C : zCx p l (zRm 1 M 24) s m args meth c cX4_allowsAlias 4 RX4 z0 D cA M) (htab : ∀ x ∈ c.exceptionTable.toList, False) (hr : meth.sig.returnType = (some .boolean)) (HX4_endOf : Sem l z0 b N D cA yX4_endOf cX4_endOf 5 (some .int) 0 0 2 zno tX4_endOf) (HX5_has : Sem l z0 b N D cA yX5_has cX5_has 2 (some .boolean) 0 0 2 zno tX5_has) : Snd p l e (zRm 1 M 24) s m args below meth c 4 z0 b (zI z0 b N D cA s) (fun _ => (0, 0)) (vx_MQ below (zQn z0 b N D cA Kn) (zXn z0 b N D cA Kx h0) args s M (6 * M) (fun q => z0 ≤ q)) 51 (bX4_allowsAlias_51 M Kn Kx h0) := by
  obtain ⟨hx, hb, hml, hown, hts, -⟩ := id C
  unfold bX4_allowsAlias_51
  refine k_iconst hx hb dX4_allowsAlias_51 (by decide) ?_
  exact sX4_allowsAlias_52 C htab hr HX4_endOf HX5_has
set_option maxRecDepth 20000 in
theorem sX4_allowsAlias_0 {l : Launch} {z0 b N M : Nat} {D : va_G} {cA : Nat → ClassId} {p : Program} {e : Env} {s : State} {m : MethodId} {args : Array Value} {below : List Frame} {meth : Method} {c : Code} {Kn : Option Value → ZH → Prop} {Kx : Nat → Prop} {h0 : ZH} (C : zCx p l (zRm 1 M 24) s m args meth c cX4_allowsAlias 4 RX4 z0 D cA M) (htab : ∀ x ∈ c.exceptionTable.toList, False) (hr : meth.sig.returnType = (some .boolean)) (HX4_endOf : Sem l z0 b N D cA yX4_endOf cX4_endOf 5 (some .int) 0 0 2 zno tX4_endOf) (HX5_has : Sem l z0 b N D cA yX5_has cX5_has 2 (some .boolean) 0 0 2 zno tX5_has) : Snd p l e (zRm 1 M 24) s m args below meth c 4 z0 b (zI z0 b N D cA s) (fun _ => (0, 0)) (vx_MQ below (zQn z0 b N D cA Kn) (zXn z0 b N D cA Kx h0) args s M (6 * M) (fun q => z0 ≤ q)) 0 (bX4_allowsAlias_0 M Kn Kx h0) := by
  obtain ⟨hx, hb, hml, hown, hts, -⟩ := id C
  unfold bX4_allowsAlias_0
  refine k_aload_n hx hb dX4_allowsAlias_0 rfl ?_
  refine k_iload_n hx hb dX4_allowsAlias_1 rfl ?_
  refine k_callV1 C htab (ci := 4) (Tf := TX4) (Nf := 5) (Cn := RX4) rfl HX4_endOf rfl zlX4_38 zmX4_endOf zvX4_endOf ziX4 zcX4_endOf (by decide +kernel) ⟨Nat.le_of_ble_eq_true rfl, Nat.le_of_ble_eq_true rfl⟩ dX4_allowsAlias_2 ?_
  refine k_istore_n hx hb dX4_allowsAlias_5 rfl ?_
  refine k_aload_n hx hb dX4_allowsAlias_6 rfl ?_
  refine k_getf C (ci := 4) (k := 0) (Tf := TX4) (Nf := 5) (Cn := RX4) rfl zinX4 (by decide) rfl zfX4_9 dX4_allowsAlias_7 ?_
  refine k_iload_n hx hb dX4_allowsAlias_10 rfl ?_
  refine k_iald C dX4_allowsAlias_11 ?_
  refine k_iconst hx hb dX4_allowsAlias_12 (by decide) ?_
  refine k_icmp_ne (tgt := 51) hx hb dX4_allowsAlias_13 (by decide) ?_ ?_
  · exact sX4_allowsAlias_51 C htab hr HX4_endOf HX5_has
  · refine k_iload_n hx hb dX4_allowsAlias_16 rfl ?_
    refine k_iload_n hx hb dX4_allowsAlias_17 rfl ?_
    refine k_icmp_eq (tgt := 51) hx hb dX4_allowsAlias_18 (by decide) ?_ ?_
    · exact sX4_allowsAlias_51 C htab hr HX4_endOf HX5_has
    · refine k_aload_n hx hb dX4_allowsAlias_21 rfl ?_
      refine k_getf C (ci := 4) (k := 3) (Tf := TX4) (Nf := 5) (Cn := RX4) rfl zinX4 (by decide) rfl zfX4_21 dX4_allowsAlias_22 ?_
      refine k_iload_n hx hb dX4_allowsAlias_25 rfl ?_
      refine k_iald C dX4_allowsAlias_26 ?_
      refine k_iload_n hx hb dX4_allowsAlias_27 rfl ?_
      refine k_callSN2 C HX5_has (host := "TagRoot") (by decide +kernel) (fun _ _ _ h => h) zsX5_has ziX5 zcX5_has (by decide +kernel) ⟨Nat.le_of_ble_eq_true rfl, Nat.le_of_ble_eq_true rfl⟩ dX4_allowsAlias_28 ?_
      refine k_if_ne (tgt := 51) hx hb dX4_allowsAlias_31 (by decide) ?_ ?_
      · exact sX4_allowsAlias_51 C htab hr HX4_endOf HX5_has
      · refine k_aload_n hx hb dX4_allowsAlias_34 rfl ?_
        refine k_getf C (ci := 4) (k := 3) (Tf := TX4) (Nf := 5) (Cn := RX4) rfl zinX4 (by decide) rfl zfX4_21 dX4_allowsAlias_35 ?_
        refine k_iload_n hx hb dX4_allowsAlias_38 rfl ?_
        refine k_iald C dX4_allowsAlias_39 ?_
        refine k_iload_n hx hb dX4_allowsAlias_40 rfl ?_
        refine k_callSN2 C HX5_has (host := "TagRoot") (by decide +kernel) (fun _ _ _ h => h) zsX5_has ziX5 zcX5_has (by decide +kernel) ⟨Nat.le_of_ble_eq_true rfl, Nat.le_of_ble_eq_true rfl⟩ dX4_allowsAlias_41 ?_
        refine k_if_ne (tgt := 51) hx hb dX4_allowsAlias_44 (by decide) ?_ ?_
        · exact sX4_allowsAlias_51 C htab hr HX4_endOf HX5_has
        · refine k_iconst hx hb dX4_allowsAlias_47 (by decide) ?_
          refine k_goto (tgt := 52) hx hb dX4_allowsAlias_48 (by decide) ?_
          exact sX4_allowsAlias_52 C htab hr HX4_endOf HX5_has
set_option maxRecDepth 20000 in
theorem uX4_allowsAlias {l : Launch} {z0 b N : Nat} {D : va_G} {cA : Nat → ClassId} (hlt : l.stackTraces = false) (HX4_endOf : Sem l z0 b N D cA yX4_endOf cX4_endOf 5 (some .int) 0 0 2 zno tX4_endOf) (HX5_has : Sem l z0 b N D cA yX5_has cX5_has 2 (some .boolean) 0 0 2 zno tX5_has) (spec : ∀ (M : Nat) (a : List Value) (h : ZH) (Kn : Option Value → ZH → Prop) (Kx : Nat → Prop), zok 3 a = true → tX4_allowsAlias a h Kn → bX4_allowsAlias_0 M Kn Kx h (zE 4 a) [] h) : Sem l z0 b N D cA yX4_allowsAlias cX4_allowsAlias 4 (some .boolean) 1 24 3 zno tX4_allowsAlias :=
  sem_of hlt (by decide +kernel) (by decide) (fun p e s m args below meth c M a h Kn Kx hok hX hN C hr htab => sX4_allowsAlias_0 C htab hr HX4_endOf HX5_has _ _ _ (spec M a h Kn Kx hok (hN (fun _ h9 => h9))))
set_option maxRecDepth 20000 in
theorem sX4_carryOut_77 {l : Launch} {z0 b N M : Nat} {D : va_G} {cA : Nat → ClassId} {p : Program} {e : Env} {s : State} {m : MethodId} {args : Array Value} {below : List Frame} {meth : Method} {c : Code} {Kn : Option Value → ZH → Prop} {Kx : Nat → Prop} {h0 : ZH} (C : zCx p l (zRm 3 M 68) s m args meth c cX4_carryOut 4 RX4 z0 D cA M) (htab : ∀ x ∈ c.exceptionTable.toList, False) (hr : meth.sig.returnType = none) (HX4_workOut : Sem l z0 b N D cA yX4_workOut cX4_workOut 2 none 2 47 1 zno tX4_workOut) : Snd p l e (zRm 3 M 68) s m args below meth c 4 z0 b (zI z0 b N D cA s) (fun _ => (0, 0)) (vx_MQ below (zQn z0 b N D cA Kn) (zXn z0 b N D cA Kx h0) args s M (6 * M) (fun q => z0 ≤ q)) 77 (bX4_carryOut_77 M Kn Kx h0) := by
  obtain ⟨hx, hb, hml, hown, hts, -⟩ := id C
  unfold bX4_carryOut_77
  refine k_aload_n hx hb dX4_carryOut_77 rfl ?_
  refine k_callV0 C htab (ci := 4) (Tf := TX4) (Nf := 5) (Cn := RX4) rfl HX4_workOut rfl zlX4_28 zmX4_workOut zvX4_workOut ziX4 zcX4_workOut (by decide +kernel) ⟨Nat.le_of_ble_eq_true rfl, Nat.le_of_ble_eq_true rfl⟩ dX4_carryOut_78 ?_
  exact k_vret C hr dX4_carryOut_81
set_option maxRecDepth 20000 in
theorem sX4_carryOut_0 {l : Launch} {z0 b N M : Nat} {D : va_G} {cA : Nat → ClassId} {p : Program} {e : Env} {s : State} {m : MethodId} {args : Array Value} {below : List Frame} {meth : Method} {c : Code} {Kn : Option Value → ZH → Prop} {Kx : Nat → Prop} {h0 : ZH} (C : zCx p l (zRm 3 M 68) s m args meth c cX4_carryOut 4 RX4 z0 D cA M) (htab : ∀ x ∈ c.exceptionTable.toList, False) (hr : meth.sig.returnType = none) (HX4_workOut : Sem l z0 b N D cA yX4_workOut cX4_workOut 2 none 2 47 1 zno tX4_workOut) : Snd p l e (zRm 3 M 68) s m args below meth c 4 z0 b (zI z0 b N D cA s) (fun _ => (0, 0)) (vx_MQ below (zQn z0 b N D cA Kn) (zXn z0 b N D cA Kx h0) args s M (6 * M) (fun q => z0 ≤ q)) 0 (bX4_carryOut_0 M Kn Kx h0) := by
  obtain ⟨hx, hb, hml, hown, hts, -⟩ := id C
  unfold bX4_carryOut_0
  refine k_iload_n hx hb dX4_carryOut_0 rfl ?_
  refine k_tsw hx hb (tgtD := 63) dX4_carryOut_1 [28, 38, 53] rfl rfl (by decide) (by decide) ?_ ?_
  · refine k_aload_n hx hb dX4_carryOut_63 rfl ?_
    refine k_getf C (ci := 4) (k := 1) (Tf := TX4) (Nf := 5) (Cn := RX4) rfl zinX4 (by decide) rfl zfX4_15 dX4_carryOut_64 ?_
    refine k_iload_n hx hb dX4_carryOut_67 rfl ?_
    refine k_dup2 hx hb dX4_carryOut_68 ?_
    refine k_iald C dX4_carryOut_69 ?_
    refine k_iconst hx hb dX4_carryOut_70 (by decide) ?_
    refine k_iload_n hx hb dX4_carryOut_71 rfl ?_
    refine k_ishl hx hb dX4_carryOut_72 ?_
    refine k_iconst hx hb dX4_carryOut_73 (by decide) ?_
    refine k_ixor hx hb dX4_carryOut_74 ?_
    refine k_iand hx hb dX4_carryOut_75 ?_
    refine k_iast C dX4_carryOut_76 ?_
    exact sX4_carryOut_77 C htab hr HX4_workOut
  · intro i K t h1 h2
    match i, h1, h2 with
    | 0, h1, h2 =>
      cases h1; cases h2
      refine k_aload_n hx hb dX4_carryOut_28 rfl ?_
      refine k_getf C (ci := 4) (k := 0) (Tf := TX4) (Nf := 5) (Cn := RX4) rfl zinX4 (by decide) rfl zfX4_9 dX4_carryOut_29 ?_
      refine k_iload_n hx hb dX4_carryOut_32 rfl ?_
      refine k_iload_n hx hb dX4_carryOut_33 rfl ?_
      refine k_iast C dX4_carryOut_34 ?_
      refine k_goto (tgt := 77) hx hb dX4_carryOut_35 (by decide) ?_
      exact sX4_carryOut_77 C htab hr HX4_workOut
    | 1, h1, h2 =>
      cases h1; cases h2
      refine k_aload_n hx hb dX4_carryOut_38 rfl ?_
      refine k_getf C (ci := 4) (k := 1) (Tf := TX4) (Nf := 5) (Cn := RX4) rfl zinX4 (by decide) rfl zfX4_15 dX4_carryOut_39 ?_
      refine k_iload_n hx hb dX4_carryOut_42 rfl ?_
      refine k_dup2 hx hb dX4_carryOut_43 ?_
      refine k_iald C dX4_carryOut_44 ?_
      refine k_iconst hx hb dX4_carryOut_45 (by decide) ?_
      refine k_iload_n hx hb dX4_carryOut_46 rfl ?_
      refine k_ishl hx hb dX4_carryOut_47 ?_
      refine k_ior hx hb dX4_carryOut_48 ?_
      refine k_iast C dX4_carryOut_49 ?_
      refine k_goto (tgt := 77) hx hb dX4_carryOut_50 (by decide) ?_
      exact sX4_carryOut_77 C htab hr HX4_workOut
    | 2, h1, h2 =>
      cases h1; cases h2
      refine k_aload_n hx hb dX4_carryOut_53 rfl ?_
      refine k_getf C (ci := 4) (k := 0) (Tf := TX4) (Nf := 5) (Cn := RX4) rfl zinX4 (by decide) rfl zfX4_9 dX4_carryOut_54 ?_
      refine k_iload_n hx hb dX4_carryOut_57 rfl ?_
      refine k_iconst hx hb dX4_carryOut_58 (by decide) ?_
      refine k_iast C dX4_carryOut_59 ?_
      refine k_goto (tgt := 77) hx hb dX4_carryOut_60 (by decide) ?_
      exact sX4_carryOut_77 C htab hr HX4_workOut
    | n + 3, h1, h2 => exact absurd h1 (by simp)
set_option maxRecDepth 20000 in
theorem uX4_carryOut {l : Launch} {z0 b N : Nat} {D : va_G} {cA : Nat → ClassId} (hlt : l.stackTraces = false) (HX4_workOut : Sem l z0 b N D cA yX4_workOut cX4_workOut 2 none 2 47 1 zno tX4_workOut) (spec : ∀ (M : Nat) (a : List Value) (h : ZH) (Kn : Option Value → ZH → Prop) (Kx : Nat → Prop), zok 4 a = true → tX4_carryOut a h Kn → bX4_carryOut_0 M Kn Kx h (zE 4 a) [] h) : Sem l z0 b N D cA yX4_carryOut cX4_carryOut 4 none 3 68 4 zno tX4_carryOut :=
  sem_of hlt (by decide +kernel) (by decide) (fun p e s m args below meth c M a h Kn Kx hok hX hN C hr htab => sX4_carryOut_0 C htab hr HX4_workOut _ _ _ (spec M a h Kn Kx hok (hN (fun _ h9 => h9))))
set_option maxRecDepth 20000 in
theorem sX4_workOut_127 {l : Launch} {z0 b N M : Nat} {D : va_G} {cA : Nat → ClassId} {p : Program} {e : Env} {s : State} {m : MethodId} {args : Array Value} {below : List Frame} {meth : Method} {c : Code} {Kn : Option Value → ZH → Prop} {Kx : Nat → Prop} {h0 : ZH} {K2 K25 K73 K105 : ZK ZH} (C : zCx p l (zRm 2 M 47) s m args meth c cX4_workOut 2 RX4 z0 D cA M) (htab : ∀ x ∈ c.exceptionTable.toList, False) (hr : meth.sig.returnType = none) (HX4_endOf : Sem l z0 b N D cA yX4_endOf cX4_endOf 5 (some .int) 0 0 2 zno tX4_endOf) (HX4_endsOf : Sem l z0 b N D cA yX4_endsOf cX4_endsOf 4 (some .int) 1 24 2 zno tX4_endsOf) (HX4_reachOver : Sem l z0 b N D cA yX4_reachOver cX4_reachOver 3 none 1 21 2 zno tX4_reachOver) (hK2 : Snd p l e (zRm 2 M 47) s m args below meth c 2 z0 b (zI z0 b N D cA s) (fun _ => (0, 0)) (vx_MQ below (zQn z0 b N D cA Kn) (zXn z0 b N D cA Kx h0) args s M (6 * M) (fun q => z0 ≤ q)) 2 K2) (hK25 : Snd p l e (zRm 2 M 47) s m args below meth c 2 z0 b (zI z0 b N D cA s) (fun _ => (0, 0)) (vx_MQ below (zQn z0 b N D cA Kn) (zXn z0 b N D cA Kx h0) args s M (6 * M) (fun q => z0 ≤ q)) 25 K25) (hK73 : Snd p l e (zRm 2 M 47) s m args below meth c 2 z0 b (zI z0 b N D cA s) (fun _ => (0, 0)) (vx_MQ below (zQn z0 b N D cA Kn) (zXn z0 b N D cA Kx h0) args s M (6 * M) (fun q => z0 ≤ q)) 73 K73) (hK105 : Snd p l e (zRm 2 M 47) s m args below meth c 2 z0 b (zI z0 b N D cA s) (fun _ => (0, 0)) (vx_MQ below (zQn z0 b N D cA Kn) (zXn z0 b N D cA Kx h0) args s M (6 * M) (fun q => z0 ≤ q)) 105 K105) : Snd p l e (zRm 2 M 47) s m args below meth c 2 z0 b (zI z0 b N D cA s) (fun _ => (0, 0)) (vx_MQ below (zQn z0 b N D cA Kn) (zXn z0 b N D cA Kx h0) args s M (6 * M) (fun q => z0 ≤ q)) 127 (bX4_workOut_127 M Kn Kx h0 K2 K25 K73 K105) := by
  obtain ⟨hx, hb, hml, hown, hts, -⟩ := id C
  unfold bX4_workOut_127
  refine k_iinc hx hb dX4_workOut_127 (by decide) ?_
  refine k_goto (tgt := 105) hx hb dX4_workOut_130 (by decide) ?_
  exact hK105
set_option maxRecDepth 20000 in
theorem sX4_workOut_105 {l : Launch} {z0 b N M : Nat} {D : va_G} {cA : Nat → ClassId} {p : Program} {e : Env} {s : State} {m : MethodId} {args : Array Value} {below : List Frame} {meth : Method} {c : Code} {Kn : Option Value → ZH → Prop} {Kx : Nat → Prop} {h0 : ZH} {K2 K25 K73 K105 : ZK ZH} (C : zCx p l (zRm 2 M 47) s m args meth c cX4_workOut 2 RX4 z0 D cA M) (htab : ∀ x ∈ c.exceptionTable.toList, False) (hr : meth.sig.returnType = none) (HX4_endOf : Sem l z0 b N D cA yX4_endOf cX4_endOf 5 (some .int) 0 0 2 zno tX4_endOf) (HX4_endsOf : Sem l z0 b N D cA yX4_endsOf cX4_endsOf 4 (some .int) 1 24 2 zno tX4_endsOf) (HX4_reachOver : Sem l z0 b N D cA yX4_reachOver cX4_reachOver 3 none 1 21 2 zno tX4_reachOver) (hK2 : Snd p l e (zRm 2 M 47) s m args below meth c 2 z0 b (zI z0 b N D cA s) (fun _ => (0, 0)) (vx_MQ below (zQn z0 b N D cA Kn) (zXn z0 b N D cA Kx h0) args s M (6 * M) (fun q => z0 ≤ q)) 2 K2) (hK25 : Snd p l e (zRm 2 M 47) s m args below meth c 2 z0 b (zI z0 b N D cA s) (fun _ => (0, 0)) (vx_MQ below (zQn z0 b N D cA Kn) (zXn z0 b N D cA Kx h0) args s M (6 * M) (fun q => z0 ≤ q)) 25 K25) (hK73 : Snd p l e (zRm 2 M 47) s m args below meth c 2 z0 b (zI z0 b N D cA s) (fun _ => (0, 0)) (vx_MQ below (zQn z0 b N D cA Kn) (zXn z0 b N D cA Kx h0) args s M (6 * M) (fun q => z0 ≤ q)) 73 K73) (hK105 : Snd p l e (zRm 2 M 47) s m args below meth c 2 z0 b (zI z0 b N D cA s) (fun _ => (0, 0)) (vx_MQ below (zQn z0 b N D cA Kn) (zXn z0 b N D cA Kx h0) args s M (6 * M) (fun q => z0 ≤ q)) 105 K105) : Snd p l e (zRm 2 M 47) s m args below meth c 2 z0 b (zI z0 b N D cA s) (fun _ => (0, 0)) (vx_MQ below (zQn z0 b N D cA Kn) (zXn z0 b N D cA Kx h0) args s M (6 * M) (fun q => z0 ≤ q)) 105 (bX4_workOut_105 M Kn Kx h0 K2 K25 K73 K105) := by
  obtain ⟨hx, hb, hml, hown, hts, -⟩ := id C
  unfold bX4_workOut_105
  refine k_iload_n hx hb dX4_workOut_105 rfl ?_
  refine k_aload_n hx hb dX4_workOut_106 rfl ?_
  refine k_getf C (ci := 4) (k := 4) (Tf := TX4) (Nf := 5) (Cn := RX4) rfl zinX4 (by decide) rfl zfX4_24 dX4_workOut_107 ?_
  refine k_icmp_ge (tgt := 133) hx hb dX4_workOut_110 (by decide) ?_ ?_
  · exact k_vret C hr dX4_workOut_133
  · refine k_aload_n hx hb dX4_workOut_113 rfl ?_
    refine k_getf C (ci := 4) (k := 2) (Tf := TX4) (Nf := 5) (Cn := RX4) rfl zinX4 (by decide) rfl zfX4_18 dX4_workOut_114 ?_
    refine k_iload_n hx hb dX4_workOut_117 rfl ?_
    refine k_iald C dX4_workOut_118 ?_
    refine k_if_eq (tgt := 127) hx hb dX4_workOut_119 (by decide) ?_ ?_
    · exact sX4_workOut_127 C htab hr HX4_endOf HX4_endsOf HX4_reachOver hK2 hK25 hK73 hK105
    · refine k_aload_n hx hb dX4_workOut_122 rfl ?_
      refine k_iload_n hx hb dX4_workOut_123 rfl ?_
      refine k_callV1 C htab (ci := 4) (Tf := TX4) (Nf := 5) (Cn := RX4) rfl HX4_reachOver rfl zlX4_45 zmX4_reachOver zvX4_reachOver ziX4 zcX4_reachOver (by decide +kernel) ⟨Nat.le_of_ble_eq_true rfl, Nat.le_of_ble_eq_true rfl⟩ dX4_workOut_124 ?_
      exact sX4_workOut_127 C htab hr HX4_endOf HX4_endsOf HX4_reachOver hK2 hK25 hK73 hK105
set_option maxRecDepth 20000 in
theorem sX4_workOut_73 {l : Launch} {z0 b N M : Nat} {D : va_G} {cA : Nat → ClassId} {p : Program} {e : Env} {s : State} {m : MethodId} {args : Array Value} {below : List Frame} {meth : Method} {c : Code} {Kn : Option Value → ZH → Prop} {Kx : Nat → Prop} {h0 : ZH} {K2 K25 K73 K105 : ZK ZH} (C : zCx p l (zRm 2 M 47) s m args meth c cX4_workOut 2 RX4 z0 D cA M) (htab : ∀ x ∈ c.exceptionTable.toList, False) (hr : meth.sig.returnType = none) (HX4_endOf : Sem l z0 b N D cA yX4_endOf cX4_endOf 5 (some .int) 0 0 2 zno tX4_endOf) (HX4_endsOf : Sem l z0 b N D cA yX4_endsOf cX4_endsOf 4 (some .int) 1 24 2 zno tX4_endsOf) (HX4_reachOver : Sem l z0 b N D cA yX4_reachOver cX4_reachOver 3 none 1 21 2 zno tX4_reachOver) (hK2 : Snd p l e (zRm 2 M 47) s m args below meth c 2 z0 b (zI z0 b N D cA s) (fun _ => (0, 0)) (vx_MQ below (zQn z0 b N D cA Kn) (zXn z0 b N D cA Kx h0) args s M (6 * M) (fun q => z0 ≤ q)) 2 K2) (hK25 : Snd p l e (zRm 2 M 47) s m args below meth c 2 z0 b (zI z0 b N D cA s) (fun _ => (0, 0)) (vx_MQ below (zQn z0 b N D cA Kn) (zXn z0 b N D cA Kx h0) args s M (6 * M) (fun q => z0 ≤ q)) 25 K25) (hK73 : Snd p l e (zRm 2 M 47) s m args below meth c 2 z0 b (zI z0 b N D cA s) (fun _ => (0, 0)) (vx_MQ below (zQn z0 b N D cA Kn) (zXn z0 b N D cA Kx h0) args s M (6 * M) (fun q => z0 ≤ q)) 73 K73) (hK105 : Snd p l e (zRm 2 M 47) s m args below meth c 2 z0 b (zI z0 b N D cA s) (fun _ => (0, 0)) (vx_MQ below (zQn z0 b N D cA Kn) (zXn z0 b N D cA Kx h0) args s M (6 * M) (fun q => z0 ≤ q)) 105 K105) : Snd p l e (zRm 2 M 47) s m args below meth c 2 z0 b (zI z0 b N D cA s) (fun _ => (0, 0)) (vx_MQ below (zQn z0 b N D cA Kn) (zXn z0 b N D cA Kx h0) args s M (6 * M) (fun q => z0 ≤ q)) 73 (bX4_workOut_73 M Kn Kx h0 K2 K25 K73 K105) := by
  obtain ⟨hx, hb, hml, hown, hts, -⟩ := id C
  unfold bX4_workOut_73
  refine k_iload_n hx hb dX4_workOut_73 rfl ?_
  refine k_aload_n hx hb dX4_workOut_74 rfl ?_
  refine k_getf C (ci := 4) (k := 4) (Tf := TX4) (Nf := 5) (Cn := RX4) rfl zinX4 (by decide) rfl zfX4_24 dX4_workOut_75 ?_
  refine k_icmp_ge (tgt := 103) hx hb dX4_workOut_78 (by decide) ?_ ?_
  · refine k_iconst hx hb dX4_workOut_103 (by decide) ?_
    refine k_istore_n hx hb dX4_workOut_104 rfl ?_
    exact hK105
  · refine k_aload_n hx hb dX4_workOut_81 rfl ?_
    refine k_getf C (ci := 4) (k := 3) (Tf := TX4) (Nf := 5) (Cn := RX4) rfl zinX4 (by decide) rfl zfX4_21 dX4_workOut_82 ?_
    refine k_iload_n hx hb dX4_workOut_85 rfl ?_
    refine k_aload_n hx hb dX4_workOut_86 rfl ?_
    refine k_getf C (ci := 4) (k := 2) (Tf := TX4) (Nf := 5) (Cn := RX4) rfl zinX4 (by decide) rfl zfX4_18 dX4_workOut_87 ?_
    refine k_iload_n hx hb dX4_workOut_90 rfl ?_
    refine k_iald C dX4_workOut_91 ?_
    refine k_iconst hx hb dX4_workOut_92 (by decide) ?_
    refine k_iload_n hx hb dX4_workOut_93 rfl ?_
    refine k_ishl hx hb dX4_workOut_94 ?_
    refine k_ior hx hb dX4_workOut_95 ?_
    refine k_iast C dX4_workOut_96 ?_
    refine k_iinc hx hb dX4_workOut_97 (by decide) ?_
    refine k_goto (tgt := 73) hx hb dX4_workOut_100 (by decide) ?_
    exact hK73
set_option maxRecDepth 20000 in
theorem sX4_workOut_65 {l : Launch} {z0 b N M : Nat} {D : va_G} {cA : Nat → ClassId} {p : Program} {e : Env} {s : State} {m : MethodId} {args : Array Value} {below : List Frame} {meth : Method} {c : Code} {Kn : Option Value → ZH → Prop} {Kx : Nat → Prop} {h0 : ZH} {K2 K25 K73 K105 : ZK ZH} (C : zCx p l (zRm 2 M 47) s m args meth c cX4_workOut 2 RX4 z0 D cA M) (htab : ∀ x ∈ c.exceptionTable.toList, False) (hr : meth.sig.returnType = none) (HX4_endOf : Sem l z0 b N D cA yX4_endOf cX4_endOf 5 (some .int) 0 0 2 zno tX4_endOf) (HX4_endsOf : Sem l z0 b N D cA yX4_endsOf cX4_endsOf 4 (some .int) 1 24 2 zno tX4_endsOf) (HX4_reachOver : Sem l z0 b N D cA yX4_reachOver cX4_reachOver 3 none 1 21 2 zno tX4_reachOver) (hK2 : Snd p l e (zRm 2 M 47) s m args below meth c 2 z0 b (zI z0 b N D cA s) (fun _ => (0, 0)) (vx_MQ below (zQn z0 b N D cA Kn) (zXn z0 b N D cA Kx h0) args s M (6 * M) (fun q => z0 ≤ q)) 2 K2) (hK25 : Snd p l e (zRm 2 M 47) s m args below meth c 2 z0 b (zI z0 b N D cA s) (fun _ => (0, 0)) (vx_MQ below (zQn z0 b N D cA Kn) (zXn z0 b N D cA Kx h0) args s M (6 * M) (fun q => z0 ≤ q)) 25 K25) (hK73 : Snd p l e (zRm 2 M 47) s m args below meth c 2 z0 b (zI z0 b N D cA s) (fun _ => (0, 0)) (vx_MQ below (zQn z0 b N D cA Kn) (zXn z0 b N D cA Kx h0) args s M (6 * M) (fun q => z0 ≤ q)) 73 K73) (hK105 : Snd p l e (zRm 2 M 47) s m args below meth c 2 z0 b (zI z0 b N D cA s) (fun _ => (0, 0)) (vx_MQ below (zQn z0 b N D cA Kn) (zXn z0 b N D cA Kx h0) args s M (6 * M) (fun q => z0 ≤ q)) 105 K105) : Snd p l e (zRm 2 M 47) s m args below meth c 2 z0 b (zI z0 b N D cA s) (fun _ => (0, 0)) (vx_MQ below (zQn z0 b N D cA Kn) (zXn z0 b N D cA Kx h0) args s M (6 * M) (fun q => z0 ≤ q)) 65 (bX4_workOut_65 M Kn Kx h0 K2 K25 K73 K105) := by
  obtain ⟨hx, hb, hml, hown, hts, -⟩ := id C
  unfold bX4_workOut_65
  refine k_iinc hx hb dX4_workOut_65 (by decide) ?_
  refine k_goto (tgt := 25) hx hb dX4_workOut_68 (by decide) ?_
  exact hK25
set_option maxRecDepth 20000 in
theorem sX4_workOut_25 {l : Launch} {z0 b N M : Nat} {D : va_G} {cA : Nat → ClassId} {p : Program} {e : Env} {s : State} {m : MethodId} {args : Array Value} {below : List Frame} {meth : Method} {c : Code} {Kn : Option Value → ZH → Prop} {Kx : Nat → Prop} {h0 : ZH} {K2 K25 K73 K105 : ZK ZH} (C : zCx p l (zRm 2 M 47) s m args meth c cX4_workOut 2 RX4 z0 D cA M) (htab : ∀ x ∈ c.exceptionTable.toList, False) (hr : meth.sig.returnType = none) (HX4_endOf : Sem l z0 b N D cA yX4_endOf cX4_endOf 5 (some .int) 0 0 2 zno tX4_endOf) (HX4_endsOf : Sem l z0 b N D cA yX4_endsOf cX4_endsOf 4 (some .int) 1 24 2 zno tX4_endsOf) (HX4_reachOver : Sem l z0 b N D cA yX4_reachOver cX4_reachOver 3 none 1 21 2 zno tX4_reachOver) (hK2 : Snd p l e (zRm 2 M 47) s m args below meth c 2 z0 b (zI z0 b N D cA s) (fun _ => (0, 0)) (vx_MQ below (zQn z0 b N D cA Kn) (zXn z0 b N D cA Kx h0) args s M (6 * M) (fun q => z0 ≤ q)) 2 K2) (hK25 : Snd p l e (zRm 2 M 47) s m args below meth c 2 z0 b (zI z0 b N D cA s) (fun _ => (0, 0)) (vx_MQ below (zQn z0 b N D cA Kn) (zXn z0 b N D cA Kx h0) args s M (6 * M) (fun q => z0 ≤ q)) 25 K25) (hK73 : Snd p l e (zRm 2 M 47) s m args below meth c 2 z0 b (zI z0 b N D cA s) (fun _ => (0, 0)) (vx_MQ below (zQn z0 b N D cA Kn) (zXn z0 b N D cA Kx h0) args s M (6 * M) (fun q => z0 ≤ q)) 73 K73) (hK105 : Snd p l e (zRm 2 M 47) s m args below meth c 2 z0 b (zI z0 b N D cA s) (fun _ => (0, 0)) (vx_MQ below (zQn z0 b N D cA Kn) (zXn z0 b N D cA Kx h0) args s M (6 * M) (fun q => z0 ≤ q)) 105 K105) : Snd p l e (zRm 2 M 47) s m args below meth c 2 z0 b (zI z0 b N D cA s) (fun _ => (0, 0)) (vx_MQ below (zQn z0 b N D cA Kn) (zXn z0 b N D cA Kx h0) args s M (6 * M) (fun q => z0 ≤ q)) 25 (bX4_workOut_25 M Kn Kx h0 K2 K25 K73 K105) := by
  obtain ⟨hx, hb, hml, hown, hts, -⟩ := id C
  unfold bX4_workOut_25
  refine k_iload_n hx hb dX4_workOut_25 rfl ?_
  refine k_aload_n hx hb dX4_workOut_26 rfl ?_
  refine k_getf C (ci := 4) (k := 4) (Tf := TX4) (Nf := 5) (Cn := RX4) rfl zinX4 (by decide) rfl zfX4_24 dX4_workOut_27 ?_
  refine k_icmp_ge (tgt := 71) hx hb dX4_workOut_30 (by decide) ?_ ?_
  · refine k_iconst hx hb dX4_workOut_71 (by decide) ?_
    refine k_istore_n hx hb dX4_workOut_72 rfl ?_
    exact hK73
  · refine k_aload_n hx hb dX4_workOut_33 rfl ?_
    refine k_getf C (ci := 4) (k := 1) (Tf := TX4) (Nf := 5) (Cn := RX4) rfl zinX4 (by decide) rfl zfX4_15 dX4_workOut_34 ?_
    refine k_iload_n hx hb dX4_workOut_37 rfl ?_
    refine k_iald C dX4_workOut_38 ?_
    refine k_if_eq (tgt := 65) hx hb dX4_workOut_39 (by decide) ?_ ?_
    · exact sX4_workOut_65 C htab hr HX4_endOf HX4_endsOf HX4_reachOver hK2 hK25 hK73 hK105
    · refine k_aload_n hx hb dX4_workOut_42 rfl ?_
      refine k_getf C (ci := 4) (k := 2) (Tf := TX4) (Nf := 5) (Cn := RX4) rfl zinX4 (by decide) rfl zfX4_18 dX4_workOut_43 ?_
      refine k_aload_n hx hb dX4_workOut_46 rfl ?_
      refine k_iload_n hx hb dX4_workOut_47 rfl ?_
      refine k_callV1 C htab (ci := 4) (Tf := TX4) (Nf := 5) (Cn := RX4) rfl HX4_endOf rfl zlX4_38 zmX4_endOf zvX4_endOf ziX4 zcX4_endOf (by decide +kernel) ⟨Nat.le_of_ble_eq_true rfl, Nat.le_of_ble_eq_true rfl⟩ dX4_workOut_48 ?_
      refine k_dup2 hx hb dX4_workOut_51 ?_
      refine k_iald C dX4_workOut_52 ?_
      refine k_aload_n hx hb dX4_workOut_53 rfl ?_
      refine k_aload_n hx hb dX4_workOut_54 rfl ?_
      refine k_getf C (ci := 4) (k := 1) (Tf := TX4) (Nf := 5) (Cn := RX4) rfl zinX4 (by decide) rfl zfX4_15 dX4_workOut_55 ?_
      refine k_iload_n hx hb dX4_workOut_58 rfl ?_
      refine k_iald C dX4_workOut_59 ?_
      refine k_callV1 C htab (ci := 4) (Tf := TX4) (Nf := 5) (Cn := RX4) rfl HX4_endsOf rfl zlX4_42 zmX4_endsOf zvX4_endsOf ziX4 zcX4_endsOf (by decide +kernel) ⟨Nat.le_of_ble_eq_true rfl, Nat.le_of_ble_eq_true rfl⟩ dX4_workOut_60 ?_
      refine k_ior hx hb dX4_workOut_63 ?_
      refine k_iast C dX4_workOut_64 ?_
      exact sX4_workOut_65 C htab hr HX4_endOf HX4_endsOf HX4_reachOver hK2 hK25 hK73 hK105
set_option maxRecDepth 20000 in
theorem sX4_workOut_2 {l : Launch} {z0 b N M : Nat} {D : va_G} {cA : Nat → ClassId} {p : Program} {e : Env} {s : State} {m : MethodId} {args : Array Value} {below : List Frame} {meth : Method} {c : Code} {Kn : Option Value → ZH → Prop} {Kx : Nat → Prop} {h0 : ZH} {K2 K25 K73 K105 : ZK ZH} (C : zCx p l (zRm 2 M 47) s m args meth c cX4_workOut 2 RX4 z0 D cA M) (htab : ∀ x ∈ c.exceptionTable.toList, False) (hr : meth.sig.returnType = none) (HX4_endOf : Sem l z0 b N D cA yX4_endOf cX4_endOf 5 (some .int) 0 0 2 zno tX4_endOf) (HX4_endsOf : Sem l z0 b N D cA yX4_endsOf cX4_endsOf 4 (some .int) 1 24 2 zno tX4_endsOf) (HX4_reachOver : Sem l z0 b N D cA yX4_reachOver cX4_reachOver 3 none 1 21 2 zno tX4_reachOver) (hK2 : Snd p l e (zRm 2 M 47) s m args below meth c 2 z0 b (zI z0 b N D cA s) (fun _ => (0, 0)) (vx_MQ below (zQn z0 b N D cA Kn) (zXn z0 b N D cA Kx h0) args s M (6 * M) (fun q => z0 ≤ q)) 2 K2) (hK25 : Snd p l e (zRm 2 M 47) s m args below meth c 2 z0 b (zI z0 b N D cA s) (fun _ => (0, 0)) (vx_MQ below (zQn z0 b N D cA Kn) (zXn z0 b N D cA Kx h0) args s M (6 * M) (fun q => z0 ≤ q)) 25 K25) (hK73 : Snd p l e (zRm 2 M 47) s m args below meth c 2 z0 b (zI z0 b N D cA s) (fun _ => (0, 0)) (vx_MQ below (zQn z0 b N D cA Kn) (zXn z0 b N D cA Kx h0) args s M (6 * M) (fun q => z0 ≤ q)) 73 K73) (hK105 : Snd p l e (zRm 2 M 47) s m args below meth c 2 z0 b (zI z0 b N D cA s) (fun _ => (0, 0)) (vx_MQ below (zQn z0 b N D cA Kn) (zXn z0 b N D cA Kx h0) args s M (6 * M) (fun q => z0 ≤ q)) 105 K105) : Snd p l e (zRm 2 M 47) s m args below meth c 2 z0 b (zI z0 b N D cA s) (fun _ => (0, 0)) (vx_MQ below (zQn z0 b N D cA Kn) (zXn z0 b N D cA Kx h0) args s M (6 * M) (fun q => z0 ≤ q)) 2 (bX4_workOut_2 M Kn Kx h0 K2 K25 K73 K105) := by
  obtain ⟨hx, hb, hml, hown, hts, -⟩ := id C
  unfold bX4_workOut_2
  refine k_iload_n hx hb dX4_workOut_2 rfl ?_
  refine k_aload_n hx hb dX4_workOut_3 rfl ?_
  refine k_getf C (ci := 4) (k := 4) (Tf := TX4) (Nf := 5) (Cn := RX4) rfl zinX4 (by decide) rfl zfX4_24 dX4_workOut_4 ?_
  refine k_icmp_ge (tgt := 23) hx hb dX4_workOut_7 (by decide) ?_ ?_
  · refine k_iconst hx hb dX4_workOut_23 (by decide) ?_
    refine k_istore_n hx hb dX4_workOut_24 rfl ?_
    exact hK25
  · refine k_aload_n hx hb dX4_workOut_10 rfl ?_
    refine k_getf C (ci := 4) (k := 2) (Tf := TX4) (Nf := 5) (Cn := RX4) rfl zinX4 (by decide) rfl zfX4_18 dX4_workOut_11 ?_
    refine k_iload_n hx hb dX4_workOut_14 rfl ?_
    refine k_iconst hx hb dX4_workOut_15 (by decide) ?_
    refine k_iast C dX4_workOut_16 ?_
    refine k_iinc hx hb dX4_workOut_17 (by decide) ?_
    refine k_goto (tgt := 2) hx hb dX4_workOut_20 (by decide) ?_
    exact hK2
set_option maxRecDepth 20000 in
theorem sX4_workOut_0 {l : Launch} {z0 b N M : Nat} {D : va_G} {cA : Nat → ClassId} {p : Program} {e : Env} {s : State} {m : MethodId} {args : Array Value} {below : List Frame} {meth : Method} {c : Code} {Kn : Option Value → ZH → Prop} {Kx : Nat → Prop} {h0 : ZH} {K2 K25 K73 K105 : ZK ZH} (C : zCx p l (zRm 2 M 47) s m args meth c cX4_workOut 2 RX4 z0 D cA M) (htab : ∀ x ∈ c.exceptionTable.toList, False) (hr : meth.sig.returnType = none) (HX4_endOf : Sem l z0 b N D cA yX4_endOf cX4_endOf 5 (some .int) 0 0 2 zno tX4_endOf) (HX4_endsOf : Sem l z0 b N D cA yX4_endsOf cX4_endsOf 4 (some .int) 1 24 2 zno tX4_endsOf) (HX4_reachOver : Sem l z0 b N D cA yX4_reachOver cX4_reachOver 3 none 1 21 2 zno tX4_reachOver) (hK2 : Snd p l e (zRm 2 M 47) s m args below meth c 2 z0 b (zI z0 b N D cA s) (fun _ => (0, 0)) (vx_MQ below (zQn z0 b N D cA Kn) (zXn z0 b N D cA Kx h0) args s M (6 * M) (fun q => z0 ≤ q)) 2 K2) (hK25 : Snd p l e (zRm 2 M 47) s m args below meth c 2 z0 b (zI z0 b N D cA s) (fun _ => (0, 0)) (vx_MQ below (zQn z0 b N D cA Kn) (zXn z0 b N D cA Kx h0) args s M (6 * M) (fun q => z0 ≤ q)) 25 K25) (hK73 : Snd p l e (zRm 2 M 47) s m args below meth c 2 z0 b (zI z0 b N D cA s) (fun _ => (0, 0)) (vx_MQ below (zQn z0 b N D cA Kn) (zXn z0 b N D cA Kx h0) args s M (6 * M) (fun q => z0 ≤ q)) 73 K73) (hK105 : Snd p l e (zRm 2 M 47) s m args below meth c 2 z0 b (zI z0 b N D cA s) (fun _ => (0, 0)) (vx_MQ below (zQn z0 b N D cA Kn) (zXn z0 b N D cA Kx h0) args s M (6 * M) (fun q => z0 ≤ q)) 105 K105) : Snd p l e (zRm 2 M 47) s m args below meth c 2 z0 b (zI z0 b N D cA s) (fun _ => (0, 0)) (vx_MQ below (zQn z0 b N D cA Kn) (zXn z0 b N D cA Kx h0) args s M (6 * M) (fun q => z0 ≤ q)) 0 (bX4_workOut_0 M Kn Kx h0 K2 K25 K73 K105) := by
  obtain ⟨hx, hb, hml, hown, hts, -⟩ := id C
  unfold bX4_workOut_0
  refine k_iconst hx hb dX4_workOut_0 (by decide) ?_
  refine k_istore_n hx hb dX4_workOut_1 rfl ?_
  exact hK2
set_option maxRecDepth 20000 in
theorem uX4_workOut {l : Launch} {z0 b N : Nat} {D : va_G} {cA : Nat → ClassId} (hlt : l.stackTraces = false) (HX4_endOf : Sem l z0 b N D cA yX4_endOf cX4_endOf 5 (some .int) 0 0 2 zno tX4_endOf) (HX4_endsOf : Sem l z0 b N D cA yX4_endsOf cX4_endsOf 4 (some .int) 1 24 2 zno tX4_endsOf) (HX4_reachOver : Sem l z0 b N D cA yX4_reachOver cX4_reachOver 3 none 1 21 2 zno tX4_reachOver) (spec : ∀ (M : Nat) (a : List Value) (h : ZH) (Kn : Option Value → ZH → Prop) (Kx : Nat → Prop), zok 1 a = true → tX4_workOut a h Kn → ∀ (A : Nat → ZK ZH), (∀ ls st h', bX4_workOut_2 M Kn Kx h (A 2) (A 25) (A 73) (A 105) ls st h' → A 2 ls st h') → (∀ ls st h', bX4_workOut_25 M Kn Kx h (A 2) (A 25) (A 73) (A 105) ls st h' → A 25 ls st h') → (∀ ls st h', bX4_workOut_73 M Kn Kx h (A 2) (A 25) (A 73) (A 105) ls st h' → A 73 ls st h') → (∀ ls st h', bX4_workOut_105 M Kn Kx h (A 2) (A 25) (A 73) (A 105) ls st h' → A 105 ls st h') → bX4_workOut_0 M Kn Kx h (A 2) (A 25) (A 73) (A 105) (zE 2 a) [] h) : Sem l z0 b N D cA yX4_workOut cX4_workOut 2 none 2 47 1 zno tX4_workOut :=
  sem_of hlt (by decide +kernel) (by decide) (fun p e s m args below meth c M a h Kn Kx hok hX hN C hr htab => sX4_workOut_0 C htab hr HX4_endOf HX4_endsOf HX4_reachOver (fun _ _ _ q => q) (fun _ _ _ q => q) (fun _ _ _ q => q) (fun _ _ _ q => q) _ _ _ (spec M a h Kn Kx hok (hN (fun _ h9 => h9)) (fun pc => AW p l e (zRm 2 M 47) s m args below meth c 2 z0 b (zI z0 b N D cA s) (fun _ => (0, 0)) (vx_MQ below (zQn z0 b N D cA Kn) (zXn z0 b N D cA Kx h) args s M (6 * M) (fun q => z0 ≤ q)) pc) (fun ls st h' hq => sX4_workOut_2 C htab hr HX4_endOf HX4_endsOf HX4_reachOver (fun _ _ _ q => q) (fun _ _ _ q => q) (fun _ _ _ q => q) (fun _ _ _ q => q) ls st h' hq) (fun ls st h' hq => sX4_workOut_25 C htab hr HX4_endOf HX4_endsOf HX4_reachOver (fun _ _ _ q => q) (fun _ _ _ q => q) (fun _ _ _ q => q) (fun _ _ _ q => q) ls st h' hq) (fun ls st h' hq => sX4_workOut_73 C htab hr HX4_endOf HX4_endsOf HX4_reachOver (fun _ _ _ q => q) (fun _ _ _ q => q) (fun _ _ _ q => q) (fun _ _ _ q => q) ls st h' hq) (fun ls st h' hq => sX4_workOut_105 C htab hr HX4_endOf HX4_endsOf HX4_reachOver (fun _ _ _ q => q) (fun _ _ _ q => q) (fun _ _ _ q => q) (fun _ _ _ q => q) ls st h' hq)))
set_option maxRecDepth 20000 in
theorem sX4_reachOver_38 {l : Launch} {z0 b N M : Nat} {D : va_G} {cA : Nat → ClassId} {p : Program} {e : Env} {s : State} {m : MethodId} {args : Array Value} {below : List Frame} {meth : Method} {c : Code} {Kn : Option Value → ZH → Prop} {Kx : Nat → Prop} {h0 : ZH} {K2 : ZK ZH} (C : zCx p l (zRm 1 M 21) s m args meth c cX4_reachOver 3 RX4 z0 D cA M) (htab : ∀ x ∈ c.exceptionTable.toList, False) (hr : meth.sig.returnType = none) (HX5_has : Sem l z0 b N D cA yX5_has cX5_has 2 (some .boolean) 0 0 2 zno tX5_has) (hK2 : Snd p l e (zRm 1 M 21) s m args below meth c 3 z0 b (zI z0 b N D cA s) (fun _ => (0, 0)) (vx_MQ below (zQn z0 b N D cA Kn) (zXn z0 b N D cA Kx h0) args s M (6 * M) (fun q => z0 ≤ q)) 2 K2) : Snd p l e (zRm 1 M 21) s m args below meth c 3 z0 b (zI z0 b N D cA s) (fun _ => (0, 0)) (vx_MQ below (zQn z0 b N D cA Kn) (zXn z0 b N D cA Kx h0) args s M (6 * M) (fun q => z0 ≤ q)) 38 (bX4_reachOver_38 M Kn Kx h0 K2) := by
  obtain ⟨hx, hb, hml, hown, hts, -⟩ := id C
  unfold bX4_reachOver_38
  refine k_iinc hx hb dX4_reachOver_38 (by decide) ?_
  refine k_goto (tgt := 2) hx hb dX4_reachOver_41 (by decide) ?_
  exact hK2
set_option maxRecDepth 20000 in
theorem sX4_reachOver_2 {l : Launch} {z0 b N M : Nat} {D : va_G} {cA : Nat → ClassId} {p : Program} {e : Env} {s : State} {m : MethodId} {args : Array Value} {below : List Frame} {meth : Method} {c : Code} {Kn : Option Value → ZH → Prop} {Kx : Nat → Prop} {h0 : ZH} {K2 : ZK ZH} (C : zCx p l (zRm 1 M 21) s m args meth c cX4_reachOver 3 RX4 z0 D cA M) (htab : ∀ x ∈ c.exceptionTable.toList, False) (hr : meth.sig.returnType = none) (HX5_has : Sem l z0 b N D cA yX5_has cX5_has 2 (some .boolean) 0 0 2 zno tX5_has) (hK2 : Snd p l e (zRm 1 M 21) s m args below meth c 3 z0 b (zI z0 b N D cA s) (fun _ => (0, 0)) (vx_MQ below (zQn z0 b N D cA Kn) (zXn z0 b N D cA Kx h0) args s M (6 * M) (fun q => z0 ≤ q)) 2 K2) : Snd p l e (zRm 1 M 21) s m args below meth c 3 z0 b (zI z0 b N D cA s) (fun _ => (0, 0)) (vx_MQ below (zQn z0 b N D cA Kn) (zXn z0 b N D cA Kx h0) args s M (6 * M) (fun q => z0 ≤ q)) 2 (bX4_reachOver_2 M Kn Kx h0 K2) := by
  obtain ⟨hx, hb, hml, hown, hts, -⟩ := id C
  unfold bX4_reachOver_2
  refine k_iload_n hx hb dX4_reachOver_2 rfl ?_
  refine k_aload_n hx hb dX4_reachOver_3 rfl ?_
  refine k_getf C (ci := 4) (k := 4) (Tf := TX4) (Nf := 5) (Cn := RX4) rfl zinX4 (by decide) rfl zfX4_24 dX4_reachOver_4 ?_
  refine k_icmp_ge (tgt := 44) hx hb dX4_reachOver_7 (by decide) ?_ ?_
  · exact k_vret C hr dX4_reachOver_44
  · refine k_aload_n hx hb dX4_reachOver_10 rfl ?_
    refine k_getf C (ci := 4) (k := 3) (Tf := TX4) (Nf := 5) (Cn := RX4) rfl zinX4 (by decide) rfl zfX4_21 dX4_reachOver_11 ?_
    refine k_iload_n hx hb dX4_reachOver_14 rfl ?_
    refine k_iald C dX4_reachOver_15 ?_
    refine k_iload_n hx hb dX4_reachOver_16 rfl ?_
    refine k_callSN2 C HX5_has (host := "TagRoot") (by decide +kernel) (fun _ _ _ h => h) zsX5_has ziX5 zcX5_has (by decide +kernel) ⟨Nat.le_of_ble_eq_true rfl, Nat.le_of_ble_eq_true rfl⟩ dX4_reachOver_17 ?_
    refine k_if_eq (tgt := 38) hx hb dX4_reachOver_20 (by decide) ?_ ?_
    · exact sX4_reachOver_38 C htab hr HX5_has hK2
    · refine k_aload_n hx hb dX4_reachOver_23 rfl ?_
      refine k_getf C (ci := 4) (k := 3) (Tf := TX4) (Nf := 5) (Cn := RX4) rfl zinX4 (by decide) rfl zfX4_21 dX4_reachOver_24 ?_
      refine k_iload_n hx hb dX4_reachOver_27 rfl ?_
      refine k_dup2 hx hb dX4_reachOver_28 ?_
      refine k_iald C dX4_reachOver_29 ?_
      refine k_aload_n hx hb dX4_reachOver_30 rfl ?_
      refine k_getf C (ci := 4) (k := 3) (Tf := TX4) (Nf := 5) (Cn := RX4) rfl zinX4 (by decide) rfl zfX4_21 dX4_reachOver_31 ?_
      refine k_iload_n hx hb dX4_reachOver_34 rfl ?_
      refine k_iald C dX4_reachOver_35 ?_
      refine k_ior hx hb dX4_reachOver_36 ?_
      refine k_iast C dX4_reachOver_37 ?_
      exact sX4_reachOver_38 C htab hr HX5_has hK2
set_option maxRecDepth 20000 in
theorem sX4_reachOver_0 {l : Launch} {z0 b N M : Nat} {D : va_G} {cA : Nat → ClassId} {p : Program} {e : Env} {s : State} {m : MethodId} {args : Array Value} {below : List Frame} {meth : Method} {c : Code} {Kn : Option Value → ZH → Prop} {Kx : Nat → Prop} {h0 : ZH} {K2 : ZK ZH} (C : zCx p l (zRm 1 M 21) s m args meth c cX4_reachOver 3 RX4 z0 D cA M) (htab : ∀ x ∈ c.exceptionTable.toList, False) (hr : meth.sig.returnType = none) (HX5_has : Sem l z0 b N D cA yX5_has cX5_has 2 (some .boolean) 0 0 2 zno tX5_has) (hK2 : Snd p l e (zRm 1 M 21) s m args below meth c 3 z0 b (zI z0 b N D cA s) (fun _ => (0, 0)) (vx_MQ below (zQn z0 b N D cA Kn) (zXn z0 b N D cA Kx h0) args s M (6 * M) (fun q => z0 ≤ q)) 2 K2) : Snd p l e (zRm 1 M 21) s m args below meth c 3 z0 b (zI z0 b N D cA s) (fun _ => (0, 0)) (vx_MQ below (zQn z0 b N D cA Kn) (zXn z0 b N D cA Kx h0) args s M (6 * M) (fun q => z0 ≤ q)) 0 (bX4_reachOver_0 M Kn Kx h0 K2) := by
  obtain ⟨hx, hb, hml, hown, hts, -⟩ := id C
  unfold bX4_reachOver_0
  refine k_iconst hx hb dX4_reachOver_0 (by decide) ?_
  refine k_istore_n hx hb dX4_reachOver_1 rfl ?_
  exact hK2
set_option maxRecDepth 20000 in
theorem uX4_reachOver {l : Launch} {z0 b N : Nat} {D : va_G} {cA : Nat → ClassId} (hlt : l.stackTraces = false) (HX5_has : Sem l z0 b N D cA yX5_has cX5_has 2 (some .boolean) 0 0 2 zno tX5_has) (spec : ∀ (M : Nat) (a : List Value) (h : ZH) (Kn : Option Value → ZH → Prop) (Kx : Nat → Prop), zok 2 a = true → tX4_reachOver a h Kn → ∀ (A : Nat → ZK ZH), (∀ ls st h', bX4_reachOver_2 M Kn Kx h (A 2) ls st h' → A 2 ls st h') → bX4_reachOver_0 M Kn Kx h (A 2) (zE 3 a) [] h) : Sem l z0 b N D cA yX4_reachOver cX4_reachOver 3 none 1 21 2 zno tX4_reachOver :=
  sem_of hlt (by decide +kernel) (by decide) (fun p e s m args below meth c M a h Kn Kx hok hX hN C hr htab => sX4_reachOver_0 C htab hr HX5_has (fun _ _ _ q => q) _ _ _ (spec M a h Kn Kx hok (hN (fun _ h9 => h9)) (fun pc => AW p l e (zRm 1 M 21) s m args below meth c 3 z0 b (zI z0 b N D cA s) (fun _ => (0, 0)) (vx_MQ below (zQn z0 b N D cA Kn) (zXn z0 b N D cA Kx h) args s M (6 * M) (fun q => z0 ≤ q)) pc) (fun ls st h' hq => sX4_reachOver_2 C htab hr HX5_has (fun _ _ _ q => q) ls st h' hq)))
set_option maxRecDepth 20000 in
theorem sX4_endsOf_30 {l : Launch} {z0 b N M : Nat} {D : va_G} {cA : Nat → ClassId} {p : Program} {e : Env} {s : State} {m : MethodId} {args : Array Value} {below : List Frame} {meth : Method} {c : Code} {Kn : Option Value → ZH → Prop} {Kx : Nat → Prop} {h0 : ZH} {K4 : ZK ZH} (C : zCx p l (zRm 1 M 24) s m args meth c cX4_endsOf 4 RX4 z0 D cA M) (htab : ∀ x ∈ c.exceptionTable.toList, False) (hr : meth.sig.returnType = (some .int)) (HX5_has : Sem l z0 b N D cA yX5_has cX5_has 2 (some .boolean) 0 0 2 zno tX5_has) (HX4_endOf : Sem l z0 b N D cA yX4_endOf cX4_endOf 5 (some .int) 0 0 2 zno tX4_endOf) (hK4 : Snd p l e (zRm 1 M 24) s m args below meth c 4 z0 b (zI z0 b N D cA s) (fun _ => (0, 0)) (vx_MQ below (zQn z0 b N D cA Kn) (zXn z0 b N D cA Kx h0) args s M (6 * M) (fun q => z0 ≤ q)) 4 K4) : Snd p l e (zRm 1 M 24) s m args below meth c 4 z0 b (zI z0 b N D cA s) (fun _ => (0, 0)) (vx_MQ below (zQn z0 b N D cA Kn) (zXn z0 b N D cA Kx h0) args s M (6 * M) (fun q => z0 ≤ q)) 30 (bX4_endsOf_30 M Kn Kx h0 K4) := by
  obtain ⟨hx, hb, hml, hown, hts, -⟩ := id C
  unfold bX4_endsOf_30
  refine k_iinc hx hb dX4_endsOf_30 (by decide) ?_
  refine k_goto (tgt := 4) hx hb dX4_endsOf_33 (by decide) ?_
  exact hK4
set_option maxRecDepth 20000 in
theorem sX4_endsOf_4 {l : Launch} {z0 b N M : Nat} {D : va_G} {cA : Nat → ClassId} {p : Program} {e : Env} {s : State} {m : MethodId} {args : Array Value} {below : List Frame} {meth : Method} {c : Code} {Kn : Option Value → ZH → Prop} {Kx : Nat → Prop} {h0 : ZH} {K4 : ZK ZH} (C : zCx p l (zRm 1 M 24) s m args meth c cX4_endsOf 4 RX4 z0 D cA M) (htab : ∀ x ∈ c.exceptionTable.toList, False) (hr : meth.sig.returnType = (some .int)) (HX5_has : Sem l z0 b N D cA yX5_has cX5_has 2 (some .boolean) 0 0 2 zno tX5_has) (HX4_endOf : Sem l z0 b N D cA yX4_endOf cX4_endOf 5 (some .int) 0 0 2 zno tX4_endOf) (hK4 : Snd p l e (zRm 1 M 24) s m args below meth c 4 z0 b (zI z0 b N D cA s) (fun _ => (0, 0)) (vx_MQ below (zQn z0 b N D cA Kn) (zXn z0 b N D cA Kx h0) args s M (6 * M) (fun q => z0 ≤ q)) 4 K4) : Snd p l e (zRm 1 M 24) s m args below meth c 4 z0 b (zI z0 b N D cA s) (fun _ => (0, 0)) (vx_MQ below (zQn z0 b N D cA Kn) (zXn z0 b N D cA Kx h0) args s M (6 * M) (fun q => z0 ≤ q)) 4 (bX4_endsOf_4 M Kn Kx h0 K4) := by
  obtain ⟨hx, hb, hml, hown, hts, -⟩ := id C
  unfold bX4_endsOf_4
  refine k_iload_n hx hb dX4_endsOf_4 rfl ?_
  refine k_aload_n hx hb dX4_endsOf_5 rfl ?_
  refine k_getf C (ci := 4) (k := 4) (Tf := TX4) (Nf := 5) (Cn := RX4) rfl zinX4 (by decide) rfl zfX4_24 dX4_endsOf_6 ?_
  refine k_icmp_ge (tgt := 36) hx hb dX4_endsOf_9 (by decide) ?_ ?_
  · refine k_iload_n hx hb dX4_endsOf_36 rfl ?_
    exact k_ret C hr dX4_endsOf_37
  · refine k_iload_n hx hb dX4_endsOf_12 rfl ?_
    refine k_iload_n hx hb dX4_endsOf_13 rfl ?_
    refine k_callSN2 C HX5_has (host := "TagRoot") (by decide +kernel) (fun _ _ _ h => h) zsX5_has ziX5 zcX5_has (by decide +kernel) ⟨Nat.le_of_ble_eq_true rfl, Nat.le_of_ble_eq_true rfl⟩ dX4_endsOf_14 ?_
    refine k_if_eq (tgt := 30) hx hb dX4_endsOf_17 (by decide) ?_ ?_
    · exact sX4_endsOf_30 C htab hr HX5_has HX4_endOf hK4
    · refine k_iload_n hx hb dX4_endsOf_20 rfl ?_
      refine k_iconst hx hb dX4_endsOf_21 (by decide) ?_
      refine k_aload_n hx hb dX4_endsOf_22 rfl ?_
      refine k_iload_n hx hb dX4_endsOf_23 rfl ?_
      refine k_callV1 C htab (ci := 4) (Tf := TX4) (Nf := 5) (Cn := RX4) rfl HX4_endOf rfl zlX4_38 zmX4_endOf zvX4_endOf ziX4 zcX4_endOf (by decide +kernel) ⟨Nat.le_of_ble_eq_true rfl, Nat.le_of_ble_eq_true rfl⟩ dX4_endsOf_24 ?_
      refine k_ishl hx hb dX4_endsOf_27 ?_
      refine k_ior hx hb dX4_endsOf_28 ?_
      refine k_istore_n hx hb dX4_endsOf_29 rfl ?_
      exact sX4_endsOf_30 C htab hr HX5_has HX4_endOf hK4
set_option maxRecDepth 20000 in
theorem sX4_endsOf_0 {l : Launch} {z0 b N M : Nat} {D : va_G} {cA : Nat → ClassId} {p : Program} {e : Env} {s : State} {m : MethodId} {args : Array Value} {below : List Frame} {meth : Method} {c : Code} {Kn : Option Value → ZH → Prop} {Kx : Nat → Prop} {h0 : ZH} {K4 : ZK ZH} (C : zCx p l (zRm 1 M 24) s m args meth c cX4_endsOf 4 RX4 z0 D cA M) (htab : ∀ x ∈ c.exceptionTable.toList, False) (hr : meth.sig.returnType = (some .int)) (HX5_has : Sem l z0 b N D cA yX5_has cX5_has 2 (some .boolean) 0 0 2 zno tX5_has) (HX4_endOf : Sem l z0 b N D cA yX4_endOf cX4_endOf 5 (some .int) 0 0 2 zno tX4_endOf) (hK4 : Snd p l e (zRm 1 M 24) s m args below meth c 4 z0 b (zI z0 b N D cA s) (fun _ => (0, 0)) (vx_MQ below (zQn z0 b N D cA Kn) (zXn z0 b N D cA Kx h0) args s M (6 * M) (fun q => z0 ≤ q)) 4 K4) : Snd p l e (zRm 1 M 24) s m args below meth c 4 z0 b (zI z0 b N D cA s) (fun _ => (0, 0)) (vx_MQ below (zQn z0 b N D cA Kn) (zXn z0 b N D cA Kx h0) args s M (6 * M) (fun q => z0 ≤ q)) 0 (bX4_endsOf_0 M Kn Kx h0 K4) := by
  obtain ⟨hx, hb, hml, hown, hts, -⟩ := id C
  unfold bX4_endsOf_0
  refine k_iconst hx hb dX4_endsOf_0 (by decide) ?_
  refine k_istore_n hx hb dX4_endsOf_1 rfl ?_
  refine k_iconst hx hb dX4_endsOf_2 (by decide) ?_
  refine k_istore_n hx hb dX4_endsOf_3 rfl ?_
  exact hK4
set_option maxRecDepth 20000 in
theorem uX4_endsOf {l : Launch} {z0 b N : Nat} {D : va_G} {cA : Nat → ClassId} (hlt : l.stackTraces = false) (HX5_has : Sem l z0 b N D cA yX5_has cX5_has 2 (some .boolean) 0 0 2 zno tX5_has) (HX4_endOf : Sem l z0 b N D cA yX4_endOf cX4_endOf 5 (some .int) 0 0 2 zno tX4_endOf) (spec : ∀ (M : Nat) (a : List Value) (h : ZH) (Kn : Option Value → ZH → Prop) (Kx : Nat → Prop), zok 2 a = true → tX4_endsOf a h Kn → ∀ (A : Nat → ZK ZH), (∀ ls st h', bX4_endsOf_4 M Kn Kx h (A 4) ls st h' → A 4 ls st h') → bX4_endsOf_0 M Kn Kx h (A 4) (zE 4 a) [] h) : Sem l z0 b N D cA yX4_endsOf cX4_endsOf 4 (some .int) 1 24 2 zno tX4_endsOf :=
  sem_of hlt (by decide +kernel) (by decide) (fun p e s m args below meth c M a h Kn Kx hok hX hN C hr htab => sX4_endsOf_0 C htab hr HX5_has HX4_endOf (fun _ _ _ q => q) _ _ _ (spec M a h Kn Kx hok (hN (fun _ h9 => h9)) (fun pc => AW p l e (zRm 1 M 24) s m args below meth c 4 z0 b (zI z0 b N D cA s) (fun _ => (0, 0)) (vx_MQ below (zQn z0 b N D cA Kn) (zXn z0 b N D cA Kx h) args s M (6 * M) (fun q => z0 ≤ q)) pc) (fun ls st h' hq => sX4_endsOf_4 C htab hr HX5_has HX4_endOf (fun _ _ _ q => q) ls st h' hq)))
set_option maxRecDepth 20000 in
theorem sX4_reachedFrom_33 {l : Launch} {z0 b N M : Nat} {D : va_G} {cA : Nat → ClassId} {p : Program} {e : Env} {s : State} {m : MethodId} {args : Array Value} {below : List Frame} {meth : Method} {c : Code} {Kn : Option Value → ZH → Prop} {Kx : Nat → Prop} {h0 : ZH} {K4 : ZK ZH} (C : zCx p l (zRm 1 M 24) s m args meth c cX4_reachedFrom 4 RX4 z0 D cA M) (htab : ∀ x ∈ c.exceptionTable.toList, False) (hr : meth.sig.returnType = (some .int)) (HX5_has : Sem l z0 b N D cA yX5_has cX5_has 2 (some .boolean) 0 0 2 zno tX5_has) (HX4_endOf : Sem l z0 b N D cA yX4_endOf cX4_endOf 5 (some .int) 0 0 2 zno tX4_endOf) (hK4 : Snd p l e (zRm 1 M 24) s m args below meth c 4 z0 b (zI z0 b N D cA s) (fun _ => (0, 0)) (vx_MQ below (zQn z0 b N D cA Kn) (zXn z0 b N D cA Kx h0) args s M (6 * M) (fun q => z0 ≤ q)) 4 K4) : Snd p l e (zRm 1 M 24) s m args below meth c 4 z0 b (zI z0 b N D cA s) (fun _ => (0, 0)) (vx_MQ below (zQn z0 b N D cA Kn) (zXn z0 b N D cA Kx h0) args s M (6 * M) (fun q => z0 ≤ q)) 33 (bX4_reachedFrom_33 M Kn Kx h0 K4) := by
  obtain ⟨hx, hb, hml, hown, hts, -⟩ := id C
  unfold bX4_reachedFrom_33
  refine k_iinc hx hb dX4_reachedFrom_33 (by decide) ?_
  refine k_goto (tgt := 4) hx hb dX4_reachedFrom_36 (by decide) ?_
  exact hK4
set_option maxRecDepth 20000 in
theorem sX4_reachedFrom_4 {l : Launch} {z0 b N M : Nat} {D : va_G} {cA : Nat → ClassId} {p : Program} {e : Env} {s : State} {m : MethodId} {args : Array Value} {below : List Frame} {meth : Method} {c : Code} {Kn : Option Value → ZH → Prop} {Kx : Nat → Prop} {h0 : ZH} {K4 : ZK ZH} (C : zCx p l (zRm 1 M 24) s m args meth c cX4_reachedFrom 4 RX4 z0 D cA M) (htab : ∀ x ∈ c.exceptionTable.toList, False) (hr : meth.sig.returnType = (some .int)) (HX5_has : Sem l z0 b N D cA yX5_has cX5_has 2 (some .boolean) 0 0 2 zno tX5_has) (HX4_endOf : Sem l z0 b N D cA yX4_endOf cX4_endOf 5 (some .int) 0 0 2 zno tX4_endOf) (hK4 : Snd p l e (zRm 1 M 24) s m args below meth c 4 z0 b (zI z0 b N D cA s) (fun _ => (0, 0)) (vx_MQ below (zQn z0 b N D cA Kn) (zXn z0 b N D cA Kx h0) args s M (6 * M) (fun q => z0 ≤ q)) 4 K4) : Snd p l e (zRm 1 M 24) s m args below meth c 4 z0 b (zI z0 b N D cA s) (fun _ => (0, 0)) (vx_MQ below (zQn z0 b N D cA Kn) (zXn z0 b N D cA Kx h0) args s M (6 * M) (fun q => z0 ≤ q)) 4 (bX4_reachedFrom_4 M Kn Kx h0 K4) := by
  obtain ⟨hx, hb, hml, hown, hts, -⟩ := id C
  unfold bX4_reachedFrom_4
  refine k_iload_n hx hb dX4_reachedFrom_4 rfl ?_
  refine k_aload_n hx hb dX4_reachedFrom_5 rfl ?_
  refine k_getf C (ci := 4) (k := 4) (Tf := TX4) (Nf := 5) (Cn := RX4) rfl zinX4 (by decide) rfl zfX4_24 dX4_reachedFrom_6 ?_
  refine k_icmp_ge (tgt := 39) hx hb dX4_reachedFrom_9 (by decide) ?_ ?_
  · refine k_iload_n hx hb dX4_reachedFrom_39 rfl ?_
    exact k_ret C hr dX4_reachedFrom_40
  · refine k_iload_n hx hb dX4_reachedFrom_12 rfl ?_
    refine k_iload_n hx hb dX4_reachedFrom_13 rfl ?_
    refine k_callSN2 C HX5_has (host := "TagRoot") (by decide +kernel) (fun _ _ _ h => h) zsX5_has ziX5 zcX5_has (by decide +kernel) ⟨Nat.le_of_ble_eq_true rfl, Nat.le_of_ble_eq_true rfl⟩ dX4_reachedFrom_14 ?_
    refine k_if_eq (tgt := 33) hx hb dX4_reachedFrom_17 (by decide) ?_ ?_
    · exact sX4_reachedFrom_33 C htab hr HX5_has HX4_endOf hK4
    · refine k_iload_n hx hb dX4_reachedFrom_20 rfl ?_
      refine k_aload_n hx hb dX4_reachedFrom_21 rfl ?_
      refine k_getf C (ci := 4) (k := 3) (Tf := TX4) (Nf := 5) (Cn := RX4) rfl zinX4 (by decide) rfl zfX4_21 dX4_reachedFrom_22 ?_
      refine k_aload_n hx hb dX4_reachedFrom_25 rfl ?_
      refine k_iload_n hx hb dX4_reachedFrom_26 rfl ?_
      refine k_callV1 C htab (ci := 4) (Tf := TX4) (Nf := 5) (Cn := RX4) rfl HX4_endOf rfl zlX4_38 zmX4_endOf zvX4_endOf ziX4 zcX4_endOf (by decide +kernel) ⟨Nat.le_of_ble_eq_true rfl, Nat.le_of_ble_eq_true rfl⟩ dX4_reachedFrom_27 ?_
      refine k_iald C dX4_reachedFrom_30 ?_
      refine k_ior hx hb dX4_reachedFrom_31 ?_
      refine k_istore_n hx hb dX4_reachedFrom_32 rfl ?_
      exact sX4_reachedFrom_33 C htab hr HX5_has HX4_endOf hK4
set_option maxRecDepth 20000 in
theorem sX4_reachedFrom_0 {l : Launch} {z0 b N M : Nat} {D : va_G} {cA : Nat → ClassId} {p : Program} {e : Env} {s : State} {m : MethodId} {args : Array Value} {below : List Frame} {meth : Method} {c : Code} {Kn : Option Value → ZH → Prop} {Kx : Nat → Prop} {h0 : ZH} {K4 : ZK ZH} (C : zCx p l (zRm 1 M 24) s m args meth c cX4_reachedFrom 4 RX4 z0 D cA M) (htab : ∀ x ∈ c.exceptionTable.toList, False) (hr : meth.sig.returnType = (some .int)) (HX5_has : Sem l z0 b N D cA yX5_has cX5_has 2 (some .boolean) 0 0 2 zno tX5_has) (HX4_endOf : Sem l z0 b N D cA yX4_endOf cX4_endOf 5 (some .int) 0 0 2 zno tX4_endOf) (hK4 : Snd p l e (zRm 1 M 24) s m args below meth c 4 z0 b (zI z0 b N D cA s) (fun _ => (0, 0)) (vx_MQ below (zQn z0 b N D cA Kn) (zXn z0 b N D cA Kx h0) args s M (6 * M) (fun q => z0 ≤ q)) 4 K4) : Snd p l e (zRm 1 M 24) s m args below meth c 4 z0 b (zI z0 b N D cA s) (fun _ => (0, 0)) (vx_MQ below (zQn z0 b N D cA Kn) (zXn z0 b N D cA Kx h0) args s M (6 * M) (fun q => z0 ≤ q)) 0 (bX4_reachedFrom_0 M Kn Kx h0 K4) := by
  obtain ⟨hx, hb, hml, hown, hts, -⟩ := id C
  unfold bX4_reachedFrom_0
  refine k_iconst hx hb dX4_reachedFrom_0 (by decide) ?_
  refine k_istore_n hx hb dX4_reachedFrom_1 rfl ?_
  refine k_iconst hx hb dX4_reachedFrom_2 (by decide) ?_
  refine k_istore_n hx hb dX4_reachedFrom_3 rfl ?_
  exact hK4
set_option maxRecDepth 20000 in
theorem uX4_reachedFrom {l : Launch} {z0 b N : Nat} {D : va_G} {cA : Nat → ClassId} (hlt : l.stackTraces = false) (HX5_has : Sem l z0 b N D cA yX5_has cX5_has 2 (some .boolean) 0 0 2 zno tX5_has) (HX4_endOf : Sem l z0 b N D cA yX4_endOf cX4_endOf 5 (some .int) 0 0 2 zno tX4_endOf) (spec : ∀ (M : Nat) (a : List Value) (h : ZH) (Kn : Option Value → ZH → Prop) (Kx : Nat → Prop), zok 2 a = true → tX4_reachedFrom a h Kn → ∀ (A : Nat → ZK ZH), (∀ ls st h', bX4_reachedFrom_4 M Kn Kx h (A 4) ls st h' → A 4 ls st h') → bX4_reachedFrom_0 M Kn Kx h (A 4) (zE 4 a) [] h) : Sem l z0 b N D cA yX4_reachedFrom cX4_reachedFrom 4 (some .int) 1 24 2 zno tX4_reachedFrom :=
  sem_of hlt (by decide +kernel) (by decide) (fun p e s m args below meth c M a h Kn Kx hok hX hN C hr htab => sX4_reachedFrom_0 C htab hr HX5_has HX4_endOf (fun _ _ _ q => q) _ _ _ (spec M a h Kn Kx hok (hN (fun _ h9 => h9)) (fun pc => AW p l e (zRm 1 M 24) s m args below meth c 4 z0 b (zI z0 b N D cA s) (fun _ => (0, 0)) (vx_MQ below (zQn z0 b N D cA Kn) (zXn z0 b N D cA Kx h) args s M (6 * M) (fun q => z0 ≤ q)) pc) (fun ls st h' hq => sX4_reachedFrom_4 C htab hr HX5_has HX4_endOf (fun _ _ _ q => q) ls st h' hq)))
set_option maxRecDepth 20000 in
theorem sX4_spread_76 {l : Launch} {z0 b N M : Nat} {D : va_G} {cA : Nat → ClassId} {p : Program} {e : Env} {s : State} {m : MethodId} {args : Array Value} {below : List Frame} {meth : Method} {c : Code} {Kn : Option Value → ZH → Prop} {Kx : Nat → Prop} {h0 : ZH} {K8 K22 : ZK ZH} (C : zCx p l (zRm 2 M 47) s m args meth c cX4_spread 6 RX4 z0 D cA M) (htab : ∀ x ∈ c.exceptionTable.toList, False) (hr : meth.sig.returnType = (some .int)) (HX4_endsOf : Sem l z0 b N D cA yX4_endsOf cX4_endsOf 4 (some .int) 1 24 2 zno tX4_endsOf) (HX5_has : Sem l z0 b N D cA yX5_has cX5_has 2 (some .boolean) 0 0 2 zno tX5_has) (hK8 : Snd p l e (zRm 2 M 47) s m args below meth c 6 z0 b (zI z0 b N D cA s) (fun _ => (0, 0)) (vx_MQ below (zQn z0 b N D cA Kn) (zXn z0 b N D cA Kx h0) args s M (6 * M) (fun q => z0 ≤ q)) 8 K8) (hK22 : Snd p l e (zRm 2 M 47) s m args below meth c 6 z0 b (zI z0 b N D cA s) (fun _ => (0, 0)) (vx_MQ below (zQn z0 b N D cA Kn) (zXn z0 b N D cA Kx h0) args s M (6 * M) (fun q => z0 ≤ q)) 22 K22) : Snd p l e (zRm 2 M 47) s m args below meth c 6 z0 b (zI z0 b N D cA s) (fun _ => (0, 0)) (vx_MQ below (zQn z0 b N D cA Kn) (zXn z0 b N D cA Kx h0) args s M (6 * M) (fun q => z0 ≤ q)) 76 (bX4_spread_76 M Kn Kx h0 K8 K22) := by
  obtain ⟨hx, hb, hml, hown, hts, -⟩ := id C
  unfold bX4_spread_76
  refine k_iload_n hx hb dX4_spread_76 rfl ?_
  exact k_ret C hr dX4_spread_77
set_option maxRecDepth 20000 in
theorem sX4_spread_52 {l : Launch} {z0 b N M : Nat} {D : va_G} {cA : Nat → ClassId} {p : Program} {e : Env} {s : State} {m : MethodId} {args : Array Value} {below : List Frame} {meth : Method} {c : Code} {Kn : Option Value → ZH → Prop} {Kx : Nat → Prop} {h0 : ZH} {K8 K22 : ZK ZH} (C : zCx p l (zRm 2 M 47) s m args meth c cX4_spread 6 RX4 z0 D cA M) (htab : ∀ x ∈ c.exceptionTable.toList, False) (hr : meth.sig.returnType = (some .int)) (HX4_endsOf : Sem l z0 b N D cA yX4_endsOf cX4_endsOf 4 (some .int) 1 24 2 zno tX4_endsOf) (HX5_has : Sem l z0 b N D cA yX5_has cX5_has 2 (some .boolean) 0 0 2 zno tX5_has) (hK8 : Snd p l e (zRm 2 M 47) s m args below meth c 6 z0 b (zI z0 b N D cA s) (fun _ => (0, 0)) (vx_MQ below (zQn z0 b N D cA Kn) (zXn z0 b N D cA Kx h0) args s M (6 * M) (fun q => z0 ≤ q)) 8 K8) (hK22 : Snd p l e (zRm 2 M 47) s m args below meth c 6 z0 b (zI z0 b N D cA s) (fun _ => (0, 0)) (vx_MQ below (zQn z0 b N D cA Kn) (zXn z0 b N D cA Kx h0) args s M (6 * M) (fun q => z0 ≤ q)) 22 K22) : Snd p l e (zRm 2 M 47) s m args below meth c 6 z0 b (zI z0 b N D cA s) (fun _ => (0, 0)) (vx_MQ below (zQn z0 b N D cA Kn) (zXn z0 b N D cA Kx h0) args s M (6 * M) (fun q => z0 ≤ q)) 52 (bX4_spread_52 M Kn Kx h0 K8 K22) := by
  obtain ⟨hx, hb, hml, hown, hts, -⟩ := id C
  unfold bX4_spread_52
  refine k_iinc hx hb dX4_spread_52 (by decide) ?_
  refine k_goto (tgt := 22) hx hb dX4_spread_55 (by decide) ?_
  exact hK22
set_option maxRecDepth 20000 in
theorem sX4_spread_22 {l : Launch} {z0 b N M : Nat} {D : va_G} {cA : Nat → ClassId} {p : Program} {e : Env} {s : State} {m : MethodId} {args : Array Value} {below : List Frame} {meth : Method} {c : Code} {Kn : Option Value → ZH → Prop} {Kx : Nat → Prop} {h0 : ZH} {K8 K22 : ZK ZH} (C : zCx p l (zRm 2 M 47) s m args meth c cX4_spread 6 RX4 z0 D cA M) (htab : ∀ x ∈ c.exceptionTable.toList, False) (hr : meth.sig.returnType = (some .int)) (HX4_endsOf : Sem l z0 b N D cA yX4_endsOf cX4_endsOf 4 (some .int) 1 24 2 zno tX4_endsOf) (HX5_has : Sem l z0 b N D cA yX5_has cX5_has 2 (some .boolean) 0 0 2 zno tX5_has) (hK8 : Snd p l e (zRm 2 M 47) s m args below meth c 6 z0 b (zI z0 b N D cA s) (fun _ => (0, 0)) (vx_MQ below (zQn z0 b N D cA Kn) (zXn z0 b N D cA Kx h0) args s M (6 * M) (fun q => z0 ≤ q)) 8 K8) (hK22 : Snd p l e (zRm 2 M 47) s m args below meth c 6 z0 b (zI z0 b N D cA s) (fun _ => (0, 0)) (vx_MQ below (zQn z0 b N D cA Kn) (zXn z0 b N D cA Kx h0) args s M (6 * M) (fun q => z0 ≤ q)) 22 K22) : Snd p l e (zRm 2 M 47) s m args below meth c 6 z0 b (zI z0 b N D cA s) (fun _ => (0, 0)) (vx_MQ below (zQn z0 b N D cA Kn) (zXn z0 b N D cA Kx h0) args s M (6 * M) (fun q => z0 ≤ q)) 22 (bX4_spread_22 M Kn Kx h0 K8 K22) := by
  obtain ⟨hx, hb, hml, hown, hts, -⟩ := id C
  unfold bX4_spread_22
  refine k_iload hx hb dX4_spread_22 ?_
  refine k_aload_n hx hb dX4_spread_24 rfl ?_
  refine k_getf C (ci := 4) (k := 4) (Tf := TX4) (Nf := 5) (Cn := RX4) rfl zinX4 (by decide) rfl zfX4_24 dX4_spread_25 ?_
  refine k_icmp_ge (tgt := 58) hx hb dX4_spread_28 (by decide) ?_ ?_
  · refine k_iload hx hb dX4_spread_58 ?_
    refine k_iload_n hx hb dX4_spread_60 rfl ?_
    refine k_icmp_ne (tgt := 67) hx hb dX4_spread_61 (by decide) ?_ ?_
    · refine k_iload hx hb dX4_spread_67 ?_
      refine k_istore_n hx hb dX4_spread_69 rfl ?_
      refine k_iinc hx hb dX4_spread_70 (by decide) ?_
      refine k_goto (tgt := 8) hx hb dX4_spread_73 (by decide) ?_
      exact hK8
    · refine k_goto (tgt := 76) hx hb dX4_spread_64 (by decide) ?_
      exact sX4_spread_76 C htab hr HX4_endsOf HX5_has hK8 hK22
  · refine k_iload_n hx hb dX4_spread_31 rfl ?_
    refine k_iload hx hb dX4_spread_32 ?_
    refine k_callSN2 C HX5_has (host := "TagRoot") (by decide +kernel) (fun _ _ _ h => h) zsX5_has ziX5 zcX5_has (by decide +kernel) ⟨Nat.le_of_ble_eq_true rfl, Nat.le_of_ble_eq_true rfl⟩ dX4_spread_34 ?_
    refine k_if_eq (tgt := 52) hx hb dX4_spread_37 (by decide) ?_ ?_
    · exact sX4_spread_52 C htab hr HX4_endsOf HX5_has hK8 hK22
    · refine k_iload hx hb dX4_spread_40 ?_
      refine k_aload_n hx hb dX4_spread_42 rfl ?_
      refine k_getf C (ci := 4) (k := 2) (Tf := TX4) (Nf := 5) (Cn := RX4) rfl zinX4 (by decide) rfl zfX4_18 dX4_spread_43 ?_
      refine k_iload hx hb dX4_spread_46 ?_
      refine k_iald C dX4_spread_48 ?_
      refine k_ior hx hb dX4_spread_49 ?_
      refine k_istore hx hb dX4_spread_50 ?_
      exact sX4_spread_52 C htab hr HX4_endsOf HX5_has hK8 hK22
set_option maxRecDepth 20000 in
theorem sX4_spread_8 {l : Launch} {z0 b N M : Nat} {D : va_G} {cA : Nat → ClassId} {p : Program} {e : Env} {s : State} {m : MethodId} {args : Array Value} {below : List Frame} {meth : Method} {c : Code} {Kn : Option Value → ZH → Prop} {Kx : Nat → Prop} {h0 : ZH} {K8 K22 : ZK ZH} (C : zCx p l (zRm 2 M 47) s m args meth c cX4_spread 6 RX4 z0 D cA M) (htab : ∀ x ∈ c.exceptionTable.toList, False) (hr : meth.sig.returnType = (some .int)) (HX4_endsOf : Sem l z0 b N D cA yX4_endsOf cX4_endsOf 4 (some .int) 1 24 2 zno tX4_endsOf) (HX5_has : Sem l z0 b N D cA yX5_has cX5_has 2 (some .boolean) 0 0 2 zno tX5_has) (hK8 : Snd p l e (zRm 2 M 47) s m args below meth c 6 z0 b (zI z0 b N D cA s) (fun _ => (0, 0)) (vx_MQ below (zQn z0 b N D cA Kn) (zXn z0 b N D cA Kx h0) args s M (6 * M) (fun q => z0 ≤ q)) 8 K8) (hK22 : Snd p l e (zRm 2 M 47) s m args below meth c 6 z0 b (zI z0 b N D cA s) (fun _ => (0, 0)) (vx_MQ below (zQn z0 b N D cA Kn) (zXn z0 b N D cA Kx h0) args s M (6 * M) (fun q => z0 ≤ q)) 22 K22) : Snd p l e (zRm 2 M 47) s m args below meth c 6 z0 b (zI z0 b N D cA s) (fun _ => (0, 0)) (vx_MQ below (zQn z0 b N D cA Kn) (zXn z0 b N D cA Kx h0) args s M (6 * M) (fun q => z0 ≤ q)) 8 (bX4_spread_8 M Kn Kx h0 K8 K22) := by
  obtain ⟨hx, hb, hml, hown, hts, -⟩ := id C
  unfold bX4_spread_8
  refine k_iload_n hx hb dX4_spread_8 rfl ?_
  refine k_aload_n hx hb dX4_spread_9 rfl ?_
  refine k_getf C (ci := 4) (k := 4) (Tf := TX4) (Nf := 5) (Cn := RX4) rfl zinX4 (by decide) rfl zfX4_24 dX4_spread_10 ?_
  refine k_icmp_ge (tgt := 76) hx hb dX4_spread_13 (by decide) ?_ ?_
  · exact sX4_spread_76 C htab hr HX4_endsOf HX5_has hK8 hK22
  · refine k_iload_n hx hb dX4_spread_16 rfl ?_
    refine k_istore hx hb dX4_spread_17 ?_
    refine k_iconst hx hb dX4_spread_19 (by decide) ?_
    refine k_istore hx hb dX4_spread_20 ?_
    exact hK22
set_option maxRecDepth 20000 in
theorem sX4_spread_0 {l : Launch} {z0 b N M : Nat} {D : va_G} {cA : Nat → ClassId} {p : Program} {e : Env} {s : State} {m : MethodId} {args : Array Value} {below : List Frame} {meth : Method} {c : Code} {Kn : Option Value → ZH → Prop} {Kx : Nat → Prop} {h0 : ZH} {K8 K22 : ZK ZH} (C : zCx p l (zRm 2 M 47) s m args meth c cX4_spread 6 RX4 z0 D cA M) (htab : ∀ x ∈ c.exceptionTable.toList, False) (hr : meth.sig.returnType = (some .int)) (HX4_endsOf : Sem l z0 b N D cA yX4_endsOf cX4_endsOf 4 (some .int) 1 24 2 zno tX4_endsOf) (HX5_has : Sem l z0 b N D cA yX5_has cX5_has 2 (some .boolean) 0 0 2 zno tX5_has) (hK8 : Snd p l e (zRm 2 M 47) s m args below meth c 6 z0 b (zI z0 b N D cA s) (fun _ => (0, 0)) (vx_MQ below (zQn z0 b N D cA Kn) (zXn z0 b N D cA Kx h0) args s M (6 * M) (fun q => z0 ≤ q)) 8 K8) (hK22 : Snd p l e (zRm 2 M 47) s m args below meth c 6 z0 b (zI z0 b N D cA s) (fun _ => (0, 0)) (vx_MQ below (zQn z0 b N D cA Kn) (zXn z0 b N D cA Kx h0) args s M (6 * M) (fun q => z0 ≤ q)) 22 K22) : Snd p l e (zRm 2 M 47) s m args below meth c 6 z0 b (zI z0 b N D cA s) (fun _ => (0, 0)) (vx_MQ below (zQn z0 b N D cA Kn) (zXn z0 b N D cA Kx h0) args s M (6 * M) (fun q => z0 ≤ q)) 0 (bX4_spread_0 M Kn Kx h0 K8 K22) := by
  obtain ⟨hx, hb, hml, hown, hts, -⟩ := id C
  unfold bX4_spread_0
  refine k_aload_n hx hb dX4_spread_0 rfl ?_
  refine k_iload_n hx hb dX4_spread_1 rfl ?_
  refine k_callV1 C htab (ci := 4) (Tf := TX4) (Nf := 5) (Cn := RX4) rfl HX4_endsOf rfl zlX4_42 zmX4_endsOf zvX4_endsOf ziX4 zcX4_endsOf (by decide +kernel) ⟨Nat.le_of_ble_eq_true rfl, Nat.le_of_ble_eq_true rfl⟩ dX4_spread_2 ?_
  refine k_istore_n hx hb dX4_spread_5 rfl ?_
  refine k_iconst hx hb dX4_spread_6 (by decide) ?_
  refine k_istore_n hx hb dX4_spread_7 rfl ?_
  exact hK8
set_option maxRecDepth 20000 in
theorem uX4_spread {l : Launch} {z0 b N : Nat} {D : va_G} {cA : Nat → ClassId} (hlt : l.stackTraces = false) (HX4_endsOf : Sem l z0 b N D cA yX4_endsOf cX4_endsOf 4 (some .int) 1 24 2 zno tX4_endsOf) (HX5_has : Sem l z0 b N D cA yX5_has cX5_has 2 (some .boolean) 0 0 2 zno tX5_has) (spec : ∀ (M : Nat) (a : List Value) (h : ZH) (Kn : Option Value → ZH → Prop) (Kx : Nat → Prop), zok 2 a = true → tX4_spread a h Kn → ∀ (A : Nat → ZK ZH), (∀ ls st h', bX4_spread_8 M Kn Kx h (A 8) (A 22) ls st h' → A 8 ls st h') → (∀ ls st h', bX4_spread_22 M Kn Kx h (A 8) (A 22) ls st h' → A 22 ls st h') → bX4_spread_0 M Kn Kx h (A 8) (A 22) (zE 6 a) [] h) : Sem l z0 b N D cA yX4_spread cX4_spread 6 (some .int) 2 47 2 zno tX4_spread :=
  sem_of hlt (by decide +kernel) (by decide) (fun p e s m args below meth c M a h Kn Kx hok hX hN C hr htab => sX4_spread_0 C htab hr HX4_endsOf HX5_has (fun _ _ _ q => q) (fun _ _ _ q => q) _ _ _ (spec M a h Kn Kx hok (hN (fun _ h9 => h9)) (fun pc => AW p l e (zRm 2 M 47) s m args below meth c 6 z0 b (zI z0 b N D cA s) (fun _ => (0, 0)) (vx_MQ below (zQn z0 b N D cA Kn) (zXn z0 b N D cA Kx h) args s M (6 * M) (fun q => z0 ≤ q)) pc) (fun ls st h' hq => sX4_spread_8 C htab hr HX4_endsOf HX5_has (fun _ _ _ q => q) (fun _ _ _ q => q) ls st h' hq) (fun ls st h' hq => sX4_spread_22 C htab hr HX4_endsOf HX5_has (fun _ _ _ q => q) (fun _ _ _ q => q) ls st h' hq)))
set_option maxRecDepth 20000 in
theorem sX4_nearest_59 {l : Launch} {z0 b N M : Nat} {D : va_G} {cA : Nat → ClassId} {p : Program} {e : Env} {s : State} {m : MethodId} {args : Array Value} {below : List Frame} {meth : Method} {c : Code} {Kn : Option Value → ZH → Prop} {Kx : Nat → Prop} {h0 : ZH} {K7 K19 : ZK ZH} (C : zCx p l (zRm 1 M 24) s m args meth c cX4_nearest 6 RX4 z0 D cA M) (htab : ∀ x ∈ c.exceptionTable.toList, False) (hr : meth.sig.returnType = (some .int)) (HX5_has : Sem l z0 b N D cA yX5_has cX5_has 2 (some .boolean) 0 0 2 zno tX5_has) (HX4_endOf : Sem l z0 b N D cA yX4_endOf cX4_endOf 5 (some .int) 0 0 2 zno tX4_endOf) (HX4_leadingTo : Sem l z0 b N D cA yX4_leadingTo cX4_leadingTo 4 (some .int) 0 0 2 zno tX4_leadingTo) (hK7 : Snd p l e (zRm 1 M 24) s m args below meth c 6 z0 b (zI z0 b N D cA s) (fun _ => (0, 0)) (vx_MQ below (zQn z0 b N D cA Kn) (zXn z0 b N D cA Kx h0) args s M (6 * M) (fun q => z0 ≤ q)) 7 K7) (hK19 : Snd p l e (zRm 1 M 24) s m args below meth c 6 z0 b (zI z0 b N D cA s) (fun _ => (0, 0)) (vx_MQ below (zQn z0 b N D cA Kn) (zXn z0 b N D cA Kx h0) args s M (6 * M) (fun q => z0 ≤ q)) 19 K19) : Snd p l e (zRm 1 M 24) s m args below meth c 6 z0 b (zI z0 b N D cA s) (fun _ => (0, 0)) (vx_MQ below (zQn z0 b N D cA Kn) (zXn z0 b N D cA Kx h0) args s M (6 * M) (fun q => z0 ≤ q)) 59 (bX4_nearest_59 M Kn Kx h0 K7 K19) := by
  obtain ⟨hx, hb, hml, hown, hts, -⟩ := id C
  unfold bX4_nearest_59
  refine k_iinc hx hb dX4_nearest_59 (by decide) ?_
  refine k_goto (tgt := 19) hx hb dX4_nearest_62 (by decide) ?_
  exact hK19
set_option maxRecDepth 20000 in
theorem sX4_nearest_19 {l : Launch} {z0 b N M : Nat} {D : va_G} {cA : Nat → ClassId} {p : Program} {e : Env} {s : State} {m : MethodId} {args : Array Value} {below : List Frame} {meth : Method} {c : Code} {Kn : Option Value → ZH → Prop} {Kx : Nat → Prop} {h0 : ZH} {K7 K19 : ZK ZH} (C : zCx p l (zRm 1 M 24) s m args meth c cX4_nearest 6 RX4 z0 D cA M) (htab : ∀ x ∈ c.exceptionTable.toList, False) (hr : meth.sig.returnType = (some .int)) (HX5_has : Sem l z0 b N D cA yX5_has cX5_has 2 (some .boolean) 0 0 2 zno tX5_has) (HX4_endOf : Sem l z0 b N D cA yX4_endOf cX4_endOf 5 (some .int) 0 0 2 zno tX4_endOf) (HX4_leadingTo : Sem l z0 b N D cA yX4_leadingTo cX4_leadingTo 4 (some .int) 0 0 2 zno tX4_leadingTo) (hK7 : Snd p l e (zRm 1 M 24) s m args below meth c 6 z0 b (zI z0 b N D cA s) (fun _ => (0, 0)) (vx_MQ below (zQn z0 b N D cA Kn) (zXn z0 b N D cA Kx h0) args s M (6 * M) (fun q => z0 ≤ q)) 7 K7) (hK19 : Snd p l e (zRm 1 M 24) s m args below meth c 6 z0 b (zI z0 b N D cA s) (fun _ => (0, 0)) (vx_MQ below (zQn z0 b N D cA Kn) (zXn z0 b N D cA Kx h0) args s M (6 * M) (fun q => z0 ≤ q)) 19 K19) : Snd p l e (zRm 1 M 24) s m args below meth c 6 z0 b (zI z0 b N D cA s) (fun _ => (0, 0)) (vx_MQ below (zQn z0 b N D cA Kn) (zXn z0 b N D cA Kx h0) args s M (6 * M) (fun q => z0 ≤ q)) 19 (bX4_nearest_19 M Kn Kx h0 K7 K19) := by
  obtain ⟨hx, hb, hml, hown, hts, -⟩ := id C
  unfold bX4_nearest_19
  refine k_iload hx hb dX4_nearest_19 ?_
  refine k_aload_n hx hb dX4_nearest_21 rfl ?_
  refine k_getf C (ci := 4) (k := 4) (Tf := TX4) (Nf := 5) (Cn := RX4) rfl zinX4 (by decide) rfl zfX4_24 dX4_nearest_22 ?_
  refine k_icmp_ge (tgt := 65) hx hb dX4_nearest_25 (by decide) ?_ ?_
  · refine k_iload_n hx hb dX4_nearest_65 rfl ?_
    refine k_aload_n hx hb dX4_nearest_66 rfl ?_
    refine k_iload_n hx hb dX4_nearest_67 rfl ?_
    refine k_callV1 C htab (ci := 4) (Tf := TX4) (Nf := 5) (Cn := RX4) rfl HX4_leadingTo rfl zlX4_49 zmX4_leadingTo zvX4_leadingTo ziX4 zcX4_leadingTo (by decide +kernel) ⟨Nat.le_of_ble_eq_true rfl, Nat.le_of_ble_eq_true rfl⟩ dX4_nearest_68 ?_
    refine k_ior hx hb dX4_nearest_71 ?_
    refine k_istore_n hx hb dX4_nearest_72 rfl ?_
    refine k_iinc hx hb dX4_nearest_73 (by decide) ?_
    refine k_goto (tgt := 7) hx hb dX4_nearest_76 (by decide) ?_
    exact hK7
  · refine k_iload_n hx hb dX4_nearest_28 rfl ?_
    refine k_iload hx hb dX4_nearest_29 ?_
    refine k_callSN2 C HX5_has (host := "TagRoot") (by decide +kernel) (fun _ _ _ h => h) zsX5_has ziX5 zcX5_has (by decide +kernel) ⟨Nat.le_of_ble_eq_true rfl, Nat.le_of_ble_eq_true rfl⟩ dX4_nearest_31 ?_
    refine k_if_eq (tgt := 59) hx hb dX4_nearest_34 (by decide) ?_ ?_
    · exact sX4_nearest_59 C htab hr HX5_has HX4_endOf HX4_leadingTo hK7 hK19
    · refine k_iload_n hx hb dX4_nearest_37 rfl ?_
      refine k_aload_n hx hb dX4_nearest_38 rfl ?_
      refine k_iload hx hb dX4_nearest_39 ?_
      refine k_callV1 C htab (ci := 4) (Tf := TX4) (Nf := 5) (Cn := RX4) rfl HX4_endOf rfl zlX4_38 zmX4_endOf zvX4_endOf ziX4 zcX4_endOf (by decide +kernel) ⟨Nat.le_of_ble_eq_true rfl, Nat.le_of_ble_eq_true rfl⟩ dX4_nearest_41 ?_
      refine k_callSN2 C HX5_has (host := "TagRoot") (by decide +kernel) (fun _ _ _ h => h) zsX5_has ziX5 zcX5_has (by decide +kernel) ⟨Nat.le_of_ble_eq_true rfl, Nat.le_of_ble_eq_true rfl⟩ dX4_nearest_44 ?_
      refine k_if_eq (tgt := 59) hx hb dX4_nearest_47 (by decide) ?_ ?_
      · exact sX4_nearest_59 C htab hr HX5_has HX4_endOf HX4_leadingTo hK7 hK19
      · refine k_bipush hx hb dX4_nearest_50 (by decide) ?_
        refine k_iload hx hb dX4_nearest_52 ?_
        refine k_imul hx hb dX4_nearest_54 ?_
        refine k_iload hx hb dX4_nearest_55 ?_
        refine k_iadd hx hb dX4_nearest_57 ?_
        exact k_ret C hr dX4_nearest_58
set_option maxRecDepth 20000 in
theorem sX4_nearest_7 {l : Launch} {z0 b N M : Nat} {D : va_G} {cA : Nat → ClassId} {p : Program} {e : Env} {s : State} {m : MethodId} {args : Array Value} {below : List Frame} {meth : Method} {c : Code} {Kn : Option Value → ZH → Prop} {Kx : Nat → Prop} {h0 : ZH} {K7 K19 : ZK ZH} (C : zCx p l (zRm 1 M 24) s m args meth c cX4_nearest 6 RX4 z0 D cA M) (htab : ∀ x ∈ c.exceptionTable.toList, False) (hr : meth.sig.returnType = (some .int)) (HX5_has : Sem l z0 b N D cA yX5_has cX5_has 2 (some .boolean) 0 0 2 zno tX5_has) (HX4_endOf : Sem l z0 b N D cA yX4_endOf cX4_endOf 5 (some .int) 0 0 2 zno tX4_endOf) (HX4_leadingTo : Sem l z0 b N D cA yX4_leadingTo cX4_leadingTo 4 (some .int) 0 0 2 zno tX4_leadingTo) (hK7 : Snd p l e (zRm 1 M 24) s m args below meth c 6 z0 b (zI z0 b N D cA s) (fun _ => (0, 0)) (vx_MQ below (zQn z0 b N D cA Kn) (zXn z0 b N D cA Kx h0) args s M (6 * M) (fun q => z0 ≤ q)) 7 K7) (hK19 : Snd p l e (zRm 1 M 24) s m args below meth c 6 z0 b (zI z0 b N D cA s) (fun _ => (0, 0)) (vx_MQ below (zQn z0 b N D cA Kn) (zXn z0 b N D cA Kx h0) args s M (6 * M) (fun q => z0 ≤ q)) 19 K19) : Snd p l e (zRm 1 M 24) s m args below meth c 6 z0 b (zI z0 b N D cA s) (fun _ => (0, 0)) (vx_MQ below (zQn z0 b N D cA Kn) (zXn z0 b N D cA Kx h0) args s M (6 * M) (fun q => z0 ≤ q)) 7 (bX4_nearest_7 M Kn Kx h0 K7 K19) := by
  obtain ⟨hx, hb, hml, hown, hts, -⟩ := id C
  unfold bX4_nearest_7
  refine k_iload hx hb dX4_nearest_7 ?_
  refine k_aload_n hx hb dX4_nearest_9 rfl ?_
  refine k_getf C (ci := 4) (k := 4) (Tf := TX4) (Nf := 5) (Cn := RX4) rfl zinX4 (by decide) rfl zfX4_24 dX4_nearest_10 ?_
  refine k_icmp_ge (tgt := 79) hx hb dX4_nearest_13 (by decide) ?_ ?_
  · refine k_iconst hx hb dX4_nearest_79 (by decide) ?_
    exact k_ret C hr dX4_nearest_80
  · refine k_iconst hx hb dX4_nearest_16 (by decide) ?_
    refine k_istore hx hb dX4_nearest_17 ?_
    exact hK19
set_option maxRecDepth 20000 in
theorem sX4_nearest_0 {l : Launch} {z0 b N M : Nat} {D : va_G} {cA : Nat → ClassId} {p : Program} {e : Env} {s : State} {m : MethodId} {args : Array Value} {below : List Frame} {meth : Method} {c : Code} {Kn : Option Value → ZH → Prop} {Kx : Nat → Prop} {h0 : ZH} {K7 K19 : ZK ZH} (C : zCx p l (zRm 1 M 24) s m args meth c cX4_nearest 6 RX4 z0 D cA M) (htab : ∀ x ∈ c.exceptionTable.toList, False) (hr : meth.sig.returnType = (some .int)) (HX5_has : Sem l z0 b N D cA yX5_has cX5_has 2 (some .boolean) 0 0 2 zno tX5_has) (HX4_endOf : Sem l z0 b N D cA yX4_endOf cX4_endOf 5 (some .int) 0 0 2 zno tX4_endOf) (HX4_leadingTo : Sem l z0 b N D cA yX4_leadingTo cX4_leadingTo 4 (some .int) 0 0 2 zno tX4_leadingTo) (hK7 : Snd p l e (zRm 1 M 24) s m args below meth c 6 z0 b (zI z0 b N D cA s) (fun _ => (0, 0)) (vx_MQ below (zQn z0 b N D cA Kn) (zXn z0 b N D cA Kx h0) args s M (6 * M) (fun q => z0 ≤ q)) 7 K7) (hK19 : Snd p l e (zRm 1 M 24) s m args below meth c 6 z0 b (zI z0 b N D cA s) (fun _ => (0, 0)) (vx_MQ below (zQn z0 b N D cA Kn) (zXn z0 b N D cA Kx h0) args s M (6 * M) (fun q => z0 ≤ q)) 19 K19) : Snd p l e (zRm 1 M 24) s m args below meth c 6 z0 b (zI z0 b N D cA s) (fun _ => (0, 0)) (vx_MQ below (zQn z0 b N D cA Kn) (zXn z0 b N D cA Kx h0) args s M (6 * M) (fun q => z0 ≤ q)) 0 (bX4_nearest_0 M Kn Kx h0 K7 K19) := by
  obtain ⟨hx, hb, hml, hown, hts, -⟩ := id C
  unfold bX4_nearest_0
  refine k_iconst hx hb dX4_nearest_0 (by decide) ?_
  refine k_iload_n hx hb dX4_nearest_1 rfl ?_
  refine k_ishl hx hb dX4_nearest_2 ?_
  refine k_istore_n hx hb dX4_nearest_3 rfl ?_
  refine k_iconst hx hb dX4_nearest_4 (by decide) ?_
  refine k_istore hx hb dX4_nearest_5 ?_
  exact hK7
set_option maxRecDepth 20000 in
theorem uX4_nearest {l : Launch} {z0 b N : Nat} {D : va_G} {cA : Nat → ClassId} (hlt : l.stackTraces = false) (HX5_has : Sem l z0 b N D cA yX5_has cX5_has 2 (some .boolean) 0 0 2 zno tX5_has) (HX4_endOf : Sem l z0 b N D cA yX4_endOf cX4_endOf 5 (some .int) 0 0 2 zno tX4_endOf) (HX4_leadingTo : Sem l z0 b N D cA yX4_leadingTo cX4_leadingTo 4 (some .int) 0 0 2 zno tX4_leadingTo) (spec : ∀ (M : Nat) (a : List Value) (h : ZH) (Kn : Option Value → ZH → Prop) (Kx : Nat → Prop), zok 3 a = true → tX4_nearest a h Kn → ∀ (A : Nat → ZK ZH), (∀ ls st h', bX4_nearest_7 M Kn Kx h (A 7) (A 19) ls st h' → A 7 ls st h') → (∀ ls st h', bX4_nearest_19 M Kn Kx h (A 7) (A 19) ls st h' → A 19 ls st h') → bX4_nearest_0 M Kn Kx h (A 7) (A 19) (zE 6 a) [] h) : Sem l z0 b N D cA yX4_nearest cX4_nearest 6 (some .int) 1 24 3 zno tX4_nearest :=
  sem_of hlt (by decide +kernel) (by decide) (fun p e s m args below meth c M a h Kn Kx hok hX hN C hr htab => sX4_nearest_0 C htab hr HX5_has HX4_endOf HX4_leadingTo (fun _ _ _ q => q) (fun _ _ _ q => q) _ _ _ (spec M a h Kn Kx hok (hN (fun _ h9 => h9)) (fun pc => AW p l e (zRm 1 M 24) s m args below meth c 6 z0 b (zI z0 b N D cA s) (fun _ => (0, 0)) (vx_MQ below (zQn z0 b N D cA Kn) (zXn z0 b N D cA Kx h) args s M (6 * M) (fun q => z0 ≤ q)) pc) (fun ls st h' hq => sX4_nearest_7 C htab hr HX5_has HX4_endOf HX4_leadingTo (fun _ _ _ q => q) (fun _ _ _ q => q) ls st h' hq) (fun ls st h' hq => sX4_nearest_19 C htab hr HX5_has HX4_endOf HX4_leadingTo (fun _ _ _ q => q) (fun _ _ _ q => q) ls st h' hq)))
set_option maxRecDepth 20000 in
theorem sX4_leadingTo_29 {l : Launch} {z0 b N M : Nat} {D : va_G} {cA : Nat → ClassId} {p : Program} {e : Env} {s : State} {m : MethodId} {args : Array Value} {below : List Frame} {meth : Method} {c : Code} {Kn : Option Value → ZH → Prop} {Kx : Nat → Prop} {h0 : ZH} {K4 : ZK ZH} (C : zCx p l (zRm 0 M 0) s m args meth c cX4_leadingTo 4 RX4 z0 D cA M) (htab : ∀ x ∈ c.exceptionTable.toList, False) (hr : meth.sig.returnType = (some .int)) (hK4 : Snd p l e (zRm 0 M 0) s m args below meth c 4 z0 b (zI z0 b N D cA s) (fun _ => (0, 0)) (vx_MQ below (zQn z0 b N D cA Kn) (zXn z0 b N D cA Kx h0) args s M (6 * M) (fun q => z0 ≤ q)) 4 K4) : Snd p l e (zRm 0 M 0) s m args below meth c 4 z0 b (zI z0 b N D cA s) (fun _ => (0, 0)) (vx_MQ below (zQn z0 b N D cA Kn) (zXn z0 b N D cA Kx h0) args s M (6 * M) (fun q => z0 ≤ q)) 29 (bX4_leadingTo_29 M Kn Kx h0 K4) := by
  obtain ⟨hx, hb, hml, hown, hts, -⟩ := id C
  unfold bX4_leadingTo_29
  refine k_iinc hx hb dX4_leadingTo_29 (by decide) ?_
  refine k_goto (tgt := 4) hx hb dX4_leadingTo_32 (by decide) ?_
  exact hK4
set_option maxRecDepth 20000 in
theorem sX4_leadingTo_4 {l : Launch} {z0 b N M : Nat} {D : va_G} {cA : Nat → ClassId} {p : Program} {e : Env} {s : State} {m : MethodId} {args : Array Value} {below : List Frame} {meth : Method} {c : Code} {Kn : Option Value → ZH → Prop} {Kx : Nat → Prop} {h0 : ZH} {K4 : ZK ZH} (C : zCx p l (zRm 0 M 0) s m args meth c cX4_leadingTo 4 RX4 z0 D cA M) (htab : ∀ x ∈ c.exceptionTable.toList, False) (hr : meth.sig.returnType = (some .int)) (hK4 : Snd p l e (zRm 0 M 0) s m args below meth c 4 z0 b (zI z0 b N D cA s) (fun _ => (0, 0)) (vx_MQ below (zQn z0 b N D cA Kn) (zXn z0 b N D cA Kx h0) args s M (6 * M) (fun q => z0 ≤ q)) 4 K4) : Snd p l e (zRm 0 M 0) s m args below meth c 4 z0 b (zI z0 b N D cA s) (fun _ => (0, 0)) (vx_MQ below (zQn z0 b N D cA Kn) (zXn z0 b N D cA Kx h0) args s M (6 * M) (fun q => z0 ≤ q)) 4 (bX4_leadingTo_4 M Kn Kx h0 K4) := by
  obtain ⟨hx, hb, hml, hown, hts, -⟩ := id C
  unfold bX4_leadingTo_4
  refine k_iload_n hx hb dX4_leadingTo_4 rfl ?_
  refine k_aload_n hx hb dX4_leadingTo_5 rfl ?_
  refine k_getf C (ci := 4) (k := 4) (Tf := TX4) (Nf := 5) (Cn := RX4) rfl zinX4 (by decide) rfl zfX4_24 dX4_leadingTo_6 ?_
  refine k_icmp_ge (tgt := 35) hx hb dX4_leadingTo_9 (by decide) ?_ ?_
  · refine k_iload_n hx hb dX4_leadingTo_35 rfl ?_
    exact k_ret C hr dX4_leadingTo_36
  · refine k_aload_n hx hb dX4_leadingTo_12 rfl ?_
    refine k_getf C (ci := 4) (k := 2) (Tf := TX4) (Nf := 5) (Cn := RX4) rfl zinX4 (by decide) rfl zfX4_18 dX4_leadingTo_13 ?_
    refine k_iload_n hx hb dX4_leadingTo_16 rfl ?_
    refine k_iald C dX4_leadingTo_17 ?_
    refine k_iload_n hx hb dX4_leadingTo_18 rfl ?_
    refine k_iand hx hb dX4_leadingTo_19 ?_
    refine k_if_eq (tgt := 29) hx hb dX4_leadingTo_20 (by decide) ?_ ?_
    · exact sX4_leadingTo_29 C htab hr hK4
    · refine k_iload_n hx hb dX4_leadingTo_23 rfl ?_
      refine k_iconst hx hb dX4_leadingTo_24 (by decide) ?_
      refine k_iload_n hx hb dX4_leadingTo_25 rfl ?_
      refine k_ishl hx hb dX4_leadingTo_26 ?_
      refine k_ior hx hb dX4_leadingTo_27 ?_
      refine k_istore_n hx hb dX4_leadingTo_28 rfl ?_
      exact sX4_leadingTo_29 C htab hr hK4
set_option maxRecDepth 20000 in
theorem sX4_leadingTo_0 {l : Launch} {z0 b N M : Nat} {D : va_G} {cA : Nat → ClassId} {p : Program} {e : Env} {s : State} {m : MethodId} {args : Array Value} {below : List Frame} {meth : Method} {c : Code} {Kn : Option Value → ZH → Prop} {Kx : Nat → Prop} {h0 : ZH} {K4 : ZK ZH} (C : zCx p l (zRm 0 M 0) s m args meth c cX4_leadingTo 4 RX4 z0 D cA M) (htab : ∀ x ∈ c.exceptionTable.toList, False) (hr : meth.sig.returnType = (some .int)) (hK4 : Snd p l e (zRm 0 M 0) s m args below meth c 4 z0 b (zI z0 b N D cA s) (fun _ => (0, 0)) (vx_MQ below (zQn z0 b N D cA Kn) (zXn z0 b N D cA Kx h0) args s M (6 * M) (fun q => z0 ≤ q)) 4 K4) : Snd p l e (zRm 0 M 0) s m args below meth c 4 z0 b (zI z0 b N D cA s) (fun _ => (0, 0)) (vx_MQ below (zQn z0 b N D cA Kn) (zXn z0 b N D cA Kx h0) args s M (6 * M) (fun q => z0 ≤ q)) 0 (bX4_leadingTo_0 M Kn Kx h0 K4) := by
  obtain ⟨hx, hb, hml, hown, hts, -⟩ := id C
  unfold bX4_leadingTo_0
  refine k_iconst hx hb dX4_leadingTo_0 (by decide) ?_
  refine k_istore_n hx hb dX4_leadingTo_1 rfl ?_
  refine k_iconst hx hb dX4_leadingTo_2 (by decide) ?_
  refine k_istore_n hx hb dX4_leadingTo_3 rfl ?_
  exact hK4
set_option maxRecDepth 20000 in
theorem uX4_leadingTo {l : Launch} {z0 b N : Nat} {D : va_G} {cA : Nat → ClassId} (hlt : l.stackTraces = false) (spec : ∀ (M : Nat) (a : List Value) (h : ZH) (Kn : Option Value → ZH → Prop) (Kx : Nat → Prop), zok 2 a = true → tX4_leadingTo a h Kn → ∀ (A : Nat → ZK ZH), (∀ ls st h', bX4_leadingTo_4 M Kn Kx h (A 4) ls st h' → A 4 ls st h') → bX4_leadingTo_0 M Kn Kx h (A 4) (zE 4 a) [] h) : Sem l z0 b N D cA yX4_leadingTo cX4_leadingTo 4 (some .int) 0 0 2 zno tX4_leadingTo :=
  sem_of hlt (by decide +kernel) (by decide) (fun p e s m args below meth c M a h Kn Kx hok hX hN C hr htab => sX4_leadingTo_0 C htab hr (fun _ _ _ q => q) _ _ _ (spec M a h Kn Kx hok (hN (fun _ h9 => h9)) (fun pc => AW p l e (zRm 0 M 0) s m args below meth c 4 z0 b (zI z0 b N D cA s) (fun _ => (0, 0)) (vx_MQ below (zQn z0 b N D cA Kn) (zXn z0 b N D cA Kx h) args s M (6 * M) (fun q => z0 ≤ q)) pc) (fun ls st h' hq => sX4_leadingTo_4 C htab hr (fun _ _ _ q => q) ls st h' hq)))
