def bX6_thrown_0 (M : Nat) (Kn : Option Value → ZH → Prop) (Kx : Nat → Prop) (h0 : ZH) : ZK ZH := (o_aload 0 (o_getf 6 0 (o_ret .int Kn)))
def bX6_holds_14 (M : Nat) (Kn : Option Value → ZH → Prop) (Kx : Nat → Prop) (h0 : ZH) : ZK ZH := (o_ret .boolean Kn)
def bX6_holds_0 (M : Nat) (Kn : Option Value → ZH → Prop) (Kx : Nat → Prop) (h0 : ZH) : ZK ZH := (o_aload 0 (o_iload 1 (o_puti 6 0 (o_iload 1 (o_if1 (fun x => ¬ x = 0) (o_ic (0) (bX6_holds_14 M Kn Kx h0)) (o_ic (1) (bX6_holds_14 M Kn Kx h0)))))))
def bX6_in_15 (M : Nat) (Kn : Option Value → ZH → Prop) (Kx : Nat → Prop) (h0 : ZH) : ZK ZH := (o_ret .boolean Kn)
def bX6_in_14 (M : Nat) (Kn : Option Value → ZH → Prop) (Kx : Nat → Prop) (h0 : ZH) : ZK ZH := (o_ic (0) (bX6_in_15 M Kn Kx h0))
def bX6_in_0 (M : Nat) (Kn : Option Value → ZH → Prop) (Kx : Nat → Prop) (h0 : ZH) : ZK ZH := (o_iload 0 (o_iload 1 (o_if2 (fun x y => x < y) (bX6_in_14 M Kn Kx h0) (o_iload 0 (o_iload 2 (o_if2 (fun x y => y < x) (bX6_in_14 M Kn Kx h0) (o_ic (1) (bX6_in_15 M Kn Kx h0))))))))
def bX6_has_14 (M : Nat) (Kn : Option Value → ZH → Prop) (Kx : Nat → Prop) (h0 : ZH) : ZK ZH := (o_ret .boolean Kn)
def bX6_has_0 (M : Nat) (Kn : Option Value → ZH → Prop) (Kx : Nat → Prop) (h0 : ZH) : ZK ZH := (o_iload 0 (o_iload 1 (o_bin (fun x y => x >>> (y &&& 31)) (o_ic (1) (o_bin (fun x y => x &&& y) (o_ic (1) (o_if2 (fun x y => ¬ x = y) (o_ic (0) (bX6_has_14 M Kn Kx h0)) (o_ic (1) (bX6_has_14 M Kn Kx h0)))))))))
def bX6_many_4 (M : Nat) (Kn : Option Value → ZH → Prop) (Kx : Nat → Prop) (h0 : ZH) (K4 : ZK ZH) : ZK ZH := (o_iload 2 (o_if1 (fun x => x = 0) (o_iload 1 (o_ret .int Kn)) (o_iinc 1 (1) (o_iload 2 (o_iload 2 (o_ic (1) (o_bin (fun x y => x - y) (o_bin (fun x y => x &&& y) (o_istore 2 K4)))))))))
def bX6_many_0 (M : Nat) (Kn : Option Value → ZH → Prop) (Kx : Nat → Prop) (h0 : ZH) (K4 : ZK ZH) : ZK ZH := (o_ic (0) (o_istore 1 (o_iload 0 (o_istore 2 K4))))
def bX6_isTag_0 (M : Nat) (Kn : Option Value → ZH → Prop) (Kx : Nat → Prop) (h0 : ZH) : ZK ZH := (o_iload 1 (o_ic (0) (o_aload 0 (o_getf 6 3 (o_ic (1) (o_bin (fun x y => x - y) (o_callS3 M zno tX6_in Kx h0 (o_ret .boolean Kn))))))))
def bX6_isThing_0 (M : Nat) (Kn : Option Value → ZH → Prop) (Kx : Nat → Prop) (h0 : ZH) : ZK ZH := (o_iload 1 (o_ic (0) (o_aload 0 (o_getf 6 8 (o_ic (1) (o_bin (fun x y => x - y) (o_callS3 M zno tX6_in Kx h0 (o_ret .boolean Kn))))))))
def bX6_plain_35 (M : Nat) (Kn : Option Value → ZH → Prop) (Kx : Nat → Prop) (h0 : ZH) : ZK ZH := (o_ret .char Kn)
def bX6_plain_23 (M : Nat) (Kn : Option Value → ZH → Prop) (Kx : Nat → Prop) (h0 : ZH) : ZK ZH := (o_iload 0 (o_ic (45) (o_if2 (fun x y => ¬ x = y) (o_iload 0 (bX6_plain_35 M Kn Kx h0)) (o_ic (95) (bX6_plain_35 M Kn Kx h0)))))
def bX6_plain_0 (M : Nat) (Kn : Option Value → ZH → Prop) (Kx : Nat → Prop) (h0 : ZH) : ZK ZH := (o_iload 0 (o_ic (65) (o_if2 (fun x y => x < y) (bX6_plain_23 M Kn Kx h0) (o_iload 0 (o_ic (90) (o_if2 (fun x y => y < x) (bX6_plain_23 M Kn Kx h0) (o_iload 0 (o_ic (65) (o_bin (fun x y => x - y) (o_ic (97) (o_bin (fun x y => x + y) (o_i2c (bX6_plain_35 M Kn Kx h0)))))))))))))
def bX6_isSign_32 (M : Nat) (Kn : Option Value → ZH → Prop) (Kx : Nat → Prop) (h0 : ZH) : ZK ZH := (o_ret .boolean Kn)
def bX6_isSign_27 (M : Nat) (Kn : Option Value → ZH → Prop) (Kx : Nat → Prop) (h0 : ZH) : ZK ZH := (o_ic (1) (bX6_isSign_32 M Kn Kx h0))
def bX6_isSign_18 (M : Nat) (Kn : Option Value → ZH → Prop) (Kx : Nat → Prop) (h0 : ZH) : ZK ZH := (o_iload 0 (o_callS1 M zno tX6_plain Kx h0 (o_ic (95) (o_if2 (fun x y => ¬ x = y) (o_ic (0) (bX6_isSign_32 M Kn Kx h0)) (bX6_isSign_27 M Kn Kx h0)))))
def bX6_isSign_0 (M : Nat) (Kn : Option Value → ZH → Prop) (Kx : Nat → Prop) (h0 : ZH) : ZK ZH := (o_iload 0 (o_callS1 M zno tX6_plain Kx h0 (o_ic (97) (o_if2 (fun x y => x < y) (bX6_isSign_18 M Kn Kx h0) (o_iload 0 (o_callS1 M zno tX6_plain Kx h0 (o_ic (122) (o_if2 (fun x y => x ≤ y) (bX6_isSign_27 M Kn Kx h0) (bX6_isSign_18 M Kn Kx h0)))))))))
def bX6_type_26 (M : Nat) (Kn : Option Value → ZH → Prop) (Kx : Nat → Prop) (h0 : ZH) : ZK ZH := (o_callV1 M 6 zno tX6_holds Kx h0 (o_if1 (fun x => ¬ x = 0) (o_aload 0 (o_getf 6 1 (o_aload 0 (o_getf 6 2 (o_iload 1 (o_cast (o_aload 0 (o_dup (o_getf 6 2 (o_ic (1) (o_bin (fun x y => x + y) (o_puti 6 2 (o_aload 0 (o_getf 6 2 (o_ret .int Kn))))))))))))))) (o_ic (0) (o_ret .int Kn))))
def bX6_type_0 (M : Nat) (Kn : Option Value → ZH → Prop) (Kx : Nat → Prop) (h0 : ZH) : ZK ZH := (o_aload 0 (o_iload 1 (o_callS1 M zno tX6_isSign Kx h0 (o_if1 (fun x => ¬ x = 0) (o_aload 0 (o_getf 6 2 (o_ic (8) (o_if2 (fun x y => ¬ x = y) (o_ic (0) (bX6_type_26 M Kn Kx h0)) (o_ic (2) (bX6_type_26 M Kn Kx h0)))))) (o_ic (1) (bX6_type_26 M Kn Kx h0))))))
def bX6_isDraft_71 (M : Nat) (Kn : Option Value → ZH → Prop) (Kx : Nat → Prop) (h0 : ZH) (K21 : ZK ZH) : ZK ZH := (o_iload 2 (o_ret .boolean Kn))
def bX6_isDraft_64 (M : Nat) (Kn : Option Value → ZH → Prop) (Kx : Nat → Prop) (h0 : ZH) (K21 : ZK ZH) : ZK ZH := (o_istore 2 (o_iinc 3 (1) K21))
def bX6_isDraft_21 (M : Nat) (Kn : Option Value → ZH → Prop) (Kx : Nat → Prop) (h0 : ZH) (K21 : ZK ZH) : ZK ZH := (o_iload 3 (o_aload 0 (o_getf 6 2 (o_if2 (fun x y => y ≤ x) (bX6_isDraft_71 M Kn Kx h0 K21) (o_iload 2 (o_if1 (fun x => x = 0) (bX6_isDraft_71 M Kn Kx h0 K21) (o_aload 0 (o_getf 6 4 (o_ic (8) (o_iload 1 (o_bin (fun x y => x * y) (o_iload 3 (o_bin (fun x y => x + y) (o_ald 1 (o_callS1 M zno tX6_plain Kx h0 (o_aload 0 (o_getf 6 1 (o_iload 3 (o_ald 1 (o_callS1 M zno tX6_plain Kx h0 (o_if2 (fun x y => ¬ x = y) (o_ic (0) (bX6_isDraft_64 M Kn Kx h0 K21)) (o_ic (1) (bX6_isDraft_64 M Kn Kx h0 K21)))))))))))))))))))))))
def bX6_isDraft_18 (M : Nat) (Kn : Option Value → ZH → Prop) (Kx : Nat → Prop) (h0 : ZH) (K21 : ZK ZH) : ZK ZH := (o_istore 2 (o_ic (0) (o_istore 3 K21)))
def bX6_isDraft_0 (M : Nat) (Kn : Option Value → ZH → Prop) (Kx : Nat → Prop) (h0 : ZH) (K21 : ZK ZH) : ZK ZH := (o_aload 0 (o_getf 6 5 (o_iload 1 (o_ald 0 (o_aload 0 (o_getf 6 2 (o_if2 (fun x y => ¬ x = y) (o_ic (0) (bX6_isDraft_18 M Kn Kx h0 K21)) (o_ic (1) (bX6_isDraft_18 M Kn Kx h0 K21)))))))))
def bX6_enter_136 (M : Nat) (Kn : Option Value → ZH → Prop) (Kx : Nat → Prop) (h0 : ZH) (K4 K74 : ZK ZH) : ZK ZH := (o_aload 0 (o_ic (0) (o_puti 6 2 (o_iload 1 (o_ret .int Kn)))))
def bX6_enter_74 (M : Nat) (Kn : Option Value → ZH → Prop) (Kx : Nat → Prop) (h0 : ZH) (K4 K74 : ZK ZH) : ZK ZH := (o_iload 2 (o_aload 0 (o_getf 6 2 (o_if2 (fun x y => y ≤ x) (o_aload 0 (o_getf 6 5 (o_aload 0 (o_getf 6 3 (o_aload 0 (o_getf 6 2 (o_iast (o_aload 0 (o_getf 6 3 (o_istore 1 (o_aload 0 (o_dup (o_getf 6 3 (o_ic (1) (o_bin (fun x y => x + y) (o_puti 6 3 (bX6_enter_136 M Kn Kx h0 K4 K74))))))))))))))))) (o_aload 0 (o_getf 6 4 (o_ic (8) (o_aload 0 (o_getf 6 3 (o_bin (fun x y => x * y) (o_iload 2 (o_bin (fun x y => x + y) (o_aload 0 (o_getf 6 1 (o_iload 2 (o_ald 1 (o_cast (o_iinc 2 (1) K74))))))))))))))))))
def bX6_enter_59 (M : Nat) (Kn : Option Value → ZH → Prop) (Kx : Nat → Prop) (h0 : ZH) (K4 K74 : ZK ZH) : ZK ZH := (o_callV1 M 6 zno tX6_holds Kx h0 (o_if1 (fun x => ¬ x = 0) (o_iload 1 (o_ic (-1) (o_if2 (fun x y => ¬ x = y) (bX6_enter_136 M Kn Kx h0 K4 K74) (o_ic (0) (o_istore 2 K74))))) (o_ic (0) (o_ret .int Kn))))
def bX6_enter_58 (M : Nat) (Kn : Option Value → ZH → Prop) (Kx : Nat → Prop) (h0 : ZH) (K4 K74 : ZK ZH) : ZK ZH := (o_ic (0) (bX6_enter_59 M Kn Kx h0 K4 K74))
def bX6_enter_54 (M : Nat) (Kn : Option Value → ZH → Prop) (Kx : Nat → Prop) (h0 : ZH) (K4 K74 : ZK ZH) : ZK ZH := (o_ic (1) (bX6_enter_59 M Kn Kx h0 K4 K74))
def bX6_enter_25 (M : Nat) (Kn : Option Value → ZH → Prop) (Kx : Nat → Prop) (h0 : ZH) (K4 K74 : ZK ZH) : ZK ZH := (o_istore 1 (o_iinc 2 (1) K4))
def bX6_enter_4 (M : Nat) (Kn : Option Value → ZH → Prop) (Kx : Nat → Prop) (h0 : ZH) (K4 K74 : ZK ZH) : ZK ZH := (o_iload 2 (o_aload 0 (o_getf 6 3 (o_if2 (fun x y => y ≤ x) (o_aload 0 (o_aload 0 (o_getf 6 2 (o_if1 (fun x => x = 0) (bX6_enter_54 M Kn Kx h0 K4 K74) (o_iload 1 (o_ic (-1) (o_if2 (fun x y => ¬ x = y) (bX6_enter_58 M Kn Kx h0 K4 K74) (o_aload 0 (o_getf 6 3 (o_ic (24) (o_if2 (fun x y => ¬ x = y) (bX6_enter_58 M Kn Kx h0 K4 K74) (bX6_enter_54 M Kn Kx h0 K4 K74)))))))))))) (o_aload 0 (o_iload 2 (o_callV1 M 6 zno tX6_isDraft Kx h0 (o_if1 (fun x => x = 0) (o_iload 1 (bX6_enter_25 M Kn Kx h0 K4 K74)) (o_iload 2 (bX6_enter_25 M Kn Kx h0 K4 K74))))))))))
def bX6_enter_0 (M : Nat) (Kn : Option Value → ZH → Prop) (Kx : Nat → Prop) (h0 : ZH) (K4 K74 : ZK ZH) : ZK ZH := (o_ic (-1) (o_istore 1 (o_ic (0) (o_istore 2 K4))))
def bX6_tags_0 (M : Nat) (Kn : Option Value → ZH → Prop) (Kx : Nat → Prop) (h0 : ZH) : ZK ZH := (o_aload 0 (o_ic (0) (o_puti 6 0 (o_aload 0 (o_getf 6 3 (o_ret .int Kn))))))
def bX6_letter_52 (M : Nat) (Kn : Option Value → ZH → Prop) (Kx : Nat → Prop) (h0 : ZH) : ZK ZH := (o_ret .char Kn)
def bX6_letter_30 (M : Nat) (Kn : Option Value → ZH → Prop) (Kx : Nat → Prop) (h0 : ZH) : ZK ZH := (o_callV1 M 6 zno tX6_holds Kx h0 (o_if1 (fun x => x = 0) (o_ic (32) (bX6_letter_52 M Kn Kx h0)) (o_aload 0 (o_getf 6 4 (o_ic (8) (o_iload 1 (o_bin (fun x y => x * y) (o_iload 2 (o_bin (fun x y => x + y) (o_ald 1 (bX6_letter_52 M Kn Kx h0)))))))))))
def bX6_letter_29 (M : Nat) (Kn : Option Value → ZH → Prop) (Kx : Nat → Prop) (h0 : ZH) : ZK ZH := (o_ic (1) (bX6_letter_30 M Kn Kx h0))
def bX6_letter_0 (M : Nat) (Kn : Option Value → ZH → Prop) (Kx : Nat → Prop) (h0 : ZH) : ZK ZH := (o_aload 0 (o_aload 0 (o_iload 1 (o_callV1 M 6 zno tX6_isTag Kx h0 (o_if1 (fun x => x = 0) (bX6_letter_29 M Kn Kx h0) (o_iload 2 (o_ic (0) (o_aload 0 (o_getf 6 5 (o_iload 1 (o_ald 0 (o_ic (1) (o_bin (fun x y => x - y) (o_callS3 M zno tX6_in Kx h0 (o_if1 (fun x => x = 0) (bX6_letter_29 M Kn Kx h0) (o_ic (0) (bX6_letter_30 M Kn Kx h0)))))))))))))))))
def bX6_addThing_15 (M : Nat) (Kn : Option Value → ZH → Prop) (Kx : Nat → Prop) (h0 : ZH) : ZK ZH := (o_callV1 M 6 zno tX6_holds Kx h0 (o_if1 (fun x => ¬ x = 0) (o_aload 0 (o_dup (o_getf 6 8 (o_ic (1) (o_bin (fun x y => x + y) (o_puti 6 8 (o_aload 0 (o_getf 6 8 (o_ic (1) (o_bin (fun x y => x - y) (o_ret .int Kn))))))))))) (o_ic (0) (o_ret .int Kn))))
def bX6_addThing_0 (M : Nat) (Kn : Option Value → ZH → Prop) (Kx : Nat → Prop) (h0 : ZH) : ZK ZH := (o_aload 0 (o_aload 0 (o_getf 6 8 (o_ic (20) (o_if2 (fun x y => ¬ x = y) (o_ic (0) (bX6_addThing_15 M Kn Kx h0)) (o_ic (1) (bX6_addThing_15 M Kn Kx h0)))))))
def bX6_things_0 (M : Nat) (Kn : Option Value → ZH → Prop) (Kx : Nat → Prop) (h0 : ZH) : ZK ZH := (o_aload 0 (o_ic (0) (o_puti 6 0 (o_aload 0 (o_getf 6 8 (o_ret .int Kn))))))
def bX6_begins_83 (M : Nat) (Kn : Option Value → ZH → Prop) (Kx : Nat → Prop) (h0 : ZH) (K21 K51 : ZK ZH) : ZK ZH := (o_aload 0 (o_getf 6 18 (o_aload 0 (o_getf 6 17 (o_ic (0) (o_iast (o_aload 0 (o_dup (o_getf 6 17 (o_ic (1) (o_bin (fun x y => x + y) (o_puti 6 17 (o_vret Kn)))))))))))))
def bX6_begins_51 (M : Nat) (Kn : Option Value → ZH → Prop) (Kx : Nat → Prop) (h0 : ZH) (K21 K51 : ZK ZH) : ZK ZH := (o_iload 1 (o_ic (20) (o_aload 0 (o_getf 6 17 (o_bin (fun x y => x * y) (o_if2 (fun x y => y ≤ x) (bX6_begins_83 M Kn Kx h0 K21 K51) (o_aload 0 (o_getf 6 19 (o_iload 1 (o_aload 0 (o_getf 6 19 (o_iload 1 (o_ic (20) (o_bin (fun x y => x + y) (o_ald 0 (o_iast (o_iinc 1 (1) K51)))))))))))))))))
def bX6_begins_21 (M : Nat) (Kn : Option Value → ZH → Prop) (Kx : Nat → Prop) (h0 : ZH) (K21 K51 : ZK ZH) : ZK ZH := (o_iload 1 (o_aload 0 (o_getf 6 17 (o_if2 (fun x y => y ≤ x) (o_ic (0) (o_istore 1 K51)) (o_aload 0 (o_getf 6 18 (o_iload 1 (o_aload 0 (o_getf 6 18 (o_iload 1 (o_ic (1) (o_bin (fun x y => x + y) (o_ald 0 (o_iast (o_iinc 1 (1) K21)))))))))))))))
def bX6_begins_0 (M : Nat) (Kn : Option Value → ZH → Prop) (Kx : Nat → Prop) (h0 : ZH) (K21 K51 : ZK ZH) : ZK ZH := (o_aload 0 (o_getf 6 17 (o_ic (20) (o_if2 (fun x y => ¬ x = y) (bX6_begins_83 M Kn Kx h0 K21 K51) (o_aload 0 (o_dup (o_getf 6 17 (o_ic (1) (o_bin (fun x y => x - y) (o_puti 6 17 (o_ic (0) (o_istore 1 K21))))))))))))
def bX6_sets_0 (M : Nat) (Kn : Option Value → ZH → Prop) (Kx : Nat → Prop) (h0 : ZH) : ZK ZH := (o_aload 0 (o_getf 6 19 (o_ic (20) (o_aload 0 (o_getf 6 17 (o_ic (1) (o_bin (fun x y => x - y) (o_bin (fun x y => x * y) (o_iload 1 (o_bin (fun x y => x + y) (o_aload 0 (o_getf 6 9 (o_iload 1 (o_ald 0 (o_iast (o_aload 0 (o_getf 6 18 (o_aload 0 (o_getf 6 17 (o_ic (1) (o_bin (fun x y => x - y) (o_dup2 (o_ald 0 (o_ic (1) (o_iload 1 (o_bin (fun x y => x <<< (y &&& 31)) (o_bin (fun x y => x ||| y) (o_iast (o_aload 0 (o_getf 6 9 (o_iload 1 (o_iload 2 (o_iast (o_vret Kn))))))))))))))))))))))))))))))))))
def bX6_setsOne_30 (M : Nat) (Kn : Option Value → ZH → Prop) (Kx : Nat → Prop) (h0 : ZH) : ZK ZH := (o_iload 3 (o_ret .boolean Kn))
def bX6_setsOne_15 (M : Nat) (Kn : Option Value → ZH → Prop) (Kx : Nat → Prop) (h0 : ZH) : ZK ZH := (o_istore 3 (o_iload 3 (o_if1 (fun x => x = 0) (bX6_setsOne_30 M Kn Kx h0) (o_aload 0 (o_callV0 M 6 zno tX6_begins Kx h0 (o_aload 0 (o_iload 1 (o_iload 2 (o_callV2 M 6 zno tX6_sets Kx h0 (bX6_setsOne_30 M Kn Kx h0))))))))))
def bX6_setsOne_0 (M : Nat) (Kn : Option Value → ZH → Prop) (Kx : Nat → Prop) (h0 : ZH) : ZK ZH := (o_aload 0 (o_getf 6 9 (o_iload 1 (o_ald 0 (o_iload 2 (o_if2 (fun x y => x = y) (o_ic (0) (bX6_setsOne_15 M Kn Kx h0)) (o_ic (1) (bX6_setsOne_15 M Kn Kx h0))))))))
def bX6_areThere_22 (M : Nat) (Kn : Option Value → ZH → Prop) (Kx : Nat → Prop) (h0 : ZH) : ZK ZH := (o_callV1 M 6 zno tX6_holds Kx h0 (o_ret .boolean Kn))
def bX6_areThere_21 (M : Nat) (Kn : Option Value → ZH → Prop) (Kx : Nat → Prop) (h0 : ZH) : ZK ZH := (o_ic (1) (bX6_areThere_22 M Kn Kx h0))
def bX6_areThere_0 (M : Nat) (Kn : Option Value → ZH → Prop) (Kx : Nat → Prop) (h0 : ZH) : ZK ZH := (o_aload 0 (o_aload 0 (o_iload 1 (o_callV1 M 6 zno tX6_isThing Kx h0 (o_if1 (fun x => x = 0) (bX6_areThere_21 M Kn Kx h0) (o_aload 0 (o_iload 2 (o_callV1 M 6 zno tX6_isTag Kx h0 (o_if1 (fun x => x = 0) (bX6_areThere_21 M Kn Kx h0) (o_ic (0) (bX6_areThere_22 M Kn Kx h0)))))))))))
def bX6_tag_32 (M : Nat) (Kn : Option Value → ZH → Prop) (Kx : Nat → Prop) (h0 : ZH) : ZK ZH := (o_ret .boolean Kn)
def bX6_tag_31 (M : Nat) (Kn : Option Value → ZH → Prop) (Kx : Nat → Prop) (h0 : ZH) : ZK ZH := (o_ic (0) (bX6_tag_32 M Kn Kx h0))
def bX6_tag_0 (M : Nat) (Kn : Option Value → ZH → Prop) (Kx : Nat → Prop) (h0 : ZH) : ZK ZH := (o_aload 0 (o_iload 1 (o_iload 2 (o_callV2 M 6 zno tX6_areThere Kx h0 (o_if1 (fun x => x = 0) (bX6_tag_31 M Kn Kx h0) (o_aload 0 (o_iload 1 (o_aload 0 (o_getf 6 9 (o_iload 1 (o_ald 0 (o_ic (1) (o_iload 2 (o_bin (fun x y => x <<< (y &&& 31)) (o_bin (fun x y => x ||| y) (o_callV2 M 6 zno tX6_setsOne Kx h0 (o_if1 (fun x => x = 0) (bX6_tag_31 M Kn Kx h0) (o_ic (1) (bX6_tag_32 M Kn Kx h0)))))))))))))))))))
def bX6_untag_34 (M : Nat) (Kn : Option Value → ZH → Prop) (Kx : Nat → Prop) (h0 : ZH) : ZK ZH := (o_ret .boolean Kn)
def bX6_untag_33 (M : Nat) (Kn : Option Value → ZH → Prop) (Kx : Nat → Prop) (h0 : ZH) : ZK ZH := (o_ic (0) (bX6_untag_34 M Kn Kx h0))
def bX6_untag_0 (M : Nat) (Kn : Option Value → ZH → Prop) (Kx : Nat → Prop) (h0 : ZH) : ZK ZH := (o_aload 0 (o_iload 1 (o_iload 2 (o_callV2 M 6 zno tX6_areThere Kx h0 (o_if1 (fun x => x = 0) (bX6_untag_33 M Kn Kx h0) (o_aload 0 (o_iload 1 (o_aload 0 (o_getf 6 9 (o_iload 1 (o_ald 0 (o_ic (1) (o_iload 2 (o_bin (fun x y => x <<< (y &&& 31)) (o_ic (-1) (o_bin (fun x y => x ^^^ y) (o_bin (fun x y => x &&& y) (o_callV2 M 6 zno tX6_setsOne Kx h0 (o_if1 (fun x => x = 0) (bX6_untag_33 M Kn Kx h0) (o_ic (1) (bX6_untag_34 M Kn Kx h0)))))))))))))))))))))
def bX6_edited_89 (M : Nat) (Kn : Option Value → ZH → Prop) (Kx : Nat → Prop) (h0 : ZH) : ZK ZH := (o_ret .int Kn)
def bX6_edited_40 (M : Nat) (Kn : Option Value → ZH → Prop) (Kx : Nat → Prop) (h0 : ZH) : ZK ZH := (o_ret .int Kn)
def bX6_edited_0 (M : Nat) (Kn : Option Value → ZH → Prop) (Kx : Nat → Prop) (h0 : ZH) : ZK ZH := (o_aload 0 (o_getf 6 9 (o_iload 2 (o_ald 0 (o_istore 5 (o_iload 1 (o_ic (2) (o_if2 (fun x y => ¬ x = y) (o_aload 0 (o_iload 2 (o_callV1 M 6 zno tX6_shownOf Kx h0 (o_aload 0 (o_iload 3 (o_callV1 M 6 zno tX6_endOf Kx h0 (o_callS2 M zno tX6_has Kx h0 (o_istore 6 (o_iload 6 (o_if1 (fun x => ¬ x = 0) (o_iload 1 (o_if1 (fun x => ¬ x = 0) (o_iload 5 (o_ic (1) (o_iload 4 (o_bin (fun x y => x <<< (y &&& 31)) (o_ic (-1) (o_bin (fun x y => x ^^^ y) (o_bin (fun x y => x &&& y) (bX6_edited_89 M Kn Kx h0)))))))) (o_iload 5 (o_ic (1) (o_iload 4 (o_bin (fun x y => x <<< (y &&& 31)) (o_bin (fun x y => x ||| y) (bX6_edited_89 M Kn Kx h0)))))))) (o_iload 5 (bX6_edited_89 M Kn Kx h0)))))))))))) (o_iload 5 (o_iload 3 (o_callS2 M zno tX6_has Kx h0 (o_if1 (fun x => x = 0) (o_iload 5 (bX6_edited_40 M Kn Kx h0)) (o_iload 5 (o_ic (1) (o_iload 3 (o_bin (fun x y => x <<< (y &&& 31)) (o_ic (-1) (o_bin (fun x y => x ^^^ y) (o_bin (fun x y => x &&& y) (o_ic (1) (o_iload 4 (o_bin (fun x y => x <<< (y &&& 31)) (o_bin (fun x y => x ||| y) (bX6_edited_40 M Kn Kx h0))))))))))))))))))))))))
def bX6_mass_101 (M : Nat) (Kn : Option Value → ZH → Prop) (Kx : Nat → Prop) (h0 : ZH) (K49 : ZK ZH) : ZK ZH := (o_iinc 5 (1) K49)
def bX6_mass_90 (M : Nat) (Kn : Option Value → ZH → Prop) (Kx : Nat → Prop) (h0 : ZH) (K49 : ZK ZH) : ZK ZH := (o_aload 0 (o_iload 5 (o_iload 6 (o_callV2 M 6 zno tX6_sets Kx h0 (o_iinc 4 (1) (bX6_mass_101 M Kn Kx h0 K49))))))
def bX6_mass_49 (M : Nat) (Kn : Option Value → ZH → Prop) (Kx : Nat → Prop) (h0 : ZH) (K49 : ZK ZH) : ZK ZH := (o_iload 5 (o_aload 0 (o_getf 6 8 (o_if2 (fun x y => y ≤ x) (o_iload 4 (o_ret .int Kn)) (o_aload 0 (o_iload 1 (o_iload 5 (o_iload 2 (o_iload 3 (o_callV4 M 6 zno tX6_edited Kx h0 (o_istore 6 (o_iload 6 (o_aload 0 (o_getf 6 9 (o_iload 5 (o_ald 0 (o_if2 (fun x y => x = y) (bX6_mass_101 M Kn Kx h0 K49) (o_iload 4 (o_if1 (fun x => ¬ x = 0) (bX6_mass_90 M Kn Kx h0 K49) (o_aload 0 (o_callV0 M 6 zno tX6_begins Kx h0 (bX6_mass_90 M Kn Kx h0 K49))))))))))))))))))))))
def bX6_mass_35 (M : Nat) (Kn : Option Value → ZH → Prop) (Kx : Nat → Prop) (h0 : ZH) (K49 : ZK ZH) : ZK ZH := (o_callV1 M 6 zno tX6_holds Kx h0 (o_if1 (fun x => ¬ x = 0) (o_ic (0) (o_istore 4 (o_ic (0) (o_istore 5 K49)))) (o_ic (0) (o_ret .int Kn))))
def bX6_mass_17 (M : Nat) (Kn : Option Value → ZH → Prop) (Kx : Nat → Prop) (h0 : ZH) (K49 : ZK ZH) : ZK ZH := (o_ic (1) (bX6_mass_35 M Kn Kx h0 K49))
def bX6_mass_0 (M : Nat) (Kn : Option Value → ZH → Prop) (Kx : Nat → Prop) (h0 : ZH) (K49 : ZK ZH) : ZK ZH := (o_aload 0 (o_aload 0 (o_iload 2 (o_callV1 M 6 zno tX6_isTag Kx h0 (o_if1 (fun x => x = 0) (bX6_mass_17 M Kn Kx h0 K49) (o_aload 0 (o_iload 3 (o_callV1 M 6 zno tX6_isTag Kx h0 (o_if1 (fun x => ¬ x = 0) (o_iload 1 (o_ic (0) (o_ic (2) (o_callS3 M zno tX6_in Kx h0 (o_if1 (fun x => x = 0) (o_ic (2) (bX6_mass_35 M Kn Kx h0 K49)) (o_ic (0) (bX6_mass_35 M Kn Kx h0 K49))))))) (bX6_mass_17 M Kn Kx h0 K49))))))))))
def bX6_undo_83 (M : Nat) (Kn : Option Value → ZH → Prop) (Kx : Nat → Prop) (h0 : ZH) (K33 : ZK ZH) : ZK ZH := (o_iast (o_iinc 1 (1) K33))
def bX6_undo_33 (M : Nat) (Kn : Option Value → ZH → Prop) (Kx : Nat → Prop) (h0 : ZH) (K33 : ZK ZH) : ZK ZH := (o_iload 1 (o_ic (20) (o_if2 (fun x y => y ≤ x) (o_aload 0 (o_getf 6 18 (o_aload 0 (o_getf 6 17 (o_ald 0 (o_callS1 M zno tX6_many Kx h0 (o_ret .int Kn))))))) (o_aload 0 (o_getf 6 9 (o_iload 1 (o_aload 0 (o_getf 6 18 (o_aload 0 (o_getf 6 17 (o_ald 0 (o_iload 1 (o_callS2 M zno tX6_has Kx h0 (o_if1 (fun x => x = 0) (o_aload 0 (o_getf 6 9 (o_iload 1 (o_ald 0 (bX6_undo_83 M Kn Kx h0 K33))))) (o_aload 0 (o_getf 6 19 (o_ic (20) (o_aload 0 (o_getf 6 17 (o_bin (fun x y => x * y) (o_iload 1 (o_bin (fun x y => x + y) (o_ald 0 (bX6_undo_83 M Kn Kx h0 K33))))))))))))))))))))))))
def bX6_undo_13 (M : Nat) (Kn : Option Value → ZH → Prop) (Kx : Nat → Prop) (h0 : ZH) (K33 : ZK ZH) : ZK ZH := (o_callV1 M 6 zno tX6_holds Kx h0 (o_if1 (fun x => ¬ x = 0) (o_aload 0 (o_dup (o_getf 6 17 (o_ic (1) (o_bin (fun x y => x - y) (o_puti 6 17 (o_ic (0) (o_istore 1 K33)))))))) (o_ic (0) (o_ret .int Kn))))
def bX6_undo_0 (M : Nat) (Kn : Option Value → ZH → Prop) (Kx : Nat → Prop) (h0 : ZH) (K33 : ZK ZH) : ZK ZH := (o_aload 0 (o_aload 0 (o_getf 6 17 (o_if1 (fun x => ¬ x = 0) (o_ic (0) (bX6_undo_13 M Kn Kx h0 K33)) (o_ic (1) (bX6_undo_13 M Kn Kx h0 K33))))))
def bX6_kept_0 (M : Nat) (Kn : Option Value → ZH → Prop) (Kx : Nat → Prop) (h0 : ZH) : ZK ZH := (o_aload 0 (o_ic (0) (o_puti 6 0 (o_aload 0 (o_getf 6 17 (o_ret .int Kn))))))
def bX6_hand_30 (M : Nat) (Kn : Option Value → ZH → Prop) (Kx : Nat → Prop) (h0 : ZH) : ZK ZH := (o_ret .int Kn)
def bX6_hand_14 (M : Nat) (Kn : Option Value → ZH → Prop) (Kx : Nat → Prop) (h0 : ZH) : ZK ZH := (o_callV1 M 6 zno tX6_holds Kx h0 (o_if1 (fun x => x = 0) (o_ic (0) (bX6_hand_30 M Kn Kx h0)) (o_aload 0 (o_getf 6 9 (o_iload 1 (o_ald 0 (bX6_hand_30 M Kn Kx h0)))))))
def bX6_hand_0 (M : Nat) (Kn : Option Value → ZH → Prop) (Kx : Nat → Prop) (h0 : ZH) : ZK ZH := (o_aload 0 (o_aload 0 (o_iload 1 (o_callV1 M 6 zno tX6_isThing Kx h0 (o_if1 (fun x => x = 0) (o_ic (1) (bX6_hand_14 M Kn Kx h0)) (o_ic (0) (bX6_hand_14 M Kn Kx h0)))))))
def bX6_endOf_2 (M : Nat) (Kn : Option Value → ZH → Prop) (Kx : Nat → Prop) (h0 : ZH) (K2 : ZK ZH) : ZK ZH := (o_aload 0 (o_getf 6 6 (o_iload 2 (o_ald 0 (o_ic (-1) (o_if2 (fun x y => x = y) (o_iload 2 (o_ret .int Kn)) (o_aload 0 (o_getf 6 6 (o_iload 2 (o_ald 0 (o_istore 2 K2)))))))))))
def bX6_endOf_0 (M : Nat) (Kn : Option Value → ZH → Prop) (Kx : Nat → Prop) (h0 : ZH) (K2 : ZK ZH) : ZK ZH := (o_iload 1 (o_istore 2 K2))
def bX6_endsOf_32 (M : Nat) (Kn : Option Value → ZH → Prop) (Kx : Nat → Prop) (h0 : ZH) (K4 : ZK ZH) : ZK ZH := (o_bin (fun x y => x ||| y) (o_istore 2 (o_iinc 3 (1) K4)))
def bX6_endsOf_4 (M : Nat) (Kn : Option Value → ZH → Prop) (Kx : Nat → Prop) (h0 : ZH) (K4 : ZK ZH) : ZK ZH := (o_iload 3 (o_aload 0 (o_getf 6 3 (o_if2 (fun x y => y ≤ x) (o_iload 2 (o_ret .int Kn)) (o_iload 2 (o_iload 1 (o_iload 3 (o_callS2 M zno tX6_has Kx h0 (o_if1 (fun x => x = 0) (o_ic (0) (bX6_endsOf_32 M Kn Kx h0 K4)) (o_ic (1) (o_aload 0 (o_iload 3 (o_callV1 M 6 zno tX6_endOf Kx h0 (o_bin (fun x y => x <<< (y &&& 31)) (bX6_endsOf_32 M Kn Kx h0 K4)))))))))))))))
def bX6_endsOf_0 (M : Nat) (Kn : Option Value → ZH → Prop) (Kx : Nat → Prop) (h0 : ZH) (K4 : ZK ZH) : ZK ZH := (o_ic (0) (o_istore 2 (o_ic (0) (o_istore 3 K4))))
def bX6_onward_39 (M : Nat) (Kn : Option Value → ZH → Prop) (Kx : Nat → Prop) (h0 : ZH) (K4 : ZK ZH) : ZK ZH := (o_bin (fun x y => x ||| y) (o_istore 2 (o_iinc 3 (1) K4)))
def bX6_onward_4 (M : Nat) (Kn : Option Value → ZH → Prop) (Kx : Nat → Prop) (h0 : ZH) (K4 : ZK ZH) : ZK ZH := (o_iload 3 (o_aload 0 (o_getf 6 3 (o_if2 (fun x y => y ≤ x) (o_iload 2 (o_ret .int Kn)) (o_iload 2 (o_iload 1 (o_aload 0 (o_iload 3 (o_callV1 M 6 zno tX6_endOf Kx h0 (o_callS2 M zno tX6_has Kx h0 (o_if1 (fun x => x = 0) (o_ic (0) (bX6_onward_39 M Kn Kx h0 K4)) (o_aload 0 (o_aload 0 (o_getf 6 7 (o_iload 3 (o_ald 0 (o_callV1 M 6 zno tX6_endsOf Kx h0 (bX6_onward_39 M Kn Kx h0 K4))))))))))))))))))
def bX6_onward_0 (M : Nat) (Kn : Option Value → ZH → Prop) (Kx : Nat → Prop) (h0 : ZH) (K4 : ZK ZH) : ZK ZH := (o_ic (0) (o_istore 2 (o_ic (0) (o_istore 3 K4))))
def bX6_closed_4 (M : Nat) (Kn : Option Value → ZH → Prop) (Kx : Nat → Prop) (h0 : ZH) (K4 : ZK ZH) : ZK ZH := (o_iload 2 (o_iload 3 (o_if2 (fun x y => x = y) (o_iload 2 (o_ret .int Kn)) (o_iload 2 (o_istore 3 (o_iload 2 (o_aload 0 (o_iload 2 (o_callV1 M 6 zno tX6_onward Kx h0 (o_bin (fun x y => x ||| y) (o_istore 2 K4)))))))))))
def bX6_closed_0 (M : Nat) (Kn : Option Value → ZH → Prop) (Kx : Nat → Prop) (h0 : ZH) (K4 : ZK ZH) : ZK ZH := (o_iload 1 (o_istore 2 (o_ic (0) (o_istore 3 K4))))
def bX6_hasCircle_40 (M : Nat) (Kn : Option Value → ZH → Prop) (Kx : Nat → Prop) (h0 : ZH) (K2 : ZK ZH) : ZK ZH := (o_iinc 1 (1) K2)
def bX6_hasCircle_2 (M : Nat) (Kn : Option Value → ZH → Prop) (Kx : Nat → Prop) (h0 : ZH) (K2 : ZK ZH) : ZK ZH := (o_iload 1 (o_aload 0 (o_getf 6 3 (o_if2 (fun x y => y ≤ x) (o_ic (0) (o_ret .boolean Kn)) (o_aload 0 (o_getf 6 6 (o_iload 1 (o_ald 0 (o_ic (-1) (o_if2 (fun x y => ¬ x = y) (bX6_hasCircle_40 M Kn Kx h0 K2) (o_aload 0 (o_aload 0 (o_ic (1) (o_iload 1 (o_bin (fun x y => x <<< (y &&& 31)) (o_callV1 M 6 zno tX6_onward Kx h0 (o_callV1 M 6 zno tX6_closed Kx h0 (o_iload 1 (o_callS2 M zno tX6_has Kx h0 (o_if1 (fun x => x = 0) (bX6_hasCircle_40 M Kn Kx h0 K2) (o_ic (1) (o_ret .boolean Kn))))))))))))))))))))))
def bX6_hasCircle_0 (M : Nat) (Kn : Option Value → ZH → Prop) (Kx : Nat → Prop) (h0 : ZH) (K2 : ZK ZH) : ZK ZH := (o_ic (0) (o_istore 1 K2))
def bX6_does_78 (M : Nat) (Kn : Option Value → ZH → Prop) (Kx : Nat → Prop) (h0 : ZH) : ZK ZH := (o_iast (o_vret Kn))
def bX6_does_28 (M : Nat) (Kn : Option Value → ZH → Prop) (Kx : Nat → Prop) (h0 : ZH) : ZK ZH := (o_iast (o_aload 0 (o_getf 6 7 (o_iload 2 (o_iload 1 (o_ic (1) (o_if2 (fun x y => ¬ x = y) (o_iload 1 (o_ic (3) (o_if2 (fun x y => ¬ x = y) (o_aload 0 (o_getf 6 7 (o_iload 2 (o_ald 0 (bX6_does_78 M Kn Kx h0))))) (o_aload 0 (o_getf 6 7 (o_iload 2 (o_ald 0 (o_ic (1) (o_iload 3 (o_bin (fun x y => x <<< (y &&& 31)) (o_ic (-1) (o_bin (fun x y => x ^^^ y) (o_bin (fun x y => x &&& y) (bX6_does_78 M Kn Kx h0)))))))))))))) (o_aload 0 (o_getf 6 7 (o_iload 2 (o_ald 0 (o_ic (1) (o_iload 3 (o_bin (fun x y => x <<< (y &&& 31)) (o_bin (fun x y => x ||| y) (bX6_does_78 M Kn Kx h0))))))))))))))))
def bX6_does_0 (M : Nat) (Kn : Option Value → ZH → Prop) (Kx : Nat → Prop) (h0 : ZH) : ZK ZH := (o_aload 0 (o_getf 6 6 (o_iload 2 (o_iload 1 (o_if1 (fun x => ¬ x = 0) (o_iload 1 (o_ic (2) (o_if2 (fun x y => ¬ x = y) (o_aload 0 (o_getf 6 6 (o_iload 2 (o_ald 0 (bX6_does_28 M Kn Kx h0))))) (o_ic (-1) (bX6_does_28 M Kn Kx h0))))) (o_iload 3 (bX6_does_28 M Kn Kx h0)))))))
def bX6_may_97 (M : Nat) (Kn : Option Value → ZH → Prop) (Kx : Nat → Prop) (h0 : ZH) : ZK ZH := (o_istore 4 (o_aload 0 (o_iload 1 (o_ic (2) (o_bin (fun x y => x + y) (o_iload 2 (o_iload 3 (o_callV3 M 6 zno tX6_does Kx h0 (o_iload 4 (o_ret .boolean Kn))))))))))
def bX6_may_78 (M : Nat) (Kn : Option Value → ZH → Prop) (Kx : Nat → Prop) (h0 : ZH) : ZK ZH := (o_aload 0 (o_iload 1 (o_iload 2 (o_iload 3 (o_callV3 M 6 zno tX6_does Kx h0 (o_aload 0 (o_callV0 M 6 zno tX6_hasCircle Kx h0 (o_if1 (fun x => ¬ x = 0) (o_ic (0) (bX6_may_97 M Kn Kx h0)) (o_ic (1) (bX6_may_97 M Kn Kx h0))))))))))
def bX6_may_76 (M : Nat) (Kn : Option Value → ZH → Prop) (Kx : Nat → Prop) (h0 : ZH) : ZK ZH := (o_ic (0) (o_ret .boolean Kn))
def bX6_may_20 (M : Nat) (Kn : Option Value → ZH → Prop) (Kx : Nat → Prop) (h0 : ZH) : ZK ZH := (o_ret .boolean Kn)
def bX6_may_0 (M : Nat) (Kn : Option Value → ZH → Prop) (Kx : Nat → Prop) (h0 : ZH) : ZK ZH := (o_iload 1 (o_ic (2) (o_if2 (fun x y => ¬ x = y) (o_iload 1 (o_ic (3) (o_if2 (fun x y => ¬ x = y) (o_iload 1 (o_if1 (fun x => ¬ x = 0) (o_aload 0 (o_getf 6 7 (o_iload 2 (o_ald 0 (o_iload 3 (o_callS2 M zno tX6_has Kx h0 (o_if1 (fun x => x = 0) (bX6_may_78 M Kn Kx h0) (bX6_may_76 M Kn Kx h0)))))))) (o_aload 0 (o_getf 6 6 (o_iload 2 (o_ald 0 (o_ic (-1) (o_if2 (fun x y => ¬ x = y) (bX6_may_76 M Kn Kx h0) (o_aload 0 (o_iload 3 (o_callV1 M 6 zno tX6_endOf Kx h0 (o_iload 2 (o_if2 (fun x y => ¬ x = y) (bX6_may_78 M Kn Kx h0) (bX6_may_76 M Kn Kx h0)))))))))))))) (o_aload 0 (o_getf 6 7 (o_iload 2 (o_ald 0 (o_iload 3 (o_callS2 M zno tX6_has Kx h0 (o_ret .boolean Kn)))))))))) (o_aload 0 (o_getf 6 6 (o_iload 2 (o_ald 0 (o_iload 3 (o_if2 (fun x y => ¬ x = y) (o_ic (0) (bX6_may_20 M Kn Kx h0)) (o_ic (1) (bX6_may_20 M Kn Kx h0)))))))))))
def bX6_ask_65 (M : Nat) (Kn : Option Value → ZH → Prop) (Kx : Nat → Prop) (h0 : ZH) : ZK ZH := (o_callV1 M 6 zno tX6_holds Kx h0 (o_if1 (fun x => ¬ x = 0) (o_aload 0 (o_getf 6 11 (o_aload 0 (o_getf 6 10 (o_iload 1 (o_iast (o_aload 0 (o_getf 6 12 (o_aload 0 (o_getf 6 10 (o_iload 2 (o_iast (o_aload 0 (o_getf 6 13 (o_aload 0 (o_getf 6 10 (o_iload 3 (o_iast (o_aload 0 (o_dup (o_getf 6 10 (o_ic (1) (o_bin (fun x y => x + y) (o_puti 6 10 (o_aload 0 (o_getf 6 10 (o_ic (1) (o_bin (fun x y => x - y) (o_ret .int Kn))))))))))))))))))))))))))))) (o_ic (0) (o_ret .int Kn))))
def bX6_ask_47 (M : Nat) (Kn : Option Value → ZH → Prop) (Kx : Nat → Prop) (h0 : ZH) : ZK ZH := (o_ic (2) (bX6_ask_65 M Kn Kx h0))
def bX6_ask_21 (M : Nat) (Kn : Option Value → ZH → Prop) (Kx : Nat → Prop) (h0 : ZH) : ZK ZH := (o_istore 4 (o_aload 0 (o_iload 4 (o_if1 (fun x => ¬ x = 0) (o_iload 1 (o_ic (0) (o_ic (3) (o_callS3 M zno tX6_in Kx h0 (o_if1 (fun x => x = 0) (bX6_ask_47 M Kn Kx h0) (o_iload 2 (o_iload 3 (o_if2 (fun x y => ¬ x = y) (o_aload 0 (o_getf 6 10 (o_ic (40) (o_if2 (fun x y => ¬ x = y) (o_ic (0) (bX6_ask_65 M Kn Kx h0)) (o_ic (3) (bX6_ask_65 M Kn Kx h0)))))) (bX6_ask_47 M Kn Kx h0))))))))) (o_ic (1) (bX6_ask_65 M Kn Kx h0))))))
def bX6_ask_20 (M : Nat) (Kn : Option Value → ZH → Prop) (Kx : Nat → Prop) (h0 : ZH) : ZK ZH := (o_ic (0) (bX6_ask_21 M Kn Kx h0))
def bX6_ask_0 (M : Nat) (Kn : Option Value → ZH → Prop) (Kx : Nat → Prop) (h0 : ZH) : ZK ZH := (o_aload 0 (o_iload 2 (o_callV1 M 6 zno tX6_isTag Kx h0 (o_if1 (fun x => x = 0) (bX6_ask_20 M Kn Kx h0) (o_aload 0 (o_iload 3 (o_callV1 M 6 zno tX6_isTag Kx h0 (o_if1 (fun x => x = 0) (bX6_ask_20 M Kn Kx h0) (o_ic (1) (bX6_ask_21 M Kn Kx h0))))))))))
def bX6_isRequest_0 (M : Nat) (Kn : Option Value → ZH → Prop) (Kx : Nat → Prop) (h0 : ZH) : ZK ZH := (o_iload 1 (o_ic (0) (o_aload 0 (o_getf 6 10 (o_ic (1) (o_bin (fun x y => x - y) (o_callS3 M zno tX6_in Kx h0 (o_ret .boolean Kn))))))))
def bX6_could_39 (M : Nat) (Kn : Option Value → ZH → Prop) (Kx : Nat → Prop) (h0 : ZH) : ZK ZH := (o_ret .boolean Kn)
def bX6_could_38 (M : Nat) (Kn : Option Value → ZH → Prop) (Kx : Nat → Prop) (h0 : ZH) : ZK ZH := (o_ic (0) (bX6_could_39 M Kn Kx h0))
def bX6_could_0 (M : Nat) (Kn : Option Value → ZH → Prop) (Kx : Nat → Prop) (h0 : ZH) : ZK ZH := (o_aload 0 (o_getf 6 16 (o_iload 1 (o_ald 0 (o_if1 (fun x => ¬ x = 0) (bX6_could_38 M Kn Kx h0) (o_aload 0 (o_aload 0 (o_getf 6 11 (o_iload 1 (o_ald 0 (o_aload 0 (o_getf 6 12 (o_iload 1 (o_ald 0 (o_aload 0 (o_getf 6 13 (o_iload 1 (o_ald 0 (o_callV3 M 6 zno tX6_may Kx h0 (o_if1 (fun x => x = 0) (bX6_could_38 M Kn Kx h0) (o_ic (1) (bX6_could_39 M Kn Kx h0))))))))))))))))))))))
def bX6_vote_218 (M : Nat) (Kn : Option Value → ZH → Prop) (Kx : Nat → Prop) (h0 : ZH) : ZK ZH := (o_aload 0 (o_getf 6 16 (o_iload 1 (o_ald 0 (o_ret .int Kn)))))
def bX6_vote_201 (M : Nat) (Kn : Option Value → ZH → Prop) (Kx : Nat → Prop) (h0 : ZH) : ZK ZH := (bX6_vote_218 M Kn Kx h0)
def bX6_vote_173 (M : Nat) (Kn : Option Value → ZH → Prop) (Kx : Nat → Prop) (h0 : ZH) : ZK ZH := (o_iast (o_iload 7 (o_if1 (fun x => x = 0) (bX6_vote_201 M Kn Kx h0) (o_aload 0 (o_aload 0 (o_getf 6 11 (o_iload 1 (o_ald 0 (o_aload 0 (o_getf 6 12 (o_iload 1 (o_ald 0 (o_aload 0 (o_getf 6 13 (o_iload 1 (o_ald 0 (o_callV3 M 6 zno tX6_does Kx h0 (bX6_vote_201 M Kn Kx h0))))))))))))))))))
def bX6_vote_123 (M : Nat) (Kn : Option Value → ZH → Prop) (Kx : Nat → Prop) (h0 : ZH) : ZK ZH := (o_iast (o_aload 0 (o_getf 6 14 (o_iload 1 (o_ald 0 (o_callS1 M zno tX6_many Kx h0 (o_aload 0 (o_getf 6 15 (o_iload 1 (o_ald 0 (o_callS1 M zno tX6_many Kx h0 (o_bin (fun x y => x - y) (o_istore 6 (o_iload 6 (o_ic (3) (o_if2 (fun x y => x < y) (o_iload 6 (o_ic (-3) (o_if2 (fun x y => y < x) (bX6_vote_218 M Kn Kx h0) (o_aload 0 (o_getf 6 16 (o_iload 1 (o_ic (2) (o_iast (bX6_vote_218 M Kn Kx h0))))))))) (o_aload 0 (o_iload 1 (o_callV1 M 6 zno tX6_could Kx h0 (o_istore 7 (o_aload 0 (o_getf 6 16 (o_iload 1 (o_iload 7 (o_if1 (fun x => x = 0) (o_ic (2) (bX6_vote_173 M Kn Kx h0)) (o_ic (1) (bX6_vote_173 M Kn Kx h0)))))))))))))))))))))))))))
def bX6_vote_90 (M : Nat) (Kn : Option Value → ZH → Prop) (Kx : Nat → Prop) (h0 : ZH) : ZK ZH := (o_iast (o_aload 0 (o_getf 6 15 (o_iload 1 (o_iload 3 (o_if1 (fun x => x = 0) (o_aload 0 (o_getf 6 15 (o_iload 1 (o_ald 0 (o_iload 5 (o_bin (fun x y => x ||| y) (bX6_vote_123 M Kn Kx h0))))))) (o_aload 0 (o_getf 6 15 (o_iload 1 (o_ald 0 (o_iload 5 (o_ic (-1) (o_bin (fun x y => x ^^^ y) (o_bin (fun x y => x &&& y) (bX6_vote_123 M Kn Kx h0)))))))))))))))
def bX6_vote_45 (M : Nat) (Kn : Option Value → ZH → Prop) (Kx : Nat → Prop) (h0 : ZH) : ZK ZH := (o_callV1 M 6 zno tX6_holds Kx h0 (o_if1 (fun x => ¬ x = 0) (o_ic (1) (o_iload 2 (o_bin (fun x y => x <<< (y &&& 31)) (o_istore 5 (o_aload 0 (o_getf 6 14 (o_iload 1 (o_iload 3 (o_if1 (fun x => x = 0) (o_aload 0 (o_getf 6 14 (o_iload 1 (o_ald 0 (o_iload 5 (o_ic (-1) (o_bin (fun x y => x ^^^ y) (o_bin (fun x y => x &&& y) (bX6_vote_90 M Kn Kx h0))))))))) (o_aload 0 (o_getf 6 14 (o_iload 1 (o_ald 0 (o_iload 5 (o_bin (fun x y => x ||| y) (bX6_vote_90 M Kn Kx h0)))))))))))))))) (o_ic (0) (o_ret .int Kn))))
def bX6_vote_0 (M : Nat) (Kn : Option Value → ZH → Prop) (Kx : Nat → Prop) (h0 : ZH) : ZK ZH := (o_aload 0 (o_iload 1 (o_callV1 M 6 zno tX6_isRequest Kx h0 (o_istore 4 (o_aload 0 (o_iload 4 (o_if1 (fun x => ¬ x = 0) (o_iload 2 (o_ic (0) (o_ic (9) (o_callS3 M zno tX6_in Kx h0 (o_if1 (fun x => ¬ x = 0) (o_aload 0 (o_getf 6 16 (o_iload 1 (o_ald 0 (o_if1 (fun x => ¬ x = 0) (o_ic (3) (bX6_vote_45 M Kn Kx h0)) (o_ic (0) (bX6_vote_45 M Kn Kx h0))))))) (o_ic (2) (bX6_vote_45 M Kn Kx h0))))))) (o_ic (1) (bX6_vote_45 M Kn Kx h0)))))))))
def bX6_standing_30 (M : Nat) (Kn : Option Value → ZH → Prop) (Kx : Nat → Prop) (h0 : ZH) : ZK ZH := (o_ret .int Kn)
def bX6_standing_14 (M : Nat) (Kn : Option Value → ZH → Prop) (Kx : Nat → Prop) (h0 : ZH) : ZK ZH := (o_callV1 M 6 zno tX6_holds Kx h0 (o_if1 (fun x => x = 0) (o_ic (0) (bX6_standing_30 M Kn Kx h0)) (o_aload 0 (o_getf 6 16 (o_iload 1 (o_ald 0 (bX6_standing_30 M Kn Kx h0)))))))
def bX6_standing_0 (M : Nat) (Kn : Option Value → ZH → Prop) (Kx : Nat → Prop) (h0 : ZH) : ZK ZH := (o_aload 0 (o_aload 0 (o_iload 1 (o_callV1 M 6 zno tX6_isRequest Kx h0 (o_if1 (fun x => x = 0) (o_ic (1) (bX6_standing_14 M Kn Kx h0)) (o_ic (0) (bX6_standing_14 M Kn Kx h0)))))))
def bX6_couldPass_33 (M : Nat) (Kn : Option Value → ZH → Prop) (Kx : Nat → Prop) (h0 : ZH) : ZK ZH := (o_ret .boolean Kn)
def bX6_couldPass_32 (M : Nat) (Kn : Option Value → ZH → Prop) (Kx : Nat → Prop) (h0 : ZH) : ZK ZH := (o_ic (0) (bX6_couldPass_33 M Kn Kx h0))
def bX6_couldPass_14 (M : Nat) (Kn : Option Value → ZH → Prop) (Kx : Nat → Prop) (h0 : ZH) : ZK ZH := (o_callV1 M 6 zno tX6_holds Kx h0 (o_if1 (fun x => x = 0) (bX6_couldPass_32 M Kn Kx h0) (o_aload 0 (o_iload 1 (o_callV1 M 6 zno tX6_could Kx h0 (o_if1 (fun x => x = 0) (bX6_couldPass_32 M Kn Kx h0) (o_ic (1) (bX6_couldPass_33 M Kn Kx h0))))))))
def bX6_couldPass_0 (M : Nat) (Kn : Option Value → ZH → Prop) (Kx : Nat → Prop) (h0 : ZH) : ZK ZH := (o_aload 0 (o_aload 0 (o_iload 1 (o_callV1 M 6 zno tX6_isRequest Kx h0 (o_if1 (fun x => x = 0) (o_ic (1) (bX6_couldPass_14 M Kn Kx h0)) (o_ic (0) (bX6_couldPass_14 M Kn Kx h0)))))))
def bX6_couldBehind_46 (M : Nat) (Kn : Option Value → ZH → Prop) (Kx : Nat → Prop) (h0 : ZH) : ZK ZH := (o_aload 0 (o_getf 6 12 (o_iload 2 (o_ald 0 (o_aload 0 (o_getf 6 13 (o_iload 2 (o_ald 0 (o_callV3 M 6 zno tX6_does Kx h0 (o_iload 4 (o_ret .boolean Kn)))))))))))
def bX6_couldBehind_0 (M : Nat) (Kn : Option Value → ZH → Prop) (Kx : Nat → Prop) (h0 : ZH) : ZK ZH := (o_aload 0 (o_getf 6 11 (o_iload 2 (o_ald 0 (o_istore 3 (o_aload 0 (o_iload 3 (o_aload 0 (o_getf 6 12 (o_iload 2 (o_ald 0 (o_aload 0 (o_getf 6 13 (o_iload 2 (o_ald 0 (o_callV3 M 6 zno tX6_does Kx h0 (o_aload 0 (o_iload 1 (o_callV1 M 6 zno tX6_could Kx h0 (o_istore 4 (o_aload 0 (o_iload 3 (o_ic (2) (o_if2 (fun x y => y ≤ x) (o_iload 3 (o_ic (2) (o_bin (fun x y => x - y) (bX6_couldBehind_46 M Kn Kx h0)))) (o_iload 3 (o_ic (2) (o_bin (fun x y => x + y) (bX6_couldBehind_46 M Kn Kx h0))))))))))))))))))))))))))))
def bX6_clashes_107 (M : Nat) (Kn : Option Value → ZH → Prop) (Kx : Nat → Prop) (h0 : ZH) (K33 : ZK ZH) : ZK ZH := (o_iload 2 (o_ret .int Kn))
def bX6_clashes_99 (M : Nat) (Kn : Option Value → ZH → Prop) (Kx : Nat → Prop) (h0 : ZH) (K33 : ZK ZH) : ZK ZH := (o_bin (fun x y => x + y) (o_istore 2 (o_iinc 4 (1) K33)))
def bX6_clashes_98 (M : Nat) (Kn : Option Value → ZH → Prop) (Kx : Nat → Prop) (h0 : ZH) (K33 : ZK ZH) : ZK ZH := (o_ic (0) (bX6_clashes_99 M Kn Kx h0 K33))
def bX6_clashes_94 (M : Nat) (Kn : Option Value → ZH → Prop) (Kx : Nat → Prop) (h0 : ZH) (K33 : ZK ZH) : ZK ZH := (o_ic (1) (bX6_clashes_99 M Kn Kx h0 K33))
def bX6_clashes_66 (M : Nat) (Kn : Option Value → ZH → Prop) (Kx : Nat → Prop) (h0 : ZH) (K33 : ZK ZH) : ZK ZH := (o_istore 5 (o_iload 2 (o_iload 5 (o_if1 (fun x => x = 0) (bX6_clashes_98 M Kn Kx h0 K33) (o_aload 0 (o_iload 1 (o_iload 4 (o_callV2 M 6 zno tX6_couldBehind Kx h0 (o_if1 (fun x => x = 0) (bX6_clashes_94 M Kn Kx h0 K33) (o_aload 0 (o_iload 4 (o_iload 1 (o_callV2 M 6 zno tX6_couldBehind Kx h0 (o_if1 (fun x => ¬ x = 0) (bX6_clashes_98 M Kn Kx h0 K33) (bX6_clashes_94 M Kn Kx h0 K33)))))))))))))))
def bX6_clashes_65 (M : Nat) (Kn : Option Value → ZH → Prop) (Kx : Nat → Prop) (h0 : ZH) (K33 : ZK ZH) : ZK ZH := (o_ic (0) (bX6_clashes_66 M Kn Kx h0 K33))
def bX6_clashes_33 (M : Nat) (Kn : Option Value → ZH → Prop) (Kx : Nat → Prop) (h0 : ZH) (K33 : ZK ZH) : ZK ZH := (o_iload 4 (o_aload 0 (o_getf 6 10 (o_if2 (fun x y => y ≤ x) (bX6_clashes_107 M Kn Kx h0 K33) (o_iload 3 (o_if1 (fun x => x = 0) (bX6_clashes_107 M Kn Kx h0 K33) (o_iload 4 (o_iload 1 (o_if2 (fun x y => x = y) (bX6_clashes_65 M Kn Kx h0 K33) (o_aload 0 (o_iload 4 (o_callV1 M 6 zno tX6_could Kx h0 (o_if1 (fun x => x = 0) (bX6_clashes_65 M Kn Kx h0 K33) (o_ic (1) (bX6_clashes_66 M Kn Kx h0 K33)))))))))))))))
def bX6_clashes_14 (M : Nat) (Kn : Option Value → ZH → Prop) (Kx : Nat → Prop) (h0 : ZH) (K33 : ZK ZH) : ZK ZH := (o_callV1 M 6 zno tX6_holds Kx h0 (o_if1 (fun x => ¬ x = 0) (o_ic (0) (o_istore 2 (o_aload 0 (o_iload 1 (o_callV1 M 6 zno tX6_could Kx h0 (o_istore 3 (o_ic (0) (o_istore 4 K33)))))))) (o_ic (0) (o_ret .int Kn))))
def bX6_clashes_0 (M : Nat) (Kn : Option Value → ZH → Prop) (Kx : Nat → Prop) (h0 : ZH) (K33 : ZK ZH) : ZK ZH := (o_aload 0 (o_aload 0 (o_iload 1 (o_callV1 M 6 zno tX6_isRequest Kx h0 (o_if1 (fun x => x = 0) (o_ic (1) (bX6_clashes_14 M Kn Kx h0 K33)) (o_ic (0) (bX6_clashes_14 M Kn Kx h0 K33)))))))
def bX6_alias_30 (M : Nat) (Kn : Option Value → ZH → Prop) (Kx : Nat → Prop) (h0 : ZH) : ZK ZH := (o_ret .int Kn)
def bX6_alias_14 (M : Nat) (Kn : Option Value → ZH → Prop) (Kx : Nat → Prop) (h0 : ZH) : ZK ZH := (o_callV1 M 6 zno tX6_holds Kx h0 (o_if1 (fun x => x = 0) (o_ic (0) (bX6_alias_30 M Kn Kx h0)) (o_aload 0 (o_getf 6 6 (o_iload 1 (o_ald 0 (bX6_alias_30 M Kn Kx h0)))))))
def bX6_alias_0 (M : Nat) (Kn : Option Value → ZH → Prop) (Kx : Nat → Prop) (h0 : ZH) : ZK ZH := (o_aload 0 (o_aload 0 (o_iload 1 (o_callV1 M 6 zno tX6_isTag Kx h0 (o_if1 (fun x => x = 0) (o_ic (1) (bX6_alias_14 M Kn Kx h0)) (o_ic (0) (bX6_alias_14 M Kn Kx h0)))))))
def bX6_end_29 (M : Nat) (Kn : Option Value → ZH → Prop) (Kx : Nat → Prop) (h0 : ZH) : ZK ZH := (o_ret .int Kn)
def bX6_end_14 (M : Nat) (Kn : Option Value → ZH → Prop) (Kx : Nat → Prop) (h0 : ZH) : ZK ZH := (o_callV1 M 6 zno tX6_holds Kx h0 (o_if1 (fun x => x = 0) (o_ic (0) (bX6_end_29 M Kn Kx h0)) (o_aload 0 (o_iload 1 (o_callV1 M 6 zno tX6_endOf Kx h0 (bX6_end_29 M Kn Kx h0))))))
def bX6_end_0 (M : Nat) (Kn : Option Value → ZH → Prop) (Kx : Nat → Prop) (h0 : ZH) : ZK ZH := (o_aload 0 (o_aload 0 (o_iload 1 (o_callV1 M 6 zno tX6_isTag Kx h0 (o_if1 (fun x => x = 0) (o_ic (1) (bX6_end_14 M Kn Kx h0)) (o_ic (0) (bX6_end_14 M Kn Kx h0)))))))
def bX6_implies_46 (M : Nat) (Kn : Option Value → ZH → Prop) (Kx : Nat → Prop) (h0 : ZH) : ZK ZH := (o_ret .boolean Kn)
def bX6_implies_45 (M : Nat) (Kn : Option Value → ZH → Prop) (Kx : Nat → Prop) (h0 : ZH) : ZK ZH := (o_ic (0) (bX6_implies_46 M Kn Kx h0))
def bX6_implies_22 (M : Nat) (Kn : Option Value → ZH → Prop) (Kx : Nat → Prop) (h0 : ZH) : ZK ZH := (o_callV1 M 6 zno tX6_holds Kx h0 (o_if1 (fun x => x = 0) (bX6_implies_45 M Kn Kx h0) (o_aload 0 (o_getf 6 7 (o_iload 1 (o_ald 0 (o_iload 2 (o_callS2 M zno tX6_has Kx h0 (o_if1 (fun x => x = 0) (bX6_implies_45 M Kn Kx h0) (o_ic (1) (bX6_implies_46 M Kn Kx h0)))))))))))
def bX6_implies_21 (M : Nat) (Kn : Option Value → ZH → Prop) (Kx : Nat → Prop) (h0 : ZH) : ZK ZH := (o_ic (1) (bX6_implies_22 M Kn Kx h0))
def bX6_implies_0 (M : Nat) (Kn : Option Value → ZH → Prop) (Kx : Nat → Prop) (h0 : ZH) : ZK ZH := (o_aload 0 (o_aload 0 (o_iload 1 (o_callV1 M 6 zno tX6_isTag Kx h0 (o_if1 (fun x => x = 0) (bX6_implies_21 M Kn Kx h0) (o_aload 0 (o_iload 2 (o_callV1 M 6 zno tX6_isTag Kx h0 (o_if1 (fun x => x = 0) (bX6_implies_21 M Kn Kx h0) (o_ic (0) (bX6_implies_22 M Kn Kx h0)))))))))))
def bX6_shownOf_0 (M : Nat) (Kn : Option Value → ZH → Prop) (Kx : Nat → Prop) (h0 : ZH) : ZK ZH := (o_aload 0 (o_aload 0 (o_aload 0 (o_getf 6 9 (o_iload 1 (o_ald 0 (o_callV1 M 6 zno tX6_endsOf Kx h0 (o_callV1 M 6 zno tX6_closed Kx h0 (o_ret .int Kn)))))))))
def bX6_shown_29 (M : Nat) (Kn : Option Value → ZH → Prop) (Kx : Nat → Prop) (h0 : ZH) : ZK ZH := (o_ret .int Kn)
def bX6_shown_14 (M : Nat) (Kn : Option Value → ZH → Prop) (Kx : Nat → Prop) (h0 : ZH) : ZK ZH := (o_callV1 M 6 zno tX6_holds Kx h0 (o_if1 (fun x => x = 0) (o_ic (0) (bX6_shown_29 M Kn Kx h0)) (o_aload 0 (o_iload 1 (o_callV1 M 6 zno tX6_shownOf Kx h0 (bX6_shown_29 M Kn Kx h0))))))
def bX6_shown_0 (M : Nat) (Kn : Option Value → ZH → Prop) (Kx : Nat → Prop) (h0 : ZH) : ZK ZH := (o_aload 0 (o_aload 0 (o_iload 1 (o_callV1 M 6 zno tX6_isThing Kx h0 (o_if1 (fun x => x = 0) (o_ic (1) (bX6_shown_14 M Kn Kx h0)) (o_ic (0) (bX6_shown_14 M Kn Kx h0)))))))
def bX6_shownByHand_29 (M : Nat) (Kn : Option Value → ZH → Prop) (Kx : Nat → Prop) (h0 : ZH) : ZK ZH := (o_ret .int Kn)
def bX6_shownByHand_14 (M : Nat) (Kn : Option Value → ZH → Prop) (Kx : Nat → Prop) (h0 : ZH) : ZK ZH := (o_callV1 M 6 zno tX6_holds Kx h0 (o_if1 (fun x => x = 0) (o_ic (0) (bX6_shownByHand_29 M Kn Kx h0)) (o_aload 0 (o_iload 1 (o_callV1 M 6 zno tX6_shownOf Kx h0 (bX6_shownByHand_29 M Kn Kx h0))))))
def bX6_shownByHand_0 (M : Nat) (Kn : Option Value → ZH → Prop) (Kx : Nat → Prop) (h0 : ZH) : ZK ZH := (o_aload 0 (o_aload 0 (o_iload 1 (o_callV1 M 6 zno tX6_isThing Kx h0 (o_if1 (fun x => x = 0) (o_ic (1) (bX6_shownByHand_14 M Kn Kx h0)) (o_ic (0) (bX6_shownByHand_14 M Kn Kx h0)))))))
def bX6_users_52 (M : Nat) (Kn : Option Value → ZH → Prop) (Kx : Nat → Prop) (h0 : ZH) (K26 : ZK ZH) : ZK ZH := (o_bin (fun x y => x + y) (o_istore 2 (o_iinc 3 (1) K26)))
def bX6_users_26 (M : Nat) (Kn : Option Value → ZH → Prop) (Kx : Nat → Prop) (h0 : ZH) (K26 : ZK ZH) : ZK ZH := (o_iload 3 (o_aload 0 (o_getf 6 8 (o_if2 (fun x y => y ≤ x) (o_iload 2 (o_ret .int Kn)) (o_iload 2 (o_aload 0 (o_iload 3 (o_callV1 M 6 zno tX6_shownOf Kx h0 (o_iload 1 (o_callS2 M zno tX6_has Kx h0 (o_if1 (fun x => x = 0) (o_ic (0) (bX6_users_52 M Kn Kx h0 K26)) (o_ic (1) (bX6_users_52 M Kn Kx h0 K26)))))))))))))
def bX6_users_14 (M : Nat) (Kn : Option Value → ZH → Prop) (Kx : Nat → Prop) (h0 : ZH) (K26 : ZK ZH) : ZK ZH := (o_callV1 M 6 zno tX6_holds Kx h0 (o_if1 (fun x => ¬ x = 0) (o_ic (0) (o_istore 2 (o_ic (0) (o_istore 3 K26)))) (o_ic (0) (o_ret .int Kn))))
def bX6_users_0 (M : Nat) (Kn : Option Value → ZH → Prop) (Kx : Nat → Prop) (h0 : ZH) (K26 : ZK ZH) : ZK ZH := (o_aload 0 (o_aload 0 (o_iload 1 (o_callV1 M 6 zno tX6_isTag Kx h0 (o_if1 (fun x => x = 0) (o_ic (1) (bX6_users_14 M Kn Kx h0 K26)) (o_ic (0) (bX6_users_14 M Kn Kx h0 K26)))))))
def bX6_far_36 (M : Nat) (Kn : Option Value → ZH → Prop) (Kx : Nat → Prop) (h0 : ZH) (K7 : ZK ZH) : ZK ZH := (o_iload 4 (o_ret .int Kn))
def bX6_far_7 (M : Nat) (Kn : Option Value → ZH → Prop) (Kx : Nat → Prop) (h0 : ZH) (K7 : ZK ZH) : ZK ZH := (o_iload 3 (o_iload 2 (o_callS2 M zno tX6_has Kx h0 (o_if1 (fun x => ¬ x = 0) (bX6_far_36 M Kn Kx h0 K7) (o_iload 4 (o_ic (24) (o_if2 (fun x y => y < x) (bX6_far_36 M Kn Kx h0 K7) (o_iload 3 (o_aload 0 (o_iload 3 (o_callV1 M 6 zno tX6_onward Kx h0 (o_bin (fun x y => x ||| y) (o_istore 3 (o_iinc 4 (1) K7))))))))))))))
def bX6_far_0 (M : Nat) (Kn : Option Value → ZH → Prop) (Kx : Nat → Prop) (h0 : ZH) (K7 : ZK ZH) : ZK ZH := (o_ic (1) (o_iload 1 (o_bin (fun x y => x <<< (y &&& 31)) (o_istore 3 (o_ic (0) (o_istore 4 K7))))))
def bX6_reason_125 (M : Nat) (Kn : Option Value → ZH → Prop) (Kx : Nat → Prop) (h0 : ZH) (K39 : ZK ZH) : ZK ZH := (o_istore 3 (o_iinc 4 (1) K39))
def bX6_reason_106 (M : Nat) (Kn : Option Value → ZH → Prop) (Kx : Nat → Prop) (h0 : ZH) (K39 : ZK ZH) : ZK ZH := (o_istore 6 (o_iload 6 (o_if1 (fun x => x = 0) (o_iload 3 (bX6_reason_125 M Kn Kx h0 K39)) (o_ic (100) (o_iload 5 (o_bin (fun x y => x * y) (o_iload 4 (o_bin (fun x y => x + y) (bX6_reason_125 M Kn Kx h0 K39)))))))))
def bX6_reason_105 (M : Nat) (Kn : Option Value → ZH → Prop) (Kx : Nat → Prop) (h0 : ZH) (K39 : ZK ZH) : ZK ZH := (o_ic (0) (bX6_reason_106 M Kn Kx h0 K39))
def bX6_reason_101 (M : Nat) (Kn : Option Value → ZH → Prop) (Kx : Nat → Prop) (h0 : ZH) (K39 : ZK ZH) : ZK ZH := (o_ic (1) (bX6_reason_106 M Kn Kx h0 K39))
def bX6_reason_78 (M : Nat) (Kn : Option Value → ZH → Prop) (Kx : Nat → Prop) (h0 : ZH) (K39 : ZK ZH) : ZK ZH := (o_istore 5 (o_iload 5 (o_ic (24) (o_if2 (fun x y => y < x) (bX6_reason_105 M Kn Kx h0 K39) (o_iload 3 (o_ic (-1) (o_if2 (fun x y => x = y) (bX6_reason_101 M Kn Kx h0 K39) (o_iload 5 (o_iload 3 (o_ic (100) (o_idiv (o_if2 (fun x y => y ≤ x) (bX6_reason_105 M Kn Kx h0 K39) (bX6_reason_101 M Kn Kx h0 K39)))))))))))))
def bX6_reason_39 (M : Nat) (Kn : Option Value → ZH → Prop) (Kx : Nat → Prop) (h0 : ZH) (K39 : ZK ZH) : ZK ZH := (o_iload 4 (o_aload 0 (o_getf 6 3 (o_if2 (fun x y => y ≤ x) (o_iload 3 (o_ret .int Kn)) (o_aload 0 (o_getf 6 9 (o_iload 1 (o_ald 0 (o_iload 4 (o_callS2 M zno tX6_has Kx h0 (o_if1 (fun x => x = 0) (o_ic (25) (bX6_reason_78 M Kn Kx h0 K39)) (o_aload 0 (o_aload 0 (o_iload 4 (o_callV1 M 6 zno tX6_endOf Kx h0 (o_iload 2 (o_callV2 M 6 zno tX6_far Kx h0 (bX6_reason_78 M Kn Kx h0 K39))))))))))))))))))
def bX6_reason_33 (M : Nat) (Kn : Option Value → ZH → Prop) (Kx : Nat → Prop) (h0 : ZH) (K39 : ZK ZH) : ZK ZH := (o_ret .int Kn)
def bX6_reason_21 (M : Nat) (Kn : Option Value → ZH → Prop) (Kx : Nat → Prop) (h0 : ZH) (K39 : ZK ZH) : ZK ZH := (o_aload 0 (o_getf 6 0 (o_if1 (fun x => ¬ x = 0) (o_ic (0) (bX6_reason_33 M Kn Kx h0 K39)) (o_ic (-1) (bX6_reason_33 M Kn Kx h0 K39)))))
def bX6_reason_0 (M : Nat) (Kn : Option Value → ZH → Prop) (Kx : Nat → Prop) (h0 : ZH) (K39 : ZK ZH) : ZK ZH := (o_aload 0 (o_iload 1 (o_iload 2 (o_callV2 M 6 zno tX6_areThere Kx h0 (o_if1 (fun x => x = 0) (bX6_reason_21 M Kn Kx h0 K39) (o_aload 0 (o_iload 1 (o_callV1 M 6 zno tX6_shownOf Kx h0 (o_iload 2 (o_callS2 M zno tX6_has Kx h0 (o_if1 (fun x => ¬ x = 0) (o_ic (-1) (o_istore 3 (o_ic (0) (o_istore 4 K39)))) (bX6_reason_21 M Kn Kx h0 K39))))))))))))
def bX6_areSets_45 (M : Nat) (Kn : Option Value → ZH → Prop) (Kx : Nat → Prop) (h0 : ZH) : ZK ZH := (o_ret .boolean Kn)
def bX6_areSets_44 (M : Nat) (Kn : Option Value → ZH → Prop) (Kx : Nat → Prop) (h0 : ZH) : ZK ZH := (o_ic (0) (bX6_areSets_45 M Kn Kx h0))
def bX6_areSets_0 (M : Nat) (Kn : Option Value → ZH → Prop) (Kx : Nat → Prop) (h0 : ZH) : ZK ZH := (o_ic (1) (o_aload 0 (o_getf 6 3 (o_bin (fun x y => x <<< (y &&& 31)) (o_ic (1) (o_bin (fun x y => x - y) (o_istore 4 (o_iload 1 (o_ic (0) (o_iload 4 (o_callS3 M zno tX6_in Kx h0 (o_if1 (fun x => x = 0) (bX6_areSets_44 M Kn Kx h0) (o_iload 2 (o_ic (0) (o_iload 4 (o_callS3 M zno tX6_in Kx h0 (o_if1 (fun x => x = 0) (bX6_areSets_44 M Kn Kx h0) (o_iload 3 (o_ic (0) (o_iload 4 (o_callS3 M zno tX6_in Kx h0 (o_if1 (fun x => x = 0) (bX6_areSets_44 M Kn Kx h0) (o_ic (1) (bX6_areSets_45 M Kn Kx h0))))))))))))))))))))))))
def bX6_isMatch_52 (M : Nat) (Kn : Option Value → ZH → Prop) (Kx : Nat → Prop) (h0 : ZH) : ZK ZH := (o_ret .boolean Kn)
def bX6_isMatch_51 (M : Nat) (Kn : Option Value → ZH → Prop) (Kx : Nat → Prop) (h0 : ZH) : ZK ZH := (o_ic (0) (bX6_isMatch_52 M Kn Kx h0))
def bX6_isMatch_35 (M : Nat) (Kn : Option Value → ZH → Prop) (Kx : Nat → Prop) (h0 : ZH) : ZK ZH := (o_aload 0 (o_iload 4 (o_callV1 M 6 zno tX6_endsOf Kx h0 (o_iload 5 (o_bin (fun x y => x &&& y) (o_if1 (fun x => ¬ x = 0) (bX6_isMatch_51 M Kn Kx h0) (o_ic (1) (bX6_isMatch_52 M Kn Kx h0))))))))
def bX6_isMatch_0 (M : Nat) (Kn : Option Value → ZH → Prop) (Kx : Nat → Prop) (h0 : ZH) : ZK ZH := (o_aload 0 (o_iload 1 (o_callV1 M 6 zno tX6_shownOf Kx h0 (o_istore 5 (o_aload 0 (o_iload 2 (o_callV1 M 6 zno tX6_endsOf Kx h0 (o_iload 5 (o_ic (-1) (o_bin (fun x y => x ^^^ y) (o_bin (fun x y => x &&& y) (o_if1 (fun x => ¬ x = 0) (bX6_isMatch_51 M Kn Kx h0) (o_iload 3 (o_if1 (fun x => x = 0) (bX6_isMatch_35 M Kn Kx h0) (o_aload 0 (o_iload 3 (o_callV1 M 6 zno tX6_endsOf Kx h0 (o_iload 5 (o_bin (fun x y => x &&& y) (o_if1 (fun x => x = 0) (bX6_isMatch_51 M Kn Kx h0) (bX6_isMatch_35 M Kn Kx h0)))))))))))))))))))))
def bX6_matches_34 (M : Nat) (Kn : Option Value → ZH → Prop) (Kx : Nat → Prop) (h0 : ZH) (K6 : ZK ZH) : ZK ZH := (o_bin (fun x y => x + y) (o_istore 4 (o_iinc 5 (1) K6)))
def bX6_matches_6 (M : Nat) (Kn : Option Value → ZH → Prop) (Kx : Nat → Prop) (h0 : ZH) (K6 : ZK ZH) : ZK ZH := (o_iload 5 (o_aload 0 (o_getf 6 8 (o_if2 (fun x y => y ≤ x) (o_iload 4 (o_ret .int Kn)) (o_iload 4 (o_aload 0 (o_iload 5 (o_iload 1 (o_iload 2 (o_iload 3 (o_callV4 M 6 zno tX6_isMatch Kx h0 (o_if1 (fun x => x = 0) (o_ic (0) (bX6_matches_34 M Kn Kx h0 K6)) (o_ic (1) (bX6_matches_34 M Kn Kx h0 K6))))))))))))))
def bX6_matches_0 (M : Nat) (Kn : Option Value → ZH → Prop) (Kx : Nat → Prop) (h0 : ZH) (K6 : ZK ZH) : ZK ZH := (o_ic (0) (o_istore 4 (o_ic (0) (o_istore 5 K6))))
def bX6_count_33 (M : Nat) (Kn : Option Value → ZH → Prop) (Kx : Nat → Prop) (h0 : ZH) : ZK ZH := (o_ret .int Kn)
def bX6_count_16 (M : Nat) (Kn : Option Value → ZH → Prop) (Kx : Nat → Prop) (h0 : ZH) : ZK ZH := (o_callV1 M 6 zno tX6_holds Kx h0 (o_if1 (fun x => x = 0) (o_ic (0) (bX6_count_33 M Kn Kx h0)) (o_aload 0 (o_iload 1 (o_iload 2 (o_iload 3 (o_callV3 M 6 zno tX6_matches Kx h0 (bX6_count_33 M Kn Kx h0))))))))
def bX6_count_0 (M : Nat) (Kn : Option Value → ZH → Prop) (Kx : Nat → Prop) (h0 : ZH) : ZK ZH := (o_aload 0 (o_aload 0 (o_iload 1 (o_iload 2 (o_iload 3 (o_callV3 M 6 zno tX6_areSets Kx h0 (o_if1 (fun x => x = 0) (o_ic (1) (bX6_count_16 M Kn Kx h0)) (o_ic (0) (bX6_count_16 M Kn Kx h0)))))))))
def bX6_match_97 (M : Nat) (Kn : Option Value → ZH → Prop) (Kx : Nat → Prop) (h0 : ZH) (K59 : ZK ZH) : ZK ZH := (o_bin (fun x y => x - y) (o_istore 7 (o_iinc 6 (1) K59)))
def bX6_match_77 (M : Nat) (Kn : Option Value → ZH → Prop) (Kx : Nat → Prop) (h0 : ZH) (K59 : ZK ZH) : ZK ZH := (o_iload 7 (o_aload 0 (o_iload 6 (o_iload 2 (o_iload 3 (o_iload 4 (o_callV4 M 6 zno tX6_isMatch Kx h0 (o_if1 (fun x => x = 0) (o_ic (0) (bX6_match_97 M Kn Kx h0 K59)) (o_ic (1) (bX6_match_97 M Kn Kx h0 K59))))))))))
def bX6_match_59 (M : Nat) (Kn : Option Value → ZH → Prop) (Kx : Nat → Prop) (h0 : ZH) (K59 : ZK ZH) : ZK ZH := (o_iload 7 (o_if1 (fun x => 0 < x) (bX6_match_77 M Kn Kx h0 K59) (o_aload 0 (o_iload 6 (o_iload 2 (o_iload 3 (o_iload 4 (o_callV4 M 6 zno tX6_isMatch Kx h0 (o_if1 (fun x => ¬ x = 0) (o_iload 6 (o_ret .int Kn)) (bX6_match_77 M Kn Kx h0 K59))))))))))
def bX6_match_45 (M : Nat) (Kn : Option Value → ZH → Prop) (Kx : Nat → Prop) (h0 : ZH) (K59 : ZK ZH) : ZK ZH := (o_callV1 M 6 zno tX6_holds Kx h0 (o_if1 (fun x => ¬ x = 0) (o_ic (0) (o_istore 6 (o_iload 1 (o_istore 7 K59)))) (o_ic (0) (o_ret .int Kn))))
def bX6_match_0 (M : Nat) (Kn : Option Value → ZH → Prop) (Kx : Nat → Prop) (h0 : ZH) (K59 : ZK ZH) : ZK ZH := (o_aload 0 (o_iload 2 (o_iload 3 (o_iload 4 (o_callV3 M 6 zno tX6_areSets Kx h0 (o_istore 5 (o_aload 0 (o_iload 1 (o_if1 (fun x => 0 ≤ x) (o_iload 5 (o_if1 (fun x => ¬ x = 0) (o_iload 1 (o_aload 0 (o_iload 2 (o_iload 3 (o_iload 4 (o_callV3 M 6 zno tX6_matches Kx h0 (o_if2 (fun x y => y ≤ x) (o_ic (1) (bX6_match_45 M Kn Kx h0 K59)) (o_ic (0) (bX6_match_45 M Kn Kx h0 K59))))))))) (o_ic (2) (bX6_match_45 M Kn Kx h0 K59)))) (o_ic (1) (bX6_match_45 M Kn Kx h0 K59)))))))))))
set_option maxRecDepth 20000 in
theorem sX6_thrown_0 {l : Launch} {z0 b N M : Nat} {D : va_G} {cA : Nat → ClassId} {p : Program} {e : Env} {s : State} {m : MethodId} {args : Array Value} {below : List Frame} {meth : Method} {c : Code} {Kn : Option Value → ZH → Prop} {Kx : Nat → Prop} {h0 : ZH} (C : zCx p l (zRm 0 M 0) s m args meth c cX6_thrown 1 RX6 z0 D cA M) (htab : ∀ x ∈ c.exceptionTable.toList, False) (hr : meth.sig.returnType = (some .int)) : Snd p l e (zRm 0 M 0) s m args below meth c 1 z0 b (zI z0 b N D cA s) (fun _ => (0, 0)) (vx_MQ below (zQn z0 b N D cA Kn) (zXn z0 b N D cA Kx h0) args s M (6 * M) (fun q => z0 ≤ q)) 0 (bX6_thrown_0 M Kn Kx h0) := by
  obtain ⟨hx, hb, hml, hown, hts, -⟩ := id C
  unfold bX6_thrown_0
  refine k_aload_n hx hb dX6_thrown_0 rfl ?_
  refine k_getf C (ci := 6) (k := 0) (Tf := TX6) (Nf := 20) (Cn := RX6) rfl zinX6 (by decide) rfl zfX6_53 dX6_thrown_1 ?_
  exact k_ret C hr dX6_thrown_4
set_option maxRecDepth 20000 in
theorem uX6_thrown {l : Launch} {z0 b N : Nat} {D : va_G} {cA : Nat → ClassId} (hlt : l.stackTraces = false) (spec : ∀ (M : Nat) (a : List Value) (h : ZH) (Kn : Option Value → ZH → Prop) (Kx : Nat → Prop), zok 1 a = true → tX6_thrown a h Kn → bX6_thrown_0 M Kn Kx h (zE 1 a) [] h) : Sem l z0 b N D cA yX6_thrown cX6_thrown 1 (some .int) 0 0 1 zno tX6_thrown :=
  sem_of hlt (by decide +kernel) (by decide) (fun p e s m args below meth c M a h Kn Kx hok hX hN C hr htab => sX6_thrown_0 C htab hr _ _ _ (spec M a h Kn Kx hok (hN (fun _ h9 => h9))))
set_option maxRecDepth 20000 in
theorem sX6_holds_14 {l : Launch} {z0 b N M : Nat} {D : va_G} {cA : Nat → ClassId} {p : Program} {e : Env} {s : State} {m : MethodId} {args : Array Value} {below : List Frame} {meth : Method} {c : Code} {Kn : Option Value → ZH → Prop} {Kx : Nat → Prop} {h0 : ZH} (C : zCx p l (zRm 0 M 0) s m args meth c cX6_holds 2 RX6 z0 D cA M) (htab : ∀ x ∈ c.exceptionTable.toList, False) (hr : meth.sig.returnType = (some .boolean)) : Snd p l e (zRm 0 M 0) s m args below meth c 2 z0 b (zI z0 b N D cA s) (fun _ => (0, 0)) (vx_MQ below (zQn z0 b N D cA Kn) (zXn z0 b N D cA Kx h0) args s M (6 * M) (fun q => z0 ≤ q)) 14 (bX6_holds_14 M Kn Kx h0) := by
  obtain ⟨hx, hb, hml, hown, hts, -⟩ := id C
  unfold bX6_holds_14
  exact k_ret C hr dX6_holds_14
set_option maxRecDepth 20000 in
theorem sX6_holds_0 {l : Launch} {z0 b N M : Nat} {D : va_G} {cA : Nat → ClassId} {p : Program} {e : Env} {s : State} {m : MethodId} {args : Array Value} {below : List Frame} {meth : Method} {c : Code} {Kn : Option Value → ZH → Prop} {Kx : Nat → Prop} {h0 : ZH} (C : zCx p l (zRm 0 M 0) s m args meth c cX6_holds 2 RX6 z0 D cA M) (htab : ∀ x ∈ c.exceptionTable.toList, False) (hr : meth.sig.returnType = (some .boolean)) : Snd p l e (zRm 0 M 0) s m args below meth c 2 z0 b (zI z0 b N D cA s) (fun _ => (0, 0)) (vx_MQ below (zQn z0 b N D cA Kn) (zXn z0 b N D cA Kx h0) args s M (6 * M) (fun q => z0 ≤ q)) 0 (bX6_holds_0 M Kn Kx h0) := by
  obtain ⟨hx, hb, hml, hown, hts, -⟩ := id C
  unfold bX6_holds_0
  refine k_aload_n hx hb dX6_holds_0 rfl ?_
  refine k_iload_n hx hb dX6_holds_1 rfl ?_
  refine k_puti C (ci := 6) (k := 0) (Tf := TX6) (Nf := 20) (Cn := RX6) tyX6 tyX6_ok nmX6 rfl zinX6 (by decide) rfl rfl (by decide +kernel) zfX6_53 dX6_holds_2 ?_
  refine k_iload_n hx hb dX6_holds_5 rfl ?_
  refine k_if_ne (tgt := 13) hx hb dX6_holds_6 (by decide) ?_ ?_
  · refine k_iconst hx hb dX6_holds_13 (by decide) ?_
    exact sX6_holds_14 C htab hr
  · refine k_iconst hx hb dX6_holds_9 (by decide) ?_
    refine k_goto (tgt := 14) hx hb dX6_holds_10 (by decide) ?_
    exact sX6_holds_14 C htab hr
set_option maxRecDepth 20000 in
theorem uX6_holds {l : Launch} {z0 b N : Nat} {D : va_G} {cA : Nat → ClassId} (hlt : l.stackTraces = false) (spec : ∀ (M : Nat) (a : List Value) (h : ZH) (Kn : Option Value → ZH → Prop) (Kx : Nat → Prop), zok 2 a = true → tX6_holds a h Kn → bX6_holds_0 M Kn Kx h (zE 2 a) [] h) : Sem l z0 b N D cA yX6_holds cX6_holds 2 (some .boolean) 0 0 2 zno tX6_holds :=
  sem_of hlt (by decide +kernel) (by decide) (fun p e s m args below meth c M a h Kn Kx hok hX hN C hr htab => sX6_holds_0 C htab hr _ _ _ (spec M a h Kn Kx hok (hN (fun _ h9 => h9))))
set_option maxRecDepth 20000 in
theorem sX6_in_15 {l : Launch} {z0 b N M : Nat} {D : va_G} {cA : Nat → ClassId} {p : Program} {e : Env} {s : State} {m : MethodId} {args : Array Value} {below : List Frame} {meth : Method} {c : Code} {Kn : Option Value → ZH → Prop} {Kx : Nat → Prop} {h0 : ZH} (C : zCx p l (zRm 0 M 0) s m args meth c cX6_in 3 RX6 z0 D cA M) (htab : ∀ x ∈ c.exceptionTable.toList, False) (hr : meth.sig.returnType = (some .boolean)) : Snd p l e (zRm 0 M 0) s m args below meth c 3 z0 b (zI z0 b N D cA s) (fun _ => (0, 0)) (vx_MQ below (zQn z0 b N D cA Kn) (zXn z0 b N D cA Kx h0) args s M (6 * M) (fun q => z0 ≤ q)) 15 (bX6_in_15 M Kn Kx h0) := by
  obtain ⟨hx, hb, hml, hown, hts, -⟩ := id C
  unfold bX6_in_15
  exact k_ret C hr dX6_in_15
set_option maxRecDepth 20000 in
theorem sX6_in_14 {l : Launch} {z0 b N M : Nat} {D : va_G} {cA : Nat → ClassId} {p : Program} {e : Env} {s : State} {m : MethodId} {args : Array Value} {below : List Frame} {meth : Method} {c : Code} {Kn : Option Value → ZH → Prop} {Kx : Nat → Prop} {h0 : ZH} (C : zCx p l (zRm 0 M 0) s m args meth c cX6_in 3 RX6 z0 D cA M) (htab : ∀ x ∈ c.exceptionTable.toList, False) (hr : meth.sig.returnType = (some .boolean)) : Snd p l e (zRm 0 M 0) s m args below meth c 3 z0 b (zI z0 b N D cA s) (fun _ => (0, 0)) (vx_MQ below (zQn z0 b N D cA Kn) (zXn z0 b N D cA Kx h0) args s M (6 * M) (fun q => z0 ≤ q)) 14 (bX6_in_14 M Kn Kx h0) := by
  obtain ⟨hx, hb, hml, hown, hts, -⟩ := id C
  unfold bX6_in_14
  refine k_iconst hx hb dX6_in_14 (by decide) ?_
  exact sX6_in_15 C htab hr
set_option maxRecDepth 20000 in
theorem sX6_in_0 {l : Launch} {z0 b N M : Nat} {D : va_G} {cA : Nat → ClassId} {p : Program} {e : Env} {s : State} {m : MethodId} {args : Array Value} {below : List Frame} {meth : Method} {c : Code} {Kn : Option Value → ZH → Prop} {Kx : Nat → Prop} {h0 : ZH} (C : zCx p l (zRm 0 M 0) s m args meth c cX6_in 3 RX6 z0 D cA M) (htab : ∀ x ∈ c.exceptionTable.toList, False) (hr : meth.sig.returnType = (some .boolean)) : Snd p l e (zRm 0 M 0) s m args below meth c 3 z0 b (zI z0 b N D cA s) (fun _ => (0, 0)) (vx_MQ below (zQn z0 b N D cA Kn) (zXn z0 b N D cA Kx h0) args s M (6 * M) (fun q => z0 ≤ q)) 0 (bX6_in_0 M Kn Kx h0) := by
  obtain ⟨hx, hb, hml, hown, hts, -⟩ := id C
  unfold bX6_in_0
  refine k_iload_n hx hb dX6_in_0 rfl ?_
  refine k_iload_n hx hb dX6_in_1 rfl ?_
  refine k_icmp_lt (tgt := 14) hx hb dX6_in_2 (by decide) ?_ ?_
  · exact sX6_in_14 C htab hr
  · refine k_iload_n hx hb dX6_in_5 rfl ?_
    refine k_iload_n hx hb dX6_in_6 rfl ?_
    refine k_icmp_gt (tgt := 14) hx hb dX6_in_7 (by decide) ?_ ?_
    · exact sX6_in_14 C htab hr
    · refine k_iconst hx hb dX6_in_10 (by decide) ?_
      refine k_goto (tgt := 15) hx hb dX6_in_11 (by decide) ?_
      exact sX6_in_15 C htab hr
set_option maxRecDepth 20000 in
theorem uX6_in {l : Launch} {z0 b N : Nat} {D : va_G} {cA : Nat → ClassId} (hlt : l.stackTraces = false) (spec : ∀ (M : Nat) (a : List Value) (h : ZH) (Kn : Option Value → ZH → Prop) (Kx : Nat → Prop), zok 3 a = true → tX6_in a h Kn → bX6_in_0 M Kn Kx h (zE 3 a) [] h) : Sem l z0 b N D cA yX6_in cX6_in 3 (some .boolean) 0 0 3 zno tX6_in :=
  sem_of hlt (by decide +kernel) (by decide) (fun p e s m args below meth c M a h Kn Kx hok hX hN C hr htab => sX6_in_0 C htab hr _ _ _ (spec M a h Kn Kx hok (hN (fun _ h9 => h9))))
set_option maxRecDepth 20000 in
theorem sX6_has_14 {l : Launch} {z0 b N M : Nat} {D : va_G} {cA : Nat → ClassId} {p : Program} {e : Env} {s : State} {m : MethodId} {args : Array Value} {below : List Frame} {meth : Method} {c : Code} {Kn : Option Value → ZH → Prop} {Kx : Nat → Prop} {h0 : ZH} (C : zCx p l (zRm 0 M 0) s m args meth c cX6_has 2 RX6 z0 D cA M) (htab : ∀ x ∈ c.exceptionTable.toList, False) (hr : meth.sig.returnType = (some .boolean)) : Snd p l e (zRm 0 M 0) s m args below meth c 2 z0 b (zI z0 b N D cA s) (fun _ => (0, 0)) (vx_MQ below (zQn z0 b N D cA Kn) (zXn z0 b N D cA Kx h0) args s M (6 * M) (fun q => z0 ≤ q)) 14 (bX6_has_14 M Kn Kx h0) := by
  obtain ⟨hx, hb, hml, hown, hts, -⟩ := id C
  unfold bX6_has_14
  exact k_ret C hr dX6_has_14
set_option maxRecDepth 20000 in
theorem sX6_has_0 {l : Launch} {z0 b N M : Nat} {D : va_G} {cA : Nat → ClassId} {p : Program} {e : Env} {s : State} {m : MethodId} {args : Array Value} {below : List Frame} {meth : Method} {c : Code} {Kn : Option Value → ZH → Prop} {Kx : Nat → Prop} {h0 : ZH} (C : zCx p l (zRm 0 M 0) s m args meth c cX6_has 2 RX6 z0 D cA M) (htab : ∀ x ∈ c.exceptionTable.toList, False) (hr : meth.sig.returnType = (some .boolean)) : Snd p l e (zRm 0 M 0) s m args below meth c 2 z0 b (zI z0 b N D cA s) (fun _ => (0, 0)) (vx_MQ below (zQn z0 b N D cA Kn) (zXn z0 b N D cA Kx h0) args s M (6 * M) (fun q => z0 ≤ q)) 0 (bX6_has_0 M Kn Kx h0) := by
  obtain ⟨hx, hb, hml, hown, hts, -⟩ := id C
  unfold bX6_has_0
  refine k_iload_n hx hb dX6_has_0 rfl ?_
  refine k_iload_n hx hb dX6_has_1 rfl ?_
  refine k_ishr hx hb dX6_has_2 ?_
  refine k_iconst hx hb dX6_has_3 (by decide) ?_
  refine k_iand hx hb dX6_has_4 ?_
  refine k_iconst hx hb dX6_has_5 (by decide) ?_
  refine k_icmp_ne (tgt := 13) hx hb dX6_has_6 (by decide) ?_ ?_
  · refine k_iconst hx hb dX6_has_13 (by decide) ?_
    exact sX6_has_14 C htab hr
  · refine k_iconst hx hb dX6_has_9 (by decide) ?_
    refine k_goto (tgt := 14) hx hb dX6_has_10 (by decide) ?_
    exact sX6_has_14 C htab hr
set_option maxRecDepth 20000 in
theorem uX6_has {l : Launch} {z0 b N : Nat} {D : va_G} {cA : Nat → ClassId} (hlt : l.stackTraces = false) (spec : ∀ (M : Nat) (a : List Value) (h : ZH) (Kn : Option Value → ZH → Prop) (Kx : Nat → Prop), zok 2 a = true → tX6_has a h Kn → bX6_has_0 M Kn Kx h (zE 2 a) [] h) : Sem l z0 b N D cA yX6_has cX6_has 2 (some .boolean) 0 0 2 zno tX6_has :=
  sem_of hlt (by decide +kernel) (by decide) (fun p e s m args below meth c M a h Kn Kx hok hX hN C hr htab => sX6_has_0 C htab hr _ _ _ (spec M a h Kn Kx hok (hN (fun _ h9 => h9))))
set_option maxRecDepth 20000 in
theorem sX6_many_4 {l : Launch} {z0 b N M : Nat} {D : va_G} {cA : Nat → ClassId} {p : Program} {e : Env} {s : State} {m : MethodId} {args : Array Value} {below : List Frame} {meth : Method} {c : Code} {Kn : Option Value → ZH → Prop} {Kx : Nat → Prop} {h0 : ZH} {K4 : ZK ZH} (C : zCx p l (zRm 0 M 0) s m args meth c cX6_many 3 RX6 z0 D cA M) (htab : ∀ x ∈ c.exceptionTable.toList, False) (hr : meth.sig.returnType = (some .int)) (hK4 : Snd p l e (zRm 0 M 0) s m args below meth c 3 z0 b (zI z0 b N D cA s) (fun _ => (0, 0)) (vx_MQ below (zQn z0 b N D cA Kn) (zXn z0 b N D cA Kx h0) args s M (6 * M) (fun q => z0 ≤ q)) 4 K4) : Snd p l e (zRm 0 M 0) s m args below meth c 3 z0 b (zI z0 b N D cA s) (fun _ => (0, 0)) (vx_MQ below (zQn z0 b N D cA Kn) (zXn z0 b N D cA Kx h0) args s M (6 * M) (fun q => z0 ≤ q)) 4 (bX6_many_4 M Kn Kx h0 K4) := by
  obtain ⟨hx, hb, hml, hown, hts, -⟩ := id C
  unfold bX6_many_4
  refine k_iload_n hx hb dX6_many_4 rfl ?_
  refine k_if_eq (tgt := 20) hx hb dX6_many_5 (by decide) ?_ ?_
  · refine k_iload_n hx hb dX6_many_20 rfl ?_
    exact k_ret C hr dX6_many_21
  · refine k_iinc hx hb dX6_many_8 (by decide) ?_
    refine k_iload_n hx hb dX6_many_11 rfl ?_
    refine k_iload_n hx hb dX6_many_12 rfl ?_
    refine k_iconst hx hb dX6_many_13 (by decide) ?_
    refine k_isub hx hb dX6_many_14 ?_
    refine k_iand hx hb dX6_many_15 ?_
    refine k_istore_n hx hb dX6_many_16 rfl ?_
    refine k_goto (tgt := 4) hx hb dX6_many_17 (by decide) ?_
    exact hK4
set_option maxRecDepth 20000 in
theorem sX6_many_0 {l : Launch} {z0 b N M : Nat} {D : va_G} {cA : Nat → ClassId} {p : Program} {e : Env} {s : State} {m : MethodId} {args : Array Value} {below : List Frame} {meth : Method} {c : Code} {Kn : Option Value → ZH → Prop} {Kx : Nat → Prop} {h0 : ZH} {K4 : ZK ZH} (C : zCx p l (zRm 0 M 0) s m args meth c cX6_many 3 RX6 z0 D cA M) (htab : ∀ x ∈ c.exceptionTable.toList, False) (hr : meth.sig.returnType = (some .int)) (hK4 : Snd p l e (zRm 0 M 0) s m args below meth c 3 z0 b (zI z0 b N D cA s) (fun _ => (0, 0)) (vx_MQ below (zQn z0 b N D cA Kn) (zXn z0 b N D cA Kx h0) args s M (6 * M) (fun q => z0 ≤ q)) 4 K4) : Snd p l e (zRm 0 M 0) s m args below meth c 3 z0 b (zI z0 b N D cA s) (fun _ => (0, 0)) (vx_MQ below (zQn z0 b N D cA Kn) (zXn z0 b N D cA Kx h0) args s M (6 * M) (fun q => z0 ≤ q)) 0 (bX6_many_0 M Kn Kx h0 K4) := by
  obtain ⟨hx, hb, hml, hown, hts, -⟩ := id C
  unfold bX6_many_0
  refine k_iconst hx hb dX6_many_0 (by decide) ?_
  refine k_istore_n hx hb dX6_many_1 rfl ?_
  refine k_iload_n hx hb dX6_many_2 rfl ?_
  refine k_istore_n hx hb dX6_many_3 rfl ?_
  exact hK4
set_option maxRecDepth 20000 in
theorem uX6_many {l : Launch} {z0 b N : Nat} {D : va_G} {cA : Nat → ClassId} (hlt : l.stackTraces = false) (spec : ∀ (M : Nat) (a : List Value) (h : ZH) (Kn : Option Value → ZH → Prop) (Kx : Nat → Prop), zok 1 a = true → tX6_many a h Kn → ∀ (A : Nat → ZK ZH), (∀ ls st h', bX6_many_4 M Kn Kx h (A 4) ls st h' → A 4 ls st h') → bX6_many_0 M Kn Kx h (A 4) (zE 3 a) [] h) : Sem l z0 b N D cA yX6_many cX6_many 3 (some .int) 0 0 1 zno tX6_many :=
  sem_of hlt (by decide +kernel) (by decide) (fun p e s m args below meth c M a h Kn Kx hok hX hN C hr htab => sX6_many_0 C htab hr (fun _ _ _ q => q) _ _ _ (spec M a h Kn Kx hok (hN (fun _ h9 => h9)) (fun pc => AW p l e (zRm 0 M 0) s m args below meth c 3 z0 b (zI z0 b N D cA s) (fun _ => (0, 0)) (vx_MQ below (zQn z0 b N D cA Kn) (zXn z0 b N D cA Kx h) args s M (6 * M) (fun q => z0 ≤ q)) pc) (fun ls st h' hq => sX6_many_4 C htab hr (fun _ _ _ q => q) ls st h' hq)))
set_option maxRecDepth 20000 in
theorem sX6_isTag_0 {l : Launch} {z0 b N M : Nat} {D : va_G} {cA : Nat → ClassId} {p : Program} {e : Env} {s : State} {m : MethodId} {args : Array Value} {below : List Frame} {meth : Method} {c : Code} {Kn : Option Value → ZH → Prop} {Kx : Nat → Prop} {h0 : ZH} (C : zCx p l (zRm 1 M 22) s m args meth c cX6_isTag 2 RX6 z0 D cA M) (htab : ∀ x ∈ c.exceptionTable.toList, False) (hr : meth.sig.returnType = (some .boolean)) (HX6_in : Sem l z0 b N D cA yX6_in cX6_in 3 (some .boolean) 0 0 3 zno tX6_in) : Snd p l e (zRm 1 M 22) s m args below meth c 2 z0 b (zI z0 b N D cA s) (fun _ => (0, 0)) (vx_MQ below (zQn z0 b N D cA Kn) (zXn z0 b N D cA Kx h0) args s M (6 * M) (fun q => z0 ≤ q)) 0 (bX6_isTag_0 M Kn Kx h0) := by
  obtain ⟨hx, hb, hml, hown, hts, -⟩ := id C
  unfold bX6_isTag_0
  refine k_iload_n hx hb dX6_isTag_0 rfl ?_
  refine k_iconst hx hb dX6_isTag_1 (by decide) ?_
  refine k_aload_n hx hb dX6_isTag_2 rfl ?_
  refine k_getf C (ci := 6) (k := 3) (Tf := TX6) (Nf := 20) (Cn := RX6) rfl zinX6 (by decide) rfl zfX6_57 dX6_isTag_3 ?_
  refine k_iconst hx hb dX6_isTag_6 (by decide) ?_
  refine k_isub hx hb dX6_isTag_7 ?_
  refine k_callS3 C htab HX6_in zlX6_60 zsX6_in ziX6 zcX6_in (by decide +kernel) ⟨Nat.le_of_ble_eq_true rfl, Nat.le_of_ble_eq_true rfl⟩ dX6_isTag_8 ?_
  exact k_ret C hr dX6_isTag_11
set_option maxRecDepth 20000 in
theorem uX6_isTag {l : Launch} {z0 b N : Nat} {D : va_G} {cA : Nat → ClassId} (hlt : l.stackTraces = false) (HX6_in : Sem l z0 b N D cA yX6_in cX6_in 3 (some .boolean) 0 0 3 zno tX6_in) (spec : ∀ (M : Nat) (a : List Value) (h : ZH) (Kn : Option Value → ZH → Prop) (Kx : Nat → Prop), zok 2 a = true → tX6_isTag a h Kn → bX6_isTag_0 M Kn Kx h (zE 2 a) [] h) : Sem l z0 b N D cA yX6_isTag cX6_isTag 2 (some .boolean) 1 22 2 zno tX6_isTag :=
  sem_of hlt (by decide +kernel) (by decide) (fun p e s m args below meth c M a h Kn Kx hok hX hN C hr htab => sX6_isTag_0 C htab hr HX6_in _ _ _ (spec M a h Kn Kx hok (hN (fun _ h9 => h9))))
set_option maxRecDepth 20000 in
theorem sX6_isThing_0 {l : Launch} {z0 b N M : Nat} {D : va_G} {cA : Nat → ClassId} {p : Program} {e : Env} {s : State} {m : MethodId} {args : Array Value} {below : List Frame} {meth : Method} {c : Code} {Kn : Option Value → ZH → Prop} {Kx : Nat → Prop} {h0 : ZH} (C : zCx p l (zRm 1 M 22) s m args meth c cX6_isThing 2 RX6 z0 D cA M) (htab : ∀ x ∈ c.exceptionTable.toList, False) (hr : meth.sig.returnType = (some .boolean)) (HX6_in : Sem l z0 b N D cA yX6_in cX6_in 3 (some .boolean) 0 0 3 zno tX6_in) : Snd p l e (zRm 1 M 22) s m args below meth c 2 z0 b (zI z0 b N D cA s) (fun _ => (0, 0)) (vx_MQ below (zQn z0 b N D cA Kn) (zXn z0 b N D cA Kx h0) args s M (6 * M) (fun q => z0 ≤ q)) 0 (bX6_isThing_0 M Kn Kx h0) := by
  obtain ⟨hx, hb, hml, hown, hts, -⟩ := id C
  unfold bX6_isThing_0
  refine k_iload_n hx hb dX6_isThing_0 rfl ?_
  refine k_iconst hx hb dX6_isThing_1 (by decide) ?_
  refine k_aload_n hx hb dX6_isThing_2 rfl ?_
  refine k_getf C (ci := 6) (k := 8) (Tf := TX6) (Nf := 20) (Cn := RX6) rfl zinX6 (by decide) rfl zfX6_64 dX6_isThing_3 ?_
  refine k_iconst hx hb dX6_isThing_6 (by decide) ?_
  refine k_isub hx hb dX6_isThing_7 ?_
  refine k_callS3 C htab HX6_in zlX6_60 zsX6_in ziX6 zcX6_in (by decide +kernel) ⟨Nat.le_of_ble_eq_true rfl, Nat.le_of_ble_eq_true rfl⟩ dX6_isThing_8 ?_
  exact k_ret C hr dX6_isThing_11
set_option maxRecDepth 20000 in
theorem uX6_isThing {l : Launch} {z0 b N : Nat} {D : va_G} {cA : Nat → ClassId} (hlt : l.stackTraces = false) (HX6_in : Sem l z0 b N D cA yX6_in cX6_in 3 (some .boolean) 0 0 3 zno tX6_in) (spec : ∀ (M : Nat) (a : List Value) (h : ZH) (Kn : Option Value → ZH → Prop) (Kx : Nat → Prop), zok 2 a = true → tX6_isThing a h Kn → bX6_isThing_0 M Kn Kx h (zE 2 a) [] h) : Sem l z0 b N D cA yX6_isThing cX6_isThing 2 (some .boolean) 1 22 2 zno tX6_isThing :=
  sem_of hlt (by decide +kernel) (by decide) (fun p e s m args below meth c M a h Kn Kx hok hX hN C hr htab => sX6_isThing_0 C htab hr HX6_in _ _ _ (spec M a h Kn Kx hok (hN (fun _ h9 => h9))))
set_option maxRecDepth 20000 in
theorem sX6_plain_35 {l : Launch} {z0 b N M : Nat} {D : va_G} {cA : Nat → ClassId} {p : Program} {e : Env} {s : State} {m : MethodId} {args : Array Value} {below : List Frame} {meth : Method} {c : Code} {Kn : Option Value → ZH → Prop} {Kx : Nat → Prop} {h0 : ZH} (C : zCx p l (zRm 0 M 0) s m args meth c cX6_plain 1 RX6 z0 D cA M) (htab : ∀ x ∈ c.exceptionTable.toList, False) (hr : meth.sig.returnType = (some .char)) : Snd p l e (zRm 0 M 0) s m args below meth c 1 z0 b (zI z0 b N D cA s) (fun _ => (0, 0)) (vx_MQ below (zQn z0 b N D cA Kn) (zXn z0 b N D cA Kx h0) args s M (6 * M) (fun q => z0 ≤ q)) 35 (bX6_plain_35 M Kn Kx h0) := by
  obtain ⟨hx, hb, hml, hown, hts, -⟩ := id C
  unfold bX6_plain_35
  exact k_ret C hr dX6_plain_35
set_option maxRecDepth 20000 in
theorem sX6_plain_23 {l : Launch} {z0 b N M : Nat} {D : va_G} {cA : Nat → ClassId} {p : Program} {e : Env} {s : State} {m : MethodId} {args : Array Value} {below : List Frame} {meth : Method} {c : Code} {Kn : Option Value → ZH → Prop} {Kx : Nat → Prop} {h0 : ZH} (C : zCx p l (zRm 0 M 0) s m args meth c cX6_plain 1 RX6 z0 D cA M) (htab : ∀ x ∈ c.exceptionTable.toList, False) (hr : meth.sig.returnType = (some .char)) : Snd p l e (zRm 0 M 0) s m args below meth c 1 z0 b (zI z0 b N D cA s) (fun _ => (0, 0)) (vx_MQ below (zQn z0 b N D cA Kn) (zXn z0 b N D cA Kx h0) args s M (6 * M) (fun q => z0 ≤ q)) 23 (bX6_plain_23 M Kn Kx h0) := by
  obtain ⟨hx, hb, hml, hown, hts, -⟩ := id C
  unfold bX6_plain_23
  refine k_iload_n hx hb dX6_plain_23 rfl ?_
  refine k_bipush hx hb dX6_plain_24 (by decide) ?_
  refine k_icmp_ne (tgt := 34) hx hb dX6_plain_26 (by decide) ?_ ?_
  · refine k_iload_n hx hb dX6_plain_34 rfl ?_
    exact sX6_plain_35 C htab hr
  · refine k_bipush hx hb dX6_plain_29 (by decide) ?_
    refine k_goto (tgt := 35) hx hb dX6_plain_31 (by decide) ?_
    exact sX6_plain_35 C htab hr
set_option maxRecDepth 20000 in
theorem sX6_plain_0 {l : Launch} {z0 b N M : Nat} {D : va_G} {cA : Nat → ClassId} {p : Program} {e : Env} {s : State} {m : MethodId} {args : Array Value} {below : List Frame} {meth : Method} {c : Code} {Kn : Option Value → ZH → Prop} {Kx : Nat → Prop} {h0 : ZH} (C : zCx p l (zRm 0 M 0) s m args meth c cX6_plain 1 RX6 z0 D cA M) (htab : ∀ x ∈ c.exceptionTable.toList, False) (hr : meth.sig.returnType = (some .char)) : Snd p l e (zRm 0 M 0) s m args below meth c 1 z0 b (zI z0 b N D cA s) (fun _ => (0, 0)) (vx_MQ below (zQn z0 b N D cA Kn) (zXn z0 b N D cA Kx h0) args s M (6 * M) (fun q => z0 ≤ q)) 0 (bX6_plain_0 M Kn Kx h0) := by
  obtain ⟨hx, hb, hml, hown, hts, -⟩ := id C
  unfold bX6_plain_0
  refine k_iload_n hx hb dX6_plain_0 rfl ?_
  refine k_bipush hx hb dX6_plain_1 (by decide) ?_
  refine k_icmp_lt (tgt := 23) hx hb dX6_plain_3 (by decide) ?_ ?_
  · exact sX6_plain_23 C htab hr
  · refine k_iload_n hx hb dX6_plain_6 rfl ?_
    refine k_bipush hx hb dX6_plain_7 (by decide) ?_
    refine k_icmp_gt (tgt := 23) hx hb dX6_plain_9 (by decide) ?_ ?_
    · exact sX6_plain_23 C htab hr
    · refine k_iload_n hx hb dX6_plain_12 rfl ?_
      refine k_bipush hx hb dX6_plain_13 (by decide) ?_
      refine k_isub hx hb dX6_plain_15 ?_
      refine k_bipush hx hb dX6_plain_16 (by decide) ?_
      refine k_iadd hx hb dX6_plain_18 ?_
      refine k_i2c hx hb dX6_plain_19 ?_
      refine k_goto (tgt := 35) hx hb dX6_plain_20 (by decide) ?_
      exact sX6_plain_35 C htab hr
set_option maxRecDepth 20000 in
theorem uX6_plain {l : Launch} {z0 b N : Nat} {D : va_G} {cA : Nat → ClassId} (hlt : l.stackTraces = false) (spec : ∀ (M : Nat) (a : List Value) (h : ZH) (Kn : Option Value → ZH → Prop) (Kx : Nat → Prop), zok 1 a = true → tX6_plain a h Kn → bX6_plain_0 M Kn Kx h (zE 1 a) [] h) : Sem l z0 b N D cA yX6_plain cX6_plain 1 (some .char) 0 0 1 zno tX6_plain :=
  sem_of hlt (by decide +kernel) (by decide) (fun p e s m args below meth c M a h Kn Kx hok hX hN C hr htab => sX6_plain_0 C htab hr _ _ _ (spec M a h Kn Kx hok (hN (fun _ h9 => h9))))
set_option maxRecDepth 20000 in
theorem sX6_isSign_32 {l : Launch} {z0 b N M : Nat} {D : va_G} {cA : Nat → ClassId} {p : Program} {e : Env} {s : State} {m : MethodId} {args : Array Value} {below : List Frame} {meth : Method} {c : Code} {Kn : Option Value → ZH → Prop} {Kx : Nat → Prop} {h0 : ZH} (C : zCx p l (zRm 1 M 20) s m args meth c cX6_isSign 1 RX6 z0 D cA M) (htab : ∀ x ∈ c.exceptionTable.toList, False) (hr : meth.sig.returnType = (some .boolean)) (HX6_plain : Sem l z0 b N D cA yX6_plain cX6_plain 1 (some .char) 0 0 1 zno tX6_plain) : Snd p l e (zRm 1 M 20) s m args below meth c 1 z0 b (zI z0 b N D cA s) (fun _ => (0, 0)) (vx_MQ below (zQn z0 b N D cA Kn) (zXn z0 b N D cA Kx h0) args s M (6 * M) (fun q => z0 ≤ q)) 32 (bX6_isSign_32 M Kn Kx h0) := by
  obtain ⟨hx, hb, hml, hown, hts, -⟩ := id C
  unfold bX6_isSign_32
  exact k_ret C hr dX6_isSign_32
set_option maxRecDepth 20000 in
theorem sX6_isSign_27 {l : Launch} {z0 b N M : Nat} {D : va_G} {cA : Nat → ClassId} {p : Program} {e : Env} {s : State} {m : MethodId} {args : Array Value} {below : List Frame} {meth : Method} {c : Code} {Kn : Option Value → ZH → Prop} {Kx : Nat → Prop} {h0 : ZH} (C : zCx p l (zRm 1 M 20) s m args meth c cX6_isSign 1 RX6 z0 D cA M) (htab : ∀ x ∈ c.exceptionTable.toList, False) (hr : meth.sig.returnType = (some .boolean)) (HX6_plain : Sem l z0 b N D cA yX6_plain cX6_plain 1 (some .char) 0 0 1 zno tX6_plain) : Snd p l e (zRm 1 M 20) s m args below meth c 1 z0 b (zI z0 b N D cA s) (fun _ => (0, 0)) (vx_MQ below (zQn z0 b N D cA Kn) (zXn z0 b N D cA Kx h0) args s M (6 * M) (fun q => z0 ≤ q)) 27 (bX6_isSign_27 M Kn Kx h0) := by
  obtain ⟨hx, hb, hml, hown, hts, -⟩ := id C
  unfold bX6_isSign_27
  refine k_iconst hx hb dX6_isSign_27 (by decide) ?_
  refine k_goto (tgt := 32) hx hb dX6_isSign_28 (by decide) ?_
  exact sX6_isSign_32 C htab hr HX6_plain
set_option maxRecDepth 20000 in
theorem sX6_isSign_18 {l : Launch} {z0 b N M : Nat} {D : va_G} {cA : Nat → ClassId} {p : Program} {e : Env} {s : State} {m : MethodId} {args : Array Value} {below : List Frame} {meth : Method} {c : Code} {Kn : Option Value → ZH → Prop} {Kx : Nat → Prop} {h0 : ZH} (C : zCx p l (zRm 1 M 20) s m args meth c cX6_isSign 1 RX6 z0 D cA M) (htab : ∀ x ∈ c.exceptionTable.toList, False) (hr : meth.sig.returnType = (some .boolean)) (HX6_plain : Sem l z0 b N D cA yX6_plain cX6_plain 1 (some .char) 0 0 1 zno tX6_plain) : Snd p l e (zRm 1 M 20) s m args below meth c 1 z0 b (zI z0 b N D cA s) (fun _ => (0, 0)) (vx_MQ below (zQn z0 b N D cA Kn) (zXn z0 b N D cA Kx h0) args s M (6 * M) (fun q => z0 ≤ q)) 18 (bX6_isSign_18 M Kn Kx h0) := by
  obtain ⟨hx, hb, hml, hown, hts, -⟩ := id C
  unfold bX6_isSign_18
  refine k_iload_n hx hb dX6_isSign_18 rfl ?_
  refine k_callS1 C htab HX6_plain zlX6_67 zsX6_plain ziX6 zcX6_plain (by decide +kernel) ⟨Nat.le_of_ble_eq_true rfl, Nat.le_of_ble_eq_true rfl⟩ dX6_isSign_19 ?_
  refine k_bipush hx hb dX6_isSign_22 (by decide) ?_
  refine k_icmp_ne (tgt := 31) hx hb dX6_isSign_24 (by decide) ?_ ?_
  · refine k_iconst hx hb dX6_isSign_31 (by decide) ?_
    exact sX6_isSign_32 C htab hr HX6_plain
  · exact sX6_isSign_27 C htab hr HX6_plain
set_option maxRecDepth 20000 in
theorem sX6_isSign_0 {l : Launch} {z0 b N M : Nat} {D : va_G} {cA : Nat → ClassId} {p : Program} {e : Env} {s : State} {m : MethodId} {args : Array Value} {below : List Frame} {meth : Method} {c : Code} {Kn : Option Value → ZH → Prop} {Kx : Nat → Prop} {h0 : ZH} (C : zCx p l (zRm 1 M 20) s m args meth c cX6_isSign 1 RX6 z0 D cA M) (htab : ∀ x ∈ c.exceptionTable.toList, False) (hr : meth.sig.returnType = (some .boolean)) (HX6_plain : Sem l z0 b N D cA yX6_plain cX6_plain 1 (some .char) 0 0 1 zno tX6_plain) : Snd p l e (zRm 1 M 20) s m args below meth c 1 z0 b (zI z0 b N D cA s) (fun _ => (0, 0)) (vx_MQ below (zQn z0 b N D cA Kn) (zXn z0 b N D cA Kx h0) args s M (6 * M) (fun q => z0 ≤ q)) 0 (bX6_isSign_0 M Kn Kx h0) := by
  obtain ⟨hx, hb, hml, hown, hts, -⟩ := id C
  unfold bX6_isSign_0
  refine k_iload_n hx hb dX6_isSign_0 rfl ?_
  refine k_callS1 C htab HX6_plain zlX6_67 zsX6_plain ziX6 zcX6_plain (by decide +kernel) ⟨Nat.le_of_ble_eq_true rfl, Nat.le_of_ble_eq_true rfl⟩ dX6_isSign_1 ?_
  refine k_bipush hx hb dX6_isSign_4 (by decide) ?_
  refine k_icmp_lt (tgt := 18) hx hb dX6_isSign_6 (by decide) ?_ ?_
  · exact sX6_isSign_18 C htab hr HX6_plain
  · refine k_iload_n hx hb dX6_isSign_9 rfl ?_
    refine k_callS1 C htab HX6_plain zlX6_67 zsX6_plain ziX6 zcX6_plain (by decide +kernel) ⟨Nat.le_of_ble_eq_true rfl, Nat.le_of_ble_eq_true rfl⟩ dX6_isSign_10 ?_
    refine k_bipush hx hb dX6_isSign_13 (by decide) ?_
    refine k_icmp_le (tgt := 27) hx hb dX6_isSign_15 (by decide) ?_ ?_
    · exact sX6_isSign_27 C htab hr HX6_plain
    · exact sX6_isSign_18 C htab hr HX6_plain
set_option maxRecDepth 20000 in
theorem uX6_isSign {l : Launch} {z0 b N : Nat} {D : va_G} {cA : Nat → ClassId} (hlt : l.stackTraces = false) (HX6_plain : Sem l z0 b N D cA yX6_plain cX6_plain 1 (some .char) 0 0 1 zno tX6_plain) (spec : ∀ (M : Nat) (a : List Value) (h : ZH) (Kn : Option Value → ZH → Prop) (Kx : Nat → Prop), zok 1 a = true → tX6_isSign a h Kn → bX6_isSign_0 M Kn Kx h (zE 1 a) [] h) : Sem l z0 b N D cA yX6_isSign cX6_isSign 1 (some .boolean) 1 20 1 zno tX6_isSign :=
  sem_of hlt (by decide +kernel) (by decide) (fun p e s m args below meth c M a h Kn Kx hok hX hN C hr htab => sX6_isSign_0 C htab hr HX6_plain _ _ _ (spec M a h Kn Kx hok (hN (fun _ h9 => h9))))
set_option maxRecDepth 20000 in
theorem sX6_type_26 {l : Launch} {z0 b N M : Nat} {D : va_G} {cA : Nat → ClassId} {p : Program} {e : Env} {s : State} {m : MethodId} {args : Array Value} {below : List Frame} {meth : Method} {c : Code} {Kn : Option Value → ZH → Prop} {Kx : Nat → Prop} {h0 : ZH} (C : zCx p l (zRm 2 M 40) s m args meth c cX6_type 2 RX6 z0 D cA M) (htab : ∀ x ∈ c.exceptionTable.toList, False) (hr : meth.sig.returnType = (some .int)) (HX6_isSign : Sem l z0 b N D cA yX6_isSign cX6_isSign 1 (some .boolean) 1 20 1 zno tX6_isSign) (HX6_holds : Sem l z0 b N D cA yX6_holds cX6_holds 2 (some .boolean) 0 0 2 zno tX6_holds) : Snd p l e (zRm 2 M 40) s m args below meth c 2 z0 b (zI z0 b N D cA s) (fun _ => (0, 0)) (vx_MQ below (zQn z0 b N D cA Kn) (zXn z0 b N D cA Kx h0) args s M (6 * M) (fun q => z0 ≤ q)) 26 (bX6_type_26 M Kn Kx h0) := by
  obtain ⟨hx, hb, hml, hown, hts, -⟩ := id C
  unfold bX6_type_26
  refine k_callV1 C htab (ci := 6) (Tf := TX6) (Nf := 20) (Cn := RX6) rfl HX6_holds rfl zlX6_78 zmX6_holds zvX6_holds ziX6 zcX6_holds (by decide +kernel) ⟨Nat.le_of_ble_eq_true rfl, Nat.le_of_ble_eq_true rfl⟩ dX6_type_26 ?_
  refine k_if_ne (tgt := 34) hx hb dX6_type_29 (by decide) ?_ ?_
  · refine k_aload_n hx hb dX6_type_34 rfl ?_
    refine k_getf C (ci := 6) (k := 1) (Tf := TX6) (Nf := 20) (Cn := RX6) rfl zinX6 (by decide) rfl zfX6_7 dX6_type_35 ?_
    refine k_aload_n hx hb dX6_type_38 rfl ?_
    refine k_getf C (ci := 6) (k := 2) (Tf := TX6) (Nf := 20) (Cn := RX6) rfl zinX6 (by decide) rfl zfX6_75 dX6_type_39 ?_
    refine k_iload_n hx hb dX6_type_42 rfl ?_
    refine k_cast C dX6_type_43 ?_
    refine k_aload_n hx hb dX6_type_44 rfl ?_
    refine k_dup hx hb dX6_type_45 ?_
    refine k_getf C (ci := 6) (k := 2) (Tf := TX6) (Nf := 20) (Cn := RX6) rfl zinX6 (by decide) rfl zfX6_75 dX6_type_46 ?_
    refine k_iconst hx hb dX6_type_49 (by decide) ?_
    refine k_iadd hx hb dX6_type_50 ?_
    refine k_puti C (ci := 6) (k := 2) (Tf := TX6) (Nf := 20) (Cn := RX6) tyX6 tyX6_ok nmX6 rfl zinX6 (by decide) rfl rfl (by decide +kernel) zfX6_75 dX6_type_51 ?_
    refine k_aload_n hx hb dX6_type_54 rfl ?_
    refine k_getf C (ci := 6) (k := 2) (Tf := TX6) (Nf := 20) (Cn := RX6) rfl zinX6 (by decide) rfl zfX6_75 dX6_type_55 ?_
    exact k_ret C hr dX6_type_58
  · refine k_iconst hx hb dX6_type_32 (by decide) ?_
    exact k_ret C hr dX6_type_33
set_option maxRecDepth 20000 in
theorem sX6_type_0 {l : Launch} {z0 b N M : Nat} {D : va_G} {cA : Nat → ClassId} {p : Program} {e : Env} {s : State} {m : MethodId} {args : Array Value} {below : List Frame} {meth : Method} {c : Code} {Kn : Option Value → ZH → Prop} {Kx : Nat → Prop} {h0 : ZH} (C : zCx p l (zRm 2 M 40) s m args meth c cX6_type 2 RX6 z0 D cA M) (htab : ∀ x ∈ c.exceptionTable.toList, False) (hr : meth.sig.returnType = (some .int)) (HX6_isSign : Sem l z0 b N D cA yX6_isSign cX6_isSign 1 (some .boolean) 1 20 1 zno tX6_isSign) (HX6_holds : Sem l z0 b N D cA yX6_holds cX6_holds 2 (some .boolean) 0 0 2 zno tX6_holds) : Snd p l e (zRm 2 M 40) s m args below meth c 2 z0 b (zI z0 b N D cA s) (fun _ => (0, 0)) (vx_MQ below (zQn z0 b N D cA Kn) (zXn z0 b N D cA Kx h0) args s M (6 * M) (fun q => z0 ≤ q)) 0 (bX6_type_0 M Kn Kx h0) := by
  obtain ⟨hx, hb, hml, hown, hts, -⟩ := id C
  unfold bX6_type_0
  refine k_aload_n hx hb dX6_type_0 rfl ?_
  refine k_iload_n hx hb dX6_type_1 rfl ?_
  refine k_callS1 C htab HX6_isSign zlX6_71 zsX6_isSign ziX6 zcX6_isSign (by decide +kernel) ⟨Nat.le_of_ble_eq_true rfl, Nat.le_of_ble_eq_true rfl⟩ dX6_type_2 ?_
  refine k_if_ne (tgt := 12) hx hb dX6_type_5 (by decide) ?_ ?_
  · refine k_aload_n hx hb dX6_type_12 rfl ?_
    refine k_getf C (ci := 6) (k := 2) (Tf := TX6) (Nf := 20) (Cn := RX6) rfl zinX6 (by decide) rfl zfX6_75 dX6_type_13 ?_
    refine k_bipush hx hb dX6_type_16 (by decide) ?_
    refine k_icmp_ne (tgt := 25) hx hb dX6_type_18 (by decide) ?_ ?_
    · refine k_iconst hx hb dX6_type_25 (by decide) ?_
      exact sX6_type_26 C htab hr HX6_isSign HX6_holds
    · refine k_iconst hx hb dX6_type_21 (by decide) ?_
      refine k_goto (tgt := 26) hx hb dX6_type_22 (by decide) ?_
      exact sX6_type_26 C htab hr HX6_isSign HX6_holds
  · refine k_iconst hx hb dX6_type_8 (by decide) ?_
    refine k_goto (tgt := 26) hx hb dX6_type_9 (by decide) ?_
    exact sX6_type_26 C htab hr HX6_isSign HX6_holds
set_option maxRecDepth 20000 in
theorem uX6_type {l : Launch} {z0 b N : Nat} {D : va_G} {cA : Nat → ClassId} (hlt : l.stackTraces = false) (HX6_isSign : Sem l z0 b N D cA yX6_isSign cX6_isSign 1 (some .boolean) 1 20 1 zno tX6_isSign) (HX6_holds : Sem l z0 b N D cA yX6_holds cX6_holds 2 (some .boolean) 0 0 2 zno tX6_holds) (spec : ∀ (M : Nat) (a : List Value) (h : ZH) (Kn : Option Value → ZH → Prop) (Kx : Nat → Prop), zok 2 a = true → tX6_type a h Kn → bX6_type_0 M Kn Kx h (zE 2 a) [] h) : Sem l z0 b N D cA yX6_type cX6_type 2 (some .int) 2 40 2 zno tX6_type :=
  sem_of hlt (by decide +kernel) (by decide) (fun p e s m args below meth c M a h Kn Kx hok hX hN C hr htab => sX6_type_0 C htab hr HX6_isSign HX6_holds _ _ _ (spec M a h Kn Kx hok (hN (fun _ h9 => h9))))
set_option maxRecDepth 20000 in
theorem sX6_isDraft_71 {l : Launch} {z0 b N M : Nat} {D : va_G} {cA : Nat → ClassId} {p : Program} {e : Env} {s : State} {m : MethodId} {args : Array Value} {below : List Frame} {meth : Method} {c : Code} {Kn : Option Value → ZH → Prop} {Kx : Nat → Prop} {h0 : ZH} {K21 : ZK ZH} (C : zCx p l (zRm 1 M 20) s m args meth c cX6_isDraft 4 RX6 z0 D cA M) (htab : ∀ x ∈ c.exceptionTable.toList, False) (hr : meth.sig.returnType = (some .boolean)) (HX6_plain : Sem l z0 b N D cA yX6_plain cX6_plain 1 (some .char) 0 0 1 zno tX6_plain) (hK21 : Snd p l e (zRm 1 M 20) s m args below meth c 4 z0 b (zI z0 b N D cA s) (fun _ => (0, 0)) (vx_MQ below (zQn z0 b N D cA Kn) (zXn z0 b N D cA Kx h0) args s M (6 * M) (fun q => z0 ≤ q)) 21 K21) : Snd p l e (zRm 1 M 20) s m args below meth c 4 z0 b (zI z0 b N D cA s) (fun _ => (0, 0)) (vx_MQ below (zQn z0 b N D cA Kn) (zXn z0 b N D cA Kx h0) args s M (6 * M) (fun q => z0 ≤ q)) 71 (bX6_isDraft_71 M Kn Kx h0 K21) := by
  obtain ⟨hx, hb, hml, hown, hts, -⟩ := id C
  unfold bX6_isDraft_71
  refine k_iload_n hx hb dX6_isDraft_71 rfl ?_
  exact k_ret C hr dX6_isDraft_72
set_option maxRecDepth 20000 in
theorem sX6_isDraft_64 {l : Launch} {z0 b N M : Nat} {D : va_G} {cA : Nat → ClassId} {p : Program} {e : Env} {s : State} {m : MethodId} {args : Array Value} {below : List Frame} {meth : Method} {c : Code} {Kn : Option Value → ZH → Prop} {Kx : Nat → Prop} {h0 : ZH} {K21 : ZK ZH} (C : zCx p l (zRm 1 M 20) s m args meth c cX6_isDraft 4 RX6 z0 D cA M) (htab : ∀ x ∈ c.exceptionTable.toList, False) (hr : meth.sig.returnType = (some .boolean)) (HX6_plain : Sem l z0 b N D cA yX6_plain cX6_plain 1 (some .char) 0 0 1 zno tX6_plain) (hK21 : Snd p l e (zRm 1 M 20) s m args below meth c 4 z0 b (zI z0 b N D cA s) (fun _ => (0, 0)) (vx_MQ below (zQn z0 b N D cA Kn) (zXn z0 b N D cA Kx h0) args s M (6 * M) (fun q => z0 ≤ q)) 21 K21) : Snd p l e (zRm 1 M 20) s m args below meth c 4 z0 b (zI z0 b N D cA s) (fun _ => (0, 0)) (vx_MQ below (zQn z0 b N D cA Kn) (zXn z0 b N D cA Kx h0) args s M (6 * M) (fun q => z0 ≤ q)) 64 (bX6_isDraft_64 M Kn Kx h0 K21) := by
  obtain ⟨hx, hb, hml, hown, hts, -⟩ := id C
  unfold bX6_isDraft_64
  refine k_istore_n hx hb dX6_isDraft_64 rfl ?_
  refine k_iinc hx hb dX6_isDraft_65 (by decide) ?_
  refine k_goto (tgt := 21) hx hb dX6_isDraft_68 (by decide) ?_
  exact hK21
set_option maxRecDepth 20000 in
theorem sX6_isDraft_21 {l : Launch} {z0 b N M : Nat} {D : va_G} {cA : Nat → ClassId} {p : Program} {e : Env} {s : State} {m : MethodId} {args : Array Value} {below : List Frame} {meth : Method} {c : Code} {Kn : Option Value → ZH → Prop} {Kx : Nat → Prop} {h0 : ZH} {K21 : ZK ZH} (C : zCx p l (zRm 1 M 20) s m args meth c cX6_isDraft 4 RX6 z0 D cA M) (htab : ∀ x ∈ c.exceptionTable.toList, False) (hr : meth.sig.returnType = (some .boolean)) (HX6_plain : Sem l z0 b N D cA yX6_plain cX6_plain 1 (some .char) 0 0 1 zno tX6_plain) (hK21 : Snd p l e (zRm 1 M 20) s m args below meth c 4 z0 b (zI z0 b N D cA s) (fun _ => (0, 0)) (vx_MQ below (zQn z0 b N D cA Kn) (zXn z0 b N D cA Kx h0) args s M (6 * M) (fun q => z0 ≤ q)) 21 K21) : Snd p l e (zRm 1 M 20) s m args below meth c 4 z0 b (zI z0 b N D cA s) (fun _ => (0, 0)) (vx_MQ below (zQn z0 b N D cA Kn) (zXn z0 b N D cA Kx h0) args s M (6 * M) (fun q => z0 ≤ q)) 21 (bX6_isDraft_21 M Kn Kx h0 K21) := by
  obtain ⟨hx, hb, hml, hown, hts, -⟩ := id C
  unfold bX6_isDraft_21
  refine k_iload_n hx hb dX6_isDraft_21 rfl ?_
  refine k_aload_n hx hb dX6_isDraft_22 rfl ?_
  refine k_getf C (ci := 6) (k := 2) (Tf := TX6) (Nf := 20) (Cn := RX6) rfl zinX6 (by decide) rfl zfX6_75 dX6_isDraft_23 ?_
  refine k_icmp_ge (tgt := 71) hx hb dX6_isDraft_26 (by decide) ?_ ?_
  · exact sX6_isDraft_71 C htab hr HX6_plain hK21
  · refine k_iload_n hx hb dX6_isDraft_29 rfl ?_
    refine k_if_eq (tgt := 71) hx hb dX6_isDraft_30 (by decide) ?_ ?_
    · exact sX6_isDraft_71 C htab hr HX6_plain hK21
    · refine k_aload_n hx hb dX6_isDraft_33 rfl ?_
      refine k_getf C (ci := 6) (k := 4) (Tf := TX6) (Nf := 20) (Cn := RX6) rfl zinX6 (by decide) rfl zfX6_13 dX6_isDraft_34 ?_
      refine k_bipush hx hb dX6_isDraft_37 (by decide) ?_
      refine k_iload_n hx hb dX6_isDraft_39 rfl ?_
      refine k_imul hx hb dX6_isDraft_40 ?_
      refine k_iload_n hx hb dX6_isDraft_41 rfl ?_
      refine k_iadd hx hb dX6_isDraft_42 ?_
      refine k_cald C dX6_isDraft_43 ?_
      refine k_callS1 C htab HX6_plain zlX6_67 zsX6_plain ziX6 zcX6_plain (by decide +kernel) ⟨Nat.le_of_ble_eq_true rfl, Nat.le_of_ble_eq_true rfl⟩ dX6_isDraft_44 ?_
      refine k_aload_n hx hb dX6_isDraft_47 rfl ?_
      refine k_getf C (ci := 6) (k := 1) (Tf := TX6) (Nf := 20) (Cn := RX6) rfl zinX6 (by decide) rfl zfX6_7 dX6_isDraft_48 ?_
      refine k_iload_n hx hb dX6_isDraft_51 rfl ?_
      refine k_cald C dX6_isDraft_52 ?_
      refine k_callS1 C htab HX6_plain zlX6_67 zsX6_plain ziX6 zcX6_plain (by decide +kernel) ⟨Nat.le_of_ble_eq_true rfl, Nat.le_of_ble_eq_true rfl⟩ dX6_isDraft_53 ?_
      refine k_icmp_ne (tgt := 63) hx hb dX6_isDraft_56 (by decide) ?_ ?_
      · refine k_iconst hx hb dX6_isDraft_63 (by decide) ?_
        exact sX6_isDraft_64 C htab hr HX6_plain hK21
      · refine k_iconst hx hb dX6_isDraft_59 (by decide) ?_
        refine k_goto (tgt := 64) hx hb dX6_isDraft_60 (by decide) ?_
        exact sX6_isDraft_64 C htab hr HX6_plain hK21
set_option maxRecDepth 20000 in
theorem sX6_isDraft_18 {l : Launch} {z0 b N M : Nat} {D : va_G} {cA : Nat → ClassId} {p : Program} {e : Env} {s : State} {m : MethodId} {args : Array Value} {below : List Frame} {meth : Method} {c : Code} {Kn : Option Value → ZH → Prop} {Kx : Nat → Prop} {h0 : ZH} {K21 : ZK ZH} (C : zCx p l (zRm 1 M 20) s m args meth c cX6_isDraft 4 RX6 z0 D cA M) (htab : ∀ x ∈ c.exceptionTable.toList, False) (hr : meth.sig.returnType = (some .boolean)) (HX6_plain : Sem l z0 b N D cA yX6_plain cX6_plain 1 (some .char) 0 0 1 zno tX6_plain) (hK21 : Snd p l e (zRm 1 M 20) s m args below meth c 4 z0 b (zI z0 b N D cA s) (fun _ => (0, 0)) (vx_MQ below (zQn z0 b N D cA Kn) (zXn z0 b N D cA Kx h0) args s M (6 * M) (fun q => z0 ≤ q)) 21 K21) : Snd p l e (zRm 1 M 20) s m args below meth c 4 z0 b (zI z0 b N D cA s) (fun _ => (0, 0)) (vx_MQ below (zQn z0 b N D cA Kn) (zXn z0 b N D cA Kx h0) args s M (6 * M) (fun q => z0 ≤ q)) 18 (bX6_isDraft_18 M Kn Kx h0 K21) := by
  obtain ⟨hx, hb, hml, hown, hts, -⟩ := id C
  unfold bX6_isDraft_18
  refine k_istore_n hx hb dX6_isDraft_18 rfl ?_
  refine k_iconst hx hb dX6_isDraft_19 (by decide) ?_
  refine k_istore_n hx hb dX6_isDraft_20 rfl ?_
  exact hK21
set_option maxRecDepth 20000 in
theorem sX6_isDraft_0 {l : Launch} {z0 b N M : Nat} {D : va_G} {cA : Nat → ClassId} {p : Program} {e : Env} {s : State} {m : MethodId} {args : Array Value} {below : List Frame} {meth : Method} {c : Code} {Kn : Option Value → ZH → Prop} {Kx : Nat → Prop} {h0 : ZH} {K21 : ZK ZH} (C : zCx p l (zRm 1 M 20) s m args meth c cX6_isDraft 4 RX6 z0 D cA M) (htab : ∀ x ∈ c.exceptionTable.toList, False) (hr : meth.sig.returnType = (some .boolean)) (HX6_plain : Sem l z0 b N D cA yX6_plain cX6_plain 1 (some .char) 0 0 1 zno tX6_plain) (hK21 : Snd p l e (zRm 1 M 20) s m args below meth c 4 z0 b (zI z0 b N D cA s) (fun _ => (0, 0)) (vx_MQ below (zQn z0 b N D cA Kn) (zXn z0 b N D cA Kx h0) args s M (6 * M) (fun q => z0 ≤ q)) 21 K21) : Snd p l e (zRm 1 M 20) s m args below meth c 4 z0 b (zI z0 b N D cA s) (fun _ => (0, 0)) (vx_MQ below (zQn z0 b N D cA Kn) (zXn z0 b N D cA Kx h0) args s M (6 * M) (fun q => z0 ≤ q)) 0 (bX6_isDraft_0 M Kn Kx h0 K21) := by
  obtain ⟨hx, hb, hml, hown, hts, -⟩ := id C
  unfold bX6_isDraft_0
  refine k_aload_n hx hb dX6_isDraft_0 rfl ?_
  refine k_getf C (ci := 6) (k := 5) (Tf := TX6) (Nf := 20) (Cn := RX6) rfl zinX6 (by decide) rfl zfX6_16 dX6_isDraft_1 ?_
  refine k_iload_n hx hb dX6_isDraft_4 rfl ?_
  refine k_iald C dX6_isDraft_5 ?_
  refine k_aload_n hx hb dX6_isDraft_6 rfl ?_
  refine k_getf C (ci := 6) (k := 2) (Tf := TX6) (Nf := 20) (Cn := RX6) rfl zinX6 (by decide) rfl zfX6_75 dX6_isDraft_7 ?_
  refine k_icmp_ne (tgt := 17) hx hb dX6_isDraft_10 (by decide) ?_ ?_
  · refine k_iconst hx hb dX6_isDraft_17 (by decide) ?_
    exact sX6_isDraft_18 C htab hr HX6_plain hK21
  · refine k_iconst hx hb dX6_isDraft_13 (by decide) ?_
    refine k_goto (tgt := 18) hx hb dX6_isDraft_14 (by decide) ?_
    exact sX6_isDraft_18 C htab hr HX6_plain hK21
set_option maxRecDepth 20000 in
theorem uX6_isDraft {l : Launch} {z0 b N : Nat} {D : va_G} {cA : Nat → ClassId} (hlt : l.stackTraces = false) (HX6_plain : Sem l z0 b N D cA yX6_plain cX6_plain 1 (some .char) 0 0 1 zno tX6_plain) (spec : ∀ (M : Nat) (a : List Value) (h : ZH) (Kn : Option Value → ZH → Prop) (Kx : Nat → Prop), zok 2 a = true → tX6_isDraft a h Kn → ∀ (A : Nat → ZK ZH), (∀ ls st h', bX6_isDraft_21 M Kn Kx h (A 21) ls st h' → A 21 ls st h') → bX6_isDraft_0 M Kn Kx h (A 21) (zE 4 a) [] h) : Sem l z0 b N D cA yX6_isDraft cX6_isDraft 4 (some .boolean) 1 20 2 zno tX6_isDraft :=
  sem_of hlt (by decide +kernel) (by decide) (fun p e s m args below meth c M a h Kn Kx hok hX hN C hr htab => sX6_isDraft_0 C htab hr HX6_plain (fun _ _ _ q => q) _ _ _ (spec M a h Kn Kx hok (hN (fun _ h9 => h9)) (fun pc => AW p l e (zRm 1 M 20) s m args below meth c 4 z0 b (zI z0 b N D cA s) (fun _ => (0, 0)) (vx_MQ below (zQn z0 b N D cA Kn) (zXn z0 b N D cA Kx h) args s M (6 * M) (fun q => z0 ≤ q)) pc) (fun ls st h' hq => sX6_isDraft_21 C htab hr HX6_plain (fun _ _ _ q => q) ls st h' hq)))
set_option maxRecDepth 20000 in
theorem sX6_enter_136 {l : Launch} {z0 b N M : Nat} {D : va_G} {cA : Nat → ClassId} {p : Program} {e : Env} {s : State} {m : MethodId} {args : Array Value} {below : List Frame} {meth : Method} {c : Code} {Kn : Option Value → ZH → Prop} {Kx : Nat → Prop} {h0 : ZH} {K4 K74 : ZK ZH} (C : zCx p l (zRm 2 M 43) s m args meth c cX6_enter 3 RX6 z0 D cA M) (htab : ∀ x ∈ c.exceptionTable.toList, False) (hr : meth.sig.returnType = (some .int)) (HX6_isDraft : Sem l z0 b N D cA yX6_isDraft cX6_isDraft 4 (some .boolean) 1 20 2 zno tX6_isDraft) (HX6_holds : Sem l z0 b N D cA yX6_holds cX6_holds 2 (some .boolean) 0 0 2 zno tX6_holds) (hK4 : Snd p l e (zRm 2 M 43) s m args below meth c 3 z0 b (zI z0 b N D cA s) (fun _ => (0, 0)) (vx_MQ below (zQn z0 b N D cA Kn) (zXn z0 b N D cA Kx h0) args s M (6 * M) (fun q => z0 ≤ q)) 4 K4) (hK74 : Snd p l e (zRm 2 M 43) s m args below meth c 3 z0 b (zI z0 b N D cA s) (fun _ => (0, 0)) (vx_MQ below (zQn z0 b N D cA Kn) (zXn z0 b N D cA Kx h0) args s M (6 * M) (fun q => z0 ≤ q)) 74 K74) : Snd p l e (zRm 2 M 43) s m args below meth c 3 z0 b (zI z0 b N D cA s) (fun _ => (0, 0)) (vx_MQ below (zQn z0 b N D cA Kn) (zXn z0 b N D cA Kx h0) args s M (6 * M) (fun q => z0 ≤ q)) 136 (bX6_enter_136 M Kn Kx h0 K4 K74) := by
  obtain ⟨hx, hb, hml, hown, hts, -⟩ := id C
  unfold bX6_enter_136
  refine k_aload_n hx hb dX6_enter_136 rfl ?_
  refine k_iconst hx hb dX6_enter_137 (by decide) ?_
  refine k_puti C (ci := 6) (k := 2) (Tf := TX6) (Nf := 20) (Cn := RX6) tyX6 tyX6_ok nmX6 rfl zinX6 (by decide) rfl rfl (by decide +kernel) zfX6_75 dX6_enter_138 ?_
  refine k_iload_n hx hb dX6_enter_141 rfl ?_
  exact k_ret C hr dX6_enter_142
set_option maxRecDepth 20000 in
theorem sX6_enter_74 {l : Launch} {z0 b N M : Nat} {D : va_G} {cA : Nat → ClassId} {p : Program} {e : Env} {s : State} {m : MethodId} {args : Array Value} {below : List Frame} {meth : Method} {c : Code} {Kn : Option Value → ZH → Prop} {Kx : Nat → Prop} {h0 : ZH} {K4 K74 : ZK ZH} (C : zCx p l (zRm 2 M 43) s m args meth c cX6_enter 3 RX6 z0 D cA M) (htab : ∀ x ∈ c.exceptionTable.toList, False) (hr : meth.sig.returnType = (some .int)) (HX6_isDraft : Sem l z0 b N D cA yX6_isDraft cX6_isDraft 4 (some .boolean) 1 20 2 zno tX6_isDraft) (HX6_holds : Sem l z0 b N D cA yX6_holds cX6_holds 2 (some .boolean) 0 0 2 zno tX6_holds) (hK4 : Snd p l e (zRm 2 M 43) s m args below meth c 3 z0 b (zI z0 b N D cA s) (fun _ => (0, 0)) (vx_MQ below (zQn z0 b N D cA Kn) (zXn z0 b N D cA Kx h0) args s M (6 * M) (fun q => z0 ≤ q)) 4 K4) (hK74 : Snd p l e (zRm 2 M 43) s m args below meth c 3 z0 b (zI z0 b N D cA s) (fun _ => (0, 0)) (vx_MQ below (zQn z0 b N D cA Kn) (zXn z0 b N D cA Kx h0) args s M (6 * M) (fun q => z0 ≤ q)) 74 K74) : Snd p l e (zRm 2 M 43) s m args below meth c 3 z0 b (zI z0 b N D cA s) (fun _ => (0, 0)) (vx_MQ below (zQn z0 b N D cA Kn) (zXn z0 b N D cA Kx h0) args s M (6 * M) (fun q => z0 ≤ q)) 74 (bX6_enter_74 M Kn Kx h0 K4 K74) := by
  obtain ⟨hx, hb, hml, hown, hts, -⟩ := id C
  unfold bX6_enter_74
  refine k_iload_n hx hb dX6_enter_74 rfl ?_
  refine k_aload_n hx hb dX6_enter_75 rfl ?_
  refine k_getf C (ci := 6) (k := 2) (Tf := TX6) (Nf := 20) (Cn := RX6) rfl zinX6 (by decide) rfl zfX6_75 dX6_enter_76 ?_
  refine k_icmp_ge (tgt := 108) hx hb dX6_enter_79 (by decide) ?_ ?_
  · refine k_aload_n hx hb dX6_enter_108 rfl ?_
    refine k_getf C (ci := 6) (k := 5) (Tf := TX6) (Nf := 20) (Cn := RX6) rfl zinX6 (by decide) rfl zfX6_16 dX6_enter_109 ?_
    refine k_aload_n hx hb dX6_enter_112 rfl ?_
    refine k_getf C (ci := 6) (k := 3) (Tf := TX6) (Nf := 20) (Cn := RX6) rfl zinX6 (by decide) rfl zfX6_57 dX6_enter_113 ?_
    refine k_aload_n hx hb dX6_enter_116 rfl ?_
    refine k_getf C (ci := 6) (k := 2) (Tf := TX6) (Nf := 20) (Cn := RX6) rfl zinX6 (by decide) rfl zfX6_75 dX6_enter_117 ?_
    refine k_iast C dX6_enter_120 ?_
    refine k_aload_n hx hb dX6_enter_121 rfl ?_
    refine k_getf C (ci := 6) (k := 3) (Tf := TX6) (Nf := 20) (Cn := RX6) rfl zinX6 (by decide) rfl zfX6_57 dX6_enter_122 ?_
    refine k_istore_n hx hb dX6_enter_125 rfl ?_
    refine k_aload_n hx hb dX6_enter_126 rfl ?_
    refine k_dup hx hb dX6_enter_127 ?_
    refine k_getf C (ci := 6) (k := 3) (Tf := TX6) (Nf := 20) (Cn := RX6) rfl zinX6 (by decide) rfl zfX6_57 dX6_enter_128 ?_
    refine k_iconst hx hb dX6_enter_131 (by decide) ?_
    refine k_iadd hx hb dX6_enter_132 ?_
    refine k_puti C (ci := 6) (k := 3) (Tf := TX6) (Nf := 20) (Cn := RX6) tyX6 tyX6_ok nmX6 rfl zinX6 (by decide) rfl rfl (by decide +kernel) zfX6_57 dX6_enter_133 ?_
    exact sX6_enter_136 C htab hr HX6_isDraft HX6_holds hK4 hK74
  · refine k_aload_n hx hb dX6_enter_82 rfl ?_
    refine k_getf C (ci := 6) (k := 4) (Tf := TX6) (Nf := 20) (Cn := RX6) rfl zinX6 (by decide) rfl zfX6_13 dX6_enter_83 ?_
    refine k_bipush hx hb dX6_enter_86 (by decide) ?_
    refine k_aload_n hx hb dX6_enter_88 rfl ?_
    refine k_getf C (ci := 6) (k := 3) (Tf := TX6) (Nf := 20) (Cn := RX6) rfl zinX6 (by decide) rfl zfX6_57 dX6_enter_89 ?_
    refine k_imul hx hb dX6_enter_92 ?_
    refine k_iload_n hx hb dX6_enter_93 rfl ?_
    refine k_iadd hx hb dX6_enter_94 ?_
    refine k_aload_n hx hb dX6_enter_95 rfl ?_
    refine k_getf C (ci := 6) (k := 1) (Tf := TX6) (Nf := 20) (Cn := RX6) rfl zinX6 (by decide) rfl zfX6_7 dX6_enter_96 ?_
    refine k_iload_n hx hb dX6_enter_99 rfl ?_
    refine k_cald C dX6_enter_100 ?_
    refine k_cast C dX6_enter_101 ?_
    refine k_iinc hx hb dX6_enter_102 (by decide) ?_
    refine k_goto (tgt := 74) hx hb dX6_enter_105 (by decide) ?_
    exact hK74
set_option maxRecDepth 20000 in
theorem sX6_enter_59 {l : Launch} {z0 b N M : Nat} {D : va_G} {cA : Nat → ClassId} {p : Program} {e : Env} {s : State} {m : MethodId} {args : Array Value} {below : List Frame} {meth : Method} {c : Code} {Kn : Option Value → ZH → Prop} {Kx : Nat → Prop} {h0 : ZH} {K4 K74 : ZK ZH} (C : zCx p l (zRm 2 M 43) s m args meth c cX6_enter 3 RX6 z0 D cA M) (htab : ∀ x ∈ c.exceptionTable.toList, False) (hr : meth.sig.returnType = (some .int)) (HX6_isDraft : Sem l z0 b N D cA yX6_isDraft cX6_isDraft 4 (some .boolean) 1 20 2 zno tX6_isDraft) (HX6_holds : Sem l z0 b N D cA yX6_holds cX6_holds 2 (some .boolean) 0 0 2 zno tX6_holds) (hK4 : Snd p l e (zRm 2 M 43) s m args below meth c 3 z0 b (zI z0 b N D cA s) (fun _ => (0, 0)) (vx_MQ below (zQn z0 b N D cA Kn) (zXn z0 b N D cA Kx h0) args s M (6 * M) (fun q => z0 ≤ q)) 4 K4) (hK74 : Snd p l e (zRm 2 M 43) s m args below meth c 3 z0 b (zI z0 b N D cA s) (fun _ => (0, 0)) (vx_MQ below (zQn z0 b N D cA Kn) (zXn z0 b N D cA Kx h0) args s M (6 * M) (fun q => z0 ≤ q)) 74 K74) : Snd p l e (zRm 2 M 43) s m args below meth c 3 z0 b (zI z0 b N D cA s) (fun _ => (0, 0)) (vx_MQ below (zQn z0 b N D cA Kn) (zXn z0 b N D cA Kx h0) args s M (6 * M) (fun q => z0 ≤ q)) 59 (bX6_enter_59 M Kn Kx h0 K4 K74) := by
  obtain ⟨hx, hb, hml, hown, hts, -⟩ := id C
  unfold bX6_enter_59
  refine k_callV1 C htab (ci := 6) (Tf := TX6) (Nf := 20) (Cn := RX6) rfl HX6_holds rfl zlX6_78 zmX6_holds zvX6_holds ziX6 zcX6_holds (by decide +kernel) ⟨Nat.le_of_ble_eq_true rfl, Nat.le_of_ble_eq_true rfl⟩ dX6_enter_59 ?_
  refine k_if_ne (tgt := 67) hx hb dX6_enter_62 (by decide) ?_ ?_
  · refine k_iload_n hx hb dX6_enter_67 rfl ?_
    refine k_iconst hx hb dX6_enter_68 (by decide) ?_
    refine k_icmp_ne (tgt := 136) hx hb dX6_enter_69 (by decide) ?_ ?_
    · exact sX6_enter_136 C htab hr HX6_isDraft HX6_holds hK4 hK74
    · refine k_iconst hx hb dX6_enter_72 (by decide) ?_
      refine k_istore_n hx hb dX6_enter_73 rfl ?_
      exact hK74
  · refine k_iconst hx hb dX6_enter_65 (by decide) ?_
    exact k_ret C hr dX6_enter_66
set_option maxRecDepth 20000 in
theorem sX6_enter_58 {l : Launch} {z0 b N M : Nat} {D : va_G} {cA : Nat → ClassId} {p : Program} {e : Env} {s : State} {m : MethodId} {args : Array Value} {below : List Frame} {meth : Method} {c : Code} {Kn : Option Value → ZH → Prop} {Kx : Nat → Prop} {h0 : ZH} {K4 K74 : ZK ZH} (C : zCx p l (zRm 2 M 43) s m args meth c cX6_enter 3 RX6 z0 D cA M) (htab : ∀ x ∈ c.exceptionTable.toList, False) (hr : meth.sig.returnType = (some .int)) (HX6_isDraft : Sem l z0 b N D cA yX6_isDraft cX6_isDraft 4 (some .boolean) 1 20 2 zno tX6_isDraft) (HX6_holds : Sem l z0 b N D cA yX6_holds cX6_holds 2 (some .boolean) 0 0 2 zno tX6_holds) (hK4 : Snd p l e (zRm 2 M 43) s m args below meth c 3 z0 b (zI z0 b N D cA s) (fun _ => (0, 0)) (vx_MQ below (zQn z0 b N D cA Kn) (zXn z0 b N D cA Kx h0) args s M (6 * M) (fun q => z0 ≤ q)) 4 K4) (hK74 : Snd p l e (zRm 2 M 43) s m args below meth c 3 z0 b (zI z0 b N D cA s) (fun _ => (0, 0)) (vx_MQ below (zQn z0 b N D cA Kn) (zXn z0 b N D cA Kx h0) args s M (6 * M) (fun q => z0 ≤ q)) 74 K74) : Snd p l e (zRm 2 M 43) s m args below meth c 3 z0 b (zI z0 b N D cA s) (fun _ => (0, 0)) (vx_MQ below (zQn z0 b N D cA Kn) (zXn z0 b N D cA Kx h0) args s M (6 * M) (fun q => z0 ≤ q)) 58 (bX6_enter_58 M Kn Kx h0 K4 K74) := by
  obtain ⟨hx, hb, hml, hown, hts, -⟩ := id C
  unfold bX6_enter_58
  refine k_iconst hx hb dX6_enter_58 (by decide) ?_
  exact sX6_enter_59 C htab hr HX6_isDraft HX6_holds hK4 hK74
set_option maxRecDepth 20000 in
theorem sX6_enter_54 {l : Launch} {z0 b N M : Nat} {D : va_G} {cA : Nat → ClassId} {p : Program} {e : Env} {s : State} {m : MethodId} {args : Array Value} {below : List Frame} {meth : Method} {c : Code} {Kn : Option Value → ZH → Prop} {Kx : Nat → Prop} {h0 : ZH} {K4 K74 : ZK ZH} (C : zCx p l (zRm 2 M 43) s m args meth c cX6_enter 3 RX6 z0 D cA M) (htab : ∀ x ∈ c.exceptionTable.toList, False) (hr : meth.sig.returnType = (some .int)) (HX6_isDraft : Sem l z0 b N D cA yX6_isDraft cX6_isDraft 4 (some .boolean) 1 20 2 zno tX6_isDraft) (HX6_holds : Sem l z0 b N D cA yX6_holds cX6_holds 2 (some .boolean) 0 0 2 zno tX6_holds) (hK4 : Snd p l e (zRm 2 M 43) s m args below meth c 3 z0 b (zI z0 b N D cA s) (fun _ => (0, 0)) (vx_MQ below (zQn z0 b N D cA Kn) (zXn z0 b N D cA Kx h0) args s M (6 * M) (fun q => z0 ≤ q)) 4 K4) (hK74 : Snd p l e (zRm 2 M 43) s m args below meth c 3 z0 b (zI z0 b N D cA s) (fun _ => (0, 0)) (vx_MQ below (zQn z0 b N D cA Kn) (zXn z0 b N D cA Kx h0) args s M (6 * M) (fun q => z0 ≤ q)) 74 K74) : Snd p l e (zRm 2 M 43) s m args below meth c 3 z0 b (zI z0 b N D cA s) (fun _ => (0, 0)) (vx_MQ below (zQn z0 b N D cA Kn) (zXn z0 b N D cA Kx h0) args s M (6 * M) (fun q => z0 ≤ q)) 54 (bX6_enter_54 M Kn Kx h0 K4 K74) := by
  obtain ⟨hx, hb, hml, hown, hts, -⟩ := id C
  unfold bX6_enter_54
  refine k_iconst hx hb dX6_enter_54 (by decide) ?_
  refine k_goto (tgt := 59) hx hb dX6_enter_55 (by decide) ?_
  exact sX6_enter_59 C htab hr HX6_isDraft HX6_holds hK4 hK74
set_option maxRecDepth 20000 in
theorem sX6_enter_25 {l : Launch} {z0 b N M : Nat} {D : va_G} {cA : Nat → ClassId} {p : Program} {e : Env} {s : State} {m : MethodId} {args : Array Value} {below : List Frame} {meth : Method} {c : Code} {Kn : Option Value → ZH → Prop} {Kx : Nat → Prop} {h0 : ZH} {K4 K74 : ZK ZH} (C : zCx p l (zRm 2 M 43) s m args meth c cX6_enter 3 RX6 z0 D cA M) (htab : ∀ x ∈ c.exceptionTable.toList, False) (hr : meth.sig.returnType = (some .int)) (HX6_isDraft : Sem l z0 b N D cA yX6_isDraft cX6_isDraft 4 (some .boolean) 1 20 2 zno tX6_isDraft) (HX6_holds : Sem l z0 b N D cA yX6_holds cX6_holds 2 (some .boolean) 0 0 2 zno tX6_holds) (hK4 : Snd p l e (zRm 2 M 43) s m args below meth c 3 z0 b (zI z0 b N D cA s) (fun _ => (0, 0)) (vx_MQ below (zQn z0 b N D cA Kn) (zXn z0 b N D cA Kx h0) args s M (6 * M) (fun q => z0 ≤ q)) 4 K4) (hK74 : Snd p l e (zRm 2 M 43) s m args below meth c 3 z0 b (zI z0 b N D cA s) (fun _ => (0, 0)) (vx_MQ below (zQn z0 b N D cA Kn) (zXn z0 b N D cA Kx h0) args s M (6 * M) (fun q => z0 ≤ q)) 74 K74) : Snd p l e (zRm 2 M 43) s m args below meth c 3 z0 b (zI z0 b N D cA s) (fun _ => (0, 0)) (vx_MQ below (zQn z0 b N D cA Kn) (zXn z0 b N D cA Kx h0) args s M (6 * M) (fun q => z0 ≤ q)) 25 (bX6_enter_25 M Kn Kx h0 K4 K74) := by
  obtain ⟨hx, hb, hml, hown, hts, -⟩ := id C
  unfold bX6_enter_25
  refine k_istore_n hx hb dX6_enter_25 rfl ?_
  refine k_iinc hx hb dX6_enter_26 (by decide) ?_
  refine k_goto (tgt := 4) hx hb dX6_enter_29 (by decide) ?_
  exact hK4
set_option maxRecDepth 20000 in
theorem sX6_enter_4 {l : Launch} {z0 b N M : Nat} {D : va_G} {cA : Nat → ClassId} {p : Program} {e : Env} {s : State} {m : MethodId} {args : Array Value} {below : List Frame} {meth : Method} {c : Code} {Kn : Option Value → ZH → Prop} {Kx : Nat → Prop} {h0 : ZH} {K4 K74 : ZK ZH} (C : zCx p l (zRm 2 M 43) s m args meth c cX6_enter 3 RX6 z0 D cA M) (htab : ∀ x ∈ c.exceptionTable.toList, False) (hr : meth.sig.returnType = (some .int)) (HX6_isDraft : Sem l z0 b N D cA yX6_isDraft cX6_isDraft 4 (some .boolean) 1 20 2 zno tX6_isDraft) (HX6_holds : Sem l z0 b N D cA yX6_holds cX6_holds 2 (some .boolean) 0 0 2 zno tX6_holds) (hK4 : Snd p l e (zRm 2 M 43) s m args below meth c 3 z0 b (zI z0 b N D cA s) (fun _ => (0, 0)) (vx_MQ below (zQn z0 b N D cA Kn) (zXn z0 b N D cA Kx h0) args s M (6 * M) (fun q => z0 ≤ q)) 4 K4) (hK74 : Snd p l e (zRm 2 M 43) s m args below meth c 3 z0 b (zI z0 b N D cA s) (fun _ => (0, 0)) (vx_MQ below (zQn z0 b N D cA Kn) (zXn z0 b N D cA Kx h0) args s M (6 * M) (fun q => z0 ≤ q)) 74 K74) : Snd p l e (zRm 2 M 43) s m args below meth c 3 z0 b (zI z0 b N D cA s) (fun _ => (0, 0)) (vx_MQ below (zQn z0 b N D cA Kn) (zXn z0 b N D cA Kx h0) args s M (6 * M) (fun q => z0 ≤ q)) 4 (bX6_enter_4 M Kn Kx h0 K4 K74) := by
  obtain ⟨hx, hb, hml, hown, hts, -⟩ := id C
  unfold bX6_enter_4
  refine k_iload_n hx hb dX6_enter_4 rfl ?_
  refine k_aload_n hx hb dX6_enter_5 rfl ?_
  refine k_getf C (ci := 6) (k := 3) (Tf := TX6) (Nf := 20) (Cn := RX6) rfl zinX6 (by decide) rfl zfX6_57 dX6_enter_6 ?_
  refine k_icmp_ge (tgt := 32) hx hb dX6_enter_9 (by decide) ?_ ?_
  · refine k_aload_n hx hb dX6_enter_32 rfl ?_
    refine k_aload_n hx hb dX6_enter_33 rfl ?_
    refine k_getf C (ci := 6) (k := 2) (Tf := TX6) (Nf := 20) (Cn := RX6) rfl zinX6 (by decide) rfl zfX6_75 dX6_enter_34 ?_
    refine k_if_eq (tgt := 54) hx hb dX6_enter_37 (by decide) ?_ ?_
    · exact sX6_enter_54 C htab hr HX6_isDraft HX6_holds hK4 hK74
    · refine k_iload_n hx hb dX6_enter_40 rfl ?_
      refine k_iconst hx hb dX6_enter_41 (by decide) ?_
      refine k_icmp_ne (tgt := 58) hx hb dX6_enter_42 (by decide) ?_ ?_
      · exact sX6_enter_58 C htab hr HX6_isDraft HX6_holds hK4 hK74
      · refine k_aload_n hx hb dX6_enter_45 rfl ?_
        refine k_getf C (ci := 6) (k := 3) (Tf := TX6) (Nf := 20) (Cn := RX6) rfl zinX6 (by decide) rfl zfX6_57 dX6_enter_46 ?_
        refine k_bipush hx hb dX6_enter_49 (by decide) ?_
        refine k_icmp_ne (tgt := 58) hx hb dX6_enter_51 (by decide) ?_ ?_
        · exact sX6_enter_58 C htab hr HX6_isDraft HX6_holds hK4 hK74
        · exact sX6_enter_54 C htab hr HX6_isDraft HX6_holds hK4 hK74
  · refine k_aload_n hx hb dX6_enter_12 rfl ?_
    refine k_iload_n hx hb dX6_enter_13 rfl ?_
    refine k_callV1 C htab (ci := 6) (Tf := TX6) (Nf := 20) (Cn := RX6) rfl HX6_isDraft rfl zlX6_82 zmX6_isDraft zvX6_isDraft ziX6 zcX6_isDraft (by decide +kernel) ⟨Nat.le_of_ble_eq_true rfl, Nat.le_of_ble_eq_true rfl⟩ dX6_enter_14 ?_
    refine k_if_eq (tgt := 24) hx hb dX6_enter_17 (by decide) ?_ ?_
    · refine k_iload_n hx hb dX6_enter_24 rfl ?_
      exact sX6_enter_25 C htab hr HX6_isDraft HX6_holds hK4 hK74
    · refine k_iload_n hx hb dX6_enter_20 rfl ?_
      refine k_goto (tgt := 25) hx hb dX6_enter_21 (by decide) ?_
      exact sX6_enter_25 C htab hr HX6_isDraft HX6_holds hK4 hK74
set_option maxRecDepth 20000 in
theorem sX6_enter_0 {l : Launch} {z0 b N M : Nat} {D : va_G} {cA : Nat → ClassId} {p : Program} {e : Env} {s : State} {m : MethodId} {args : Array Value} {below : List Frame} {meth : Method} {c : Code} {Kn : Option Value → ZH → Prop} {Kx : Nat → Prop} {h0 : ZH} {K4 K74 : ZK ZH} (C : zCx p l (zRm 2 M 43) s m args meth c cX6_enter 3 RX6 z0 D cA M) (htab : ∀ x ∈ c.exceptionTable.toList, False) (hr : meth.sig.returnType = (some .int)) (HX6_isDraft : Sem l z0 b N D cA yX6_isDraft cX6_isDraft 4 (some .boolean) 1 20 2 zno tX6_isDraft) (HX6_holds : Sem l z0 b N D cA yX6_holds cX6_holds 2 (some .boolean) 0 0 2 zno tX6_holds) (hK4 : Snd p l e (zRm 2 M 43) s m args below meth c 3 z0 b (zI z0 b N D cA s) (fun _ => (0, 0)) (vx_MQ below (zQn z0 b N D cA Kn) (zXn z0 b N D cA Kx h0) args s M (6 * M) (fun q => z0 ≤ q)) 4 K4) (hK74 : Snd p l e (zRm 2 M 43) s m args below meth c 3 z0 b (zI z0 b N D cA s) (fun _ => (0, 0)) (vx_MQ below (zQn z0 b N D cA Kn) (zXn z0 b N D cA Kx h0) args s M (6 * M) (fun q => z0 ≤ q)) 74 K74) : Snd p l e (zRm 2 M 43) s m args below meth c 3 z0 b (zI z0 b N D cA s) (fun _ => (0, 0)) (vx_MQ below (zQn z0 b N D cA Kn) (zXn z0 b N D cA Kx h0) args s M (6 * M) (fun q => z0 ≤ q)) 0 (bX6_enter_0 M Kn Kx h0 K4 K74) := by
  obtain ⟨hx, hb, hml, hown, hts, -⟩ := id C
  unfold bX6_enter_0
  refine k_iconst hx hb dX6_enter_0 (by decide) ?_
  refine k_istore_n hx hb dX6_enter_1 rfl ?_
  refine k_iconst hx hb dX6_enter_2 (by decide) ?_
  refine k_istore_n hx hb dX6_enter_3 rfl ?_
  exact hK4
set_option maxRecDepth 20000 in
theorem uX6_enter {l : Launch} {z0 b N : Nat} {D : va_G} {cA : Nat → ClassId} (hlt : l.stackTraces = false) (HX6_isDraft : Sem l z0 b N D cA yX6_isDraft cX6_isDraft 4 (some .boolean) 1 20 2 zno tX6_isDraft) (HX6_holds : Sem l z0 b N D cA yX6_holds cX6_holds 2 (some .boolean) 0 0 2 zno tX6_holds) (spec : ∀ (M : Nat) (a : List Value) (h : ZH) (Kn : Option Value → ZH → Prop) (Kx : Nat → Prop), zok 1 a = true → tX6_enter a h Kn → ∀ (A : Nat → ZK ZH), (∀ ls st h', bX6_enter_4 M Kn Kx h (A 4) (A 74) ls st h' → A 4 ls st h') → (∀ ls st h', bX6_enter_74 M Kn Kx h (A 4) (A 74) ls st h' → A 74 ls st h') → bX6_enter_0 M Kn Kx h (A 4) (A 74) (zE 3 a) [] h) : Sem l z0 b N D cA yX6_enter cX6_enter 3 (some .int) 2 43 1 zno tX6_enter :=
  sem_of hlt (by decide +kernel) (by decide) (fun p e s m args below meth c M a h Kn Kx hok hX hN C hr htab => sX6_enter_0 C htab hr HX6_isDraft HX6_holds (fun _ _ _ q => q) (fun _ _ _ q => q) _ _ _ (spec M a h Kn Kx hok (hN (fun _ h9 => h9)) (fun pc => AW p l e (zRm 2 M 43) s m args below meth c 3 z0 b (zI z0 b N D cA s) (fun _ => (0, 0)) (vx_MQ below (zQn z0 b N D cA Kn) (zXn z0 b N D cA Kx h) args s M (6 * M) (fun q => z0 ≤ q)) pc) (fun ls st h' hq => sX6_enter_4 C htab hr HX6_isDraft HX6_holds (fun _ _ _ q => q) (fun _ _ _ q => q) ls st h' hq) (fun ls st h' hq => sX6_enter_74 C htab hr HX6_isDraft HX6_holds (fun _ _ _ q => q) (fun _ _ _ q => q) ls st h' hq)))
set_option maxRecDepth 20000 in
theorem sX6_tags_0 {l : Launch} {z0 b N M : Nat} {D : va_G} {cA : Nat → ClassId} {p : Program} {e : Env} {s : State} {m : MethodId} {args : Array Value} {below : List Frame} {meth : Method} {c : Code} {Kn : Option Value → ZH → Prop} {Kx : Nat → Prop} {h0 : ZH} (C : zCx p l (zRm 0 M 0) s m args meth c cX6_tags 1 RX6 z0 D cA M) (htab : ∀ x ∈ c.exceptionTable.toList, False) (hr : meth.sig.returnType = (some .int)) : Snd p l e (zRm 0 M 0) s m args below meth c 1 z0 b (zI z0 b N D cA s) (fun _ => (0, 0)) (vx_MQ below (zQn z0 b N D cA Kn) (zXn z0 b N D cA Kx h0) args s M (6 * M) (fun q => z0 ≤ q)) 0 (bX6_tags_0 M Kn Kx h0) := by
  obtain ⟨hx, hb, hml, hown, hts, -⟩ := id C
  unfold bX6_tags_0
  refine k_aload_n hx hb dX6_tags_0 rfl ?_
  refine k_iconst hx hb dX6_tags_1 (by decide) ?_
  refine k_puti C (ci := 6) (k := 0) (Tf := TX6) (Nf := 20) (Cn := RX6) tyX6 tyX6_ok nmX6 rfl zinX6 (by decide) rfl rfl (by decide +kernel) zfX6_53 dX6_tags_2 ?_
  refine k_aload_n hx hb dX6_tags_5 rfl ?_
  refine k_getf C (ci := 6) (k := 3) (Tf := TX6) (Nf := 20) (Cn := RX6) rfl zinX6 (by decide) rfl zfX6_57 dX6_tags_6 ?_
  exact k_ret C hr dX6_tags_9
set_option maxRecDepth 20000 in
theorem uX6_tags {l : Launch} {z0 b N : Nat} {D : va_G} {cA : Nat → ClassId} (hlt : l.stackTraces = false) (spec : ∀ (M : Nat) (a : List Value) (h : ZH) (Kn : Option Value → ZH → Prop) (Kx : Nat → Prop), zok 1 a = true → tX6_tags a h Kn → bX6_tags_0 M Kn Kx h (zE 1 a) [] h) : Sem l z0 b N D cA yX6_tags cX6_tags 1 (some .int) 0 0 1 zno tX6_tags :=
  sem_of hlt (by decide +kernel) (by decide) (fun p e s m args below meth c M a h Kn Kx hok hX hN C hr htab => sX6_tags_0 C htab hr _ _ _ (spec M a h Kn Kx hok (hN (fun _ h9 => h9))))
set_option maxRecDepth 20000 in
theorem sX6_letter_52 {l : Launch} {z0 b N M : Nat} {D : va_G} {cA : Nat → ClassId} {p : Program} {e : Env} {s : State} {m : MethodId} {args : Array Value} {below : List Frame} {meth : Method} {c : Code} {Kn : Option Value → ZH → Prop} {Kx : Nat → Prop} {h0 : ZH} (C : zCx p l (zRm 2 M 43) s m args meth c cX6_letter 3 RX6 z0 D cA M) (htab : ∀ x ∈ c.exceptionTable.toList, False) (hr : meth.sig.returnType = (some .char)) (HX6_isTag : Sem l z0 b N D cA yX6_isTag cX6_isTag 2 (some .boolean) 1 22 2 zno tX6_isTag) (HX6_in : Sem l z0 b N D cA yX6_in cX6_in 3 (some .boolean) 0 0 3 zno tX6_in) (HX6_holds : Sem l z0 b N D cA yX6_holds cX6_holds 2 (some .boolean) 0 0 2 zno tX6_holds) : Snd p l e (zRm 2 M 43) s m args below meth c 3 z0 b (zI z0 b N D cA s) (fun _ => (0, 0)) (vx_MQ below (zQn z0 b N D cA Kn) (zXn z0 b N D cA Kx h0) args s M (6 * M) (fun q => z0 ≤ q)) 52 (bX6_letter_52 M Kn Kx h0) := by
  obtain ⟨hx, hb, hml, hown, hts, -⟩ := id C
  unfold bX6_letter_52
  exact k_ret C hr dX6_letter_52
set_option maxRecDepth 20000 in
theorem sX6_letter_30 {l : Launch} {z0 b N M : Nat} {D : va_G} {cA : Nat → ClassId} {p : Program} {e : Env} {s : State} {m : MethodId} {args : Array Value} {below : List Frame} {meth : Method} {c : Code} {Kn : Option Value → ZH → Prop} {Kx : Nat → Prop} {h0 : ZH} (C : zCx p l (zRm 2 M 43) s m args meth c cX6_letter 3 RX6 z0 D cA M) (htab : ∀ x ∈ c.exceptionTable.toList, False) (hr : meth.sig.returnType = (some .char)) (HX6_isTag : Sem l z0 b N D cA yX6_isTag cX6_isTag 2 (some .boolean) 1 22 2 zno tX6_isTag) (HX6_in : Sem l z0 b N D cA yX6_in cX6_in 3 (some .boolean) 0 0 3 zno tX6_in) (HX6_holds : Sem l z0 b N D cA yX6_holds cX6_holds 2 (some .boolean) 0 0 2 zno tX6_holds) : Snd p l e (zRm 2 M 43) s m args below meth c 3 z0 b (zI z0 b N D cA s) (fun _ => (0, 0)) (vx_MQ below (zQn z0 b N D cA Kn) (zXn z0 b N D cA Kx h0) args s M (6 * M) (fun q => z0 ≤ q)) 30 (bX6_letter_30 M Kn Kx h0) := by
  obtain ⟨hx, hb, hml, hown, hts, -⟩ := id C
  unfold bX6_letter_30
  refine k_callV1 C htab (ci := 6) (Tf := TX6) (Nf := 20) (Cn := RX6) rfl HX6_holds rfl zlX6_78 zmX6_holds zvX6_holds ziX6 zcX6_holds (by decide +kernel) ⟨Nat.le_of_ble_eq_true rfl, Nat.le_of_ble_eq_true rfl⟩ dX6_letter_30 ?_
  refine k_if_eq (tgt := 50) hx hb dX6_letter_33 (by decide) ?_ ?_
  · refine k_bipush hx hb dX6_letter_50 (by decide) ?_
    exact sX6_letter_52 C htab hr HX6_isTag HX6_in HX6_holds
  · refine k_aload_n hx hb dX6_letter_36 rfl ?_
    refine k_getf C (ci := 6) (k := 4) (Tf := TX6) (Nf := 20) (Cn := RX6) rfl zinX6 (by decide) rfl zfX6_13 dX6_letter_37 ?_
    refine k_bipush hx hb dX6_letter_40 (by decide) ?_
    refine k_iload_n hx hb dX6_letter_42 rfl ?_
    refine k_imul hx hb dX6_letter_43 ?_
    refine k_iload_n hx hb dX6_letter_44 rfl ?_
    refine k_iadd hx hb dX6_letter_45 ?_
    refine k_cald C dX6_letter_46 ?_
    refine k_goto (tgt := 52) hx hb dX6_letter_47 (by decide) ?_
    exact sX6_letter_52 C htab hr HX6_isTag HX6_in HX6_holds
set_option maxRecDepth 20000 in
theorem sX6_letter_29 {l : Launch} {z0 b N M : Nat} {D : va_G} {cA : Nat → ClassId} {p : Program} {e : Env} {s : State} {m : MethodId} {args : Array Value} {below : List Frame} {meth : Method} {c : Code} {Kn : Option Value → ZH → Prop} {Kx : Nat → Prop} {h0 : ZH} (C : zCx p l (zRm 2 M 43) s m args meth c cX6_letter 3 RX6 z0 D cA M) (htab : ∀ x ∈ c.exceptionTable.toList, False) (hr : meth.sig.returnType = (some .char)) (HX6_isTag : Sem l z0 b N D cA yX6_isTag cX6_isTag 2 (some .boolean) 1 22 2 zno tX6_isTag) (HX6_in : Sem l z0 b N D cA yX6_in cX6_in 3 (some .boolean) 0 0 3 zno tX6_in) (HX6_holds : Sem l z0 b N D cA yX6_holds cX6_holds 2 (some .boolean) 0 0 2 zno tX6_holds) : Snd p l e (zRm 2 M 43) s m args below meth c 3 z0 b (zI z0 b N D cA s) (fun _ => (0, 0)) (vx_MQ below (zQn z0 b N D cA Kn) (zXn z0 b N D cA Kx h0) args s M (6 * M) (fun q => z0 ≤ q)) 29 (bX6_letter_29 M Kn Kx h0) := by
  obtain ⟨hx, hb, hml, hown, hts, -⟩ := id C
  unfold bX6_letter_29
  refine k_iconst hx hb dX6_letter_29 (by decide) ?_
  exact sX6_letter_30 C htab hr HX6_isTag HX6_in HX6_holds
set_option maxRecDepth 20000 in
theorem sX6_letter_0 {l : Launch} {z0 b N M : Nat} {D : va_G} {cA : Nat → ClassId} {p : Program} {e : Env} {s : State} {m : MethodId} {args : Array Value} {below : List Frame} {meth : Method} {c : Code} {Kn : Option Value → ZH → Prop} {Kx : Nat → Prop} {h0 : ZH} (C : zCx p l (zRm 2 M 43) s m args meth c cX6_letter 3 RX6 z0 D cA M) (htab : ∀ x ∈ c.exceptionTable.toList, False) (hr : meth.sig.returnType = (some .char)) (HX6_isTag : Sem l z0 b N D cA yX6_isTag cX6_isTag 2 (some .boolean) 1 22 2 zno tX6_isTag) (HX6_in : Sem l z0 b N D cA yX6_in cX6_in 3 (some .boolean) 0 0 3 zno tX6_in) (HX6_holds : Sem l z0 b N D cA yX6_holds cX6_holds 2 (some .boolean) 0 0 2 zno tX6_holds) : Snd p l e (zRm 2 M 43) s m args below meth c 3 z0 b (zI z0 b N D cA s) (fun _ => (0, 0)) (vx_MQ below (zQn z0 b N D cA Kn) (zXn z0 b N D cA Kx h0) args s M (6 * M) (fun q => z0 ≤ q)) 0 (bX6_letter_0 M Kn Kx h0) := by
  obtain ⟨hx, hb, hml, hown, hts, -⟩ := id C
  unfold bX6_letter_0
  refine k_aload_n hx hb dX6_letter_0 rfl ?_
  refine k_aload_n hx hb dX6_letter_1 rfl ?_
  refine k_iload_n hx hb dX6_letter_2 rfl ?_
  refine k_callV1 C htab (ci := 6) (Tf := TX6) (Nf := 20) (Cn := RX6) rfl HX6_isTag rfl zlX6_85 zmX6_isTag zvX6_isTag ziX6 zcX6_isTag (by decide +kernel) ⟨Nat.le_of_ble_eq_true rfl, Nat.le_of_ble_eq_true rfl⟩ dX6_letter_3 ?_
  refine k_if_eq (tgt := 29) hx hb dX6_letter_6 (by decide) ?_ ?_
  · exact sX6_letter_29 C htab hr HX6_isTag HX6_in HX6_holds
  · refine k_iload_n hx hb dX6_letter_9 rfl ?_
    refine k_iconst hx hb dX6_letter_10 (by decide) ?_
    refine k_aload_n hx hb dX6_letter_11 rfl ?_
    refine k_getf C (ci := 6) (k := 5) (Tf := TX6) (Nf := 20) (Cn := RX6) rfl zinX6 (by decide) rfl zfX6_16 dX6_letter_12 ?_
    refine k_iload_n hx hb dX6_letter_15 rfl ?_
    refine k_iald C dX6_letter_16 ?_
    refine k_iconst hx hb dX6_letter_17 (by decide) ?_
    refine k_isub hx hb dX6_letter_18 ?_
    refine k_callS3 C htab HX6_in zlX6_60 zsX6_in ziX6 zcX6_in (by decide +kernel) ⟨Nat.le_of_ble_eq_true rfl, Nat.le_of_ble_eq_true rfl⟩ dX6_letter_19 ?_
    refine k_if_eq (tgt := 29) hx hb dX6_letter_22 (by decide) ?_ ?_
    · exact sX6_letter_29 C htab hr HX6_isTag HX6_in HX6_holds
    · refine k_iconst hx hb dX6_letter_25 (by decide) ?_
      refine k_goto (tgt := 30) hx hb dX6_letter_26 (by decide) ?_
      exact sX6_letter_30 C htab hr HX6_isTag HX6_in HX6_holds
set_option maxRecDepth 20000 in
theorem uX6_letter {l : Launch} {z0 b N : Nat} {D : va_G} {cA : Nat → ClassId} (hlt : l.stackTraces = false) (HX6_isTag : Sem l z0 b N D cA yX6_isTag cX6_isTag 2 (some .boolean) 1 22 2 zno tX6_isTag) (HX6_in : Sem l z0 b N D cA yX6_in cX6_in 3 (some .boolean) 0 0 3 zno tX6_in) (HX6_holds : Sem l z0 b N D cA yX6_holds cX6_holds 2 (some .boolean) 0 0 2 zno tX6_holds) (spec : ∀ (M : Nat) (a : List Value) (h : ZH) (Kn : Option Value → ZH → Prop) (Kx : Nat → Prop), zok 3 a = true → tX6_letter a h Kn → bX6_letter_0 M Kn Kx h (zE 3 a) [] h) : Sem l z0 b N D cA yX6_letter cX6_letter 3 (some .char) 2 43 3 zno tX6_letter :=
  sem_of hlt (by decide +kernel) (by decide) (fun p e s m args below meth c M a h Kn Kx hok hX hN C hr htab => sX6_letter_0 C htab hr HX6_isTag HX6_in HX6_holds _ _ _ (spec M a h Kn Kx hok (hN (fun _ h9 => h9))))
set_option maxRecDepth 20000 in
theorem sX6_addThing_15 {l : Launch} {z0 b N M : Nat} {D : va_G} {cA : Nat → ClassId} {p : Program} {e : Env} {s : State} {m : MethodId} {args : Array Value} {below : List Frame} {meth : Method} {c : Code} {Kn : Option Value → ZH → Prop} {Kx : Nat → Prop} {h0 : ZH} (C : zCx p l (zRm 1 M 21) s m args meth c cX6_addThing 1 RX6 z0 D cA M) (htab : ∀ x ∈ c.exceptionTable.toList, False) (hr : meth.sig.returnType = (some .int)) (HX6_holds : Sem l z0 b N D cA yX6_holds cX6_holds 2 (some .boolean) 0 0 2 zno tX6_holds) : Snd p l e (zRm 1 M 21) s m args below meth c 1 z0 b (zI z0 b N D cA s) (fun _ => (0, 0)) (vx_MQ below (zQn z0 b N D cA Kn) (zXn z0 b N D cA Kx h0) args s M (6 * M) (fun q => z0 ≤ q)) 15 (bX6_addThing_15 M Kn Kx h0) := by
  obtain ⟨hx, hb, hml, hown, hts, -⟩ := id C
  unfold bX6_addThing_15
  refine k_callV1 C htab (ci := 6) (Tf := TX6) (Nf := 20) (Cn := RX6) rfl HX6_holds rfl zlX6_78 zmX6_holds zvX6_holds ziX6 zcX6_holds (by decide +kernel) ⟨Nat.le_of_ble_eq_true rfl, Nat.le_of_ble_eq_true rfl⟩ dX6_addThing_15 ?_
  refine k_if_ne (tgt := 23) hx hb dX6_addThing_18 (by decide) ?_ ?_
  · refine k_aload_n hx hb dX6_addThing_23 rfl ?_
    refine k_dup hx hb dX6_addThing_24 ?_
    refine k_getf C (ci := 6) (k := 8) (Tf := TX6) (Nf := 20) (Cn := RX6) rfl zinX6 (by decide) rfl zfX6_64 dX6_addThing_25 ?_
    refine k_iconst hx hb dX6_addThing_28 (by decide) ?_
    refine k_iadd hx hb dX6_addThing_29 ?_
    refine k_puti C (ci := 6) (k := 8) (Tf := TX6) (Nf := 20) (Cn := RX6) tyX6 tyX6_ok nmX6 rfl zinX6 (by decide) rfl rfl (by decide +kernel) zfX6_64 dX6_addThing_30 ?_
    refine k_aload_n hx hb dX6_addThing_33 rfl ?_
    refine k_getf C (ci := 6) (k := 8) (Tf := TX6) (Nf := 20) (Cn := RX6) rfl zinX6 (by decide) rfl zfX6_64 dX6_addThing_34 ?_
    refine k_iconst hx hb dX6_addThing_37 (by decide) ?_
    refine k_isub hx hb dX6_addThing_38 ?_
    exact k_ret C hr dX6_addThing_39
  · refine k_iconst hx hb dX6_addThing_21 (by decide) ?_
    exact k_ret C hr dX6_addThing_22
set_option maxRecDepth 20000 in
theorem sX6_addThing_0 {l : Launch} {z0 b N M : Nat} {D : va_G} {cA : Nat → ClassId} {p : Program} {e : Env} {s : State} {m : MethodId} {args : Array Value} {below : List Frame} {meth : Method} {c : Code} {Kn : Option Value → ZH → Prop} {Kx : Nat → Prop} {h0 : ZH} (C : zCx p l (zRm 1 M 21) s m args meth c cX6_addThing 1 RX6 z0 D cA M) (htab : ∀ x ∈ c.exceptionTable.toList, False) (hr : meth.sig.returnType = (some .int)) (HX6_holds : Sem l z0 b N D cA yX6_holds cX6_holds 2 (some .boolean) 0 0 2 zno tX6_holds) : Snd p l e (zRm 1 M 21) s m args below meth c 1 z0 b (zI z0 b N D cA s) (fun _ => (0, 0)) (vx_MQ below (zQn z0 b N D cA Kn) (zXn z0 b N D cA Kx h0) args s M (6 * M) (fun q => z0 ≤ q)) 0 (bX6_addThing_0 M Kn Kx h0) := by
  obtain ⟨hx, hb, hml, hown, hts, -⟩ := id C
  unfold bX6_addThing_0
  refine k_aload_n hx hb dX6_addThing_0 rfl ?_
  refine k_aload_n hx hb dX6_addThing_1 rfl ?_
  refine k_getf C (ci := 6) (k := 8) (Tf := TX6) (Nf := 20) (Cn := RX6) rfl zinX6 (by decide) rfl zfX6_64 dX6_addThing_2 ?_
  refine k_bipush hx hb dX6_addThing_5 (by decide) ?_
  refine k_icmp_ne (tgt := 14) hx hb dX6_addThing_7 (by decide) ?_ ?_
  · refine k_iconst hx hb dX6_addThing_14 (by decide) ?_
    exact sX6_addThing_15 C htab hr HX6_holds
  · refine k_iconst hx hb dX6_addThing_10 (by decide) ?_
    refine k_goto (tgt := 15) hx hb dX6_addThing_11 (by decide) ?_
    exact sX6_addThing_15 C htab hr HX6_holds
set_option maxRecDepth 20000 in
theorem uX6_addThing {l : Launch} {z0 b N : Nat} {D : va_G} {cA : Nat → ClassId} (hlt : l.stackTraces = false) (HX6_holds : Sem l z0 b N D cA yX6_holds cX6_holds 2 (some .boolean) 0 0 2 zno tX6_holds) (spec : ∀ (M : Nat) (a : List Value) (h : ZH) (Kn : Option Value → ZH → Prop) (Kx : Nat → Prop), zok 1 a = true → tX6_addThing a h Kn → bX6_addThing_0 M Kn Kx h (zE 1 a) [] h) : Sem l z0 b N D cA yX6_addThing cX6_addThing 1 (some .int) 1 21 1 zno tX6_addThing :=
  sem_of hlt (by decide +kernel) (by decide) (fun p e s m args below meth c M a h Kn Kx hok hX hN C hr htab => sX6_addThing_0 C htab hr HX6_holds _ _ _ (spec M a h Kn Kx hok (hN (fun _ h9 => h9))))
set_option maxRecDepth 20000 in
theorem sX6_things_0 {l : Launch} {z0 b N M : Nat} {D : va_G} {cA : Nat → ClassId} {p : Program} {e : Env} {s : State} {m : MethodId} {args : Array Value} {below : List Frame} {meth : Method} {c : Code} {Kn : Option Value → ZH → Prop} {Kx : Nat → Prop} {h0 : ZH} (C : zCx p l (zRm 0 M 0) s m args meth c cX6_things 1 RX6 z0 D cA M) (htab : ∀ x ∈ c.exceptionTable.toList, False) (hr : meth.sig.returnType = (some .int)) : Snd p l e (zRm 0 M 0) s m args below meth c 1 z0 b (zI z0 b N D cA s) (fun _ => (0, 0)) (vx_MQ below (zQn z0 b N D cA Kn) (zXn z0 b N D cA Kx h0) args s M (6 * M) (fun q => z0 ≤ q)) 0 (bX6_things_0 M Kn Kx h0) := by
  obtain ⟨hx, hb, hml, hown, hts, -⟩ := id C
  unfold bX6_things_0
  refine k_aload_n hx hb dX6_things_0 rfl ?_
  refine k_iconst hx hb dX6_things_1 (by decide) ?_
  refine k_puti C (ci := 6) (k := 0) (Tf := TX6) (Nf := 20) (Cn := RX6) tyX6 tyX6_ok nmX6 rfl zinX6 (by decide) rfl rfl (by decide +kernel) zfX6_53 dX6_things_2 ?_
  refine k_aload_n hx hb dX6_things_5 rfl ?_
  refine k_getf C (ci := 6) (k := 8) (Tf := TX6) (Nf := 20) (Cn := RX6) rfl zinX6 (by decide) rfl zfX6_64 dX6_things_6 ?_
  exact k_ret C hr dX6_things_9
set_option maxRecDepth 20000 in
theorem uX6_things {l : Launch} {z0 b N : Nat} {D : va_G} {cA : Nat → ClassId} (hlt : l.stackTraces = false) (spec : ∀ (M : Nat) (a : List Value) (h : ZH) (Kn : Option Value → ZH → Prop) (Kx : Nat → Prop), zok 1 a = true → tX6_things a h Kn → bX6_things_0 M Kn Kx h (zE 1 a) [] h) : Sem l z0 b N D cA yX6_things cX6_things 1 (some .int) 0 0 1 zno tX6_things :=
  sem_of hlt (by decide +kernel) (by decide) (fun p e s m args below meth c M a h Kn Kx hok hX hN C hr htab => sX6_things_0 C htab hr _ _ _ (spec M a h Kn Kx hok (hN (fun _ h9 => h9))))
set_option maxRecDepth 20000 in
theorem sX6_begins_83 {l : Launch} {z0 b N M : Nat} {D : va_G} {cA : Nat → ClassId} {p : Program} {e : Env} {s : State} {m : MethodId} {args : Array Value} {below : List Frame} {meth : Method} {c : Code} {Kn : Option Value → ZH → Prop} {Kx : Nat → Prop} {h0 : ZH} {K21 K51 : ZK ZH} (C : zCx p l (zRm 0 M 0) s m args meth c cX6_begins 2 RX6 z0 D cA M) (htab : ∀ x ∈ c.exceptionTable.toList, False) (hr : meth.sig.returnType = none) (hK21 : Snd p l e (zRm 0 M 0) s m args below meth c 2 z0 b (zI z0 b N D cA s) (fun _ => (0, 0)) (vx_MQ below (zQn z0 b N D cA Kn) (zXn z0 b N D cA Kx h0) args s M (6 * M) (fun q => z0 ≤ q)) 21 K21) (hK51 : Snd p l e (zRm 0 M 0) s m args below meth c 2 z0 b (zI z0 b N D cA s) (fun _ => (0, 0)) (vx_MQ below (zQn z0 b N D cA Kn) (zXn z0 b N D cA Kx h0) args s M (6 * M) (fun q => z0 ≤ q)) 51 K51) : Snd p l e (zRm 0 M 0) s m args below meth c 2 z0 b (zI z0 b N D cA s) (fun _ => (0, 0)) (vx_MQ below (zQn z0 b N D cA Kn) (zXn z0 b N D cA Kx h0) args s M (6 * M) (fun q => z0 ≤ q)) 83 (bX6_begins_83 M Kn Kx h0 K21 K51) := by
  obtain ⟨hx, hb, hml, hown, hts, -⟩ := id C
  unfold bX6_begins_83
  refine k_aload_n hx hb dX6_begins_83 rfl ?_
  refine k_getf C (ci := 6) (k := 18) (Tf := TX6) (Nf := 20) (Cn := RX6) rfl zinX6 (by decide) rfl zfX6_47 dX6_begins_84 ?_
  refine k_aload_n hx hb dX6_begins_87 rfl ?_
  refine k_getf C (ci := 6) (k := 17) (Tf := TX6) (Nf := 20) (Cn := RX6) rfl zinX6 (by decide) rfl zfX6_88 dX6_begins_88 ?_
  refine k_iconst hx hb dX6_begins_91 (by decide) ?_
  refine k_iast C dX6_begins_92 ?_
  refine k_aload_n hx hb dX6_begins_93 rfl ?_
  refine k_dup hx hb dX6_begins_94 ?_
  refine k_getf C (ci := 6) (k := 17) (Tf := TX6) (Nf := 20) (Cn := RX6) rfl zinX6 (by decide) rfl zfX6_88 dX6_begins_95 ?_
  refine k_iconst hx hb dX6_begins_98 (by decide) ?_
  refine k_iadd hx hb dX6_begins_99 ?_
  refine k_puti C (ci := 6) (k := 17) (Tf := TX6) (Nf := 20) (Cn := RX6) tyX6 tyX6_ok nmX6 rfl zinX6 (by decide) rfl rfl (by decide +kernel) zfX6_88 dX6_begins_100 ?_
  exact k_vret C hr dX6_begins_103
set_option maxRecDepth 20000 in
theorem sX6_begins_51 {l : Launch} {z0 b N M : Nat} {D : va_G} {cA : Nat → ClassId} {p : Program} {e : Env} {s : State} {m : MethodId} {args : Array Value} {below : List Frame} {meth : Method} {c : Code} {Kn : Option Value → ZH → Prop} {Kx : Nat → Prop} {h0 : ZH} {K21 K51 : ZK ZH} (C : zCx p l (zRm 0 M 0) s m args meth c cX6_begins 2 RX6 z0 D cA M) (htab : ∀ x ∈ c.exceptionTable.toList, False) (hr : meth.sig.returnType = none) (hK21 : Snd p l e (zRm 0 M 0) s m args below meth c 2 z0 b (zI z0 b N D cA s) (fun _ => (0, 0)) (vx_MQ below (zQn z0 b N D cA Kn) (zXn z0 b N D cA Kx h0) args s M (6 * M) (fun q => z0 ≤ q)) 21 K21) (hK51 : Snd p l e (zRm 0 M 0) s m args below meth c 2 z0 b (zI z0 b N D cA s) (fun _ => (0, 0)) (vx_MQ below (zQn z0 b N D cA Kn) (zXn z0 b N D cA Kx h0) args s M (6 * M) (fun q => z0 ≤ q)) 51 K51) : Snd p l e (zRm 0 M 0) s m args below meth c 2 z0 b (zI z0 b N D cA s) (fun _ => (0, 0)) (vx_MQ below (zQn z0 b N D cA Kn) (zXn z0 b N D cA Kx h0) args s M (6 * M) (fun q => z0 ≤ q)) 51 (bX6_begins_51 M Kn Kx h0 K21 K51) := by
  obtain ⟨hx, hb, hml, hown, hts, -⟩ := id C
  unfold bX6_begins_51
  refine k_iload_n hx hb dX6_begins_51 rfl ?_
  refine k_bipush hx hb dX6_begins_52 (by decide) ?_
  refine k_aload_n hx hb dX6_begins_54 rfl ?_
  refine k_getf C (ci := 6) (k := 17) (Tf := TX6) (Nf := 20) (Cn := RX6) rfl zinX6 (by decide) rfl zfX6_88 dX6_begins_55 ?_
  refine k_imul hx hb dX6_begins_58 ?_
  refine k_icmp_ge (tgt := 83) hx hb dX6_begins_59 (by decide) ?_ ?_
  · exact sX6_begins_83 C htab hr hK21 hK51
  · refine k_aload_n hx hb dX6_begins_62 rfl ?_
    refine k_getf C (ci := 6) (k := 19) (Tf := TX6) (Nf := 20) (Cn := RX6) rfl zinX6 (by decide) rfl zfX6_50 dX6_begins_63 ?_
    refine k_iload_n hx hb dX6_begins_66 rfl ?_
    refine k_aload_n hx hb dX6_begins_67 rfl ?_
    refine k_getf C (ci := 6) (k := 19) (Tf := TX6) (Nf := 20) (Cn := RX6) rfl zinX6 (by decide) rfl zfX6_50 dX6_begins_68 ?_
    refine k_iload_n hx hb dX6_begins_71 rfl ?_
    refine k_bipush hx hb dX6_begins_72 (by decide) ?_
    refine k_iadd hx hb dX6_begins_74 ?_
    refine k_iald C dX6_begins_75 ?_
    refine k_iast C dX6_begins_76 ?_
    refine k_iinc hx hb dX6_begins_77 (by decide) ?_
    refine k_goto (tgt := 51) hx hb dX6_begins_80 (by decide) ?_
    exact hK51
set_option maxRecDepth 20000 in
theorem sX6_begins_21 {l : Launch} {z0 b N M : Nat} {D : va_G} {cA : Nat → ClassId} {p : Program} {e : Env} {s : State} {m : MethodId} {args : Array Value} {below : List Frame} {meth : Method} {c : Code} {Kn : Option Value → ZH → Prop} {Kx : Nat → Prop} {h0 : ZH} {K21 K51 : ZK ZH} (C : zCx p l (zRm 0 M 0) s m args meth c cX6_begins 2 RX6 z0 D cA M) (htab : ∀ x ∈ c.exceptionTable.toList, False) (hr : meth.sig.returnType = none) (hK21 : Snd p l e (zRm 0 M 0) s m args below meth c 2 z0 b (zI z0 b N D cA s) (fun _ => (0, 0)) (vx_MQ below (zQn z0 b N D cA Kn) (zXn z0 b N D cA Kx h0) args s M (6 * M) (fun q => z0 ≤ q)) 21 K21) (hK51 : Snd p l e (zRm 0 M 0) s m args below meth c 2 z0 b (zI z0 b N D cA s) (fun _ => (0, 0)) (vx_MQ below (zQn z0 b N D cA Kn) (zXn z0 b N D cA Kx h0) args s M (6 * M) (fun q => z0 ≤ q)) 51 K51) : Snd p l e (zRm 0 M 0) s m args below meth c 2 z0 b (zI z0 b N D cA s) (fun _ => (0, 0)) (vx_MQ below (zQn z0 b N D cA Kn) (zXn z0 b N D cA Kx h0) args s M (6 * M) (fun q => z0 ≤ q)) 21 (bX6_begins_21 M Kn Kx h0 K21 K51) := by
  obtain ⟨hx, hb, hml, hown, hts, -⟩ := id C
  unfold bX6_begins_21
  refine k_iload_n hx hb dX6_begins_21 rfl ?_
  refine k_aload_n hx hb dX6_begins_22 rfl ?_
  refine k_getf C (ci := 6) (k := 17) (Tf := TX6) (Nf := 20) (Cn := RX6) rfl zinX6 (by decide) rfl zfX6_88 dX6_begins_23 ?_
  refine k_icmp_ge (tgt := 49) hx hb dX6_begins_26 (by decide) ?_ ?_
  · refine k_iconst hx hb dX6_begins_49 (by decide) ?_
    refine k_istore_n hx hb dX6_begins_50 rfl ?_
    exact hK51
  · refine k_aload_n hx hb dX6_begins_29 rfl ?_
    refine k_getf C (ci := 6) (k := 18) (Tf := TX6) (Nf := 20) (Cn := RX6) rfl zinX6 (by decide) rfl zfX6_47 dX6_begins_30 ?_
    refine k_iload_n hx hb dX6_begins_33 rfl ?_
    refine k_aload_n hx hb dX6_begins_34 rfl ?_
    refine k_getf C (ci := 6) (k := 18) (Tf := TX6) (Nf := 20) (Cn := RX6) rfl zinX6 (by decide) rfl zfX6_47 dX6_begins_35 ?_
    refine k_iload_n hx hb dX6_begins_38 rfl ?_
    refine k_iconst hx hb dX6_begins_39 (by decide) ?_
    refine k_iadd hx hb dX6_begins_40 ?_
    refine k_iald C dX6_begins_41 ?_
    refine k_iast C dX6_begins_42 ?_
    refine k_iinc hx hb dX6_begins_43 (by decide) ?_
    refine k_goto (tgt := 21) hx hb dX6_begins_46 (by decide) ?_
    exact hK21
set_option maxRecDepth 20000 in
theorem sX6_begins_0 {l : Launch} {z0 b N M : Nat} {D : va_G} {cA : Nat → ClassId} {p : Program} {e : Env} {s : State} {m : MethodId} {args : Array Value} {below : List Frame} {meth : Method} {c : Code} {Kn : Option Value → ZH → Prop} {Kx : Nat → Prop} {h0 : ZH} {K21 K51 : ZK ZH} (C : zCx p l (zRm 0 M 0) s m args meth c cX6_begins 2 RX6 z0 D cA M) (htab : ∀ x ∈ c.exceptionTable.toList, False) (hr : meth.sig.returnType = none) (hK21 : Snd p l e (zRm 0 M 0) s m args below meth c 2 z0 b (zI z0 b N D cA s) (fun _ => (0, 0)) (vx_MQ below (zQn z0 b N D cA Kn) (zXn z0 b N D cA Kx h0) args s M (6 * M) (fun q => z0 ≤ q)) 21 K21) (hK51 : Snd p l e (zRm 0 M 0) s m args below meth c 2 z0 b (zI z0 b N D cA s) (fun _ => (0, 0)) (vx_MQ below (zQn z0 b N D cA Kn) (zXn z0 b N D cA Kx h0) args s M (6 * M) (fun q => z0 ≤ q)) 51 K51) : Snd p l e (zRm 0 M 0) s m args below meth c 2 z0 b (zI z0 b N D cA s) (fun _ => (0, 0)) (vx_MQ below (zQn z0 b N D cA Kn) (zXn z0 b N D cA Kx h0) args s M (6 * M) (fun q => z0 ≤ q)) 0 (bX6_begins_0 M Kn Kx h0 K21 K51) := by
  obtain ⟨hx, hb, hml, hown, hts, -⟩ := id C
  unfold bX6_begins_0
  refine k_aload_n hx hb dX6_begins_0 rfl ?_
  refine k_getf C (ci := 6) (k := 17) (Tf := TX6) (Nf := 20) (Cn := RX6) rfl zinX6 (by decide) rfl zfX6_88 dX6_begins_1 ?_
  refine k_bipush hx hb dX6_begins_4 (by decide) ?_
  refine k_icmp_ne (tgt := 83) hx hb dX6_begins_6 (by decide) ?_ ?_
  · exact sX6_begins_83 C htab hr hK21 hK51
  · refine k_aload_n hx hb dX6_begins_9 rfl ?_
    refine k_dup hx hb dX6_begins_10 ?_
    refine k_getf C (ci := 6) (k := 17) (Tf := TX6) (Nf := 20) (Cn := RX6) rfl zinX6 (by decide) rfl zfX6_88 dX6_begins_11 ?_
    refine k_iconst hx hb dX6_begins_14 (by decide) ?_
    refine k_isub hx hb dX6_begins_15 ?_
    refine k_puti C (ci := 6) (k := 17) (Tf := TX6) (Nf := 20) (Cn := RX6) tyX6 tyX6_ok nmX6 rfl zinX6 (by decide) rfl rfl (by decide +kernel) zfX6_88 dX6_begins_16 ?_
    refine k_iconst hx hb dX6_begins_19 (by decide) ?_
    refine k_istore_n hx hb dX6_begins_20 rfl ?_
    exact hK21
set_option maxRecDepth 20000 in
theorem uX6_begins {l : Launch} {z0 b N : Nat} {D : va_G} {cA : Nat → ClassId} (hlt : l.stackTraces = false) (spec : ∀ (M : Nat) (a : List Value) (h : ZH) (Kn : Option Value → ZH → Prop) (Kx : Nat → Prop), zok 1 a = true → tX6_begins a h Kn → ∀ (A : Nat → ZK ZH), (∀ ls st h', bX6_begins_21 M Kn Kx h (A 21) (A 51) ls st h' → A 21 ls st h') → (∀ ls st h', bX6_begins_51 M Kn Kx h (A 21) (A 51) ls st h' → A 51 ls st h') → bX6_begins_0 M Kn Kx h (A 21) (A 51) (zE 2 a) [] h) : Sem l z0 b N D cA yX6_begins cX6_begins 2 none 0 0 1 zno tX6_begins :=
  sem_of hlt (by decide +kernel) (by decide) (fun p e s m args below meth c M a h Kn Kx hok hX hN C hr htab => sX6_begins_0 C htab hr (fun _ _ _ q => q) (fun _ _ _ q => q) _ _ _ (spec M a h Kn Kx hok (hN (fun _ h9 => h9)) (fun pc => AW p l e (zRm 0 M 0) s m args below meth c 2 z0 b (zI z0 b N D cA s) (fun _ => (0, 0)) (vx_MQ below (zQn z0 b N D cA Kn) (zXn z0 b N D cA Kx h) args s M (6 * M) (fun q => z0 ≤ q)) pc) (fun ls st h' hq => sX6_begins_21 C htab hr (fun _ _ _ q => q) (fun _ _ _ q => q) ls st h' hq) (fun ls st h' hq => sX6_begins_51 C htab hr (fun _ _ _ q => q) (fun _ _ _ q => q) ls st h' hq)))
set_option maxRecDepth 20000 in
theorem sX6_sets_0 {l : Launch} {z0 b N M : Nat} {D : va_G} {cA : Nat → ClassId} {p : Program} {e : Env} {s : State} {m : MethodId} {args : Array Value} {below : List Frame} {meth : Method} {c : Code} {Kn : Option Value → ZH → Prop} {Kx : Nat → Prop} {h0 : ZH} (C : zCx p l (zRm 0 M 0) s m args meth c cX6_sets 3 RX6 z0 D cA M) (htab : ∀ x ∈ c.exceptionTable.toList, False) (hr : meth.sig.returnType = none) : Snd p l e (zRm 0 M 0) s m args below meth c 3 z0 b (zI z0 b N D cA s) (fun _ => (0, 0)) (vx_MQ below (zQn z0 b N D cA Kn) (zXn z0 b N D cA Kx h0) args s M (6 * M) (fun q => z0 ≤ q)) 0 (bX6_sets_0 M Kn Kx h0) := by
  obtain ⟨hx, hb, hml, hown, hts, -⟩ := id C
  unfold bX6_sets_0
  refine k_aload_n hx hb dX6_sets_0 rfl ?_
  refine k_getf C (ci := 6) (k := 19) (Tf := TX6) (Nf := 20) (Cn := RX6) rfl zinX6 (by decide) rfl zfX6_50 dX6_sets_1 ?_
  refine k_bipush hx hb dX6_sets_4 (by decide) ?_
  refine k_aload_n hx hb dX6_sets_6 rfl ?_
  refine k_getf C (ci := 6) (k := 17) (Tf := TX6) (Nf := 20) (Cn := RX6) rfl zinX6 (by decide) rfl zfX6_88 dX6_sets_7 ?_
  refine k_iconst hx hb dX6_sets_10 (by decide) ?_
  refine k_isub hx hb dX6_sets_11 ?_
  refine k_imul hx hb dX6_sets_12 ?_
  refine k_iload_n hx hb dX6_sets_13 rfl ?_
  refine k_iadd hx hb dX6_sets_14 ?_
  refine k_aload_n hx hb dX6_sets_15 rfl ?_
  refine k_getf C (ci := 6) (k := 9) (Tf := TX6) (Nf := 20) (Cn := RX6) rfl zinX6 (by decide) rfl zfX6_26 dX6_sets_16 ?_
  refine k_iload_n hx hb dX6_sets_19 rfl ?_
  refine k_iald C dX6_sets_20 ?_
  refine k_iast C dX6_sets_21 ?_
  refine k_aload_n hx hb dX6_sets_22 rfl ?_
  refine k_getf C (ci := 6) (k := 18) (Tf := TX6) (Nf := 20) (Cn := RX6) rfl zinX6 (by decide) rfl zfX6_47 dX6_sets_23 ?_
  refine k_aload_n hx hb dX6_sets_26 rfl ?_
  refine k_getf C (ci := 6) (k := 17) (Tf := TX6) (Nf := 20) (Cn := RX6) rfl zinX6 (by decide) rfl zfX6_88 dX6_sets_27 ?_
  refine k_iconst hx hb dX6_sets_30 (by decide) ?_
  refine k_isub hx hb dX6_sets_31 ?_
  refine k_dup2 hx hb dX6_sets_32 ?_
  refine k_iald C dX6_sets_33 ?_
  refine k_iconst hx hb dX6_sets_34 (by decide) ?_
  refine k_iload_n hx hb dX6_sets_35 rfl ?_
  refine k_ishl hx hb dX6_sets_36 ?_
  refine k_ior hx hb dX6_sets_37 ?_
  refine k_iast C dX6_sets_38 ?_
  refine k_aload_n hx hb dX6_sets_39 rfl ?_
  refine k_getf C (ci := 6) (k := 9) (Tf := TX6) (Nf := 20) (Cn := RX6) rfl zinX6 (by decide) rfl zfX6_26 dX6_sets_40 ?_
  refine k_iload_n hx hb dX6_sets_43 rfl ?_
  refine k_iload_n hx hb dX6_sets_44 rfl ?_
  refine k_iast C dX6_sets_45 ?_
  exact k_vret C hr dX6_sets_46
set_option maxRecDepth 20000 in
theorem uX6_sets {l : Launch} {z0 b N : Nat} {D : va_G} {cA : Nat → ClassId} (hlt : l.stackTraces = false) (spec : ∀ (M : Nat) (a : List Value) (h : ZH) (Kn : Option Value → ZH → Prop) (Kx : Nat → Prop), zok 3 a = true → tX6_sets a h Kn → bX6_sets_0 M Kn Kx h (zE 3 a) [] h) : Sem l z0 b N D cA yX6_sets cX6_sets 3 none 0 0 3 zno tX6_sets :=
  sem_of hlt (by decide +kernel) (by decide) (fun p e s m args below meth c M a h Kn Kx hok hX hN C hr htab => sX6_sets_0 C htab hr _ _ _ (spec M a h Kn Kx hok (hN (fun _ h9 => h9))))
set_option maxRecDepth 20000 in
theorem sX6_setsOne_30 {l : Launch} {z0 b N M : Nat} {D : va_G} {cA : Nat → ClassId} {p : Program} {e : Env} {s : State} {m : MethodId} {args : Array Value} {below : List Frame} {meth : Method} {c : Code} {Kn : Option Value → ZH → Prop} {Kx : Nat → Prop} {h0 : ZH} (C : zCx p l (zRm 1 M 22) s m args meth c cX6_setsOne 4 RX6 z0 D cA M) (htab : ∀ x ∈ c.exceptionTable.toList, False) (hr : meth.sig.returnType = (some .boolean)) (HX6_begins : Sem l z0 b N D cA yX6_begins cX6_begins 2 none 0 0 1 zno tX6_begins) (HX6_sets : Sem l z0 b N D cA yX6_sets cX6_sets 3 none 0 0 3 zno tX6_sets) : Snd p l e (zRm 1 M 22) s m args below meth c 4 z0 b (zI z0 b N D cA s) (fun _ => (0, 0)) (vx_MQ below (zQn z0 b N D cA Kn) (zXn z0 b N D cA Kx h0) args s M (6 * M) (fun q => z0 ≤ q)) 30 (bX6_setsOne_30 M Kn Kx h0) := by
  obtain ⟨hx, hb, hml, hown, hts, -⟩ := id C
  unfold bX6_setsOne_30
  refine k_iload_n hx hb dX6_setsOne_30 rfl ?_
  exact k_ret C hr dX6_setsOne_31
set_option maxRecDepth 20000 in
theorem sX6_setsOne_15 {l : Launch} {z0 b N M : Nat} {D : va_G} {cA : Nat → ClassId} {p : Program} {e : Env} {s : State} {m : MethodId} {args : Array Value} {below : List Frame} {meth : Method} {c : Code} {Kn : Option Value → ZH → Prop} {Kx : Nat → Prop} {h0 : ZH} (C : zCx p l (zRm 1 M 22) s m args meth c cX6_setsOne 4 RX6 z0 D cA M) (htab : ∀ x ∈ c.exceptionTable.toList, False) (hr : meth.sig.returnType = (some .boolean)) (HX6_begins : Sem l z0 b N D cA yX6_begins cX6_begins 2 none 0 0 1 zno tX6_begins) (HX6_sets : Sem l z0 b N D cA yX6_sets cX6_sets 3 none 0 0 3 zno tX6_sets) : Snd p l e (zRm 1 M 22) s m args below meth c 4 z0 b (zI z0 b N D cA s) (fun _ => (0, 0)) (vx_MQ below (zQn z0 b N D cA Kn) (zXn z0 b N D cA Kx h0) args s M (6 * M) (fun q => z0 ≤ q)) 15 (bX6_setsOne_15 M Kn Kx h0) := by
  obtain ⟨hx, hb, hml, hown, hts, -⟩ := id C
  unfold bX6_setsOne_15
  refine k_istore_n hx hb dX6_setsOne_15 rfl ?_
  refine k_iload_n hx hb dX6_setsOne_16 rfl ?_
  refine k_if_eq (tgt := 30) hx hb dX6_setsOne_17 (by decide) ?_ ?_
  · exact sX6_setsOne_30 C htab hr HX6_begins HX6_sets
  · refine k_aload_n hx hb dX6_setsOne_20 rfl ?_
    refine k_callV0 C htab (ci := 6) (Tf := TX6) (Nf := 20) (Cn := RX6) rfl HX6_begins rfl zlX6_91 zmX6_begins zvX6_begins ziX6 zcX6_begins (by decide +kernel) ⟨Nat.le_of_ble_eq_true rfl, Nat.le_of_ble_eq_true rfl⟩ dX6_setsOne_21 ?_
    refine k_aload_n hx hb dX6_setsOne_24 rfl ?_
    refine k_iload_n hx hb dX6_setsOne_25 rfl ?_
    refine k_iload_n hx hb dX6_setsOne_26 rfl ?_
    refine k_callV2 C htab (ci := 6) (Tf := TX6) (Nf := 20) (Cn := RX6) rfl HX6_sets rfl zlX6_94 zmX6_sets zvX6_sets ziX6 zcX6_sets (by decide +kernel) ⟨Nat.le_of_ble_eq_true rfl, Nat.le_of_ble_eq_true rfl⟩ dX6_setsOne_27 ?_
    exact sX6_setsOne_30 C htab hr HX6_begins HX6_sets
set_option maxRecDepth 20000 in
theorem sX6_setsOne_0 {l : Launch} {z0 b N M : Nat} {D : va_G} {cA : Nat → ClassId} {p : Program} {e : Env} {s : State} {m : MethodId} {args : Array Value} {below : List Frame} {meth : Method} {c : Code} {Kn : Option Value → ZH → Prop} {Kx : Nat → Prop} {h0 : ZH} (C : zCx p l (zRm 1 M 22) s m args meth c cX6_setsOne 4 RX6 z0 D cA M) (htab : ∀ x ∈ c.exceptionTable.toList, False) (hr : meth.sig.returnType = (some .boolean)) (HX6_begins : Sem l z0 b N D cA yX6_begins cX6_begins 2 none 0 0 1 zno tX6_begins) (HX6_sets : Sem l z0 b N D cA yX6_sets cX6_sets 3 none 0 0 3 zno tX6_sets) : Snd p l e (zRm 1 M 22) s m args below meth c 4 z0 b (zI z0 b N D cA s) (fun _ => (0, 0)) (vx_MQ below (zQn z0 b N D cA Kn) (zXn z0 b N D cA Kx h0) args s M (6 * M) (fun q => z0 ≤ q)) 0 (bX6_setsOne_0 M Kn Kx h0) := by
  obtain ⟨hx, hb, hml, hown, hts, -⟩ := id C
  unfold bX6_setsOne_0
  refine k_aload_n hx hb dX6_setsOne_0 rfl ?_
  refine k_getf C (ci := 6) (k := 9) (Tf := TX6) (Nf := 20) (Cn := RX6) rfl zinX6 (by decide) rfl zfX6_26 dX6_setsOne_1 ?_
  refine k_iload_n hx hb dX6_setsOne_4 rfl ?_
  refine k_iald C dX6_setsOne_5 ?_
  refine k_iload_n hx hb dX6_setsOne_6 rfl ?_
  refine k_icmp_eq (tgt := 14) hx hb dX6_setsOne_7 (by decide) ?_ ?_
  · refine k_iconst hx hb dX6_setsOne_14 (by decide) ?_
    exact sX6_setsOne_15 C htab hr HX6_begins HX6_sets
  · refine k_iconst hx hb dX6_setsOne_10 (by decide) ?_
    refine k_goto (tgt := 15) hx hb dX6_setsOne_11 (by decide) ?_
    exact sX6_setsOne_15 C htab hr HX6_begins HX6_sets
set_option maxRecDepth 20000 in
theorem uX6_setsOne {l : Launch} {z0 b N : Nat} {D : va_G} {cA : Nat → ClassId} (hlt : l.stackTraces = false) (HX6_begins : Sem l z0 b N D cA yX6_begins cX6_begins 2 none 0 0 1 zno tX6_begins) (HX6_sets : Sem l z0 b N D cA yX6_sets cX6_sets 3 none 0 0 3 zno tX6_sets) (spec : ∀ (M : Nat) (a : List Value) (h : ZH) (Kn : Option Value → ZH → Prop) (Kx : Nat → Prop), zok 3 a = true → tX6_setsOne a h Kn → bX6_setsOne_0 M Kn Kx h (zE 4 a) [] h) : Sem l z0 b N D cA yX6_setsOne cX6_setsOne 4 (some .boolean) 1 22 3 zno tX6_setsOne :=
  sem_of hlt (by decide +kernel) (by decide) (fun p e s m args below meth c M a h Kn Kx hok hX hN C hr htab => sX6_setsOne_0 C htab hr HX6_begins HX6_sets _ _ _ (spec M a h Kn Kx hok (hN (fun _ h9 => h9))))
set_option maxRecDepth 20000 in
theorem sX6_areThere_22 {l : Launch} {z0 b N M : Nat} {D : va_G} {cA : Nat → ClassId} {p : Program} {e : Env} {s : State} {m : MethodId} {args : Array Value} {below : List Frame} {meth : Method} {c : Code} {Kn : Option Value → ZH → Prop} {Kx : Nat → Prop} {h0 : ZH} (C : zCx p l (zRm 2 M 43) s m args meth c cX6_areThere 3 RX6 z0 D cA M) (htab : ∀ x ∈ c.exceptionTable.toList, False) (hr : meth.sig.returnType = (some .boolean)) (HX6_isThing : Sem l z0 b N D cA yX6_isThing cX6_isThing 2 (some .boolean) 1 22 2 zno tX6_isThing) (HX6_isTag : Sem l z0 b N D cA yX6_isTag cX6_isTag 2 (some .boolean) 1 22 2 zno tX6_isTag) (HX6_holds : Sem l z0 b N D cA yX6_holds cX6_holds 2 (some .boolean) 0 0 2 zno tX6_holds) : Snd p l e (zRm 2 M 43) s m args below meth c 3 z0 b (zI z0 b N D cA s) (fun _ => (0, 0)) (vx_MQ below (zQn z0 b N D cA Kn) (zXn z0 b N D cA Kx h0) args s M (6 * M) (fun q => z0 ≤ q)) 22 (bX6_areThere_22 M Kn Kx h0) := by
  obtain ⟨hx, hb, hml, hown, hts, -⟩ := id C
  unfold bX6_areThere_22
  refine k_callV1 C htab (ci := 6) (Tf := TX6) (Nf := 20) (Cn := RX6) rfl HX6_holds rfl zlX6_78 zmX6_holds zvX6_holds ziX6 zcX6_holds (by decide +kernel) ⟨Nat.le_of_ble_eq_true rfl, Nat.le_of_ble_eq_true rfl⟩ dX6_areThere_22 ?_
  exact k_ret C hr dX6_areThere_25
set_option maxRecDepth 20000 in
theorem sX6_areThere_21 {l : Launch} {z0 b N M : Nat} {D : va_G} {cA : Nat → ClassId} {p : Program} {e : Env} {s : State} {m : MethodId} {args : Array Value} {below : List Frame} {meth : Method} {c : Code} {Kn : Option Value → ZH → Prop} {Kx : Nat → Prop} {h0 : ZH} (C : zCx p l (zRm 2 M 43) s m args meth c cX6_areThere 3 RX6 z0 D cA M) (htab : ∀ x ∈ c.exceptionTable.toList, False) (hr : meth.sig.returnType = (some .boolean)) (HX6_isThing : Sem l z0 b N D cA yX6_isThing cX6_isThing 2 (some .boolean) 1 22 2 zno tX6_isThing) (HX6_isTag : Sem l z0 b N D cA yX6_isTag cX6_isTag 2 (some .boolean) 1 22 2 zno tX6_isTag) (HX6_holds : Sem l z0 b N D cA yX6_holds cX6_holds 2 (some .boolean) 0 0 2 zno tX6_holds) : Snd p l e (zRm 2 M 43) s m args below meth c 3 z0 b (zI z0 b N D cA s) (fun _ => (0, 0)) (vx_MQ below (zQn z0 b N D cA Kn) (zXn z0 b N D cA Kx h0) args s M (6 * M) (fun q => z0 ≤ q)) 21 (bX6_areThere_21 M Kn Kx h0) := by
  obtain ⟨hx, hb, hml, hown, hts, -⟩ := id C
  unfold bX6_areThere_21
  refine k_iconst hx hb dX6_areThere_21 (by decide) ?_
  exact sX6_areThere_22 C htab hr HX6_isThing HX6_isTag HX6_holds
set_option maxRecDepth 20000 in
theorem sX6_areThere_0 {l : Launch} {z0 b N M : Nat} {D : va_G} {cA : Nat → ClassId} {p : Program} {e : Env} {s : State} {m : MethodId} {args : Array Value} {below : List Frame} {meth : Method} {c : Code} {Kn : Option Value → ZH → Prop} {Kx : Nat → Prop} {h0 : ZH} (C : zCx p l (zRm 2 M 43) s m args meth c cX6_areThere 3 RX6 z0 D cA M) (htab : ∀ x ∈ c.exceptionTable.toList, False) (hr : meth.sig.returnType = (some .boolean)) (HX6_isThing : Sem l z0 b N D cA yX6_isThing cX6_isThing 2 (some .boolean) 1 22 2 zno tX6_isThing) (HX6_isTag : Sem l z0 b N D cA yX6_isTag cX6_isTag 2 (some .boolean) 1 22 2 zno tX6_isTag) (HX6_holds : Sem l z0 b N D cA yX6_holds cX6_holds 2 (some .boolean) 0 0 2 zno tX6_holds) : Snd p l e (zRm 2 M 43) s m args below meth c 3 z0 b (zI z0 b N D cA s) (fun _ => (0, 0)) (vx_MQ below (zQn z0 b N D cA Kn) (zXn z0 b N D cA Kx h0) args s M (6 * M) (fun q => z0 ≤ q)) 0 (bX6_areThere_0 M Kn Kx h0) := by
  obtain ⟨hx, hb, hml, hown, hts, -⟩ := id C
  unfold bX6_areThere_0
  refine k_aload_n hx hb dX6_areThere_0 rfl ?_
  refine k_aload_n hx hb dX6_areThere_1 rfl ?_
  refine k_iload_n hx hb dX6_areThere_2 rfl ?_
  refine k_callV1 C htab (ci := 6) (Tf := TX6) (Nf := 20) (Cn := RX6) rfl HX6_isThing rfl zlX6_98 zmX6_isThing zvX6_isThing ziX6 zcX6_isThing (by decide +kernel) ⟨Nat.le_of_ble_eq_true rfl, Nat.le_of_ble_eq_true rfl⟩ dX6_areThere_3 ?_
  refine k_if_eq (tgt := 21) hx hb dX6_areThere_6 (by decide) ?_ ?_
  · exact sX6_areThere_21 C htab hr HX6_isThing HX6_isTag HX6_holds
  · refine k_aload_n hx hb dX6_areThere_9 rfl ?_
    refine k_iload_n hx hb dX6_areThere_10 rfl ?_
    refine k_callV1 C htab (ci := 6) (Tf := TX6) (Nf := 20) (Cn := RX6) rfl HX6_isTag rfl zlX6_85 zmX6_isTag zvX6_isTag ziX6 zcX6_isTag (by decide +kernel) ⟨Nat.le_of_ble_eq_true rfl, Nat.le_of_ble_eq_true rfl⟩ dX6_areThere_11 ?_
    refine k_if_eq (tgt := 21) hx hb dX6_areThere_14 (by decide) ?_ ?_
    · exact sX6_areThere_21 C htab hr HX6_isThing HX6_isTag HX6_holds
    · refine k_iconst hx hb dX6_areThere_17 (by decide) ?_
      refine k_goto (tgt := 22) hx hb dX6_areThere_18 (by decide) ?_
      exact sX6_areThere_22 C htab hr HX6_isThing HX6_isTag HX6_holds
set_option maxRecDepth 20000 in
theorem uX6_areThere {l : Launch} {z0 b N : Nat} {D : va_G} {cA : Nat → ClassId} (hlt : l.stackTraces = false) (HX6_isThing : Sem l z0 b N D cA yX6_isThing cX6_isThing 2 (some .boolean) 1 22 2 zno tX6_isThing) (HX6_isTag : Sem l z0 b N D cA yX6_isTag cX6_isTag 2 (some .boolean) 1 22 2 zno tX6_isTag) (HX6_holds : Sem l z0 b N D cA yX6_holds cX6_holds 2 (some .boolean) 0 0 2 zno tX6_holds) (spec : ∀ (M : Nat) (a : List Value) (h : ZH) (Kn : Option Value → ZH → Prop) (Kx : Nat → Prop), zok 3 a = true → tX6_areThere a h Kn → bX6_areThere_0 M Kn Kx h (zE 3 a) [] h) : Sem l z0 b N D cA yX6_areThere cX6_areThere 3 (some .boolean) 2 43 3 zno tX6_areThere :=
  sem_of hlt (by decide +kernel) (by decide) (fun p e s m args below meth c M a h Kn Kx hok hX hN C hr htab => sX6_areThere_0 C htab hr HX6_isThing HX6_isTag HX6_holds _ _ _ (spec M a h Kn Kx hok (hN (fun _ h9 => h9))))
set_option maxRecDepth 20000 in
theorem sX6_tag_32 {l : Launch} {z0 b N M : Nat} {D : va_G} {cA : Nat → ClassId} {p : Program} {e : Env} {s : State} {m : MethodId} {args : Array Value} {below : List Frame} {meth : Method} {c : Code} {Kn : Option Value → ZH → Prop} {Kx : Nat → Prop} {h0 : ZH} (C : zCx p l (zRm 3 M 65) s m args meth c cX6_tag 3 RX6 z0 D cA M) (htab : ∀ x ∈ c.exceptionTable.toList, False) (hr : meth.sig.returnType = (some .boolean)) (HX6_areThere : Sem l z0 b N D cA yX6_areThere cX6_areThere 3 (some .boolean) 2 43 3 zno tX6_areThere) (HX6_setsOne : Sem l z0 b N D cA yX6_setsOne cX6_setsOne 4 (some .boolean) 1 22 3 zno tX6_setsOne) : Snd p l e (zRm 3 M 65) s m args below meth c 3 z0 b (zI z0 b N D cA s) (fun _ => (0, 0)) (vx_MQ below (zQn z0 b N D cA Kn) (zXn z0 b N D cA Kx h0) args s M (6 * M) (fun q => z0 ≤ q)) 32 (bX6_tag_32 M Kn Kx h0) := by
  obtain ⟨hx, hb, hml, hown, hts, -⟩ := id C
  unfold bX6_tag_32
  exact k_ret C hr dX6_tag_32
set_option maxRecDepth 20000 in
theorem sX6_tag_31 {l : Launch} {z0 b N M : Nat} {D : va_G} {cA : Nat → ClassId} {p : Program} {e : Env} {s : State} {m : MethodId} {args : Array Value} {below : List Frame} {meth : Method} {c : Code} {Kn : Option Value → ZH → Prop} {Kx : Nat → Prop} {h0 : ZH} (C : zCx p l (zRm 3 M 65) s m args meth c cX6_tag 3 RX6 z0 D cA M) (htab : ∀ x ∈ c.exceptionTable.toList, False) (hr : meth.sig.returnType = (some .boolean)) (HX6_areThere : Sem l z0 b N D cA yX6_areThere cX6_areThere 3 (some .boolean) 2 43 3 zno tX6_areThere) (HX6_setsOne : Sem l z0 b N D cA yX6_setsOne cX6_setsOne 4 (some .boolean) 1 22 3 zno tX6_setsOne) : Snd p l e (zRm 3 M 65) s m args below meth c 3 z0 b (zI z0 b N D cA s) (fun _ => (0, 0)) (vx_MQ below (zQn z0 b N D cA Kn) (zXn z0 b N D cA Kx h0) args s M (6 * M) (fun q => z0 ≤ q)) 31 (bX6_tag_31 M Kn Kx h0) := by
  obtain ⟨hx, hb, hml, hown, hts, -⟩ := id C
  unfold bX6_tag_31
  refine k_iconst hx hb dX6_tag_31 (by decide) ?_
  exact sX6_tag_32 C htab hr HX6_areThere HX6_setsOne
set_option maxRecDepth 20000 in
theorem sX6_tag_0 {l : Launch} {z0 b N M : Nat} {D : va_G} {cA : Nat → ClassId} {p : Program} {e : Env} {s : State} {m : MethodId} {args : Array Value} {below : List Frame} {meth : Method} {c : Code} {Kn : Option Value → ZH → Prop} {Kx : Nat → Prop} {h0 : ZH} (C : zCx p l (zRm 3 M 65) s m args meth c cX6_tag 3 RX6 z0 D cA M) (htab : ∀ x ∈ c.exceptionTable.toList, False) (hr : meth.sig.returnType = (some .boolean)) (HX6_areThere : Sem l z0 b N D cA yX6_areThere cX6_areThere 3 (some .boolean) 2 43 3 zno tX6_areThere) (HX6_setsOne : Sem l z0 b N D cA yX6_setsOne cX6_setsOne 4 (some .boolean) 1 22 3 zno tX6_setsOne) : Snd p l e (zRm 3 M 65) s m args below meth c 3 z0 b (zI z0 b N D cA s) (fun _ => (0, 0)) (vx_MQ below (zQn z0 b N D cA Kn) (zXn z0 b N D cA Kx h0) args s M (6 * M) (fun q => z0 ≤ q)) 0 (bX6_tag_0 M Kn Kx h0) := by
  obtain ⟨hx, hb, hml, hown, hts, -⟩ := id C
  unfold bX6_tag_0
  refine k_aload_n hx hb dX6_tag_0 rfl ?_
  refine k_iload_n hx hb dX6_tag_1 rfl ?_
  refine k_iload_n hx hb dX6_tag_2 rfl ?_
  refine k_callV2 C htab (ci := 6) (Tf := TX6) (Nf := 20) (Cn := RX6) rfl HX6_areThere rfl zlX6_101 zmX6_areThere zvX6_areThere ziX6 zcX6_areThere (by decide +kernel) ⟨Nat.le_of_ble_eq_true rfl, Nat.le_of_ble_eq_true rfl⟩ dX6_tag_3 ?_
  refine k_if_eq (tgt := 31) hx hb dX6_tag_6 (by decide) ?_ ?_
  · exact sX6_tag_31 C htab hr HX6_areThere HX6_setsOne
  · refine k_aload_n hx hb dX6_tag_9 rfl ?_
    refine k_iload_n hx hb dX6_tag_10 rfl ?_
    refine k_aload_n hx hb dX6_tag_11 rfl ?_
    refine k_getf C (ci := 6) (k := 9) (Tf := TX6) (Nf := 20) (Cn := RX6) rfl zinX6 (by decide) rfl zfX6_26 dX6_tag_12 ?_
    refine k_iload_n hx hb dX6_tag_15 rfl ?_
    refine k_iald C dX6_tag_16 ?_
    refine k_iconst hx hb dX6_tag_17 (by decide) ?_
    refine k_iload_n hx hb dX6_tag_18 rfl ?_
    refine k_ishl hx hb dX6_tag_19 ?_
    refine k_ior hx hb dX6_tag_20 ?_
    refine k_callV2 C htab (ci := 6) (Tf := TX6) (Nf := 20) (Cn := RX6) rfl HX6_setsOne rfl zlX6_105 zmX6_setsOne zvX6_setsOne ziX6 zcX6_setsOne (by decide +kernel) ⟨Nat.le_of_ble_eq_true rfl, Nat.le_of_ble_eq_true rfl⟩ dX6_tag_21 ?_
    refine k_if_eq (tgt := 31) hx hb dX6_tag_24 (by decide) ?_ ?_
    · exact sX6_tag_31 C htab hr HX6_areThere HX6_setsOne
    · refine k_iconst hx hb dX6_tag_27 (by decide) ?_
      refine k_goto (tgt := 32) hx hb dX6_tag_28 (by decide) ?_
      exact sX6_tag_32 C htab hr HX6_areThere HX6_setsOne
set_option maxRecDepth 20000 in
theorem uX6_tag {l : Launch} {z0 b N : Nat} {D : va_G} {cA : Nat → ClassId} (hlt : l.stackTraces = false) (HX6_areThere : Sem l z0 b N D cA yX6_areThere cX6_areThere 3 (some .boolean) 2 43 3 zno tX6_areThere) (HX6_setsOne : Sem l z0 b N D cA yX6_setsOne cX6_setsOne 4 (some .boolean) 1 22 3 zno tX6_setsOne) (spec : ∀ (M : Nat) (a : List Value) (h : ZH) (Kn : Option Value → ZH → Prop) (Kx : Nat → Prop), zok 3 a = true → tX6_tag a h Kn → bX6_tag_0 M Kn Kx h (zE 3 a) [] h) : Sem l z0 b N D cA yX6_tag cX6_tag 3 (some .boolean) 3 65 3 zno tX6_tag :=
  sem_of hlt (by decide +kernel) (by decide) (fun p e s m args below meth c M a h Kn Kx hok hX hN C hr htab => sX6_tag_0 C htab hr HX6_areThere HX6_setsOne _ _ _ (spec M a h Kn Kx hok (hN (fun _ h9 => h9))))
set_option maxRecDepth 20000 in
theorem sX6_untag_34 {l : Launch} {z0 b N M : Nat} {D : va_G} {cA : Nat → ClassId} {p : Program} {e : Env} {s : State} {m : MethodId} {args : Array Value} {below : List Frame} {meth : Method} {c : Code} {Kn : Option Value → ZH → Prop} {Kx : Nat → Prop} {h0 : ZH} (C : zCx p l (zRm 3 M 65) s m args meth c cX6_untag 3 RX6 z0 D cA M) (htab : ∀ x ∈ c.exceptionTable.toList, False) (hr : meth.sig.returnType = (some .boolean)) (HX6_areThere : Sem l z0 b N D cA yX6_areThere cX6_areThere 3 (some .boolean) 2 43 3 zno tX6_areThere) (HX6_setsOne : Sem l z0 b N D cA yX6_setsOne cX6_setsOne 4 (some .boolean) 1 22 3 zno tX6_setsOne) : Snd p l e (zRm 3 M 65) s m args below meth c 3 z0 b (zI z0 b N D cA s) (fun _ => (0, 0)) (vx_MQ below (zQn z0 b N D cA Kn) (zXn z0 b N D cA Kx h0) args s M (6 * M) (fun q => z0 ≤ q)) 34 (bX6_untag_34 M Kn Kx h0) := by
  obtain ⟨hx, hb, hml, hown, hts, -⟩ := id C
  unfold bX6_untag_34
  exact k_ret C hr dX6_untag_34
set_option maxRecDepth 20000 in
theorem sX6_untag_33 {l : Launch} {z0 b N M : Nat} {D : va_G} {cA : Nat → ClassId} {p : Program} {e : Env} {s : State} {m : MethodId} {args : Array Value} {below : List Frame} {meth : Method} {c : Code} {Kn : Option Value → ZH → Prop} {Kx : Nat → Prop} {h0 : ZH} (C : zCx p l (zRm 3 M 65) s m args meth c cX6_untag 3 RX6 z0 D cA M) (htab : ∀ x ∈ c.exceptionTable.toList, False) (hr : meth.sig.returnType = (some .boolean)) (HX6_areThere : Sem l z0 b N D cA yX6_areThere cX6_areThere 3 (some .boolean) 2 43 3 zno tX6_areThere) (HX6_setsOne : Sem l z0 b N D cA yX6_setsOne cX6_setsOne 4 (some .boolean) 1 22 3 zno tX6_setsOne) : Snd p l e (zRm 3 M 65) s m args below meth c 3 z0 b (zI z0 b N D cA s) (fun _ => (0, 0)) (vx_MQ below (zQn z0 b N D cA Kn) (zXn z0 b N D cA Kx h0) args s M (6 * M) (fun q => z0 ≤ q)) 33 (bX6_untag_33 M Kn Kx h0) := by
  obtain ⟨hx, hb, hml, hown, hts, -⟩ := id C
  unfold bX6_untag_33
  refine k_iconst hx hb dX6_untag_33 (by decide) ?_
  exact sX6_untag_34 C htab hr HX6_areThere HX6_setsOne
set_option maxRecDepth 20000 in
theorem sX6_untag_0 {l : Launch} {z0 b N M : Nat} {D : va_G} {cA : Nat → ClassId} {p : Program} {e : Env} {s : State} {m : MethodId} {args : Array Value} {below : List Frame} {meth : Method} {c : Code} {Kn : Option Value → ZH → Prop} {Kx : Nat → Prop} {h0 : ZH} (C : zCx p l (zRm 3 M 65) s m args meth c cX6_untag 3 RX6 z0 D cA M) (htab : ∀ x ∈ c.exceptionTable.toList, False) (hr : meth.sig.returnType = (some .boolean)) (HX6_areThere : Sem l z0 b N D cA yX6_areThere cX6_areThere 3 (some .boolean) 2 43 3 zno tX6_areThere) (HX6_setsOne : Sem l z0 b N D cA yX6_setsOne cX6_setsOne 4 (some .boolean) 1 22 3 zno tX6_setsOne) : Snd p l e (zRm 3 M 65) s m args below meth c 3 z0 b (zI z0 b N D cA s) (fun _ => (0, 0)) (vx_MQ below (zQn z0 b N D cA Kn) (zXn z0 b N D cA Kx h0) args s M (6 * M) (fun q => z0 ≤ q)) 0 (bX6_untag_0 M Kn Kx h0) := by
  obtain ⟨hx, hb, hml, hown, hts, -⟩ := id C
  unfold bX6_untag_0
  refine k_aload_n hx hb dX6_untag_0 rfl ?_
  refine k_iload_n hx hb dX6_untag_1 rfl ?_
  refine k_iload_n hx hb dX6_untag_2 rfl ?_
  refine k_callV2 C htab (ci := 6) (Tf := TX6) (Nf := 20) (Cn := RX6) rfl HX6_areThere rfl zlX6_101 zmX6_areThere zvX6_areThere ziX6 zcX6_areThere (by decide +kernel) ⟨Nat.le_of_ble_eq_true rfl, Nat.le_of_ble_eq_true rfl⟩ dX6_untag_3 ?_
  refine k_if_eq (tgt := 33) hx hb dX6_untag_6 (by decide) ?_ ?_
  · exact sX6_untag_33 C htab hr HX6_areThere HX6_setsOne
  · refine k_aload_n hx hb dX6_untag_9 rfl ?_
    refine k_iload_n hx hb dX6_untag_10 rfl ?_
    refine k_aload_n hx hb dX6_untag_11 rfl ?_
    refine k_getf C (ci := 6) (k := 9) (Tf := TX6) (Nf := 20) (Cn := RX6) rfl zinX6 (by decide) rfl zfX6_26 dX6_untag_12 ?_
    refine k_iload_n hx hb dX6_untag_15 rfl ?_
    refine k_iald C dX6_untag_16 ?_
    refine k_iconst hx hb dX6_untag_17 (by decide) ?_
    refine k_iload_n hx hb dX6_untag_18 rfl ?_
    refine k_ishl hx hb dX6_untag_19 ?_
    refine k_iconst hx hb dX6_untag_20 (by decide) ?_
    refine k_ixor hx hb dX6_untag_21 ?_
    refine k_iand hx hb dX6_untag_22 ?_
    refine k_callV2 C htab (ci := 6) (Tf := TX6) (Nf := 20) (Cn := RX6) rfl HX6_setsOne rfl zlX6_105 zmX6_setsOne zvX6_setsOne ziX6 zcX6_setsOne (by decide +kernel) ⟨Nat.le_of_ble_eq_true rfl, Nat.le_of_ble_eq_true rfl⟩ dX6_untag_23 ?_
    refine k_if_eq (tgt := 33) hx hb dX6_untag_26 (by decide) ?_ ?_
    · exact sX6_untag_33 C htab hr HX6_areThere HX6_setsOne
    · refine k_iconst hx hb dX6_untag_29 (by decide) ?_
      refine k_goto (tgt := 34) hx hb dX6_untag_30 (by decide) ?_
      exact sX6_untag_34 C htab hr HX6_areThere HX6_setsOne
set_option maxRecDepth 20000 in
theorem uX6_untag {l : Launch} {z0 b N : Nat} {D : va_G} {cA : Nat → ClassId} (hlt : l.stackTraces = false) (HX6_areThere : Sem l z0 b N D cA yX6_areThere cX6_areThere 3 (some .boolean) 2 43 3 zno tX6_areThere) (HX6_setsOne : Sem l z0 b N D cA yX6_setsOne cX6_setsOne 4 (some .boolean) 1 22 3 zno tX6_setsOne) (spec : ∀ (M : Nat) (a : List Value) (h : ZH) (Kn : Option Value → ZH → Prop) (Kx : Nat → Prop), zok 3 a = true → tX6_untag a h Kn → bX6_untag_0 M Kn Kx h (zE 3 a) [] h) : Sem l z0 b N D cA yX6_untag cX6_untag 3 (some .boolean) 3 65 3 zno tX6_untag :=
  sem_of hlt (by decide +kernel) (by decide) (fun p e s m args below meth c M a h Kn Kx hok hX hN C hr htab => sX6_untag_0 C htab hr HX6_areThere HX6_setsOne _ _ _ (spec M a h Kn Kx hok (hN (fun _ h9 => h9))))
set_option maxRecDepth 20000 in
theorem sX6_edited_89 {l : Launch} {z0 b N M : Nat} {D : va_G} {cA : Nat → ClassId} {p : Program} {e : Env} {s : State} {m : MethodId} {args : Array Value} {below : List Frame} {meth : Method} {c : Code} {Kn : Option Value → ZH → Prop} {Kx : Nat → Prop} {h0 : ZH} (C : zCx p l (zRm 5 M 112) s m args meth c cX6_edited 7 RX6 z0 D cA M) (htab : ∀ x ∈ c.exceptionTable.toList, False) (hr : meth.sig.returnType = (some .int)) (HX6_has : Sem l z0 b N D cA yX6_has cX6_has 2 (some .boolean) 0 0 2 zno tX6_has) (HX6_shownOf : Sem l z0 b N D cA yX6_shownOf cX6_shownOf 2 (some .int) 4 91 2 zno tX6_shownOf) (HX6_endOf : Sem l z0 b N D cA yX6_endOf cX6_endOf 3 (some .int) 0 0 2 zno tX6_endOf) : Snd p l e (zRm 5 M 112) s m args below meth c 7 z0 b (zI z0 b N D cA s) (fun _ => (0, 0)) (vx_MQ below (zQn z0 b N D cA Kn) (zXn z0 b N D cA Kx h0) args s M (6 * M) (fun q => z0 ≤ q)) 89 (bX6_edited_89 M Kn Kx h0) := by
  obtain ⟨hx, hb, hml, hown, hts, -⟩ := id C
  unfold bX6_edited_89
  exact k_ret C hr dX6_edited_89
set_option maxRecDepth 20000 in
theorem sX6_edited_40 {l : Launch} {z0 b N M : Nat} {D : va_G} {cA : Nat → ClassId} {p : Program} {e : Env} {s : State} {m : MethodId} {args : Array Value} {below : List Frame} {meth : Method} {c : Code} {Kn : Option Value → ZH → Prop} {Kx : Nat → Prop} {h0 : ZH} (C : zCx p l (zRm 5 M 112) s m args meth c cX6_edited 7 RX6 z0 D cA M) (htab : ∀ x ∈ c.exceptionTable.toList, False) (hr : meth.sig.returnType = (some .int)) (HX6_has : Sem l z0 b N D cA yX6_has cX6_has 2 (some .boolean) 0 0 2 zno tX6_has) (HX6_shownOf : Sem l z0 b N D cA yX6_shownOf cX6_shownOf 2 (some .int) 4 91 2 zno tX6_shownOf) (HX6_endOf : Sem l z0 b N D cA yX6_endOf cX6_endOf 3 (some .int) 0 0 2 zno tX6_endOf) : Snd p l e (zRm 5 M 112) s m args below meth c 7 z0 b (zI z0 b N D cA s) (fun _ => (0, 0)) (vx_MQ below (zQn z0 b N D cA Kn) (zXn z0 b N D cA Kx h0) args s M (6 * M) (fun q => z0 ≤ q)) 40 (bX6_edited_40 M Kn Kx h0) := by
  obtain ⟨hx, hb, hml, hown, hts, -⟩ := id C
  unfold bX6_edited_40
  exact k_ret C hr dX6_edited_40
set_option maxRecDepth 20000 in
theorem sX6_edited_0 {l : Launch} {z0 b N M : Nat} {D : va_G} {cA : Nat → ClassId} {p : Program} {e : Env} {s : State} {m : MethodId} {args : Array Value} {below : List Frame} {meth : Method} {c : Code} {Kn : Option Value → ZH → Prop} {Kx : Nat → Prop} {h0 : ZH} (C : zCx p l (zRm 5 M 112) s m args meth c cX6_edited 7 RX6 z0 D cA M) (htab : ∀ x ∈ c.exceptionTable.toList, False) (hr : meth.sig.returnType = (some .int)) (HX6_has : Sem l z0 b N D cA yX6_has cX6_has 2 (some .boolean) 0 0 2 zno tX6_has) (HX6_shownOf : Sem l z0 b N D cA yX6_shownOf cX6_shownOf 2 (some .int) 4 91 2 zno tX6_shownOf) (HX6_endOf : Sem l z0 b N D cA yX6_endOf cX6_endOf 3 (some .int) 0 0 2 zno tX6_endOf) : Snd p l e (zRm 5 M 112) s m args below meth c 7 z0 b (zI z0 b N D cA s) (fun _ => (0, 0)) (vx_MQ below (zQn z0 b N D cA Kn) (zXn z0 b N D cA Kx h0) args s M (6 * M) (fun q => z0 ≤ q)) 0 (bX6_edited_0 M Kn Kx h0) := by
  obtain ⟨hx, hb, hml, hown, hts, -⟩ := id C
  unfold bX6_edited_0
  refine k_aload_n hx hb dX6_edited_0 rfl ?_
  refine k_getf C (ci := 6) (k := 9) (Tf := TX6) (Nf := 20) (Cn := RX6) rfl zinX6 (by decide) rfl zfX6_26 dX6_edited_1 ?_
  refine k_iload_n hx hb dX6_edited_4 rfl ?_
  refine k_iald C dX6_edited_5 ?_
  refine k_istore hx hb dX6_edited_6 ?_
  refine k_iload_n hx hb dX6_edited_8 rfl ?_
  refine k_iconst hx hb dX6_edited_9 (by decide) ?_
  refine k_icmp_ne (tgt := 41) hx hb dX6_edited_10 (by decide) ?_ ?_
  · refine k_aload_n hx hb dX6_edited_41 rfl ?_
    refine k_iload_n hx hb dX6_edited_42 rfl ?_
    refine k_callV1 C htab (ci := 6) (Tf := TX6) (Nf := 20) (Cn := RX6) rfl HX6_shownOf rfl zlX6_111 zmX6_shownOf zvX6_shownOf ziX6 zcX6_shownOf (by decide +kernel) ⟨Nat.le_of_ble_eq_true rfl, Nat.le_of_ble_eq_true rfl⟩ dX6_edited_43 ?_
    refine k_aload_n hx hb dX6_edited_46 rfl ?_
    refine k_iload_n hx hb dX6_edited_47 rfl ?_
    refine k_callV1 C htab (ci := 6) (Tf := TX6) (Nf := 20) (Cn := RX6) rfl HX6_endOf rfl zlX6_115 zmX6_endOf zvX6_endOf ziX6 zcX6_endOf (by decide +kernel) ⟨Nat.le_of_ble_eq_true rfl, Nat.le_of_ble_eq_true rfl⟩ dX6_edited_48 ?_
    refine k_callS2 C htab HX6_has zlX6_108 zsX6_has ziX6 zcX6_has (by decide +kernel) ⟨Nat.le_of_ble_eq_true rfl, Nat.le_of_ble_eq_true rfl⟩ dX6_edited_51 ?_
    refine k_istore hx hb dX6_edited_54 ?_
    refine k_iload hx hb dX6_edited_56 ?_
    refine k_if_ne (tgt := 66) hx hb dX6_edited_58 (by decide) ?_ ?_
    · refine k_iload_n hx hb dX6_edited_66 rfl ?_
      refine k_if_ne (tgt := 80) hx hb dX6_edited_67 (by decide) ?_ ?_
      · refine k_iload hx hb dX6_edited_80 ?_
        refine k_iconst hx hb dX6_edited_82 (by decide) ?_
        refine k_iload hx hb dX6_edited_83 ?_
        refine k_ishl hx hb dX6_edited_85 ?_
        refine k_iconst hx hb dX6_edited_86 (by decide) ?_
        refine k_ixor hx hb dX6_edited_87 ?_
        refine k_iand hx hb dX6_edited_88 ?_
        exact sX6_edited_89 C htab hr HX6_has HX6_shownOf HX6_endOf
      · refine k_iload hx hb dX6_edited_70 ?_
        refine k_iconst hx hb dX6_edited_72 (by decide) ?_
        refine k_iload hx hb dX6_edited_73 ?_
        refine k_ishl hx hb dX6_edited_75 ?_
        refine k_ior hx hb dX6_edited_76 ?_
        refine k_goto (tgt := 89) hx hb dX6_edited_77 (by decide) ?_
        exact sX6_edited_89 C htab hr HX6_has HX6_shownOf HX6_endOf
    · refine k_iload hx hb dX6_edited_61 ?_
      refine k_goto (tgt := 89) hx hb dX6_edited_63 (by decide) ?_
      exact sX6_edited_89 C htab hr HX6_has HX6_shownOf HX6_endOf
  · refine k_iload hx hb dX6_edited_13 ?_
    refine k_iload_n hx hb dX6_edited_15 rfl ?_
    refine k_callS2 C htab HX6_has zlX6_108 zsX6_has ziX6 zcX6_has (by decide +kernel) ⟨Nat.le_of_ble_eq_true rfl, Nat.le_of_ble_eq_true rfl⟩ dX6_edited_16 ?_
    refine k_if_eq (tgt := 38) hx hb dX6_edited_19 (by decide) ?_ ?_
    · refine k_iload hx hb dX6_edited_38 ?_
      exact sX6_edited_40 C htab hr HX6_has HX6_shownOf HX6_endOf
    · refine k_iload hx hb dX6_edited_22 ?_
      refine k_iconst hx hb dX6_edited_24 (by decide) ?_
      refine k_iload_n hx hb dX6_edited_25 rfl ?_
      refine k_ishl hx hb dX6_edited_26 ?_
      refine k_iconst hx hb dX6_edited_27 (by decide) ?_
      refine k_ixor hx hb dX6_edited_28 ?_
      refine k_iand hx hb dX6_edited_29 ?_
      refine k_iconst hx hb dX6_edited_30 (by decide) ?_
      refine k_iload hx hb dX6_edited_31 ?_
      refine k_ishl hx hb dX6_edited_33 ?_
      refine k_ior hx hb dX6_edited_34 ?_
      refine k_goto (tgt := 40) hx hb dX6_edited_35 (by decide) ?_
      exact sX6_edited_40 C htab hr HX6_has HX6_shownOf HX6_endOf
set_option maxRecDepth 20000 in
theorem uX6_edited {l : Launch} {z0 b N : Nat} {D : va_G} {cA : Nat → ClassId} (hlt : l.stackTraces = false) (HX6_has : Sem l z0 b N D cA yX6_has cX6_has 2 (some .boolean) 0 0 2 zno tX6_has) (HX6_shownOf : Sem l z0 b N D cA yX6_shownOf cX6_shownOf 2 (some .int) 4 91 2 zno tX6_shownOf) (HX6_endOf : Sem l z0 b N D cA yX6_endOf cX6_endOf 3 (some .int) 0 0 2 zno tX6_endOf) (spec : ∀ (M : Nat) (a : List Value) (h : ZH) (Kn : Option Value → ZH → Prop) (Kx : Nat → Prop), zok 5 a = true → tX6_edited a h Kn → bX6_edited_0 M Kn Kx h (zE 7 a) [] h) : Sem l z0 b N D cA yX6_edited cX6_edited 7 (some .int) 5 112 5 zno tX6_edited :=
  sem_of hlt (by decide +kernel) (by decide) (fun p e s m args below meth c M a h Kn Kx hok hX hN C hr htab => sX6_edited_0 C htab hr HX6_has HX6_shownOf HX6_endOf _ _ _ (spec M a h Kn Kx hok (hN (fun _ h9 => h9))))
set_option maxRecDepth 20000 in
theorem sX6_mass_101 {l : Launch} {z0 b N M : Nat} {D : va_G} {cA : Nat → ClassId} {p : Program} {e : Env} {s : State} {m : MethodId} {args : Array Value} {below : List Frame} {meth : Method} {c : Code} {Kn : Option Value → ZH → Prop} {Kx : Nat → Prop} {h0 : ZH} {K49 : ZK ZH} (C : zCx p l (zRm 6 M 138) s m args meth c cX6_mass 7 RX6 z0 D cA M) (htab : ∀ x ∈ c.exceptionTable.toList, False) (hr : meth.sig.returnType = (some .int)) (HX6_isTag : Sem l z0 b N D cA yX6_isTag cX6_isTag 2 (some .boolean) 1 22 2 zno tX6_isTag) (HX6_in : Sem l z0 b N D cA yX6_in cX6_in 3 (some .boolean) 0 0 3 zno tX6_in) (HX6_holds : Sem l z0 b N D cA yX6_holds cX6_holds 2 (some .boolean) 0 0 2 zno tX6_holds) (HX6_edited : Sem l z0 b N D cA yX6_edited cX6_edited 7 (some .int) 5 112 5 zno tX6_edited) (HX6_begins : Sem l z0 b N D cA yX6_begins cX6_begins 2 none 0 0 1 zno tX6_begins) (HX6_sets : Sem l z0 b N D cA yX6_sets cX6_sets 3 none 0 0 3 zno tX6_sets) (hK49 : Snd p l e (zRm 6 M 138) s m args below meth c 7 z0 b (zI z0 b N D cA s) (fun _ => (0, 0)) (vx_MQ below (zQn z0 b N D cA Kn) (zXn z0 b N D cA Kx h0) args s M (6 * M) (fun q => z0 ≤ q)) 49 K49) : Snd p l e (zRm 6 M 138) s m args below meth c 7 z0 b (zI z0 b N D cA s) (fun _ => (0, 0)) (vx_MQ below (zQn z0 b N D cA Kn) (zXn z0 b N D cA Kx h0) args s M (6 * M) (fun q => z0 ≤ q)) 101 (bX6_mass_101 M Kn Kx h0 K49) := by
  obtain ⟨hx, hb, hml, hown, hts, -⟩ := id C
  unfold bX6_mass_101
  refine k_iinc hx hb dX6_mass_101 (by decide) ?_
  refine k_goto (tgt := 49) hx hb dX6_mass_104 (by decide) ?_
  exact hK49
set_option maxRecDepth 20000 in
theorem sX6_mass_90 {l : Launch} {z0 b N M : Nat} {D : va_G} {cA : Nat → ClassId} {p : Program} {e : Env} {s : State} {m : MethodId} {args : Array Value} {below : List Frame} {meth : Method} {c : Code} {Kn : Option Value → ZH → Prop} {Kx : Nat → Prop} {h0 : ZH} {K49 : ZK ZH} (C : zCx p l (zRm 6 M 138) s m args meth c cX6_mass 7 RX6 z0 D cA M) (htab : ∀ x ∈ c.exceptionTable.toList, False) (hr : meth.sig.returnType = (some .int)) (HX6_isTag : Sem l z0 b N D cA yX6_isTag cX6_isTag 2 (some .boolean) 1 22 2 zno tX6_isTag) (HX6_in : Sem l z0 b N D cA yX6_in cX6_in 3 (some .boolean) 0 0 3 zno tX6_in) (HX6_holds : Sem l z0 b N D cA yX6_holds cX6_holds 2 (some .boolean) 0 0 2 zno tX6_holds) (HX6_edited : Sem l z0 b N D cA yX6_edited cX6_edited 7 (some .int) 5 112 5 zno tX6_edited) (HX6_begins : Sem l z0 b N D cA yX6_begins cX6_begins 2 none 0 0 1 zno tX6_begins) (HX6_sets : Sem l z0 b N D cA yX6_sets cX6_sets 3 none 0 0 3 zno tX6_sets) (hK49 : Snd p l e (zRm 6 M 138) s m args below meth c 7 z0 b (zI z0 b N D cA s) (fun _ => (0, 0)) (vx_MQ below (zQn z0 b N D cA Kn) (zXn z0 b N D cA Kx h0) args s M (6 * M) (fun q => z0 ≤ q)) 49 K49) : Snd p l e (zRm 6 M 138) s m args below meth c 7 z0 b (zI z0 b N D cA s) (fun _ => (0, 0)) (vx_MQ below (zQn z0 b N D cA Kn) (zXn z0 b N D cA Kx h0) args s M (6 * M) (fun q => z0 ≤ q)) 90 (bX6_mass_90 M Kn Kx h0 K49) := by
  obtain ⟨hx, hb, hml, hown, hts, -⟩ := id C
  unfold bX6_mass_90
  refine k_aload_n hx hb dX6_mass_90 rfl ?_
  refine k_iload hx hb dX6_mass_91 ?_
  refine k_iload hx hb dX6_mass_93 ?_
  refine k_callV2 C htab (ci := 6) (Tf := TX6) (Nf := 20) (Cn := RX6) rfl HX6_sets rfl zlX6_94 zmX6_sets zvX6_sets ziX6 zcX6_sets (by decide +kernel) ⟨Nat.le_of_ble_eq_true rfl, Nat.le_of_ble_eq_true rfl⟩ dX6_mass_95 ?_
  refine k_iinc hx hb dX6_mass_98 (by decide) ?_
  exact sX6_mass_101 C htab hr HX6_isTag HX6_in HX6_holds HX6_edited HX6_begins HX6_sets hK49
set_option maxRecDepth 20000 in
theorem sX6_mass_49 {l : Launch} {z0 b N M : Nat} {D : va_G} {cA : Nat → ClassId} {p : Program} {e : Env} {s : State} {m : MethodId} {args : Array Value} {below : List Frame} {meth : Method} {c : Code} {Kn : Option Value → ZH → Prop} {Kx : Nat → Prop} {h0 : ZH} {K49 : ZK ZH} (C : zCx p l (zRm 6 M 138) s m args meth c cX6_mass 7 RX6 z0 D cA M) (htab : ∀ x ∈ c.exceptionTable.toList, False) (hr : meth.sig.returnType = (some .int)) (HX6_isTag : Sem l z0 b N D cA yX6_isTag cX6_isTag 2 (some .boolean) 1 22 2 zno tX6_isTag) (HX6_in : Sem l z0 b N D cA yX6_in cX6_in 3 (some .boolean) 0 0 3 zno tX6_in) (HX6_holds : Sem l z0 b N D cA yX6_holds cX6_holds 2 (some .boolean) 0 0 2 zno tX6_holds) (HX6_edited : Sem l z0 b N D cA yX6_edited cX6_edited 7 (some .int) 5 112 5 zno tX6_edited) (HX6_begins : Sem l z0 b N D cA yX6_begins cX6_begins 2 none 0 0 1 zno tX6_begins) (HX6_sets : Sem l z0 b N D cA yX6_sets cX6_sets 3 none 0 0 3 zno tX6_sets) (hK49 : Snd p l e (zRm 6 M 138) s m args below meth c 7 z0 b (zI z0 b N D cA s) (fun _ => (0, 0)) (vx_MQ below (zQn z0 b N D cA Kn) (zXn z0 b N D cA Kx h0) args s M (6 * M) (fun q => z0 ≤ q)) 49 K49) : Snd p l e (zRm 6 M 138) s m args below meth c 7 z0 b (zI z0 b N D cA s) (fun _ => (0, 0)) (vx_MQ below (zQn z0 b N D cA Kn) (zXn z0 b N D cA Kx h0) args s M (6 * M) (fun q => z0 ≤ q)) 49 (bX6_mass_49 M Kn Kx h0 K49) := by
  obtain ⟨hx, hb, hml, hown, hts, -⟩ := id C
  unfold bX6_mass_49
  refine k_iload hx hb dX6_mass_49 ?_
  refine k_aload_n hx hb dX6_mass_51 rfl ?_
  refine k_getf C (ci := 6) (k := 8) (Tf := TX6) (Nf := 20) (Cn := RX6) rfl zinX6 (by decide) rfl zfX6_64 dX6_mass_52 ?_
  refine k_icmp_ge (tgt := 107) hx hb dX6_mass_55 (by decide) ?_ ?_
  · refine k_iload hx hb dX6_mass_107 ?_
    exact k_ret C hr dX6_mass_109
  · refine k_aload_n hx hb dX6_mass_58 rfl ?_
    refine k_iload_n hx hb dX6_mass_59 rfl ?_
    refine k_iload hx hb dX6_mass_60 ?_
    refine k_iload_n hx hb dX6_mass_62 rfl ?_
    refine k_iload_n hx hb dX6_mass_63 rfl ?_
    refine k_callV4 C htab (ci := 6) (Tf := TX6) (Nf := 20) (Cn := RX6) rfl HX6_edited rfl zlX6_118 zmX6_edited zvX6_edited ziX6 zcX6_edited (by decide +kernel) ⟨Nat.le_of_ble_eq_true rfl, Nat.le_of_ble_eq_true rfl⟩ dX6_mass_64 ?_
    refine k_istore hx hb dX6_mass_67 ?_
    refine k_iload hx hb dX6_mass_69 ?_
    refine k_aload_n hx hb dX6_mass_71 rfl ?_
    refine k_getf C (ci := 6) (k := 9) (Tf := TX6) (Nf := 20) (Cn := RX6) rfl zinX6 (by decide) rfl zfX6_26 dX6_mass_72 ?_
    refine k_iload hx hb dX6_mass_75 ?_
    refine k_iald C dX6_mass_77 ?_
    refine k_icmp_eq (tgt := 101) hx hb dX6_mass_78 (by decide) ?_ ?_
    · exact sX6_mass_101 C htab hr HX6_isTag HX6_in HX6_holds HX6_edited HX6_begins HX6_sets hK49
    · refine k_iload hx hb dX6_mass_81 ?_
      refine k_if_ne (tgt := 90) hx hb dX6_mass_83 (by decide) ?_ ?_
      · exact sX6_mass_90 C htab hr HX6_isTag HX6_in HX6_holds HX6_edited HX6_begins HX6_sets hK49
      · refine k_aload_n hx hb dX6_mass_86 rfl ?_
        refine k_callV0 C htab (ci := 6) (Tf := TX6) (Nf := 20) (Cn := RX6) rfl HX6_begins rfl zlX6_91 zmX6_begins zvX6_begins ziX6 zcX6_begins (by decide +kernel) ⟨Nat.le_of_ble_eq_true rfl, Nat.le_of_ble_eq_true rfl⟩ dX6_mass_87 ?_
        exact sX6_mass_90 C htab hr HX6_isTag HX6_in HX6_holds HX6_edited HX6_begins HX6_sets hK49
set_option maxRecDepth 20000 in
theorem sX6_mass_35 {l : Launch} {z0 b N M : Nat} {D : va_G} {cA : Nat → ClassId} {p : Program} {e : Env} {s : State} {m : MethodId} {args : Array Value} {below : List Frame} {meth : Method} {c : Code} {Kn : Option Value → ZH → Prop} {Kx : Nat → Prop} {h0 : ZH} {K49 : ZK ZH} (C : zCx p l (zRm 6 M 138) s m args meth c cX6_mass 7 RX6 z0 D cA M) (htab : ∀ x ∈ c.exceptionTable.toList, False) (hr : meth.sig.returnType = (some .int)) (HX6_isTag : Sem l z0 b N D cA yX6_isTag cX6_isTag 2 (some .boolean) 1 22 2 zno tX6_isTag) (HX6_in : Sem l z0 b N D cA yX6_in cX6_in 3 (some .boolean) 0 0 3 zno tX6_in) (HX6_holds : Sem l z0 b N D cA yX6_holds cX6_holds 2 (some .boolean) 0 0 2 zno tX6_holds) (HX6_edited : Sem l z0 b N D cA yX6_edited cX6_edited 7 (some .int) 5 112 5 zno tX6_edited) (HX6_begins : Sem l z0 b N D cA yX6_begins cX6_begins 2 none 0 0 1 zno tX6_begins) (HX6_sets : Sem l z0 b N D cA yX6_sets cX6_sets 3 none 0 0 3 zno tX6_sets) (hK49 : Snd p l e (zRm 6 M 138) s m args below meth c 7 z0 b (zI z0 b N D cA s) (fun _ => (0, 0)) (vx_MQ below (zQn z0 b N D cA Kn) (zXn z0 b N D cA Kx h0) args s M (6 * M) (fun q => z0 ≤ q)) 49 K49) : Snd p l e (zRm 6 M 138) s m args below meth c 7 z0 b (zI z0 b N D cA s) (fun _ => (0, 0)) (vx_MQ below (zQn z0 b N D cA Kn) (zXn z0 b N D cA Kx h0) args s M (6 * M) (fun q => z0 ≤ q)) 35 (bX6_mass_35 M Kn Kx h0 K49) := by
  obtain ⟨hx, hb, hml, hown, hts, -⟩ := id C
  unfold bX6_mass_35
  refine k_callV1 C htab (ci := 6) (Tf := TX6) (Nf := 20) (Cn := RX6) rfl HX6_holds rfl zlX6_78 zmX6_holds zvX6_holds ziX6 zcX6_holds (by decide +kernel) ⟨Nat.le_of_ble_eq_true rfl, Nat.le_of_ble_eq_true rfl⟩ dX6_mass_35 ?_
  refine k_if_ne (tgt := 43) hx hb dX6_mass_38 (by decide) ?_ ?_
  · refine k_iconst hx hb dX6_mass_43 (by decide) ?_
    refine k_istore hx hb dX6_mass_44 ?_
    refine k_iconst hx hb dX6_mass_46 (by decide) ?_
    refine k_istore hx hb dX6_mass_47 ?_
    exact hK49
  · refine k_iconst hx hb dX6_mass_41 (by decide) ?_
    exact k_ret C hr dX6_mass_42
set_option maxRecDepth 20000 in
theorem sX6_mass_17 {l : Launch} {z0 b N M : Nat} {D : va_G} {cA : Nat → ClassId} {p : Program} {e : Env} {s : State} {m : MethodId} {args : Array Value} {below : List Frame} {meth : Method} {c : Code} {Kn : Option Value → ZH → Prop} {Kx : Nat → Prop} {h0 : ZH} {K49 : ZK ZH} (C : zCx p l (zRm 6 M 138) s m args meth c cX6_mass 7 RX6 z0 D cA M) (htab : ∀ x ∈ c.exceptionTable.toList, False) (hr : meth.sig.returnType = (some .int)) (HX6_isTag : Sem l z0 b N D cA yX6_isTag cX6_isTag 2 (some .boolean) 1 22 2 zno tX6_isTag) (HX6_in : Sem l z0 b N D cA yX6_in cX6_in 3 (some .boolean) 0 0 3 zno tX6_in) (HX6_holds : Sem l z0 b N D cA yX6_holds cX6_holds 2 (some .boolean) 0 0 2 zno tX6_holds) (HX6_edited : Sem l z0 b N D cA yX6_edited cX6_edited 7 (some .int) 5 112 5 zno tX6_edited) (HX6_begins : Sem l z0 b N D cA yX6_begins cX6_begins 2 none 0 0 1 zno tX6_begins) (HX6_sets : Sem l z0 b N D cA yX6_sets cX6_sets 3 none 0 0 3 zno tX6_sets) (hK49 : Snd p l e (zRm 6 M 138) s m args below meth c 7 z0 b (zI z0 b N D cA s) (fun _ => (0, 0)) (vx_MQ below (zQn z0 b N D cA Kn) (zXn z0 b N D cA Kx h0) args s M (6 * M) (fun q => z0 ≤ q)) 49 K49) : Snd p l e (zRm 6 M 138) s m args below meth c 7 z0 b (zI z0 b N D cA s) (fun _ => (0, 0)) (vx_MQ below (zQn z0 b N D cA Kn) (zXn z0 b N D cA Kx h0) args s M (6 * M) (fun q => z0 ≤ q)) 17 (bX6_mass_17 M Kn Kx h0 K49) := by
  obtain ⟨hx, hb, hml, hown, hts, -⟩ := id C
  unfold bX6_mass_17
  refine k_iconst hx hb dX6_mass_17 (by decide) ?_
  refine k_goto (tgt := 35) hx hb dX6_mass_18 (by decide) ?_
  exact sX6_mass_35 C htab hr HX6_isTag HX6_in HX6_holds HX6_edited HX6_begins HX6_sets hK49
set_option maxRecDepth 20000 in
theorem sX6_mass_0 {l : Launch} {z0 b N M : Nat} {D : va_G} {cA : Nat → ClassId} {p : Program} {e : Env} {s : State} {m : MethodId} {args : Array Value} {below : List Frame} {meth : Method} {c : Code} {Kn : Option Value → ZH → Prop} {Kx : Nat → Prop} {h0 : ZH} {K49 : ZK ZH} (C : zCx p l (zRm 6 M 138) s m args meth c cX6_mass 7 RX6 z0 D cA M) (htab : ∀ x ∈ c.exceptionTable.toList, False) (hr : meth.sig.returnType = (some .int)) (HX6_isTag : Sem l z0 b N D cA yX6_isTag cX6_isTag 2 (some .boolean) 1 22 2 zno tX6_isTag) (HX6_in : Sem l z0 b N D cA yX6_in cX6_in 3 (some .boolean) 0 0 3 zno tX6_in) (HX6_holds : Sem l z0 b N D cA yX6_holds cX6_holds 2 (some .boolean) 0 0 2 zno tX6_holds) (HX6_edited : Sem l z0 b N D cA yX6_edited cX6_edited 7 (some .int) 5 112 5 zno tX6_edited) (HX6_begins : Sem l z0 b N D cA yX6_begins cX6_begins 2 none 0 0 1 zno tX6_begins) (HX6_sets : Sem l z0 b N D cA yX6_sets cX6_sets 3 none 0 0 3 zno tX6_sets) (hK49 : Snd p l e (zRm 6 M 138) s m args below meth c 7 z0 b (zI z0 b N D cA s) (fun _ => (0, 0)) (vx_MQ below (zQn z0 b N D cA Kn) (zXn z0 b N D cA Kx h0) args s M (6 * M) (fun q => z0 ≤ q)) 49 K49) : Snd p l e (zRm 6 M 138) s m args below meth c 7 z0 b (zI z0 b N D cA s) (fun _ => (0, 0)) (vx_MQ below (zQn z0 b N D cA Kn) (zXn z0 b N D cA Kx h0) args s M (6 * M) (fun q => z0 ≤ q)) 0 (bX6_mass_0 M Kn Kx h0 K49) := by
  obtain ⟨hx, hb, hml, hown, hts, -⟩ := id C
  unfold bX6_mass_0
  refine k_aload_n hx hb dX6_mass_0 rfl ?_
  refine k_aload_n hx hb dX6_mass_1 rfl ?_
  refine k_iload_n hx hb dX6_mass_2 rfl ?_
  refine k_callV1 C htab (ci := 6) (Tf := TX6) (Nf := 20) (Cn := RX6) rfl HX6_isTag rfl zlX6_85 zmX6_isTag zvX6_isTag ziX6 zcX6_isTag (by decide +kernel) ⟨Nat.le_of_ble_eq_true rfl, Nat.le_of_ble_eq_true rfl⟩ dX6_mass_3 ?_
  refine k_if_eq (tgt := 17) hx hb dX6_mass_6 (by decide) ?_ ?_
  · exact sX6_mass_17 C htab hr HX6_isTag HX6_in HX6_holds HX6_edited HX6_begins HX6_sets hK49
  · refine k_aload_n hx hb dX6_mass_9 rfl ?_
    refine k_iload_n hx hb dX6_mass_10 rfl ?_
    refine k_callV1 C htab (ci := 6) (Tf := TX6) (Nf := 20) (Cn := RX6) rfl HX6_isTag rfl zlX6_85 zmX6_isTag zvX6_isTag ziX6 zcX6_isTag (by decide +kernel) ⟨Nat.le_of_ble_eq_true rfl, Nat.le_of_ble_eq_true rfl⟩ dX6_mass_11 ?_
    refine k_if_ne (tgt := 21) hx hb dX6_mass_14 (by decide) ?_ ?_
    · refine k_iload_n hx hb dX6_mass_21 rfl ?_
      refine k_iconst hx hb dX6_mass_22 (by decide) ?_
      refine k_iconst hx hb dX6_mass_23 (by decide) ?_
      refine k_callS3 C htab HX6_in zlX6_60 zsX6_in ziX6 zcX6_in (by decide +kernel) ⟨Nat.le_of_ble_eq_true rfl, Nat.le_of_ble_eq_true rfl⟩ dX6_mass_24 ?_
      refine k_if_eq (tgt := 34) hx hb dX6_mass_27 (by decide) ?_ ?_
      · refine k_iconst hx hb dX6_mass_34 (by decide) ?_
        exact sX6_mass_35 C htab hr HX6_isTag HX6_in HX6_holds HX6_edited HX6_begins HX6_sets hK49
      · refine k_iconst hx hb dX6_mass_30 (by decide) ?_
        refine k_goto (tgt := 35) hx hb dX6_mass_31 (by decide) ?_
        exact sX6_mass_35 C htab hr HX6_isTag HX6_in HX6_holds HX6_edited HX6_begins HX6_sets hK49
    · exact sX6_mass_17 C htab hr HX6_isTag HX6_in HX6_holds HX6_edited HX6_begins HX6_sets hK49
set_option maxRecDepth 20000 in
theorem uX6_mass {l : Launch} {z0 b N : Nat} {D : va_G} {cA : Nat → ClassId} (hlt : l.stackTraces = false) (HX6_isTag : Sem l z0 b N D cA yX6_isTag cX6_isTag 2 (some .boolean) 1 22 2 zno tX6_isTag) (HX6_in : Sem l z0 b N D cA yX6_in cX6_in 3 (some .boolean) 0 0 3 zno tX6_in) (HX6_holds : Sem l z0 b N D cA yX6_holds cX6_holds 2 (some .boolean) 0 0 2 zno tX6_holds) (HX6_edited : Sem l z0 b N D cA yX6_edited cX6_edited 7 (some .int) 5 112 5 zno tX6_edited) (HX6_begins : Sem l z0 b N D cA yX6_begins cX6_begins 2 none 0 0 1 zno tX6_begins) (HX6_sets : Sem l z0 b N D cA yX6_sets cX6_sets 3 none 0 0 3 zno tX6_sets) (spec : ∀ (M : Nat) (a : List Value) (h : ZH) (Kn : Option Value → ZH → Prop) (Kx : Nat → Prop), zok 4 a = true → tX6_mass a h Kn → ∀ (A : Nat → ZK ZH), (∀ ls st h', bX6_mass_49 M Kn Kx h (A 49) ls st h' → A 49 ls st h') → bX6_mass_0 M Kn Kx h (A 49) (zE 7 a) [] h) : Sem l z0 b N D cA yX6_mass cX6_mass 7 (some .int) 6 138 4 zno tX6_mass :=
  sem_of hlt (by decide +kernel) (by decide) (fun p e s m args below meth c M a h Kn Kx hok hX hN C hr htab => sX6_mass_0 C htab hr HX6_isTag HX6_in HX6_holds HX6_edited HX6_begins HX6_sets (fun _ _ _ q => q) _ _ _ (spec M a h Kn Kx hok (hN (fun _ h9 => h9)) (fun pc => AW p l e (zRm 6 M 138) s m args below meth c 7 z0 b (zI z0 b N D cA s) (fun _ => (0, 0)) (vx_MQ below (zQn z0 b N D cA Kn) (zXn z0 b N D cA Kx h) args s M (6 * M) (fun q => z0 ≤ q)) pc) (fun ls st h' hq => sX6_mass_49 C htab hr HX6_isTag HX6_in HX6_holds HX6_edited HX6_begins HX6_sets (fun _ _ _ q => q) ls st h' hq)))
set_option maxRecDepth 20000 in
theorem sX6_undo_83 {l : Launch} {z0 b N M : Nat} {D : va_G} {cA : Nat → ClassId} {p : Program} {e : Env} {s : State} {m : MethodId} {args : Array Value} {below : List Frame} {meth : Method} {c : Code} {Kn : Option Value → ZH → Prop} {Kx : Nat → Prop} {h0 : ZH} {K33 : ZK ZH} (C : zCx p l (zRm 1 M 22) s m args meth c cX6_undo 2 RX6 z0 D cA M) (htab : ∀ x ∈ c.exceptionTable.toList, False) (hr : meth.sig.returnType = (some .int)) (HX6_holds : Sem l z0 b N D cA yX6_holds cX6_holds 2 (some .boolean) 0 0 2 zno tX6_holds) (HX6_has : Sem l z0 b N D cA yX6_has cX6_has 2 (some .boolean) 0 0 2 zno tX6_has) (HX6_many : Sem l z0 b N D cA yX6_many cX6_many 3 (some .int) 0 0 1 zno tX6_many) (hK33 : Snd p l e (zRm 1 M 22) s m args below meth c 2 z0 b (zI z0 b N D cA s) (fun _ => (0, 0)) (vx_MQ below (zQn z0 b N D cA Kn) (zXn z0 b N D cA Kx h0) args s M (6 * M) (fun q => z0 ≤ q)) 33 K33) : Snd p l e (zRm 1 M 22) s m args below meth c 2 z0 b (zI z0 b N D cA s) (fun _ => (0, 0)) (vx_MQ below (zQn z0 b N D cA Kn) (zXn z0 b N D cA Kx h0) args s M (6 * M) (fun q => z0 ≤ q)) 83 (bX6_undo_83 M Kn Kx h0 K33) := by
  obtain ⟨hx, hb, hml, hown, hts, -⟩ := id C
  unfold bX6_undo_83
  refine k_iast C dX6_undo_83 ?_
  refine k_iinc hx hb dX6_undo_84 (by decide) ?_
  refine k_goto (tgt := 33) hx hb dX6_undo_87 (by decide) ?_
  exact hK33
set_option maxRecDepth 20000 in
theorem sX6_undo_33 {l : Launch} {z0 b N M : Nat} {D : va_G} {cA : Nat → ClassId} {p : Program} {e : Env} {s : State} {m : MethodId} {args : Array Value} {below : List Frame} {meth : Method} {c : Code} {Kn : Option Value → ZH → Prop} {Kx : Nat → Prop} {h0 : ZH} {K33 : ZK ZH} (C : zCx p l (zRm 1 M 22) s m args meth c cX6_undo 2 RX6 z0 D cA M) (htab : ∀ x ∈ c.exceptionTable.toList, False) (hr : meth.sig.returnType = (some .int)) (HX6_holds : Sem l z0 b N D cA yX6_holds cX6_holds 2 (some .boolean) 0 0 2 zno tX6_holds) (HX6_has : Sem l z0 b N D cA yX6_has cX6_has 2 (some .boolean) 0 0 2 zno tX6_has) (HX6_many : Sem l z0 b N D cA yX6_many cX6_many 3 (some .int) 0 0 1 zno tX6_many) (hK33 : Snd p l e (zRm 1 M 22) s m args below meth c 2 z0 b (zI z0 b N D cA s) (fun _ => (0, 0)) (vx_MQ below (zQn z0 b N D cA Kn) (zXn z0 b N D cA Kx h0) args s M (6 * M) (fun q => z0 ≤ q)) 33 K33) : Snd p l e (zRm 1 M 22) s m args below meth c 2 z0 b (zI z0 b N D cA s) (fun _ => (0, 0)) (vx_MQ below (zQn z0 b N D cA Kn) (zXn z0 b N D cA Kx h0) args s M (6 * M) (fun q => z0 ≤ q)) 33 (bX6_undo_33 M Kn Kx h0 K33) := by
  obtain ⟨hx, hb, hml, hown, hts, -⟩ := id C
  unfold bX6_undo_33
  refine k_iload_n hx hb dX6_undo_33 rfl ?_
  refine k_bipush hx hb dX6_undo_34 (by decide) ?_
  refine k_icmp_ge (tgt := 90) hx hb dX6_undo_36 (by decide) ?_ ?_
  · refine k_aload_n hx hb dX6_undo_90 rfl ?_
    refine k_getf C (ci := 6) (k := 18) (Tf := TX6) (Nf := 20) (Cn := RX6) rfl zinX6 (by decide) rfl zfX6_47 dX6_undo_91 ?_
    refine k_aload_n hx hb dX6_undo_94 rfl ?_
    refine k_getf C (ci := 6) (k := 17) (Tf := TX6) (Nf := 20) (Cn := RX6) rfl zinX6 (by decide) rfl zfX6_88 dX6_undo_95 ?_
    refine k_iald C dX6_undo_98 ?_
    refine k_callS1 C htab HX6_many zlX6_122 zsX6_many ziX6 zcX6_many (by decide +kernel) ⟨Nat.le_of_ble_eq_true rfl, Nat.le_of_ble_eq_true rfl⟩ dX6_undo_99 ?_
    exact k_ret C hr dX6_undo_102
  · refine k_aload_n hx hb dX6_undo_39 rfl ?_
    refine k_getf C (ci := 6) (k := 9) (Tf := TX6) (Nf := 20) (Cn := RX6) rfl zinX6 (by decide) rfl zfX6_26 dX6_undo_40 ?_
    refine k_iload_n hx hb dX6_undo_43 rfl ?_
    refine k_aload_n hx hb dX6_undo_44 rfl ?_
    refine k_getf C (ci := 6) (k := 18) (Tf := TX6) (Nf := 20) (Cn := RX6) rfl zinX6 (by decide) rfl zfX6_47 dX6_undo_45 ?_
    refine k_aload_n hx hb dX6_undo_48 rfl ?_
    refine k_getf C (ci := 6) (k := 17) (Tf := TX6) (Nf := 20) (Cn := RX6) rfl zinX6 (by decide) rfl zfX6_88 dX6_undo_49 ?_
    refine k_iald C dX6_undo_52 ?_
    refine k_iload_n hx hb dX6_undo_53 rfl ?_
    refine k_callS2 C htab HX6_has zlX6_108 zsX6_has ziX6 zcX6_has (by decide +kernel) ⟨Nat.le_of_ble_eq_true rfl, Nat.le_of_ble_eq_true rfl⟩ dX6_undo_54 ?_
    refine k_if_eq (tgt := 77) hx hb dX6_undo_57 (by decide) ?_ ?_
    · refine k_aload_n hx hb dX6_undo_77 rfl ?_
      refine k_getf C (ci := 6) (k := 9) (Tf := TX6) (Nf := 20) (Cn := RX6) rfl zinX6 (by decide) rfl zfX6_26 dX6_undo_78 ?_
      refine k_iload_n hx hb dX6_undo_81 rfl ?_
      refine k_iald C dX6_undo_82 ?_
      exact sX6_undo_83 C htab hr HX6_holds HX6_has HX6_many hK33
    · refine k_aload_n hx hb dX6_undo_60 rfl ?_
      refine k_getf C (ci := 6) (k := 19) (Tf := TX6) (Nf := 20) (Cn := RX6) rfl zinX6 (by decide) rfl zfX6_50 dX6_undo_61 ?_
      refine k_bipush hx hb dX6_undo_64 (by decide) ?_
      refine k_aload_n hx hb dX6_undo_66 rfl ?_
      refine k_getf C (ci := 6) (k := 17) (Tf := TX6) (Nf := 20) (Cn := RX6) rfl zinX6 (by decide) rfl zfX6_88 dX6_undo_67 ?_
      refine k_imul hx hb dX6_undo_70 ?_
      refine k_iload_n hx hb dX6_undo_71 rfl ?_
      refine k_iadd hx hb dX6_undo_72 ?_
      refine k_iald C dX6_undo_73 ?_
      refine k_goto (tgt := 83) hx hb dX6_undo_74 (by decide) ?_
      exact sX6_undo_83 C htab hr HX6_holds HX6_has HX6_many hK33
set_option maxRecDepth 20000 in
theorem sX6_undo_13 {l : Launch} {z0 b N M : Nat} {D : va_G} {cA : Nat → ClassId} {p : Program} {e : Env} {s : State} {m : MethodId} {args : Array Value} {below : List Frame} {meth : Method} {c : Code} {Kn : Option Value → ZH → Prop} {Kx : Nat → Prop} {h0 : ZH} {K33 : ZK ZH} (C : zCx p l (zRm 1 M 22) s m args meth c cX6_undo 2 RX6 z0 D cA M) (htab : ∀ x ∈ c.exceptionTable.toList, False) (hr : meth.sig.returnType = (some .int)) (HX6_holds : Sem l z0 b N D cA yX6_holds cX6_holds 2 (some .boolean) 0 0 2 zno tX6_holds) (HX6_has : Sem l z0 b N D cA yX6_has cX6_has 2 (some .boolean) 0 0 2 zno tX6_has) (HX6_many : Sem l z0 b N D cA yX6_many cX6_many 3 (some .int) 0 0 1 zno tX6_many) (hK33 : Snd p l e (zRm 1 M 22) s m args below meth c 2 z0 b (zI z0 b N D cA s) (fun _ => (0, 0)) (vx_MQ below (zQn z0 b N D cA Kn) (zXn z0 b N D cA Kx h0) args s M (6 * M) (fun q => z0 ≤ q)) 33 K33) : Snd p l e (zRm 1 M 22) s m args below meth c 2 z0 b (zI z0 b N D cA s) (fun _ => (0, 0)) (vx_MQ below (zQn z0 b N D cA Kn) (zXn z0 b N D cA Kx h0) args s M (6 * M) (fun q => z0 ≤ q)) 13 (bX6_undo_13 M Kn Kx h0 K33) := by
  obtain ⟨hx, hb, hml, hown, hts, -⟩ := id C
  unfold bX6_undo_13
  refine k_callV1 C htab (ci := 6) (Tf := TX6) (Nf := 20) (Cn := RX6) rfl HX6_holds rfl zlX6_78 zmX6_holds zvX6_holds ziX6 zcX6_holds (by decide +kernel) ⟨Nat.le_of_ble_eq_true rfl, Nat.le_of_ble_eq_true rfl⟩ dX6_undo_13 ?_
  refine k_if_ne (tgt := 21) hx hb dX6_undo_16 (by decide) ?_ ?_
  · refine k_aload_n hx hb dX6_undo_21 rfl ?_
    refine k_dup hx hb dX6_undo_22 ?_
    refine k_getf C (ci := 6) (k := 17) (Tf := TX6) (Nf := 20) (Cn := RX6) rfl zinX6 (by decide) rfl zfX6_88 dX6_undo_23 ?_
    refine k_iconst hx hb dX6_undo_26 (by decide) ?_
    refine k_isub hx hb dX6_undo_27 ?_
    refine k_puti C (ci := 6) (k := 17) (Tf := TX6) (Nf := 20) (Cn := RX6) tyX6 tyX6_ok nmX6 rfl zinX6 (by decide) rfl rfl (by decide +kernel) zfX6_88 dX6_undo_28 ?_
    refine k_iconst hx hb dX6_undo_31 (by decide) ?_
    refine k_istore_n hx hb dX6_undo_32 rfl ?_
    exact hK33
  · refine k_iconst hx hb dX6_undo_19 (by decide) ?_
    exact k_ret C hr dX6_undo_20
set_option maxRecDepth 20000 in
theorem sX6_undo_0 {l : Launch} {z0 b N M : Nat} {D : va_G} {cA : Nat → ClassId} {p : Program} {e : Env} {s : State} {m : MethodId} {args : Array Value} {below : List Frame} {meth : Method} {c : Code} {Kn : Option Value → ZH → Prop} {Kx : Nat → Prop} {h0 : ZH} {K33 : ZK ZH} (C : zCx p l (zRm 1 M 22) s m args meth c cX6_undo 2 RX6 z0 D cA M) (htab : ∀ x ∈ c.exceptionTable.toList, False) (hr : meth.sig.returnType = (some .int)) (HX6_holds : Sem l z0 b N D cA yX6_holds cX6_holds 2 (some .boolean) 0 0 2 zno tX6_holds) (HX6_has : Sem l z0 b N D cA yX6_has cX6_has 2 (some .boolean) 0 0 2 zno tX6_has) (HX6_many : Sem l z0 b N D cA yX6_many cX6_many 3 (some .int) 0 0 1 zno tX6_many) (hK33 : Snd p l e (zRm 1 M 22) s m args below meth c 2 z0 b (zI z0 b N D cA s) (fun _ => (0, 0)) (vx_MQ below (zQn z0 b N D cA Kn) (zXn z0 b N D cA Kx h0) args s M (6 * M) (fun q => z0 ≤ q)) 33 K33) : Snd p l e (zRm 1 M 22) s m args below meth c 2 z0 b (zI z0 b N D cA s) (fun _ => (0, 0)) (vx_MQ below (zQn z0 b N D cA Kn) (zXn z0 b N D cA Kx h0) args s M (6 * M) (fun q => z0 ≤ q)) 0 (bX6_undo_0 M Kn Kx h0 K33) := by
  obtain ⟨hx, hb, hml, hown, hts, -⟩ := id C
  unfold bX6_undo_0
  refine k_aload_n hx hb dX6_undo_0 rfl ?_
  refine k_aload_n hx hb dX6_undo_1 rfl ?_
  refine k_getf C (ci := 6) (k := 17) (Tf := TX6) (Nf := 20) (Cn := RX6) rfl zinX6 (by decide) rfl zfX6_88 dX6_undo_2 ?_
  refine k_if_ne (tgt := 12) hx hb dX6_undo_5 (by decide) ?_ ?_
  · refine k_iconst hx hb dX6_undo_12 (by decide) ?_
    exact sX6_undo_13 C htab hr HX6_holds HX6_has HX6_many hK33
  · refine k_iconst hx hb dX6_undo_8 (by decide) ?_
    refine k_goto (tgt := 13) hx hb dX6_undo_9 (by decide) ?_
    exact sX6_undo_13 C htab hr HX6_holds HX6_has HX6_many hK33
set_option maxRecDepth 20000 in
theorem uX6_undo {l : Launch} {z0 b N : Nat} {D : va_G} {cA : Nat → ClassId} (hlt : l.stackTraces = false) (HX6_holds : Sem l z0 b N D cA yX6_holds cX6_holds 2 (some .boolean) 0 0 2 zno tX6_holds) (HX6_has : Sem l z0 b N D cA yX6_has cX6_has 2 (some .boolean) 0 0 2 zno tX6_has) (HX6_many : Sem l z0 b N D cA yX6_many cX6_many 3 (some .int) 0 0 1 zno tX6_many) (spec : ∀ (M : Nat) (a : List Value) (h : ZH) (Kn : Option Value → ZH → Prop) (Kx : Nat → Prop), zok 1 a = true → tX6_undo a h Kn → ∀ (A : Nat → ZK ZH), (∀ ls st h', bX6_undo_33 M Kn Kx h (A 33) ls st h' → A 33 ls st h') → bX6_undo_0 M Kn Kx h (A 33) (zE 2 a) [] h) : Sem l z0 b N D cA yX6_undo cX6_undo 2 (some .int) 1 22 1 zno tX6_undo :=
  sem_of hlt (by decide +kernel) (by decide) (fun p e s m args below meth c M a h Kn Kx hok hX hN C hr htab => sX6_undo_0 C htab hr HX6_holds HX6_has HX6_many (fun _ _ _ q => q) _ _ _ (spec M a h Kn Kx hok (hN (fun _ h9 => h9)) (fun pc => AW p l e (zRm 1 M 22) s m args below meth c 2 z0 b (zI z0 b N D cA s) (fun _ => (0, 0)) (vx_MQ below (zQn z0 b N D cA Kn) (zXn z0 b N D cA Kx h) args s M (6 * M) (fun q => z0 ≤ q)) pc) (fun ls st h' hq => sX6_undo_33 C htab hr HX6_holds HX6_has HX6_many (fun _ _ _ q => q) ls st h' hq)))
set_option maxRecDepth 20000 in
theorem sX6_kept_0 {l : Launch} {z0 b N M : Nat} {D : va_G} {cA : Nat → ClassId} {p : Program} {e : Env} {s : State} {m : MethodId} {args : Array Value} {below : List Frame} {meth : Method} {c : Code} {Kn : Option Value → ZH → Prop} {Kx : Nat → Prop} {h0 : ZH} (C : zCx p l (zRm 0 M 0) s m args meth c cX6_kept 1 RX6 z0 D cA M) (htab : ∀ x ∈ c.exceptionTable.toList, False) (hr : meth.sig.returnType = (some .int)) : Snd p l e (zRm 0 M 0) s m args below meth c 1 z0 b (zI z0 b N D cA s) (fun _ => (0, 0)) (vx_MQ below (zQn z0 b N D cA Kn) (zXn z0 b N D cA Kx h0) args s M (6 * M) (fun q => z0 ≤ q)) 0 (bX6_kept_0 M Kn Kx h0) := by
  obtain ⟨hx, hb, hml, hown, hts, -⟩ := id C
  unfold bX6_kept_0
  refine k_aload_n hx hb dX6_kept_0 rfl ?_
  refine k_iconst hx hb dX6_kept_1 (by decide) ?_
  refine k_puti C (ci := 6) (k := 0) (Tf := TX6) (Nf := 20) (Cn := RX6) tyX6 tyX6_ok nmX6 rfl zinX6 (by decide) rfl rfl (by decide +kernel) zfX6_53 dX6_kept_2 ?_
  refine k_aload_n hx hb dX6_kept_5 rfl ?_
  refine k_getf C (ci := 6) (k := 17) (Tf := TX6) (Nf := 20) (Cn := RX6) rfl zinX6 (by decide) rfl zfX6_88 dX6_kept_6 ?_
  exact k_ret C hr dX6_kept_9
set_option maxRecDepth 20000 in
theorem uX6_kept {l : Launch} {z0 b N : Nat} {D : va_G} {cA : Nat → ClassId} (hlt : l.stackTraces = false) (spec : ∀ (M : Nat) (a : List Value) (h : ZH) (Kn : Option Value → ZH → Prop) (Kx : Nat → Prop), zok 1 a = true → tX6_kept a h Kn → bX6_kept_0 M Kn Kx h (zE 1 a) [] h) : Sem l z0 b N D cA yX6_kept cX6_kept 1 (some .int) 0 0 1 zno tX6_kept :=
  sem_of hlt (by decide +kernel) (by decide) (fun p e s m args below meth c M a h Kn Kx hok hX hN C hr htab => sX6_kept_0 C htab hr _ _ _ (spec M a h Kn Kx hok (hN (fun _ h9 => h9))))
set_option maxRecDepth 20000 in
theorem sX6_hand_30 {l : Launch} {z0 b N M : Nat} {D : va_G} {cA : Nat → ClassId} {p : Program} {e : Env} {s : State} {m : MethodId} {args : Array Value} {below : List Frame} {meth : Method} {c : Code} {Kn : Option Value → ZH → Prop} {Kx : Nat → Prop} {h0 : ZH} (C : zCx p l (zRm 2 M 43) s m args meth c cX6_hand 2 RX6 z0 D cA M) (htab : ∀ x ∈ c.exceptionTable.toList, False) (hr : meth.sig.returnType = (some .int)) (HX6_isThing : Sem l z0 b N D cA yX6_isThing cX6_isThing 2 (some .boolean) 1 22 2 zno tX6_isThing) (HX6_holds : Sem l z0 b N D cA yX6_holds cX6_holds 2 (some .boolean) 0 0 2 zno tX6_holds) : Snd p l e (zRm 2 M 43) s m args below meth c 2 z0 b (zI z0 b N D cA s) (fun _ => (0, 0)) (vx_MQ below (zQn z0 b N D cA Kn) (zXn z0 b N D cA Kx h0) args s M (6 * M) (fun q => z0 ≤ q)) 30 (bX6_hand_30 M Kn Kx h0) := by
  obtain ⟨hx, hb, hml, hown, hts, -⟩ := id C
  unfold bX6_hand_30
  exact k_ret C hr dX6_hand_30
set_option maxRecDepth 20000 in
theorem sX6_hand_14 {l : Launch} {z0 b N M : Nat} {D : va_G} {cA : Nat → ClassId} {p : Program} {e : Env} {s : State} {m : MethodId} {args : Array Value} {below : List Frame} {meth : Method} {c : Code} {Kn : Option Value → ZH → Prop} {Kx : Nat → Prop} {h0 : ZH} (C : zCx p l (zRm 2 M 43) s m args meth c cX6_hand 2 RX6 z0 D cA M) (htab : ∀ x ∈ c.exceptionTable.toList, False) (hr : meth.sig.returnType = (some .int)) (HX6_isThing : Sem l z0 b N D cA yX6_isThing cX6_isThing 2 (some .boolean) 1 22 2 zno tX6_isThing) (HX6_holds : Sem l z0 b N D cA yX6_holds cX6_holds 2 (some .boolean) 0 0 2 zno tX6_holds) : Snd p l e (zRm 2 M 43) s m args below meth c 2 z0 b (zI z0 b N D cA s) (fun _ => (0, 0)) (vx_MQ below (zQn z0 b N D cA Kn) (zXn z0 b N D cA Kx h0) args s M (6 * M) (fun q => z0 ≤ q)) 14 (bX6_hand_14 M Kn Kx h0) := by
  obtain ⟨hx, hb, hml, hown, hts, -⟩ := id C
  unfold bX6_hand_14
  refine k_callV1 C htab (ci := 6) (Tf := TX6) (Nf := 20) (Cn := RX6) rfl HX6_holds rfl zlX6_78 zmX6_holds zvX6_holds ziX6 zcX6_holds (by decide +kernel) ⟨Nat.le_of_ble_eq_true rfl, Nat.le_of_ble_eq_true rfl⟩ dX6_hand_14 ?_
  refine k_if_eq (tgt := 29) hx hb dX6_hand_17 (by decide) ?_ ?_
  · refine k_iconst hx hb dX6_hand_29 (by decide) ?_
    exact sX6_hand_30 C htab hr HX6_isThing HX6_holds
  · refine k_aload_n hx hb dX6_hand_20 rfl ?_
    refine k_getf C (ci := 6) (k := 9) (Tf := TX6) (Nf := 20) (Cn := RX6) rfl zinX6 (by decide) rfl zfX6_26 dX6_hand_21 ?_
    refine k_iload_n hx hb dX6_hand_24 rfl ?_
    refine k_iald C dX6_hand_25 ?_
    refine k_goto (tgt := 30) hx hb dX6_hand_26 (by decide) ?_
    exact sX6_hand_30 C htab hr HX6_isThing HX6_holds
set_option maxRecDepth 20000 in
theorem sX6_hand_0 {l : Launch} {z0 b N M : Nat} {D : va_G} {cA : Nat → ClassId} {p : Program} {e : Env} {s : State} {m : MethodId} {args : Array Value} {below : List Frame} {meth : Method} {c : Code} {Kn : Option Value → ZH → Prop} {Kx : Nat → Prop} {h0 : ZH} (C : zCx p l (zRm 2 M 43) s m args meth c cX6_hand 2 RX6 z0 D cA M) (htab : ∀ x ∈ c.exceptionTable.toList, False) (hr : meth.sig.returnType = (some .int)) (HX6_isThing : Sem l z0 b N D cA yX6_isThing cX6_isThing 2 (some .boolean) 1 22 2 zno tX6_isThing) (HX6_holds : Sem l z0 b N D cA yX6_holds cX6_holds 2 (some .boolean) 0 0 2 zno tX6_holds) : Snd p l e (zRm 2 M 43) s m args below meth c 2 z0 b (zI z0 b N D cA s) (fun _ => (0, 0)) (vx_MQ below (zQn z0 b N D cA Kn) (zXn z0 b N D cA Kx h0) args s M (6 * M) (fun q => z0 ≤ q)) 0 (bX6_hand_0 M Kn Kx h0) := by
  obtain ⟨hx, hb, hml, hown, hts, -⟩ := id C
  unfold bX6_hand_0
  refine k_aload_n hx hb dX6_hand_0 rfl ?_
  refine k_aload_n hx hb dX6_hand_1 rfl ?_
  refine k_iload_n hx hb dX6_hand_2 rfl ?_
  refine k_callV1 C htab (ci := 6) (Tf := TX6) (Nf := 20) (Cn := RX6) rfl HX6_isThing rfl zlX6_98 zmX6_isThing zvX6_isThing ziX6 zcX6_isThing (by decide +kernel) ⟨Nat.le_of_ble_eq_true rfl, Nat.le_of_ble_eq_true rfl⟩ dX6_hand_3 ?_
  refine k_if_eq (tgt := 13) hx hb dX6_hand_6 (by decide) ?_ ?_
  · refine k_iconst hx hb dX6_hand_13 (by decide) ?_
    exact sX6_hand_14 C htab hr HX6_isThing HX6_holds
  · refine k_iconst hx hb dX6_hand_9 (by decide) ?_
    refine k_goto (tgt := 14) hx hb dX6_hand_10 (by decide) ?_
    exact sX6_hand_14 C htab hr HX6_isThing HX6_holds
set_option maxRecDepth 20000 in
theorem uX6_hand {l : Launch} {z0 b N : Nat} {D : va_G} {cA : Nat → ClassId} (hlt : l.stackTraces = false) (HX6_isThing : Sem l z0 b N D cA yX6_isThing cX6_isThing 2 (some .boolean) 1 22 2 zno tX6_isThing) (HX6_holds : Sem l z0 b N D cA yX6_holds cX6_holds 2 (some .boolean) 0 0 2 zno tX6_holds) (spec : ∀ (M : Nat) (a : List Value) (h : ZH) (Kn : Option Value → ZH → Prop) (Kx : Nat → Prop), zok 2 a = true → tX6_hand a h Kn → bX6_hand_0 M Kn Kx h (zE 2 a) [] h) : Sem l z0 b N D cA yX6_hand cX6_hand 2 (some .int) 2 43 2 zno tX6_hand :=
  sem_of hlt (by decide +kernel) (by decide) (fun p e s m args below meth c M a h Kn Kx hok hX hN C hr htab => sX6_hand_0 C htab hr HX6_isThing HX6_holds _ _ _ (spec M a h Kn Kx hok (hN (fun _ h9 => h9))))
set_option maxRecDepth 20000 in
theorem sX6_endOf_2 {l : Launch} {z0 b N M : Nat} {D : va_G} {cA : Nat → ClassId} {p : Program} {e : Env} {s : State} {m : MethodId} {args : Array Value} {below : List Frame} {meth : Method} {c : Code} {Kn : Option Value → ZH → Prop} {Kx : Nat → Prop} {h0 : ZH} {K2 : ZK ZH} (C : zCx p l (zRm 0 M 0) s m args meth c cX6_endOf 3 RX6 z0 D cA M) (htab : ∀ x ∈ c.exceptionTable.toList, False) (hr : meth.sig.returnType = (some .int)) (hK2 : Snd p l e (zRm 0 M 0) s m args below meth c 3 z0 b (zI z0 b N D cA s) (fun _ => (0, 0)) (vx_MQ below (zQn z0 b N D cA Kn) (zXn z0 b N D cA Kx h0) args s M (6 * M) (fun q => z0 ≤ q)) 2 K2) : Snd p l e (zRm 0 M 0) s m args below meth c 3 z0 b (zI z0 b N D cA s) (fun _ => (0, 0)) (vx_MQ below (zQn z0 b N D cA Kn) (zXn z0 b N D cA Kx h0) args s M (6 * M) (fun q => z0 ≤ q)) 2 (bX6_endOf_2 M Kn Kx h0 K2) := by
  obtain ⟨hx, hb, hml, hown, hts, -⟩ := id C
  unfold bX6_endOf_2
  refine k_aload_n hx hb dX6_endOf_2 rfl ?_
  refine k_getf C (ci := 6) (k := 6) (Tf := TX6) (Nf := 20) (Cn := RX6) rfl zinX6 (by decide) rfl zfX6_20 dX6_endOf_3 ?_
  refine k_iload_n hx hb dX6_endOf_6 rfl ?_
  refine k_iald C dX6_endOf_7 ?_
  refine k_iconst hx hb dX6_endOf_8 (by decide) ?_
  refine k_icmp_eq (tgt := 22) hx hb dX6_endOf_9 (by decide) ?_ ?_
  · refine k_iload_n hx hb dX6_endOf_22 rfl ?_
    exact k_ret C hr dX6_endOf_23
  · refine k_aload_n hx hb dX6_endOf_12 rfl ?_
    refine k_getf C (ci := 6) (k := 6) (Tf := TX6) (Nf := 20) (Cn := RX6) rfl zinX6 (by decide) rfl zfX6_20 dX6_endOf_13 ?_
    refine k_iload_n hx hb dX6_endOf_16 rfl ?_
    refine k_iald C dX6_endOf_17 ?_
    refine k_istore_n hx hb dX6_endOf_18 rfl ?_
    refine k_goto (tgt := 2) hx hb dX6_endOf_19 (by decide) ?_
    exact hK2
set_option maxRecDepth 20000 in
theorem sX6_endOf_0 {l : Launch} {z0 b N M : Nat} {D : va_G} {cA : Nat → ClassId} {p : Program} {e : Env} {s : State} {m : MethodId} {args : Array Value} {below : List Frame} {meth : Method} {c : Code} {Kn : Option Value → ZH → Prop} {Kx : Nat → Prop} {h0 : ZH} {K2 : ZK ZH} (C : zCx p l (zRm 0 M 0) s m args meth c cX6_endOf 3 RX6 z0 D cA M) (htab : ∀ x ∈ c.exceptionTable.toList, False) (hr : meth.sig.returnType = (some .int)) (hK2 : Snd p l e (zRm 0 M 0) s m args below meth c 3 z0 b (zI z0 b N D cA s) (fun _ => (0, 0)) (vx_MQ below (zQn z0 b N D cA Kn) (zXn z0 b N D cA Kx h0) args s M (6 * M) (fun q => z0 ≤ q)) 2 K2) : Snd p l e (zRm 0 M 0) s m args below meth c 3 z0 b (zI z0 b N D cA s) (fun _ => (0, 0)) (vx_MQ below (zQn z0 b N D cA Kn) (zXn z0 b N D cA Kx h0) args s M (6 * M) (fun q => z0 ≤ q)) 0 (bX6_endOf_0 M Kn Kx h0 K2) := by
  obtain ⟨hx, hb, hml, hown, hts, -⟩ := id C
  unfold bX6_endOf_0
  refine k_iload_n hx hb dX6_endOf_0 rfl ?_
  refine k_istore_n hx hb dX6_endOf_1 rfl ?_
  exact hK2
set_option maxRecDepth 20000 in
theorem uX6_endOf {l : Launch} {z0 b N : Nat} {D : va_G} {cA : Nat → ClassId} (hlt : l.stackTraces = false) (spec : ∀ (M : Nat) (a : List Value) (h : ZH) (Kn : Option Value → ZH → Prop) (Kx : Nat → Prop), zok 2 a = true → tX6_endOf a h Kn → ∀ (A : Nat → ZK ZH), (∀ ls st h', bX6_endOf_2 M Kn Kx h (A 2) ls st h' → A 2 ls st h') → bX6_endOf_0 M Kn Kx h (A 2) (zE 3 a) [] h) : Sem l z0 b N D cA yX6_endOf cX6_endOf 3 (some .int) 0 0 2 zno tX6_endOf :=
  sem_of hlt (by decide +kernel) (by decide) (fun p e s m args below meth c M a h Kn Kx hok hX hN C hr htab => sX6_endOf_0 C htab hr (fun _ _ _ q => q) _ _ _ (spec M a h Kn Kx hok (hN (fun _ h9 => h9)) (fun pc => AW p l e (zRm 0 M 0) s m args below meth c 3 z0 b (zI z0 b N D cA s) (fun _ => (0, 0)) (vx_MQ below (zQn z0 b N D cA Kn) (zXn z0 b N D cA Kx h) args s M (6 * M) (fun q => z0 ≤ q)) pc) (fun ls st h' hq => sX6_endOf_2 C htab hr (fun _ _ _ q => q) ls st h' hq)))
set_option maxRecDepth 20000 in
theorem sX6_endsOf_32 {l : Launch} {z0 b N M : Nat} {D : va_G} {cA : Nat → ClassId} {p : Program} {e : Env} {s : State} {m : MethodId} {args : Array Value} {below : List Frame} {meth : Method} {c : Code} {Kn : Option Value → ZH → Prop} {Kx : Nat → Prop} {h0 : ZH} {K4 : ZK ZH} (C : zCx p l (zRm 1 M 22) s m args meth c cX6_endsOf 4 RX6 z0 D cA M) (htab : ∀ x ∈ c.exceptionTable.toList, False) (hr : meth.sig.returnType = (some .int)) (HX6_has : Sem l z0 b N D cA yX6_has cX6_has 2 (some .boolean) 0 0 2 zno tX6_has) (HX6_endOf : Sem l z0 b N D cA yX6_endOf cX6_endOf 3 (some .int) 0 0 2 zno tX6_endOf) (hK4 : Snd p l e (zRm 1 M 22) s m args below meth c 4 z0 b (zI z0 b N D cA s) (fun _ => (0, 0)) (vx_MQ below (zQn z0 b N D cA Kn) (zXn z0 b N D cA Kx h0) args s M (6 * M) (fun q => z0 ≤ q)) 4 K4) : Snd p l e (zRm 1 M 22) s m args below meth c 4 z0 b (zI z0 b N D cA s) (fun _ => (0, 0)) (vx_MQ below (zQn z0 b N D cA Kn) (zXn z0 b N D cA Kx h0) args s M (6 * M) (fun q => z0 ≤ q)) 32 (bX6_endsOf_32 M Kn Kx h0 K4) := by
  obtain ⟨hx, hb, hml, hown, hts, -⟩ := id C
  unfold bX6_endsOf_32
  refine k_ior hx hb dX6_endsOf_32 ?_
  refine k_istore_n hx hb dX6_endsOf_33 rfl ?_
  refine k_iinc hx hb dX6_endsOf_34 (by decide) ?_
  refine k_goto (tgt := 4) hx hb dX6_endsOf_37 (by decide) ?_
  exact hK4
set_option maxRecDepth 20000 in
theorem sX6_endsOf_4 {l : Launch} {z0 b N M : Nat} {D : va_G} {cA : Nat → ClassId} {p : Program} {e : Env} {s : State} {m : MethodId} {args : Array Value} {below : List Frame} {meth : Method} {c : Code} {Kn : Option Value → ZH → Prop} {Kx : Nat → Prop} {h0 : ZH} {K4 : ZK ZH} (C : zCx p l (zRm 1 M 22) s m args meth c cX6_endsOf 4 RX6 z0 D cA M) (htab : ∀ x ∈ c.exceptionTable.toList, False) (hr : meth.sig.returnType = (some .int)) (HX6_has : Sem l z0 b N D cA yX6_has cX6_has 2 (some .boolean) 0 0 2 zno tX6_has) (HX6_endOf : Sem l z0 b N D cA yX6_endOf cX6_endOf 3 (some .int) 0 0 2 zno tX6_endOf) (hK4 : Snd p l e (zRm 1 M 22) s m args below meth c 4 z0 b (zI z0 b N D cA s) (fun _ => (0, 0)) (vx_MQ below (zQn z0 b N D cA Kn) (zXn z0 b N D cA Kx h0) args s M (6 * M) (fun q => z0 ≤ q)) 4 K4) : Snd p l e (zRm 1 M 22) s m args below meth c 4 z0 b (zI z0 b N D cA s) (fun _ => (0, 0)) (vx_MQ below (zQn z0 b N D cA Kn) (zXn z0 b N D cA Kx h0) args s M (6 * M) (fun q => z0 ≤ q)) 4 (bX6_endsOf_4 M Kn Kx h0 K4) := by
  obtain ⟨hx, hb, hml, hown, hts, -⟩ := id C
  unfold bX6_endsOf_4
  refine k_iload_n hx hb dX6_endsOf_4 rfl ?_
  refine k_aload_n hx hb dX6_endsOf_5 rfl ?_
  refine k_getf C (ci := 6) (k := 3) (Tf := TX6) (Nf := 20) (Cn := RX6) rfl zinX6 (by decide) rfl zfX6_57 dX6_endsOf_6 ?_
  refine k_icmp_ge (tgt := 40) hx hb dX6_endsOf_9 (by decide) ?_ ?_
  · refine k_iload_n hx hb dX6_endsOf_40 rfl ?_
    exact k_ret C hr dX6_endsOf_41
  · refine k_iload_n hx hb dX6_endsOf_12 rfl ?_
    refine k_iload_n hx hb dX6_endsOf_13 rfl ?_
    refine k_iload_n hx hb dX6_endsOf_14 rfl ?_
    refine k_callS2 C htab HX6_has zlX6_108 zsX6_has ziX6 zcX6_has (by decide +kernel) ⟨Nat.le_of_ble_eq_true rfl, Nat.le_of_ble_eq_true rfl⟩ dX6_endsOf_15 ?_
    refine k_if_eq (tgt := 31) hx hb dX6_endsOf_18 (by decide) ?_ ?_
    · refine k_iconst hx hb dX6_endsOf_31 (by decide) ?_
      exact sX6_endsOf_32 C htab hr HX6_has HX6_endOf hK4
    · refine k_iconst hx hb dX6_endsOf_21 (by decide) ?_
      refine k_aload_n hx hb dX6_endsOf_22 rfl ?_
      refine k_iload_n hx hb dX6_endsOf_23 rfl ?_
      refine k_callV1 C htab (ci := 6) (Tf := TX6) (Nf := 20) (Cn := RX6) rfl HX6_endOf rfl zlX6_115 zmX6_endOf zvX6_endOf ziX6 zcX6_endOf (by decide +kernel) ⟨Nat.le_of_ble_eq_true rfl, Nat.le_of_ble_eq_true rfl⟩ dX6_endsOf_24 ?_
      refine k_ishl hx hb dX6_endsOf_27 ?_
      refine k_goto (tgt := 32) hx hb dX6_endsOf_28 (by decide) ?_
      exact sX6_endsOf_32 C htab hr HX6_has HX6_endOf hK4
set_option maxRecDepth 20000 in
theorem sX6_endsOf_0 {l : Launch} {z0 b N M : Nat} {D : va_G} {cA : Nat → ClassId} {p : Program} {e : Env} {s : State} {m : MethodId} {args : Array Value} {below : List Frame} {meth : Method} {c : Code} {Kn : Option Value → ZH → Prop} {Kx : Nat → Prop} {h0 : ZH} {K4 : ZK ZH} (C : zCx p l (zRm 1 M 22) s m args meth c cX6_endsOf 4 RX6 z0 D cA M) (htab : ∀ x ∈ c.exceptionTable.toList, False) (hr : meth.sig.returnType = (some .int)) (HX6_has : Sem l z0 b N D cA yX6_has cX6_has 2 (some .boolean) 0 0 2 zno tX6_has) (HX6_endOf : Sem l z0 b N D cA yX6_endOf cX6_endOf 3 (some .int) 0 0 2 zno tX6_endOf) (hK4 : Snd p l e (zRm 1 M 22) s m args below meth c 4 z0 b (zI z0 b N D cA s) (fun _ => (0, 0)) (vx_MQ below (zQn z0 b N D cA Kn) (zXn z0 b N D cA Kx h0) args s M (6 * M) (fun q => z0 ≤ q)) 4 K4) : Snd p l e (zRm 1 M 22) s m args below meth c 4 z0 b (zI z0 b N D cA s) (fun _ => (0, 0)) (vx_MQ below (zQn z0 b N D cA Kn) (zXn z0 b N D cA Kx h0) args s M (6 * M) (fun q => z0 ≤ q)) 0 (bX6_endsOf_0 M Kn Kx h0 K4) := by
  obtain ⟨hx, hb, hml, hown, hts, -⟩ := id C
  unfold bX6_endsOf_0
  refine k_iconst hx hb dX6_endsOf_0 (by decide) ?_
  refine k_istore_n hx hb dX6_endsOf_1 rfl ?_
  refine k_iconst hx hb dX6_endsOf_2 (by decide) ?_
  refine k_istore_n hx hb dX6_endsOf_3 rfl ?_
  exact hK4
set_option maxRecDepth 20000 in
theorem uX6_endsOf {l : Launch} {z0 b N : Nat} {D : va_G} {cA : Nat → ClassId} (hlt : l.stackTraces = false) (HX6_has : Sem l z0 b N D cA yX6_has cX6_has 2 (some .boolean) 0 0 2 zno tX6_has) (HX6_endOf : Sem l z0 b N D cA yX6_endOf cX6_endOf 3 (some .int) 0 0 2 zno tX6_endOf) (spec : ∀ (M : Nat) (a : List Value) (h : ZH) (Kn : Option Value → ZH → Prop) (Kx : Nat → Prop), zok 2 a = true → tX6_endsOf a h Kn → ∀ (A : Nat → ZK ZH), (∀ ls st h', bX6_endsOf_4 M Kn Kx h (A 4) ls st h' → A 4 ls st h') → bX6_endsOf_0 M Kn Kx h (A 4) (zE 4 a) [] h) : Sem l z0 b N D cA yX6_endsOf cX6_endsOf 4 (some .int) 1 22 2 zno tX6_endsOf :=
  sem_of hlt (by decide +kernel) (by decide) (fun p e s m args below meth c M a h Kn Kx hok hX hN C hr htab => sX6_endsOf_0 C htab hr HX6_has HX6_endOf (fun _ _ _ q => q) _ _ _ (spec M a h Kn Kx hok (hN (fun _ h9 => h9)) (fun pc => AW p l e (zRm 1 M 22) s m args below meth c 4 z0 b (zI z0 b N D cA s) (fun _ => (0, 0)) (vx_MQ below (zQn z0 b N D cA Kn) (zXn z0 b N D cA Kx h) args s M (6 * M) (fun q => z0 ≤ q)) pc) (fun ls st h' hq => sX6_endsOf_4 C htab hr HX6_has HX6_endOf (fun _ _ _ q => q) ls st h' hq)))
set_option maxRecDepth 20000 in
theorem sX6_onward_39 {l : Launch} {z0 b N M : Nat} {D : va_G} {cA : Nat → ClassId} {p : Program} {e : Env} {s : State} {m : MethodId} {args : Array Value} {below : List Frame} {meth : Method} {c : Code} {Kn : Option Value → ZH → Prop} {Kx : Nat → Prop} {h0 : ZH} {K4 : ZK ZH} (C : zCx p l (zRm 2 M 45) s m args meth c cX6_onward 4 RX6 z0 D cA M) (htab : ∀ x ∈ c.exceptionTable.toList, False) (hr : meth.sig.returnType = (some .int)) (HX6_endOf : Sem l z0 b N D cA yX6_endOf cX6_endOf 3 (some .int) 0 0 2 zno tX6_endOf) (HX6_has : Sem l z0 b N D cA yX6_has cX6_has 2 (some .boolean) 0 0 2 zno tX6_has) (HX6_endsOf : Sem l z0 b N D cA yX6_endsOf cX6_endsOf 4 (some .int) 1 22 2 zno tX6_endsOf) (hK4 : Snd p l e (zRm 2 M 45) s m args below meth c 4 z0 b (zI z0 b N D cA s) (fun _ => (0, 0)) (vx_MQ below (zQn z0 b N D cA Kn) (zXn z0 b N D cA Kx h0) args s M (6 * M) (fun q => z0 ≤ q)) 4 K4) : Snd p l e (zRm 2 M 45) s m args below meth c 4 z0 b (zI z0 b N D cA s) (fun _ => (0, 0)) (vx_MQ below (zQn z0 b N D cA Kn) (zXn z0 b N D cA Kx h0) args s M (6 * M) (fun q => z0 ≤ q)) 39 (bX6_onward_39 M Kn Kx h0 K4) := by
  obtain ⟨hx, hb, hml, hown, hts, -⟩ := id C
  unfold bX6_onward_39
  refine k_ior hx hb dX6_onward_39 ?_
  refine k_istore_n hx hb dX6_onward_40 rfl ?_
  refine k_iinc hx hb dX6_onward_41 (by decide) ?_
  refine k_goto (tgt := 4) hx hb dX6_onward_44 (by decide) ?_
  exact hK4
set_option maxRecDepth 20000 in
theorem sX6_onward_4 {l : Launch} {z0 b N M : Nat} {D : va_G} {cA : Nat → ClassId} {p : Program} {e : Env} {s : State} {m : MethodId} {args : Array Value} {below : List Frame} {meth : Method} {c : Code} {Kn : Option Value → ZH → Prop} {Kx : Nat → Prop} {h0 : ZH} {K4 : ZK ZH} (C : zCx p l (zRm 2 M 45) s m args meth c cX6_onward 4 RX6 z0 D cA M) (htab : ∀ x ∈ c.exceptionTable.toList, False) (hr : meth.sig.returnType = (some .int)) (HX6_endOf : Sem l z0 b N D cA yX6_endOf cX6_endOf 3 (some .int) 0 0 2 zno tX6_endOf) (HX6_has : Sem l z0 b N D cA yX6_has cX6_has 2 (some .boolean) 0 0 2 zno tX6_has) (HX6_endsOf : Sem l z0 b N D cA yX6_endsOf cX6_endsOf 4 (some .int) 1 22 2 zno tX6_endsOf) (hK4 : Snd p l e (zRm 2 M 45) s m args below meth c 4 z0 b (zI z0 b N D cA s) (fun _ => (0, 0)) (vx_MQ below (zQn z0 b N D cA Kn) (zXn z0 b N D cA Kx h0) args s M (6 * M) (fun q => z0 ≤ q)) 4 K4) : Snd p l e (zRm 2 M 45) s m args below meth c 4 z0 b (zI z0 b N D cA s) (fun _ => (0, 0)) (vx_MQ below (zQn z0 b N D cA Kn) (zXn z0 b N D cA Kx h0) args s M (6 * M) (fun q => z0 ≤ q)) 4 (bX6_onward_4 M Kn Kx h0 K4) := by
  obtain ⟨hx, hb, hml, hown, hts, -⟩ := id C
  unfold bX6_onward_4
  refine k_iload_n hx hb dX6_onward_4 rfl ?_
  refine k_aload_n hx hb dX6_onward_5 rfl ?_
  refine k_getf C (ci := 6) (k := 3) (Tf := TX6) (Nf := 20) (Cn := RX6) rfl zinX6 (by decide) rfl zfX6_57 dX6_onward_6 ?_
  refine k_icmp_ge (tgt := 47) hx hb dX6_onward_9 (by decide) ?_ ?_
  · refine k_iload_n hx hb dX6_onward_47 rfl ?_
    exact k_ret C hr dX6_onward_48
  · refine k_iload_n hx hb dX6_onward_12 rfl ?_
    refine k_iload_n hx hb dX6_onward_13 rfl ?_
    refine k_aload_n hx hb dX6_onward_14 rfl ?_
    refine k_iload_n hx hb dX6_onward_15 rfl ?_
    refine k_callV1 C htab (ci := 6) (Tf := TX6) (Nf := 20) (Cn := RX6) rfl HX6_endOf rfl zlX6_115 zmX6_endOf zvX6_endOf ziX6 zcX6_endOf (by decide +kernel) ⟨Nat.le_of_ble_eq_true rfl, Nat.le_of_ble_eq_true rfl⟩ dX6_onward_16 ?_
    refine k_callS2 C htab HX6_has zlX6_108 zsX6_has ziX6 zcX6_has (by decide +kernel) ⟨Nat.le_of_ble_eq_true rfl, Nat.le_of_ble_eq_true rfl⟩ dX6_onward_19 ?_
    refine k_if_eq (tgt := 38) hx hb dX6_onward_22 (by decide) ?_ ?_
    · refine k_iconst hx hb dX6_onward_38 (by decide) ?_
      exact sX6_onward_39 C htab hr HX6_endOf HX6_has HX6_endsOf hK4
    · refine k_aload_n hx hb dX6_onward_25 rfl ?_
      refine k_aload_n hx hb dX6_onward_26 rfl ?_
      refine k_getf C (ci := 6) (k := 7) (Tf := TX6) (Nf := 20) (Cn := RX6) rfl zinX6 (by decide) rfl zfX6_23 dX6_onward_27 ?_
      refine k_iload_n hx hb dX6_onward_30 rfl ?_
      refine k_iald C dX6_onward_31 ?_
      refine k_callV1 C htab (ci := 6) (Tf := TX6) (Nf := 20) (Cn := RX6) rfl HX6_endsOf rfl zlX6_125 zmX6_endsOf zvX6_endsOf ziX6 zcX6_endsOf (by decide +kernel) ⟨Nat.le_of_ble_eq_true rfl, Nat.le_of_ble_eq_true rfl⟩ dX6_onward_32 ?_
      refine k_goto (tgt := 39) hx hb dX6_onward_35 (by decide) ?_
      exact sX6_onward_39 C htab hr HX6_endOf HX6_has HX6_endsOf hK4
set_option maxRecDepth 20000 in
theorem sX6_onward_0 {l : Launch} {z0 b N M : Nat} {D : va_G} {cA : Nat → ClassId} {p : Program} {e : Env} {s : State} {m : MethodId} {args : Array Value} {below : List Frame} {meth : Method} {c : Code} {Kn : Option Value → ZH → Prop} {Kx : Nat → Prop} {h0 : ZH} {K4 : ZK ZH} (C : zCx p l (zRm 2 M 45) s m args meth c cX6_onward 4 RX6 z0 D cA M) (htab : ∀ x ∈ c.exceptionTable.toList, False) (hr : meth.sig.returnType = (some .int)) (HX6_endOf : Sem l z0 b N D cA yX6_endOf cX6_endOf 3 (some .int) 0 0 2 zno tX6_endOf) (HX6_has : Sem l z0 b N D cA yX6_has cX6_has 2 (some .boolean) 0 0 2 zno tX6_has) (HX6_endsOf : Sem l z0 b N D cA yX6_endsOf cX6_endsOf 4 (some .int) 1 22 2 zno tX6_endsOf) (hK4 : Snd p l e (zRm 2 M 45) s m args below meth c 4 z0 b (zI z0 b N D cA s) (fun _ => (0, 0)) (vx_MQ below (zQn z0 b N D cA Kn) (zXn z0 b N D cA Kx h0) args s M (6 * M) (fun q => z0 ≤ q)) 4 K4) : Snd p l e (zRm 2 M 45) s m args below meth c 4 z0 b (zI z0 b N D cA s) (fun _ => (0, 0)) (vx_MQ below (zQn z0 b N D cA Kn) (zXn z0 b N D cA Kx h0) args s M (6 * M) (fun q => z0 ≤ q)) 0 (bX6_onward_0 M Kn Kx h0 K4) := by
  obtain ⟨hx, hb, hml, hown, hts, -⟩ := id C
  unfold bX6_onward_0
  refine k_iconst hx hb dX6_onward_0 (by decide) ?_
  refine k_istore_n hx hb dX6_onward_1 rfl ?_
  refine k_iconst hx hb dX6_onward_2 (by decide) ?_
  refine k_istore_n hx hb dX6_onward_3 rfl ?_
  exact hK4
set_option maxRecDepth 20000 in
theorem uX6_onward {l : Launch} {z0 b N : Nat} {D : va_G} {cA : Nat → ClassId} (hlt : l.stackTraces = false) (HX6_endOf : Sem l z0 b N D cA yX6_endOf cX6_endOf 3 (some .int) 0 0 2 zno tX6_endOf) (HX6_has : Sem l z0 b N D cA yX6_has cX6_has 2 (some .boolean) 0 0 2 zno tX6_has) (HX6_endsOf : Sem l z0 b N D cA yX6_endsOf cX6_endsOf 4 (some .int) 1 22 2 zno tX6_endsOf) (spec : ∀ (M : Nat) (a : List Value) (h : ZH) (Kn : Option Value → ZH → Prop) (Kx : Nat → Prop), zok 2 a = true → tX6_onward a h Kn → ∀ (A : Nat → ZK ZH), (∀ ls st h', bX6_onward_4 M Kn Kx h (A 4) ls st h' → A 4 ls st h') → bX6_onward_0 M Kn Kx h (A 4) (zE 4 a) [] h) : Sem l z0 b N D cA yX6_onward cX6_onward 4 (some .int) 2 45 2 zno tX6_onward :=
  sem_of hlt (by decide +kernel) (by decide) (fun p e s m args below meth c M a h Kn Kx hok hX hN C hr htab => sX6_onward_0 C htab hr HX6_endOf HX6_has HX6_endsOf (fun _ _ _ q => q) _ _ _ (spec M a h Kn Kx hok (hN (fun _ h9 => h9)) (fun pc => AW p l e (zRm 2 M 45) s m args below meth c 4 z0 b (zI z0 b N D cA s) (fun _ => (0, 0)) (vx_MQ below (zQn z0 b N D cA Kn) (zXn z0 b N D cA Kx h) args s M (6 * M) (fun q => z0 ≤ q)) pc) (fun ls st h' hq => sX6_onward_4 C htab hr HX6_endOf HX6_has HX6_endsOf (fun _ _ _ q => q) ls st h' hq)))
set_option maxRecDepth 20000 in
theorem sX6_closed_4 {l : Launch} {z0 b N M : Nat} {D : va_G} {cA : Nat → ClassId} {p : Program} {e : Env} {s : State} {m : MethodId} {args : Array Value} {below : List Frame} {meth : Method} {c : Code} {Kn : Option Value → ZH → Prop} {Kx : Nat → Prop} {h0 : ZH} {K4 : ZK ZH} (C : zCx p l (zRm 3 M 68) s m args meth c cX6_closed 4 RX6 z0 D cA M) (htab : ∀ x ∈ c.exceptionTable.toList, False) (hr : meth.sig.returnType = (some .int)) (HX6_onward : Sem l z0 b N D cA yX6_onward cX6_onward 4 (some .int) 2 45 2 zno tX6_onward) (hK4 : Snd p l e (zRm 3 M 68) s m args below meth c 4 z0 b (zI z0 b N D cA s) (fun _ => (0, 0)) (vx_MQ below (zQn z0 b N D cA Kn) (zXn z0 b N D cA Kx h0) args s M (6 * M) (fun q => z0 ≤ q)) 4 K4) : Snd p l e (zRm 3 M 68) s m args below meth c 4 z0 b (zI z0 b N D cA s) (fun _ => (0, 0)) (vx_MQ below (zQn z0 b N D cA Kn) (zXn z0 b N D cA Kx h0) args s M (6 * M) (fun q => z0 ≤ q)) 4 (bX6_closed_4 M Kn Kx h0 K4) := by
  obtain ⟨hx, hb, hml, hown, hts, -⟩ := id C
  unfold bX6_closed_4
  refine k_iload_n hx hb dX6_closed_4 rfl ?_
  refine k_iload_n hx hb dX6_closed_5 rfl ?_
  refine k_icmp_eq (tgt := 22) hx hb dX6_closed_6 (by decide) ?_ ?_
  · refine k_iload_n hx hb dX6_closed_22 rfl ?_
    exact k_ret C hr dX6_closed_23
  · refine k_iload_n hx hb dX6_closed_9 rfl ?_
    refine k_istore_n hx hb dX6_closed_10 rfl ?_
    refine k_iload_n hx hb dX6_closed_11 rfl ?_
    refine k_aload_n hx hb dX6_closed_12 rfl ?_
    refine k_iload_n hx hb dX6_closed_13 rfl ?_
    refine k_callV1 C htab (ci := 6) (Tf := TX6) (Nf := 20) (Cn := RX6) rfl HX6_onward rfl zlX6_128 zmX6_onward zvX6_onward ziX6 zcX6_onward (by decide +kernel) ⟨Nat.le_of_ble_eq_true rfl, Nat.le_of_ble_eq_true rfl⟩ dX6_closed_14 ?_
    refine k_ior hx hb dX6_closed_17 ?_
    refine k_istore_n hx hb dX6_closed_18 rfl ?_
    refine k_goto (tgt := 4) hx hb dX6_closed_19 (by decide) ?_
    exact hK4
set_option maxRecDepth 20000 in
theorem sX6_closed_0 {l : Launch} {z0 b N M : Nat} {D : va_G} {cA : Nat → ClassId} {p : Program} {e : Env} {s : State} {m : MethodId} {args : Array Value} {below : List Frame} {meth : Method} {c : Code} {Kn : Option Value → ZH → Prop} {Kx : Nat → Prop} {h0 : ZH} {K4 : ZK ZH} (C : zCx p l (zRm 3 M 68) s m args meth c cX6_closed 4 RX6 z0 D cA M) (htab : ∀ x ∈ c.exceptionTable.toList, False) (hr : meth.sig.returnType = (some .int)) (HX6_onward : Sem l z0 b N D cA yX6_onward cX6_onward 4 (some .int) 2 45 2 zno tX6_onward) (hK4 : Snd p l e (zRm 3 M 68) s m args below meth c 4 z0 b (zI z0 b N D cA s) (fun _ => (0, 0)) (vx_MQ below (zQn z0 b N D cA Kn) (zXn z0 b N D cA Kx h0) args s M (6 * M) (fun q => z0 ≤ q)) 4 K4) : Snd p l e (zRm 3 M 68) s m args below meth c 4 z0 b (zI z0 b N D cA s) (fun _ => (0, 0)) (vx_MQ below (zQn z0 b N D cA Kn) (zXn z0 b N D cA Kx h0) args s M (6 * M) (fun q => z0 ≤ q)) 0 (bX6_closed_0 M Kn Kx h0 K4) := by
  obtain ⟨hx, hb, hml, hown, hts, -⟩ := id C
  unfold bX6_closed_0
  refine k_iload_n hx hb dX6_closed_0 rfl ?_
  refine k_istore_n hx hb dX6_closed_1 rfl ?_
  refine k_iconst hx hb dX6_closed_2 (by decide) ?_
  refine k_istore_n hx hb dX6_closed_3 rfl ?_
  exact hK4
set_option maxRecDepth 20000 in
theorem uX6_closed {l : Launch} {z0 b N : Nat} {D : va_G} {cA : Nat → ClassId} (hlt : l.stackTraces = false) (HX6_onward : Sem l z0 b N D cA yX6_onward cX6_onward 4 (some .int) 2 45 2 zno tX6_onward) (spec : ∀ (M : Nat) (a : List Value) (h : ZH) (Kn : Option Value → ZH → Prop) (Kx : Nat → Prop), zok 2 a = true → tX6_closed a h Kn → ∀ (A : Nat → ZK ZH), (∀ ls st h', bX6_closed_4 M Kn Kx h (A 4) ls st h' → A 4 ls st h') → bX6_closed_0 M Kn Kx h (A 4) (zE 4 a) [] h) : Sem l z0 b N D cA yX6_closed cX6_closed 4 (some .int) 3 68 2 zno tX6_closed :=
  sem_of hlt (by decide +kernel) (by decide) (fun p e s m args below meth c M a h Kn Kx hok hX hN C hr htab => sX6_closed_0 C htab hr HX6_onward (fun _ _ _ q => q) _ _ _ (spec M a h Kn Kx hok (hN (fun _ h9 => h9)) (fun pc => AW p l e (zRm 3 M 68) s m args below meth c 4 z0 b (zI z0 b N D cA s) (fun _ => (0, 0)) (vx_MQ below (zQn z0 b N D cA Kn) (zXn z0 b N D cA Kx h) args s M (6 * M) (fun q => z0 ≤ q)) pc) (fun ls st h' hq => sX6_closed_4 C htab hr HX6_onward (fun _ _ _ q => q) ls st h' hq)))
set_option maxRecDepth 20000 in
theorem sX6_hasCircle_40 {l : Launch} {z0 b N M : Nat} {D : va_G} {cA : Nat → ClassId} {p : Program} {e : Env} {s : State} {m : MethodId} {args : Array Value} {below : List Frame} {meth : Method} {c : Code} {Kn : Option Value → ZH → Prop} {Kx : Nat → Prop} {h0 : ZH} {K2 : ZK ZH} (C : zCx p l (zRm 4 M 91) s m args meth c cX6_hasCircle 2 RX6 z0 D cA M) (htab : ∀ x ∈ c.exceptionTable.toList, False) (hr : meth.sig.returnType = (some .boolean)) (HX6_onward : Sem l z0 b N D cA yX6_onward cX6_onward 4 (some .int) 2 45 2 zno tX6_onward) (HX6_closed : Sem l z0 b N D cA yX6_closed cX6_closed 4 (some .int) 3 68 2 zno tX6_closed) (HX6_has : Sem l z0 b N D cA yX6_has cX6_has 2 (some .boolean) 0 0 2 zno tX6_has) (hK2 : Snd p l e (zRm 4 M 91) s m args below meth c 2 z0 b (zI z0 b N D cA s) (fun _ => (0, 0)) (vx_MQ below (zQn z0 b N D cA Kn) (zXn z0 b N D cA Kx h0) args s M (6 * M) (fun q => z0 ≤ q)) 2 K2) : Snd p l e (zRm 4 M 91) s m args below meth c 2 z0 b (zI z0 b N D cA s) (fun _ => (0, 0)) (vx_MQ below (zQn z0 b N D cA Kn) (zXn z0 b N D cA Kx h0) args s M (6 * M) (fun q => z0 ≤ q)) 40 (bX6_hasCircle_40 M Kn Kx h0 K2) := by
  obtain ⟨hx, hb, hml, hown, hts, -⟩ := id C
  unfold bX6_hasCircle_40
  refine k_iinc hx hb dX6_hasCircle_40 (by decide) ?_
  refine k_goto (tgt := 2) hx hb dX6_hasCircle_43 (by decide) ?_
  exact hK2
set_option maxRecDepth 20000 in
theorem sX6_hasCircle_2 {l : Launch} {z0 b N M : Nat} {D : va_G} {cA : Nat → ClassId} {p : Program} {e : Env} {s : State} {m : MethodId} {args : Array Value} {below : List Frame} {meth : Method} {c : Code} {Kn : Option Value → ZH → Prop} {Kx : Nat → Prop} {h0 : ZH} {K2 : ZK ZH} (C : zCx p l (zRm 4 M 91) s m args meth c cX6_hasCircle 2 RX6 z0 D cA M) (htab : ∀ x ∈ c.exceptionTable.toList, False) (hr : meth.sig.returnType = (some .boolean)) (HX6_onward : Sem l z0 b N D cA yX6_onward cX6_onward 4 (some .int) 2 45 2 zno tX6_onward) (HX6_closed : Sem l z0 b N D cA yX6_closed cX6_closed 4 (some .int) 3 68 2 zno tX6_closed) (HX6_has : Sem l z0 b N D cA yX6_has cX6_has 2 (some .boolean) 0 0 2 zno tX6_has) (hK2 : Snd p l e (zRm 4 M 91) s m args below meth c 2 z0 b (zI z0 b N D cA s) (fun _ => (0, 0)) (vx_MQ below (zQn z0 b N D cA Kn) (zXn z0 b N D cA Kx h0) args s M (6 * M) (fun q => z0 ≤ q)) 2 K2) : Snd p l e (zRm 4 M 91) s m args below meth c 2 z0 b (zI z0 b N D cA s) (fun _ => (0, 0)) (vx_MQ below (zQn z0 b N D cA Kn) (zXn z0 b N D cA Kx h0) args s M (6 * M) (fun q => z0 ≤ q)) 2 (bX6_hasCircle_2 M Kn Kx h0 K2) := by
  obtain ⟨hx, hb, hml, hown, hts, -⟩ := id C
  unfold bX6_hasCircle_2
  refine k_iload_n hx hb dX6_hasCircle_2 rfl ?_
  refine k_aload_n hx hb dX6_hasCircle_3 rfl ?_
  refine k_getf C (ci := 6) (k := 3) (Tf := TX6) (Nf := 20) (Cn := RX6) rfl zinX6 (by decide) rfl zfX6_57 dX6_hasCircle_4 ?_
  refine k_icmp_ge (tgt := 46) hx hb dX6_hasCircle_7 (by decide) ?_ ?_
  · refine k_iconst hx hb dX6_hasCircle_46 (by decide) ?_
    exact k_ret C hr dX6_hasCircle_47
  · refine k_aload_n hx hb dX6_hasCircle_10 rfl ?_
    refine k_getf C (ci := 6) (k := 6) (Tf := TX6) (Nf := 20) (Cn := RX6) rfl zinX6 (by decide) rfl zfX6_20 dX6_hasCircle_11 ?_
    refine k_iload_n hx hb dX6_hasCircle_14 rfl ?_
    refine k_iald C dX6_hasCircle_15 ?_
    refine k_iconst hx hb dX6_hasCircle_16 (by decide) ?_
    refine k_icmp_ne (tgt := 40) hx hb dX6_hasCircle_17 (by decide) ?_ ?_
    · exact sX6_hasCircle_40 C htab hr HX6_onward HX6_closed HX6_has hK2
    · refine k_aload_n hx hb dX6_hasCircle_20 rfl ?_
      refine k_aload_n hx hb dX6_hasCircle_21 rfl ?_
      refine k_iconst hx hb dX6_hasCircle_22 (by decide) ?_
      refine k_iload_n hx hb dX6_hasCircle_23 rfl ?_
      refine k_ishl hx hb dX6_hasCircle_24 ?_
      refine k_callV1 C htab (ci := 6) (Tf := TX6) (Nf := 20) (Cn := RX6) rfl HX6_onward rfl zlX6_128 zmX6_onward zvX6_onward ziX6 zcX6_onward (by decide +kernel) ⟨Nat.le_of_ble_eq_true rfl, Nat.le_of_ble_eq_true rfl⟩ dX6_hasCircle_25 ?_
      refine k_callV1 C htab (ci := 6) (Tf := TX6) (Nf := 20) (Cn := RX6) rfl HX6_closed rfl zlX6_131 zmX6_closed zvX6_closed ziX6 zcX6_closed (by decide +kernel) ⟨Nat.le_of_ble_eq_true rfl, Nat.le_of_ble_eq_true rfl⟩ dX6_hasCircle_28 ?_
      refine k_iload_n hx hb dX6_hasCircle_31 rfl ?_
      refine k_callS2 C htab HX6_has zlX6_108 zsX6_has ziX6 zcX6_has (by decide +kernel) ⟨Nat.le_of_ble_eq_true rfl, Nat.le_of_ble_eq_true rfl⟩ dX6_hasCircle_32 ?_
      refine k_if_eq (tgt := 40) hx hb dX6_hasCircle_35 (by decide) ?_ ?_
      · exact sX6_hasCircle_40 C htab hr HX6_onward HX6_closed HX6_has hK2
      · refine k_iconst hx hb dX6_hasCircle_38 (by decide) ?_
        exact k_ret C hr dX6_hasCircle_39
set_option maxRecDepth 20000 in
theorem sX6_hasCircle_0 {l : Launch} {z0 b N M : Nat} {D : va_G} {cA : Nat → ClassId} {p : Program} {e : Env} {s : State} {m : MethodId} {args : Array Value} {below : List Frame} {meth : Method} {c : Code} {Kn : Option Value → ZH → Prop} {Kx : Nat → Prop} {h0 : ZH} {K2 : ZK ZH} (C : zCx p l (zRm 4 M 91) s m args meth c cX6_hasCircle 2 RX6 z0 D cA M) (htab : ∀ x ∈ c.exceptionTable.toList, False) (hr : meth.sig.returnType = (some .boolean)) (HX6_onward : Sem l z0 b N D cA yX6_onward cX6_onward 4 (some .int) 2 45 2 zno tX6_onward) (HX6_closed : Sem l z0 b N D cA yX6_closed cX6_closed 4 (some .int) 3 68 2 zno tX6_closed) (HX6_has : Sem l z0 b N D cA yX6_has cX6_has 2 (some .boolean) 0 0 2 zno tX6_has) (hK2 : Snd p l e (zRm 4 M 91) s m args below meth c 2 z0 b (zI z0 b N D cA s) (fun _ => (0, 0)) (vx_MQ below (zQn z0 b N D cA Kn) (zXn z0 b N D cA Kx h0) args s M (6 * M) (fun q => z0 ≤ q)) 2 K2) : Snd p l e (zRm 4 M 91) s m args below meth c 2 z0 b (zI z0 b N D cA s) (fun _ => (0, 0)) (vx_MQ below (zQn z0 b N D cA Kn) (zXn z0 b N D cA Kx h0) args s M (6 * M) (fun q => z0 ≤ q)) 0 (bX6_hasCircle_0 M Kn Kx h0 K2) := by
  obtain ⟨hx, hb, hml, hown, hts, -⟩ := id C
  unfold bX6_hasCircle_0
  refine k_iconst hx hb dX6_hasCircle_0 (by decide) ?_
  refine k_istore_n hx hb dX6_hasCircle_1 rfl ?_
  exact hK2
set_option maxRecDepth 20000 in
theorem uX6_hasCircle {l : Launch} {z0 b N : Nat} {D : va_G} {cA : Nat → ClassId} (hlt : l.stackTraces = false) (HX6_onward : Sem l z0 b N D cA yX6_onward cX6_onward 4 (some .int) 2 45 2 zno tX6_onward) (HX6_closed : Sem l z0 b N D cA yX6_closed cX6_closed 4 (some .int) 3 68 2 zno tX6_closed) (HX6_has : Sem l z0 b N D cA yX6_has cX6_has 2 (some .boolean) 0 0 2 zno tX6_has) (spec : ∀ (M : Nat) (a : List Value) (h : ZH) (Kn : Option Value → ZH → Prop) (Kx : Nat → Prop), zok 1 a = true → tX6_hasCircle a h Kn → ∀ (A : Nat → ZK ZH), (∀ ls st h', bX6_hasCircle_2 M Kn Kx h (A 2) ls st h' → A 2 ls st h') → bX6_hasCircle_0 M Kn Kx h (A 2) (zE 2 a) [] h) : Sem l z0 b N D cA yX6_hasCircle cX6_hasCircle 2 (some .boolean) 4 91 1 zno tX6_hasCircle :=
  sem_of hlt (by decide +kernel) (by decide) (fun p e s m args below meth c M a h Kn Kx hok hX hN C hr htab => sX6_hasCircle_0 C htab hr HX6_onward HX6_closed HX6_has (fun _ _ _ q => q) _ _ _ (spec M a h Kn Kx hok (hN (fun _ h9 => h9)) (fun pc => AW p l e (zRm 4 M 91) s m args below meth c 2 z0 b (zI z0 b N D cA s) (fun _ => (0, 0)) (vx_MQ below (zQn z0 b N D cA Kn) (zXn z0 b N D cA Kx h) args s M (6 * M) (fun q => z0 ≤ q)) pc) (fun ls st h' hq => sX6_hasCircle_2 C htab hr HX6_onward HX6_closed HX6_has (fun _ _ _ q => q) ls st h' hq)))
set_option maxRecDepth 20000 in
theorem sX6_does_78 {l : Launch} {z0 b N M : Nat} {D : va_G} {cA : Nat → ClassId} {p : Program} {e : Env} {s : State} {m : MethodId} {args : Array Value} {below : List Frame} {meth : Method} {c : Code} {Kn : Option Value → ZH → Prop} {Kx : Nat → Prop} {h0 : ZH} (C : zCx p l (zRm 0 M 0) s m args meth c cX6_does 4 RX6 z0 D cA M) (htab : ∀ x ∈ c.exceptionTable.toList, False) (hr : meth.sig.returnType = none) : Snd p l e (zRm 0 M 0) s m args below meth c 4 z0 b (zI z0 b N D cA s) (fun _ => (0, 0)) (vx_MQ below (zQn z0 b N D cA Kn) (zXn z0 b N D cA Kx h0) args s M (6 * M) (fun q => z0 ≤ q)) 78 (bX6_does_78 M Kn Kx h0) := by
  obtain ⟨hx, hb, hml, hown, hts, -⟩ := id C
  unfold bX6_does_78
  refine k_iast C dX6_does_78 ?_
  exact k_vret C hr dX6_does_79
set_option maxRecDepth 20000 in
theorem sX6_does_28 {l : Launch} {z0 b N M : Nat} {D : va_G} {cA : Nat → ClassId} {p : Program} {e : Env} {s : State} {m : MethodId} {args : Array Value} {below : List Frame} {meth : Method} {c : Code} {Kn : Option Value → ZH → Prop} {Kx : Nat → Prop} {h0 : ZH} (C : zCx p l (zRm 0 M 0) s m args meth c cX6_does 4 RX6 z0 D cA M) (htab : ∀ x ∈ c.exceptionTable.toList, False) (hr : meth.sig.returnType = none) : Snd p l e (zRm 0 M 0) s m args below meth c 4 z0 b (zI z0 b N D cA s) (fun _ => (0, 0)) (vx_MQ below (zQn z0 b N D cA Kn) (zXn z0 b N D cA Kx h0) args s M (6 * M) (fun q => z0 ≤ q)) 28 (bX6_does_28 M Kn Kx h0) := by
  obtain ⟨hx, hb, hml, hown, hts, -⟩ := id C
  unfold bX6_does_28
  refine k_iast C dX6_does_28 ?_
  refine k_aload_n hx hb dX6_does_29 rfl ?_
  refine k_getf C (ci := 6) (k := 7) (Tf := TX6) (Nf := 20) (Cn := RX6) rfl zinX6 (by decide) rfl zfX6_23 dX6_does_30 ?_
  refine k_iload_n hx hb dX6_does_33 rfl ?_
  refine k_iload_n hx hb dX6_does_34 rfl ?_
  refine k_iconst hx hb dX6_does_35 (by decide) ?_
  refine k_icmp_ne (tgt := 52) hx hb dX6_does_36 (by decide) ?_ ?_
  · refine k_iload_n hx hb dX6_does_52 rfl ?_
    refine k_iconst hx hb dX6_does_53 (by decide) ?_
    refine k_icmp_ne (tgt := 72) hx hb dX6_does_54 (by decide) ?_ ?_
    · refine k_aload_n hx hb dX6_does_72 rfl ?_
      refine k_getf C (ci := 6) (k := 7) (Tf := TX6) (Nf := 20) (Cn := RX6) rfl zinX6 (by decide) rfl zfX6_23 dX6_does_73 ?_
      refine k_iload_n hx hb dX6_does_76 rfl ?_
      refine k_iald C dX6_does_77 ?_
      exact sX6_does_78 C htab hr
    · refine k_aload_n hx hb dX6_does_57 rfl ?_
      refine k_getf C (ci := 6) (k := 7) (Tf := TX6) (Nf := 20) (Cn := RX6) rfl zinX6 (by decide) rfl zfX6_23 dX6_does_58 ?_
      refine k_iload_n hx hb dX6_does_61 rfl ?_
      refine k_iald C dX6_does_62 ?_
      refine k_iconst hx hb dX6_does_63 (by decide) ?_
      refine k_iload_n hx hb dX6_does_64 rfl ?_
      refine k_ishl hx hb dX6_does_65 ?_
      refine k_iconst hx hb dX6_does_66 (by decide) ?_
      refine k_ixor hx hb dX6_does_67 ?_
      refine k_iand hx hb dX6_does_68 ?_
      refine k_goto (tgt := 78) hx hb dX6_does_69 (by decide) ?_
      exact sX6_does_78 C htab hr
  · refine k_aload_n hx hb dX6_does_39 rfl ?_
    refine k_getf C (ci := 6) (k := 7) (Tf := TX6) (Nf := 20) (Cn := RX6) rfl zinX6 (by decide) rfl zfX6_23 dX6_does_40 ?_
    refine k_iload_n hx hb dX6_does_43 rfl ?_
    refine k_iald C dX6_does_44 ?_
    refine k_iconst hx hb dX6_does_45 (by decide) ?_
    refine k_iload_n hx hb dX6_does_46 rfl ?_
    refine k_ishl hx hb dX6_does_47 ?_
    refine k_ior hx hb dX6_does_48 ?_
    refine k_goto (tgt := 78) hx hb dX6_does_49 (by decide) ?_
    exact sX6_does_78 C htab hr
set_option maxRecDepth 20000 in
theorem sX6_does_0 {l : Launch} {z0 b N M : Nat} {D : va_G} {cA : Nat → ClassId} {p : Program} {e : Env} {s : State} {m : MethodId} {args : Array Value} {below : List Frame} {meth : Method} {c : Code} {Kn : Option Value → ZH → Prop} {Kx : Nat → Prop} {h0 : ZH} (C : zCx p l (zRm 0 M 0) s m args meth c cX6_does 4 RX6 z0 D cA M) (htab : ∀ x ∈ c.exceptionTable.toList, False) (hr : meth.sig.returnType = none) : Snd p l e (zRm 0 M 0) s m args below meth c 4 z0 b (zI z0 b N D cA s) (fun _ => (0, 0)) (vx_MQ below (zQn z0 b N D cA Kn) (zXn z0 b N D cA Kx h0) args s M (6 * M) (fun q => z0 ≤ q)) 0 (bX6_does_0 M Kn Kx h0) := by
  obtain ⟨hx, hb, hml, hown, hts, -⟩ := id C
  unfold bX6_does_0
  refine k_aload_n hx hb dX6_does_0 rfl ?_
  refine k_getf C (ci := 6) (k := 6) (Tf := TX6) (Nf := 20) (Cn := RX6) rfl zinX6 (by decide) rfl zfX6_20 dX6_does_1 ?_
  refine k_iload_n hx hb dX6_does_4 rfl ?_
  refine k_iload_n hx hb dX6_does_5 rfl ?_
  refine k_if_ne (tgt := 13) hx hb dX6_does_6 (by decide) ?_ ?_
  · refine k_iload_n hx hb dX6_does_13 rfl ?_
    refine k_iconst hx hb dX6_does_14 (by decide) ?_
    refine k_icmp_ne (tgt := 22) hx hb dX6_does_15 (by decide) ?_ ?_
    · refine k_aload_n hx hb dX6_does_22 rfl ?_
      refine k_getf C (ci := 6) (k := 6) (Tf := TX6) (Nf := 20) (Cn := RX6) rfl zinX6 (by decide) rfl zfX6_20 dX6_does_23 ?_
      refine k_iload_n hx hb dX6_does_26 rfl ?_
      refine k_iald C dX6_does_27 ?_
      exact sX6_does_28 C htab hr
    · refine k_iconst hx hb dX6_does_18 (by decide) ?_
      refine k_goto (tgt := 28) hx hb dX6_does_19 (by decide) ?_
      exact sX6_does_28 C htab hr
  · refine k_iload_n hx hb dX6_does_9 rfl ?_
    refine k_goto (tgt := 28) hx hb dX6_does_10 (by decide) ?_
    exact sX6_does_28 C htab hr
set_option maxRecDepth 20000 in
theorem uX6_does {l : Launch} {z0 b N : Nat} {D : va_G} {cA : Nat → ClassId} (hlt : l.stackTraces = false) (spec : ∀ (M : Nat) (a : List Value) (h : ZH) (Kn : Option Value → ZH → Prop) (Kx : Nat → Prop), zok 4 a = true → tX6_does a h Kn → bX6_does_0 M Kn Kx h (zE 4 a) [] h) : Sem l z0 b N D cA yX6_does cX6_does 4 none 0 0 4 zno tX6_does :=
  sem_of hlt (by decide +kernel) (by decide) (fun p e s m args below meth c M a h Kn Kx hok hX hN C hr htab => sX6_does_0 C htab hr _ _ _ (spec M a h Kn Kx hok (hN (fun _ h9 => h9))))
set_option maxRecDepth 20000 in
theorem sX6_may_97 {l : Launch} {z0 b N M : Nat} {D : va_G} {cA : Nat → ClassId} {p : Program} {e : Env} {s : State} {m : MethodId} {args : Array Value} {below : List Frame} {meth : Method} {c : Code} {Kn : Option Value → ZH → Prop} {Kx : Nat → Prop} {h0 : ZH} (C : zCx p l (zRm 5 M 112) s m args meth c cX6_may 5 RX6 z0 D cA M) (htab : ∀ x ∈ c.exceptionTable.toList, False) (hr : meth.sig.returnType = (some .boolean)) (HX6_has : Sem l z0 b N D cA yX6_has cX6_has 2 (some .boolean) 0 0 2 zno tX6_has) (HX6_endOf : Sem l z0 b N D cA yX6_endOf cX6_endOf 3 (some .int) 0 0 2 zno tX6_endOf) (HX6_does : Sem l z0 b N D cA yX6_does cX6_does 4 none 0 0 4 zno tX6_does) (HX6_hasCircle : Sem l z0 b N D cA yX6_hasCircle cX6_hasCircle 2 (some .boolean) 4 91 1 zno tX6_hasCircle) : Snd p l e (zRm 5 M 112) s m args below meth c 5 z0 b (zI z0 b N D cA s) (fun _ => (0, 0)) (vx_MQ below (zQn z0 b N D cA Kn) (zXn z0 b N D cA Kx h0) args s M (6 * M) (fun q => z0 ≤ q)) 97 (bX6_may_97 M Kn Kx h0) := by
  obtain ⟨hx, hb, hml, hown, hts, -⟩ := id C
  unfold bX6_may_97
  refine k_istore hx hb dX6_may_97 ?_
  refine k_aload_n hx hb dX6_may_99 rfl ?_
  refine k_iload_n hx hb dX6_may_100 rfl ?_
  refine k_iconst hx hb dX6_may_101 (by decide) ?_
  refine k_iadd hx hb dX6_may_102 ?_
  refine k_iload_n hx hb dX6_may_103 rfl ?_
  refine k_iload_n hx hb dX6_may_104 rfl ?_
  refine k_callV3 C htab (ci := 6) (Tf := TX6) (Nf := 20) (Cn := RX6) rfl HX6_does rfl zlX6_134 zmX6_does zvX6_does ziX6 zcX6_does (by decide +kernel) ⟨Nat.le_of_ble_eq_true rfl, Nat.le_of_ble_eq_true rfl⟩ dX6_may_105 ?_
  refine k_iload hx hb dX6_may_108 ?_
  exact k_ret C hr dX6_may_110
set_option maxRecDepth 20000 in
theorem sX6_may_78 {l : Launch} {z0 b N M : Nat} {D : va_G} {cA : Nat → ClassId} {p : Program} {e : Env} {s : State} {m : MethodId} {args : Array Value} {below : List Frame} {meth : Method} {c : Code} {Kn : Option Value → ZH → Prop} {Kx : Nat → Prop} {h0 : ZH} (C : zCx p l (zRm 5 M 112) s m args meth c cX6_may 5 RX6 z0 D cA M) (htab : ∀ x ∈ c.exceptionTable.toList, False) (hr : meth.sig.returnType = (some .boolean)) (HX6_has : Sem l z0 b N D cA yX6_has cX6_has 2 (some .boolean) 0 0 2 zno tX6_has) (HX6_endOf : Sem l z0 b N D cA yX6_endOf cX6_endOf 3 (some .int) 0 0 2 zno tX6_endOf) (HX6_does : Sem l z0 b N D cA yX6_does cX6_does 4 none 0 0 4 zno tX6_does) (HX6_hasCircle : Sem l z0 b N D cA yX6_hasCircle cX6_hasCircle 2 (some .boolean) 4 91 1 zno tX6_hasCircle) : Snd p l e (zRm 5 M 112) s m args below meth c 5 z0 b (zI z0 b N D cA s) (fun _ => (0, 0)) (vx_MQ below (zQn z0 b N D cA Kn) (zXn z0 b N D cA Kx h0) args s M (6 * M) (fun q => z0 ≤ q)) 78 (bX6_may_78 M Kn Kx h0) := by
  obtain ⟨hx, hb, hml, hown, hts, -⟩ := id C
  unfold bX6_may_78
  refine k_aload_n hx hb dX6_may_78 rfl ?_
  refine k_iload_n hx hb dX6_may_79 rfl ?_
  refine k_iload_n hx hb dX6_may_80 rfl ?_
  refine k_iload_n hx hb dX6_may_81 rfl ?_
  refine k_callV3 C htab (ci := 6) (Tf := TX6) (Nf := 20) (Cn := RX6) rfl HX6_does rfl zlX6_134 zmX6_does zvX6_does ziX6 zcX6_does (by decide +kernel) ⟨Nat.le_of_ble_eq_true rfl, Nat.le_of_ble_eq_true rfl⟩ dX6_may_82 ?_
  refine k_aload_n hx hb dX6_may_85 rfl ?_
  refine k_callV0 C htab (ci := 6) (Tf := TX6) (Nf := 20) (Cn := RX6) rfl HX6_hasCircle rfl zlX6_138 zmX6_hasCircle zvX6_hasCircle ziX6 zcX6_hasCircle (by decide +kernel) ⟨Nat.le_of_ble_eq_true rfl, Nat.le_of_ble_eq_true rfl⟩ dX6_may_86 ?_
  refine k_if_ne (tgt := 96) hx hb dX6_may_89 (by decide) ?_ ?_
  · refine k_iconst hx hb dX6_may_96 (by decide) ?_
    exact sX6_may_97 C htab hr HX6_has HX6_endOf HX6_does HX6_hasCircle
  · refine k_iconst hx hb dX6_may_92 (by decide) ?_
    refine k_goto (tgt := 97) hx hb dX6_may_93 (by decide) ?_
    exact sX6_may_97 C htab hr HX6_has HX6_endOf HX6_does HX6_hasCircle
set_option maxRecDepth 20000 in
theorem sX6_may_76 {l : Launch} {z0 b N M : Nat} {D : va_G} {cA : Nat → ClassId} {p : Program} {e : Env} {s : State} {m : MethodId} {args : Array Value} {below : List Frame} {meth : Method} {c : Code} {Kn : Option Value → ZH → Prop} {Kx : Nat → Prop} {h0 : ZH} (C : zCx p l (zRm 5 M 112) s m args meth c cX6_may 5 RX6 z0 D cA M) (htab : ∀ x ∈ c.exceptionTable.toList, False) (hr : meth.sig.returnType = (some .boolean)) (HX6_has : Sem l z0 b N D cA yX6_has cX6_has 2 (some .boolean) 0 0 2 zno tX6_has) (HX6_endOf : Sem l z0 b N D cA yX6_endOf cX6_endOf 3 (some .int) 0 0 2 zno tX6_endOf) (HX6_does : Sem l z0 b N D cA yX6_does cX6_does 4 none 0 0 4 zno tX6_does) (HX6_hasCircle : Sem l z0 b N D cA yX6_hasCircle cX6_hasCircle 2 (some .boolean) 4 91 1 zno tX6_hasCircle) : Snd p l e (zRm 5 M 112) s m args below meth c 5 z0 b (zI z0 b N D cA s) (fun _ => (0, 0)) (vx_MQ below (zQn z0 b N D cA Kn) (zXn z0 b N D cA Kx h0) args s M (6 * M) (fun q => z0 ≤ q)) 76 (bX6_may_76 M Kn Kx h0) := by
  obtain ⟨hx, hb, hml, hown, hts, -⟩ := id C
  unfold bX6_may_76
  refine k_iconst hx hb dX6_may_76 (by decide) ?_
  exact k_ret C hr dX6_may_77
set_option maxRecDepth 20000 in
theorem sX6_may_20 {l : Launch} {z0 b N M : Nat} {D : va_G} {cA : Nat → ClassId} {p : Program} {e : Env} {s : State} {m : MethodId} {args : Array Value} {below : List Frame} {meth : Method} {c : Code} {Kn : Option Value → ZH → Prop} {Kx : Nat → Prop} {h0 : ZH} (C : zCx p l (zRm 5 M 112) s m args meth c cX6_may 5 RX6 z0 D cA M) (htab : ∀ x ∈ c.exceptionTable.toList, False) (hr : meth.sig.returnType = (some .boolean)) (HX6_has : Sem l z0 b N D cA yX6_has cX6_has 2 (some .boolean) 0 0 2 zno tX6_has) (HX6_endOf : Sem l z0 b N D cA yX6_endOf cX6_endOf 3 (some .int) 0 0 2 zno tX6_endOf) (HX6_does : Sem l z0 b N D cA yX6_does cX6_does 4 none 0 0 4 zno tX6_does) (HX6_hasCircle : Sem l z0 b N D cA yX6_hasCircle cX6_hasCircle 2 (some .boolean) 4 91 1 zno tX6_hasCircle) : Snd p l e (zRm 5 M 112) s m args below meth c 5 z0 b (zI z0 b N D cA s) (fun _ => (0, 0)) (vx_MQ below (zQn z0 b N D cA Kn) (zXn z0 b N D cA Kx h0) args s M (6 * M) (fun q => z0 ≤ q)) 20 (bX6_may_20 M Kn Kx h0) := by
  obtain ⟨hx, hb, hml, hown, hts, -⟩ := id C
  unfold bX6_may_20
  exact k_ret C hr dX6_may_20
set_option maxRecDepth 20000 in
theorem sX6_may_0 {l : Launch} {z0 b N M : Nat} {D : va_G} {cA : Nat → ClassId} {p : Program} {e : Env} {s : State} {m : MethodId} {args : Array Value} {below : List Frame} {meth : Method} {c : Code} {Kn : Option Value → ZH → Prop} {Kx : Nat → Prop} {h0 : ZH} (C : zCx p l (zRm 5 M 112) s m args meth c cX6_may 5 RX6 z0 D cA M) (htab : ∀ x ∈ c.exceptionTable.toList, False) (hr : meth.sig.returnType = (some .boolean)) (HX6_has : Sem l z0 b N D cA yX6_has cX6_has 2 (some .boolean) 0 0 2 zno tX6_has) (HX6_endOf : Sem l z0 b N D cA yX6_endOf cX6_endOf 3 (some .int) 0 0 2 zno tX6_endOf) (HX6_does : Sem l z0 b N D cA yX6_does cX6_does 4 none 0 0 4 zno tX6_does) (HX6_hasCircle : Sem l z0 b N D cA yX6_hasCircle cX6_hasCircle 2 (some .boolean) 4 91 1 zno tX6_hasCircle) : Snd p l e (zRm 5 M 112) s m args below meth c 5 z0 b (zI z0 b N D cA s) (fun _ => (0, 0)) (vx_MQ below (zQn z0 b N D cA Kn) (zXn z0 b N D cA Kx h0) args s M (6 * M) (fun q => z0 ≤ q)) 0 (bX6_may_0 M Kn Kx h0) := by
  obtain ⟨hx, hb, hml, hown, hts, -⟩ := id C
  unfold bX6_may_0
  refine k_iload_n hx hb dX6_may_0 rfl ?_
  refine k_iconst hx hb dX6_may_1 (by decide) ?_
  refine k_icmp_ne (tgt := 21) hx hb dX6_may_2 (by decide) ?_ ?_
  · refine k_iload_n hx hb dX6_may_21 rfl ?_
    refine k_iconst hx hb dX6_may_22 (by decide) ?_
    refine k_icmp_ne (tgt := 37) hx hb dX6_may_23 (by decide) ?_ ?_
    · refine k_iload_n hx hb dX6_may_37 rfl ?_
      refine k_if_ne (tgt := 63) hx hb dX6_may_38 (by decide) ?_ ?_
      · refine k_aload_n hx hb dX6_may_63 rfl ?_
        refine k_getf C (ci := 6) (k := 7) (Tf := TX6) (Nf := 20) (Cn := RX6) rfl zinX6 (by decide) rfl zfX6_23 dX6_may_64 ?_
        refine k_iload_n hx hb dX6_may_67 rfl ?_
        refine k_iald C dX6_may_68 ?_
        refine k_iload_n hx hb dX6_may_69 rfl ?_
        refine k_callS2 C htab HX6_has zlX6_108 zsX6_has ziX6 zcX6_has (by decide +kernel) ⟨Nat.le_of_ble_eq_true rfl, Nat.le_of_ble_eq_true rfl⟩ dX6_may_70 ?_
        refine k_if_eq (tgt := 78) hx hb dX6_may_73 (by decide) ?_ ?_
        · exact sX6_may_78 C htab hr HX6_has HX6_endOf HX6_does HX6_hasCircle
        · exact sX6_may_76 C htab hr HX6_has HX6_endOf HX6_does HX6_hasCircle
      · refine k_aload_n hx hb dX6_may_41 rfl ?_
        refine k_getf C (ci := 6) (k := 6) (Tf := TX6) (Nf := 20) (Cn := RX6) rfl zinX6 (by decide) rfl zfX6_20 dX6_may_42 ?_
        refine k_iload_n hx hb dX6_may_45 rfl ?_
        refine k_iald C dX6_may_46 ?_
        refine k_iconst hx hb dX6_may_47 (by decide) ?_
        refine k_icmp_ne (tgt := 76) hx hb dX6_may_48 (by decide) ?_ ?_
        · exact sX6_may_76 C htab hr HX6_has HX6_endOf HX6_does HX6_hasCircle
        · refine k_aload_n hx hb dX6_may_51 rfl ?_
          refine k_iload_n hx hb dX6_may_52 rfl ?_
          refine k_callV1 C htab (ci := 6) (Tf := TX6) (Nf := 20) (Cn := RX6) rfl HX6_endOf rfl zlX6_115 zmX6_endOf zvX6_endOf ziX6 zcX6_endOf (by decide +kernel) ⟨Nat.le_of_ble_eq_true rfl, Nat.le_of_ble_eq_true rfl⟩ dX6_may_53 ?_
          refine k_iload_n hx hb dX6_may_56 rfl ?_
          refine k_icmp_ne (tgt := 78) hx hb dX6_may_57 (by decide) ?_ ?_
          · exact sX6_may_78 C htab hr HX6_has HX6_endOf HX6_does HX6_hasCircle
          · refine k_goto (tgt := 76) hx hb dX6_may_60 (by decide) ?_
            exact sX6_may_76 C htab hr HX6_has HX6_endOf HX6_does HX6_hasCircle
    · refine k_aload_n hx hb dX6_may_26 rfl ?_
      refine k_getf C (ci := 6) (k := 7) (Tf := TX6) (Nf := 20) (Cn := RX6) rfl zinX6 (by decide) rfl zfX6_23 dX6_may_27 ?_
      refine k_iload_n hx hb dX6_may_30 rfl ?_
      refine k_iald C dX6_may_31 ?_
      refine k_iload_n hx hb dX6_may_32 rfl ?_
      refine k_callS2 C htab HX6_has zlX6_108 zsX6_has ziX6 zcX6_has (by decide +kernel) ⟨Nat.le_of_ble_eq_true rfl, Nat.le_of_ble_eq_true rfl⟩ dX6_may_33 ?_
      exact k_ret C hr dX6_may_36
  · refine k_aload_n hx hb dX6_may_5 rfl ?_
    refine k_getf C (ci := 6) (k := 6) (Tf := TX6) (Nf := 20) (Cn := RX6) rfl zinX6 (by decide) rfl zfX6_20 dX6_may_6 ?_
    refine k_iload_n hx hb dX6_may_9 rfl ?_
    refine k_iald C dX6_may_10 ?_
    refine k_iload_n hx hb dX6_may_11 rfl ?_
    refine k_icmp_ne (tgt := 19) hx hb dX6_may_12 (by decide) ?_ ?_
    · refine k_iconst hx hb dX6_may_19 (by decide) ?_
      exact sX6_may_20 C htab hr HX6_has HX6_endOf HX6_does HX6_hasCircle
    · refine k_iconst hx hb dX6_may_15 (by decide) ?_
      refine k_goto (tgt := 20) hx hb dX6_may_16 (by decide) ?_
      exact sX6_may_20 C htab hr HX6_has HX6_endOf HX6_does HX6_hasCircle
set_option maxRecDepth 20000 in
theorem uX6_may {l : Launch} {z0 b N : Nat} {D : va_G} {cA : Nat → ClassId} (hlt : l.stackTraces = false) (HX6_has : Sem l z0 b N D cA yX6_has cX6_has 2 (some .boolean) 0 0 2 zno tX6_has) (HX6_endOf : Sem l z0 b N D cA yX6_endOf cX6_endOf 3 (some .int) 0 0 2 zno tX6_endOf) (HX6_does : Sem l z0 b N D cA yX6_does cX6_does 4 none 0 0 4 zno tX6_does) (HX6_hasCircle : Sem l z0 b N D cA yX6_hasCircle cX6_hasCircle 2 (some .boolean) 4 91 1 zno tX6_hasCircle) (spec : ∀ (M : Nat) (a : List Value) (h : ZH) (Kn : Option Value → ZH → Prop) (Kx : Nat → Prop), zok 4 a = true → tX6_may a h Kn → bX6_may_0 M Kn Kx h (zE 5 a) [] h) : Sem l z0 b N D cA yX6_may cX6_may 5 (some .boolean) 5 112 4 zno tX6_may :=
  sem_of hlt (by decide +kernel) (by decide) (fun p e s m args below meth c M a h Kn Kx hok hX hN C hr htab => sX6_may_0 C htab hr HX6_has HX6_endOf HX6_does HX6_hasCircle _ _ _ (spec M a h Kn Kx hok (hN (fun _ h9 => h9))))
set_option maxRecDepth 20000 in
theorem sX6_ask_65 {l : Launch} {z0 b N M : Nat} {D : va_G} {cA : Nat → ClassId} {p : Program} {e : Env} {s : State} {m : MethodId} {args : Array Value} {below : List Frame} {meth : Method} {c : Code} {Kn : Option Value → ZH → Prop} {Kx : Nat → Prop} {h0 : ZH} (C : zCx p l (zRm 2 M 43) s m args meth c cX6_ask 5 RX6 z0 D cA M) (htab : ∀ x ∈ c.exceptionTable.toList, False) (hr : meth.sig.returnType = (some .int)) (HX6_isTag : Sem l z0 b N D cA yX6_isTag cX6_isTag 2 (some .boolean) 1 22 2 zno tX6_isTag) (HX6_in : Sem l z0 b N D cA yX6_in cX6_in 3 (some .boolean) 0 0 3 zno tX6_in) (HX6_holds : Sem l z0 b N D cA yX6_holds cX6_holds 2 (some .boolean) 0 0 2 zno tX6_holds) : Snd p l e (zRm 2 M 43) s m args below meth c 5 z0 b (zI z0 b N D cA s) (fun _ => (0, 0)) (vx_MQ below (zQn z0 b N D cA Kn) (zXn z0 b N D cA Kx h0) args s M (6 * M) (fun q => z0 ≤ q)) 65 (bX6_ask_65 M Kn Kx h0) := by
  obtain ⟨hx, hb, hml, hown, hts, -⟩ := id C
  unfold bX6_ask_65
  refine k_callV1 C htab (ci := 6) (Tf := TX6) (Nf := 20) (Cn := RX6) rfl HX6_holds rfl zlX6_78 zmX6_holds zvX6_holds ziX6 zcX6_holds (by decide +kernel) ⟨Nat.le_of_ble_eq_true rfl, Nat.le_of_ble_eq_true rfl⟩ dX6_ask_65 ?_
  refine k_if_ne (tgt := 73) hx hb dX6_ask_68 (by decide) ?_ ?_
  · refine k_aload_n hx hb dX6_ask_73 rfl ?_
    refine k_getf C (ci := 6) (k := 11) (Tf := TX6) (Nf := 20) (Cn := RX6) rfl zinX6 (by decide) rfl zfX6_29 dX6_ask_74 ?_
    refine k_aload_n hx hb dX6_ask_77 rfl ?_
    refine k_getf C (ci := 6) (k := 10) (Tf := TX6) (Nf := 20) (Cn := RX6) rfl zinX6 (by decide) rfl zfX6_142 dX6_ask_78 ?_
    refine k_iload_n hx hb dX6_ask_81 rfl ?_
    refine k_iast C dX6_ask_82 ?_
    refine k_aload_n hx hb dX6_ask_83 rfl ?_
    refine k_getf C (ci := 6) (k := 12) (Tf := TX6) (Nf := 20) (Cn := RX6) rfl zinX6 (by decide) rfl zfX6_32 dX6_ask_84 ?_
    refine k_aload_n hx hb dX6_ask_87 rfl ?_
    refine k_getf C (ci := 6) (k := 10) (Tf := TX6) (Nf := 20) (Cn := RX6) rfl zinX6 (by decide) rfl zfX6_142 dX6_ask_88 ?_
    refine k_iload_n hx hb dX6_ask_91 rfl ?_
    refine k_iast C dX6_ask_92 ?_
    refine k_aload_n hx hb dX6_ask_93 rfl ?_
    refine k_getf C (ci := 6) (k := 13) (Tf := TX6) (Nf := 20) (Cn := RX6) rfl zinX6 (by decide) rfl zfX6_35 dX6_ask_94 ?_
    refine k_aload_n hx hb dX6_ask_97 rfl ?_
    refine k_getf C (ci := 6) (k := 10) (Tf := TX6) (Nf := 20) (Cn := RX6) rfl zinX6 (by decide) rfl zfX6_142 dX6_ask_98 ?_
    refine k_iload_n hx hb dX6_ask_101 rfl ?_
    refine k_iast C dX6_ask_102 ?_
    refine k_aload_n hx hb dX6_ask_103 rfl ?_
    refine k_dup hx hb dX6_ask_104 ?_
    refine k_getf C (ci := 6) (k := 10) (Tf := TX6) (Nf := 20) (Cn := RX6) rfl zinX6 (by decide) rfl zfX6_142 dX6_ask_105 ?_
    refine k_iconst hx hb dX6_ask_108 (by decide) ?_
    refine k_iadd hx hb dX6_ask_109 ?_
    refine k_puti C (ci := 6) (k := 10) (Tf := TX6) (Nf := 20) (Cn := RX6) tyX6 tyX6_ok nmX6 rfl zinX6 (by decide) rfl rfl (by decide +kernel) zfX6_142 dX6_ask_110 ?_
    refine k_aload_n hx hb dX6_ask_113 rfl ?_
    refine k_getf C (ci := 6) (k := 10) (Tf := TX6) (Nf := 20) (Cn := RX6) rfl zinX6 (by decide) rfl zfX6_142 dX6_ask_114 ?_
    refine k_iconst hx hb dX6_ask_117 (by decide) ?_
    refine k_isub hx hb dX6_ask_118 ?_
    exact k_ret C hr dX6_ask_119
  · refine k_iconst hx hb dX6_ask_71 (by decide) ?_
    exact k_ret C hr dX6_ask_72
set_option maxRecDepth 20000 in
theorem sX6_ask_47 {l : Launch} {z0 b N M : Nat} {D : va_G} {cA : Nat → ClassId} {p : Program} {e : Env} {s : State} {m : MethodId} {args : Array Value} {below : List Frame} {meth : Method} {c : Code} {Kn : Option Value → ZH → Prop} {Kx : Nat → Prop} {h0 : ZH} (C : zCx p l (zRm 2 M 43) s m args meth c cX6_ask 5 RX6 z0 D cA M) (htab : ∀ x ∈ c.exceptionTable.toList, False) (hr : meth.sig.returnType = (some .int)) (HX6_isTag : Sem l z0 b N D cA yX6_isTag cX6_isTag 2 (some .boolean) 1 22 2 zno tX6_isTag) (HX6_in : Sem l z0 b N D cA yX6_in cX6_in 3 (some .boolean) 0 0 3 zno tX6_in) (HX6_holds : Sem l z0 b N D cA yX6_holds cX6_holds 2 (some .boolean) 0 0 2 zno tX6_holds) : Snd p l e (zRm 2 M 43) s m args below meth c 5 z0 b (zI z0 b N D cA s) (fun _ => (0, 0)) (vx_MQ below (zQn z0 b N D cA Kn) (zXn z0 b N D cA Kx h0) args s M (6 * M) (fun q => z0 ≤ q)) 47 (bX6_ask_47 M Kn Kx h0) := by
  obtain ⟨hx, hb, hml, hown, hts, -⟩ := id C
  unfold bX6_ask_47
  refine k_iconst hx hb dX6_ask_47 (by decide) ?_
  refine k_goto (tgt := 65) hx hb dX6_ask_48 (by decide) ?_
  exact sX6_ask_65 C htab hr HX6_isTag HX6_in HX6_holds
set_option maxRecDepth 20000 in
theorem sX6_ask_21 {l : Launch} {z0 b N M : Nat} {D : va_G} {cA : Nat → ClassId} {p : Program} {e : Env} {s : State} {m : MethodId} {args : Array Value} {below : List Frame} {meth : Method} {c : Code} {Kn : Option Value → ZH → Prop} {Kx : Nat → Prop} {h0 : ZH} (C : zCx p l (zRm 2 M 43) s m args meth c cX6_ask 5 RX6 z0 D cA M) (htab : ∀ x ∈ c.exceptionTable.toList, False) (hr : meth.sig.returnType = (some .int)) (HX6_isTag : Sem l z0 b N D cA yX6_isTag cX6_isTag 2 (some .boolean) 1 22 2 zno tX6_isTag) (HX6_in : Sem l z0 b N D cA yX6_in cX6_in 3 (some .boolean) 0 0 3 zno tX6_in) (HX6_holds : Sem l z0 b N D cA yX6_holds cX6_holds 2 (some .boolean) 0 0 2 zno tX6_holds) : Snd p l e (zRm 2 M 43) s m args below meth c 5 z0 b (zI z0 b N D cA s) (fun _ => (0, 0)) (vx_MQ below (zQn z0 b N D cA Kn) (zXn z0 b N D cA Kx h0) args s M (6 * M) (fun q => z0 ≤ q)) 21 (bX6_ask_21 M Kn Kx h0) := by
  obtain ⟨hx, hb, hml, hown, hts, -⟩ := id C
  unfold bX6_ask_21
  refine k_istore hx hb dX6_ask_21 ?_
  refine k_aload_n hx hb dX6_ask_23 rfl ?_
  refine k_iload hx hb dX6_ask_24 ?_
  refine k_if_ne (tgt := 33) hx hb dX6_ask_26 (by decide) ?_ ?_
  · refine k_iload_n hx hb dX6_ask_33 rfl ?_
    refine k_iconst hx hb dX6_ask_34 (by decide) ?_
    refine k_iconst hx hb dX6_ask_35 (by decide) ?_
    refine k_callS3 C htab HX6_in zlX6_60 zsX6_in ziX6 zcX6_in (by decide +kernel) ⟨Nat.le_of_ble_eq_true rfl, Nat.le_of_ble_eq_true rfl⟩ dX6_ask_36 ?_
    refine k_if_eq (tgt := 47) hx hb dX6_ask_39 (by decide) ?_ ?_
    · exact sX6_ask_47 C htab hr HX6_isTag HX6_in HX6_holds
    · refine k_iload_n hx hb dX6_ask_42 rfl ?_
      refine k_iload_n hx hb dX6_ask_43 rfl ?_
      refine k_icmp_ne (tgt := 51) hx hb dX6_ask_44 (by decide) ?_ ?_
      · refine k_aload_n hx hb dX6_ask_51 rfl ?_
        refine k_getf C (ci := 6) (k := 10) (Tf := TX6) (Nf := 20) (Cn := RX6) rfl zinX6 (by decide) rfl zfX6_142 dX6_ask_52 ?_
        refine k_bipush hx hb dX6_ask_55 (by decide) ?_
        refine k_icmp_ne (tgt := 64) hx hb dX6_ask_57 (by decide) ?_ ?_
        · refine k_iconst hx hb dX6_ask_64 (by decide) ?_
          exact sX6_ask_65 C htab hr HX6_isTag HX6_in HX6_holds
        · refine k_iconst hx hb dX6_ask_60 (by decide) ?_
          refine k_goto (tgt := 65) hx hb dX6_ask_61 (by decide) ?_
          exact sX6_ask_65 C htab hr HX6_isTag HX6_in HX6_holds
      · exact sX6_ask_47 C htab hr HX6_isTag HX6_in HX6_holds
  · refine k_iconst hx hb dX6_ask_29 (by decide) ?_
    refine k_goto (tgt := 65) hx hb dX6_ask_30 (by decide) ?_
    exact sX6_ask_65 C htab hr HX6_isTag HX6_in HX6_holds
set_option maxRecDepth 20000 in
theorem sX6_ask_20 {l : Launch} {z0 b N M : Nat} {D : va_G} {cA : Nat → ClassId} {p : Program} {e : Env} {s : State} {m : MethodId} {args : Array Value} {below : List Frame} {meth : Method} {c : Code} {Kn : Option Value → ZH → Prop} {Kx : Nat → Prop} {h0 : ZH} (C : zCx p l (zRm 2 M 43) s m args meth c cX6_ask 5 RX6 z0 D cA M) (htab : ∀ x ∈ c.exceptionTable.toList, False) (hr : meth.sig.returnType = (some .int)) (HX6_isTag : Sem l z0 b N D cA yX6_isTag cX6_isTag 2 (some .boolean) 1 22 2 zno tX6_isTag) (HX6_in : Sem l z0 b N D cA yX6_in cX6_in 3 (some .boolean) 0 0 3 zno tX6_in) (HX6_holds : Sem l z0 b N D cA yX6_holds cX6_holds 2 (some .boolean) 0 0 2 zno tX6_holds) : Snd p l e (zRm 2 M 43) s m args below meth c 5 z0 b (zI z0 b N D cA s) (fun _ => (0, 0)) (vx_MQ below (zQn z0 b N D cA Kn) (zXn z0 b N D cA Kx h0) args s M (6 * M) (fun q => z0 ≤ q)) 20 (bX6_ask_20 M Kn Kx h0) := by
  obtain ⟨hx, hb, hml, hown, hts, -⟩ := id C
  unfold bX6_ask_20
  refine k_iconst hx hb dX6_ask_20 (by decide) ?_
  exact sX6_ask_21 C htab hr HX6_isTag HX6_in HX6_holds
set_option maxRecDepth 20000 in
theorem sX6_ask_0 {l : Launch} {z0 b N M : Nat} {D : va_G} {cA : Nat → ClassId} {p : Program} {e : Env} {s : State} {m : MethodId} {args : Array Value} {below : List Frame} {meth : Method} {c : Code} {Kn : Option Value → ZH → Prop} {Kx : Nat → Prop} {h0 : ZH} (C : zCx p l (zRm 2 M 43) s m args meth c cX6_ask 5 RX6 z0 D cA M) (htab : ∀ x ∈ c.exceptionTable.toList, False) (hr : meth.sig.returnType = (some .int)) (HX6_isTag : Sem l z0 b N D cA yX6_isTag cX6_isTag 2 (some .boolean) 1 22 2 zno tX6_isTag) (HX6_in : Sem l z0 b N D cA yX6_in cX6_in 3 (some .boolean) 0 0 3 zno tX6_in) (HX6_holds : Sem l z0 b N D cA yX6_holds cX6_holds 2 (some .boolean) 0 0 2 zno tX6_holds) : Snd p l e (zRm 2 M 43) s m args below meth c 5 z0 b (zI z0 b N D cA s) (fun _ => (0, 0)) (vx_MQ below (zQn z0 b N D cA Kn) (zXn z0 b N D cA Kx h0) args s M (6 * M) (fun q => z0 ≤ q)) 0 (bX6_ask_0 M Kn Kx h0) := by
  obtain ⟨hx, hb, hml, hown, hts, -⟩ := id C
  unfold bX6_ask_0
  refine k_aload_n hx hb dX6_ask_0 rfl ?_
  refine k_iload_n hx hb dX6_ask_1 rfl ?_
  refine k_callV1 C htab (ci := 6) (Tf := TX6) (Nf := 20) (Cn := RX6) rfl HX6_isTag rfl zlX6_85 zmX6_isTag zvX6_isTag ziX6 zcX6_isTag (by decide +kernel) ⟨Nat.le_of_ble_eq_true rfl, Nat.le_of_ble_eq_true rfl⟩ dX6_ask_2 ?_
  refine k_if_eq (tgt := 20) hx hb dX6_ask_5 (by decide) ?_ ?_
  · exact sX6_ask_20 C htab hr HX6_isTag HX6_in HX6_holds
  · refine k_aload_n hx hb dX6_ask_8 rfl ?_
    refine k_iload_n hx hb dX6_ask_9 rfl ?_
    refine k_callV1 C htab (ci := 6) (Tf := TX6) (Nf := 20) (Cn := RX6) rfl HX6_isTag rfl zlX6_85 zmX6_isTag zvX6_isTag ziX6 zcX6_isTag (by decide +kernel) ⟨Nat.le_of_ble_eq_true rfl, Nat.le_of_ble_eq_true rfl⟩ dX6_ask_10 ?_
    refine k_if_eq (tgt := 20) hx hb dX6_ask_13 (by decide) ?_ ?_
    · exact sX6_ask_20 C htab hr HX6_isTag HX6_in HX6_holds
    · refine k_iconst hx hb dX6_ask_16 (by decide) ?_
      refine k_goto (tgt := 21) hx hb dX6_ask_17 (by decide) ?_
      exact sX6_ask_21 C htab hr HX6_isTag HX6_in HX6_holds
set_option maxRecDepth 20000 in
theorem uX6_ask {l : Launch} {z0 b N : Nat} {D : va_G} {cA : Nat → ClassId} (hlt : l.stackTraces = false) (HX6_isTag : Sem l z0 b N D cA yX6_isTag cX6_isTag 2 (some .boolean) 1 22 2 zno tX6_isTag) (HX6_in : Sem l z0 b N D cA yX6_in cX6_in 3 (some .boolean) 0 0 3 zno tX6_in) (HX6_holds : Sem l z0 b N D cA yX6_holds cX6_holds 2 (some .boolean) 0 0 2 zno tX6_holds) (spec : ∀ (M : Nat) (a : List Value) (h : ZH) (Kn : Option Value → ZH → Prop) (Kx : Nat → Prop), zok 4 a = true → tX6_ask a h Kn → bX6_ask_0 M Kn Kx h (zE 5 a) [] h) : Sem l z0 b N D cA yX6_ask cX6_ask 5 (some .int) 2 43 4 zno tX6_ask :=
  sem_of hlt (by decide +kernel) (by decide) (fun p e s m args below meth c M a h Kn Kx hok hX hN C hr htab => sX6_ask_0 C htab hr HX6_isTag HX6_in HX6_holds _ _ _ (spec M a h Kn Kx hok (hN (fun _ h9 => h9))))
set_option maxRecDepth 20000 in
theorem sX6_isRequest_0 {l : Launch} {z0 b N M : Nat} {D : va_G} {cA : Nat → ClassId} {p : Program} {e : Env} {s : State} {m : MethodId} {args : Array Value} {below : List Frame} {meth : Method} {c : Code} {Kn : Option Value → ZH → Prop} {Kx : Nat → Prop} {h0 : ZH} (C : zCx p l (zRm 1 M 22) s m args meth c cX6_isRequest 2 RX6 z0 D cA M) (htab : ∀ x ∈ c.exceptionTable.toList, False) (hr : meth.sig.returnType = (some .boolean)) (HX6_in : Sem l z0 b N D cA yX6_in cX6_in 3 (some .boolean) 0 0 3 zno tX6_in) : Snd p l e (zRm 1 M 22) s m args below meth c 2 z0 b (zI z0 b N D cA s) (fun _ => (0, 0)) (vx_MQ below (zQn z0 b N D cA Kn) (zXn z0 b N D cA Kx h0) args s M (6 * M) (fun q => z0 ≤ q)) 0 (bX6_isRequest_0 M Kn Kx h0) := by
  obtain ⟨hx, hb, hml, hown, hts, -⟩ := id C
  unfold bX6_isRequest_0
  refine k_iload_n hx hb dX6_isRequest_0 rfl ?_
  refine k_iconst hx hb dX6_isRequest_1 (by decide) ?_
  refine k_aload_n hx hb dX6_isRequest_2 rfl ?_
  refine k_getf C (ci := 6) (k := 10) (Tf := TX6) (Nf := 20) (Cn := RX6) rfl zinX6 (by decide) rfl zfX6_142 dX6_isRequest_3 ?_
  refine k_iconst hx hb dX6_isRequest_6 (by decide) ?_
  refine k_isub hx hb dX6_isRequest_7 ?_
  refine k_callS3 C htab HX6_in zlX6_60 zsX6_in ziX6 zcX6_in (by decide +kernel) ⟨Nat.le_of_ble_eq_true rfl, Nat.le_of_ble_eq_true rfl⟩ dX6_isRequest_8 ?_
  exact k_ret C hr dX6_isRequest_11
set_option maxRecDepth 20000 in
theorem uX6_isRequest {l : Launch} {z0 b N : Nat} {D : va_G} {cA : Nat → ClassId} (hlt : l.stackTraces = false) (HX6_in : Sem l z0 b N D cA yX6_in cX6_in 3 (some .boolean) 0 0 3 zno tX6_in) (spec : ∀ (M : Nat) (a : List Value) (h : ZH) (Kn : Option Value → ZH → Prop) (Kx : Nat → Prop), zok 2 a = true → tX6_isRequest a h Kn → bX6_isRequest_0 M Kn Kx h (zE 2 a) [] h) : Sem l z0 b N D cA yX6_isRequest cX6_isRequest 2 (some .boolean) 1 22 2 zno tX6_isRequest :=
  sem_of hlt (by decide +kernel) (by decide) (fun p e s m args below meth c M a h Kn Kx hok hX hN C hr htab => sX6_isRequest_0 C htab hr HX6_in _ _ _ (spec M a h Kn Kx hok (hN (fun _ h9 => h9))))
set_option maxRecDepth 20000 in
theorem sX6_could_39 {l : Launch} {z0 b N M : Nat} {D : va_G} {cA : Nat → ClassId} {p : Program} {e : Env} {s : State} {m : MethodId} {args : Array Value} {below : List Frame} {meth : Method} {c : Code} {Kn : Option Value → ZH → Prop} {Kx : Nat → Prop} {h0 : ZH} (C : zCx p l (zRm 6 M 136) s m args meth c cX6_could 2 RX6 z0 D cA M) (htab : ∀ x ∈ c.exceptionTable.toList, False) (hr : meth.sig.returnType = (some .boolean)) (HX6_may : Sem l z0 b N D cA yX6_may cX6_may 5 (some .boolean) 5 112 4 zno tX6_may) : Snd p l e (zRm 6 M 136) s m args below meth c 2 z0 b (zI z0 b N D cA s) (fun _ => (0, 0)) (vx_MQ below (zQn z0 b N D cA Kn) (zXn z0 b N D cA Kx h0) args s M (6 * M) (fun q => z0 ≤ q)) 39 (bX6_could_39 M Kn Kx h0) := by
  obtain ⟨hx, hb, hml, hown, hts, -⟩ := id C
  unfold bX6_could_39
  exact k_ret C hr dX6_could_39
set_option maxRecDepth 20000 in
theorem sX6_could_38 {l : Launch} {z0 b N M : Nat} {D : va_G} {cA : Nat → ClassId} {p : Program} {e : Env} {s : State} {m : MethodId} {args : Array Value} {below : List Frame} {meth : Method} {c : Code} {Kn : Option Value → ZH → Prop} {Kx : Nat → Prop} {h0 : ZH} (C : zCx p l (zRm 6 M 136) s m args meth c cX6_could 2 RX6 z0 D cA M) (htab : ∀ x ∈ c.exceptionTable.toList, False) (hr : meth.sig.returnType = (some .boolean)) (HX6_may : Sem l z0 b N D cA yX6_may cX6_may 5 (some .boolean) 5 112 4 zno tX6_may) : Snd p l e (zRm 6 M 136) s m args below meth c 2 z0 b (zI z0 b N D cA s) (fun _ => (0, 0)) (vx_MQ below (zQn z0 b N D cA Kn) (zXn z0 b N D cA Kx h0) args s M (6 * M) (fun q => z0 ≤ q)) 38 (bX6_could_38 M Kn Kx h0) := by
  obtain ⟨hx, hb, hml, hown, hts, -⟩ := id C
  unfold bX6_could_38
  refine k_iconst hx hb dX6_could_38 (by decide) ?_
  exact sX6_could_39 C htab hr HX6_may
set_option maxRecDepth 20000 in
theorem sX6_could_0 {l : Launch} {z0 b N M : Nat} {D : va_G} {cA : Nat → ClassId} {p : Program} {e : Env} {s : State} {m : MethodId} {args : Array Value} {below : List Frame} {meth : Method} {c : Code} {Kn : Option Value → ZH → Prop} {Kx : Nat → Prop} {h0 : ZH} (C : zCx p l (zRm 6 M 136) s m args meth c cX6_could 2 RX6 z0 D cA M) (htab : ∀ x ∈ c.exceptionTable.toList, False) (hr : meth.sig.returnType = (some .boolean)) (HX6_may : Sem l z0 b N D cA yX6_may cX6_may 5 (some .boolean) 5 112 4 zno tX6_may) : Snd p l e (zRm 6 M 136) s m args below meth c 2 z0 b (zI z0 b N D cA s) (fun _ => (0, 0)) (vx_MQ below (zQn z0 b N D cA Kn) (zXn z0 b N D cA Kx h0) args s M (6 * M) (fun q => z0 ≤ q)) 0 (bX6_could_0 M Kn Kx h0) := by
  obtain ⟨hx, hb, hml, hown, hts, -⟩ := id C
  unfold bX6_could_0
  refine k_aload_n hx hb dX6_could_0 rfl ?_
  refine k_getf C (ci := 6) (k := 16) (Tf := TX6) (Nf := 20) (Cn := RX6) rfl zinX6 (by decide) rfl zfX6_44 dX6_could_1 ?_
  refine k_iload_n hx hb dX6_could_4 rfl ?_
  refine k_iald C dX6_could_5 ?_
  refine k_if_ne (tgt := 38) hx hb dX6_could_6 (by decide) ?_ ?_
  · exact sX6_could_38 C htab hr HX6_may
  · refine k_aload_n hx hb dX6_could_9 rfl ?_
    refine k_aload_n hx hb dX6_could_10 rfl ?_
    refine k_getf C (ci := 6) (k := 11) (Tf := TX6) (Nf := 20) (Cn := RX6) rfl zinX6 (by decide) rfl zfX6_29 dX6_could_11 ?_
    refine k_iload_n hx hb dX6_could_14 rfl ?_
    refine k_iald C dX6_could_15 ?_
    refine k_aload_n hx hb dX6_could_16 rfl ?_
    refine k_getf C (ci := 6) (k := 12) (Tf := TX6) (Nf := 20) (Cn := RX6) rfl zinX6 (by decide) rfl zfX6_32 dX6_could_17 ?_
    refine k_iload_n hx hb dX6_could_20 rfl ?_
    refine k_iald C dX6_could_21 ?_
    refine k_aload_n hx hb dX6_could_22 rfl ?_
    refine k_getf C (ci := 6) (k := 13) (Tf := TX6) (Nf := 20) (Cn := RX6) rfl zinX6 (by decide) rfl zfX6_35 dX6_could_23 ?_
    refine k_iload_n hx hb dX6_could_26 rfl ?_
    refine k_iald C dX6_could_27 ?_
    refine k_callV3 C htab (ci := 6) (Tf := TX6) (Nf := 20) (Cn := RX6) rfl HX6_may rfl zlX6_145 zmX6_may zvX6_may ziX6 zcX6_may (by decide +kernel) ⟨Nat.le_of_ble_eq_true rfl, Nat.le_of_ble_eq_true rfl⟩ dX6_could_28 ?_
    refine k_if_eq (tgt := 38) hx hb dX6_could_31 (by decide) ?_ ?_
    · exact sX6_could_38 C htab hr HX6_may
    · refine k_iconst hx hb dX6_could_34 (by decide) ?_
      refine k_goto (tgt := 39) hx hb dX6_could_35 (by decide) ?_
      exact sX6_could_39 C htab hr HX6_may
set_option maxRecDepth 20000 in
theorem uX6_could {l : Launch} {z0 b N : Nat} {D : va_G} {cA : Nat → ClassId} (hlt : l.stackTraces = false) (HX6_may : Sem l z0 b N D cA yX6_may cX6_may 5 (some .boolean) 5 112 4 zno tX6_may) (spec : ∀ (M : Nat) (a : List Value) (h : ZH) (Kn : Option Value → ZH → Prop) (Kx : Nat → Prop), zok 2 a = true → tX6_could a h Kn → bX6_could_0 M Kn Kx h (zE 2 a) [] h) : Sem l z0 b N D cA yX6_could cX6_could 2 (some .boolean) 6 136 2 zno tX6_could :=
  sem_of hlt (by decide +kernel) (by decide) (fun p e s m args below meth c M a h Kn Kx hok hX hN C hr htab => sX6_could_0 C htab hr HX6_may _ _ _ (spec M a h Kn Kx hok (hN (fun _ h9 => h9))))
set_option maxRecDepth 20000 in
theorem sX6_vote_218 {l : Launch} {z0 b N M : Nat} {D : va_G} {cA : Nat → ClassId} {p : Program} {e : Env} {s : State} {m : MethodId} {args : Array Value} {below : List Frame} {meth : Method} {c : Code} {Kn : Option Value → ZH → Prop} {Kx : Nat → Prop} {h0 : ZH} (C : zCx p l (zRm 7 M 157) s m args meth c cX6_vote 8 RX6 z0 D cA M) (htab : ∀ x ∈ c.exceptionTable.toList, False) (hr : meth.sig.returnType = (some .int)) (HX6_isRequest : Sem l z0 b N D cA yX6_isRequest cX6_isRequest 2 (some .boolean) 1 22 2 zno tX6_isRequest) (HX6_in : Sem l z0 b N D cA yX6_in cX6_in 3 (some .boolean) 0 0 3 zno tX6_in) (HX6_holds : Sem l z0 b N D cA yX6_holds cX6_holds 2 (some .boolean) 0 0 2 zno tX6_holds) (HX6_many : Sem l z0 b N D cA yX6_many cX6_many 3 (some .int) 0 0 1 zno tX6_many) (HX6_could : Sem l z0 b N D cA yX6_could cX6_could 2 (some .boolean) 6 136 2 zno tX6_could) (HX6_does : Sem l z0 b N D cA yX6_does cX6_does 4 none 0 0 4 zno tX6_does) : Snd p l e (zRm 7 M 157) s m args below meth c 8 z0 b (zI z0 b N D cA s) (fun _ => (0, 0)) (vx_MQ below (zQn z0 b N D cA Kn) (zXn z0 b N D cA Kx h0) args s M (6 * M) (fun q => z0 ≤ q)) 218 (bX6_vote_218 M Kn Kx h0) := by
  obtain ⟨hx, hb, hml, hown, hts, -⟩ := id C
  unfold bX6_vote_218
  refine k_aload_n hx hb dX6_vote_218 rfl ?_
  refine k_getf C (ci := 6) (k := 16) (Tf := TX6) (Nf := 20) (Cn := RX6) rfl zinX6 (by decide) rfl zfX6_44 dX6_vote_219 ?_
  refine k_iload_n hx hb dX6_vote_222 rfl ?_
  refine k_iald C dX6_vote_223 ?_
  exact k_ret C hr dX6_vote_224
set_option maxRecDepth 20000 in
theorem sX6_vote_201 {l : Launch} {z0 b N M : Nat} {D : va_G} {cA : Nat → ClassId} {p : Program} {e : Env} {s : State} {m : MethodId} {args : Array Value} {below : List Frame} {meth : Method} {c : Code} {Kn : Option Value → ZH → Prop} {Kx : Nat → Prop} {h0 : ZH} (C : zCx p l (zRm 7 M 157) s m args meth c cX6_vote 8 RX6 z0 D cA M) (htab : ∀ x ∈ c.exceptionTable.toList, False) (hr : meth.sig.returnType = (some .int)) (HX6_isRequest : Sem l z0 b N D cA yX6_isRequest cX6_isRequest 2 (some .boolean) 1 22 2 zno tX6_isRequest) (HX6_in : Sem l z0 b N D cA yX6_in cX6_in 3 (some .boolean) 0 0 3 zno tX6_in) (HX6_holds : Sem l z0 b N D cA yX6_holds cX6_holds 2 (some .boolean) 0 0 2 zno tX6_holds) (HX6_many : Sem l z0 b N D cA yX6_many cX6_many 3 (some .int) 0 0 1 zno tX6_many) (HX6_could : Sem l z0 b N D cA yX6_could cX6_could 2 (some .boolean) 6 136 2 zno tX6_could) (HX6_does : Sem l z0 b N D cA yX6_does cX6_does 4 none 0 0 4 zno tX6_does) : Snd p l e (zRm 7 M 157) s m args below meth c 8 z0 b (zI z0 b N D cA s) (fun _ => (0, 0)) (vx_MQ below (zQn z0 b N D cA Kn) (zXn z0 b N D cA Kx h0) args s M (6 * M) (fun q => z0 ≤ q)) 201 (bX6_vote_201 M Kn Kx h0) := by
  obtain ⟨hx, hb, hml, hown, hts, -⟩ := id C
  unfold bX6_vote_201
  refine k_goto (tgt := 218) hx hb dX6_vote_201 (by decide) ?_
  exact sX6_vote_218 C htab hr HX6_isRequest HX6_in HX6_holds HX6_many HX6_could HX6_does
set_option maxRecDepth 20000 in
theorem sX6_vote_173 {l : Launch} {z0 b N M : Nat} {D : va_G} {cA : Nat → ClassId} {p : Program} {e : Env} {s : State} {m : MethodId} {args : Array Value} {below : List Frame} {meth : Method} {c : Code} {Kn : Option Value → ZH → Prop} {Kx : Nat → Prop} {h0 : ZH} (C : zCx p l (zRm 7 M 157) s m args meth c cX6_vote 8 RX6 z0 D cA M) (htab : ∀ x ∈ c.exceptionTable.toList, False) (hr : meth.sig.returnType = (some .int)) (HX6_isRequest : Sem l z0 b N D cA yX6_isRequest cX6_isRequest 2 (some .boolean) 1 22 2 zno tX6_isRequest) (HX6_in : Sem l z0 b N D cA yX6_in cX6_in 3 (some .boolean) 0 0 3 zno tX6_in) (HX6_holds : Sem l z0 b N D cA yX6_holds cX6_holds 2 (some .boolean) 0 0 2 zno tX6_holds) (HX6_many : Sem l z0 b N D cA yX6_many cX6_many 3 (some .int) 0 0 1 zno tX6_many) (HX6_could : Sem l z0 b N D cA yX6_could cX6_could 2 (some .boolean) 6 136 2 zno tX6_could) (HX6_does : Sem l z0 b N D cA yX6_does cX6_does 4 none 0 0 4 zno tX6_does) : Snd p l e (zRm 7 M 157) s m args below meth c 8 z0 b (zI z0 b N D cA s) (fun _ => (0, 0)) (vx_MQ below (zQn z0 b N D cA Kn) (zXn z0 b N D cA Kx h0) args s M (6 * M) (fun q => z0 ≤ q)) 173 (bX6_vote_173 M Kn Kx h0) := by
  obtain ⟨hx, hb, hml, hown, hts, -⟩ := id C
  unfold bX6_vote_173
  refine k_iast C dX6_vote_173 ?_
  refine k_iload hx hb dX6_vote_174 ?_
  refine k_if_eq (tgt := 201) hx hb dX6_vote_176 (by decide) ?_ ?_
  · exact sX6_vote_201 C htab hr HX6_isRequest HX6_in HX6_holds HX6_many HX6_could HX6_does
  · refine k_aload_n hx hb dX6_vote_179 rfl ?_
    refine k_aload_n hx hb dX6_vote_180 rfl ?_
    refine k_getf C (ci := 6) (k := 11) (Tf := TX6) (Nf := 20) (Cn := RX6) rfl zinX6 (by decide) rfl zfX6_29 dX6_vote_181 ?_
    refine k_iload_n hx hb dX6_vote_184 rfl ?_
    refine k_iald C dX6_vote_185 ?_
    refine k_aload_n hx hb dX6_vote_186 rfl ?_
    refine k_getf C (ci := 6) (k := 12) (Tf := TX6) (Nf := 20) (Cn := RX6) rfl zinX6 (by decide) rfl zfX6_32 dX6_vote_187 ?_
    refine k_iload_n hx hb dX6_vote_190 rfl ?_
    refine k_iald C dX6_vote_191 ?_
    refine k_aload_n hx hb dX6_vote_192 rfl ?_
    refine k_getf C (ci := 6) (k := 13) (Tf := TX6) (Nf := 20) (Cn := RX6) rfl zinX6 (by decide) rfl zfX6_35 dX6_vote_193 ?_
    refine k_iload_n hx hb dX6_vote_196 rfl ?_
    refine k_iald C dX6_vote_197 ?_
    refine k_callV3 C htab (ci := 6) (Tf := TX6) (Nf := 20) (Cn := RX6) rfl HX6_does rfl zlX6_134 zmX6_does zvX6_does ziX6 zcX6_does (by decide +kernel) ⟨Nat.le_of_ble_eq_true rfl, Nat.le_of_ble_eq_true rfl⟩ dX6_vote_198 ?_
    exact sX6_vote_201 C htab hr HX6_isRequest HX6_in HX6_holds HX6_many HX6_could HX6_does
set_option maxRecDepth 20000 in
theorem sX6_vote_123 {l : Launch} {z0 b N M : Nat} {D : va_G} {cA : Nat → ClassId} {p : Program} {e : Env} {s : State} {m : MethodId} {args : Array Value} {below : List Frame} {meth : Method} {c : Code} {Kn : Option Value → ZH → Prop} {Kx : Nat → Prop} {h0 : ZH} (C : zCx p l (zRm 7 M 157) s m args meth c cX6_vote 8 RX6 z0 D cA M) (htab : ∀ x ∈ c.exceptionTable.toList, False) (hr : meth.sig.returnType = (some .int)) (HX6_isRequest : Sem l z0 b N D cA yX6_isRequest cX6_isRequest 2 (some .boolean) 1 22 2 zno tX6_isRequest) (HX6_in : Sem l z0 b N D cA yX6_in cX6_in 3 (some .boolean) 0 0 3 zno tX6_in) (HX6_holds : Sem l z0 b N D cA yX6_holds cX6_holds 2 (some .boolean) 0 0 2 zno tX6_holds) (HX6_many : Sem l z0 b N D cA yX6_many cX6_many 3 (some .int) 0 0 1 zno tX6_many) (HX6_could : Sem l z0 b N D cA yX6_could cX6_could 2 (some .boolean) 6 136 2 zno tX6_could) (HX6_does : Sem l z0 b N D cA yX6_does cX6_does 4 none 0 0 4 zno tX6_does) : Snd p l e (zRm 7 M 157) s m args below meth c 8 z0 b (zI z0 b N D cA s) (fun _ => (0, 0)) (vx_MQ below (zQn z0 b N D cA Kn) (zXn z0 b N D cA Kx h0) args s M (6 * M) (fun q => z0 ≤ q)) 123 (bX6_vote_123 M Kn Kx h0) := by
  obtain ⟨hx, hb, hml, hown, hts, -⟩ := id C
  unfold bX6_vote_123
  refine k_iast C dX6_vote_123 ?_
  refine k_aload_n hx hb dX6_vote_124 rfl ?_
  refine k_getf C (ci := 6) (k := 14) (Tf := TX6) (Nf := 20) (Cn := RX6) rfl zinX6 (by decide) rfl zfX6_38 dX6_vote_125 ?_
  refine k_iload_n hx hb dX6_vote_128 rfl ?_
  refine k_iald C dX6_vote_129 ?_
  refine k_callS1 C htab HX6_many zlX6_122 zsX6_many ziX6 zcX6_many (by decide +kernel) ⟨Nat.le_of_ble_eq_true rfl, Nat.le_of_ble_eq_true rfl⟩ dX6_vote_130 ?_
  refine k_aload_n hx hb dX6_vote_133 rfl ?_
  refine k_getf C (ci := 6) (k := 15) (Tf := TX6) (Nf := 20) (Cn := RX6) rfl zinX6 (by decide) rfl zfX6_41 dX6_vote_134 ?_
  refine k_iload_n hx hb dX6_vote_137 rfl ?_
  refine k_iald C dX6_vote_138 ?_
  refine k_callS1 C htab HX6_many zlX6_122 zsX6_many ziX6 zcX6_many (by decide +kernel) ⟨Nat.le_of_ble_eq_true rfl, Nat.le_of_ble_eq_true rfl⟩ dX6_vote_139 ?_
  refine k_isub hx hb dX6_vote_142 ?_
  refine k_istore hx hb dX6_vote_143 ?_
  refine k_iload hx hb dX6_vote_145 ?_
  refine k_iconst hx hb dX6_vote_147 (by decide) ?_
  refine k_icmp_lt (tgt := 204) hx hb dX6_vote_148 (by decide) ?_ ?_
  · refine k_iload hx hb dX6_vote_204 ?_
    refine k_bipush hx hb dX6_vote_206 (by decide) ?_
    refine k_icmp_gt (tgt := 218) hx hb dX6_vote_208 (by decide) ?_ ?_
    · exact sX6_vote_218 C htab hr HX6_isRequest HX6_in HX6_holds HX6_many HX6_could HX6_does
    · refine k_aload_n hx hb dX6_vote_211 rfl ?_
      refine k_getf C (ci := 6) (k := 16) (Tf := TX6) (Nf := 20) (Cn := RX6) rfl zinX6 (by decide) rfl zfX6_44 dX6_vote_212 ?_
      refine k_iload_n hx hb dX6_vote_215 rfl ?_
      refine k_iconst hx hb dX6_vote_216 (by decide) ?_
      refine k_iast C dX6_vote_217 ?_
      exact sX6_vote_218 C htab hr HX6_isRequest HX6_in HX6_holds HX6_many HX6_could HX6_does
  · refine k_aload_n hx hb dX6_vote_151 rfl ?_
    refine k_iload_n hx hb dX6_vote_152 rfl ?_
    refine k_callV1 C htab (ci := 6) (Tf := TX6) (Nf := 20) (Cn := RX6) rfl HX6_could rfl zlX6_151 zmX6_could zvX6_could ziX6 zcX6_could (by decide +kernel) ⟨Nat.le_of_ble_eq_true rfl, Nat.le_of_ble_eq_true rfl⟩ dX6_vote_153 ?_
    refine k_istore hx hb dX6_vote_156 ?_
    refine k_aload_n hx hb dX6_vote_158 rfl ?_
    refine k_getf C (ci := 6) (k := 16) (Tf := TX6) (Nf := 20) (Cn := RX6) rfl zinX6 (by decide) rfl zfX6_44 dX6_vote_159 ?_
    refine k_iload_n hx hb dX6_vote_162 rfl ?_
    refine k_iload hx hb dX6_vote_163 ?_
    refine k_if_eq (tgt := 172) hx hb dX6_vote_165 (by decide) ?_ ?_
    · refine k_iconst hx hb dX6_vote_172 (by decide) ?_
      exact sX6_vote_173 C htab hr HX6_isRequest HX6_in HX6_holds HX6_many HX6_could HX6_does
    · refine k_iconst hx hb dX6_vote_168 (by decide) ?_
      refine k_goto (tgt := 173) hx hb dX6_vote_169 (by decide) ?_
      exact sX6_vote_173 C htab hr HX6_isRequest HX6_in HX6_holds HX6_many HX6_could HX6_does
set_option maxRecDepth 20000 in
theorem sX6_vote_90 {l : Launch} {z0 b N M : Nat} {D : va_G} {cA : Nat → ClassId} {p : Program} {e : Env} {s : State} {m : MethodId} {args : Array Value} {below : List Frame} {meth : Method} {c : Code} {Kn : Option Value → ZH → Prop} {Kx : Nat → Prop} {h0 : ZH} (C : zCx p l (zRm 7 M 157) s m args meth c cX6_vote 8 RX6 z0 D cA M) (htab : ∀ x ∈ c.exceptionTable.toList, False) (hr : meth.sig.returnType = (some .int)) (HX6_isRequest : Sem l z0 b N D cA yX6_isRequest cX6_isRequest 2 (some .boolean) 1 22 2 zno tX6_isRequest) (HX6_in : Sem l z0 b N D cA yX6_in cX6_in 3 (some .boolean) 0 0 3 zno tX6_in) (HX6_holds : Sem l z0 b N D cA yX6_holds cX6_holds 2 (some .boolean) 0 0 2 zno tX6_holds) (HX6_many : Sem l z0 b N D cA yX6_many cX6_many 3 (some .int) 0 0 1 zno tX6_many) (HX6_could : Sem l z0 b N D cA yX6_could cX6_could 2 (some .boolean) 6 136 2 zno tX6_could) (HX6_does : Sem l z0 b N D cA yX6_does cX6_does 4 none 0 0 4 zno tX6_does) : Snd p l e (zRm 7 M 157) s m args below meth c 8 z0 b (zI z0 b N D cA s) (fun _ => (0, 0)) (vx_MQ below (zQn z0 b N D cA Kn) (zXn z0 b N D cA Kx h0) args s M (6 * M) (fun q => z0 ≤ q)) 90 (bX6_vote_90 M Kn Kx h0) := by
  obtain ⟨hx, hb, hml, hown, hts, -⟩ := id C
  unfold bX6_vote_90
  refine k_iast C dX6_vote_90 ?_
  refine k_aload_n hx hb dX6_vote_91 rfl ?_
  refine k_getf C (ci := 6) (k := 15) (Tf := TX6) (Nf := 20) (Cn := RX6) rfl zinX6 (by decide) rfl zfX6_41 dX6_vote_92 ?_
  refine k_iload_n hx hb dX6_vote_95 rfl ?_
  refine k_iload_n hx hb dX6_vote_96 rfl ?_
  refine k_if_eq (tgt := 114) hx hb dX6_vote_97 (by decide) ?_ ?_
  · refine k_aload_n hx hb dX6_vote_114 rfl ?_
    refine k_getf C (ci := 6) (k := 15) (Tf := TX6) (Nf := 20) (Cn := RX6) rfl zinX6 (by decide) rfl zfX6_41 dX6_vote_115 ?_
    refine k_iload_n hx hb dX6_vote_118 rfl ?_
    refine k_iald C dX6_vote_119 ?_
    refine k_iload hx hb dX6_vote_120 ?_
    refine k_ior hx hb dX6_vote_122 ?_
    exact sX6_vote_123 C htab hr HX6_isRequest HX6_in HX6_holds HX6_many HX6_could HX6_does
  · refine k_aload_n hx hb dX6_vote_100 rfl ?_
    refine k_getf C (ci := 6) (k := 15) (Tf := TX6) (Nf := 20) (Cn := RX6) rfl zinX6 (by decide) rfl zfX6_41 dX6_vote_101 ?_
    refine k_iload_n hx hb dX6_vote_104 rfl ?_
    refine k_iald C dX6_vote_105 ?_
    refine k_iload hx hb dX6_vote_106 ?_
    refine k_iconst hx hb dX6_vote_108 (by decide) ?_
    refine k_ixor hx hb dX6_vote_109 ?_
    refine k_iand hx hb dX6_vote_110 ?_
    refine k_goto (tgt := 123) hx hb dX6_vote_111 (by decide) ?_
    exact sX6_vote_123 C htab hr HX6_isRequest HX6_in HX6_holds HX6_many HX6_could HX6_does
set_option maxRecDepth 20000 in
theorem sX6_vote_45 {l : Launch} {z0 b N M : Nat} {D : va_G} {cA : Nat → ClassId} {p : Program} {e : Env} {s : State} {m : MethodId} {args : Array Value} {below : List Frame} {meth : Method} {c : Code} {Kn : Option Value → ZH → Prop} {Kx : Nat → Prop} {h0 : ZH} (C : zCx p l (zRm 7 M 157) s m args meth c cX6_vote 8 RX6 z0 D cA M) (htab : ∀ x ∈ c.exceptionTable.toList, False) (hr : meth.sig.returnType = (some .int)) (HX6_isRequest : Sem l z0 b N D cA yX6_isRequest cX6_isRequest 2 (some .boolean) 1 22 2 zno tX6_isRequest) (HX6_in : Sem l z0 b N D cA yX6_in cX6_in 3 (some .boolean) 0 0 3 zno tX6_in) (HX6_holds : Sem l z0 b N D cA yX6_holds cX6_holds 2 (some .boolean) 0 0 2 zno tX6_holds) (HX6_many : Sem l z0 b N D cA yX6_many cX6_many 3 (some .int) 0 0 1 zno tX6_many) (HX6_could : Sem l z0 b N D cA yX6_could cX6_could 2 (some .boolean) 6 136 2 zno tX6_could) (HX6_does : Sem l z0 b N D cA yX6_does cX6_does 4 none 0 0 4 zno tX6_does) : Snd p l e (zRm 7 M 157) s m args below meth c 8 z0 b (zI z0 b N D cA s) (fun _ => (0, 0)) (vx_MQ below (zQn z0 b N D cA Kn) (zXn z0 b N D cA Kx h0) args s M (6 * M) (fun q => z0 ≤ q)) 45 (bX6_vote_45 M Kn Kx h0) := by
  obtain ⟨hx, hb, hml, hown, hts, -⟩ := id C
  unfold bX6_vote_45
  refine k_callV1 C htab (ci := 6) (Tf := TX6) (Nf := 20) (Cn := RX6) rfl HX6_holds rfl zlX6_78 zmX6_holds zvX6_holds ziX6 zcX6_holds (by decide +kernel) ⟨Nat.le_of_ble_eq_true rfl, Nat.le_of_ble_eq_true rfl⟩ dX6_vote_45 ?_
  refine k_if_ne (tgt := 53) hx hb dX6_vote_48 (by decide) ?_ ?_
  · refine k_iconst hx hb dX6_vote_53 (by decide) ?_
    refine k_iload_n hx hb dX6_vote_54 rfl ?_
    refine k_ishl hx hb dX6_vote_55 ?_
    refine k_istore hx hb dX6_vote_56 ?_
    refine k_aload_n hx hb dX6_vote_58 rfl ?_
    refine k_getf C (ci := 6) (k := 14) (Tf := TX6) (Nf := 20) (Cn := RX6) rfl zinX6 (by decide) rfl zfX6_38 dX6_vote_59 ?_
    refine k_iload_n hx hb dX6_vote_62 rfl ?_
    refine k_iload_n hx hb dX6_vote_63 rfl ?_
    refine k_if_eq (tgt := 79) hx hb dX6_vote_64 (by decide) ?_ ?_
    · refine k_aload_n hx hb dX6_vote_79 rfl ?_
      refine k_getf C (ci := 6) (k := 14) (Tf := TX6) (Nf := 20) (Cn := RX6) rfl zinX6 (by decide) rfl zfX6_38 dX6_vote_80 ?_
      refine k_iload_n hx hb dX6_vote_83 rfl ?_
      refine k_iald C dX6_vote_84 ?_
      refine k_iload hx hb dX6_vote_85 ?_
      refine k_iconst hx hb dX6_vote_87 (by decide) ?_
      refine k_ixor hx hb dX6_vote_88 ?_
      refine k_iand hx hb dX6_vote_89 ?_
      exact sX6_vote_90 C htab hr HX6_isRequest HX6_in HX6_holds HX6_many HX6_could HX6_does
    · refine k_aload_n hx hb dX6_vote_67 rfl ?_
      refine k_getf C (ci := 6) (k := 14) (Tf := TX6) (Nf := 20) (Cn := RX6) rfl zinX6 (by decide) rfl zfX6_38 dX6_vote_68 ?_
      refine k_iload_n hx hb dX6_vote_71 rfl ?_
      refine k_iald C dX6_vote_72 ?_
      refine k_iload hx hb dX6_vote_73 ?_
      refine k_ior hx hb dX6_vote_75 ?_
      refine k_goto (tgt := 90) hx hb dX6_vote_76 (by decide) ?_
      exact sX6_vote_90 C htab hr HX6_isRequest HX6_in HX6_holds HX6_many HX6_could HX6_does
  · refine k_iconst hx hb dX6_vote_51 (by decide) ?_
    exact k_ret C hr dX6_vote_52
set_option maxRecDepth 20000 in
theorem sX6_vote_0 {l : Launch} {z0 b N M : Nat} {D : va_G} {cA : Nat → ClassId} {p : Program} {e : Env} {s : State} {m : MethodId} {args : Array Value} {below : List Frame} {meth : Method} {c : Code} {Kn : Option Value → ZH → Prop} {Kx : Nat → Prop} {h0 : ZH} (C : zCx p l (zRm 7 M 157) s m args meth c cX6_vote 8 RX6 z0 D cA M) (htab : ∀ x ∈ c.exceptionTable.toList, False) (hr : meth.sig.returnType = (some .int)) (HX6_isRequest : Sem l z0 b N D cA yX6_isRequest cX6_isRequest 2 (some .boolean) 1 22 2 zno tX6_isRequest) (HX6_in : Sem l z0 b N D cA yX6_in cX6_in 3 (some .boolean) 0 0 3 zno tX6_in) (HX6_holds : Sem l z0 b N D cA yX6_holds cX6_holds 2 (some .boolean) 0 0 2 zno tX6_holds) (HX6_many : Sem l z0 b N D cA yX6_many cX6_many 3 (some .int) 0 0 1 zno tX6_many) (HX6_could : Sem l z0 b N D cA yX6_could cX6_could 2 (some .boolean) 6 136 2 zno tX6_could) (HX6_does : Sem l z0 b N D cA yX6_does cX6_does 4 none 0 0 4 zno tX6_does) : Snd p l e (zRm 7 M 157) s m args below meth c 8 z0 b (zI z0 b N D cA s) (fun _ => (0, 0)) (vx_MQ below (zQn z0 b N D cA Kn) (zXn z0 b N D cA Kx h0) args s M (6 * M) (fun q => z0 ≤ q)) 0 (bX6_vote_0 M Kn Kx h0) := by
  obtain ⟨hx, hb, hml, hown, hts, -⟩ := id C
  unfold bX6_vote_0
  refine k_aload_n hx hb dX6_vote_0 rfl ?_
  refine k_iload_n hx hb dX6_vote_1 rfl ?_
  refine k_callV1 C htab (ci := 6) (Tf := TX6) (Nf := 20) (Cn := RX6) rfl HX6_isRequest rfl zlX6_148 zmX6_isRequest zvX6_isRequest ziX6 zcX6_isRequest (by decide +kernel) ⟨Nat.le_of_ble_eq_true rfl, Nat.le_of_ble_eq_true rfl⟩ dX6_vote_2 ?_
  refine k_istore hx hb dX6_vote_5 ?_
  refine k_aload_n hx hb dX6_vote_7 rfl ?_
  refine k_iload hx hb dX6_vote_8 ?_
  refine k_if_ne (tgt := 17) hx hb dX6_vote_10 (by decide) ?_ ?_
  · refine k_iload_n hx hb dX6_vote_17 rfl ?_
    refine k_iconst hx hb dX6_vote_18 (by decide) ?_
    refine k_bipush hx hb dX6_vote_19 (by decide) ?_
    refine k_callS3 C htab HX6_in zlX6_60 zsX6_in ziX6 zcX6_in (by decide +kernel) ⟨Nat.le_of_ble_eq_true rfl, Nat.le_of_ble_eq_true rfl⟩ dX6_vote_21 ?_
    refine k_if_ne (tgt := 31) hx hb dX6_vote_24 (by decide) ?_ ?_
    · refine k_aload_n hx hb dX6_vote_31 rfl ?_
      refine k_getf C (ci := 6) (k := 16) (Tf := TX6) (Nf := 20) (Cn := RX6) rfl zinX6 (by decide) rfl zfX6_44 dX6_vote_32 ?_
      refine k_iload_n hx hb dX6_vote_35 rfl ?_
      refine k_iald C dX6_vote_36 ?_
      refine k_if_ne (tgt := 44) hx hb dX6_vote_37 (by decide) ?_ ?_
      · refine k_iconst hx hb dX6_vote_44 (by decide) ?_
        exact sX6_vote_45 C htab hr HX6_isRequest HX6_in HX6_holds HX6_many HX6_could HX6_does
      · refine k_iconst hx hb dX6_vote_40 (by decide) ?_
        refine k_goto (tgt := 45) hx hb dX6_vote_41 (by decide) ?_
        exact sX6_vote_45 C htab hr HX6_isRequest HX6_in HX6_holds HX6_many HX6_could HX6_does
    · refine k_iconst hx hb dX6_vote_27 (by decide) ?_
      refine k_goto (tgt := 45) hx hb dX6_vote_28 (by decide) ?_
      exact sX6_vote_45 C htab hr HX6_isRequest HX6_in HX6_holds HX6_many HX6_could HX6_does
  · refine k_iconst hx hb dX6_vote_13 (by decide) ?_
    refine k_goto (tgt := 45) hx hb dX6_vote_14 (by decide) ?_
    exact sX6_vote_45 C htab hr HX6_isRequest HX6_in HX6_holds HX6_many HX6_could HX6_does
set_option maxRecDepth 20000 in
theorem uX6_vote {l : Launch} {z0 b N : Nat} {D : va_G} {cA : Nat → ClassId} (hlt : l.stackTraces = false) (HX6_isRequest : Sem l z0 b N D cA yX6_isRequest cX6_isRequest 2 (some .boolean) 1 22 2 zno tX6_isRequest) (HX6_in : Sem l z0 b N D cA yX6_in cX6_in 3 (some .boolean) 0 0 3 zno tX6_in) (HX6_holds : Sem l z0 b N D cA yX6_holds cX6_holds 2 (some .boolean) 0 0 2 zno tX6_holds) (HX6_many : Sem l z0 b N D cA yX6_many cX6_many 3 (some .int) 0 0 1 zno tX6_many) (HX6_could : Sem l z0 b N D cA yX6_could cX6_could 2 (some .boolean) 6 136 2 zno tX6_could) (HX6_does : Sem l z0 b N D cA yX6_does cX6_does 4 none 0 0 4 zno tX6_does) (spec : ∀ (M : Nat) (a : List Value) (h : ZH) (Kn : Option Value → ZH → Prop) (Kx : Nat → Prop), zok 4 a = true → tX6_vote a h Kn → bX6_vote_0 M Kn Kx h (zE 8 a) [] h) : Sem l z0 b N D cA yX6_vote cX6_vote 8 (some .int) 7 157 4 zno tX6_vote :=
  sem_of hlt (by decide +kernel) (by decide) (fun p e s m args below meth c M a h Kn Kx hok hX hN C hr htab => sX6_vote_0 C htab hr HX6_isRequest HX6_in HX6_holds HX6_many HX6_could HX6_does _ _ _ (spec M a h Kn Kx hok (hN (fun _ h9 => h9))))
set_option maxRecDepth 20000 in
theorem sX6_standing_30 {l : Launch} {z0 b N M : Nat} {D : va_G} {cA : Nat → ClassId} {p : Program} {e : Env} {s : State} {m : MethodId} {args : Array Value} {below : List Frame} {meth : Method} {c : Code} {Kn : Option Value → ZH → Prop} {Kx : Nat → Prop} {h0 : ZH} (C : zCx p l (zRm 2 M 43) s m args meth c cX6_standing 2 RX6 z0 D cA M) (htab : ∀ x ∈ c.exceptionTable.toList, False) (hr : meth.sig.returnType = (some .int)) (HX6_isRequest : Sem l z0 b N D cA yX6_isRequest cX6_isRequest 2 (some .boolean) 1 22 2 zno tX6_isRequest) (HX6_holds : Sem l z0 b N D cA yX6_holds cX6_holds 2 (some .boolean) 0 0 2 zno tX6_holds) : Snd p l e (zRm 2 M 43) s m args below meth c 2 z0 b (zI z0 b N D cA s) (fun _ => (0, 0)) (vx_MQ below (zQn z0 b N D cA Kn) (zXn z0 b N D cA Kx h0) args s M (6 * M) (fun q => z0 ≤ q)) 30 (bX6_standing_30 M Kn Kx h0) := by
  obtain ⟨hx, hb, hml, hown, hts, -⟩ := id C
  unfold bX6_standing_30
  exact k_ret C hr dX6_standing_30
set_option maxRecDepth 20000 in
theorem sX6_standing_14 {l : Launch} {z0 b N M : Nat} {D : va_G} {cA : Nat → ClassId} {p : Program} {e : Env} {s : State} {m : MethodId} {args : Array Value} {below : List Frame} {meth : Method} {c : Code} {Kn : Option Value → ZH → Prop} {Kx : Nat → Prop} {h0 : ZH} (C : zCx p l (zRm 2 M 43) s m args meth c cX6_standing 2 RX6 z0 D cA M) (htab : ∀ x ∈ c.exceptionTable.toList, False) (hr : meth.sig.returnType = (some .int)) (HX6_isRequest : Sem l z0 b N D cA yX6_isRequest cX6_isRequest 2 (some .boolean) 1 22 2 zno tX6_isRequest) (HX6_holds : Sem l z0 b N D cA yX6_holds cX6_holds 2 (some .boolean) 0 0 2 zno tX6_holds) : Snd p l e (zRm 2 M 43) s m args below meth c 2 z0 b (zI z0 b N D cA s) (fun _ => (0, 0)) (vx_MQ below (zQn z0 b N D cA Kn) (zXn z0 b N D cA Kx h0) args s M (6 * M) (fun q => z0 ≤ q)) 14 (bX6_standing_14 M Kn Kx h0) := by
  obtain ⟨hx, hb, hml, hown, hts, -⟩ := id C
  unfold bX6_standing_14
  refine k_callV1 C htab (ci := 6) (Tf := TX6) (Nf := 20) (Cn := RX6) rfl HX6_holds rfl zlX6_78 zmX6_holds zvX6_holds ziX6 zcX6_holds (by decide +kernel) ⟨Nat.le_of_ble_eq_true rfl, Nat.le_of_ble_eq_true rfl⟩ dX6_standing_14 ?_
  refine k_if_eq (tgt := 29) hx hb dX6_standing_17 (by decide) ?_ ?_
  · refine k_iconst hx hb dX6_standing_29 (by decide) ?_
    exact sX6_standing_30 C htab hr HX6_isRequest HX6_holds
  · refine k_aload_n hx hb dX6_standing_20 rfl ?_
    refine k_getf C (ci := 6) (k := 16) (Tf := TX6) (Nf := 20) (Cn := RX6) rfl zinX6 (by decide) rfl zfX6_44 dX6_standing_21 ?_
    refine k_iload_n hx hb dX6_standing_24 rfl ?_
    refine k_iald C dX6_standing_25 ?_
    refine k_goto (tgt := 30) hx hb dX6_standing_26 (by decide) ?_
    exact sX6_standing_30 C htab hr HX6_isRequest HX6_holds
set_option maxRecDepth 20000 in
theorem sX6_standing_0 {l : Launch} {z0 b N M : Nat} {D : va_G} {cA : Nat → ClassId} {p : Program} {e : Env} {s : State} {m : MethodId} {args : Array Value} {below : List Frame} {meth : Method} {c : Code} {Kn : Option Value → ZH → Prop} {Kx : Nat → Prop} {h0 : ZH} (C : zCx p l (zRm 2 M 43) s m args meth c cX6_standing 2 RX6 z0 D cA M) (htab : ∀ x ∈ c.exceptionTable.toList, False) (hr : meth.sig.returnType = (some .int)) (HX6_isRequest : Sem l z0 b N D cA yX6_isRequest cX6_isRequest 2 (some .boolean) 1 22 2 zno tX6_isRequest) (HX6_holds : Sem l z0 b N D cA yX6_holds cX6_holds 2 (some .boolean) 0 0 2 zno tX6_holds) : Snd p l e (zRm 2 M 43) s m args below meth c 2 z0 b (zI z0 b N D cA s) (fun _ => (0, 0)) (vx_MQ below (zQn z0 b N D cA Kn) (zXn z0 b N D cA Kx h0) args s M (6 * M) (fun q => z0 ≤ q)) 0 (bX6_standing_0 M Kn Kx h0) := by
  obtain ⟨hx, hb, hml, hown, hts, -⟩ := id C
  unfold bX6_standing_0
  refine k_aload_n hx hb dX6_standing_0 rfl ?_
  refine k_aload_n hx hb dX6_standing_1 rfl ?_
  refine k_iload_n hx hb dX6_standing_2 rfl ?_
  refine k_callV1 C htab (ci := 6) (Tf := TX6) (Nf := 20) (Cn := RX6) rfl HX6_isRequest rfl zlX6_148 zmX6_isRequest zvX6_isRequest ziX6 zcX6_isRequest (by decide +kernel) ⟨Nat.le_of_ble_eq_true rfl, Nat.le_of_ble_eq_true rfl⟩ dX6_standing_3 ?_
  refine k_if_eq (tgt := 13) hx hb dX6_standing_6 (by decide) ?_ ?_
  · refine k_iconst hx hb dX6_standing_13 (by decide) ?_
    exact sX6_standing_14 C htab hr HX6_isRequest HX6_holds
  · refine k_iconst hx hb dX6_standing_9 (by decide) ?_
    refine k_goto (tgt := 14) hx hb dX6_standing_10 (by decide) ?_
    exact sX6_standing_14 C htab hr HX6_isRequest HX6_holds
set_option maxRecDepth 20000 in
theorem uX6_standing {l : Launch} {z0 b N : Nat} {D : va_G} {cA : Nat → ClassId} (hlt : l.stackTraces = false) (HX6_isRequest : Sem l z0 b N D cA yX6_isRequest cX6_isRequest 2 (some .boolean) 1 22 2 zno tX6_isRequest) (HX6_holds : Sem l z0 b N D cA yX6_holds cX6_holds 2 (some .boolean) 0 0 2 zno tX6_holds) (spec : ∀ (M : Nat) (a : List Value) (h : ZH) (Kn : Option Value → ZH → Prop) (Kx : Nat → Prop), zok 2 a = true → tX6_standing a h Kn → bX6_standing_0 M Kn Kx h (zE 2 a) [] h) : Sem l z0 b N D cA yX6_standing cX6_standing 2 (some .int) 2 43 2 zno tX6_standing :=
  sem_of hlt (by decide +kernel) (by decide) (fun p e s m args below meth c M a h Kn Kx hok hX hN C hr htab => sX6_standing_0 C htab hr HX6_isRequest HX6_holds _ _ _ (spec M a h Kn Kx hok (hN (fun _ h9 => h9))))
set_option maxRecDepth 20000 in
theorem sX6_couldPass_33 {l : Launch} {z0 b N M : Nat} {D : va_G} {cA : Nat → ClassId} {p : Program} {e : Env} {s : State} {m : MethodId} {args : Array Value} {below : List Frame} {meth : Method} {c : Code} {Kn : Option Value → ZH → Prop} {Kx : Nat → Prop} {h0 : ZH} (C : zCx p l (zRm 7 M 157) s m args meth c cX6_couldPass 2 RX6 z0 D cA M) (htab : ∀ x ∈ c.exceptionTable.toList, False) (hr : meth.sig.returnType = (some .boolean)) (HX6_isRequest : Sem l z0 b N D cA yX6_isRequest cX6_isRequest 2 (some .boolean) 1 22 2 zno tX6_isRequest) (HX6_holds : Sem l z0 b N D cA yX6_holds cX6_holds 2 (some .boolean) 0 0 2 zno tX6_holds) (HX6_could : Sem l z0 b N D cA yX6_could cX6_could 2 (some .boolean) 6 136 2 zno tX6_could) : Snd p l e (zRm 7 M 157) s m args below meth c 2 z0 b (zI z0 b N D cA s) (fun _ => (0, 0)) (vx_MQ below (zQn z0 b N D cA Kn) (zXn z0 b N D cA Kx h0) args s M (6 * M) (fun q => z0 ≤ q)) 33 (bX6_couldPass_33 M Kn Kx h0) := by
  obtain ⟨hx, hb, hml, hown, hts, -⟩ := id C
  unfold bX6_couldPass_33
  exact k_ret C hr dX6_couldPass_33
set_option maxRecDepth 20000 in
theorem sX6_couldPass_32 {l : Launch} {z0 b N M : Nat} {D : va_G} {cA : Nat → ClassId} {p : Program} {e : Env} {s : State} {m : MethodId} {args : Array Value} {below : List Frame} {meth : Method} {c : Code} {Kn : Option Value → ZH → Prop} {Kx : Nat → Prop} {h0 : ZH} (C : zCx p l (zRm 7 M 157) s m args meth c cX6_couldPass 2 RX6 z0 D cA M) (htab : ∀ x ∈ c.exceptionTable.toList, False) (hr : meth.sig.returnType = (some .boolean)) (HX6_isRequest : Sem l z0 b N D cA yX6_isRequest cX6_isRequest 2 (some .boolean) 1 22 2 zno tX6_isRequest) (HX6_holds : Sem l z0 b N D cA yX6_holds cX6_holds 2 (some .boolean) 0 0 2 zno tX6_holds) (HX6_could : Sem l z0 b N D cA yX6_could cX6_could 2 (some .boolean) 6 136 2 zno tX6_could) : Snd p l e (zRm 7 M 157) s m args below meth c 2 z0 b (zI z0 b N D cA s) (fun _ => (0, 0)) (vx_MQ below (zQn z0 b N D cA Kn) (zXn z0 b N D cA Kx h0) args s M (6 * M) (fun q => z0 ≤ q)) 32 (bX6_couldPass_32 M Kn Kx h0) := by
  obtain ⟨hx, hb, hml, hown, hts, -⟩ := id C
  unfold bX6_couldPass_32
  refine k_iconst hx hb dX6_couldPass_32 (by decide) ?_
  exact sX6_couldPass_33 C htab hr HX6_isRequest HX6_holds HX6_could
set_option maxRecDepth 20000 in
theorem sX6_couldPass_14 {l : Launch} {z0 b N M : Nat} {D : va_G} {cA : Nat → ClassId} {p : Program} {e : Env} {s : State} {m : MethodId} {args : Array Value} {below : List Frame} {meth : Method} {c : Code} {Kn : Option Value → ZH → Prop} {Kx : Nat → Prop} {h0 : ZH} (C : zCx p l (zRm 7 M 157) s m args meth c cX6_couldPass 2 RX6 z0 D cA M) (htab : ∀ x ∈ c.exceptionTable.toList, False) (hr : meth.sig.returnType = (some .boolean)) (HX6_isRequest : Sem l z0 b N D cA yX6_isRequest cX6_isRequest 2 (some .boolean) 1 22 2 zno tX6_isRequest) (HX6_holds : Sem l z0 b N D cA yX6_holds cX6_holds 2 (some .boolean) 0 0 2 zno tX6_holds) (HX6_could : Sem l z0 b N D cA yX6_could cX6_could 2 (some .boolean) 6 136 2 zno tX6_could) : Snd p l e (zRm 7 M 157) s m args below meth c 2 z0 b (zI z0 b N D cA s) (fun _ => (0, 0)) (vx_MQ below (zQn z0 b N D cA Kn) (zXn z0 b N D cA Kx h0) args s M (6 * M) (fun q => z0 ≤ q)) 14 (bX6_couldPass_14 M Kn Kx h0) := by
  obtain ⟨hx, hb, hml, hown, hts, -⟩ := id C
  unfold bX6_couldPass_14
  refine k_callV1 C htab (ci := 6) (Tf := TX6) (Nf := 20) (Cn := RX6) rfl HX6_holds rfl zlX6_78 zmX6_holds zvX6_holds ziX6 zcX6_holds (by decide +kernel) ⟨Nat.le_of_ble_eq_true rfl, Nat.le_of_ble_eq_true rfl⟩ dX6_couldPass_14 ?_
  refine k_if_eq (tgt := 32) hx hb dX6_couldPass_17 (by decide) ?_ ?_
  · exact sX6_couldPass_32 C htab hr HX6_isRequest HX6_holds HX6_could
  · refine k_aload_n hx hb dX6_couldPass_20 rfl ?_
    refine k_iload_n hx hb dX6_couldPass_21 rfl ?_
    refine k_callV1 C htab (ci := 6) (Tf := TX6) (Nf := 20) (Cn := RX6) rfl HX6_could rfl zlX6_151 zmX6_could zvX6_could ziX6 zcX6_could (by decide +kernel) ⟨Nat.le_of_ble_eq_true rfl, Nat.le_of_ble_eq_true rfl⟩ dX6_couldPass_22 ?_
    refine k_if_eq (tgt := 32) hx hb dX6_couldPass_25 (by decide) ?_ ?_
    · exact sX6_couldPass_32 C htab hr HX6_isRequest HX6_holds HX6_could
    · refine k_iconst hx hb dX6_couldPass_28 (by decide) ?_
      refine k_goto (tgt := 33) hx hb dX6_couldPass_29 (by decide) ?_
      exact sX6_couldPass_33 C htab hr HX6_isRequest HX6_holds HX6_could
set_option maxRecDepth 20000 in
theorem sX6_couldPass_0 {l : Launch} {z0 b N M : Nat} {D : va_G} {cA : Nat → ClassId} {p : Program} {e : Env} {s : State} {m : MethodId} {args : Array Value} {below : List Frame} {meth : Method} {c : Code} {Kn : Option Value → ZH → Prop} {Kx : Nat → Prop} {h0 : ZH} (C : zCx p l (zRm 7 M 157) s m args meth c cX6_couldPass 2 RX6 z0 D cA M) (htab : ∀ x ∈ c.exceptionTable.toList, False) (hr : meth.sig.returnType = (some .boolean)) (HX6_isRequest : Sem l z0 b N D cA yX6_isRequest cX6_isRequest 2 (some .boolean) 1 22 2 zno tX6_isRequest) (HX6_holds : Sem l z0 b N D cA yX6_holds cX6_holds 2 (some .boolean) 0 0 2 zno tX6_holds) (HX6_could : Sem l z0 b N D cA yX6_could cX6_could 2 (some .boolean) 6 136 2 zno tX6_could) : Snd p l e (zRm 7 M 157) s m args below meth c 2 z0 b (zI z0 b N D cA s) (fun _ => (0, 0)) (vx_MQ below (zQn z0 b N D cA Kn) (zXn z0 b N D cA Kx h0) args s M (6 * M) (fun q => z0 ≤ q)) 0 (bX6_couldPass_0 M Kn Kx h0) := by
  obtain ⟨hx, hb, hml, hown, hts, -⟩ := id C
  unfold bX6_couldPass_0
  refine k_aload_n hx hb dX6_couldPass_0 rfl ?_
  refine k_aload_n hx hb dX6_couldPass_1 rfl ?_
  refine k_iload_n hx hb dX6_couldPass_2 rfl ?_
  refine k_callV1 C htab (ci := 6) (Tf := TX6) (Nf := 20) (Cn := RX6) rfl HX6_isRequest rfl zlX6_148 zmX6_isRequest zvX6_isRequest ziX6 zcX6_isRequest (by decide +kernel) ⟨Nat.le_of_ble_eq_true rfl, Nat.le_of_ble_eq_true rfl⟩ dX6_couldPass_3 ?_
  refine k_if_eq (tgt := 13) hx hb dX6_couldPass_6 (by decide) ?_ ?_
  · refine k_iconst hx hb dX6_couldPass_13 (by decide) ?_
    exact sX6_couldPass_14 C htab hr HX6_isRequest HX6_holds HX6_could
  · refine k_iconst hx hb dX6_couldPass_9 (by decide) ?_
    refine k_goto (tgt := 14) hx hb dX6_couldPass_10 (by decide) ?_
    exact sX6_couldPass_14 C htab hr HX6_isRequest HX6_holds HX6_could
set_option maxRecDepth 20000 in
theorem uX6_couldPass {l : Launch} {z0 b N : Nat} {D : va_G} {cA : Nat → ClassId} (hlt : l.stackTraces = false) (HX6_isRequest : Sem l z0 b N D cA yX6_isRequest cX6_isRequest 2 (some .boolean) 1 22 2 zno tX6_isRequest) (HX6_holds : Sem l z0 b N D cA yX6_holds cX6_holds 2 (some .boolean) 0 0 2 zno tX6_holds) (HX6_could : Sem l z0 b N D cA yX6_could cX6_could 2 (some .boolean) 6 136 2 zno tX6_could) (spec : ∀ (M : Nat) (a : List Value) (h : ZH) (Kn : Option Value → ZH → Prop) (Kx : Nat → Prop), zok 2 a = true → tX6_couldPass a h Kn → bX6_couldPass_0 M Kn Kx h (zE 2 a) [] h) : Sem l z0 b N D cA yX6_couldPass cX6_couldPass 2 (some .boolean) 7 157 2 zno tX6_couldPass :=
  sem_of hlt (by decide +kernel) (by decide) (fun p e s m args below meth c M a h Kn Kx hok hX hN C hr htab => sX6_couldPass_0 C htab hr HX6_isRequest HX6_holds HX6_could _ _ _ (spec M a h Kn Kx hok (hN (fun _ h9 => h9))))
set_option maxRecDepth 20000 in
theorem sX6_couldBehind_46 {l : Launch} {z0 b N M : Nat} {D : va_G} {cA : Nat → ClassId} {p : Program} {e : Env} {s : State} {m : MethodId} {args : Array Value} {below : List Frame} {meth : Method} {c : Code} {Kn : Option Value → ZH → Prop} {Kx : Nat → Prop} {h0 : ZH} (C : zCx p l (zRm 7 M 157) s m args meth c cX6_couldBehind 5 RX6 z0 D cA M) (htab : ∀ x ∈ c.exceptionTable.toList, False) (hr : meth.sig.returnType = (some .boolean)) (HX6_does : Sem l z0 b N D cA yX6_does cX6_does 4 none 0 0 4 zno tX6_does) (HX6_could : Sem l z0 b N D cA yX6_could cX6_could 2 (some .boolean) 6 136 2 zno tX6_could) : Snd p l e (zRm 7 M 157) s m args below meth c 5 z0 b (zI z0 b N D cA s) (fun _ => (0, 0)) (vx_MQ below (zQn z0 b N D cA Kn) (zXn z0 b N D cA Kx h0) args s M (6 * M) (fun q => z0 ≤ q)) 46 (bX6_couldBehind_46 M Kn Kx h0) := by
  obtain ⟨hx, hb, hml, hown, hts, -⟩ := id C
  unfold bX6_couldBehind_46
  refine k_aload_n hx hb dX6_couldBehind_46 rfl ?_
  refine k_getf C (ci := 6) (k := 12) (Tf := TX6) (Nf := 20) (Cn := RX6) rfl zinX6 (by decide) rfl zfX6_32 dX6_couldBehind_47 ?_
  refine k_iload_n hx hb dX6_couldBehind_50 rfl ?_
  refine k_iald C dX6_couldBehind_51 ?_
  refine k_aload_n hx hb dX6_couldBehind_52 rfl ?_
  refine k_getf C (ci := 6) (k := 13) (Tf := TX6) (Nf := 20) (Cn := RX6) rfl zinX6 (by decide) rfl zfX6_35 dX6_couldBehind_53 ?_
  refine k_iload_n hx hb dX6_couldBehind_56 rfl ?_
  refine k_iald C dX6_couldBehind_57 ?_
  refine k_callV3 C htab (ci := 6) (Tf := TX6) (Nf := 20) (Cn := RX6) rfl HX6_does rfl zlX6_134 zmX6_does zvX6_does ziX6 zcX6_does (by decide +kernel) ⟨Nat.le_of_ble_eq_true rfl, Nat.le_of_ble_eq_true rfl⟩ dX6_couldBehind_58 ?_
  refine k_iload hx hb dX6_couldBehind_61 ?_
  exact k_ret C hr dX6_couldBehind_63
set_option maxRecDepth 20000 in
theorem sX6_couldBehind_0 {l : Launch} {z0 b N M : Nat} {D : va_G} {cA : Nat → ClassId} {p : Program} {e : Env} {s : State} {m : MethodId} {args : Array Value} {below : List Frame} {meth : Method} {c : Code} {Kn : Option Value → ZH → Prop} {Kx : Nat → Prop} {h0 : ZH} (C : zCx p l (zRm 7 M 157) s m args meth c cX6_couldBehind 5 RX6 z0 D cA M) (htab : ∀ x ∈ c.exceptionTable.toList, False) (hr : meth.sig.returnType = (some .boolean)) (HX6_does : Sem l z0 b N D cA yX6_does cX6_does 4 none 0 0 4 zno tX6_does) (HX6_could : Sem l z0 b N D cA yX6_could cX6_could 2 (some .boolean) 6 136 2 zno tX6_could) : Snd p l e (zRm 7 M 157) s m args below meth c 5 z0 b (zI z0 b N D cA s) (fun _ => (0, 0)) (vx_MQ below (zQn z0 b N D cA Kn) (zXn z0 b N D cA Kx h0) args s M (6 * M) (fun q => z0 ≤ q)) 0 (bX6_couldBehind_0 M Kn Kx h0) := by
  obtain ⟨hx, hb, hml, hown, hts, -⟩ := id C
  unfold bX6_couldBehind_0
  refine k_aload_n hx hb dX6_couldBehind_0 rfl ?_
  refine k_getf C (ci := 6) (k := 11) (Tf := TX6) (Nf := 20) (Cn := RX6) rfl zinX6 (by decide) rfl zfX6_29 dX6_couldBehind_1 ?_
  refine k_iload_n hx hb dX6_couldBehind_4 rfl ?_
  refine k_iald C dX6_couldBehind_5 ?_
  refine k_istore_n hx hb dX6_couldBehind_6 rfl ?_
  refine k_aload_n hx hb dX6_couldBehind_7 rfl ?_
  refine k_iload_n hx hb dX6_couldBehind_8 rfl ?_
  refine k_aload_n hx hb dX6_couldBehind_9 rfl ?_
  refine k_getf C (ci := 6) (k := 12) (Tf := TX6) (Nf := 20) (Cn := RX6) rfl zinX6 (by decide) rfl zfX6_32 dX6_couldBehind_10 ?_
  refine k_iload_n hx hb dX6_couldBehind_13 rfl ?_
  refine k_iald C dX6_couldBehind_14 ?_
  refine k_aload_n hx hb dX6_couldBehind_15 rfl ?_
  refine k_getf C (ci := 6) (k := 13) (Tf := TX6) (Nf := 20) (Cn := RX6) rfl zinX6 (by decide) rfl zfX6_35 dX6_couldBehind_16 ?_
  refine k_iload_n hx hb dX6_couldBehind_19 rfl ?_
  refine k_iald C dX6_couldBehind_20 ?_
  refine k_callV3 C htab (ci := 6) (Tf := TX6) (Nf := 20) (Cn := RX6) rfl HX6_does rfl zlX6_134 zmX6_does zvX6_does ziX6 zcX6_does (by decide +kernel) ⟨Nat.le_of_ble_eq_true rfl, Nat.le_of_ble_eq_true rfl⟩ dX6_couldBehind_21 ?_
  refine k_aload_n hx hb dX6_couldBehind_24 rfl ?_
  refine k_iload_n hx hb dX6_couldBehind_25 rfl ?_
  refine k_callV1 C htab (ci := 6) (Tf := TX6) (Nf := 20) (Cn := RX6) rfl HX6_could rfl zlX6_151 zmX6_could zvX6_could ziX6 zcX6_could (by decide +kernel) ⟨Nat.le_of_ble_eq_true rfl, Nat.le_of_ble_eq_true rfl⟩ dX6_couldBehind_26 ?_
  refine k_istore hx hb dX6_couldBehind_29 ?_
  refine k_aload_n hx hb dX6_couldBehind_31 rfl ?_
  refine k_iload_n hx hb dX6_couldBehind_32 rfl ?_
  refine k_iconst hx hb dX6_couldBehind_33 (by decide) ?_
  refine k_icmp_ge (tgt := 43) hx hb dX6_couldBehind_34 (by decide) ?_ ?_
  · refine k_iload_n hx hb dX6_couldBehind_43 rfl ?_
    refine k_iconst hx hb dX6_couldBehind_44 (by decide) ?_
    refine k_isub hx hb dX6_couldBehind_45 ?_
    exact sX6_couldBehind_46 C htab hr HX6_does HX6_could
  · refine k_iload_n hx hb dX6_couldBehind_37 rfl ?_
    refine k_iconst hx hb dX6_couldBehind_38 (by decide) ?_
    refine k_iadd hx hb dX6_couldBehind_39 ?_
    refine k_goto (tgt := 46) hx hb dX6_couldBehind_40 (by decide) ?_
    exact sX6_couldBehind_46 C htab hr HX6_does HX6_could
set_option maxRecDepth 20000 in
theorem uX6_couldBehind {l : Launch} {z0 b N : Nat} {D : va_G} {cA : Nat → ClassId} (hlt : l.stackTraces = false) (HX6_does : Sem l z0 b N D cA yX6_does cX6_does 4 none 0 0 4 zno tX6_does) (HX6_could : Sem l z0 b N D cA yX6_could cX6_could 2 (some .boolean) 6 136 2 zno tX6_could) (spec : ∀ (M : Nat) (a : List Value) (h : ZH) (Kn : Option Value → ZH → Prop) (Kx : Nat → Prop), zok 3 a = true → tX6_couldBehind a h Kn → bX6_couldBehind_0 M Kn Kx h (zE 5 a) [] h) : Sem l z0 b N D cA yX6_couldBehind cX6_couldBehind 5 (some .boolean) 7 157 3 zno tX6_couldBehind :=
  sem_of hlt (by decide +kernel) (by decide) (fun p e s m args below meth c M a h Kn Kx hok hX hN C hr htab => sX6_couldBehind_0 C htab hr HX6_does HX6_could _ _ _ (spec M a h Kn Kx hok (hN (fun _ h9 => h9))))
set_option maxRecDepth 20000 in
theorem sX6_clashes_107 {l : Launch} {z0 b N M : Nat} {D : va_G} {cA : Nat → ClassId} {p : Program} {e : Env} {s : State} {m : MethodId} {args : Array Value} {below : List Frame} {meth : Method} {c : Code} {Kn : Option Value → ZH → Prop} {Kx : Nat → Prop} {h0 : ZH} {K33 : ZK ZH} (C : zCx p l (zRm 8 M 181) s m args meth c cX6_clashes 6 RX6 z0 D cA M) (htab : ∀ x ∈ c.exceptionTable.toList, False) (hr : meth.sig.returnType = (some .int)) (HX6_isRequest : Sem l z0 b N D cA yX6_isRequest cX6_isRequest 2 (some .boolean) 1 22 2 zno tX6_isRequest) (HX6_holds : Sem l z0 b N D cA yX6_holds cX6_holds 2 (some .boolean) 0 0 2 zno tX6_holds) (HX6_could : Sem l z0 b N D cA yX6_could cX6_could 2 (some .boolean) 6 136 2 zno tX6_could) (HX6_couldBehind : Sem l z0 b N D cA yX6_couldBehind cX6_couldBehind 5 (some .boolean) 7 157 3 zno tX6_couldBehind) (hK33 : Snd p l e (zRm 8 M 181) s m args below meth c 6 z0 b (zI z0 b N D cA s) (fun _ => (0, 0)) (vx_MQ below (zQn z0 b N D cA Kn) (zXn z0 b N D cA Kx h0) args s M (6 * M) (fun q => z0 ≤ q)) 33 K33) : Snd p l e (zRm 8 M 181) s m args below meth c 6 z0 b (zI z0 b N D cA s) (fun _ => (0, 0)) (vx_MQ below (zQn z0 b N D cA Kn) (zXn z0 b N D cA Kx h0) args s M (6 * M) (fun q => z0 ≤ q)) 107 (bX6_clashes_107 M Kn Kx h0 K33) := by
  obtain ⟨hx, hb, hml, hown, hts, -⟩ := id C
  unfold bX6_clashes_107
  refine k_iload_n hx hb dX6_clashes_107 rfl ?_
  exact k_ret C hr dX6_clashes_108
set_option maxRecDepth 20000 in
theorem sX6_clashes_99 {l : Launch} {z0 b N M : Nat} {D : va_G} {cA : Nat → ClassId} {p : Program} {e : Env} {s : State} {m : MethodId} {args : Array Value} {below : List Frame} {meth : Method} {c : Code} {Kn : Option Value → ZH → Prop} {Kx : Nat → Prop} {h0 : ZH} {K33 : ZK ZH} (C : zCx p l (zRm 8 M 181) s m args meth c cX6_clashes 6 RX6 z0 D cA M) (htab : ∀ x ∈ c.exceptionTable.toList, False) (hr : meth.sig.returnType = (some .int)) (HX6_isRequest : Sem l z0 b N D cA yX6_isRequest cX6_isRequest 2 (some .boolean) 1 22 2 zno tX6_isRequest) (HX6_holds : Sem l z0 b N D cA yX6_holds cX6_holds 2 (some .boolean) 0 0 2 zno tX6_holds) (HX6_could : Sem l z0 b N D cA yX6_could cX6_could 2 (some .boolean) 6 136 2 zno tX6_could) (HX6_couldBehind : Sem l z0 b N D cA yX6_couldBehind cX6_couldBehind 5 (some .boolean) 7 157 3 zno tX6_couldBehind) (hK33 : Snd p l e (zRm 8 M 181) s m args below meth c 6 z0 b (zI z0 b N D cA s) (fun _ => (0, 0)) (vx_MQ below (zQn z0 b N D cA Kn) (zXn z0 b N D cA Kx h0) args s M (6 * M) (fun q => z0 ≤ q)) 33 K33) : Snd p l e (zRm 8 M 181) s m args below meth c 6 z0 b (zI z0 b N D cA s) (fun _ => (0, 0)) (vx_MQ below (zQn z0 b N D cA Kn) (zXn z0 b N D cA Kx h0) args s M (6 * M) (fun q => z0 ≤ q)) 99 (bX6_clashes_99 M Kn Kx h0 K33) := by
  obtain ⟨hx, hb, hml, hown, hts, -⟩ := id C
  unfold bX6_clashes_99
  refine k_iadd hx hb dX6_clashes_99 ?_
  refine k_istore_n hx hb dX6_clashes_100 rfl ?_
  refine k_iinc hx hb dX6_clashes_101 (by decide) ?_
  refine k_goto (tgt := 33) hx hb dX6_clashes_104 (by decide) ?_
  exact hK33
set_option maxRecDepth 20000 in
theorem sX6_clashes_98 {l : Launch} {z0 b N M : Nat} {D : va_G} {cA : Nat → ClassId} {p : Program} {e : Env} {s : State} {m : MethodId} {args : Array Value} {below : List Frame} {meth : Method} {c : Code} {Kn : Option Value → ZH → Prop} {Kx : Nat → Prop} {h0 : ZH} {K33 : ZK ZH} (C : zCx p l (zRm 8 M 181) s m args meth c cX6_clashes 6 RX6 z0 D cA M) (htab : ∀ x ∈ c.exceptionTable.toList, False) (hr : meth.sig.returnType = (some .int)) (HX6_isRequest : Sem l z0 b N D cA yX6_isRequest cX6_isRequest 2 (some .boolean) 1 22 2 zno tX6_isRequest) (HX6_holds : Sem l z0 b N D cA yX6_holds cX6_holds 2 (some .boolean) 0 0 2 zno tX6_holds) (HX6_could : Sem l z0 b N D cA yX6_could cX6_could 2 (some .boolean) 6 136 2 zno tX6_could) (HX6_couldBehind : Sem l z0 b N D cA yX6_couldBehind cX6_couldBehind 5 (some .boolean) 7 157 3 zno tX6_couldBehind) (hK33 : Snd p l e (zRm 8 M 181) s m args below meth c 6 z0 b (zI z0 b N D cA s) (fun _ => (0, 0)) (vx_MQ below (zQn z0 b N D cA Kn) (zXn z0 b N D cA Kx h0) args s M (6 * M) (fun q => z0 ≤ q)) 33 K33) : Snd p l e (zRm 8 M 181) s m args below meth c 6 z0 b (zI z0 b N D cA s) (fun _ => (0, 0)) (vx_MQ below (zQn z0 b N D cA Kn) (zXn z0 b N D cA Kx h0) args s M (6 * M) (fun q => z0 ≤ q)) 98 (bX6_clashes_98 M Kn Kx h0 K33) := by
  obtain ⟨hx, hb, hml, hown, hts, -⟩ := id C
  unfold bX6_clashes_98
  refine k_iconst hx hb dX6_clashes_98 (by decide) ?_
  exact sX6_clashes_99 C htab hr HX6_isRequest HX6_holds HX6_could HX6_couldBehind hK33
set_option maxRecDepth 20000 in
theorem sX6_clashes_94 {l : Launch} {z0 b N M : Nat} {D : va_G} {cA : Nat → ClassId} {p : Program} {e : Env} {s : State} {m : MethodId} {args : Array Value} {below : List Frame} {meth : Method} {c : Code} {Kn : Option Value → ZH → Prop} {Kx : Nat → Prop} {h0 : ZH} {K33 : ZK ZH} (C : zCx p l (zRm 8 M 181) s m args meth c cX6_clashes 6 RX6 z0 D cA M) (htab : ∀ x ∈ c.exceptionTable.toList, False) (hr : meth.sig.returnType = (some .int)) (HX6_isRequest : Sem l z0 b N D cA yX6_isRequest cX6_isRequest 2 (some .boolean) 1 22 2 zno tX6_isRequest) (HX6_holds : Sem l z0 b N D cA yX6_holds cX6_holds 2 (some .boolean) 0 0 2 zno tX6_holds) (HX6_could : Sem l z0 b N D cA yX6_could cX6_could 2 (some .boolean) 6 136 2 zno tX6_could) (HX6_couldBehind : Sem l z0 b N D cA yX6_couldBehind cX6_couldBehind 5 (some .boolean) 7 157 3 zno tX6_couldBehind) (hK33 : Snd p l e (zRm 8 M 181) s m args below meth c 6 z0 b (zI z0 b N D cA s) (fun _ => (0, 0)) (vx_MQ below (zQn z0 b N D cA Kn) (zXn z0 b N D cA Kx h0) args s M (6 * M) (fun q => z0 ≤ q)) 33 K33) : Snd p l e (zRm 8 M 181) s m args below meth c 6 z0 b (zI z0 b N D cA s) (fun _ => (0, 0)) (vx_MQ below (zQn z0 b N D cA Kn) (zXn z0 b N D cA Kx h0) args s M (6 * M) (fun q => z0 ≤ q)) 94 (bX6_clashes_94 M Kn Kx h0 K33) := by
  obtain ⟨hx, hb, hml, hown, hts, -⟩ := id C
  unfold bX6_clashes_94
  refine k_iconst hx hb dX6_clashes_94 (by decide) ?_
  refine k_goto (tgt := 99) hx hb dX6_clashes_95 (by decide) ?_
  exact sX6_clashes_99 C htab hr HX6_isRequest HX6_holds HX6_could HX6_couldBehind hK33
set_option maxRecDepth 20000 in
theorem sX6_clashes_66 {l : Launch} {z0 b N M : Nat} {D : va_G} {cA : Nat → ClassId} {p : Program} {e : Env} {s : State} {m : MethodId} {args : Array Value} {below : List Frame} {meth : Method} {c : Code} {Kn : Option Value → ZH → Prop} {Kx : Nat → Prop} {h0 : ZH} {K33 : ZK ZH} (C : zCx p l (zRm 8 M 181) s m args meth c cX6_clashes 6 RX6 z0 D cA M) (htab : ∀ x ∈ c.exceptionTable.toList, False) (hr : meth.sig.returnType = (some .int)) (HX6_isRequest : Sem l z0 b N D cA yX6_isRequest cX6_isRequest 2 (some .boolean) 1 22 2 zno tX6_isRequest) (HX6_holds : Sem l z0 b N D cA yX6_holds cX6_holds 2 (some .boolean) 0 0 2 zno tX6_holds) (HX6_could : Sem l z0 b N D cA yX6_could cX6_could 2 (some .boolean) 6 136 2 zno tX6_could) (HX6_couldBehind : Sem l z0 b N D cA yX6_couldBehind cX6_couldBehind 5 (some .boolean) 7 157 3 zno tX6_couldBehind) (hK33 : Snd p l e (zRm 8 M 181) s m args below meth c 6 z0 b (zI z0 b N D cA s) (fun _ => (0, 0)) (vx_MQ below (zQn z0 b N D cA Kn) (zXn z0 b N D cA Kx h0) args s M (6 * M) (fun q => z0 ≤ q)) 33 K33) : Snd p l e (zRm 8 M 181) s m args below meth c 6 z0 b (zI z0 b N D cA s) (fun _ => (0, 0)) (vx_MQ below (zQn z0 b N D cA Kn) (zXn z0 b N D cA Kx h0) args s M (6 * M) (fun q => z0 ≤ q)) 66 (bX6_clashes_66 M Kn Kx h0 K33) := by
  obtain ⟨hx, hb, hml, hown, hts, -⟩ := id C
  unfold bX6_clashes_66
  refine k_istore hx hb dX6_clashes_66 ?_
  refine k_iload_n hx hb dX6_clashes_68 rfl ?_
  refine k_iload hx hb dX6_clashes_69 ?_
  refine k_if_eq (tgt := 98) hx hb dX6_clashes_71 (by decide) ?_ ?_
  · exact sX6_clashes_98 C htab hr HX6_isRequest HX6_holds HX6_could HX6_couldBehind hK33
  · refine k_aload_n hx hb dX6_clashes_74 rfl ?_
    refine k_iload_n hx hb dX6_clashes_75 rfl ?_
    refine k_iload hx hb dX6_clashes_76 ?_
    refine k_callV2 C htab (ci := 6) (Tf := TX6) (Nf := 20) (Cn := RX6) rfl HX6_couldBehind rfl zlX6_154 zmX6_couldBehind zvX6_couldBehind ziX6 zcX6_couldBehind (by decide +kernel) ⟨Nat.le_of_ble_eq_true rfl, Nat.le_of_ble_eq_true rfl⟩ dX6_clashes_78 ?_
    refine k_if_eq (tgt := 94) hx hb dX6_clashes_81 (by decide) ?_ ?_
    · exact sX6_clashes_94 C htab hr HX6_isRequest HX6_holds HX6_could HX6_couldBehind hK33
    · refine k_aload_n hx hb dX6_clashes_84 rfl ?_
      refine k_iload hx hb dX6_clashes_85 ?_
      refine k_iload_n hx hb dX6_clashes_87 rfl ?_
      refine k_callV2 C htab (ci := 6) (Tf := TX6) (Nf := 20) (Cn := RX6) rfl HX6_couldBehind rfl zlX6_154 zmX6_couldBehind zvX6_couldBehind ziX6 zcX6_couldBehind (by decide +kernel) ⟨Nat.le_of_ble_eq_true rfl, Nat.le_of_ble_eq_true rfl⟩ dX6_clashes_88 ?_
      refine k_if_ne (tgt := 98) hx hb dX6_clashes_91 (by decide) ?_ ?_
      · exact sX6_clashes_98 C htab hr HX6_isRequest HX6_holds HX6_could HX6_couldBehind hK33
      · exact sX6_clashes_94 C htab hr HX6_isRequest HX6_holds HX6_could HX6_couldBehind hK33
set_option maxRecDepth 20000 in
theorem sX6_clashes_65 {l : Launch} {z0 b N M : Nat} {D : va_G} {cA : Nat → ClassId} {p : Program} {e : Env} {s : State} {m : MethodId} {args : Array Value} {below : List Frame} {meth : Method} {c : Code} {Kn : Option Value → ZH → Prop} {Kx : Nat → Prop} {h0 : ZH} {K33 : ZK ZH} (C : zCx p l (zRm 8 M 181) s m args meth c cX6_clashes 6 RX6 z0 D cA M) (htab : ∀ x ∈ c.exceptionTable.toList, False) (hr : meth.sig.returnType = (some .int)) (HX6_isRequest : Sem l z0 b N D cA yX6_isRequest cX6_isRequest 2 (some .boolean) 1 22 2 zno tX6_isRequest) (HX6_holds : Sem l z0 b N D cA yX6_holds cX6_holds 2 (some .boolean) 0 0 2 zno tX6_holds) (HX6_could : Sem l z0 b N D cA yX6_could cX6_could 2 (some .boolean) 6 136 2 zno tX6_could) (HX6_couldBehind : Sem l z0 b N D cA yX6_couldBehind cX6_couldBehind 5 (some .boolean) 7 157 3 zno tX6_couldBehind) (hK33 : Snd p l e (zRm 8 M 181) s m args below meth c 6 z0 b (zI z0 b N D cA s) (fun _ => (0, 0)) (vx_MQ below (zQn z0 b N D cA Kn) (zXn z0 b N D cA Kx h0) args s M (6 * M) (fun q => z0 ≤ q)) 33 K33) : Snd p l e (zRm 8 M 181) s m args below meth c 6 z0 b (zI z0 b N D cA s) (fun _ => (0, 0)) (vx_MQ below (zQn z0 b N D cA Kn) (zXn z0 b N D cA Kx h0) args s M (6 * M) (fun q => z0 ≤ q)) 65 (bX6_clashes_65 M Kn Kx h0 K33) := by
  obtain ⟨hx, hb, hml, hown, hts, -⟩ := id C
  unfold bX6_clashes_65
  refine k_iconst hx hb dX6_clashes_65 (by decide) ?_
  exact sX6_clashes_66 C htab hr HX6_isRequest HX6_holds HX6_could HX6_couldBehind hK33
set_option maxRecDepth 20000 in
theorem sX6_clashes_33 {l : Launch} {z0 b N M : Nat} {D : va_G} {cA : Nat → ClassId} {p : Program} {e : Env} {s : State} {m : MethodId} {args : Array Value} {below : List Frame} {meth : Method} {c : Code} {Kn : Option Value → ZH → Prop} {Kx : Nat → Prop} {h0 : ZH} {K33 : ZK ZH} (C : zCx p l (zRm 8 M 181) s m args meth c cX6_clashes 6 RX6 z0 D cA M) (htab : ∀ x ∈ c.exceptionTable.toList, False) (hr : meth.sig.returnType = (some .int)) (HX6_isRequest : Sem l z0 b N D cA yX6_isRequest cX6_isRequest 2 (some .boolean) 1 22 2 zno tX6_isRequest) (HX6_holds : Sem l z0 b N D cA yX6_holds cX6_holds 2 (some .boolean) 0 0 2 zno tX6_holds) (HX6_could : Sem l z0 b N D cA yX6_could cX6_could 2 (some .boolean) 6 136 2 zno tX6_could) (HX6_couldBehind : Sem l z0 b N D cA yX6_couldBehind cX6_couldBehind 5 (some .boolean) 7 157 3 zno tX6_couldBehind) (hK33 : Snd p l e (zRm 8 M 181) s m args below meth c 6 z0 b (zI z0 b N D cA s) (fun _ => (0, 0)) (vx_MQ below (zQn z0 b N D cA Kn) (zXn z0 b N D cA Kx h0) args s M (6 * M) (fun q => z0 ≤ q)) 33 K33) : Snd p l e (zRm 8 M 181) s m args below meth c 6 z0 b (zI z0 b N D cA s) (fun _ => (0, 0)) (vx_MQ below (zQn z0 b N D cA Kn) (zXn z0 b N D cA Kx h0) args s M (6 * M) (fun q => z0 ≤ q)) 33 (bX6_clashes_33 M Kn Kx h0 K33) := by
  obtain ⟨hx, hb, hml, hown, hts, -⟩ := id C
  unfold bX6_clashes_33
  refine k_iload hx hb dX6_clashes_33 ?_
  refine k_aload_n hx hb dX6_clashes_35 rfl ?_
  refine k_getf C (ci := 6) (k := 10) (Tf := TX6) (Nf := 20) (Cn := RX6) rfl zinX6 (by decide) rfl zfX6_142 dX6_clashes_36 ?_
  refine k_icmp_ge (tgt := 107) hx hb dX6_clashes_39 (by decide) ?_ ?_
  · exact sX6_clashes_107 C htab hr HX6_isRequest HX6_holds HX6_could HX6_couldBehind hK33
  · refine k_iload_n hx hb dX6_clashes_42 rfl ?_
    refine k_if_eq (tgt := 107) hx hb dX6_clashes_43 (by decide) ?_ ?_
    · exact sX6_clashes_107 C htab hr HX6_isRequest HX6_holds HX6_could HX6_couldBehind hK33
    · refine k_iload hx hb dX6_clashes_46 ?_
      refine k_iload_n hx hb dX6_clashes_48 rfl ?_
      refine k_icmp_eq (tgt := 65) hx hb dX6_clashes_49 (by decide) ?_ ?_
      · exact sX6_clashes_65 C htab hr HX6_isRequest HX6_holds HX6_could HX6_couldBehind hK33
      · refine k_aload_n hx hb dX6_clashes_52 rfl ?_
        refine k_iload hx hb dX6_clashes_53 ?_
        refine k_callV1 C htab (ci := 6) (Tf := TX6) (Nf := 20) (Cn := RX6) rfl HX6_could rfl zlX6_151 zmX6_could zvX6_could ziX6 zcX6_could (by decide +kernel) ⟨Nat.le_of_ble_eq_true rfl, Nat.le_of_ble_eq_true rfl⟩ dX6_clashes_55 ?_
        refine k_if_eq (tgt := 65) hx hb dX6_clashes_58 (by decide) ?_ ?_
        · exact sX6_clashes_65 C htab hr HX6_isRequest HX6_holds HX6_could HX6_couldBehind hK33
        · refine k_iconst hx hb dX6_clashes_61 (by decide) ?_
          refine k_goto (tgt := 66) hx hb dX6_clashes_62 (by decide) ?_
          exact sX6_clashes_66 C htab hr HX6_isRequest HX6_holds HX6_could HX6_couldBehind hK33
set_option maxRecDepth 20000 in
theorem sX6_clashes_14 {l : Launch} {z0 b N M : Nat} {D : va_G} {cA : Nat → ClassId} {p : Program} {e : Env} {s : State} {m : MethodId} {args : Array Value} {below : List Frame} {meth : Method} {c : Code} {Kn : Option Value → ZH → Prop} {Kx : Nat → Prop} {h0 : ZH} {K33 : ZK ZH} (C : zCx p l (zRm 8 M 181) s m args meth c cX6_clashes 6 RX6 z0 D cA M) (htab : ∀ x ∈ c.exceptionTable.toList, False) (hr : meth.sig.returnType = (some .int)) (HX6_isRequest : Sem l z0 b N D cA yX6_isRequest cX6_isRequest 2 (some .boolean) 1 22 2 zno tX6_isRequest) (HX6_holds : Sem l z0 b N D cA yX6_holds cX6_holds 2 (some .boolean) 0 0 2 zno tX6_holds) (HX6_could : Sem l z0 b N D cA yX6_could cX6_could 2 (some .boolean) 6 136 2 zno tX6_could) (HX6_couldBehind : Sem l z0 b N D cA yX6_couldBehind cX6_couldBehind 5 (some .boolean) 7 157 3 zno tX6_couldBehind) (hK33 : Snd p l e (zRm 8 M 181) s m args below meth c 6 z0 b (zI z0 b N D cA s) (fun _ => (0, 0)) (vx_MQ below (zQn z0 b N D cA Kn) (zXn z0 b N D cA Kx h0) args s M (6 * M) (fun q => z0 ≤ q)) 33 K33) : Snd p l e (zRm 8 M 181) s m args below meth c 6 z0 b (zI z0 b N D cA s) (fun _ => (0, 0)) (vx_MQ below (zQn z0 b N D cA Kn) (zXn z0 b N D cA Kx h0) args s M (6 * M) (fun q => z0 ≤ q)) 14 (bX6_clashes_14 M Kn Kx h0 K33) := by
  obtain ⟨hx, hb, hml, hown, hts, -⟩ := id C
  unfold bX6_clashes_14
  refine k_callV1 C htab (ci := 6) (Tf := TX6) (Nf := 20) (Cn := RX6) rfl HX6_holds rfl zlX6_78 zmX6_holds zvX6_holds ziX6 zcX6_holds (by decide +kernel) ⟨Nat.le_of_ble_eq_true rfl, Nat.le_of_ble_eq_true rfl⟩ dX6_clashes_14 ?_
  refine k_if_ne (tgt := 22) hx hb dX6_clashes_17 (by decide) ?_ ?_
  · refine k_iconst hx hb dX6_clashes_22 (by decide) ?_
    refine k_istore_n hx hb dX6_clashes_23 rfl ?_
    refine k_aload_n hx hb dX6_clashes_24 rfl ?_
    refine k_iload_n hx hb dX6_clashes_25 rfl ?_
    refine k_callV1 C htab (ci := 6) (Tf := TX6) (Nf := 20) (Cn := RX6) rfl HX6_could rfl zlX6_151 zmX6_could zvX6_could ziX6 zcX6_could (by decide +kernel) ⟨Nat.le_of_ble_eq_true rfl, Nat.le_of_ble_eq_true rfl⟩ dX6_clashes_26 ?_
    refine k_istore_n hx hb dX6_clashes_29 rfl ?_
    refine k_iconst hx hb dX6_clashes_30 (by decide) ?_
    refine k_istore hx hb dX6_clashes_31 ?_
    exact hK33
  · refine k_iconst hx hb dX6_clashes_20 (by decide) ?_
    exact k_ret C hr dX6_clashes_21
set_option maxRecDepth 20000 in
theorem sX6_clashes_0 {l : Launch} {z0 b N M : Nat} {D : va_G} {cA : Nat → ClassId} {p : Program} {e : Env} {s : State} {m : MethodId} {args : Array Value} {below : List Frame} {meth : Method} {c : Code} {Kn : Option Value → ZH → Prop} {Kx : Nat → Prop} {h0 : ZH} {K33 : ZK ZH} (C : zCx p l (zRm 8 M 181) s m args meth c cX6_clashes 6 RX6 z0 D cA M) (htab : ∀ x ∈ c.exceptionTable.toList, False) (hr : meth.sig.returnType = (some .int)) (HX6_isRequest : Sem l z0 b N D cA yX6_isRequest cX6_isRequest 2 (some .boolean) 1 22 2 zno tX6_isRequest) (HX6_holds : Sem l z0 b N D cA yX6_holds cX6_holds 2 (some .boolean) 0 0 2 zno tX6_holds) (HX6_could : Sem l z0 b N D cA yX6_could cX6_could 2 (some .boolean) 6 136 2 zno tX6_could) (HX6_couldBehind : Sem l z0 b N D cA yX6_couldBehind cX6_couldBehind 5 (some .boolean) 7 157 3 zno tX6_couldBehind) (hK33 : Snd p l e (zRm 8 M 181) s m args below meth c 6 z0 b (zI z0 b N D cA s) (fun _ => (0, 0)) (vx_MQ below (zQn z0 b N D cA Kn) (zXn z0 b N D cA Kx h0) args s M (6 * M) (fun q => z0 ≤ q)) 33 K33) : Snd p l e (zRm 8 M 181) s m args below meth c 6 z0 b (zI z0 b N D cA s) (fun _ => (0, 0)) (vx_MQ below (zQn z0 b N D cA Kn) (zXn z0 b N D cA Kx h0) args s M (6 * M) (fun q => z0 ≤ q)) 0 (bX6_clashes_0 M Kn Kx h0 K33) := by
  obtain ⟨hx, hb, hml, hown, hts, -⟩ := id C
  unfold bX6_clashes_0
  refine k_aload_n hx hb dX6_clashes_0 rfl ?_
  refine k_aload_n hx hb dX6_clashes_1 rfl ?_
  refine k_iload_n hx hb dX6_clashes_2 rfl ?_
  refine k_callV1 C htab (ci := 6) (Tf := TX6) (Nf := 20) (Cn := RX6) rfl HX6_isRequest rfl zlX6_148 zmX6_isRequest zvX6_isRequest ziX6 zcX6_isRequest (by decide +kernel) ⟨Nat.le_of_ble_eq_true rfl, Nat.le_of_ble_eq_true rfl⟩ dX6_clashes_3 ?_
  refine k_if_eq (tgt := 13) hx hb dX6_clashes_6 (by decide) ?_ ?_
  · refine k_iconst hx hb dX6_clashes_13 (by decide) ?_
    exact sX6_clashes_14 C htab hr HX6_isRequest HX6_holds HX6_could HX6_couldBehind hK33
  · refine k_iconst hx hb dX6_clashes_9 (by decide) ?_
    refine k_goto (tgt := 14) hx hb dX6_clashes_10 (by decide) ?_
    exact sX6_clashes_14 C htab hr HX6_isRequest HX6_holds HX6_could HX6_couldBehind hK33
set_option maxRecDepth 20000 in
theorem uX6_clashes {l : Launch} {z0 b N : Nat} {D : va_G} {cA : Nat → ClassId} (hlt : l.stackTraces = false) (HX6_isRequest : Sem l z0 b N D cA yX6_isRequest cX6_isRequest 2 (some .boolean) 1 22 2 zno tX6_isRequest) (HX6_holds : Sem l z0 b N D cA yX6_holds cX6_holds 2 (some .boolean) 0 0 2 zno tX6_holds) (HX6_could : Sem l z0 b N D cA yX6_could cX6_could 2 (some .boolean) 6 136 2 zno tX6_could) (HX6_couldBehind : Sem l z0 b N D cA yX6_couldBehind cX6_couldBehind 5 (some .boolean) 7 157 3 zno tX6_couldBehind) (spec : ∀ (M : Nat) (a : List Value) (h : ZH) (Kn : Option Value → ZH → Prop) (Kx : Nat → Prop), zok 2 a = true → tX6_clashes a h Kn → ∀ (A : Nat → ZK ZH), (∀ ls st h', bX6_clashes_33 M Kn Kx h (A 33) ls st h' → A 33 ls st h') → bX6_clashes_0 M Kn Kx h (A 33) (zE 6 a) [] h) : Sem l z0 b N D cA yX6_clashes cX6_clashes 6 (some .int) 8 181 2 zno tX6_clashes :=
  sem_of hlt (by decide +kernel) (by decide) (fun p e s m args below meth c M a h Kn Kx hok hX hN C hr htab => sX6_clashes_0 C htab hr HX6_isRequest HX6_holds HX6_could HX6_couldBehind (fun _ _ _ q => q) _ _ _ (spec M a h Kn Kx hok (hN (fun _ h9 => h9)) (fun pc => AW p l e (zRm 8 M 181) s m args below meth c 6 z0 b (zI z0 b N D cA s) (fun _ => (0, 0)) (vx_MQ below (zQn z0 b N D cA Kn) (zXn z0 b N D cA Kx h) args s M (6 * M) (fun q => z0 ≤ q)) pc) (fun ls st h' hq => sX6_clashes_33 C htab hr HX6_isRequest HX6_holds HX6_could HX6_couldBehind (fun _ _ _ q => q) ls st h' hq)))
set_option maxRecDepth 20000 in
theorem sX6_alias_30 {l : Launch} {z0 b N M : Nat} {D : va_G} {cA : Nat → ClassId} {p : Program} {e : Env} {s : State} {m : MethodId} {args : Array Value} {below : List Frame} {meth : Method} {c : Code} {Kn : Option Value → ZH → Prop} {Kx : Nat → Prop} {h0 : ZH} (C : zCx p l (zRm 2 M 43) s m args meth c cX6_alias 2 RX6 z0 D cA M) (htab : ∀ x ∈ c.exceptionTable.toList, False) (hr : meth.sig.returnType = (some .int)) (HX6_isTag : Sem l z0 b N D cA yX6_isTag cX6_isTag 2 (some .boolean) 1 22 2 zno tX6_isTag) (HX6_holds : Sem l z0 b N D cA yX6_holds cX6_holds 2 (some .boolean) 0 0 2 zno tX6_holds) : Snd p l e (zRm 2 M 43) s m args below meth c 2 z0 b (zI z0 b N D cA s) (fun _ => (0, 0)) (vx_MQ below (zQn z0 b N D cA Kn) (zXn z0 b N D cA Kx h0) args s M (6 * M) (fun q => z0 ≤ q)) 30 (bX6_alias_30 M Kn Kx h0) := by
  obtain ⟨hx, hb, hml, hown, hts, -⟩ := id C
  unfold bX6_alias_30
  exact k_ret C hr dX6_alias_30
set_option maxRecDepth 20000 in
theorem sX6_alias_14 {l : Launch} {z0 b N M : Nat} {D : va_G} {cA : Nat → ClassId} {p : Program} {e : Env} {s : State} {m : MethodId} {args : Array Value} {below : List Frame} {meth : Method} {c : Code} {Kn : Option Value → ZH → Prop} {Kx : Nat → Prop} {h0 : ZH} (C : zCx p l (zRm 2 M 43) s m args meth c cX6_alias 2 RX6 z0 D cA M) (htab : ∀ x ∈ c.exceptionTable.toList, False) (hr : meth.sig.returnType = (some .int)) (HX6_isTag : Sem l z0 b N D cA yX6_isTag cX6_isTag 2 (some .boolean) 1 22 2 zno tX6_isTag) (HX6_holds : Sem l z0 b N D cA yX6_holds cX6_holds 2 (some .boolean) 0 0 2 zno tX6_holds) : Snd p l e (zRm 2 M 43) s m args below meth c 2 z0 b (zI z0 b N D cA s) (fun _ => (0, 0)) (vx_MQ below (zQn z0 b N D cA Kn) (zXn z0 b N D cA Kx h0) args s M (6 * M) (fun q => z0 ≤ q)) 14 (bX6_alias_14 M Kn Kx h0) := by
  obtain ⟨hx, hb, hml, hown, hts, -⟩ := id C
  unfold bX6_alias_14
  refine k_callV1 C htab (ci := 6) (Tf := TX6) (Nf := 20) (Cn := RX6) rfl HX6_holds rfl zlX6_78 zmX6_holds zvX6_holds ziX6 zcX6_holds (by decide +kernel) ⟨Nat.le_of_ble_eq_true rfl, Nat.le_of_ble_eq_true rfl⟩ dX6_alias_14 ?_
  refine k_if_eq (tgt := 29) hx hb dX6_alias_17 (by decide) ?_ ?_
  · refine k_iconst hx hb dX6_alias_29 (by decide) ?_
    exact sX6_alias_30 C htab hr HX6_isTag HX6_holds
  · refine k_aload_n hx hb dX6_alias_20 rfl ?_
    refine k_getf C (ci := 6) (k := 6) (Tf := TX6) (Nf := 20) (Cn := RX6) rfl zinX6 (by decide) rfl zfX6_20 dX6_alias_21 ?_
    refine k_iload_n hx hb dX6_alias_24 rfl ?_
    refine k_iald C dX6_alias_25 ?_
    refine k_goto (tgt := 30) hx hb dX6_alias_26 (by decide) ?_
    exact sX6_alias_30 C htab hr HX6_isTag HX6_holds
set_option maxRecDepth 20000 in
theorem sX6_alias_0 {l : Launch} {z0 b N M : Nat} {D : va_G} {cA : Nat → ClassId} {p : Program} {e : Env} {s : State} {m : MethodId} {args : Array Value} {below : List Frame} {meth : Method} {c : Code} {Kn : Option Value → ZH → Prop} {Kx : Nat → Prop} {h0 : ZH} (C : zCx p l (zRm 2 M 43) s m args meth c cX6_alias 2 RX6 z0 D cA M) (htab : ∀ x ∈ c.exceptionTable.toList, False) (hr : meth.sig.returnType = (some .int)) (HX6_isTag : Sem l z0 b N D cA yX6_isTag cX6_isTag 2 (some .boolean) 1 22 2 zno tX6_isTag) (HX6_holds : Sem l z0 b N D cA yX6_holds cX6_holds 2 (some .boolean) 0 0 2 zno tX6_holds) : Snd p l e (zRm 2 M 43) s m args below meth c 2 z0 b (zI z0 b N D cA s) (fun _ => (0, 0)) (vx_MQ below (zQn z0 b N D cA Kn) (zXn z0 b N D cA Kx h0) args s M (6 * M) (fun q => z0 ≤ q)) 0 (bX6_alias_0 M Kn Kx h0) := by
  obtain ⟨hx, hb, hml, hown, hts, -⟩ := id C
  unfold bX6_alias_0
  refine k_aload_n hx hb dX6_alias_0 rfl ?_
  refine k_aload_n hx hb dX6_alias_1 rfl ?_
  refine k_iload_n hx hb dX6_alias_2 rfl ?_
  refine k_callV1 C htab (ci := 6) (Tf := TX6) (Nf := 20) (Cn := RX6) rfl HX6_isTag rfl zlX6_85 zmX6_isTag zvX6_isTag ziX6 zcX6_isTag (by decide +kernel) ⟨Nat.le_of_ble_eq_true rfl, Nat.le_of_ble_eq_true rfl⟩ dX6_alias_3 ?_
  refine k_if_eq (tgt := 13) hx hb dX6_alias_6 (by decide) ?_ ?_
  · refine k_iconst hx hb dX6_alias_13 (by decide) ?_
    exact sX6_alias_14 C htab hr HX6_isTag HX6_holds
  · refine k_iconst hx hb dX6_alias_9 (by decide) ?_
    refine k_goto (tgt := 14) hx hb dX6_alias_10 (by decide) ?_
    exact sX6_alias_14 C htab hr HX6_isTag HX6_holds
set_option maxRecDepth 20000 in
theorem uX6_alias {l : Launch} {z0 b N : Nat} {D : va_G} {cA : Nat → ClassId} (hlt : l.stackTraces = false) (HX6_isTag : Sem l z0 b N D cA yX6_isTag cX6_isTag 2 (some .boolean) 1 22 2 zno tX6_isTag) (HX6_holds : Sem l z0 b N D cA yX6_holds cX6_holds 2 (some .boolean) 0 0 2 zno tX6_holds) (spec : ∀ (M : Nat) (a : List Value) (h : ZH) (Kn : Option Value → ZH → Prop) (Kx : Nat → Prop), zok 2 a = true → tX6_alias a h Kn → bX6_alias_0 M Kn Kx h (zE 2 a) [] h) : Sem l z0 b N D cA yX6_alias cX6_alias 2 (some .int) 2 43 2 zno tX6_alias :=
  sem_of hlt (by decide +kernel) (by decide) (fun p e s m args below meth c M a h Kn Kx hok hX hN C hr htab => sX6_alias_0 C htab hr HX6_isTag HX6_holds _ _ _ (spec M a h Kn Kx hok (hN (fun _ h9 => h9))))
set_option maxRecDepth 20000 in
theorem sX6_end_29 {l : Launch} {z0 b N M : Nat} {D : va_G} {cA : Nat → ClassId} {p : Program} {e : Env} {s : State} {m : MethodId} {args : Array Value} {below : List Frame} {meth : Method} {c : Code} {Kn : Option Value → ZH → Prop} {Kx : Nat → Prop} {h0 : ZH} (C : zCx p l (zRm 2 M 43) s m args meth c cX6_end 2 RX6 z0 D cA M) (htab : ∀ x ∈ c.exceptionTable.toList, False) (hr : meth.sig.returnType = (some .int)) (HX6_isTag : Sem l z0 b N D cA yX6_isTag cX6_isTag 2 (some .boolean) 1 22 2 zno tX6_isTag) (HX6_holds : Sem l z0 b N D cA yX6_holds cX6_holds 2 (some .boolean) 0 0 2 zno tX6_holds) (HX6_endOf : Sem l z0 b N D cA yX6_endOf cX6_endOf 3 (some .int) 0 0 2 zno tX6_endOf) : Snd p l e (zRm 2 M 43) s m args below meth c 2 z0 b (zI z0 b N D cA s) (fun _ => (0, 0)) (vx_MQ below (zQn z0 b N D cA Kn) (zXn z0 b N D cA Kx h0) args s M (6 * M) (fun q => z0 ≤ q)) 29 (bX6_end_29 M Kn Kx h0) := by
  obtain ⟨hx, hb, hml, hown, hts, -⟩ := id C
  unfold bX6_end_29
  exact k_ret C hr dX6_end_29
set_option maxRecDepth 20000 in
theorem sX6_end_14 {l : Launch} {z0 b N M : Nat} {D : va_G} {cA : Nat → ClassId} {p : Program} {e : Env} {s : State} {m : MethodId} {args : Array Value} {below : List Frame} {meth : Method} {c : Code} {Kn : Option Value → ZH → Prop} {Kx : Nat → Prop} {h0 : ZH} (C : zCx p l (zRm 2 M 43) s m args meth c cX6_end 2 RX6 z0 D cA M) (htab : ∀ x ∈ c.exceptionTable.toList, False) (hr : meth.sig.returnType = (some .int)) (HX6_isTag : Sem l z0 b N D cA yX6_isTag cX6_isTag 2 (some .boolean) 1 22 2 zno tX6_isTag) (HX6_holds : Sem l z0 b N D cA yX6_holds cX6_holds 2 (some .boolean) 0 0 2 zno tX6_holds) (HX6_endOf : Sem l z0 b N D cA yX6_endOf cX6_endOf 3 (some .int) 0 0 2 zno tX6_endOf) : Snd p l e (zRm 2 M 43) s m args below meth c 2 z0 b (zI z0 b N D cA s) (fun _ => (0, 0)) (vx_MQ below (zQn z0 b N D cA Kn) (zXn z0 b N D cA Kx h0) args s M (6 * M) (fun q => z0 ≤ q)) 14 (bX6_end_14 M Kn Kx h0) := by
  obtain ⟨hx, hb, hml, hown, hts, -⟩ := id C
  unfold bX6_end_14
  refine k_callV1 C htab (ci := 6) (Tf := TX6) (Nf := 20) (Cn := RX6) rfl HX6_holds rfl zlX6_78 zmX6_holds zvX6_holds ziX6 zcX6_holds (by decide +kernel) ⟨Nat.le_of_ble_eq_true rfl, Nat.le_of_ble_eq_true rfl⟩ dX6_end_14 ?_
  refine k_if_eq (tgt := 28) hx hb dX6_end_17 (by decide) ?_ ?_
  · refine k_iconst hx hb dX6_end_28 (by decide) ?_
    exact sX6_end_29 C htab hr HX6_isTag HX6_holds HX6_endOf
  · refine k_aload_n hx hb dX6_end_20 rfl ?_
    refine k_iload_n hx hb dX6_end_21 rfl ?_
    refine k_callV1 C htab (ci := 6) (Tf := TX6) (Nf := 20) (Cn := RX6) rfl HX6_endOf rfl zlX6_115 zmX6_endOf zvX6_endOf ziX6 zcX6_endOf (by decide +kernel) ⟨Nat.le_of_ble_eq_true rfl, Nat.le_of_ble_eq_true rfl⟩ dX6_end_22 ?_
    refine k_goto (tgt := 29) hx hb dX6_end_25 (by decide) ?_
    exact sX6_end_29 C htab hr HX6_isTag HX6_holds HX6_endOf
set_option maxRecDepth 20000 in
theorem sX6_end_0 {l : Launch} {z0 b N M : Nat} {D : va_G} {cA : Nat → ClassId} {p : Program} {e : Env} {s : State} {m : MethodId} {args : Array Value} {below : List Frame} {meth : Method} {c : Code} {Kn : Option Value → ZH → Prop} {Kx : Nat → Prop} {h0 : ZH} (C : zCx p l (zRm 2 M 43) s m args meth c cX6_end 2 RX6 z0 D cA M) (htab : ∀ x ∈ c.exceptionTable.toList, False) (hr : meth.sig.returnType = (some .int)) (HX6_isTag : Sem l z0 b N D cA yX6_isTag cX6_isTag 2 (some .boolean) 1 22 2 zno tX6_isTag) (HX6_holds : Sem l z0 b N D cA yX6_holds cX6_holds 2 (some .boolean) 0 0 2 zno tX6_holds) (HX6_endOf : Sem l z0 b N D cA yX6_endOf cX6_endOf 3 (some .int) 0 0 2 zno tX6_endOf) : Snd p l e (zRm 2 M 43) s m args below meth c 2 z0 b (zI z0 b N D cA s) (fun _ => (0, 0)) (vx_MQ below (zQn z0 b N D cA Kn) (zXn z0 b N D cA Kx h0) args s M (6 * M) (fun q => z0 ≤ q)) 0 (bX6_end_0 M Kn Kx h0) := by
  obtain ⟨hx, hb, hml, hown, hts, -⟩ := id C
  unfold bX6_end_0
  refine k_aload_n hx hb dX6_end_0 rfl ?_
  refine k_aload_n hx hb dX6_end_1 rfl ?_
  refine k_iload_n hx hb dX6_end_2 rfl ?_
  refine k_callV1 C htab (ci := 6) (Tf := TX6) (Nf := 20) (Cn := RX6) rfl HX6_isTag rfl zlX6_85 zmX6_isTag zvX6_isTag ziX6 zcX6_isTag (by decide +kernel) ⟨Nat.le_of_ble_eq_true rfl, Nat.le_of_ble_eq_true rfl⟩ dX6_end_3 ?_
  refine k_if_eq (tgt := 13) hx hb dX6_end_6 (by decide) ?_ ?_
  · refine k_iconst hx hb dX6_end_13 (by decide) ?_
    exact sX6_end_14 C htab hr HX6_isTag HX6_holds HX6_endOf
  · refine k_iconst hx hb dX6_end_9 (by decide) ?_
    refine k_goto (tgt := 14) hx hb dX6_end_10 (by decide) ?_
    exact sX6_end_14 C htab hr HX6_isTag HX6_holds HX6_endOf
set_option maxRecDepth 20000 in
theorem uX6_end {l : Launch} {z0 b N : Nat} {D : va_G} {cA : Nat → ClassId} (hlt : l.stackTraces = false) (HX6_isTag : Sem l z0 b N D cA yX6_isTag cX6_isTag 2 (some .boolean) 1 22 2 zno tX6_isTag) (HX6_holds : Sem l z0 b N D cA yX6_holds cX6_holds 2 (some .boolean) 0 0 2 zno tX6_holds) (HX6_endOf : Sem l z0 b N D cA yX6_endOf cX6_endOf 3 (some .int) 0 0 2 zno tX6_endOf) (spec : ∀ (M : Nat) (a : List Value) (h : ZH) (Kn : Option Value → ZH → Prop) (Kx : Nat → Prop), zok 2 a = true → tX6_end a h Kn → bX6_end_0 M Kn Kx h (zE 2 a) [] h) : Sem l z0 b N D cA yX6_end cX6_end 2 (some .int) 2 43 2 zno tX6_end :=
  sem_of hlt (by decide +kernel) (by decide) (fun p e s m args below meth c M a h Kn Kx hok hX hN C hr htab => sX6_end_0 C htab hr HX6_isTag HX6_holds HX6_endOf _ _ _ (spec M a h Kn Kx hok (hN (fun _ h9 => h9))))
set_option maxRecDepth 20000 in
theorem sX6_implies_46 {l : Launch} {z0 b N M : Nat} {D : va_G} {cA : Nat → ClassId} {p : Program} {e : Env} {s : State} {m : MethodId} {args : Array Value} {below : List Frame} {meth : Method} {c : Code} {Kn : Option Value → ZH → Prop} {Kx : Nat → Prop} {h0 : ZH} (C : zCx p l (zRm 2 M 43) s m args meth c cX6_implies 3 RX6 z0 D cA M) (htab : ∀ x ∈ c.exceptionTable.toList, False) (hr : meth.sig.returnType = (some .boolean)) (HX6_isTag : Sem l z0 b N D cA yX6_isTag cX6_isTag 2 (some .boolean) 1 22 2 zno tX6_isTag) (HX6_holds : Sem l z0 b N D cA yX6_holds cX6_holds 2 (some .boolean) 0 0 2 zno tX6_holds) (HX6_has : Sem l z0 b N D cA yX6_has cX6_has 2 (some .boolean) 0 0 2 zno tX6_has) : Snd p l e (zRm 2 M 43) s m args below meth c 3 z0 b (zI z0 b N D cA s) (fun _ => (0, 0)) (vx_MQ below (zQn z0 b N D cA Kn) (zXn z0 b N D cA Kx h0) args s M (6 * M) (fun q => z0 ≤ q)) 46 (bX6_implies_46 M Kn Kx h0) := by
  obtain ⟨hx, hb, hml, hown, hts, -⟩ := id C
  unfold bX6_implies_46
  exact k_ret C hr dX6_implies_46
set_option maxRecDepth 20000 in
theorem sX6_implies_45 {l : Launch} {z0 b N M : Nat} {D : va_G} {cA : Nat → ClassId} {p : Program} {e : Env} {s : State} {m : MethodId} {args : Array Value} {below : List Frame} {meth : Method} {c : Code} {Kn : Option Value → ZH → Prop} {Kx : Nat → Prop} {h0 : ZH} (C : zCx p l (zRm 2 M 43) s m args meth c cX6_implies 3 RX6 z0 D cA M) (htab : ∀ x ∈ c.exceptionTable.toList, False) (hr : meth.sig.returnType = (some .boolean)) (HX6_isTag : Sem l z0 b N D cA yX6_isTag cX6_isTag 2 (some .boolean) 1 22 2 zno tX6_isTag) (HX6_holds : Sem l z0 b N D cA yX6_holds cX6_holds 2 (some .boolean) 0 0 2 zno tX6_holds) (HX6_has : Sem l z0 b N D cA yX6_has cX6_has 2 (some .boolean) 0 0 2 zno tX6_has) : Snd p l e (zRm 2 M 43) s m args below meth c 3 z0 b (zI z0 b N D cA s) (fun _ => (0, 0)) (vx_MQ below (zQn z0 b N D cA Kn) (zXn z0 b N D cA Kx h0) args s M (6 * M) (fun q => z0 ≤ q)) 45 (bX6_implies_45 M Kn Kx h0) := by
  obtain ⟨hx, hb, hml, hown, hts, -⟩ := id C
  unfold bX6_implies_45
  refine k_iconst hx hb dX6_implies_45 (by decide) ?_
  exact sX6_implies_46 C htab hr HX6_isTag HX6_holds HX6_has
set_option maxRecDepth 20000 in
theorem sX6_implies_22 {l : Launch} {z0 b N M : Nat} {D : va_G} {cA : Nat → ClassId} {p : Program} {e : Env} {s : State} {m : MethodId} {args : Array Value} {below : List Frame} {meth : Method} {c : Code} {Kn : Option Value → ZH → Prop} {Kx : Nat → Prop} {h0 : ZH} (C : zCx p l (zRm 2 M 43) s m args meth c cX6_implies 3 RX6 z0 D cA M) (htab : ∀ x ∈ c.exceptionTable.toList, False) (hr : meth.sig.returnType = (some .boolean)) (HX6_isTag : Sem l z0 b N D cA yX6_isTag cX6_isTag 2 (some .boolean) 1 22 2 zno tX6_isTag) (HX6_holds : Sem l z0 b N D cA yX6_holds cX6_holds 2 (some .boolean) 0 0 2 zno tX6_holds) (HX6_has : Sem l z0 b N D cA yX6_has cX6_has 2 (some .boolean) 0 0 2 zno tX6_has) : Snd p l e (zRm 2 M 43) s m args below meth c 3 z0 b (zI z0 b N D cA s) (fun _ => (0, 0)) (vx_MQ below (zQn z0 b N D cA Kn) (zXn z0 b N D cA Kx h0) args s M (6 * M) (fun q => z0 ≤ q)) 22 (bX6_implies_22 M Kn Kx h0) := by
  obtain ⟨hx, hb, hml, hown, hts, -⟩ := id C
  unfold bX6_implies_22
  refine k_callV1 C htab (ci := 6) (Tf := TX6) (Nf := 20) (Cn := RX6) rfl HX6_holds rfl zlX6_78 zmX6_holds zvX6_holds ziX6 zcX6_holds (by decide +kernel) ⟨Nat.le_of_ble_eq_true rfl, Nat.le_of_ble_eq_true rfl⟩ dX6_implies_22 ?_
  refine k_if_eq (tgt := 45) hx hb dX6_implies_25 (by decide) ?_ ?_
  · exact sX6_implies_45 C htab hr HX6_isTag HX6_holds HX6_has
  · refine k_aload_n hx hb dX6_implies_28 rfl ?_
    refine k_getf C (ci := 6) (k := 7) (Tf := TX6) (Nf := 20) (Cn := RX6) rfl zinX6 (by decide) rfl zfX6_23 dX6_implies_29 ?_
    refine k_iload_n hx hb dX6_implies_32 rfl ?_
    refine k_iald C dX6_implies_33 ?_
    refine k_iload_n hx hb dX6_implies_34 rfl ?_
    refine k_callS2 C htab HX6_has zlX6_108 zsX6_has ziX6 zcX6_has (by decide +kernel) ⟨Nat.le_of_ble_eq_true rfl, Nat.le_of_ble_eq_true rfl⟩ dX6_implies_35 ?_
    refine k_if_eq (tgt := 45) hx hb dX6_implies_38 (by decide) ?_ ?_
    · exact sX6_implies_45 C htab hr HX6_isTag HX6_holds HX6_has
    · refine k_iconst hx hb dX6_implies_41 (by decide) ?_
      refine k_goto (tgt := 46) hx hb dX6_implies_42 (by decide) ?_
      exact sX6_implies_46 C htab hr HX6_isTag HX6_holds HX6_has
set_option maxRecDepth 20000 in
theorem sX6_implies_21 {l : Launch} {z0 b N M : Nat} {D : va_G} {cA : Nat → ClassId} {p : Program} {e : Env} {s : State} {m : MethodId} {args : Array Value} {below : List Frame} {meth : Method} {c : Code} {Kn : Option Value → ZH → Prop} {Kx : Nat → Prop} {h0 : ZH} (C : zCx p l (zRm 2 M 43) s m args meth c cX6_implies 3 RX6 z0 D cA M) (htab : ∀ x ∈ c.exceptionTable.toList, False) (hr : meth.sig.returnType = (some .boolean)) (HX6_isTag : Sem l z0 b N D cA yX6_isTag cX6_isTag 2 (some .boolean) 1 22 2 zno tX6_isTag) (HX6_holds : Sem l z0 b N D cA yX6_holds cX6_holds 2 (some .boolean) 0 0 2 zno tX6_holds) (HX6_has : Sem l z0 b N D cA yX6_has cX6_has 2 (some .boolean) 0 0 2 zno tX6_has) : Snd p l e (zRm 2 M 43) s m args below meth c 3 z0 b (zI z0 b N D cA s) (fun _ => (0, 0)) (vx_MQ below (zQn z0 b N D cA Kn) (zXn z0 b N D cA Kx h0) args s M (6 * M) (fun q => z0 ≤ q)) 21 (bX6_implies_21 M Kn Kx h0) := by
  obtain ⟨hx, hb, hml, hown, hts, -⟩ := id C
  unfold bX6_implies_21
  refine k_iconst hx hb dX6_implies_21 (by decide) ?_
  exact sX6_implies_22 C htab hr HX6_isTag HX6_holds HX6_has
set_option maxRecDepth 20000 in
theorem sX6_implies_0 {l : Launch} {z0 b N M : Nat} {D : va_G} {cA : Nat → ClassId} {p : Program} {e : Env} {s : State} {m : MethodId} {args : Array Value} {below : List Frame} {meth : Method} {c : Code} {Kn : Option Value → ZH → Prop} {Kx : Nat → Prop} {h0 : ZH} (C : zCx p l (zRm 2 M 43) s m args meth c cX6_implies 3 RX6 z0 D cA M) (htab : ∀ x ∈ c.exceptionTable.toList, False) (hr : meth.sig.returnType = (some .boolean)) (HX6_isTag : Sem l z0 b N D cA yX6_isTag cX6_isTag 2 (some .boolean) 1 22 2 zno tX6_isTag) (HX6_holds : Sem l z0 b N D cA yX6_holds cX6_holds 2 (some .boolean) 0 0 2 zno tX6_holds) (HX6_has : Sem l z0 b N D cA yX6_has cX6_has 2 (some .boolean) 0 0 2 zno tX6_has) : Snd p l e (zRm 2 M 43) s m args below meth c 3 z0 b (zI z0 b N D cA s) (fun _ => (0, 0)) (vx_MQ below (zQn z0 b N D cA Kn) (zXn z0 b N D cA Kx h0) args s M (6 * M) (fun q => z0 ≤ q)) 0 (bX6_implies_0 M Kn Kx h0) := by
  obtain ⟨hx, hb, hml, hown, hts, -⟩ := id C
  unfold bX6_implies_0
  refine k_aload_n hx hb dX6_implies_0 rfl ?_
  refine k_aload_n hx hb dX6_implies_1 rfl ?_
  refine k_iload_n hx hb dX6_implies_2 rfl ?_
  refine k_callV1 C htab (ci := 6) (Tf := TX6) (Nf := 20) (Cn := RX6) rfl HX6_isTag rfl zlX6_85 zmX6_isTag zvX6_isTag ziX6 zcX6_isTag (by decide +kernel) ⟨Nat.le_of_ble_eq_true rfl, Nat.le_of_ble_eq_true rfl⟩ dX6_implies_3 ?_
  refine k_if_eq (tgt := 21) hx hb dX6_implies_6 (by decide) ?_ ?_
  · exact sX6_implies_21 C htab hr HX6_isTag HX6_holds HX6_has
  · refine k_aload_n hx hb dX6_implies_9 rfl ?_
    refine k_iload_n hx hb dX6_implies_10 rfl ?_
    refine k_callV1 C htab (ci := 6) (Tf := TX6) (Nf := 20) (Cn := RX6) rfl HX6_isTag rfl zlX6_85 zmX6_isTag zvX6_isTag ziX6 zcX6_isTag (by decide +kernel) ⟨Nat.le_of_ble_eq_true rfl, Nat.le_of_ble_eq_true rfl⟩ dX6_implies_11 ?_
    refine k_if_eq (tgt := 21) hx hb dX6_implies_14 (by decide) ?_ ?_
    · exact sX6_implies_21 C htab hr HX6_isTag HX6_holds HX6_has
    · refine k_iconst hx hb dX6_implies_17 (by decide) ?_
      refine k_goto (tgt := 22) hx hb dX6_implies_18 (by decide) ?_
      exact sX6_implies_22 C htab hr HX6_isTag HX6_holds HX6_has
set_option maxRecDepth 20000 in
theorem uX6_implies {l : Launch} {z0 b N : Nat} {D : va_G} {cA : Nat → ClassId} (hlt : l.stackTraces = false) (HX6_isTag : Sem l z0 b N D cA yX6_isTag cX6_isTag 2 (some .boolean) 1 22 2 zno tX6_isTag) (HX6_holds : Sem l z0 b N D cA yX6_holds cX6_holds 2 (some .boolean) 0 0 2 zno tX6_holds) (HX6_has : Sem l z0 b N D cA yX6_has cX6_has 2 (some .boolean) 0 0 2 zno tX6_has) (spec : ∀ (M : Nat) (a : List Value) (h : ZH) (Kn : Option Value → ZH → Prop) (Kx : Nat → Prop), zok 3 a = true → tX6_implies a h Kn → bX6_implies_0 M Kn Kx h (zE 3 a) [] h) : Sem l z0 b N D cA yX6_implies cX6_implies 3 (some .boolean) 2 43 3 zno tX6_implies :=
  sem_of hlt (by decide +kernel) (by decide) (fun p e s m args below meth c M a h Kn Kx hok hX hN C hr htab => sX6_implies_0 C htab hr HX6_isTag HX6_holds HX6_has _ _ _ (spec M a h Kn Kx hok (hN (fun _ h9 => h9))))
set_option maxRecDepth 20000 in
theorem sX6_shownOf_0 {l : Launch} {z0 b N M : Nat} {D : va_G} {cA : Nat → ClassId} {p : Program} {e : Env} {s : State} {m : MethodId} {args : Array Value} {below : List Frame} {meth : Method} {c : Code} {Kn : Option Value → ZH → Prop} {Kx : Nat → Prop} {h0 : ZH} (C : zCx p l (zRm 4 M 91) s m args meth c cX6_shownOf 2 RX6 z0 D cA M) (htab : ∀ x ∈ c.exceptionTable.toList, False) (hr : meth.sig.returnType = (some .int)) (HX6_endsOf : Sem l z0 b N D cA yX6_endsOf cX6_endsOf 4 (some .int) 1 22 2 zno tX6_endsOf) (HX6_closed : Sem l z0 b N D cA yX6_closed cX6_closed 4 (some .int) 3 68 2 zno tX6_closed) : Snd p l e (zRm 4 M 91) s m args below meth c 2 z0 b (zI z0 b N D cA s) (fun _ => (0, 0)) (vx_MQ below (zQn z0 b N D cA Kn) (zXn z0 b N D cA Kx h0) args s M (6 * M) (fun q => z0 ≤ q)) 0 (bX6_shownOf_0 M Kn Kx h0) := by
  obtain ⟨hx, hb, hml, hown, hts, -⟩ := id C
  unfold bX6_shownOf_0
  refine k_aload_n hx hb dX6_shownOf_0 rfl ?_
  refine k_aload_n hx hb dX6_shownOf_1 rfl ?_
  refine k_aload_n hx hb dX6_shownOf_2 rfl ?_
  refine k_getf C (ci := 6) (k := 9) (Tf := TX6) (Nf := 20) (Cn := RX6) rfl zinX6 (by decide) rfl zfX6_26 dX6_shownOf_3 ?_
  refine k_iload_n hx hb dX6_shownOf_6 rfl ?_
  refine k_iald C dX6_shownOf_7 ?_
  refine k_callV1 C htab (ci := 6) (Tf := TX6) (Nf := 20) (Cn := RX6) rfl HX6_endsOf rfl zlX6_125 zmX6_endsOf zvX6_endsOf ziX6 zcX6_endsOf (by decide +kernel) ⟨Nat.le_of_ble_eq_true rfl, Nat.le_of_ble_eq_true rfl⟩ dX6_shownOf_8 ?_
  refine k_callV1 C htab (ci := 6) (Tf := TX6) (Nf := 20) (Cn := RX6) rfl HX6_closed rfl zlX6_131 zmX6_closed zvX6_closed ziX6 zcX6_closed (by decide +kernel) ⟨Nat.le_of_ble_eq_true rfl, Nat.le_of_ble_eq_true rfl⟩ dX6_shownOf_11 ?_
  exact k_ret C hr dX6_shownOf_14
set_option maxRecDepth 20000 in
theorem uX6_shownOf {l : Launch} {z0 b N : Nat} {D : va_G} {cA : Nat → ClassId} (hlt : l.stackTraces = false) (HX6_endsOf : Sem l z0 b N D cA yX6_endsOf cX6_endsOf 4 (some .int) 1 22 2 zno tX6_endsOf) (HX6_closed : Sem l z0 b N D cA yX6_closed cX6_closed 4 (some .int) 3 68 2 zno tX6_closed) (spec : ∀ (M : Nat) (a : List Value) (h : ZH) (Kn : Option Value → ZH → Prop) (Kx : Nat → Prop), zok 2 a = true → tX6_shownOf a h Kn → bX6_shownOf_0 M Kn Kx h (zE 2 a) [] h) : Sem l z0 b N D cA yX6_shownOf cX6_shownOf 2 (some .int) 4 91 2 zno tX6_shownOf :=
  sem_of hlt (by decide +kernel) (by decide) (fun p e s m args below meth c M a h Kn Kx hok hX hN C hr htab => sX6_shownOf_0 C htab hr HX6_endsOf HX6_closed _ _ _ (spec M a h Kn Kx hok (hN (fun _ h9 => h9))))
set_option maxRecDepth 20000 in
theorem sX6_shown_29 {l : Launch} {z0 b N M : Nat} {D : va_G} {cA : Nat → ClassId} {p : Program} {e : Env} {s : State} {m : MethodId} {args : Array Value} {below : List Frame} {meth : Method} {c : Code} {Kn : Option Value → ZH → Prop} {Kx : Nat → Prop} {h0 : ZH} (C : zCx p l (zRm 5 M 112) s m args meth c cX6_shown 2 RX6 z0 D cA M) (htab : ∀ x ∈ c.exceptionTable.toList, False) (hr : meth.sig.returnType = (some .int)) (HX6_isThing : Sem l z0 b N D cA yX6_isThing cX6_isThing 2 (some .boolean) 1 22 2 zno tX6_isThing) (HX6_holds : Sem l z0 b N D cA yX6_holds cX6_holds 2 (some .boolean) 0 0 2 zno tX6_holds) (HX6_shownOf : Sem l z0 b N D cA yX6_shownOf cX6_shownOf 2 (some .int) 4 91 2 zno tX6_shownOf) : Snd p l e (zRm 5 M 112) s m args below meth c 2 z0 b (zI z0 b N D cA s) (fun _ => (0, 0)) (vx_MQ below (zQn z0 b N D cA Kn) (zXn z0 b N D cA Kx h0) args s M (6 * M) (fun q => z0 ≤ q)) 29 (bX6_shown_29 M Kn Kx h0) := by
  obtain ⟨hx, hb, hml, hown, hts, -⟩ := id C
  unfold bX6_shown_29
  exact k_ret C hr dX6_shown_29
set_option maxRecDepth 20000 in
theorem sX6_shown_14 {l : Launch} {z0 b N M : Nat} {D : va_G} {cA : Nat → ClassId} {p : Program} {e : Env} {s : State} {m : MethodId} {args : Array Value} {below : List Frame} {meth : Method} {c : Code} {Kn : Option Value → ZH → Prop} {Kx : Nat → Prop} {h0 : ZH} (C : zCx p l (zRm 5 M 112) s m args meth c cX6_shown 2 RX6 z0 D cA M) (htab : ∀ x ∈ c.exceptionTable.toList, False) (hr : meth.sig.returnType = (some .int)) (HX6_isThing : Sem l z0 b N D cA yX6_isThing cX6_isThing 2 (some .boolean) 1 22 2 zno tX6_isThing) (HX6_holds : Sem l z0 b N D cA yX6_holds cX6_holds 2 (some .boolean) 0 0 2 zno tX6_holds) (HX6_shownOf : Sem l z0 b N D cA yX6_shownOf cX6_shownOf 2 (some .int) 4 91 2 zno tX6_shownOf) : Snd p l e (zRm 5 M 112) s m args below meth c 2 z0 b (zI z0 b N D cA s) (fun _ => (0, 0)) (vx_MQ below (zQn z0 b N D cA Kn) (zXn z0 b N D cA Kx h0) args s M (6 * M) (fun q => z0 ≤ q)) 14 (bX6_shown_14 M Kn Kx h0) := by
  obtain ⟨hx, hb, hml, hown, hts, -⟩ := id C
  unfold bX6_shown_14
  refine k_callV1 C htab (ci := 6) (Tf := TX6) (Nf := 20) (Cn := RX6) rfl HX6_holds rfl zlX6_78 zmX6_holds zvX6_holds ziX6 zcX6_holds (by decide +kernel) ⟨Nat.le_of_ble_eq_true rfl, Nat.le_of_ble_eq_true rfl⟩ dX6_shown_14 ?_
  refine k_if_eq (tgt := 28) hx hb dX6_shown_17 (by decide) ?_ ?_
  · refine k_iconst hx hb dX6_shown_28 (by decide) ?_
    exact sX6_shown_29 C htab hr HX6_isThing HX6_holds HX6_shownOf
  · refine k_aload_n hx hb dX6_shown_20 rfl ?_
    refine k_iload_n hx hb dX6_shown_21 rfl ?_
    refine k_callV1 C htab (ci := 6) (Tf := TX6) (Nf := 20) (Cn := RX6) rfl HX6_shownOf rfl zlX6_111 zmX6_shownOf zvX6_shownOf ziX6 zcX6_shownOf (by decide +kernel) ⟨Nat.le_of_ble_eq_true rfl, Nat.le_of_ble_eq_true rfl⟩ dX6_shown_22 ?_
    refine k_goto (tgt := 29) hx hb dX6_shown_25 (by decide) ?_
    exact sX6_shown_29 C htab hr HX6_isThing HX6_holds HX6_shownOf
set_option maxRecDepth 20000 in
theorem sX6_shown_0 {l : Launch} {z0 b N M : Nat} {D : va_G} {cA : Nat → ClassId} {p : Program} {e : Env} {s : State} {m : MethodId} {args : Array Value} {below : List Frame} {meth : Method} {c : Code} {Kn : Option Value → ZH → Prop} {Kx : Nat → Prop} {h0 : ZH} (C : zCx p l (zRm 5 M 112) s m args meth c cX6_shown 2 RX6 z0 D cA M) (htab : ∀ x ∈ c.exceptionTable.toList, False) (hr : meth.sig.returnType = (some .int)) (HX6_isThing : Sem l z0 b N D cA yX6_isThing cX6_isThing 2 (some .boolean) 1 22 2 zno tX6_isThing) (HX6_holds : Sem l z0 b N D cA yX6_holds cX6_holds 2 (some .boolean) 0 0 2 zno tX6_holds) (HX6_shownOf : Sem l z0 b N D cA yX6_shownOf cX6_shownOf 2 (some .int) 4 91 2 zno tX6_shownOf) : Snd p l e (zRm 5 M 112) s m args below meth c 2 z0 b (zI z0 b N D cA s) (fun _ => (0, 0)) (vx_MQ below (zQn z0 b N D cA Kn) (zXn z0 b N D cA Kx h0) args s M (6 * M) (fun q => z0 ≤ q)) 0 (bX6_shown_0 M Kn Kx h0) := by
  obtain ⟨hx, hb, hml, hown, hts, -⟩ := id C
  unfold bX6_shown_0
  refine k_aload_n hx hb dX6_shown_0 rfl ?_
  refine k_aload_n hx hb dX6_shown_1 rfl ?_
  refine k_iload_n hx hb dX6_shown_2 rfl ?_
  refine k_callV1 C htab (ci := 6) (Tf := TX6) (Nf := 20) (Cn := RX6) rfl HX6_isThing rfl zlX6_98 zmX6_isThing zvX6_isThing ziX6 zcX6_isThing (by decide +kernel) ⟨Nat.le_of_ble_eq_true rfl, Nat.le_of_ble_eq_true rfl⟩ dX6_shown_3 ?_
  refine k_if_eq (tgt := 13) hx hb dX6_shown_6 (by decide) ?_ ?_
  · refine k_iconst hx hb dX6_shown_13 (by decide) ?_
    exact sX6_shown_14 C htab hr HX6_isThing HX6_holds HX6_shownOf
  · refine k_iconst hx hb dX6_shown_9 (by decide) ?_
    refine k_goto (tgt := 14) hx hb dX6_shown_10 (by decide) ?_
    exact sX6_shown_14 C htab hr HX6_isThing HX6_holds HX6_shownOf
set_option maxRecDepth 20000 in
theorem uX6_shown {l : Launch} {z0 b N : Nat} {D : va_G} {cA : Nat → ClassId} (hlt : l.stackTraces = false) (HX6_isThing : Sem l z0 b N D cA yX6_isThing cX6_isThing 2 (some .boolean) 1 22 2 zno tX6_isThing) (HX6_holds : Sem l z0 b N D cA yX6_holds cX6_holds 2 (some .boolean) 0 0 2 zno tX6_holds) (HX6_shownOf : Sem l z0 b N D cA yX6_shownOf cX6_shownOf 2 (some .int) 4 91 2 zno tX6_shownOf) (spec : ∀ (M : Nat) (a : List Value) (h : ZH) (Kn : Option Value → ZH → Prop) (Kx : Nat → Prop), zok 2 a = true → tX6_shown a h Kn → bX6_shown_0 M Kn Kx h (zE 2 a) [] h) : Sem l z0 b N D cA yX6_shown cX6_shown 2 (some .int) 5 112 2 zno tX6_shown :=
  sem_of hlt (by decide +kernel) (by decide) (fun p e s m args below meth c M a h Kn Kx hok hX hN C hr htab => sX6_shown_0 C htab hr HX6_isThing HX6_holds HX6_shownOf _ _ _ (spec M a h Kn Kx hok (hN (fun _ h9 => h9))))
set_option maxRecDepth 20000 in
theorem sX6_shownByHand_29 {l : Launch} {z0 b N M : Nat} {D : va_G} {cA : Nat → ClassId} {p : Program} {e : Env} {s : State} {m : MethodId} {args : Array Value} {below : List Frame} {meth : Method} {c : Code} {Kn : Option Value → ZH → Prop} {Kx : Nat → Prop} {h0 : ZH} (C : zCx p l (zRm 5 M 112) s m args meth c cX6_shownByHand 2 RX6 z0 D cA M) (htab : ∀ x ∈ c.exceptionTable.toList, False) (hr : meth.sig.returnType = (some .int)) (HX6_isThing : Sem l z0 b N D cA yX6_isThing cX6_isThing 2 (some .boolean) 1 22 2 zno tX6_isThing) (HX6_holds : Sem l z0 b N D cA yX6_holds cX6_holds 2 (some .boolean) 0 0 2 zno tX6_holds) (HX6_shownOf : Sem l z0 b N D cA yX6_shownOf cX6_shownOf 2 (some .int) 4 91 2 zno tX6_shownOf) : Snd p l e (zRm 5 M 112) s m args below meth c 2 z0 b (zI z0 b N D cA s) (fun _ => (0, 0)) (vx_MQ below (zQn z0 b N D cA Kn) (zXn z0 b N D cA Kx h0) args s M (6 * M) (fun q => z0 ≤ q)) 29 (bX6_shownByHand_29 M Kn Kx h0) := by
  obtain ⟨hx, hb, hml, hown, hts, -⟩ := id C
  unfold bX6_shownByHand_29
  exact k_ret C hr dX6_shownByHand_29
set_option maxRecDepth 20000 in
theorem sX6_shownByHand_14 {l : Launch} {z0 b N M : Nat} {D : va_G} {cA : Nat → ClassId} {p : Program} {e : Env} {s : State} {m : MethodId} {args : Array Value} {below : List Frame} {meth : Method} {c : Code} {Kn : Option Value → ZH → Prop} {Kx : Nat → Prop} {h0 : ZH} (C : zCx p l (zRm 5 M 112) s m args meth c cX6_shownByHand 2 RX6 z0 D cA M) (htab : ∀ x ∈ c.exceptionTable.toList, False) (hr : meth.sig.returnType = (some .int)) (HX6_isThing : Sem l z0 b N D cA yX6_isThing cX6_isThing 2 (some .boolean) 1 22 2 zno tX6_isThing) (HX6_holds : Sem l z0 b N D cA yX6_holds cX6_holds 2 (some .boolean) 0 0 2 zno tX6_holds) (HX6_shownOf : Sem l z0 b N D cA yX6_shownOf cX6_shownOf 2 (some .int) 4 91 2 zno tX6_shownOf) : Snd p l e (zRm 5 M 112) s m args below meth c 2 z0 b (zI z0 b N D cA s) (fun _ => (0, 0)) (vx_MQ below (zQn z0 b N D cA Kn) (zXn z0 b N D cA Kx h0) args s M (6 * M) (fun q => z0 ≤ q)) 14 (bX6_shownByHand_14 M Kn Kx h0) := by
  obtain ⟨hx, hb, hml, hown, hts, -⟩ := id C
  unfold bX6_shownByHand_14
  refine k_callV1 C htab (ci := 6) (Tf := TX6) (Nf := 20) (Cn := RX6) rfl HX6_holds rfl zlX6_78 zmX6_holds zvX6_holds ziX6 zcX6_holds (by decide +kernel) ⟨Nat.le_of_ble_eq_true rfl, Nat.le_of_ble_eq_true rfl⟩ dX6_shownByHand_14 ?_
  refine k_if_eq (tgt := 28) hx hb dX6_shownByHand_17 (by decide) ?_ ?_
  · refine k_iconst hx hb dX6_shownByHand_28 (by decide) ?_
    exact sX6_shownByHand_29 C htab hr HX6_isThing HX6_holds HX6_shownOf
  · refine k_aload_n hx hb dX6_shownByHand_20 rfl ?_
    refine k_iload_n hx hb dX6_shownByHand_21 rfl ?_
    refine k_callV1 C htab (ci := 6) (Tf := TX6) (Nf := 20) (Cn := RX6) rfl HX6_shownOf rfl zlX6_111 zmX6_shownOf zvX6_shownOf ziX6 zcX6_shownOf (by decide +kernel) ⟨Nat.le_of_ble_eq_true rfl, Nat.le_of_ble_eq_true rfl⟩ dX6_shownByHand_22 ?_
    refine k_goto (tgt := 29) hx hb dX6_shownByHand_25 (by decide) ?_
    exact sX6_shownByHand_29 C htab hr HX6_isThing HX6_holds HX6_shownOf
set_option maxRecDepth 20000 in
theorem sX6_shownByHand_0 {l : Launch} {z0 b N M : Nat} {D : va_G} {cA : Nat → ClassId} {p : Program} {e : Env} {s : State} {m : MethodId} {args : Array Value} {below : List Frame} {meth : Method} {c : Code} {Kn : Option Value → ZH → Prop} {Kx : Nat → Prop} {h0 : ZH} (C : zCx p l (zRm 5 M 112) s m args meth c cX6_shownByHand 2 RX6 z0 D cA M) (htab : ∀ x ∈ c.exceptionTable.toList, False) (hr : meth.sig.returnType = (some .int)) (HX6_isThing : Sem l z0 b N D cA yX6_isThing cX6_isThing 2 (some .boolean) 1 22 2 zno tX6_isThing) (HX6_holds : Sem l z0 b N D cA yX6_holds cX6_holds 2 (some .boolean) 0 0 2 zno tX6_holds) (HX6_shownOf : Sem l z0 b N D cA yX6_shownOf cX6_shownOf 2 (some .int) 4 91 2 zno tX6_shownOf) : Snd p l e (zRm 5 M 112) s m args below meth c 2 z0 b (zI z0 b N D cA s) (fun _ => (0, 0)) (vx_MQ below (zQn z0 b N D cA Kn) (zXn z0 b N D cA Kx h0) args s M (6 * M) (fun q => z0 ≤ q)) 0 (bX6_shownByHand_0 M Kn Kx h0) := by
  obtain ⟨hx, hb, hml, hown, hts, -⟩ := id C
  unfold bX6_shownByHand_0
  refine k_aload_n hx hb dX6_shownByHand_0 rfl ?_
  refine k_aload_n hx hb dX6_shownByHand_1 rfl ?_
  refine k_iload_n hx hb dX6_shownByHand_2 rfl ?_
  refine k_callV1 C htab (ci := 6) (Tf := TX6) (Nf := 20) (Cn := RX6) rfl HX6_isThing rfl zlX6_98 zmX6_isThing zvX6_isThing ziX6 zcX6_isThing (by decide +kernel) ⟨Nat.le_of_ble_eq_true rfl, Nat.le_of_ble_eq_true rfl⟩ dX6_shownByHand_3 ?_
  refine k_if_eq (tgt := 13) hx hb dX6_shownByHand_6 (by decide) ?_ ?_
  · refine k_iconst hx hb dX6_shownByHand_13 (by decide) ?_
    exact sX6_shownByHand_14 C htab hr HX6_isThing HX6_holds HX6_shownOf
  · refine k_iconst hx hb dX6_shownByHand_9 (by decide) ?_
    refine k_goto (tgt := 14) hx hb dX6_shownByHand_10 (by decide) ?_
    exact sX6_shownByHand_14 C htab hr HX6_isThing HX6_holds HX6_shownOf
set_option maxRecDepth 20000 in
theorem uX6_shownByHand {l : Launch} {z0 b N : Nat} {D : va_G} {cA : Nat → ClassId} (hlt : l.stackTraces = false) (HX6_isThing : Sem l z0 b N D cA yX6_isThing cX6_isThing 2 (some .boolean) 1 22 2 zno tX6_isThing) (HX6_holds : Sem l z0 b N D cA yX6_holds cX6_holds 2 (some .boolean) 0 0 2 zno tX6_holds) (HX6_shownOf : Sem l z0 b N D cA yX6_shownOf cX6_shownOf 2 (some .int) 4 91 2 zno tX6_shownOf) (spec : ∀ (M : Nat) (a : List Value) (h : ZH) (Kn : Option Value → ZH → Prop) (Kx : Nat → Prop), zok 2 a = true → tX6_shownByHand a h Kn → bX6_shownByHand_0 M Kn Kx h (zE 2 a) [] h) : Sem l z0 b N D cA yX6_shownByHand cX6_shownByHand 2 (some .int) 5 112 2 zno tX6_shownByHand :=
  sem_of hlt (by decide +kernel) (by decide) (fun p e s m args below meth c M a h Kn Kx hok hX hN C hr htab => sX6_shownByHand_0 C htab hr HX6_isThing HX6_holds HX6_shownOf _ _ _ (spec M a h Kn Kx hok (hN (fun _ h9 => h9))))
set_option maxRecDepth 20000 in
theorem sX6_users_52 {l : Launch} {z0 b N M : Nat} {D : va_G} {cA : Nat → ClassId} {p : Program} {e : Env} {s : State} {m : MethodId} {args : Array Value} {below : List Frame} {meth : Method} {c : Code} {Kn : Option Value → ZH → Prop} {Kx : Nat → Prop} {h0 : ZH} {K26 : ZK ZH} (C : zCx p l (zRm 5 M 112) s m args meth c cX6_users 4 RX6 z0 D cA M) (htab : ∀ x ∈ c.exceptionTable.toList, False) (hr : meth.sig.returnType = (some .int)) (HX6_isTag : Sem l z0 b N D cA yX6_isTag cX6_isTag 2 (some .boolean) 1 22 2 zno tX6_isTag) (HX6_holds : Sem l z0 b N D cA yX6_holds cX6_holds 2 (some .boolean) 0 0 2 zno tX6_holds) (HX6_shownOf : Sem l z0 b N D cA yX6_shownOf cX6_shownOf 2 (some .int) 4 91 2 zno tX6_shownOf) (HX6_has : Sem l z0 b N D cA yX6_has cX6_has 2 (some .boolean) 0 0 2 zno tX6_has) (hK26 : Snd p l e (zRm 5 M 112) s m args below meth c 4 z0 b (zI z0 b N D cA s) (fun _ => (0, 0)) (vx_MQ below (zQn z0 b N D cA Kn) (zXn z0 b N D cA Kx h0) args s M (6 * M) (fun q => z0 ≤ q)) 26 K26) : Snd p l e (zRm 5 M 112) s m args below meth c 4 z0 b (zI z0 b N D cA s) (fun _ => (0, 0)) (vx_MQ below (zQn z0 b N D cA Kn) (zXn z0 b N D cA Kx h0) args s M (6 * M) (fun q => z0 ≤ q)) 52 (bX6_users_52 M Kn Kx h0 K26) := by
  obtain ⟨hx, hb, hml, hown, hts, -⟩ := id C
  unfold bX6_users_52
  refine k_iadd hx hb dX6_users_52 ?_
  refine k_istore_n hx hb dX6_users_53 rfl ?_
  refine k_iinc hx hb dX6_users_54 (by decide) ?_
  refine k_goto (tgt := 26) hx hb dX6_users_57 (by decide) ?_
  exact hK26
set_option maxRecDepth 20000 in
theorem sX6_users_26 {l : Launch} {z0 b N M : Nat} {D : va_G} {cA : Nat → ClassId} {p : Program} {e : Env} {s : State} {m : MethodId} {args : Array Value} {below : List Frame} {meth : Method} {c : Code} {Kn : Option Value → ZH → Prop} {Kx : Nat → Prop} {h0 : ZH} {K26 : ZK ZH} (C : zCx p l (zRm 5 M 112) s m args meth c cX6_users 4 RX6 z0 D cA M) (htab : ∀ x ∈ c.exceptionTable.toList, False) (hr : meth.sig.returnType = (some .int)) (HX6_isTag : Sem l z0 b N D cA yX6_isTag cX6_isTag 2 (some .boolean) 1 22 2 zno tX6_isTag) (HX6_holds : Sem l z0 b N D cA yX6_holds cX6_holds 2 (some .boolean) 0 0 2 zno tX6_holds) (HX6_shownOf : Sem l z0 b N D cA yX6_shownOf cX6_shownOf 2 (some .int) 4 91 2 zno tX6_shownOf) (HX6_has : Sem l z0 b N D cA yX6_has cX6_has 2 (some .boolean) 0 0 2 zno tX6_has) (hK26 : Snd p l e (zRm 5 M 112) s m args below meth c 4 z0 b (zI z0 b N D cA s) (fun _ => (0, 0)) (vx_MQ below (zQn z0 b N D cA Kn) (zXn z0 b N D cA Kx h0) args s M (6 * M) (fun q => z0 ≤ q)) 26 K26) : Snd p l e (zRm 5 M 112) s m args below meth c 4 z0 b (zI z0 b N D cA s) (fun _ => (0, 0)) (vx_MQ below (zQn z0 b N D cA Kn) (zXn z0 b N D cA Kx h0) args s M (6 * M) (fun q => z0 ≤ q)) 26 (bX6_users_26 M Kn Kx h0 K26) := by
  obtain ⟨hx, hb, hml, hown, hts, -⟩ := id C
  unfold bX6_users_26
  refine k_iload_n hx hb dX6_users_26 rfl ?_
  refine k_aload_n hx hb dX6_users_27 rfl ?_
  refine k_getf C (ci := 6) (k := 8) (Tf := TX6) (Nf := 20) (Cn := RX6) rfl zinX6 (by decide) rfl zfX6_64 dX6_users_28 ?_
  refine k_icmp_ge (tgt := 60) hx hb dX6_users_31 (by decide) ?_ ?_
  · refine k_iload_n hx hb dX6_users_60 rfl ?_
    exact k_ret C hr dX6_users_61
  · refine k_iload_n hx hb dX6_users_34 rfl ?_
    refine k_aload_n hx hb dX6_users_35 rfl ?_
    refine k_iload_n hx hb dX6_users_36 rfl ?_
    refine k_callV1 C htab (ci := 6) (Tf := TX6) (Nf := 20) (Cn := RX6) rfl HX6_shownOf rfl zlX6_111 zmX6_shownOf zvX6_shownOf ziX6 zcX6_shownOf (by decide +kernel) ⟨Nat.le_of_ble_eq_true rfl, Nat.le_of_ble_eq_true rfl⟩ dX6_users_37 ?_
    refine k_iload_n hx hb dX6_users_40 rfl ?_
    refine k_callS2 C htab HX6_has zlX6_108 zsX6_has ziX6 zcX6_has (by decide +kernel) ⟨Nat.le_of_ble_eq_true rfl, Nat.le_of_ble_eq_true rfl⟩ dX6_users_41 ?_
    refine k_if_eq (tgt := 51) hx hb dX6_users_44 (by decide) ?_ ?_
    · refine k_iconst hx hb dX6_users_51 (by decide) ?_
      exact sX6_users_52 C htab hr HX6_isTag HX6_holds HX6_shownOf HX6_has hK26
    · refine k_iconst hx hb dX6_users_47 (by decide) ?_
      refine k_goto (tgt := 52) hx hb dX6_users_48 (by decide) ?_
      exact sX6_users_52 C htab hr HX6_isTag HX6_holds HX6_shownOf HX6_has hK26
set_option maxRecDepth 20000 in
theorem sX6_users_14 {l : Launch} {z0 b N M : Nat} {D : va_G} {cA : Nat → ClassId} {p : Program} {e : Env} {s : State} {m : MethodId} {args : Array Value} {below : List Frame} {meth : Method} {c : Code} {Kn : Option Value → ZH → Prop} {Kx : Nat → Prop} {h0 : ZH} {K26 : ZK ZH} (C : zCx p l (zRm 5 M 112) s m args meth c cX6_users 4 RX6 z0 D cA M) (htab : ∀ x ∈ c.exceptionTable.toList, False) (hr : meth.sig.returnType = (some .int)) (HX6_isTag : Sem l z0 b N D cA yX6_isTag cX6_isTag 2 (some .boolean) 1 22 2 zno tX6_isTag) (HX6_holds : Sem l z0 b N D cA yX6_holds cX6_holds 2 (some .boolean) 0 0 2 zno tX6_holds) (HX6_shownOf : Sem l z0 b N D cA yX6_shownOf cX6_shownOf 2 (some .int) 4 91 2 zno tX6_shownOf) (HX6_has : Sem l z0 b N D cA yX6_has cX6_has 2 (some .boolean) 0 0 2 zno tX6_has) (hK26 : Snd p l e (zRm 5 M 112) s m args below meth c 4 z0 b (zI z0 b N D cA s) (fun _ => (0, 0)) (vx_MQ below (zQn z0 b N D cA Kn) (zXn z0 b N D cA Kx h0) args s M (6 * M) (fun q => z0 ≤ q)) 26 K26) : Snd p l e (zRm 5 M 112) s m args below meth c 4 z0 b (zI z0 b N D cA s) (fun _ => (0, 0)) (vx_MQ below (zQn z0 b N D cA Kn) (zXn z0 b N D cA Kx h0) args s M (6 * M) (fun q => z0 ≤ q)) 14 (bX6_users_14 M Kn Kx h0 K26) := by
  obtain ⟨hx, hb, hml, hown, hts, -⟩ := id C
  unfold bX6_users_14
  refine k_callV1 C htab (ci := 6) (Tf := TX6) (Nf := 20) (Cn := RX6) rfl HX6_holds rfl zlX6_78 zmX6_holds zvX6_holds ziX6 zcX6_holds (by decide +kernel) ⟨Nat.le_of_ble_eq_true rfl, Nat.le_of_ble_eq_true rfl⟩ dX6_users_14 ?_
  refine k_if_ne (tgt := 22) hx hb dX6_users_17 (by decide) ?_ ?_
  · refine k_iconst hx hb dX6_users_22 (by decide) ?_
    refine k_istore_n hx hb dX6_users_23 rfl ?_
    refine k_iconst hx hb dX6_users_24 (by decide) ?_
    refine k_istore_n hx hb dX6_users_25 rfl ?_
    exact hK26
  · refine k_iconst hx hb dX6_users_20 (by decide) ?_
    exact k_ret C hr dX6_users_21
set_option maxRecDepth 20000 in
theorem sX6_users_0 {l : Launch} {z0 b N M : Nat} {D : va_G} {cA : Nat → ClassId} {p : Program} {e : Env} {s : State} {m : MethodId} {args : Array Value} {below : List Frame} {meth : Method} {c : Code} {Kn : Option Value → ZH → Prop} {Kx : Nat → Prop} {h0 : ZH} {K26 : ZK ZH} (C : zCx p l (zRm 5 M 112) s m args meth c cX6_users 4 RX6 z0 D cA M) (htab : ∀ x ∈ c.exceptionTable.toList, False) (hr : meth.sig.returnType = (some .int)) (HX6_isTag : Sem l z0 b N D cA yX6_isTag cX6_isTag 2 (some .boolean) 1 22 2 zno tX6_isTag) (HX6_holds : Sem l z0 b N D cA yX6_holds cX6_holds 2 (some .boolean) 0 0 2 zno tX6_holds) (HX6_shownOf : Sem l z0 b N D cA yX6_shownOf cX6_shownOf 2 (some .int) 4 91 2 zno tX6_shownOf) (HX6_has : Sem l z0 b N D cA yX6_has cX6_has 2 (some .boolean) 0 0 2 zno tX6_has) (hK26 : Snd p l e (zRm 5 M 112) s m args below meth c 4 z0 b (zI z0 b N D cA s) (fun _ => (0, 0)) (vx_MQ below (zQn z0 b N D cA Kn) (zXn z0 b N D cA Kx h0) args s M (6 * M) (fun q => z0 ≤ q)) 26 K26) : Snd p l e (zRm 5 M 112) s m args below meth c 4 z0 b (zI z0 b N D cA s) (fun _ => (0, 0)) (vx_MQ below (zQn z0 b N D cA Kn) (zXn z0 b N D cA Kx h0) args s M (6 * M) (fun q => z0 ≤ q)) 0 (bX6_users_0 M Kn Kx h0 K26) := by
  obtain ⟨hx, hb, hml, hown, hts, -⟩ := id C
  unfold bX6_users_0
  refine k_aload_n hx hb dX6_users_0 rfl ?_
  refine k_aload_n hx hb dX6_users_1 rfl ?_
  refine k_iload_n hx hb dX6_users_2 rfl ?_
  refine k_callV1 C htab (ci := 6) (Tf := TX6) (Nf := 20) (Cn := RX6) rfl HX6_isTag rfl zlX6_85 zmX6_isTag zvX6_isTag ziX6 zcX6_isTag (by decide +kernel) ⟨Nat.le_of_ble_eq_true rfl, Nat.le_of_ble_eq_true rfl⟩ dX6_users_3 ?_
  refine k_if_eq (tgt := 13) hx hb dX6_users_6 (by decide) ?_ ?_
  · refine k_iconst hx hb dX6_users_13 (by decide) ?_
    exact sX6_users_14 C htab hr HX6_isTag HX6_holds HX6_shownOf HX6_has hK26
  · refine k_iconst hx hb dX6_users_9 (by decide) ?_
    refine k_goto (tgt := 14) hx hb dX6_users_10 (by decide) ?_
    exact sX6_users_14 C htab hr HX6_isTag HX6_holds HX6_shownOf HX6_has hK26
set_option maxRecDepth 20000 in
theorem uX6_users {l : Launch} {z0 b N : Nat} {D : va_G} {cA : Nat → ClassId} (hlt : l.stackTraces = false) (HX6_isTag : Sem l z0 b N D cA yX6_isTag cX6_isTag 2 (some .boolean) 1 22 2 zno tX6_isTag) (HX6_holds : Sem l z0 b N D cA yX6_holds cX6_holds 2 (some .boolean) 0 0 2 zno tX6_holds) (HX6_shownOf : Sem l z0 b N D cA yX6_shownOf cX6_shownOf 2 (some .int) 4 91 2 zno tX6_shownOf) (HX6_has : Sem l z0 b N D cA yX6_has cX6_has 2 (some .boolean) 0 0 2 zno tX6_has) (spec : ∀ (M : Nat) (a : List Value) (h : ZH) (Kn : Option Value → ZH → Prop) (Kx : Nat → Prop), zok 2 a = true → tX6_users a h Kn → ∀ (A : Nat → ZK ZH), (∀ ls st h', bX6_users_26 M Kn Kx h (A 26) ls st h' → A 26 ls st h') → bX6_users_0 M Kn Kx h (A 26) (zE 4 a) [] h) : Sem l z0 b N D cA yX6_users cX6_users 4 (some .int) 5 112 2 zno tX6_users :=
  sem_of hlt (by decide +kernel) (by decide) (fun p e s m args below meth c M a h Kn Kx hok hX hN C hr htab => sX6_users_0 C htab hr HX6_isTag HX6_holds HX6_shownOf HX6_has (fun _ _ _ q => q) _ _ _ (spec M a h Kn Kx hok (hN (fun _ h9 => h9)) (fun pc => AW p l e (zRm 5 M 112) s m args below meth c 4 z0 b (zI z0 b N D cA s) (fun _ => (0, 0)) (vx_MQ below (zQn z0 b N D cA Kn) (zXn z0 b N D cA Kx h) args s M (6 * M) (fun q => z0 ≤ q)) pc) (fun ls st h' hq => sX6_users_26 C htab hr HX6_isTag HX6_holds HX6_shownOf HX6_has (fun _ _ _ q => q) ls st h' hq)))
set_option maxRecDepth 20000 in
theorem sX6_far_36 {l : Launch} {z0 b N M : Nat} {D : va_G} {cA : Nat → ClassId} {p : Program} {e : Env} {s : State} {m : MethodId} {args : Array Value} {below : List Frame} {meth : Method} {c : Code} {Kn : Option Value → ZH → Prop} {Kx : Nat → Prop} {h0 : ZH} {K7 : ZK ZH} (C : zCx p l (zRm 3 M 68) s m args meth c cX6_far 5 RX6 z0 D cA M) (htab : ∀ x ∈ c.exceptionTable.toList, False) (hr : meth.sig.returnType = (some .int)) (HX6_has : Sem l z0 b N D cA yX6_has cX6_has 2 (some .boolean) 0 0 2 zno tX6_has) (HX6_onward : Sem l z0 b N D cA yX6_onward cX6_onward 4 (some .int) 2 45 2 zno tX6_onward) (hK7 : Snd p l e (zRm 3 M 68) s m args below meth c 5 z0 b (zI z0 b N D cA s) (fun _ => (0, 0)) (vx_MQ below (zQn z0 b N D cA Kn) (zXn z0 b N D cA Kx h0) args s M (6 * M) (fun q => z0 ≤ q)) 7 K7) : Snd p l e (zRm 3 M 68) s m args below meth c 5 z0 b (zI z0 b N D cA s) (fun _ => (0, 0)) (vx_MQ below (zQn z0 b N D cA Kn) (zXn z0 b N D cA Kx h0) args s M (6 * M) (fun q => z0 ≤ q)) 36 (bX6_far_36 M Kn Kx h0 K7) := by
  obtain ⟨hx, hb, hml, hown, hts, -⟩ := id C
  unfold bX6_far_36
  refine k_iload hx hb dX6_far_36 ?_
  exact k_ret C hr dX6_far_38
set_option maxRecDepth 20000 in
theorem sX6_far_7 {l : Launch} {z0 b N M : Nat} {D : va_G} {cA : Nat → ClassId} {p : Program} {e : Env} {s : State} {m : MethodId} {args : Array Value} {below : List Frame} {meth : Method} {c : Code} {Kn : Option Value → ZH → Prop} {Kx : Nat → Prop} {h0 : ZH} {K7 : ZK ZH} (C : zCx p l (zRm 3 M 68) s m args meth c cX6_far 5 RX6 z0 D cA M) (htab : ∀ x ∈ c.exceptionTable.toList, False) (hr : meth.sig.returnType = (some .int)) (HX6_has : Sem l z0 b N D cA yX6_has cX6_has 2 (some .boolean) 0 0 2 zno tX6_has) (HX6_onward : Sem l z0 b N D cA yX6_onward cX6_onward 4 (some .int) 2 45 2 zno tX6_onward) (hK7 : Snd p l e (zRm 3 M 68) s m args below meth c 5 z0 b (zI z0 b N D cA s) (fun _ => (0, 0)) (vx_MQ below (zQn z0 b N D cA Kn) (zXn z0 b N D cA Kx h0) args s M (6 * M) (fun q => z0 ≤ q)) 7 K7) : Snd p l e (zRm 3 M 68) s m args below meth c 5 z0 b (zI z0 b N D cA s) (fun _ => (0, 0)) (vx_MQ below (zQn z0 b N D cA Kn) (zXn z0 b N D cA Kx h0) args s M (6 * M) (fun q => z0 ≤ q)) 7 (bX6_far_7 M Kn Kx h0 K7) := by
  obtain ⟨hx, hb, hml, hown, hts, -⟩ := id C
  unfold bX6_far_7
  refine k_iload_n hx hb dX6_far_7 rfl ?_
  refine k_iload_n hx hb dX6_far_8 rfl ?_
  refine k_callS2 C htab HX6_has zlX6_108 zsX6_has ziX6 zcX6_has (by decide +kernel) ⟨Nat.le_of_ble_eq_true rfl, Nat.le_of_ble_eq_true rfl⟩ dX6_far_9 ?_
  refine k_if_ne (tgt := 36) hx hb dX6_far_12 (by decide) ?_ ?_
  · exact sX6_far_36 C htab hr HX6_has HX6_onward hK7
  · refine k_iload hx hb dX6_far_15 ?_
    refine k_bipush hx hb dX6_far_17 (by decide) ?_
    refine k_icmp_gt (tgt := 36) hx hb dX6_far_19 (by decide) ?_ ?_
    · exact sX6_far_36 C htab hr HX6_has HX6_onward hK7
    · refine k_iload_n hx hb dX6_far_22 rfl ?_
      refine k_aload_n hx hb dX6_far_23 rfl ?_
      refine k_iload_n hx hb dX6_far_24 rfl ?_
      refine k_callV1 C htab (ci := 6) (Tf := TX6) (Nf := 20) (Cn := RX6) rfl HX6_onward rfl zlX6_128 zmX6_onward zvX6_onward ziX6 zcX6_onward (by decide +kernel) ⟨Nat.le_of_ble_eq_true rfl, Nat.le_of_ble_eq_true rfl⟩ dX6_far_25 ?_
      refine k_ior hx hb dX6_far_28 ?_
      refine k_istore_n hx hb dX6_far_29 rfl ?_
      refine k_iinc hx hb dX6_far_30 (by decide) ?_
      refine k_goto (tgt := 7) hx hb dX6_far_33 (by decide) ?_
      exact hK7
set_option maxRecDepth 20000 in
theorem sX6_far_0 {l : Launch} {z0 b N M : Nat} {D : va_G} {cA : Nat → ClassId} {p : Program} {e : Env} {s : State} {m : MethodId} {args : Array Value} {below : List Frame} {meth : Method} {c : Code} {Kn : Option Value → ZH → Prop} {Kx : Nat → Prop} {h0 : ZH} {K7 : ZK ZH} (C : zCx p l (zRm 3 M 68) s m args meth c cX6_far 5 RX6 z0 D cA M) (htab : ∀ x ∈ c.exceptionTable.toList, False) (hr : meth.sig.returnType = (some .int)) (HX6_has : Sem l z0 b N D cA yX6_has cX6_has 2 (some .boolean) 0 0 2 zno tX6_has) (HX6_onward : Sem l z0 b N D cA yX6_onward cX6_onward 4 (some .int) 2 45 2 zno tX6_onward) (hK7 : Snd p l e (zRm 3 M 68) s m args below meth c 5 z0 b (zI z0 b N D cA s) (fun _ => (0, 0)) (vx_MQ below (zQn z0 b N D cA Kn) (zXn z0 b N D cA Kx h0) args s M (6 * M) (fun q => z0 ≤ q)) 7 K7) : Snd p l e (zRm 3 M 68) s m args below meth c 5 z0 b (zI z0 b N D cA s) (fun _ => (0, 0)) (vx_MQ below (zQn z0 b N D cA Kn) (zXn z0 b N D cA Kx h0) args s M (6 * M) (fun q => z0 ≤ q)) 0 (bX6_far_0 M Kn Kx h0 K7) := by
  obtain ⟨hx, hb, hml, hown, hts, -⟩ := id C
  unfold bX6_far_0
  refine k_iconst hx hb dX6_far_0 (by decide) ?_
  refine k_iload_n hx hb dX6_far_1 rfl ?_
  refine k_ishl hx hb dX6_far_2 ?_
  refine k_istore_n hx hb dX6_far_3 rfl ?_
  refine k_iconst hx hb dX6_far_4 (by decide) ?_
  refine k_istore hx hb dX6_far_5 ?_
  exact hK7
set_option maxRecDepth 20000 in
theorem uX6_far {l : Launch} {z0 b N : Nat} {D : va_G} {cA : Nat → ClassId} (hlt : l.stackTraces = false) (HX6_has : Sem l z0 b N D cA yX6_has cX6_has 2 (some .boolean) 0 0 2 zno tX6_has) (HX6_onward : Sem l z0 b N D cA yX6_onward cX6_onward 4 (some .int) 2 45 2 zno tX6_onward) (spec : ∀ (M : Nat) (a : List Value) (h : ZH) (Kn : Option Value → ZH → Prop) (Kx : Nat → Prop), zok 3 a = true → tX6_far a h Kn → ∀ (A : Nat → ZK ZH), (∀ ls st h', bX6_far_7 M Kn Kx h (A 7) ls st h' → A 7 ls st h') → bX6_far_0 M Kn Kx h (A 7) (zE 5 a) [] h) : Sem l z0 b N D cA yX6_far cX6_far 5 (some .int) 3 68 3 zno tX6_far :=
  sem_of hlt (by decide +kernel) (by decide) (fun p e s m args below meth c M a h Kn Kx hok hX hN C hr htab => sX6_far_0 C htab hr HX6_has HX6_onward (fun _ _ _ q => q) _ _ _ (spec M a h Kn Kx hok (hN (fun _ h9 => h9)) (fun pc => AW p l e (zRm 3 M 68) s m args below meth c 5 z0 b (zI z0 b N D cA s) (fun _ => (0, 0)) (vx_MQ below (zQn z0 b N D cA Kn) (zXn z0 b N D cA Kx h) args s M (6 * M) (fun q => z0 ≤ q)) pc) (fun ls st h' hq => sX6_far_7 C htab hr HX6_has HX6_onward (fun _ _ _ q => q) ls st h' hq)))
set_option maxRecDepth 20000 in
theorem sX6_reason_125 {l : Launch} {z0 b N M : Nat} {D : va_G} {cA : Nat → ClassId} {p : Program} {e : Env} {s : State} {m : MethodId} {args : Array Value} {below : List Frame} {meth : Method} {c : Code} {Kn : Option Value → ZH → Prop} {Kx : Nat → Prop} {h0 : ZH} {K39 : ZK ZH} (C : zCx p l (zRm 5 M 112) s m args meth c cX6_reason 7 RX6 z0 D cA M) (htab : ∀ x ∈ c.exceptionTable.toList, False) (hr : meth.sig.returnType = (some .int)) (HX6_areThere : Sem l z0 b N D cA yX6_areThere cX6_areThere 3 (some .boolean) 2 43 3 zno tX6_areThere) (HX6_shownOf : Sem l z0 b N D cA yX6_shownOf cX6_shownOf 2 (some .int) 4 91 2 zno tX6_shownOf) (HX6_has : Sem l z0 b N D cA yX6_has cX6_has 2 (some .boolean) 0 0 2 zno tX6_has) (HX6_endOf : Sem l z0 b N D cA yX6_endOf cX6_endOf 3 (some .int) 0 0 2 zno tX6_endOf) (HX6_far : Sem l z0 b N D cA yX6_far cX6_far 5 (some .int) 3 68 3 zno tX6_far) (hK39 : Snd p l e (zRm 5 M 112) s m args below meth c 7 z0 b (zI z0 b N D cA s) (fun _ => (0, 0)) (vx_MQ below (zQn z0 b N D cA Kn) (zXn z0 b N D cA Kx h0) args s M (6 * M) (fun q => z0 ≤ q)) 39 K39) : Snd p l e (zRm 5 M 112) s m args below meth c 7 z0 b (zI z0 b N D cA s) (fun _ => (0, 0)) (vx_MQ below (zQn z0 b N D cA Kn) (zXn z0 b N D cA Kx h0) args s M (6 * M) (fun q => z0 ≤ q)) 125 (bX6_reason_125 M Kn Kx h0 K39) := by
  obtain ⟨hx, hb, hml, hown, hts, -⟩ := id C
  unfold bX6_reason_125
  refine k_istore_n hx hb dX6_reason_125 rfl ?_
  refine k_iinc hx hb dX6_reason_126 (by decide) ?_
  refine k_goto (tgt := 39) hx hb dX6_reason_129 (by decide) ?_
  exact hK39
set_option maxRecDepth 20000 in
theorem sX6_reason_106 {l : Launch} {z0 b N M : Nat} {D : va_G} {cA : Nat → ClassId} {p : Program} {e : Env} {s : State} {m : MethodId} {args : Array Value} {below : List Frame} {meth : Method} {c : Code} {Kn : Option Value → ZH → Prop} {Kx : Nat → Prop} {h0 : ZH} {K39 : ZK ZH} (C : zCx p l (zRm 5 M 112) s m args meth c cX6_reason 7 RX6 z0 D cA M) (htab : ∀ x ∈ c.exceptionTable.toList, False) (hr : meth.sig.returnType = (some .int)) (HX6_areThere : Sem l z0 b N D cA yX6_areThere cX6_areThere 3 (some .boolean) 2 43 3 zno tX6_areThere) (HX6_shownOf : Sem l z0 b N D cA yX6_shownOf cX6_shownOf 2 (some .int) 4 91 2 zno tX6_shownOf) (HX6_has : Sem l z0 b N D cA yX6_has cX6_has 2 (some .boolean) 0 0 2 zno tX6_has) (HX6_endOf : Sem l z0 b N D cA yX6_endOf cX6_endOf 3 (some .int) 0 0 2 zno tX6_endOf) (HX6_far : Sem l z0 b N D cA yX6_far cX6_far 5 (some .int) 3 68 3 zno tX6_far) (hK39 : Snd p l e (zRm 5 M 112) s m args below meth c 7 z0 b (zI z0 b N D cA s) (fun _ => (0, 0)) (vx_MQ below (zQn z0 b N D cA Kn) (zXn z0 b N D cA Kx h0) args s M (6 * M) (fun q => z0 ≤ q)) 39 K39) : Snd p l e (zRm 5 M 112) s m args below meth c 7 z0 b (zI z0 b N D cA s) (fun _ => (0, 0)) (vx_MQ below (zQn z0 b N D cA Kn) (zXn z0 b N D cA Kx h0) args s M (6 * M) (fun q => z0 ≤ q)) 106 (bX6_reason_106 M Kn Kx h0 K39) := by
  obtain ⟨hx, hb, hml, hown, hts, -⟩ := id C
  unfold bX6_reason_106
  refine k_istore hx hb dX6_reason_106 ?_
  refine k_iload hx hb dX6_reason_108 ?_
  refine k_if_eq (tgt := 124) hx hb dX6_reason_110 (by decide) ?_ ?_
  · refine k_iload_n hx hb dX6_reason_124 rfl ?_
    exact sX6_reason_125 C htab hr HX6_areThere HX6_shownOf HX6_has HX6_endOf HX6_far hK39
  · refine k_bipush hx hb dX6_reason_113 (by decide) ?_
    refine k_iload hx hb dX6_reason_115 ?_
    refine k_imul hx hb dX6_reason_117 ?_
    refine k_iload hx hb dX6_reason_118 ?_
    refine k_iadd hx hb dX6_reason_120 ?_
    refine k_goto (tgt := 125) hx hb dX6_reason_121 (by decide) ?_
    exact sX6_reason_125 C htab hr HX6_areThere HX6_shownOf HX6_has HX6_endOf HX6_far hK39
set_option maxRecDepth 20000 in
theorem sX6_reason_105 {l : Launch} {z0 b N M : Nat} {D : va_G} {cA : Nat → ClassId} {p : Program} {e : Env} {s : State} {m : MethodId} {args : Array Value} {below : List Frame} {meth : Method} {c : Code} {Kn : Option Value → ZH → Prop} {Kx : Nat → Prop} {h0 : ZH} {K39 : ZK ZH} (C : zCx p l (zRm 5 M 112) s m args meth c cX6_reason 7 RX6 z0 D cA M) (htab : ∀ x ∈ c.exceptionTable.toList, False) (hr : meth.sig.returnType = (some .int)) (HX6_areThere : Sem l z0 b N D cA yX6_areThere cX6_areThere 3 (some .boolean) 2 43 3 zno tX6_areThere) (HX6_shownOf : Sem l z0 b N D cA yX6_shownOf cX6_shownOf 2 (some .int) 4 91 2 zno tX6_shownOf) (HX6_has : Sem l z0 b N D cA yX6_has cX6_has 2 (some .boolean) 0 0 2 zno tX6_has) (HX6_endOf : Sem l z0 b N D cA yX6_endOf cX6_endOf 3 (some .int) 0 0 2 zno tX6_endOf) (HX6_far : Sem l z0 b N D cA yX6_far cX6_far 5 (some .int) 3 68 3 zno tX6_far) (hK39 : Snd p l e (zRm 5 M 112) s m args below meth c 7 z0 b (zI z0 b N D cA s) (fun _ => (0, 0)) (vx_MQ below (zQn z0 b N D cA Kn) (zXn z0 b N D cA Kx h0) args s M (6 * M) (fun q => z0 ≤ q)) 39 K39) : Snd p l e (zRm 5 M 112) s m args below meth c 7 z0 b (zI z0 b N D cA s) (fun _ => (0, 0)) (vx_MQ below (zQn z0 b N D cA Kn) (zXn z0 b N D cA Kx h0) args s M (6 * M) (fun q => z0 ≤ q)) 105 (bX6_reason_105 M Kn Kx h0 K39) := by
  obtain ⟨hx, hb, hml, hown, hts, -⟩ := id C
  unfold bX6_reason_105
  refine k_iconst hx hb dX6_reason_105 (by decide) ?_
  exact sX6_reason_106 C htab hr HX6_areThere HX6_shownOf HX6_has HX6_endOf HX6_far hK39
set_option maxRecDepth 20000 in
theorem sX6_reason_101 {l : Launch} {z0 b N M : Nat} {D : va_G} {cA : Nat → ClassId} {p : Program} {e : Env} {s : State} {m : MethodId} {args : Array Value} {below : List Frame} {meth : Method} {c : Code} {Kn : Option Value → ZH → Prop} {Kx : Nat → Prop} {h0 : ZH} {K39 : ZK ZH} (C : zCx p l (zRm 5 M 112) s m args meth c cX6_reason 7 RX6 z0 D cA M) (htab : ∀ x ∈ c.exceptionTable.toList, False) (hr : meth.sig.returnType = (some .int)) (HX6_areThere : Sem l z0 b N D cA yX6_areThere cX6_areThere 3 (some .boolean) 2 43 3 zno tX6_areThere) (HX6_shownOf : Sem l z0 b N D cA yX6_shownOf cX6_shownOf 2 (some .int) 4 91 2 zno tX6_shownOf) (HX6_has : Sem l z0 b N D cA yX6_has cX6_has 2 (some .boolean) 0 0 2 zno tX6_has) (HX6_endOf : Sem l z0 b N D cA yX6_endOf cX6_endOf 3 (some .int) 0 0 2 zno tX6_endOf) (HX6_far : Sem l z0 b N D cA yX6_far cX6_far 5 (some .int) 3 68 3 zno tX6_far) (hK39 : Snd p l e (zRm 5 M 112) s m args below meth c 7 z0 b (zI z0 b N D cA s) (fun _ => (0, 0)) (vx_MQ below (zQn z0 b N D cA Kn) (zXn z0 b N D cA Kx h0) args s M (6 * M) (fun q => z0 ≤ q)) 39 K39) : Snd p l e (zRm 5 M 112) s m args below meth c 7 z0 b (zI z0 b N D cA s) (fun _ => (0, 0)) (vx_MQ below (zQn z0 b N D cA Kn) (zXn z0 b N D cA Kx h0) args s M (6 * M) (fun q => z0 ≤ q)) 101 (bX6_reason_101 M Kn Kx h0 K39) := by
  obtain ⟨hx, hb, hml, hown, hts, -⟩ := id C
  unfold bX6_reason_101
  refine k_iconst hx hb dX6_reason_101 (by decide) ?_
  refine k_goto (tgt := 106) hx hb dX6_reason_102 (by decide) ?_
  exact sX6_reason_106 C htab hr HX6_areThere HX6_shownOf HX6_has HX6_endOf HX6_far hK39
set_option maxRecDepth 20000 in
theorem sX6_reason_78 {l : Launch} {z0 b N M : Nat} {D : va_G} {cA : Nat → ClassId} {p : Program} {e : Env} {s : State} {m : MethodId} {args : Array Value} {below : List Frame} {meth : Method} {c : Code} {Kn : Option Value → ZH → Prop} {Kx : Nat → Prop} {h0 : ZH} {K39 : ZK ZH} (C : zCx p l (zRm 5 M 112) s m args meth c cX6_reason 7 RX6 z0 D cA M) (htab : ∀ x ∈ c.exceptionTable.toList, False) (hr : meth.sig.returnType = (some .int)) (HX6_areThere : Sem l z0 b N D cA yX6_areThere cX6_areThere 3 (some .boolean) 2 43 3 zno tX6_areThere) (HX6_shownOf : Sem l z0 b N D cA yX6_shownOf cX6_shownOf 2 (some .int) 4 91 2 zno tX6_shownOf) (HX6_has : Sem l z0 b N D cA yX6_has cX6_has 2 (some .boolean) 0 0 2 zno tX6_has) (HX6_endOf : Sem l z0 b N D cA yX6_endOf cX6_endOf 3 (some .int) 0 0 2 zno tX6_endOf) (HX6_far : Sem l z0 b N D cA yX6_far cX6_far 5 (some .int) 3 68 3 zno tX6_far) (hK39 : Snd p l e (zRm 5 M 112) s m args below meth c 7 z0 b (zI z0 b N D cA s) (fun _ => (0, 0)) (vx_MQ below (zQn z0 b N D cA Kn) (zXn z0 b N D cA Kx h0) args s M (6 * M) (fun q => z0 ≤ q)) 39 K39) : Snd p l e (zRm 5 M 112) s m args below meth c 7 z0 b (zI z0 b N D cA s) (fun _ => (0, 0)) (vx_MQ below (zQn z0 b N D cA Kn) (zXn z0 b N D cA Kx h0) args s M (6 * M) (fun q => z0 ≤ q)) 78 (bX6_reason_78 M Kn Kx h0 K39) := by
  obtain ⟨hx, hb, hml, hown, hts, -⟩ := id C
  unfold bX6_reason_78
  refine k_istore hx hb dX6_reason_78 ?_
  refine k_iload hx hb dX6_reason_80 ?_
  refine k_bipush hx hb dX6_reason_82 (by decide) ?_
  refine k_icmp_gt (tgt := 105) hx hb dX6_reason_84 (by decide) ?_ ?_
  · exact sX6_reason_105 C htab hr HX6_areThere HX6_shownOf HX6_has HX6_endOf HX6_far hK39
  · refine k_iload_n hx hb dX6_reason_87 rfl ?_
    refine k_iconst hx hb dX6_reason_88 (by decide) ?_
    refine k_icmp_eq (tgt := 101) hx hb dX6_reason_89 (by decide) ?_ ?_
    · exact sX6_reason_101 C htab hr HX6_areThere HX6_shownOf HX6_has HX6_endOf HX6_far hK39
    · refine k_iload hx hb dX6_reason_92 ?_
      refine k_iload_n hx hb dX6_reason_94 rfl ?_
      refine k_bipush hx hb dX6_reason_95 (by decide) ?_
      refine k_idiv hx hb dX6_reason_97 ?_
      refine k_icmp_ge (tgt := 105) hx hb dX6_reason_98 (by decide) ?_ ?_
      · exact sX6_reason_105 C htab hr HX6_areThere HX6_shownOf HX6_has HX6_endOf HX6_far hK39
      · exact sX6_reason_101 C htab hr HX6_areThere HX6_shownOf HX6_has HX6_endOf HX6_far hK39
set_option maxRecDepth 20000 in
theorem sX6_reason_39 {l : Launch} {z0 b N M : Nat} {D : va_G} {cA : Nat → ClassId} {p : Program} {e : Env} {s : State} {m : MethodId} {args : Array Value} {below : List Frame} {meth : Method} {c : Code} {Kn : Option Value → ZH → Prop} {Kx : Nat → Prop} {h0 : ZH} {K39 : ZK ZH} (C : zCx p l (zRm 5 M 112) s m args meth c cX6_reason 7 RX6 z0 D cA M) (htab : ∀ x ∈ c.exceptionTable.toList, False) (hr : meth.sig.returnType = (some .int)) (HX6_areThere : Sem l z0 b N D cA yX6_areThere cX6_areThere 3 (some .boolean) 2 43 3 zno tX6_areThere) (HX6_shownOf : Sem l z0 b N D cA yX6_shownOf cX6_shownOf 2 (some .int) 4 91 2 zno tX6_shownOf) (HX6_has : Sem l z0 b N D cA yX6_has cX6_has 2 (some .boolean) 0 0 2 zno tX6_has) (HX6_endOf : Sem l z0 b N D cA yX6_endOf cX6_endOf 3 (some .int) 0 0 2 zno tX6_endOf) (HX6_far : Sem l z0 b N D cA yX6_far cX6_far 5 (some .int) 3 68 3 zno tX6_far) (hK39 : Snd p l e (zRm 5 M 112) s m args below meth c 7 z0 b (zI z0 b N D cA s) (fun _ => (0, 0)) (vx_MQ below (zQn z0 b N D cA Kn) (zXn z0 b N D cA Kx h0) args s M (6 * M) (fun q => z0 ≤ q)) 39 K39) : Snd p l e (zRm 5 M 112) s m args below meth c 7 z0 b (zI z0 b N D cA s) (fun _ => (0, 0)) (vx_MQ below (zQn z0 b N D cA Kn) (zXn z0 b N D cA Kx h0) args s M (6 * M) (fun q => z0 ≤ q)) 39 (bX6_reason_39 M Kn Kx h0 K39) := by
  obtain ⟨hx, hb, hml, hown, hts, -⟩ := id C
  unfold bX6_reason_39
  refine k_iload hx hb dX6_reason_39 ?_
  refine k_aload_n hx hb dX6_reason_41 rfl ?_
  refine k_getf C (ci := 6) (k := 3) (Tf := TX6) (Nf := 20) (Cn := RX6) rfl zinX6 (by decide) rfl zfX6_57 dX6_reason_42 ?_
  refine k_icmp_ge (tgt := 132) hx hb dX6_reason_45 (by decide) ?_ ?_
  · refine k_iload_n hx hb dX6_reason_132 rfl ?_
    exact k_ret C hr dX6_reason_133
  · refine k_aload_n hx hb dX6_reason_48 rfl ?_
    refine k_getf C (ci := 6) (k := 9) (Tf := TX6) (Nf := 20) (Cn := RX6) rfl zinX6 (by decide) rfl zfX6_26 dX6_reason_49 ?_
    refine k_iload_n hx hb dX6_reason_52 rfl ?_
    refine k_iald C dX6_reason_53 ?_
    refine k_iload hx hb dX6_reason_54 ?_
    refine k_callS2 C htab HX6_has zlX6_108 zsX6_has ziX6 zcX6_has (by decide +kernel) ⟨Nat.le_of_ble_eq_true rfl, Nat.le_of_ble_eq_true rfl⟩ dX6_reason_56 ?_
    refine k_if_eq (tgt := 76) hx hb dX6_reason_59 (by decide) ?_ ?_
    · refine k_bipush hx hb dX6_reason_76 (by decide) ?_
      exact sX6_reason_78 C htab hr HX6_areThere HX6_shownOf HX6_has HX6_endOf HX6_far hK39
    · refine k_aload_n hx hb dX6_reason_62 rfl ?_
      refine k_aload_n hx hb dX6_reason_63 rfl ?_
      refine k_iload hx hb dX6_reason_64 ?_
      refine k_callV1 C htab (ci := 6) (Tf := TX6) (Nf := 20) (Cn := RX6) rfl HX6_endOf rfl zlX6_115 zmX6_endOf zvX6_endOf ziX6 zcX6_endOf (by decide +kernel) ⟨Nat.le_of_ble_eq_true rfl, Nat.le_of_ble_eq_true rfl⟩ dX6_reason_66 ?_
      refine k_iload_n hx hb dX6_reason_69 rfl ?_
      refine k_callV2 C htab (ci := 6) (Tf := TX6) (Nf := 20) (Cn := RX6) rfl HX6_far rfl zlX6_157 zmX6_far zvX6_far ziX6 zcX6_far (by decide +kernel) ⟨Nat.le_of_ble_eq_true rfl, Nat.le_of_ble_eq_true rfl⟩ dX6_reason_70 ?_
      refine k_goto (tgt := 78) hx hb dX6_reason_73 (by decide) ?_
      exact sX6_reason_78 C htab hr HX6_areThere HX6_shownOf HX6_has HX6_endOf HX6_far hK39
set_option maxRecDepth 20000 in
theorem sX6_reason_33 {l : Launch} {z0 b N M : Nat} {D : va_G} {cA : Nat → ClassId} {p : Program} {e : Env} {s : State} {m : MethodId} {args : Array Value} {below : List Frame} {meth : Method} {c : Code} {Kn : Option Value → ZH → Prop} {Kx : Nat → Prop} {h0 : ZH} {K39 : ZK ZH} (C : zCx p l (zRm 5 M 112) s m args meth c cX6_reason 7 RX6 z0 D cA M) (htab : ∀ x ∈ c.exceptionTable.toList, False) (hr : meth.sig.returnType = (some .int)) (HX6_areThere : Sem l z0 b N D cA yX6_areThere cX6_areThere 3 (some .boolean) 2 43 3 zno tX6_areThere) (HX6_shownOf : Sem l z0 b N D cA yX6_shownOf cX6_shownOf 2 (some .int) 4 91 2 zno tX6_shownOf) (HX6_has : Sem l z0 b N D cA yX6_has cX6_has 2 (some .boolean) 0 0 2 zno tX6_has) (HX6_endOf : Sem l z0 b N D cA yX6_endOf cX6_endOf 3 (some .int) 0 0 2 zno tX6_endOf) (HX6_far : Sem l z0 b N D cA yX6_far cX6_far 5 (some .int) 3 68 3 zno tX6_far) (hK39 : Snd p l e (zRm 5 M 112) s m args below meth c 7 z0 b (zI z0 b N D cA s) (fun _ => (0, 0)) (vx_MQ below (zQn z0 b N D cA Kn) (zXn z0 b N D cA Kx h0) args s M (6 * M) (fun q => z0 ≤ q)) 39 K39) : Snd p l e (zRm 5 M 112) s m args below meth c 7 z0 b (zI z0 b N D cA s) (fun _ => (0, 0)) (vx_MQ below (zQn z0 b N D cA Kn) (zXn z0 b N D cA Kx h0) args s M (6 * M) (fun q => z0 ≤ q)) 33 (bX6_reason_33 M Kn Kx h0 K39) := by
  obtain ⟨hx, hb, hml, hown, hts, -⟩ := id C
  unfold bX6_reason_33
  exact k_ret C hr dX6_reason_33
set_option maxRecDepth 20000 in
theorem sX6_reason_21 {l : Launch} {z0 b N M : Nat} {D : va_G} {cA : Nat → ClassId} {p : Program} {e : Env} {s : State} {m : MethodId} {args : Array Value} {below : List Frame} {meth : Method} {c : Code} {Kn : Option Value → ZH → Prop} {Kx : Nat → Prop} {h0 : ZH} {K39 : ZK ZH} (C : zCx p l (zRm 5 M 112) s m args meth c cX6_reason 7 RX6 z0 D cA M) (htab : ∀ x ∈ c.exceptionTable.toList, False) (hr : meth.sig.returnType = (some .int)) (HX6_areThere : Sem l z0 b N D cA yX6_areThere cX6_areThere 3 (some .boolean) 2 43 3 zno tX6_areThere) (HX6_shownOf : Sem l z0 b N D cA yX6_shownOf cX6_shownOf 2 (some .int) 4 91 2 zno tX6_shownOf) (HX6_has : Sem l z0 b N D cA yX6_has cX6_has 2 (some .boolean) 0 0 2 zno tX6_has) (HX6_endOf : Sem l z0 b N D cA yX6_endOf cX6_endOf 3 (some .int) 0 0 2 zno tX6_endOf) (HX6_far : Sem l z0 b N D cA yX6_far cX6_far 5 (some .int) 3 68 3 zno tX6_far) (hK39 : Snd p l e (zRm 5 M 112) s m args below meth c 7 z0 b (zI z0 b N D cA s) (fun _ => (0, 0)) (vx_MQ below (zQn z0 b N D cA Kn) (zXn z0 b N D cA Kx h0) args s M (6 * M) (fun q => z0 ≤ q)) 39 K39) : Snd p l e (zRm 5 M 112) s m args below meth c 7 z0 b (zI z0 b N D cA s) (fun _ => (0, 0)) (vx_MQ below (zQn z0 b N D cA Kn) (zXn z0 b N D cA Kx h0) args s M (6 * M) (fun q => z0 ≤ q)) 21 (bX6_reason_21 M Kn Kx h0 K39) := by
  obtain ⟨hx, hb, hml, hown, hts, -⟩ := id C
  unfold bX6_reason_21
  refine k_aload_n hx hb dX6_reason_21 rfl ?_
  refine k_getf C (ci := 6) (k := 0) (Tf := TX6) (Nf := 20) (Cn := RX6) rfl zinX6 (by decide) rfl zfX6_53 dX6_reason_22 ?_
  refine k_if_ne (tgt := 32) hx hb dX6_reason_25 (by decide) ?_ ?_
  · refine k_iconst hx hb dX6_reason_32 (by decide) ?_
    exact sX6_reason_33 C htab hr HX6_areThere HX6_shownOf HX6_has HX6_endOf HX6_far hK39
  · refine k_iconst hx hb dX6_reason_28 (by decide) ?_
    refine k_goto (tgt := 33) hx hb dX6_reason_29 (by decide) ?_
    exact sX6_reason_33 C htab hr HX6_areThere HX6_shownOf HX6_has HX6_endOf HX6_far hK39
set_option maxRecDepth 20000 in
theorem sX6_reason_0 {l : Launch} {z0 b N M : Nat} {D : va_G} {cA : Nat → ClassId} {p : Program} {e : Env} {s : State} {m : MethodId} {args : Array Value} {below : List Frame} {meth : Method} {c : Code} {Kn : Option Value → ZH → Prop} {Kx : Nat → Prop} {h0 : ZH} {K39 : ZK ZH} (C : zCx p l (zRm 5 M 112) s m args meth c cX6_reason 7 RX6 z0 D cA M) (htab : ∀ x ∈ c.exceptionTable.toList, False) (hr : meth.sig.returnType = (some .int)) (HX6_areThere : Sem l z0 b N D cA yX6_areThere cX6_areThere 3 (some .boolean) 2 43 3 zno tX6_areThere) (HX6_shownOf : Sem l z0 b N D cA yX6_shownOf cX6_shownOf 2 (some .int) 4 91 2 zno tX6_shownOf) (HX6_has : Sem l z0 b N D cA yX6_has cX6_has 2 (some .boolean) 0 0 2 zno tX6_has) (HX6_endOf : Sem l z0 b N D cA yX6_endOf cX6_endOf 3 (some .int) 0 0 2 zno tX6_endOf) (HX6_far : Sem l z0 b N D cA yX6_far cX6_far 5 (some .int) 3 68 3 zno tX6_far) (hK39 : Snd p l e (zRm 5 M 112) s m args below meth c 7 z0 b (zI z0 b N D cA s) (fun _ => (0, 0)) (vx_MQ below (zQn z0 b N D cA Kn) (zXn z0 b N D cA Kx h0) args s M (6 * M) (fun q => z0 ≤ q)) 39 K39) : Snd p l e (zRm 5 M 112) s m args below meth c 7 z0 b (zI z0 b N D cA s) (fun _ => (0, 0)) (vx_MQ below (zQn z0 b N D cA Kn) (zXn z0 b N D cA Kx h0) args s M (6 * M) (fun q => z0 ≤ q)) 0 (bX6_reason_0 M Kn Kx h0 K39) := by
  obtain ⟨hx, hb, hml, hown, hts, -⟩ := id C
  unfold bX6_reason_0
  refine k_aload_n hx hb dX6_reason_0 rfl ?_
  refine k_iload_n hx hb dX6_reason_1 rfl ?_
  refine k_iload_n hx hb dX6_reason_2 rfl ?_
  refine k_callV2 C htab (ci := 6) (Tf := TX6) (Nf := 20) (Cn := RX6) rfl HX6_areThere rfl zlX6_101 zmX6_areThere zvX6_areThere ziX6 zcX6_areThere (by decide +kernel) ⟨Nat.le_of_ble_eq_true rfl, Nat.le_of_ble_eq_true rfl⟩ dX6_reason_3 ?_
  refine k_if_eq (tgt := 21) hx hb dX6_reason_6 (by decide) ?_ ?_
  · exact sX6_reason_21 C htab hr HX6_areThere HX6_shownOf HX6_has HX6_endOf HX6_far hK39
  · refine k_aload_n hx hb dX6_reason_9 rfl ?_
    refine k_iload_n hx hb dX6_reason_10 rfl ?_
    refine k_callV1 C htab (ci := 6) (Tf := TX6) (Nf := 20) (Cn := RX6) rfl HX6_shownOf rfl zlX6_111 zmX6_shownOf zvX6_shownOf ziX6 zcX6_shownOf (by decide +kernel) ⟨Nat.le_of_ble_eq_true rfl, Nat.le_of_ble_eq_true rfl⟩ dX6_reason_11 ?_
    refine k_iload_n hx hb dX6_reason_14 rfl ?_
    refine k_callS2 C htab HX6_has zlX6_108 zsX6_has ziX6 zcX6_has (by decide +kernel) ⟨Nat.le_of_ble_eq_true rfl, Nat.le_of_ble_eq_true rfl⟩ dX6_reason_15 ?_
    refine k_if_ne (tgt := 34) hx hb dX6_reason_18 (by decide) ?_ ?_
    · refine k_iconst hx hb dX6_reason_34 (by decide) ?_
      refine k_istore_n hx hb dX6_reason_35 rfl ?_
      refine k_iconst hx hb dX6_reason_36 (by decide) ?_
      refine k_istore hx hb dX6_reason_37 ?_
      exact hK39
    · exact sX6_reason_21 C htab hr HX6_areThere HX6_shownOf HX6_has HX6_endOf HX6_far hK39
set_option maxRecDepth 20000 in
theorem uX6_reason {l : Launch} {z0 b N : Nat} {D : va_G} {cA : Nat → ClassId} (hlt : l.stackTraces = false) (HX6_areThere : Sem l z0 b N D cA yX6_areThere cX6_areThere 3 (some .boolean) 2 43 3 zno tX6_areThere) (HX6_shownOf : Sem l z0 b N D cA yX6_shownOf cX6_shownOf 2 (some .int) 4 91 2 zno tX6_shownOf) (HX6_has : Sem l z0 b N D cA yX6_has cX6_has 2 (some .boolean) 0 0 2 zno tX6_has) (HX6_endOf : Sem l z0 b N D cA yX6_endOf cX6_endOf 3 (some .int) 0 0 2 zno tX6_endOf) (HX6_far : Sem l z0 b N D cA yX6_far cX6_far 5 (some .int) 3 68 3 zno tX6_far) (spec : ∀ (M : Nat) (a : List Value) (h : ZH) (Kn : Option Value → ZH → Prop) (Kx : Nat → Prop), zok 3 a = true → tX6_reason a h Kn → ∀ (A : Nat → ZK ZH), (∀ ls st h', bX6_reason_39 M Kn Kx h (A 39) ls st h' → A 39 ls st h') → bX6_reason_0 M Kn Kx h (A 39) (zE 7 a) [] h) : Sem l z0 b N D cA yX6_reason cX6_reason 7 (some .int) 5 112 3 zno tX6_reason :=
  sem_of hlt (by decide +kernel) (by decide) (fun p e s m args below meth c M a h Kn Kx hok hX hN C hr htab => sX6_reason_0 C htab hr HX6_areThere HX6_shownOf HX6_has HX6_endOf HX6_far (fun _ _ _ q => q) _ _ _ (spec M a h Kn Kx hok (hN (fun _ h9 => h9)) (fun pc => AW p l e (zRm 5 M 112) s m args below meth c 7 z0 b (zI z0 b N D cA s) (fun _ => (0, 0)) (vx_MQ below (zQn z0 b N D cA Kn) (zXn z0 b N D cA Kx h) args s M (6 * M) (fun q => z0 ≤ q)) pc) (fun ls st h' hq => sX6_reason_39 C htab hr HX6_areThere HX6_shownOf HX6_has HX6_endOf HX6_far (fun _ _ _ q => q) ls st h' hq)))
set_option maxRecDepth 20000 in
theorem sX6_areSets_45 {l : Launch} {z0 b N M : Nat} {D : va_G} {cA : Nat → ClassId} {p : Program} {e : Env} {s : State} {m : MethodId} {args : Array Value} {below : List Frame} {meth : Method} {c : Code} {Kn : Option Value → ZH → Prop} {Kx : Nat → Prop} {h0 : ZH} (C : zCx p l (zRm 1 M 22) s m args meth c cX6_areSets 5 RX6 z0 D cA M) (htab : ∀ x ∈ c.exceptionTable.toList, False) (hr : meth.sig.returnType = (some .boolean)) (HX6_in : Sem l z0 b N D cA yX6_in cX6_in 3 (some .boolean) 0 0 3 zno tX6_in) : Snd p l e (zRm 1 M 22) s m args below meth c 5 z0 b (zI z0 b N D cA s) (fun _ => (0, 0)) (vx_MQ below (zQn z0 b N D cA Kn) (zXn z0 b N D cA Kx h0) args s M (6 * M) (fun q => z0 ≤ q)) 45 (bX6_areSets_45 M Kn Kx h0) := by
  obtain ⟨hx, hb, hml, hown, hts, -⟩ := id C
  unfold bX6_areSets_45
  exact k_ret C hr dX6_areSets_45
set_option maxRecDepth 20000 in
theorem sX6_areSets_44 {l : Launch} {z0 b N M : Nat} {D : va_G} {cA : Nat → ClassId} {p : Program} {e : Env} {s : State} {m : MethodId} {args : Array Value} {below : List Frame} {meth : Method} {c : Code} {Kn : Option Value → ZH → Prop} {Kx : Nat → Prop} {h0 : ZH} (C : zCx p l (zRm 1 M 22) s m args meth c cX6_areSets 5 RX6 z0 D cA M) (htab : ∀ x ∈ c.exceptionTable.toList, False) (hr : meth.sig.returnType = (some .boolean)) (HX6_in : Sem l z0 b N D cA yX6_in cX6_in 3 (some .boolean) 0 0 3 zno tX6_in) : Snd p l e (zRm 1 M 22) s m args below meth c 5 z0 b (zI z0 b N D cA s) (fun _ => (0, 0)) (vx_MQ below (zQn z0 b N D cA Kn) (zXn z0 b N D cA Kx h0) args s M (6 * M) (fun q => z0 ≤ q)) 44 (bX6_areSets_44 M Kn Kx h0) := by
  obtain ⟨hx, hb, hml, hown, hts, -⟩ := id C
  unfold bX6_areSets_44
  refine k_iconst hx hb dX6_areSets_44 (by decide) ?_
  exact sX6_areSets_45 C htab hr HX6_in
set_option maxRecDepth 20000 in
theorem sX6_areSets_0 {l : Launch} {z0 b N M : Nat} {D : va_G} {cA : Nat → ClassId} {p : Program} {e : Env} {s : State} {m : MethodId} {args : Array Value} {below : List Frame} {meth : Method} {c : Code} {Kn : Option Value → ZH → Prop} {Kx : Nat → Prop} {h0 : ZH} (C : zCx p l (zRm 1 M 22) s m args meth c cX6_areSets 5 RX6 z0 D cA M) (htab : ∀ x ∈ c.exceptionTable.toList, False) (hr : meth.sig.returnType = (some .boolean)) (HX6_in : Sem l z0 b N D cA yX6_in cX6_in 3 (some .boolean) 0 0 3 zno tX6_in) : Snd p l e (zRm 1 M 22) s m args below meth c 5 z0 b (zI z0 b N D cA s) (fun _ => (0, 0)) (vx_MQ below (zQn z0 b N D cA Kn) (zXn z0 b N D cA Kx h0) args s M (6 * M) (fun q => z0 ≤ q)) 0 (bX6_areSets_0 M Kn Kx h0) := by
  obtain ⟨hx, hb, hml, hown, hts, -⟩ := id C
  unfold bX6_areSets_0
  refine k_iconst hx hb dX6_areSets_0 (by decide) ?_
  refine k_aload_n hx hb dX6_areSets_1 rfl ?_
  refine k_getf C (ci := 6) (k := 3) (Tf := TX6) (Nf := 20) (Cn := RX6) rfl zinX6 (by decide) rfl zfX6_57 dX6_areSets_2 ?_
  refine k_ishl hx hb dX6_areSets_5 ?_
  refine k_iconst hx hb dX6_areSets_6 (by decide) ?_
  refine k_isub hx hb dX6_areSets_7 ?_
  refine k_istore hx hb dX6_areSets_8 ?_
  refine k_iload_n hx hb dX6_areSets_10 rfl ?_
  refine k_iconst hx hb dX6_areSets_11 (by decide) ?_
  refine k_iload hx hb dX6_areSets_12 ?_
  refine k_callS3 C htab HX6_in zlX6_60 zsX6_in ziX6 zcX6_in (by decide +kernel) ⟨Nat.le_of_ble_eq_true rfl, Nat.le_of_ble_eq_true rfl⟩ dX6_areSets_14 ?_
  refine k_if_eq (tgt := 44) hx hb dX6_areSets_17 (by decide) ?_ ?_
  · exact sX6_areSets_44 C htab hr HX6_in
  · refine k_iload_n hx hb dX6_areSets_20 rfl ?_
    refine k_iconst hx hb dX6_areSets_21 (by decide) ?_
    refine k_iload hx hb dX6_areSets_22 ?_
    refine k_callS3 C htab HX6_in zlX6_60 zsX6_in ziX6 zcX6_in (by decide +kernel) ⟨Nat.le_of_ble_eq_true rfl, Nat.le_of_ble_eq_true rfl⟩ dX6_areSets_24 ?_
    refine k_if_eq (tgt := 44) hx hb dX6_areSets_27 (by decide) ?_ ?_
    · exact sX6_areSets_44 C htab hr HX6_in
    · refine k_iload_n hx hb dX6_areSets_30 rfl ?_
      refine k_iconst hx hb dX6_areSets_31 (by decide) ?_
      refine k_iload hx hb dX6_areSets_32 ?_
      refine k_callS3 C htab HX6_in zlX6_60 zsX6_in ziX6 zcX6_in (by decide +kernel) ⟨Nat.le_of_ble_eq_true rfl, Nat.le_of_ble_eq_true rfl⟩ dX6_areSets_34 ?_
      refine k_if_eq (tgt := 44) hx hb dX6_areSets_37 (by decide) ?_ ?_
      · exact sX6_areSets_44 C htab hr HX6_in
      · refine k_iconst hx hb dX6_areSets_40 (by decide) ?_
        refine k_goto (tgt := 45) hx hb dX6_areSets_41 (by decide) ?_
        exact sX6_areSets_45 C htab hr HX6_in
set_option maxRecDepth 20000 in
theorem uX6_areSets {l : Launch} {z0 b N : Nat} {D : va_G} {cA : Nat → ClassId} (hlt : l.stackTraces = false) (HX6_in : Sem l z0 b N D cA yX6_in cX6_in 3 (some .boolean) 0 0 3 zno tX6_in) (spec : ∀ (M : Nat) (a : List Value) (h : ZH) (Kn : Option Value → ZH → Prop) (Kx : Nat → Prop), zok 4 a = true → tX6_areSets a h Kn → bX6_areSets_0 M Kn Kx h (zE 5 a) [] h) : Sem l z0 b N D cA yX6_areSets cX6_areSets 5 (some .boolean) 1 22 4 zno tX6_areSets :=
  sem_of hlt (by decide +kernel) (by decide) (fun p e s m args below meth c M a h Kn Kx hok hX hN C hr htab => sX6_areSets_0 C htab hr HX6_in _ _ _ (spec M a h Kn Kx hok (hN (fun _ h9 => h9))))
set_option maxRecDepth 20000 in
theorem sX6_isMatch_52 {l : Launch} {z0 b N M : Nat} {D : va_G} {cA : Nat → ClassId} {p : Program} {e : Env} {s : State} {m : MethodId} {args : Array Value} {below : List Frame} {meth : Method} {c : Code} {Kn : Option Value → ZH → Prop} {Kx : Nat → Prop} {h0 : ZH} (C : zCx p l (zRm 5 M 112) s m args meth c cX6_isMatch 6 RX6 z0 D cA M) (htab : ∀ x ∈ c.exceptionTable.toList, False) (hr : meth.sig.returnType = (some .boolean)) (HX6_shownOf : Sem l z0 b N D cA yX6_shownOf cX6_shownOf 2 (some .int) 4 91 2 zno tX6_shownOf) (HX6_endsOf : Sem l z0 b N D cA yX6_endsOf cX6_endsOf 4 (some .int) 1 22 2 zno tX6_endsOf) : Snd p l e (zRm 5 M 112) s m args below meth c 6 z0 b (zI z0 b N D cA s) (fun _ => (0, 0)) (vx_MQ below (zQn z0 b N D cA Kn) (zXn z0 b N D cA Kx h0) args s M (6 * M) (fun q => z0 ≤ q)) 52 (bX6_isMatch_52 M Kn Kx h0) := by
  obtain ⟨hx, hb, hml, hown, hts, -⟩ := id C
  unfold bX6_isMatch_52
  exact k_ret C hr dX6_isMatch_52
set_option maxRecDepth 20000 in
theorem sX6_isMatch_51 {l : Launch} {z0 b N M : Nat} {D : va_G} {cA : Nat → ClassId} {p : Program} {e : Env} {s : State} {m : MethodId} {args : Array Value} {below : List Frame} {meth : Method} {c : Code} {Kn : Option Value → ZH → Prop} {Kx : Nat → Prop} {h0 : ZH} (C : zCx p l (zRm 5 M 112) s m args meth c cX6_isMatch 6 RX6 z0 D cA M) (htab : ∀ x ∈ c.exceptionTable.toList, False) (hr : meth.sig.returnType = (some .boolean)) (HX6_shownOf : Sem l z0 b N D cA yX6_shownOf cX6_shownOf 2 (some .int) 4 91 2 zno tX6_shownOf) (HX6_endsOf : Sem l z0 b N D cA yX6_endsOf cX6_endsOf 4 (some .int) 1 22 2 zno tX6_endsOf) : Snd p l e (zRm 5 M 112) s m args below meth c 6 z0 b (zI z0 b N D cA s) (fun _ => (0, 0)) (vx_MQ below (zQn z0 b N D cA Kn) (zXn z0 b N D cA Kx h0) args s M (6 * M) (fun q => z0 ≤ q)) 51 (bX6_isMatch_51 M Kn Kx h0) := by
  obtain ⟨hx, hb, hml, hown, hts, -⟩ := id C
  unfold bX6_isMatch_51
  refine k_iconst hx hb dX6_isMatch_51 (by decide) ?_
  exact sX6_isMatch_52 C htab hr HX6_shownOf HX6_endsOf
set_option maxRecDepth 20000 in
theorem sX6_isMatch_35 {l : Launch} {z0 b N M : Nat} {D : va_G} {cA : Nat → ClassId} {p : Program} {e : Env} {s : State} {m : MethodId} {args : Array Value} {below : List Frame} {meth : Method} {c : Code} {Kn : Option Value → ZH → Prop} {Kx : Nat → Prop} {h0 : ZH} (C : zCx p l (zRm 5 M 112) s m args meth c cX6_isMatch 6 RX6 z0 D cA M) (htab : ∀ x ∈ c.exceptionTable.toList, False) (hr : meth.sig.returnType = (some .boolean)) (HX6_shownOf : Sem l z0 b N D cA yX6_shownOf cX6_shownOf 2 (some .int) 4 91 2 zno tX6_shownOf) (HX6_endsOf : Sem l z0 b N D cA yX6_endsOf cX6_endsOf 4 (some .int) 1 22 2 zno tX6_endsOf) : Snd p l e (zRm 5 M 112) s m args below meth c 6 z0 b (zI z0 b N D cA s) (fun _ => (0, 0)) (vx_MQ below (zQn z0 b N D cA Kn) (zXn z0 b N D cA Kx h0) args s M (6 * M) (fun q => z0 ≤ q)) 35 (bX6_isMatch_35 M Kn Kx h0) := by
  obtain ⟨hx, hb, hml, hown, hts, -⟩ := id C
  unfold bX6_isMatch_35
  refine k_aload_n hx hb dX6_isMatch_35 rfl ?_
  refine k_iload hx hb dX6_isMatch_36 ?_
  refine k_callV1 C htab (ci := 6) (Tf := TX6) (Nf := 20) (Cn := RX6) rfl HX6_endsOf rfl zlX6_125 zmX6_endsOf zvX6_endsOf ziX6 zcX6_endsOf (by decide +kernel) ⟨Nat.le_of_ble_eq_true rfl, Nat.le_of_ble_eq_true rfl⟩ dX6_isMatch_38 ?_
  refine k_iload hx hb dX6_isMatch_41 ?_
  refine k_iand hx hb dX6_isMatch_43 ?_
  refine k_if_ne (tgt := 51) hx hb dX6_isMatch_44 (by decide) ?_ ?_
  · exact sX6_isMatch_51 C htab hr HX6_shownOf HX6_endsOf
  · refine k_iconst hx hb dX6_isMatch_47 (by decide) ?_
    refine k_goto (tgt := 52) hx hb dX6_isMatch_48 (by decide) ?_
    exact sX6_isMatch_52 C htab hr HX6_shownOf HX6_endsOf
set_option maxRecDepth 20000 in
theorem sX6_isMatch_0 {l : Launch} {z0 b N M : Nat} {D : va_G} {cA : Nat → ClassId} {p : Program} {e : Env} {s : State} {m : MethodId} {args : Array Value} {below : List Frame} {meth : Method} {c : Code} {Kn : Option Value → ZH → Prop} {Kx : Nat → Prop} {h0 : ZH} (C : zCx p l (zRm 5 M 112) s m args meth c cX6_isMatch 6 RX6 z0 D cA M) (htab : ∀ x ∈ c.exceptionTable.toList, False) (hr : meth.sig.returnType = (some .boolean)) (HX6_shownOf : Sem l z0 b N D cA yX6_shownOf cX6_shownOf 2 (some .int) 4 91 2 zno tX6_shownOf) (HX6_endsOf : Sem l z0 b N D cA yX6_endsOf cX6_endsOf 4 (some .int) 1 22 2 zno tX6_endsOf) : Snd p l e (zRm 5 M 112) s m args below meth c 6 z0 b (zI z0 b N D cA s) (fun _ => (0, 0)) (vx_MQ below (zQn z0 b N D cA Kn) (zXn z0 b N D cA Kx h0) args s M (6 * M) (fun q => z0 ≤ q)) 0 (bX6_isMatch_0 M Kn Kx h0) := by
  obtain ⟨hx, hb, hml, hown, hts, -⟩ := id C
  unfold bX6_isMatch_0
  refine k_aload_n hx hb dX6_isMatch_0 rfl ?_
  refine k_iload_n hx hb dX6_isMatch_1 rfl ?_
  refine k_callV1 C htab (ci := 6) (Tf := TX6) (Nf := 20) (Cn := RX6) rfl HX6_shownOf rfl zlX6_111 zmX6_shownOf zvX6_shownOf ziX6 zcX6_shownOf (by decide +kernel) ⟨Nat.le_of_ble_eq_true rfl, Nat.le_of_ble_eq_true rfl⟩ dX6_isMatch_2 ?_
  refine k_istore hx hb dX6_isMatch_5 ?_
  refine k_aload_n hx hb dX6_isMatch_7 rfl ?_
  refine k_iload_n hx hb dX6_isMatch_8 rfl ?_
  refine k_callV1 C htab (ci := 6) (Tf := TX6) (Nf := 20) (Cn := RX6) rfl HX6_endsOf rfl zlX6_125 zmX6_endsOf zvX6_endsOf ziX6 zcX6_endsOf (by decide +kernel) ⟨Nat.le_of_ble_eq_true rfl, Nat.le_of_ble_eq_true rfl⟩ dX6_isMatch_9 ?_
  refine k_iload hx hb dX6_isMatch_12 ?_
  refine k_iconst hx hb dX6_isMatch_14 (by decide) ?_
  refine k_ixor hx hb dX6_isMatch_15 ?_
  refine k_iand hx hb dX6_isMatch_16 ?_
  refine k_if_ne (tgt := 51) hx hb dX6_isMatch_17 (by decide) ?_ ?_
  · exact sX6_isMatch_51 C htab hr HX6_shownOf HX6_endsOf
  · refine k_iload_n hx hb dX6_isMatch_20 rfl ?_
    refine k_if_eq (tgt := 35) hx hb dX6_isMatch_21 (by decide) ?_ ?_
    · exact sX6_isMatch_35 C htab hr HX6_shownOf HX6_endsOf
    · refine k_aload_n hx hb dX6_isMatch_24 rfl ?_
      refine k_iload_n hx hb dX6_isMatch_25 rfl ?_
      refine k_callV1 C htab (ci := 6) (Tf := TX6) (Nf := 20) (Cn := RX6) rfl HX6_endsOf rfl zlX6_125 zmX6_endsOf zvX6_endsOf ziX6 zcX6_endsOf (by decide +kernel) ⟨Nat.le_of_ble_eq_true rfl, Nat.le_of_ble_eq_true rfl⟩ dX6_isMatch_26 ?_
      refine k_iload hx hb dX6_isMatch_29 ?_
      refine k_iand hx hb dX6_isMatch_31 ?_
      refine k_if_eq (tgt := 51) hx hb dX6_isMatch_32 (by decide) ?_ ?_
      · exact sX6_isMatch_51 C htab hr HX6_shownOf HX6_endsOf
      · exact sX6_isMatch_35 C htab hr HX6_shownOf HX6_endsOf
set_option maxRecDepth 20000 in
theorem uX6_isMatch {l : Launch} {z0 b N : Nat} {D : va_G} {cA : Nat → ClassId} (hlt : l.stackTraces = false) (HX6_shownOf : Sem l z0 b N D cA yX6_shownOf cX6_shownOf 2 (some .int) 4 91 2 zno tX6_shownOf) (HX6_endsOf : Sem l z0 b N D cA yX6_endsOf cX6_endsOf 4 (some .int) 1 22 2 zno tX6_endsOf) (spec : ∀ (M : Nat) (a : List Value) (h : ZH) (Kn : Option Value → ZH → Prop) (Kx : Nat → Prop), zok 5 a = true → tX6_isMatch a h Kn → bX6_isMatch_0 M Kn Kx h (zE 6 a) [] h) : Sem l z0 b N D cA yX6_isMatch cX6_isMatch 6 (some .boolean) 5 112 5 zno tX6_isMatch :=
  sem_of hlt (by decide +kernel) (by decide) (fun p e s m args below meth c M a h Kn Kx hok hX hN C hr htab => sX6_isMatch_0 C htab hr HX6_shownOf HX6_endsOf _ _ _ (spec M a h Kn Kx hok (hN (fun _ h9 => h9))))
set_option maxRecDepth 20000 in
theorem sX6_matches_34 {l : Launch} {z0 b N M : Nat} {D : va_G} {cA : Nat → ClassId} {p : Program} {e : Env} {s : State} {m : MethodId} {args : Array Value} {below : List Frame} {meth : Method} {c : Code} {Kn : Option Value → ZH → Prop} {Kx : Nat → Prop} {h0 : ZH} {K6 : ZK ZH} (C : zCx p l (zRm 6 M 137) s m args meth c cX6_matches 6 RX6 z0 D cA M) (htab : ∀ x ∈ c.exceptionTable.toList, False) (hr : meth.sig.returnType = (some .int)) (HX6_isMatch : Sem l z0 b N D cA yX6_isMatch cX6_isMatch 6 (some .boolean) 5 112 5 zno tX6_isMatch) (hK6 : Snd p l e (zRm 6 M 137) s m args below meth c 6 z0 b (zI z0 b N D cA s) (fun _ => (0, 0)) (vx_MQ below (zQn z0 b N D cA Kn) (zXn z0 b N D cA Kx h0) args s M (6 * M) (fun q => z0 ≤ q)) 6 K6) : Snd p l e (zRm 6 M 137) s m args below meth c 6 z0 b (zI z0 b N D cA s) (fun _ => (0, 0)) (vx_MQ below (zQn z0 b N D cA Kn) (zXn z0 b N D cA Kx h0) args s M (6 * M) (fun q => z0 ≤ q)) 34 (bX6_matches_34 M Kn Kx h0 K6) := by
  obtain ⟨hx, hb, hml, hown, hts, -⟩ := id C
  unfold bX6_matches_34
  refine k_iadd hx hb dX6_matches_34 ?_
  refine k_istore hx hb dX6_matches_35 ?_
  refine k_iinc hx hb dX6_matches_37 (by decide) ?_
  refine k_goto (tgt := 6) hx hb dX6_matches_40 (by decide) ?_
  exact hK6
set_option maxRecDepth 20000 in
theorem sX6_matches_6 {l : Launch} {z0 b N M : Nat} {D : va_G} {cA : Nat → ClassId} {p : Program} {e : Env} {s : State} {m : MethodId} {args : Array Value} {below : List Frame} {meth : Method} {c : Code} {Kn : Option Value → ZH → Prop} {Kx : Nat → Prop} {h0 : ZH} {K6 : ZK ZH} (C : zCx p l (zRm 6 M 137) s m args meth c cX6_matches 6 RX6 z0 D cA M) (htab : ∀ x ∈ c.exceptionTable.toList, False) (hr : meth.sig.returnType = (some .int)) (HX6_isMatch : Sem l z0 b N D cA yX6_isMatch cX6_isMatch 6 (some .boolean) 5 112 5 zno tX6_isMatch) (hK6 : Snd p l e (zRm 6 M 137) s m args below meth c 6 z0 b (zI z0 b N D cA s) (fun _ => (0, 0)) (vx_MQ below (zQn z0 b N D cA Kn) (zXn z0 b N D cA Kx h0) args s M (6 * M) (fun q => z0 ≤ q)) 6 K6) : Snd p l e (zRm 6 M 137) s m args below meth c 6 z0 b (zI z0 b N D cA s) (fun _ => (0, 0)) (vx_MQ below (zQn z0 b N D cA Kn) (zXn z0 b N D cA Kx h0) args s M (6 * M) (fun q => z0 ≤ q)) 6 (bX6_matches_6 M Kn Kx h0 K6) := by
  obtain ⟨hx, hb, hml, hown, hts, -⟩ := id C
  unfold bX6_matches_6
  refine k_iload hx hb dX6_matches_6 ?_
  refine k_aload_n hx hb dX6_matches_8 rfl ?_
  refine k_getf C (ci := 6) (k := 8) (Tf := TX6) (Nf := 20) (Cn := RX6) rfl zinX6 (by decide) rfl zfX6_64 dX6_matches_9 ?_
  refine k_icmp_ge (tgt := 43) hx hb dX6_matches_12 (by decide) ?_ ?_
  · refine k_iload hx hb dX6_matches_43 ?_
    exact k_ret C hr dX6_matches_45
  · refine k_iload hx hb dX6_matches_15 ?_
    refine k_aload_n hx hb dX6_matches_17 rfl ?_
    refine k_iload hx hb dX6_matches_18 ?_
    refine k_iload_n hx hb dX6_matches_20 rfl ?_
    refine k_iload_n hx hb dX6_matches_21 rfl ?_
    refine k_iload_n hx hb dX6_matches_22 rfl ?_
    refine k_callV4 C htab (ci := 6) (Tf := TX6) (Nf := 20) (Cn := RX6) rfl HX6_isMatch rfl zlX6_161 zmX6_isMatch zvX6_isMatch ziX6 zcX6_isMatch (by decide +kernel) ⟨Nat.le_of_ble_eq_true rfl, Nat.le_of_ble_eq_true rfl⟩ dX6_matches_23 ?_
    refine k_if_eq (tgt := 33) hx hb dX6_matches_26 (by decide) ?_ ?_
    · refine k_iconst hx hb dX6_matches_33 (by decide) ?_
      exact sX6_matches_34 C htab hr HX6_isMatch hK6
    · refine k_iconst hx hb dX6_matches_29 (by decide) ?_
      refine k_goto (tgt := 34) hx hb dX6_matches_30 (by decide) ?_
      exact sX6_matches_34 C htab hr HX6_isMatch hK6
set_option maxRecDepth 20000 in
theorem sX6_matches_0 {l : Launch} {z0 b N M : Nat} {D : va_G} {cA : Nat → ClassId} {p : Program} {e : Env} {s : State} {m : MethodId} {args : Array Value} {below : List Frame} {meth : Method} {c : Code} {Kn : Option Value → ZH → Prop} {Kx : Nat → Prop} {h0 : ZH} {K6 : ZK ZH} (C : zCx p l (zRm 6 M 137) s m args meth c cX6_matches 6 RX6 z0 D cA M) (htab : ∀ x ∈ c.exceptionTable.toList, False) (hr : meth.sig.returnType = (some .int)) (HX6_isMatch : Sem l z0 b N D cA yX6_isMatch cX6_isMatch 6 (some .boolean) 5 112 5 zno tX6_isMatch) (hK6 : Snd p l e (zRm 6 M 137) s m args below meth c 6 z0 b (zI z0 b N D cA s) (fun _ => (0, 0)) (vx_MQ below (zQn z0 b N D cA Kn) (zXn z0 b N D cA Kx h0) args s M (6 * M) (fun q => z0 ≤ q)) 6 K6) : Snd p l e (zRm 6 M 137) s m args below meth c 6 z0 b (zI z0 b N D cA s) (fun _ => (0, 0)) (vx_MQ below (zQn z0 b N D cA Kn) (zXn z0 b N D cA Kx h0) args s M (6 * M) (fun q => z0 ≤ q)) 0 (bX6_matches_0 M Kn Kx h0 K6) := by
  obtain ⟨hx, hb, hml, hown, hts, -⟩ := id C
  unfold bX6_matches_0
  refine k_iconst hx hb dX6_matches_0 (by decide) ?_
  refine k_istore hx hb dX6_matches_1 ?_
  refine k_iconst hx hb dX6_matches_3 (by decide) ?_
  refine k_istore hx hb dX6_matches_4 ?_
  exact hK6
set_option maxRecDepth 20000 in
theorem uX6_matches {l : Launch} {z0 b N : Nat} {D : va_G} {cA : Nat → ClassId} (hlt : l.stackTraces = false) (HX6_isMatch : Sem l z0 b N D cA yX6_isMatch cX6_isMatch 6 (some .boolean) 5 112 5 zno tX6_isMatch) (spec : ∀ (M : Nat) (a : List Value) (h : ZH) (Kn : Option Value → ZH → Prop) (Kx : Nat → Prop), zok 4 a = true → tX6_matches a h Kn → ∀ (A : Nat → ZK ZH), (∀ ls st h', bX6_matches_6 M Kn Kx h (A 6) ls st h' → A 6 ls st h') → bX6_matches_0 M Kn Kx h (A 6) (zE 6 a) [] h) : Sem l z0 b N D cA yX6_matches cX6_matches 6 (some .int) 6 137 4 zno tX6_matches :=
  sem_of hlt (by decide +kernel) (by decide) (fun p e s m args below meth c M a h Kn Kx hok hX hN C hr htab => sX6_matches_0 C htab hr HX6_isMatch (fun _ _ _ q => q) _ _ _ (spec M a h Kn Kx hok (hN (fun _ h9 => h9)) (fun pc => AW p l e (zRm 6 M 137) s m args below meth c 6 z0 b (zI z0 b N D cA s) (fun _ => (0, 0)) (vx_MQ below (zQn z0 b N D cA Kn) (zXn z0 b N D cA Kx h) args s M (6 * M) (fun q => z0 ≤ q)) pc) (fun ls st h' hq => sX6_matches_6 C htab hr HX6_isMatch (fun _ _ _ q => q) ls st h' hq)))
set_option maxRecDepth 20000 in
theorem sX6_count_33 {l : Launch} {z0 b N M : Nat} {D : va_G} {cA : Nat → ClassId} {p : Program} {e : Env} {s : State} {m : MethodId} {args : Array Value} {below : List Frame} {meth : Method} {c : Code} {Kn : Option Value → ZH → Prop} {Kx : Nat → Prop} {h0 : ZH} (C : zCx p l (zRm 7 M 162) s m args meth c cX6_count 4 RX6 z0 D cA M) (htab : ∀ x ∈ c.exceptionTable.toList, False) (hr : meth.sig.returnType = (some .int)) (HX6_areSets : Sem l z0 b N D cA yX6_areSets cX6_areSets 5 (some .boolean) 1 22 4 zno tX6_areSets) (HX6_holds : Sem l z0 b N D cA yX6_holds cX6_holds 2 (some .boolean) 0 0 2 zno tX6_holds) (HX6_matches : Sem l z0 b N D cA yX6_matches cX6_matches 6 (some .int) 6 137 4 zno tX6_matches) : Snd p l e (zRm 7 M 162) s m args below meth c 4 z0 b (zI z0 b N D cA s) (fun _ => (0, 0)) (vx_MQ below (zQn z0 b N D cA Kn) (zXn z0 b N D cA Kx h0) args s M (6 * M) (fun q => z0 ≤ q)) 33 (bX6_count_33 M Kn Kx h0) := by
  obtain ⟨hx, hb, hml, hown, hts, -⟩ := id C
  unfold bX6_count_33
  exact k_ret C hr dX6_count_33
set_option maxRecDepth 20000 in
theorem sX6_count_16 {l : Launch} {z0 b N M : Nat} {D : va_G} {cA : Nat → ClassId} {p : Program} {e : Env} {s : State} {m : MethodId} {args : Array Value} {below : List Frame} {meth : Method} {c : Code} {Kn : Option Value → ZH → Prop} {Kx : Nat → Prop} {h0 : ZH} (C : zCx p l (zRm 7 M 162) s m args meth c cX6_count 4 RX6 z0 D cA M) (htab : ∀ x ∈ c.exceptionTable.toList, False) (hr : meth.sig.returnType = (some .int)) (HX6_areSets : Sem l z0 b N D cA yX6_areSets cX6_areSets 5 (some .boolean) 1 22 4 zno tX6_areSets) (HX6_holds : Sem l z0 b N D cA yX6_holds cX6_holds 2 (some .boolean) 0 0 2 zno tX6_holds) (HX6_matches : Sem l z0 b N D cA yX6_matches cX6_matches 6 (some .int) 6 137 4 zno tX6_matches) : Snd p l e (zRm 7 M 162) s m args below meth c 4 z0 b (zI z0 b N D cA s) (fun _ => (0, 0)) (vx_MQ below (zQn z0 b N D cA Kn) (zXn z0 b N D cA Kx h0) args s M (6 * M) (fun q => z0 ≤ q)) 16 (bX6_count_16 M Kn Kx h0) := by
  obtain ⟨hx, hb, hml, hown, hts, -⟩ := id C
  unfold bX6_count_16
  refine k_callV1 C htab (ci := 6) (Tf := TX6) (Nf := 20) (Cn := RX6) rfl HX6_holds rfl zlX6_78 zmX6_holds zvX6_holds ziX6 zcX6_holds (by decide +kernel) ⟨Nat.le_of_ble_eq_true rfl, Nat.le_of_ble_eq_true rfl⟩ dX6_count_16 ?_
  refine k_if_eq (tgt := 32) hx hb dX6_count_19 (by decide) ?_ ?_
  · refine k_iconst hx hb dX6_count_32 (by decide) ?_
    exact sX6_count_33 C htab hr HX6_areSets HX6_holds HX6_matches
  · refine k_aload_n hx hb dX6_count_22 rfl ?_
    refine k_iload_n hx hb dX6_count_23 rfl ?_
    refine k_iload_n hx hb dX6_count_24 rfl ?_
    refine k_iload_n hx hb dX6_count_25 rfl ?_
    refine k_callV3 C htab (ci := 6) (Tf := TX6) (Nf := 20) (Cn := RX6) rfl HX6_matches rfl zlX6_168 zmX6_matches zvX6_matches ziX6 zcX6_matches (by decide +kernel) ⟨Nat.le_of_ble_eq_true rfl, Nat.le_of_ble_eq_true rfl⟩ dX6_count_26 ?_
    refine k_goto (tgt := 33) hx hb dX6_count_29 (by decide) ?_
    exact sX6_count_33 C htab hr HX6_areSets HX6_holds HX6_matches
set_option maxRecDepth 20000 in
theorem sX6_count_0 {l : Launch} {z0 b N M : Nat} {D : va_G} {cA : Nat → ClassId} {p : Program} {e : Env} {s : State} {m : MethodId} {args : Array Value} {below : List Frame} {meth : Method} {c : Code} {Kn : Option Value → ZH → Prop} {Kx : Nat → Prop} {h0 : ZH} (C : zCx p l (zRm 7 M 162) s m args meth c cX6_count 4 RX6 z0 D cA M) (htab : ∀ x ∈ c.exceptionTable.toList, False) (hr : meth.sig.returnType = (some .int)) (HX6_areSets : Sem l z0 b N D cA yX6_areSets cX6_areSets 5 (some .boolean) 1 22 4 zno tX6_areSets) (HX6_holds : Sem l z0 b N D cA yX6_holds cX6_holds 2 (some .boolean) 0 0 2 zno tX6_holds) (HX6_matches : Sem l z0 b N D cA yX6_matches cX6_matches 6 (some .int) 6 137 4 zno tX6_matches) : Snd p l e (zRm 7 M 162) s m args below meth c 4 z0 b (zI z0 b N D cA s) (fun _ => (0, 0)) (vx_MQ below (zQn z0 b N D cA Kn) (zXn z0 b N D cA Kx h0) args s M (6 * M) (fun q => z0 ≤ q)) 0 (bX6_count_0 M Kn Kx h0) := by
  obtain ⟨hx, hb, hml, hown, hts, -⟩ := id C
  unfold bX6_count_0
  refine k_aload_n hx hb dX6_count_0 rfl ?_
  refine k_aload_n hx hb dX6_count_1 rfl ?_
  refine k_iload_n hx hb dX6_count_2 rfl ?_
  refine k_iload_n hx hb dX6_count_3 rfl ?_
  refine k_iload_n hx hb dX6_count_4 rfl ?_
  refine k_callV3 C htab (ci := 6) (Tf := TX6) (Nf := 20) (Cn := RX6) rfl HX6_areSets rfl zlX6_165 zmX6_areSets zvX6_areSets ziX6 zcX6_areSets (by decide +kernel) ⟨Nat.le_of_ble_eq_true rfl, Nat.le_of_ble_eq_true rfl⟩ dX6_count_5 ?_
  refine k_if_eq (tgt := 15) hx hb dX6_count_8 (by decide) ?_ ?_
  · refine k_iconst hx hb dX6_count_15 (by decide) ?_
    exact sX6_count_16 C htab hr HX6_areSets HX6_holds HX6_matches
  · refine k_iconst hx hb dX6_count_11 (by decide) ?_
    refine k_goto (tgt := 16) hx hb dX6_count_12 (by decide) ?_
    exact sX6_count_16 C htab hr HX6_areSets HX6_holds HX6_matches
set_option maxRecDepth 20000 in
theorem uX6_count {l : Launch} {z0 b N : Nat} {D : va_G} {cA : Nat → ClassId} (hlt : l.stackTraces = false) (HX6_areSets : Sem l z0 b N D cA yX6_areSets cX6_areSets 5 (some .boolean) 1 22 4 zno tX6_areSets) (HX6_holds : Sem l z0 b N D cA yX6_holds cX6_holds 2 (some .boolean) 0 0 2 zno tX6_holds) (HX6_matches : Sem l z0 b N D cA yX6_matches cX6_matches 6 (some .int) 6 137 4 zno tX6_matches) (spec : ∀ (M : Nat) (a : List Value) (h : ZH) (Kn : Option Value → ZH → Prop) (Kx : Nat → Prop), zok 4 a = true → tX6_count a h Kn → bX6_count_0 M Kn Kx h (zE 4 a) [] h) : Sem l z0 b N D cA yX6_count cX6_count 4 (some .int) 7 162 4 zno tX6_count :=
  sem_of hlt (by decide +kernel) (by decide) (fun p e s m args below meth c M a h Kn Kx hok hX hN C hr htab => sX6_count_0 C htab hr HX6_areSets HX6_holds HX6_matches _ _ _ (spec M a h Kn Kx hok (hN (fun _ h9 => h9))))
set_option maxRecDepth 20000 in
theorem sX6_match_97 {l : Launch} {z0 b N M : Nat} {D : va_G} {cA : Nat → ClassId} {p : Program} {e : Env} {s : State} {m : MethodId} {args : Array Value} {below : List Frame} {meth : Method} {c : Code} {Kn : Option Value → ZH → Prop} {Kx : Nat → Prop} {h0 : ZH} {K59 : ZK ZH} (C : zCx p l (zRm 7 M 162) s m args meth c cX6_match 8 RX6 z0 D cA M) (htab : ∀ x ∈ c.exceptionTable.toList, False) (hr : meth.sig.returnType = (some .int)) (HX6_areSets : Sem l z0 b N D cA yX6_areSets cX6_areSets 5 (some .boolean) 1 22 4 zno tX6_areSets) (HX6_matches : Sem l z0 b N D cA yX6_matches cX6_matches 6 (some .int) 6 137 4 zno tX6_matches) (HX6_holds : Sem l z0 b N D cA yX6_holds cX6_holds 2 (some .boolean) 0 0 2 zno tX6_holds) (HX6_isMatch : Sem l z0 b N D cA yX6_isMatch cX6_isMatch 6 (some .boolean) 5 112 5 zno tX6_isMatch) (hK59 : Snd p l e (zRm 7 M 162) s m args below meth c 8 z0 b (zI z0 b N D cA s) (fun _ => (0, 0)) (vx_MQ below (zQn z0 b N D cA Kn) (zXn z0 b N D cA Kx h0) args s M (6 * M) (fun q => z0 ≤ q)) 59 K59) : Snd p l e (zRm 7 M 162) s m args below meth c 8 z0 b (zI z0 b N D cA s) (fun _ => (0, 0)) (vx_MQ below (zQn z0 b N D cA Kn) (zXn z0 b N D cA Kx h0) args s M (6 * M) (fun q => z0 ≤ q)) 97 (bX6_match_97 M Kn Kx h0 K59) := by
  obtain ⟨hx, hb, hml, hown, hts, -⟩ := id C
  unfold bX6_match_97
  refine k_isub hx hb dX6_match_97 ?_
  refine k_istore hx hb dX6_match_98 ?_
  refine k_iinc hx hb dX6_match_100 (by decide) ?_
  refine k_goto (tgt := 59) hx hb dX6_match_103 (by decide) ?_
  exact hK59
set_option maxRecDepth 20000 in
theorem sX6_match_77 {l : Launch} {z0 b N M : Nat} {D : va_G} {cA : Nat → ClassId} {p : Program} {e : Env} {s : State} {m : MethodId} {args : Array Value} {below : List Frame} {meth : Method} {c : Code} {Kn : Option Value → ZH → Prop} {Kx : Nat → Prop} {h0 : ZH} {K59 : ZK ZH} (C : zCx p l (zRm 7 M 162) s m args meth c cX6_match 8 RX6 z0 D cA M) (htab : ∀ x ∈ c.exceptionTable.toList, False) (hr : meth.sig.returnType = (some .int)) (HX6_areSets : Sem l z0 b N D cA yX6_areSets cX6_areSets 5 (some .boolean) 1 22 4 zno tX6_areSets) (HX6_matches : Sem l z0 b N D cA yX6_matches cX6_matches 6 (some .int) 6 137 4 zno tX6_matches) (HX6_holds : Sem l z0 b N D cA yX6_holds cX6_holds 2 (some .boolean) 0 0 2 zno tX6_holds) (HX6_isMatch : Sem l z0 b N D cA yX6_isMatch cX6_isMatch 6 (some .boolean) 5 112 5 zno tX6_isMatch) (hK59 : Snd p l e (zRm 7 M 162) s m args below meth c 8 z0 b (zI z0 b N D cA s) (fun _ => (0, 0)) (vx_MQ below (zQn z0 b N D cA Kn) (zXn z0 b N D cA Kx h0) args s M (6 * M) (fun q => z0 ≤ q)) 59 K59) : Snd p l e (zRm 7 M 162) s m args below meth c 8 z0 b (zI z0 b N D cA s) (fun _ => (0, 0)) (vx_MQ below (zQn z0 b N D cA Kn) (zXn z0 b N D cA Kx h0) args s M (6 * M) (fun q => z0 ≤ q)) 77 (bX6_match_77 M Kn Kx h0 K59) := by
  obtain ⟨hx, hb, hml, hown, hts, -⟩ := id C
  unfold bX6_match_77
  refine k_iload hx hb dX6_match_77 ?_
  refine k_aload_n hx hb dX6_match_79 rfl ?_
  refine k_iload hx hb dX6_match_80 ?_
  refine k_iload_n hx hb dX6_match_82 rfl ?_
  refine k_iload_n hx hb dX6_match_83 rfl ?_
  refine k_iload hx hb dX6_match_84 ?_
  refine k_callV4 C htab (ci := 6) (Tf := TX6) (Nf := 20) (Cn := RX6) rfl HX6_isMatch rfl zlX6_161 zmX6_isMatch zvX6_isMatch ziX6 zcX6_isMatch (by decide +kernel) ⟨Nat.le_of_ble_eq_true rfl, Nat.le_of_ble_eq_true rfl⟩ dX6_match_86 ?_
  refine k_if_eq (tgt := 96) hx hb dX6_match_89 (by decide) ?_ ?_
  · refine k_iconst hx hb dX6_match_96 (by decide) ?_
    exact sX6_match_97 C htab hr HX6_areSets HX6_matches HX6_holds HX6_isMatch hK59
  · refine k_iconst hx hb dX6_match_92 (by decide) ?_
    refine k_goto (tgt := 97) hx hb dX6_match_93 (by decide) ?_
    exact sX6_match_97 C htab hr HX6_areSets HX6_matches HX6_holds HX6_isMatch hK59
set_option maxRecDepth 20000 in
theorem sX6_match_59 {l : Launch} {z0 b N M : Nat} {D : va_G} {cA : Nat → ClassId} {p : Program} {e : Env} {s : State} {m : MethodId} {args : Array Value} {below : List Frame} {meth : Method} {c : Code} {Kn : Option Value → ZH → Prop} {Kx : Nat → Prop} {h0 : ZH} {K59 : ZK ZH} (C : zCx p l (zRm 7 M 162) s m args meth c cX6_match 8 RX6 z0 D cA M) (htab : ∀ x ∈ c.exceptionTable.toList, False) (hr : meth.sig.returnType = (some .int)) (HX6_areSets : Sem l z0 b N D cA yX6_areSets cX6_areSets 5 (some .boolean) 1 22 4 zno tX6_areSets) (HX6_matches : Sem l z0 b N D cA yX6_matches cX6_matches 6 (some .int) 6 137 4 zno tX6_matches) (HX6_holds : Sem l z0 b N D cA yX6_holds cX6_holds 2 (some .boolean) 0 0 2 zno tX6_holds) (HX6_isMatch : Sem l z0 b N D cA yX6_isMatch cX6_isMatch 6 (some .boolean) 5 112 5 zno tX6_isMatch) (hK59 : Snd p l e (zRm 7 M 162) s m args below meth c 8 z0 b (zI z0 b N D cA s) (fun _ => (0, 0)) (vx_MQ below (zQn z0 b N D cA Kn) (zXn z0 b N D cA Kx h0) args s M (6 * M) (fun q => z0 ≤ q)) 59 K59) : Snd p l e (zRm 7 M 162) s m args below meth c 8 z0 b (zI z0 b N D cA s) (fun _ => (0, 0)) (vx_MQ below (zQn z0 b N D cA Kn) (zXn z0 b N D cA Kx h0) args s M (6 * M) (fun q => z0 ≤ q)) 59 (bX6_match_59 M Kn Kx h0 K59) := by
  obtain ⟨hx, hb, hml, hown, hts, -⟩ := id C
  unfold bX6_match_59
  refine k_iload hx hb dX6_match_59 ?_
  refine k_if_gt (tgt := 77) hx hb dX6_match_61 (by decide) ?_ ?_
  · exact sX6_match_77 C htab hr HX6_areSets HX6_matches HX6_holds HX6_isMatch hK59
  · refine k_aload_n hx hb dX6_match_64 rfl ?_
    refine k_iload hx hb dX6_match_65 ?_
    refine k_iload_n hx hb dX6_match_67 rfl ?_
    refine k_iload_n hx hb dX6_match_68 rfl ?_
    refine k_iload hx hb dX6_match_69 ?_
    refine k_callV4 C htab (ci := 6) (Tf := TX6) (Nf := 20) (Cn := RX6) rfl HX6_isMatch rfl zlX6_161 zmX6_isMatch zvX6_isMatch ziX6 zcX6_isMatch (by decide +kernel) ⟨Nat.le_of_ble_eq_true rfl, Nat.le_of_ble_eq_true rfl⟩ dX6_match_71 ?_
    refine k_if_ne (tgt := 106) hx hb dX6_match_74 (by decide) ?_ ?_
    · refine k_iload hx hb dX6_match_106 ?_
      exact k_ret C hr dX6_match_108
    · exact sX6_match_77 C htab hr HX6_areSets HX6_matches HX6_holds HX6_isMatch hK59
set_option maxRecDepth 20000 in
theorem sX6_match_45 {l : Launch} {z0 b N M : Nat} {D : va_G} {cA : Nat → ClassId} {p : Program} {e : Env} {s : State} {m : MethodId} {args : Array Value} {below : List Frame} {meth : Method} {c : Code} {Kn : Option Value → ZH → Prop} {Kx : Nat → Prop} {h0 : ZH} {K59 : ZK ZH} (C : zCx p l (zRm 7 M 162) s m args meth c cX6_match 8 RX6 z0 D cA M) (htab : ∀ x ∈ c.exceptionTable.toList, False) (hr : meth.sig.returnType = (some .int)) (HX6_areSets : Sem l z0 b N D cA yX6_areSets cX6_areSets 5 (some .boolean) 1 22 4 zno tX6_areSets) (HX6_matches : Sem l z0 b N D cA yX6_matches cX6_matches 6 (some .int) 6 137 4 zno tX6_matches) (HX6_holds : Sem l z0 b N D cA yX6_holds cX6_holds 2 (some .boolean) 0 0 2 zno tX6_holds) (HX6_isMatch : Sem l z0 b N D cA yX6_isMatch cX6_isMatch 6 (some .boolean) 5 112 5 zno tX6_isMatch) (hK59 : Snd p l e (zRm 7 M 162) s m args below meth c 8 z0 b (zI z0 b N D cA s) (fun _ => (0, 0)) (vx_MQ below (zQn z0 b N D cA Kn) (zXn z0 b N D cA Kx h0) args s M (6 * M) (fun q => z0 ≤ q)) 59 K59) : Snd p l e (zRm 7 M 162) s m args below meth c 8 z0 b (zI z0 b N D cA s) (fun _ => (0, 0)) (vx_MQ below (zQn z0 b N D cA Kn) (zXn z0 b N D cA Kx h0) args s M (6 * M) (fun q => z0 ≤ q)) 45 (bX6_match_45 M Kn Kx h0 K59) := by
  obtain ⟨hx, hb, hml, hown, hts, -⟩ := id C
  unfold bX6_match_45
  refine k_callV1 C htab (ci := 6) (Tf := TX6) (Nf := 20) (Cn := RX6) rfl HX6_holds rfl zlX6_78 zmX6_holds zvX6_holds ziX6 zcX6_holds (by decide +kernel) ⟨Nat.le_of_ble_eq_true rfl, Nat.le_of_ble_eq_true rfl⟩ dX6_match_45 ?_
  refine k_if_ne (tgt := 53) hx hb dX6_match_48 (by decide) ?_ ?_
  · refine k_iconst hx hb dX6_match_53 (by decide) ?_
    refine k_istore hx hb dX6_match_54 ?_
    refine k_iload_n hx hb dX6_match_56 rfl ?_
    refine k_istore hx hb dX6_match_57 ?_
    exact hK59
  · refine k_iconst hx hb dX6_match_51 (by decide) ?_
    exact k_ret C hr dX6_match_52
set_option maxRecDepth 20000 in
theorem sX6_match_0 {l : Launch} {z0 b N M : Nat} {D : va_G} {cA : Nat → ClassId} {p : Program} {e : Env} {s : State} {m : MethodId} {args : Array Value} {below : List Frame} {meth : Method} {c : Code} {Kn : Option Value → ZH → Prop} {Kx : Nat → Prop} {h0 : ZH} {K59 : ZK ZH} (C : zCx p l (zRm 7 M 162) s m args meth c cX6_match 8 RX6 z0 D cA M) (htab : ∀ x ∈ c.exceptionTable.toList, False) (hr : meth.sig.returnType = (some .int)) (HX6_areSets : Sem l z0 b N D cA yX6_areSets cX6_areSets 5 (some .boolean) 1 22 4 zno tX6_areSets) (HX6_matches : Sem l z0 b N D cA yX6_matches cX6_matches 6 (some .int) 6 137 4 zno tX6_matches) (HX6_holds : Sem l z0 b N D cA yX6_holds cX6_holds 2 (some .boolean) 0 0 2 zno tX6_holds) (HX6_isMatch : Sem l z0 b N D cA yX6_isMatch cX6_isMatch 6 (some .boolean) 5 112 5 zno tX6_isMatch) (hK59 : Snd p l e (zRm 7 M 162) s m args below meth c 8 z0 b (zI z0 b N D cA s) (fun _ => (0, 0)) (vx_MQ below (zQn z0 b N D cA Kn) (zXn z0 b N D cA Kx h0) args s M (6 * M) (fun q => z0 ≤ q)) 59 K59) : Snd p l e (zRm 7 M 162) s m args below meth c 8 z0 b (zI z0 b N D cA s) (fun _ => (0, 0)) (vx_MQ below (zQn z0 b N D cA Kn) (zXn z0 b N D cA Kx h0) args s M (6 * M) (fun q => z0 ≤ q)) 0 (bX6_match_0 M Kn Kx h0 K59) := by
  obtain ⟨hx, hb, hml, hown, hts, -⟩ := id C
  unfold bX6_match_0
  refine k_aload_n hx hb dX6_match_0 rfl ?_
  refine k_iload_n hx hb dX6_match_1 rfl ?_
  refine k_iload_n hx hb dX6_match_2 rfl ?_
  refine k_iload hx hb dX6_match_3 ?_
  refine k_callV3 C htab (ci := 6) (Tf := TX6) (Nf := 20) (Cn := RX6) rfl HX6_areSets rfl zlX6_165 zmX6_areSets zvX6_areSets ziX6 zcX6_areSets (by decide +kernel) ⟨Nat.le_of_ble_eq_true rfl, Nat.le_of_ble_eq_true rfl⟩ dX6_match_5 ?_
  refine k_istore hx hb dX6_match_8 ?_
  refine k_aload_n hx hb dX6_match_10 rfl ?_
  refine k_iload_n hx hb dX6_match_11 rfl ?_
  refine k_if_ge (tgt := 19) hx hb dX6_match_12 (by decide) ?_ ?_
  · refine k_iload hx hb dX6_match_19 ?_
    refine k_if_ne (tgt := 28) hx hb dX6_match_21 (by decide) ?_ ?_
    · refine k_iload_n hx hb dX6_match_28 rfl ?_
      refine k_aload_n hx hb dX6_match_29 rfl ?_
      refine k_iload_n hx hb dX6_match_30 rfl ?_
      refine k_iload_n hx hb dX6_match_31 rfl ?_
      refine k_iload hx hb dX6_match_32 ?_
      refine k_callV3 C htab (ci := 6) (Tf := TX6) (Nf := 20) (Cn := RX6) rfl HX6_matches rfl zlX6_168 zmX6_matches zvX6_matches ziX6 zcX6_matches (by decide +kernel) ⟨Nat.le_of_ble_eq_true rfl, Nat.le_of_ble_eq_true rfl⟩ dX6_match_34 ?_
      refine k_icmp_ge (tgt := 44) hx hb dX6_match_37 (by decide) ?_ ?_
      · refine k_iconst hx hb dX6_match_44 (by decide) ?_
        exact sX6_match_45 C htab hr HX6_areSets HX6_matches HX6_holds HX6_isMatch hK59
      · refine k_iconst hx hb dX6_match_40 (by decide) ?_
        refine k_goto (tgt := 45) hx hb dX6_match_41 (by decide) ?_
        exact sX6_match_45 C htab hr HX6_areSets HX6_matches HX6_holds HX6_isMatch hK59
    · refine k_iconst hx hb dX6_match_24 (by decide) ?_
      refine k_goto (tgt := 45) hx hb dX6_match_25 (by decide) ?_
      exact sX6_match_45 C htab hr HX6_areSets HX6_matches HX6_holds HX6_isMatch hK59
  · refine k_iconst hx hb dX6_match_15 (by decide) ?_
    refine k_goto (tgt := 45) hx hb dX6_match_16 (by decide) ?_
    exact sX6_match_45 C htab hr HX6_areSets HX6_matches HX6_holds HX6_isMatch hK59
set_option maxRecDepth 20000 in
theorem uX6_match {l : Launch} {z0 b N : Nat} {D : va_G} {cA : Nat → ClassId} (hlt : l.stackTraces = false) (HX6_areSets : Sem l z0 b N D cA yX6_areSets cX6_areSets 5 (some .boolean) 1 22 4 zno tX6_areSets) (HX6_matches : Sem l z0 b N D cA yX6_matches cX6_matches 6 (some .int) 6 137 4 zno tX6_matches) (HX6_holds : Sem l z0 b N D cA yX6_holds cX6_holds 2 (some .boolean) 0 0 2 zno tX6_holds) (HX6_isMatch : Sem l z0 b N D cA yX6_isMatch cX6_isMatch 6 (some .boolean) 5 112 5 zno tX6_isMatch) (spec : ∀ (M : Nat) (a : List Value) (h : ZH) (Kn : Option Value → ZH → Prop) (Kx : Nat → Prop), zok 5 a = true → tX6_match a h Kn → ∀ (A : Nat → ZK ZH), (∀ ls st h', bX6_match_59 M Kn Kx h (A 59) ls st h' → A 59 ls st h') → bX6_match_0 M Kn Kx h (A 59) (zE 8 a) [] h) : Sem l z0 b N D cA yX6_match cX6_match 8 (some .int) 7 162 5 zno tX6_match :=
  sem_of hlt (by decide +kernel) (by decide) (fun p e s m args below meth c M a h Kn Kx hok hX hN C hr htab => sX6_match_0 C htab hr HX6_areSets HX6_matches HX6_holds HX6_isMatch (fun _ _ _ q => q) _ _ _ (spec M a h Kn Kx hok (hN (fun _ h9 => h9)) (fun pc => AW p l e (zRm 7 M 162) s m args below meth c 8 z0 b (zI z0 b N D cA s) (fun _ => (0, 0)) (vx_MQ below (zQn z0 b N D cA Kn) (zXn z0 b N D cA Kx h) args s M (6 * M) (fun q => z0 ≤ q)) pc) (fun ls st h' hq => sX6_match_59 C htab hr HX6_areSets HX6_matches HX6_holds HX6_isMatch (fun _ _ _ q => q) ls st h' hq)))
