theorem zwL_type : Cond.codeWith yL_type cL_type 4 (some .int) [(0, 9, 12, 13), (0, 9, 15, 15)] ∈ zWS := zws_mem 226 (by decide +kernel) rfl
theorem zsL_type : Cond.static yL_type ∈ zWS := zws_mem 225 (by decide +kernel) rfl
theorem znL_13 : Cond.classLink RL 13 "java/lang/IllegalArgumentException" ∈ zWS := zws_mem 227 (by decide +kernel) rfl
theorem znL_15 : Cond.classLink RL 15 "java/lang/IllegalStateException" ∈ zWS := zws_mem 228 (by decide +kernel) rfl
theorem zlL_7 : Cond.methodLink RL 7 yX5_type ∈ zWS := zws_mem 229 (by decide +kernel) rfl
theorem zmX5_type : Cond.instanceMethod yX5_type ∈ zWS := zws_mem 230 (by decide +kernel) rfl
theorem zvX5_type : Cond.selects RX5 yX5_type yX5_type ∈ zWS := zws_mem 231 (by decide +kernel) rfl
theorem zcX5_type : Cond.code yX5_type cX5_type 2 (some .int) ∈ zWS := zws_mem 232 (by decide +kernel) rfl
theorem zwL_enter : Cond.codeWith yL_enter cL_enter 3 (some .int) [(0, 8, 11, 15)] ∈ zWS := zws_mem 326 (by decide +kernel) rfl
theorem zsL_enter : Cond.static yL_enter ∈ zWS := zws_mem 325 (by decide +kernel) rfl
theorem zlL_17 : Cond.methodLink RL 17 yX5_enter ∈ zWS := zws_mem 327 (by decide +kernel) rfl
theorem zmX5_enter : Cond.instanceMethod yX5_enter ∈ zWS := zws_mem 328 (by decide +kernel) rfl
theorem zvX5_enter : Cond.selects RX5 yX5_enter yX5_enter ∈ zWS := zws_mem 329 (by decide +kernel) rfl
theorem zcX5_enter : Cond.code yX5_enter cX5_enter 3 (some .int) ∈ zWS := zws_mem 330 (by decide +kernel) rfl
theorem zwL_letter : Cond.codeWith yL_letter cL_letter 5 (some .int) [(0, 10, 13, 25)] ∈ zWS := zws_mem 381 (by decide +kernel) rfl
theorem zsL_letter : Cond.static yL_letter ∈ zWS := zws_mem 380 (by decide +kernel) rfl
theorem znL_25 : Cond.classLink RL 25 "java/lang/IndexOutOfBoundsException" ∈ zWS := zws_mem 382 (by decide +kernel) rfl
theorem zlL_21 : Cond.methodLink RL 21 yX5_letter ∈ zWS := zws_mem 383 (by decide +kernel) rfl
theorem zmX5_letter : Cond.instanceMethod yX5_letter ∈ zWS := zws_mem 384 (by decide +kernel) rfl
theorem zvX5_letter : Cond.selects RX5 yX5_letter yX5_letter ∈ zWS := zws_mem 385 (by decide +kernel) rfl
theorem zcX5_letter : Cond.code yX5_letter cX5_letter 3 (some .char) ∈ zWS := zws_mem 386 (by decide +kernel) rfl
theorem zwL_addThing : Cond.codeWith yL_addThing cL_addThing 3 (some .int) [(0, 8, 11, 15)] ∈ zWS := zws_mem 411 (by decide +kernel) rfl
theorem zsL_addThing : Cond.static yL_addThing ∈ zWS := zws_mem 410 (by decide +kernel) rfl
theorem zlL_27 : Cond.methodLink RL 27 yX5_addThing ∈ zWS := zws_mem 412 (by decide +kernel) rfl
theorem zmX5_addThing : Cond.instanceMethod yX5_addThing ∈ zWS := zws_mem 413 (by decide +kernel) rfl
theorem zvX5_addThing : Cond.selects RX5 yX5_addThing yX5_addThing ∈ zWS := zws_mem 414 (by decide +kernel) rfl
theorem zcX5_addThing : Cond.code yX5_addThing cX5_addThing 1 (some .int) ∈ zWS := zws_mem 415 (by decide +kernel) rfl
theorem zwL_tag : Cond.codeWith yL_tag cL_tag 5 (some .int) [(0, 17, 20, 25)] ∈ zWS := zws_mem 419 (by decide +kernel) rfl
theorem zsL_tag : Cond.static yL_tag ∈ zWS := zws_mem 418 (by decide +kernel) rfl
theorem zlL_30 : Cond.methodLink RL 30 yX5_tag ∈ zWS := zws_mem 420 (by decide +kernel) rfl
theorem zmX5_tag : Cond.instanceMethod yX5_tag ∈ zWS := zws_mem 421 (by decide +kernel) rfl
theorem zvX5_tag : Cond.selects RX5 yX5_tag yX5_tag ∈ zWS := zws_mem 422 (by decide +kernel) rfl
theorem zcX5_tag : Cond.code yX5_tag cX5_tag 3 (some .boolean) ∈ zWS := zws_mem 423 (by decide +kernel) rfl
theorem zwL_untag : Cond.codeWith yL_untag cL_untag 5 (some .int) [(0, 17, 20, 25)] ∈ zWS := zws_mem 465 (by decide +kernel) rfl
theorem zsL_untag : Cond.static yL_untag ∈ zWS := zws_mem 464 (by decide +kernel) rfl
theorem zlL_34 : Cond.methodLink RL 34 yX5_untag ∈ zWS := zws_mem 466 (by decide +kernel) rfl
theorem zmX5_untag : Cond.instanceMethod yX5_untag ∈ zWS := zws_mem 467 (by decide +kernel) rfl
theorem zvX5_untag : Cond.selects RX5 yX5_untag yX5_untag ∈ zWS := zws_mem 468 (by decide +kernel) rfl
theorem zcX5_untag : Cond.code yX5_untag cX5_untag 3 (some .boolean) ∈ zWS := zws_mem 469 (by decide +kernel) rfl
theorem zwL_mass : Cond.codeWith yL_mass cL_mass 6 (some .int) [(0, 12, 15, 25), (0, 12, 19, 13)] ∈ zWS := zws_mem 472 (by decide +kernel) rfl
theorem zsL_mass : Cond.static yL_mass ∈ zWS := zws_mem 471 (by decide +kernel) rfl
theorem zlL_37 : Cond.methodLink RL 37 yX5_mass ∈ zWS := zws_mem 473 (by decide +kernel) rfl
theorem zmX5_mass : Cond.instanceMethod yX5_mass ∈ zWS := zws_mem 474 (by decide +kernel) rfl
theorem zvX5_mass : Cond.selects RX5 yX5_mass yX5_mass ∈ zWS := zws_mem 475 (by decide +kernel) rfl
theorem zcX5_mass : Cond.code yX5_mass cX5_mass 7 (some .int) ∈ zWS := zws_mem 476 (by decide +kernel) rfl
theorem zwL_undo : Cond.codeWith yL_undo cL_undo 3 (some .int) [(0, 8, 11, 15)] ∈ zWS := zws_mem 485 (by decide +kernel) rfl
theorem zsL_undo : Cond.static yL_undo ∈ zWS := zws_mem 484 (by decide +kernel) rfl
theorem zlL_41 : Cond.methodLink RL 41 yX5_undo ∈ zWS := zws_mem 486 (by decide +kernel) rfl
theorem zmX5_undo : Cond.instanceMethod yX5_undo ∈ zWS := zws_mem 487 (by decide +kernel) rfl
theorem zvX5_undo : Cond.selects RX5 yX5_undo yX5_undo ∈ zWS := zws_mem 488 (by decide +kernel) rfl
theorem zcX5_undo : Cond.code yX5_undo cX5_undo 2 (some .int) ∈ zWS := zws_mem 489 (by decide +kernel) rfl
theorem zwL_hand : Cond.codeWith yL_hand cL_hand 4 (some .int) [(0, 9, 12, 25)] ∈ zWS := zws_mem 498 (by decide +kernel) rfl
theorem zsL_hand : Cond.static yL_hand ∈ zWS := zws_mem 497 (by decide +kernel) rfl
theorem zlL_44 : Cond.methodLink RL 44 yX5_hand ∈ zWS := zws_mem 499 (by decide +kernel) rfl
theorem zmX5_hand : Cond.instanceMethod yX5_hand ∈ zWS := zws_mem 500 (by decide +kernel) rfl
theorem zvX5_hand : Cond.selects RX5 yX5_hand yX5_hand ∈ zWS := zws_mem 501 (by decide +kernel) rfl
theorem zcX5_hand : Cond.code yX5_hand cX5_hand 2 (some .int) ∈ zWS := zws_mem 502 (by decide +kernel) rfl
theorem zwL_ask : Cond.codeWith yL_ask cL_ask 6 (some .int) [(0, 12, 15, 25), (0, 12, 19, 13), (0, 12, 23, 15)] ∈ zWS := zws_mem 505 (by decide +kernel) rfl
theorem zsL_ask : Cond.static yL_ask ∈ zWS := zws_mem 504 (by decide +kernel) rfl
theorem zlL_48 : Cond.methodLink RL 48 yX5_ask ∈ zWS := zws_mem 506 (by decide +kernel) rfl
theorem zmX5_ask : Cond.instanceMethod yX5_ask ∈ zWS := zws_mem 507 (by decide +kernel) rfl
theorem zvX5_ask : Cond.selects RX5 yX5_ask yX5_ask ∈ zWS := zws_mem 508 (by decide +kernel) rfl
theorem zcX5_ask : Cond.code yX5_ask cX5_ask 4 (some .int) ∈ zWS := zws_mem 509 (by decide +kernel) rfl
theorem zwL_vote : Cond.codeWith yL_vote cL_vote 6 (some .int) [(0, 12, 15, 25), (0, 12, 19, 13), (0, 12, 23, 15)] ∈ zWS := zws_mem 519 (by decide +kernel) rfl
theorem zsL_vote : Cond.static yL_vote ∈ zWS := zws_mem 518 (by decide +kernel) rfl
theorem zlL_51 : Cond.methodLink RL 51 yX5_vote ∈ zWS := zws_mem 520 (by decide +kernel) rfl
theorem zmX5_vote : Cond.instanceMethod yX5_vote ∈ zWS := zws_mem 521 (by decide +kernel) rfl
theorem zvX5_vote : Cond.selects RX5 yX5_vote yX5_vote ∈ zWS := zws_mem 522 (by decide +kernel) rfl
theorem zcX5_vote : Cond.code yX5_vote cX5_vote 4 (some .int) ∈ zWS := zws_mem 523 (by decide +kernel) rfl
theorem zwL_standing : Cond.codeWith yL_standing cL_standing 4 (some .int) [(0, 9, 12, 25)] ∈ zWS := zws_mem 569 (by decide +kernel) rfl
theorem zsL_standing : Cond.static yL_standing ∈ zWS := zws_mem 568 (by decide +kernel) rfl
theorem zlL_55 : Cond.methodLink RL 55 yX5_standing ∈ zWS := zws_mem 570 (by decide +kernel) rfl
theorem zmX5_standing : Cond.instanceMethod yX5_standing ∈ zWS := zws_mem 571 (by decide +kernel) rfl
theorem zvX5_standing : Cond.selects RX5 yX5_standing yX5_standing ∈ zWS := zws_mem 572 (by decide +kernel) rfl
theorem zcX5_standing : Cond.code yX5_standing cX5_standing 2 (some .int) ∈ zWS := zws_mem 573 (by decide +kernel) rfl
theorem zwL_couldPass : Cond.codeWith yL_couldPass cL_couldPass 4 (some .int) [(0, 16, 19, 25)] ∈ zWS := zws_mem 576 (by decide +kernel) rfl
theorem zsL_couldPass : Cond.static yL_couldPass ∈ zWS := zws_mem 575 (by decide +kernel) rfl
theorem zlL_58 : Cond.methodLink RL 58 yX5_couldPass ∈ zWS := zws_mem 577 (by decide +kernel) rfl
theorem zmX5_couldPass : Cond.instanceMethod yX5_couldPass ∈ zWS := zws_mem 578 (by decide +kernel) rfl
theorem zvX5_couldPass : Cond.selects RX5 yX5_couldPass yX5_couldPass ∈ zWS := zws_mem 579 (by decide +kernel) rfl
theorem zcX5_couldPass : Cond.code yX5_couldPass cX5_couldPass 2 (some .boolean) ∈ zWS := zws_mem 580 (by decide +kernel) rfl
theorem zwL_clashes : Cond.codeWith yL_clashes cL_clashes 4 (some .int) [(0, 9, 12, 25)] ∈ zWS := zws_mem 587 (by decide +kernel) rfl
theorem zsL_clashes : Cond.static yL_clashes ∈ zWS := zws_mem 586 (by decide +kernel) rfl
theorem zlL_62 : Cond.methodLink RL 62 yX5_clashes ∈ zWS := zws_mem 588 (by decide +kernel) rfl
theorem zmX5_clashes : Cond.instanceMethod yX5_clashes ∈ zWS := zws_mem 589 (by decide +kernel) rfl
theorem zvX5_clashes : Cond.selects RX5 yX5_clashes yX5_clashes ∈ zWS := zws_mem 590 (by decide +kernel) rfl
theorem zcX5_clashes : Cond.code yX5_clashes cX5_clashes 4 (some .int) ∈ zWS := zws_mem 591 (by decide +kernel) rfl
theorem zwL_alias : Cond.codeWith yL_alias cL_alias 4 (some .int) [(0, 9, 12, 25)] ∈ zWS := zws_mem 602 (by decide +kernel) rfl
theorem zsL_alias : Cond.static yL_alias ∈ zWS := zws_mem 601 (by decide +kernel) rfl
theorem zlL_65 : Cond.methodLink RL 65 yX5_alias ∈ zWS := zws_mem 603 (by decide +kernel) rfl
theorem zmX5_alias : Cond.instanceMethod yX5_alias ∈ zWS := zws_mem 604 (by decide +kernel) rfl
theorem zvX5_alias : Cond.selects RX5 yX5_alias yX5_alias ∈ zWS := zws_mem 605 (by decide +kernel) rfl
theorem zcX5_alias : Cond.code yX5_alias cX5_alias 2 (some .int) ∈ zWS := zws_mem 606 (by decide +kernel) rfl
theorem zwL_end : Cond.codeWith yL_end cL_end 4 (some .int) [(0, 9, 12, 25)] ∈ zWS := zws_mem 609 (by decide +kernel) rfl
theorem zsL_end : Cond.static yL_end ∈ zWS := zws_mem 608 (by decide +kernel) rfl
theorem zlL_68 : Cond.methodLink RL 68 yX5_end ∈ zWS := zws_mem 610 (by decide +kernel) rfl
theorem zmX5_end : Cond.instanceMethod yX5_end ∈ zWS := zws_mem 611 (by decide +kernel) rfl
theorem zvX5_end : Cond.selects RX5 yX5_end yX5_end ∈ zWS := zws_mem 612 (by decide +kernel) rfl
theorem zcX5_end : Cond.code yX5_end cX5_end 2 (some .int) ∈ zWS := zws_mem 613 (by decide +kernel) rfl
theorem zwL_implies : Cond.codeWith yL_implies cL_implies 5 (some .int) [(0, 17, 20, 25)] ∈ zWS := zws_mem 616 (by decide +kernel) rfl
theorem zsL_implies : Cond.static yL_implies ∈ zWS := zws_mem 615 (by decide +kernel) rfl
theorem zlL_71 : Cond.methodLink RL 71 yX5_implies ∈ zWS := zws_mem 617 (by decide +kernel) rfl
theorem zmX5_implies : Cond.instanceMethod yX5_implies ∈ zWS := zws_mem 618 (by decide +kernel) rfl
theorem zvX5_implies : Cond.selects RX5 yX5_implies yX5_implies ∈ zWS := zws_mem 619 (by decide +kernel) rfl
theorem zcX5_implies : Cond.code yX5_implies cX5_implies 3 (some .boolean) ∈ zWS := zws_mem 620 (by decide +kernel) rfl
theorem zwL_shown : Cond.codeWith yL_shown cL_shown 4 (some .int) [(0, 9, 12, 25)] ∈ zWS := zws_mem 623 (by decide +kernel) rfl
theorem zsL_shown : Cond.static yL_shown ∈ zWS := zws_mem 622 (by decide +kernel) rfl
theorem zlL_74 : Cond.methodLink RL 74 yX5_shown ∈ zWS := zws_mem 624 (by decide +kernel) rfl
theorem zmX5_shown : Cond.instanceMethod yX5_shown ∈ zWS := zws_mem 625 (by decide +kernel) rfl
theorem zvX5_shown : Cond.selects RX5 yX5_shown yX5_shown ∈ zWS := zws_mem 626 (by decide +kernel) rfl
theorem zcX5_shown : Cond.code yX5_shown cX5_shown 2 (some .int) ∈ zWS := zws_mem 627 (by decide +kernel) rfl
theorem zwL_shownByHand : Cond.codeWith yL_shownByHand cL_shownByHand 4 (some .int) [(0, 9, 12, 25)] ∈ zWS := zws_mem 634 (by decide +kernel) rfl
theorem zsL_shownByHand : Cond.static yL_shownByHand ∈ zWS := zws_mem 633 (by decide +kernel) rfl
theorem zlL_77 : Cond.methodLink RL 77 yX5_shownByHand ∈ zWS := zws_mem 635 (by decide +kernel) rfl
theorem zmX5_shownByHand : Cond.instanceMethod yX5_shownByHand ∈ zWS := zws_mem 636 (by decide +kernel) rfl
theorem zvX5_shownByHand : Cond.selects RX5 yX5_shownByHand yX5_shownByHand ∈ zWS := zws_mem 637 (by decide +kernel) rfl
theorem zcX5_shownByHand : Cond.code yX5_shownByHand cX5_shownByHand 2 (some .int) ∈ zWS := zws_mem 638 (by decide +kernel) rfl
theorem zwL_users : Cond.codeWith yL_users cL_users 4 (some .int) [(0, 9, 12, 25)] ∈ zWS := zws_mem 645 (by decide +kernel) rfl
theorem zsL_users : Cond.static yL_users ∈ zWS := zws_mem 644 (by decide +kernel) rfl
theorem zlL_80 : Cond.methodLink RL 80 yX5_users ∈ zWS := zws_mem 646 (by decide +kernel) rfl
theorem zmX5_users : Cond.instanceMethod yX5_users ∈ zWS := zws_mem 647 (by decide +kernel) rfl
theorem zvX5_users : Cond.selects RX5 yX5_users yX5_users ∈ zWS := zws_mem 648 (by decide +kernel) rfl
theorem zcX5_users : Cond.code yX5_users cX5_users 2 (some .int) ∈ zWS := zws_mem 649 (by decide +kernel) rfl
theorem zwL_reason : Cond.codeWith yL_reason cL_reason 5 (some .int) [(0, 10, 13, 25)] ∈ zWS := zws_mem 653 (by decide +kernel) rfl
theorem zsL_reason : Cond.static yL_reason ∈ zWS := zws_mem 652 (by decide +kernel) rfl
theorem zlL_83 : Cond.methodLink RL 83 yX5_reason ∈ zWS := zws_mem 654 (by decide +kernel) rfl
theorem zmX5_reason : Cond.instanceMethod yX5_reason ∈ zWS := zws_mem 655 (by decide +kernel) rfl
theorem zvX5_reason : Cond.selects RX5 yX5_reason yX5_reason ∈ zWS := zws_mem 656 (by decide +kernel) rfl
theorem zcX5_reason : Cond.code yX5_reason cX5_reason 3 (some .int) ∈ zWS := zws_mem 657 (by decide +kernel) rfl
theorem zwL_count : Cond.codeWith yL_count cL_count 6 (some .int) [(0, 12, 15, 13)] ∈ zWS := zws_mem 668 (by decide +kernel) rfl
theorem zsL_count : Cond.static yL_count ∈ zWS := zws_mem 667 (by decide +kernel) rfl
theorem zlL_87 : Cond.methodLink RL 87 yX5_count ∈ zWS := zws_mem 669 (by decide +kernel) rfl
theorem zmX5_count : Cond.instanceMethod yX5_count ∈ zWS := zws_mem 670 (by decide +kernel) rfl
theorem zvX5_count : Cond.selects RX5 yX5_count yX5_count ∈ zWS := zws_mem 671 (by decide +kernel) rfl
theorem zcX5_count : Cond.code yX5_count cX5_count 4 (some .int) ∈ zWS := zws_mem 672 (by decide +kernel) rfl
theorem zwL_match : Cond.codeWith yL_match cL_match 7 (some .int) [(0, 14, 17, 25), (0, 14, 21, 13)] ∈ zWS := zws_mem 688 (by decide +kernel) rfl
theorem zsL_match : Cond.static yL_match ∈ zWS := zws_mem 687 (by decide +kernel) rfl
theorem zlL_90 : Cond.methodLink RL 90 yX5_match ∈ zWS := zws_mem 689 (by decide +kernel) rfl
theorem zmX5_match : Cond.instanceMethod yX5_match ∈ zWS := zws_mem 690 (by decide +kernel) rfl
theorem zvX5_match : Cond.selects RX5 yX5_match yX5_match ∈ zWS := zws_mem 691 (by decide +kernel) rfl
theorem zcX5_match : Cond.code yX5_match cX5_match 6 (some .int) ∈ zWS := zws_mem 692 (by decide +kernel) rfl
def bL_type (Kn : Option Value → ZH → Prop) : ZK ZH := (o_aload 2 (o_ic 0 (o_aload 0 (o_iload 1 (o_callX1 5 eX5_type tX5_type (fun k h => Kn (some (.int (w01 k))) h) (o_i2l (o_last (o_ic 0 (o_ret .int Kn)))))))))
set_option maxRecDepth 20000 in
theorem sL_type {l : Launch} {z0 b N : Nat} {D : va_G} {cA : Nat → ClassId} {p : Program} {e : Env} {s : State} {m : MethodId} {args : Array Value} {below : List Frame} {meth : Method} {c : Code} {Kn : Option Value → ZH → Prop} {h0 : ZH} (hlt : l.stackTraces = false) (C : zCx p l (zRm 7 1 103) s m args meth c cL_type 4 RL z0 D cA 1) (hr : meth.sig.returnType = some .int) (htab : c.exceptionTable.toList = tableOf [(0, 9, 12, 13), (0, 9, 15, 15)]) : Snd p l e (zRm 7 1 103) s m args below meth c 4 z0 b (zI z0 b N D cA s) (fun _ => (0, 0)) (zQw below z0 b N D cA Kn h0 args s) 0 (bL_type Kn) := by
  obtain ⟨hx, hb, hml, hown, hts, -⟩ := id C
  unfold bL_type
  refine k_aload_n hx hb dL_type_0 rfl ?_
  refine k_iconst hx hb dL_type_1 (by decide) ?_
  refine k_aload_n hx hb dL_type_2 rfl ?_
  refine k_iload_n hx hb dL_type_3 rfl ?_
  refine k_callX1 C (ci := 5) (Tf := TX5) (Nf := 6) (Cn := RX5) rfl (mX5_type hlt) rfl zlL_7 zmX5_type zvX5_type ziX5 zcX5_type (by decide +kernel) ⟨Nat.le_of_ble_eq_true rfl, Nat.le_of_ble_eq_true rfl⟩ ⟨Nat.le_of_ble_eq_true rfl, Nat.le_of_ble_eq_true rfl⟩ dL_type_4 ?_ ?_
  · rintro a h k ⟨-, x, -, -, ⟨-, rfl⟩ | ⟨-, -, rfl⟩⟩
    · exact z_hand C hr htab (k := 0) [] (⟨0, 9, 12, 13⟩ : ExceptionTableEntry) [(⟨0, 9, 15, 15⟩ : ExceptionTableEntry)] rfl (fun z hz => absurd hz List.not_mem_nil) (by decide) (by decide) znL_13 (by decide +kernel) (len := 1) (fun H locs L q hL kk => st_n hx hb dL_type_12 rfl (by decide) hL kk) dL_type_13 (by decide) dL_type_14
    · exact z_hand C hr htab (k := 1) [(⟨0, 9, 12, 13⟩ : ExceptionTableEntry)] (⟨0, 9, 15, 15⟩ : ExceptionTableEntry) [] rfl (fun z hz => by
        simp only [List.mem_cons, List.not_mem_nil, or_false] at hz
        rcases hz with rfl
        · exact ⟨by decide, "java/lang/IllegalArgumentException", znL_13, by decide +kernel⟩
        ) (by decide) (by decide) znL_15 (by decide +kernel) (len := 1) (fun H locs L q hL kk => st_n hx hb dL_type_15 rfl (by decide) hL kk) dL_type_16 (by decide) dL_type_17
  refine k_i2l hx hb dL_type_7 ?_
  refine k_last C dL_type_8 ?_
  refine k_goto (tgt := 18) hx hb dL_type_9 (by decide) ?_
  refine k_iconst hx hb dL_type_18 (by decide) ?_
  exact k_ret C hr dL_type_19
def tL_type : List Value → ZH → (Option Value → ZH → Prop) → Prop := fun a h Kn => ∃ (x : Int32), isCh x ∧ tLw ovI w01 eX5_type tX5_type [.int x] a h Kn
set_option maxRecDepth 20000 in
theorem vL_type {l : Launch} {z0 b N : Nat} {D : va_G} {cA : Nat → ClassId} (hlt : l.stackTraces = false) : SemW l z0 b N D cA yL_type cL_type 4 [(0, 9, 12, 13), (0, 9, 15, 15)] 7 103 3 tL_type := by
  refine semW_of hlt (by decide +kernel) (by decide) (fun p e s m args below meth c a h Kn hok hN C hr htab => sL_type hlt C hr htab _ _ _ ?_)
  obtain ⟨x, hch, σ, μ, o, f0, g, rfl, rfl, hsim, hK⟩ := hN
  obtain ⟨h1, h2⟩ := hsim (pM μ (pO o f0))
  simp only [bL_type, o_aload, o_iload, o_ic, o_callX0, o_callX1, o_callX2, o_callX3, o_callX4, zcallX, zLw_0, zE, List.map_cons, List.map_nil, List.length_cons, List.length_nil, List.replicate_succ, List.replicate_zero, List.cons_append, List.nil_append, List.append_nil, List.getElem?_cons_zero, List.getElem?_cons_succ, Nat.reduceAdd, Nat.reduceSub, Nat.zero_add, Nat.add_zero, zok_nil, zok_ref, zok_int, true_and, and_true, Nat.reduceLT, Nat.reduceLeDiff]
  refine ⟨fun k hk => ?_, fun hk => ?_⟩
  · obtain ⟨e1, e2⟩ := h1 k hk
    have e3 := hK σ o e2 (fun h => absurd (e1.symm.trans h) (by unfold w01; (try split) <;> (try split) <;> decide))
    rw [e1] at e3
    exact e3
  · obtain ⟨e1, e2⟩ := h2 hk
    exact e2 _ (fun σ' hrel => w_tailI e1 hrel hK)
def bL_enter (Kn : Option Value → ZH → Prop) : ZK ZH := (o_aload 1 (o_ic 0 (o_aload 0 (o_callX0 5 eX5_enter tX5_enter (fun k h => Kn (some (.int (w11 k))) h) (o_i2l (o_last (o_ic 0 (o_ret .int Kn))))))))
set_option maxRecDepth 20000 in
theorem sL_enter {l : Launch} {z0 b N : Nat} {D : va_G} {cA : Nat → ClassId} {p : Program} {e : Env} {s : State} {m : MethodId} {args : Array Value} {below : List Frame} {meth : Method} {c : Code} {Kn : Option Value → ZH → Prop} {h0 : ZH} (hlt : l.stackTraces = false) (C : zCx p l (zRm 7 1 112) s m args meth c cL_enter 3 RL z0 D cA 1) (hr : meth.sig.returnType = some .int) (htab : c.exceptionTable.toList = tableOf [(0, 8, 11, 15)]) : Snd p l e (zRm 7 1 112) s m args below meth c 3 z0 b (zI z0 b N D cA s) (fun _ => (0, 0)) (zQw below z0 b N D cA Kn h0 args s) 0 (bL_enter Kn) := by
  obtain ⟨hx, hb, hml, hown, hts, -⟩ := id C
  unfold bL_enter
  refine k_aload_n hx hb dL_enter_0 rfl ?_
  refine k_iconst hx hb dL_enter_1 (by decide) ?_
  refine k_aload_n hx hb dL_enter_2 rfl ?_
  refine k_callX0 C (ci := 5) (Tf := TX5) (Nf := 6) (Cn := RX5) rfl (mX5_enter hlt) rfl zlL_17 zmX5_enter zvX5_enter ziX5 zcX5_enter (by decide +kernel) ⟨Nat.le_of_ble_eq_true rfl, Nat.le_of_ble_eq_true rfl⟩ ⟨Nat.le_of_ble_eq_true rfl, Nat.le_of_ble_eq_true rfl⟩ dL_enter_3 ?_ ?_
  · rintro a h k ⟨-, -, rfl, -⟩
    · exact z_hand C hr htab (k := 1) [] (⟨0, 8, 11, 15⟩ : ExceptionTableEntry) [] rfl (fun z hz => absurd hz List.not_mem_nil) (by decide) (by decide) znL_15 (by decide +kernel) (len := 1) (fun H locs L q hL kk => st_n hx hb dL_enter_11 rfl (by decide) hL kk) dL_enter_12 (by decide) dL_enter_13
  refine k_i2l hx hb dL_enter_6 ?_
  refine k_last C dL_enter_7 ?_
  refine k_goto (tgt := 14) hx hb dL_enter_8 (by decide) ?_
  refine k_iconst hx hb dL_enter_14 (by decide) ?_
  exact k_ret C hr dL_enter_15
def tL_enter : List Value → ZH → (Option Value → ZH → Prop) → Prop := fun a h Kn => tLw ovI w11 eX5_enter tX5_enter [] a h Kn
set_option maxRecDepth 20000 in
theorem vL_enter {l : Launch} {z0 b N : Nat} {D : va_G} {cA : Nat → ClassId} (hlt : l.stackTraces = false) : SemW l z0 b N D cA yL_enter cL_enter 3 [(0, 8, 11, 15)] 7 112 2 tL_enter := by
  refine semW_of hlt (by decide +kernel) (by decide) (fun p e s m args below meth c a h Kn hok hN C hr htab => sL_enter hlt C hr htab _ _ _ ?_)
  obtain ⟨σ, μ, o, f0, g, rfl, rfl, hsim, hK⟩ := hN
  obtain ⟨h1, h2⟩ := hsim (pM μ (pO o f0))
  simp only [bL_enter, o_aload, o_iload, o_ic, o_callX0, o_callX1, o_callX2, o_callX3, o_callX4, zcallX, zLw_0, zE, List.map_cons, List.map_nil, List.length_cons, List.length_nil, List.replicate_succ, List.replicate_zero, List.cons_append, List.nil_append, List.append_nil, List.getElem?_cons_zero, List.getElem?_cons_succ, Nat.reduceAdd, Nat.reduceSub, Nat.zero_add, Nat.add_zero, zok_nil, zok_ref, zok_int, true_and, and_true, Nat.reduceLT, Nat.reduceLeDiff]
  refine ⟨fun k hk => ?_, fun hk => ?_⟩
  · obtain ⟨e1, e2⟩ := h1 k hk
    have e3 := hK σ o e2 (fun h => absurd (e1.symm.trans h) (by unfold w11; (try split) <;> (try split) <;> decide))
    rw [e1] at e3
    exact e3
  · obtain ⟨e1, e2⟩ := h2 hk
    exact e2 _ (fun σ' hrel => w_tailI e1 hrel hK)
def bL_letter (Kn : Option Value → ZH → Prop) : ZK ZH := (o_aload 3 (o_ic 0 (o_aload 0 (o_iload 1 (o_iload 2 (o_callX2 5 eX5_letter tX5_letter (fun k h => Kn (some (.int (w21 k))) h) (o_i2l (o_last (o_ic 0 (o_ret .int Kn))))))))))
set_option maxRecDepth 20000 in
theorem sL_letter {l : Launch} {z0 b N : Nat} {D : va_G} {cA : Nat → ClassId} {p : Program} {e : Env} {s : State} {m : MethodId} {args : Array Value} {below : List Frame} {meth : Method} {c : Code} {Kn : Option Value → ZH → Prop} {h0 : ZH} (hlt : l.stackTraces = false) (C : zCx p l (zRm 8 1 125) s m args meth c cL_letter 5 RL z0 D cA 1) (hr : meth.sig.returnType = some .int) (htab : c.exceptionTable.toList = tableOf [(0, 10, 13, 25)]) : Snd p l e (zRm 8 1 125) s m args below meth c 5 z0 b (zI z0 b N D cA s) (fun _ => (0, 0)) (zQw below z0 b N D cA Kn h0 args s) 0 (bL_letter Kn) := by
  obtain ⟨hx, hb, hml, hown, hts, -⟩ := id C
  unfold bL_letter
  refine k_aload_n hx hb dL_letter_0 rfl ?_
  refine k_iconst hx hb dL_letter_1 (by decide) ?_
  refine k_aload_n hx hb dL_letter_2 rfl ?_
  refine k_iload_n hx hb dL_letter_3 rfl ?_
  refine k_iload_n hx hb dL_letter_4 rfl ?_
  refine k_callX2 C (ci := 5) (Tf := TX5) (Nf := 6) (Cn := RX5) rfl (mX5_letter hlt) rfl zlL_21 zmX5_letter zvX5_letter ziX5 zcX5_letter (by decide +kernel) ⟨Nat.le_of_ble_eq_true rfl, Nat.le_of_ble_eq_true rfl⟩ ⟨Nat.le_of_ble_eq_true rfl, Nat.le_of_ble_eq_true rfl⟩ dL_letter_5 ?_ ?_
  · rintro a h k ⟨-, x, y, -, rfl, -⟩
    · exact z_hand C hr htab (k := 2) [] (⟨0, 10, 13, 25⟩ : ExceptionTableEntry) [] rfl (fun z hz => absurd hz List.not_mem_nil) (by decide) (by decide) znL_25 (by decide +kernel) (len := 2) (fun H locs L q hL kk => st_w hx hb dL_letter_13 (by decide) hL kk) dL_letter_15 (by decide) dL_letter_16
  refine k_i2l hx hb dL_letter_8 ?_
  refine k_last C dL_letter_9 ?_
  refine k_goto (tgt := 17) hx hb dL_letter_10 (by decide) ?_
  refine k_iconst hx hb dL_letter_17 (by decide) ?_
  exact k_ret C hr dL_letter_18
def tL_letter : List Value → ZH → (Option Value → ZH → Prop) → Prop := fun a h Kn => ∃ (x : Int32) (y : Int32), tLw ovI w21 eX5_letter tX5_letter [.int x, .int y] a h Kn
set_option maxRecDepth 20000 in
theorem vL_letter {l : Launch} {z0 b N : Nat} {D : va_G} {cA : Nat → ClassId} (hlt : l.stackTraces = false) : SemW l z0 b N D cA yL_letter cL_letter 5 [(0, 10, 13, 25)] 8 125 4 tL_letter := by
  refine semW_of hlt (by decide +kernel) (by decide) (fun p e s m args below meth c a h Kn hok hN C hr htab => sL_letter hlt C hr htab _ _ _ ?_)
  obtain ⟨x, y, σ, μ, o, f0, g, rfl, rfl, hsim, hK⟩ := hN
  obtain ⟨h1, h2⟩ := hsim (pM μ (pO o f0))
  simp only [bL_letter, o_aload, o_iload, o_ic, o_callX0, o_callX1, o_callX2, o_callX3, o_callX4, zcallX, zLw_0, zE, List.map_cons, List.map_nil, List.length_cons, List.length_nil, List.replicate_succ, List.replicate_zero, List.cons_append, List.nil_append, List.append_nil, List.getElem?_cons_zero, List.getElem?_cons_succ, Nat.reduceAdd, Nat.reduceSub, Nat.zero_add, Nat.add_zero, zok_nil, zok_ref, zok_int, true_and, and_true, Nat.reduceLT, Nat.reduceLeDiff]
  refine ⟨fun k hk => ?_, fun hk => ?_⟩
  · obtain ⟨e1, e2⟩ := h1 k hk
    have e3 := hK σ o e2 (fun h => absurd (e1.symm.trans h) (by unfold w21; (try split) <;> (try split) <;> decide))
    rw [e1] at e3
    exact e3
  · obtain ⟨e1, e2⟩ := h2 hk
    exact e2 _ (fun σ' hrel => w_tailI e1 hrel hK)
def bL_addThing (Kn : Option Value → ZH → Prop) : ZK ZH := (o_aload 1 (o_ic 0 (o_aload 0 (o_callX0 5 eX5_addThing tX5_addThing (fun k h => Kn (some (.int (w11 k))) h) (o_i2l (o_last (o_ic 0 (o_ret .int Kn))))))))
set_option maxRecDepth 20000 in
theorem sL_addThing {l : Launch} {z0 b N : Nat} {D : va_G} {cA : Nat → ClassId} {p : Program} {e : Env} {s : State} {m : MethodId} {args : Array Value} {below : List Frame} {meth : Method} {c : Code} {Kn : Option Value → ZH → Prop} {h0 : ZH} (hlt : l.stackTraces = false) (C : zCx p l (zRm 7 1 102) s m args meth c cL_addThing 3 RL z0 D cA 1) (hr : meth.sig.returnType = some .int) (htab : c.exceptionTable.toList = tableOf [(0, 8, 11, 15)]) : Snd p l e (zRm 7 1 102) s m args below meth c 3 z0 b (zI z0 b N D cA s) (fun _ => (0, 0)) (zQw below z0 b N D cA Kn h0 args s) 0 (bL_addThing Kn) := by
  obtain ⟨hx, hb, hml, hown, hts, -⟩ := id C
  unfold bL_addThing
  refine k_aload_n hx hb dL_addThing_0 rfl ?_
  refine k_iconst hx hb dL_addThing_1 (by decide) ?_
  refine k_aload_n hx hb dL_addThing_2 rfl ?_
  refine k_callX0 C (ci := 5) (Tf := TX5) (Nf := 6) (Cn := RX5) rfl (mX5_addThing hlt) rfl zlL_27 zmX5_addThing zvX5_addThing ziX5 zcX5_addThing (by decide +kernel) ⟨Nat.le_of_ble_eq_true rfl, Nat.le_of_ble_eq_true rfl⟩ ⟨Nat.le_of_ble_eq_true rfl, Nat.le_of_ble_eq_true rfl⟩ dL_addThing_3 ?_ ?_
  · rintro a h k ⟨-, -, rfl, -⟩
    · exact z_hand C hr htab (k := 1) [] (⟨0, 8, 11, 15⟩ : ExceptionTableEntry) [] rfl (fun z hz => absurd hz List.not_mem_nil) (by decide) (by decide) znL_15 (by decide +kernel) (len := 1) (fun H locs L q hL kk => st_n hx hb dL_addThing_11 rfl (by decide) hL kk) dL_addThing_12 (by decide) dL_addThing_13
  refine k_i2l hx hb dL_addThing_6 ?_
  refine k_last C dL_addThing_7 ?_
  refine k_goto (tgt := 14) hx hb dL_addThing_8 (by decide) ?_
  refine k_iconst hx hb dL_addThing_14 (by decide) ?_
  exact k_ret C hr dL_addThing_15
def tL_addThing : List Value → ZH → (Option Value → ZH → Prop) → Prop := fun a h Kn => tLw ovI w11 eX5_addThing tX5_addThing [] a h Kn
set_option maxRecDepth 20000 in
theorem vL_addThing {l : Launch} {z0 b N : Nat} {D : va_G} {cA : Nat → ClassId} (hlt : l.stackTraces = false) : SemW l z0 b N D cA yL_addThing cL_addThing 3 [(0, 8, 11, 15)] 7 102 2 tL_addThing := by
  refine semW_of hlt (by decide +kernel) (by decide) (fun p e s m args below meth c a h Kn hok hN C hr htab => sL_addThing hlt C hr htab _ _ _ ?_)
  obtain ⟨σ, μ, o, f0, g, rfl, rfl, hsim, hK⟩ := hN
  obtain ⟨h1, h2⟩ := hsim (pM μ (pO o f0))
  simp only [bL_addThing, o_aload, o_iload, o_ic, o_callX0, o_callX1, o_callX2, o_callX3, o_callX4, zcallX, zLw_0, zE, List.map_cons, List.map_nil, List.length_cons, List.length_nil, List.replicate_succ, List.replicate_zero, List.cons_append, List.nil_append, List.append_nil, List.getElem?_cons_zero, List.getElem?_cons_succ, Nat.reduceAdd, Nat.reduceSub, Nat.zero_add, Nat.add_zero, zok_nil, zok_ref, zok_int, true_and, and_true, Nat.reduceLT, Nat.reduceLeDiff]
  refine ⟨fun k hk => ?_, fun hk => ?_⟩
  · obtain ⟨e1, e2⟩ := h1 k hk
    have e3 := hK σ o e2 (fun h => absurd (e1.symm.trans h) (by unfold w11; (try split) <;> (try split) <;> decide))
    rw [e1] at e3
    exact e3
  · obtain ⟨e1, e2⟩ := h2 hk
    exact e2 _ (fun σ' hrel => w_tailI e1 hrel hK)
def bL_tag (Kn : Option Value → ZH → Prop) : ZK ZH := (o_aload 3 (o_ic 0 (o_aload 0 (o_iload 1 (o_iload 2 (o_callX2 5 eX5_tag tX5_tag (fun k h => Kn (some (.int (w21 k))) h) (o_if1 (fun x => x = 0) (o_lc 0 (o_last (o_ic 0 (o_ret .int Kn)))) (o_lc 1 (o_last (o_ic 0 (o_ret .int Kn)))))))))))
set_option maxRecDepth 20000 in
theorem sL_tag {l : Launch} {z0 b N : Nat} {D : va_G} {cA : Nat → ClassId} {p : Program} {e : Env} {s : State} {m : MethodId} {args : Array Value} {below : List Frame} {meth : Method} {c : Code} {Kn : Option Value → ZH → Prop} {h0 : ZH} (hlt : l.stackTraces = false) (C : zCx p l (zRm 8 1 125) s m args meth c cL_tag 5 RL z0 D cA 1) (hr : meth.sig.returnType = some .int) (htab : c.exceptionTable.toList = tableOf [(0, 17, 20, 25)]) : Snd p l e (zRm 8 1 125) s m args below meth c 5 z0 b (zI z0 b N D cA s) (fun _ => (0, 0)) (zQw below z0 b N D cA Kn h0 args s) 0 (bL_tag Kn) := by
  obtain ⟨hx, hb, hml, hown, hts, -⟩ := id C
  unfold bL_tag
  refine k_aload_n hx hb dL_tag_0 rfl ?_
  refine k_iconst hx hb dL_tag_1 (by decide) ?_
  refine k_aload_n hx hb dL_tag_2 rfl ?_
  refine k_iload_n hx hb dL_tag_3 rfl ?_
  refine k_iload_n hx hb dL_tag_4 rfl ?_
  refine k_callX2 C (ci := 5) (Tf := TX5) (Nf := 6) (Cn := RX5) rfl (mX5_tag hlt) rfl zlL_30 zmX5_tag zvX5_tag ziX5 zcX5_tag (by decide +kernel) ⟨Nat.le_of_ble_eq_true rfl, Nat.le_of_ble_eq_true rfl⟩ ⟨Nat.le_of_ble_eq_true rfl, Nat.le_of_ble_eq_true rfl⟩ dL_tag_5 ?_ ?_
  · rintro a h k ⟨-, x, y, -, rfl, -⟩
    · exact z_hand C hr htab (k := 2) [] (⟨0, 17, 20, 25⟩ : ExceptionTableEntry) [] rfl (fun z hz => absurd hz List.not_mem_nil) (by decide) (by decide) znL_25 (by decide +kernel) (len := 2) (fun H locs L q hL kk => st_w hx hb dL_tag_20 (by decide) hL kk) dL_tag_22 (by decide) dL_tag_23
  refine k_if_eq (tgt := 15) hx hb dL_tag_8 (by decide) ?_ ?_
  · refine k_lconst hx hb dL_tag_15 (by decide) ?_
    refine k_last C dL_tag_16 ?_
    refine k_goto (tgt := 24) hx hb dL_tag_17 (by decide) ?_
    refine k_iconst hx hb dL_tag_24 (by decide) ?_
    exact k_ret C hr dL_tag_25
  · refine k_lconst hx hb dL_tag_11 (by decide) ?_
    refine k_goto (tgt := 16) hx hb dL_tag_12 (by decide) ?_
    refine k_last C dL_tag_16 ?_
    refine k_goto (tgt := 24) hx hb dL_tag_17 (by decide) ?_
    refine k_iconst hx hb dL_tag_24 (by decide) ?_
    exact k_ret C hr dL_tag_25
def tL_tag : List Value → ZH → (Option Value → ZH → Prop) → Prop := fun a h Kn => ∃ (x : Int32) (y : Int32), tLw ovB w21 eX5_tag tX5_tag [.int x, .int y] a h Kn
set_option maxRecDepth 20000 in
theorem vL_tag {l : Launch} {z0 b N : Nat} {D : va_G} {cA : Nat → ClassId} (hlt : l.stackTraces = false) : SemW l z0 b N D cA yL_tag cL_tag 5 [(0, 17, 20, 25)] 8 125 4 tL_tag := by
  refine semW_of hlt (by decide +kernel) (by decide) (fun p e s m args below meth c a h Kn hok hN C hr htab => sL_tag hlt C hr htab _ _ _ ?_)
  obtain ⟨x, y, σ, μ, o, f0, g, rfl, rfl, hsim, hK⟩ := hN
  obtain ⟨h1, h2⟩ := hsim (pM μ (pO o f0))
  simp only [bL_tag, o_aload, o_iload, o_ic, o_callX0, o_callX1, o_callX2, o_callX3, o_callX4, zcallX, zLw_0, zE, List.map_cons, List.map_nil, List.length_cons, List.length_nil, List.replicate_succ, List.replicate_zero, List.cons_append, List.nil_append, List.append_nil, List.getElem?_cons_zero, List.getElem?_cons_succ, Nat.reduceAdd, Nat.reduceSub, Nat.zero_add, Nat.add_zero, zok_nil, zok_ref, zok_int, true_and, and_true, Nat.reduceLT, Nat.reduceLeDiff]
  refine ⟨fun k hk => ?_, fun hk => ?_⟩
  · obtain ⟨e1, e2⟩ := h1 k hk
    have e3 := hK σ o e2 (fun h => absurd (e1.symm.trans h) (by unfold w21; (try split) <;> (try split) <;> decide))
    rw [e1] at e3
    exact e3
  · obtain ⟨e1, e2⟩ := h2 hk
    exact e2 _ (fun σ' hrel => w_tailB e1 hrel hK)
def bL_untag (Kn : Option Value → ZH → Prop) : ZK ZH := (o_aload 3 (o_ic 0 (o_aload 0 (o_iload 1 (o_iload 2 (o_callX2 5 eX5_untag tX5_untag (fun k h => Kn (some (.int (w21 k))) h) (o_if1 (fun x => x = 0) (o_lc 0 (o_last (o_ic 0 (o_ret .int Kn)))) (o_lc 1 (o_last (o_ic 0 (o_ret .int Kn)))))))))))
set_option maxRecDepth 20000 in
theorem sL_untag {l : Launch} {z0 b N : Nat} {D : va_G} {cA : Nat → ClassId} {p : Program} {e : Env} {s : State} {m : MethodId} {args : Array Value} {below : List Frame} {meth : Method} {c : Code} {Kn : Option Value → ZH → Prop} {h0 : ZH} (hlt : l.stackTraces = false) (C : zCx p l (zRm 8 1 125) s m args meth c cL_untag 5 RL z0 D cA 1) (hr : meth.sig.returnType = some .int) (htab : c.exceptionTable.toList = tableOf [(0, 17, 20, 25)]) : Snd p l e (zRm 8 1 125) s m args below meth c 5 z0 b (zI z0 b N D cA s) (fun _ => (0, 0)) (zQw below z0 b N D cA Kn h0 args s) 0 (bL_untag Kn) := by
  obtain ⟨hx, hb, hml, hown, hts, -⟩ := id C
  unfold bL_untag
  refine k_aload_n hx hb dL_untag_0 rfl ?_
  refine k_iconst hx hb dL_untag_1 (by decide) ?_
  refine k_aload_n hx hb dL_untag_2 rfl ?_
  refine k_iload_n hx hb dL_untag_3 rfl ?_
  refine k_iload_n hx hb dL_untag_4 rfl ?_
  refine k_callX2 C (ci := 5) (Tf := TX5) (Nf := 6) (Cn := RX5) rfl (mX5_untag hlt) rfl zlL_34 zmX5_untag zvX5_untag ziX5 zcX5_untag (by decide +kernel) ⟨Nat.le_of_ble_eq_true rfl, Nat.le_of_ble_eq_true rfl⟩ ⟨Nat.le_of_ble_eq_true rfl, Nat.le_of_ble_eq_true rfl⟩ dL_untag_5 ?_ ?_
  · rintro a h k ⟨-, x, y, -, rfl, -⟩
    · exact z_hand C hr htab (k := 2) [] (⟨0, 17, 20, 25⟩ : ExceptionTableEntry) [] rfl (fun z hz => absurd hz List.not_mem_nil) (by decide) (by decide) znL_25 (by decide +kernel) (len := 2) (fun H locs L q hL kk => st_w hx hb dL_untag_20 (by decide) hL kk) dL_untag_22 (by decide) dL_untag_23
  refine k_if_eq (tgt := 15) hx hb dL_untag_8 (by decide) ?_ ?_
  · refine k_lconst hx hb dL_untag_15 (by decide) ?_
    refine k_last C dL_untag_16 ?_
    refine k_goto (tgt := 24) hx hb dL_untag_17 (by decide) ?_
    refine k_iconst hx hb dL_untag_24 (by decide) ?_
    exact k_ret C hr dL_untag_25
  · refine k_lconst hx hb dL_untag_11 (by decide) ?_
    refine k_goto (tgt := 16) hx hb dL_untag_12 (by decide) ?_
    refine k_last C dL_untag_16 ?_
    refine k_goto (tgt := 24) hx hb dL_untag_17 (by decide) ?_
    refine k_iconst hx hb dL_untag_24 (by decide) ?_
    exact k_ret C hr dL_untag_25
def tL_untag : List Value → ZH → (Option Value → ZH → Prop) → Prop := fun a h Kn => ∃ (x : Int32) (y : Int32), tLw ovB w21 eX5_untag tX5_untag [.int x, .int y] a h Kn
set_option maxRecDepth 20000 in
theorem vL_untag {l : Launch} {z0 b N : Nat} {D : va_G} {cA : Nat → ClassId} (hlt : l.stackTraces = false) : SemW l z0 b N D cA yL_untag cL_untag 5 [(0, 17, 20, 25)] 8 125 4 tL_untag := by
  refine semW_of hlt (by decide +kernel) (by decide) (fun p e s m args below meth c a h Kn hok hN C hr htab => sL_untag hlt C hr htab _ _ _ ?_)
  obtain ⟨x, y, σ, μ, o, f0, g, rfl, rfl, hsim, hK⟩ := hN
  obtain ⟨h1, h2⟩ := hsim (pM μ (pO o f0))
  simp only [bL_untag, o_aload, o_iload, o_ic, o_callX0, o_callX1, o_callX2, o_callX3, o_callX4, zcallX, zLw_0, zE, List.map_cons, List.map_nil, List.length_cons, List.length_nil, List.replicate_succ, List.replicate_zero, List.cons_append, List.nil_append, List.append_nil, List.getElem?_cons_zero, List.getElem?_cons_succ, Nat.reduceAdd, Nat.reduceSub, Nat.zero_add, Nat.add_zero, zok_nil, zok_ref, zok_int, true_and, and_true, Nat.reduceLT, Nat.reduceLeDiff]
  refine ⟨fun k hk => ?_, fun hk => ?_⟩
  · obtain ⟨e1, e2⟩ := h1 k hk
    have e3 := hK σ o e2 (fun h => absurd (e1.symm.trans h) (by unfold w21; (try split) <;> (try split) <;> decide))
    rw [e1] at e3
    exact e3
  · obtain ⟨e1, e2⟩ := h2 hk
    exact e2 _ (fun σ' hrel => w_tailB e1 hrel hK)
def bL_mass (Kn : Option Value → ZH → Prop) : ZK ZH := (o_aload 4 (o_ic 0 (o_aload 0 (o_iload 1 (o_iload 2 (o_iload 3 (o_callX3 5 eX5_mass tX5_mass (fun k h => Kn (some (.int (w21 k))) h) (o_i2l (o_last (o_ic 0 (o_ret .int Kn)))))))))))
set_option maxRecDepth 20000 in
theorem sL_mass {l : Launch} {z0 b N : Nat} {D : va_G} {cA : Nat → ClassId} {p : Program} {e : Env} {s : State} {m : MethodId} {args : Array Value} {below : List Frame} {meth : Method} {c : Code} {Kn : Option Value → ZH → Prop} {h0 : ZH} (hlt : l.stackTraces = false) (C : zCx p l (zRm 8 1 129) s m args meth c cL_mass 6 RL z0 D cA 1) (hr : meth.sig.returnType = some .int) (htab : c.exceptionTable.toList = tableOf [(0, 12, 15, 25), (0, 12, 19, 13)]) : Snd p l e (zRm 8 1 129) s m args below meth c 6 z0 b (zI z0 b N D cA s) (fun _ => (0, 0)) (zQw below z0 b N D cA Kn h0 args s) 0 (bL_mass Kn) := by
  obtain ⟨hx, hb, hml, hown, hts, -⟩ := id C
  unfold bL_mass
  refine k_aload hx hb dL_mass_0 ?_
  refine k_iconst hx hb dL_mass_2 (by decide) ?_
  refine k_aload_n hx hb dL_mass_3 rfl ?_
  refine k_iload_n hx hb dL_mass_4 rfl ?_
  refine k_iload_n hx hb dL_mass_5 rfl ?_
  refine k_iload_n hx hb dL_mass_6 rfl ?_
  refine k_callX3 C (ci := 5) (Tf := TX5) (Nf := 6) (Cn := RX5) rfl (mX5_mass hlt) rfl zlL_37 zmX5_mass zvX5_mass ziX5 zcX5_mass (by decide +kernel) ⟨Nat.le_of_ble_eq_true rfl, Nat.le_of_ble_eq_true rfl⟩ ⟨Nat.le_of_ble_eq_true rfl, Nat.le_of_ble_eq_true rfl⟩ dL_mass_7 ?_ ?_
  · rintro a h k ⟨-, k0, x, y, -, ⟨-, rfl⟩ | ⟨-, -, -, rfl⟩⟩
    · exact z_hand C hr htab (k := 2) [] (⟨0, 12, 15, 25⟩ : ExceptionTableEntry) [(⟨0, 12, 19, 13⟩ : ExceptionTableEntry)] rfl (fun z hz => absurd hz List.not_mem_nil) (by decide) (by decide) znL_25 (by decide +kernel) (len := 2) (fun H locs L q hL kk => st_w hx hb dL_mass_15 (by decide) hL kk) dL_mass_17 (by decide) dL_mass_18
    · exact z_hand C hr htab (k := 0) [(⟨0, 12, 15, 25⟩ : ExceptionTableEntry)] (⟨0, 12, 19, 13⟩ : ExceptionTableEntry) [] rfl (fun z hz => by
        simp only [List.mem_cons, List.not_mem_nil, or_false] at hz
        rcases hz with rfl
        · exact ⟨by decide, "java/lang/IndexOutOfBoundsException", znL_25, by decide +kernel⟩
        ) (by decide) (by decide) znL_13 (by decide +kernel) (len := 2) (fun H locs L q hL kk => st_w hx hb dL_mass_19 (by decide) hL kk) dL_mass_21 (by decide) dL_mass_22
  refine k_i2l hx hb dL_mass_10 ?_
  refine k_last C dL_mass_11 ?_
  refine k_goto (tgt := 23) hx hb dL_mass_12 (by decide) ?_
  refine k_iconst hx hb dL_mass_23 (by decide) ?_
  exact k_ret C hr dL_mass_24
def tL_mass : List Value → ZH → (Option Value → ZH → Prop) → Prop := fun a h Kn => ∃ (k0 : Int32) (x : Int32) (y : Int32), tLw ovI w21 eX5_mass tX5_mass [.int k0, .int x, .int y] a h Kn
set_option maxRecDepth 20000 in
theorem vL_mass {l : Launch} {z0 b N : Nat} {D : va_G} {cA : Nat → ClassId} (hlt : l.stackTraces = false) : SemW l z0 b N D cA yL_mass cL_mass 6 [(0, 12, 15, 25), (0, 12, 19, 13)] 8 129 5 tL_mass := by
  refine semW_of hlt (by decide +kernel) (by decide) (fun p e s m args below meth c a h Kn hok hN C hr htab => sL_mass hlt C hr htab _ _ _ ?_)
  obtain ⟨k0, x, y, σ, μ, o, f0, g, rfl, rfl, hsim, hK⟩ := hN
  obtain ⟨h1, h2⟩ := hsim (pM μ (pO o f0))
  simp only [bL_mass, o_aload, o_iload, o_ic, o_callX0, o_callX1, o_callX2, o_callX3, o_callX4, zcallX, zLw_0, zE, List.map_cons, List.map_nil, List.length_cons, List.length_nil, List.replicate_succ, List.replicate_zero, List.cons_append, List.nil_append, List.append_nil, List.getElem?_cons_zero, List.getElem?_cons_succ, Nat.reduceAdd, Nat.reduceSub, Nat.zero_add, Nat.add_zero, zok_nil, zok_ref, zok_int, true_and, and_true, Nat.reduceLT, Nat.reduceLeDiff]
  refine ⟨fun k hk => ?_, fun hk => ?_⟩
  · obtain ⟨e1, e2⟩ := h1 k hk
    have e3 := hK σ o e2 (fun h => absurd (e1.symm.trans h) (by unfold w21; (try split) <;> (try split) <;> decide))
    rw [e1] at e3
    exact e3
  · obtain ⟨e1, e2⟩ := h2 hk
    exact e2 _ (fun σ' hrel => w_tailI e1 hrel hK)
def bL_undo (Kn : Option Value → ZH → Prop) : ZK ZH := (o_aload 1 (o_ic 0 (o_aload 0 (o_callX0 5 eX5_undo tX5_undo (fun k h => Kn (some (.int (w11 k))) h) (o_i2l (o_last (o_ic 0 (o_ret .int Kn))))))))
set_option maxRecDepth 20000 in
theorem sL_undo {l : Launch} {z0 b N : Nat} {D : va_G} {cA : Nat → ClassId} {p : Program} {e : Env} {s : State} {m : MethodId} {args : Array Value} {below : List Frame} {meth : Method} {c : Code} {Kn : Option Value → ZH → Prop} {h0 : ZH} (hlt : l.stackTraces = false) (C : zCx p l (zRm 7 1 103) s m args meth c cL_undo 3 RL z0 D cA 1) (hr : meth.sig.returnType = some .int) (htab : c.exceptionTable.toList = tableOf [(0, 8, 11, 15)]) : Snd p l e (zRm 7 1 103) s m args below meth c 3 z0 b (zI z0 b N D cA s) (fun _ => (0, 0)) (zQw below z0 b N D cA Kn h0 args s) 0 (bL_undo Kn) := by
  obtain ⟨hx, hb, hml, hown, hts, -⟩ := id C
  unfold bL_undo
  refine k_aload_n hx hb dL_undo_0 rfl ?_
  refine k_iconst hx hb dL_undo_1 (by decide) ?_
  refine k_aload_n hx hb dL_undo_2 rfl ?_
  refine k_callX0 C (ci := 5) (Tf := TX5) (Nf := 6) (Cn := RX5) rfl (mX5_undo hlt) rfl zlL_41 zmX5_undo zvX5_undo ziX5 zcX5_undo (by decide +kernel) ⟨Nat.le_of_ble_eq_true rfl, Nat.le_of_ble_eq_true rfl⟩ ⟨Nat.le_of_ble_eq_true rfl, Nat.le_of_ble_eq_true rfl⟩ dL_undo_3 ?_ ?_
  · rintro a h k ⟨-, -, rfl, -⟩
    · exact z_hand C hr htab (k := 1) [] (⟨0, 8, 11, 15⟩ : ExceptionTableEntry) [] rfl (fun z hz => absurd hz List.not_mem_nil) (by decide) (by decide) znL_15 (by decide +kernel) (len := 1) (fun H locs L q hL kk => st_n hx hb dL_undo_11 rfl (by decide) hL kk) dL_undo_12 (by decide) dL_undo_13
  refine k_i2l hx hb dL_undo_6 ?_
  refine k_last C dL_undo_7 ?_
  refine k_goto (tgt := 14) hx hb dL_undo_8 (by decide) ?_
  refine k_iconst hx hb dL_undo_14 (by decide) ?_
  exact k_ret C hr dL_undo_15
def tL_undo : List Value → ZH → (Option Value → ZH → Prop) → Prop := fun a h Kn => tLw ovI w11 eX5_undo tX5_undo [] a h Kn
set_option maxRecDepth 20000 in
theorem vL_undo {l : Launch} {z0 b N : Nat} {D : va_G} {cA : Nat → ClassId} (hlt : l.stackTraces = false) : SemW l z0 b N D cA yL_undo cL_undo 3 [(0, 8, 11, 15)] 7 103 2 tL_undo := by
  refine semW_of hlt (by decide +kernel) (by decide) (fun p e s m args below meth c a h Kn hok hN C hr htab => sL_undo hlt C hr htab _ _ _ ?_)
  obtain ⟨σ, μ, o, f0, g, rfl, rfl, hsim, hK⟩ := hN
  obtain ⟨h1, h2⟩ := hsim (pM μ (pO o f0))
  simp only [bL_undo, o_aload, o_iload, o_ic, o_callX0, o_callX1, o_callX2, o_callX3, o_callX4, zcallX, zLw_0, zE, List.map_cons, List.map_nil, List.length_cons, List.length_nil, List.replicate_succ, List.replicate_zero, List.cons_append, List.nil_append, List.append_nil, List.getElem?_cons_zero, List.getElem?_cons_succ, Nat.reduceAdd, Nat.reduceSub, Nat.zero_add, Nat.add_zero, zok_nil, zok_ref, zok_int, true_and, and_true, Nat.reduceLT, Nat.reduceLeDiff]
  refine ⟨fun k hk => ?_, fun hk => ?_⟩
  · obtain ⟨e1, e2⟩ := h1 k hk
    have e3 := hK σ o e2 (fun h => absurd (e1.symm.trans h) (by unfold w11; (try split) <;> (try split) <;> decide))
    rw [e1] at e3
    exact e3
  · obtain ⟨e1, e2⟩ := h2 hk
    exact e2 _ (fun σ' hrel => w_tailI e1 hrel hK)
def bL_hand (Kn : Option Value → ZH → Prop) : ZK ZH := (o_aload 2 (o_ic 0 (o_aload 0 (o_iload 1 (o_callX1 5 eX5_hand tX5_hand (fun k h => Kn (some (.int (w21 k))) h) (o_i2l (o_last (o_ic 0 (o_ret .int Kn)))))))))
set_option maxRecDepth 20000 in
theorem sL_hand {l : Launch} {z0 b N : Nat} {D : va_G} {cA : Nat → ClassId} {p : Program} {e : Env} {s : State} {m : MethodId} {args : Array Value} {below : List Frame} {meth : Method} {c : Code} {Kn : Option Value → ZH → Prop} {h0 : ZH} (hlt : l.stackTraces = false) (C : zCx p l (zRm 8 1 124) s m args meth c cL_hand 4 RL z0 D cA 1) (hr : meth.sig.returnType = some .int) (htab : c.exceptionTable.toList = tableOf [(0, 9, 12, 25)]) : Snd p l e (zRm 8 1 124) s m args below meth c 4 z0 b (zI z0 b N D cA s) (fun _ => (0, 0)) (zQw below z0 b N D cA Kn h0 args s) 0 (bL_hand Kn) := by
  obtain ⟨hx, hb, hml, hown, hts, -⟩ := id C
  unfold bL_hand
  refine k_aload_n hx hb dL_hand_0 rfl ?_
  refine k_iconst hx hb dL_hand_1 (by decide) ?_
  refine k_aload_n hx hb dL_hand_2 rfl ?_
  refine k_iload_n hx hb dL_hand_3 rfl ?_
  refine k_callX1 C (ci := 5) (Tf := TX5) (Nf := 6) (Cn := RX5) rfl (mX5_hand hlt) rfl zlL_44 zmX5_hand zvX5_hand ziX5 zcX5_hand (by decide +kernel) ⟨Nat.le_of_ble_eq_true rfl, Nat.le_of_ble_eq_true rfl⟩ ⟨Nat.le_of_ble_eq_true rfl, Nat.le_of_ble_eq_true rfl⟩ dL_hand_4 ?_ ?_
  · rintro a h k ⟨-, x, -, rfl, -⟩
    · exact z_hand C hr htab (k := 2) [] (⟨0, 9, 12, 25⟩ : ExceptionTableEntry) [] rfl (fun z hz => absurd hz List.not_mem_nil) (by decide) (by decide) znL_25 (by decide +kernel) (len := 1) (fun H locs L q hL kk => st_n hx hb dL_hand_12 rfl (by decide) hL kk) dL_hand_13 (by decide) dL_hand_14
  refine k_i2l hx hb dL_hand_7 ?_
  refine k_last C dL_hand_8 ?_
  refine k_goto (tgt := 15) hx hb dL_hand_9 (by decide) ?_
  refine k_iconst hx hb dL_hand_15 (by decide) ?_
  exact k_ret C hr dL_hand_16
def tL_hand : List Value → ZH → (Option Value → ZH → Prop) → Prop := fun a h Kn => ∃ (x : Int32), tLw ovI w21 eX5_hand tX5_hand [.int x] a h Kn
set_option maxRecDepth 20000 in
theorem vL_hand {l : Launch} {z0 b N : Nat} {D : va_G} {cA : Nat → ClassId} (hlt : l.stackTraces = false) : SemW l z0 b N D cA yL_hand cL_hand 4 [(0, 9, 12, 25)] 8 124 3 tL_hand := by
  refine semW_of hlt (by decide +kernel) (by decide) (fun p e s m args below meth c a h Kn hok hN C hr htab => sL_hand hlt C hr htab _ _ _ ?_)
  obtain ⟨x, σ, μ, o, f0, g, rfl, rfl, hsim, hK⟩ := hN
  obtain ⟨h1, h2⟩ := hsim (pM μ (pO o f0))
  simp only [bL_hand, o_aload, o_iload, o_ic, o_callX0, o_callX1, o_callX2, o_callX3, o_callX4, zcallX, zLw_0, zE, List.map_cons, List.map_nil, List.length_cons, List.length_nil, List.replicate_succ, List.replicate_zero, List.cons_append, List.nil_append, List.append_nil, List.getElem?_cons_zero, List.getElem?_cons_succ, Nat.reduceAdd, Nat.reduceSub, Nat.zero_add, Nat.add_zero, zok_nil, zok_ref, zok_int, true_and, and_true, Nat.reduceLT, Nat.reduceLeDiff]
  refine ⟨fun k hk => ?_, fun hk => ?_⟩
  · obtain ⟨e1, e2⟩ := h1 k hk
    have e3 := hK σ o e2 (fun h => absurd (e1.symm.trans h) (by unfold w21; (try split) <;> (try split) <;> decide))
    rw [e1] at e3
    exact e3
  · obtain ⟨e1, e2⟩ := h2 hk
    exact e2 _ (fun σ' hrel => w_tailI e1 hrel hK)
def bL_ask (Kn : Option Value → ZH → Prop) : ZK ZH := (o_aload 4 (o_ic 0 (o_aload 0 (o_iload 1 (o_iload 2 (o_iload 3 (o_callX3 5 eX5_ask tX5_ask (fun k h => Kn (some (.int (w21 k))) h) (o_i2l (o_last (o_ic 0 (o_ret .int Kn)))))))))))
set_option maxRecDepth 20000 in
theorem sL_ask {l : Launch} {z0 b N : Nat} {D : va_G} {cA : Nat → ClassId} {p : Program} {e : Env} {s : State} {m : MethodId} {args : Array Value} {below : List Frame} {meth : Method} {c : Code} {Kn : Option Value → ZH → Prop} {h0 : ZH} (hlt : l.stackTraces = false) (C : zCx p l (zRm 8 1 126) s m args meth c cL_ask 6 RL z0 D cA 1) (hr : meth.sig.returnType = some .int) (htab : c.exceptionTable.toList = tableOf [(0, 12, 15, 25), (0, 12, 19, 13), (0, 12, 23, 15)]) : Snd p l e (zRm 8 1 126) s m args below meth c 6 z0 b (zI z0 b N D cA s) (fun _ => (0, 0)) (zQw below z0 b N D cA Kn h0 args s) 0 (bL_ask Kn) := by
  obtain ⟨hx, hb, hml, hown, hts, -⟩ := id C
  unfold bL_ask
  refine k_aload hx hb dL_ask_0 ?_
  refine k_iconst hx hb dL_ask_2 (by decide) ?_
  refine k_aload_n hx hb dL_ask_3 rfl ?_
  refine k_iload_n hx hb dL_ask_4 rfl ?_
  refine k_iload_n hx hb dL_ask_5 rfl ?_
  refine k_iload_n hx hb dL_ask_6 rfl ?_
  refine k_callX3 C (ci := 5) (Tf := TX5) (Nf := 6) (Cn := RX5) rfl (mX5_ask hlt) rfl zlL_48 zmX5_ask zvX5_ask ziX5 zcX5_ask (by decide +kernel) ⟨Nat.le_of_ble_eq_true rfl, Nat.le_of_ble_eq_true rfl⟩ ⟨Nat.le_of_ble_eq_true rfl, Nat.le_of_ble_eq_true rfl⟩ dL_ask_7 ?_ ?_
  · rintro a h k ⟨-, k0, x, y, -, ⟨-, rfl⟩ | ⟨-, -, -, rfl⟩ | ⟨-, -, -, -, -, rfl⟩⟩
    · exact z_hand C hr htab (k := 2) [] (⟨0, 12, 15, 25⟩ : ExceptionTableEntry) [(⟨0, 12, 19, 13⟩ : ExceptionTableEntry), (⟨0, 12, 23, 15⟩ : ExceptionTableEntry)] rfl (fun z hz => absurd hz List.not_mem_nil) (by decide) (by decide) znL_25 (by decide +kernel) (len := 2) (fun H locs L q hL kk => st_w hx hb dL_ask_15 (by decide) hL kk) dL_ask_17 (by decide) dL_ask_18
    · exact z_hand C hr htab (k := 0) [(⟨0, 12, 15, 25⟩ : ExceptionTableEntry)] (⟨0, 12, 19, 13⟩ : ExceptionTableEntry) [(⟨0, 12, 23, 15⟩ : ExceptionTableEntry)] rfl (fun z hz => by
        simp only [List.mem_cons, List.not_mem_nil, or_false] at hz
        rcases hz with rfl
        · exact ⟨by decide, "java/lang/IndexOutOfBoundsException", znL_25, by decide +kernel⟩
        ) (by decide) (by decide) znL_13 (by decide +kernel) (len := 2) (fun H locs L q hL kk => st_w hx hb dL_ask_19 (by decide) hL kk) dL_ask_21 (by decide) dL_ask_22
    · exact z_hand C hr htab (k := 1) [(⟨0, 12, 15, 25⟩ : ExceptionTableEntry), (⟨0, 12, 19, 13⟩ : ExceptionTableEntry)] (⟨0, 12, 23, 15⟩ : ExceptionTableEntry) [] rfl (fun z hz => by
        simp only [List.mem_cons, List.not_mem_nil, or_false] at hz
        rcases hz with rfl | rfl
        · exact ⟨by decide, "java/lang/IndexOutOfBoundsException", znL_25, by decide +kernel⟩
        · exact ⟨by decide, "java/lang/IllegalArgumentException", znL_13, by decide +kernel⟩
        ) (by decide) (by decide) znL_15 (by decide +kernel) (len := 2) (fun H locs L q hL kk => st_w hx hb dL_ask_23 (by decide) hL kk) dL_ask_25 (by decide) dL_ask_26
  refine k_i2l hx hb dL_ask_10 ?_
  refine k_last C dL_ask_11 ?_
  refine k_goto (tgt := 27) hx hb dL_ask_12 (by decide) ?_
  refine k_iconst hx hb dL_ask_27 (by decide) ?_
  exact k_ret C hr dL_ask_28
def tL_ask : List Value → ZH → (Option Value → ZH → Prop) → Prop := fun a h Kn => ∃ (k0 : Int32) (x : Int32) (y : Int32), tLw ovI w21 eX5_ask tX5_ask [.int k0, .int x, .int y] a h Kn
set_option maxRecDepth 20000 in
theorem vL_ask {l : Launch} {z0 b N : Nat} {D : va_G} {cA : Nat → ClassId} (hlt : l.stackTraces = false) : SemW l z0 b N D cA yL_ask cL_ask 6 [(0, 12, 15, 25), (0, 12, 19, 13), (0, 12, 23, 15)] 8 126 5 tL_ask := by
  refine semW_of hlt (by decide +kernel) (by decide) (fun p e s m args below meth c a h Kn hok hN C hr htab => sL_ask hlt C hr htab _ _ _ ?_)
  obtain ⟨k0, x, y, σ, μ, o, f0, g, rfl, rfl, hsim, hK⟩ := hN
  obtain ⟨h1, h2⟩ := hsim (pM μ (pO o f0))
  simp only [bL_ask, o_aload, o_iload, o_ic, o_callX0, o_callX1, o_callX2, o_callX3, o_callX4, zcallX, zLw_0, zE, List.map_cons, List.map_nil, List.length_cons, List.length_nil, List.replicate_succ, List.replicate_zero, List.cons_append, List.nil_append, List.append_nil, List.getElem?_cons_zero, List.getElem?_cons_succ, Nat.reduceAdd, Nat.reduceSub, Nat.zero_add, Nat.add_zero, zok_nil, zok_ref, zok_int, true_and, and_true, Nat.reduceLT, Nat.reduceLeDiff]
  refine ⟨fun k hk => ?_, fun hk => ?_⟩
  · obtain ⟨e1, e2⟩ := h1 k hk
    have e3 := hK σ o e2 (fun h => absurd (e1.symm.trans h) (by unfold w21; (try split) <;> (try split) <;> decide))
    rw [e1] at e3
    exact e3
  · obtain ⟨e1, e2⟩ := h2 hk
    exact e2 _ (fun σ' hrel => w_tailI e1 hrel hK)
def bL_vote (Kn : Option Value → ZH → Prop) : ZK ZH := (o_aload 4 (o_ic 0 (o_aload 0 (o_iload 1 (o_iload 2 (o_iload 3 (o_callX3 5 eX5_vote tX5_vote (fun k h => Kn (some (.int (w21 k))) h) (o_i2l (o_last (o_ic 0 (o_ret .int Kn)))))))))))
set_option maxRecDepth 20000 in
theorem sL_vote {l : Launch} {z0 b N : Nat} {D : va_G} {cA : Nat → ClassId} {p : Program} {e : Env} {s : State} {m : MethodId} {args : Array Value} {below : List Frame} {meth : Method} {c : Code} {Kn : Option Value → ZH → Prop} {h0 : ZH} (hlt : l.stackTraces = false) (C : zCx p l (zRm 8 1 158) s m args meth c cL_vote 6 RL z0 D cA 1) (hr : meth.sig.returnType = some .int) (htab : c.exceptionTable.toList = tableOf [(0, 12, 15, 25), (0, 12, 19, 13), (0, 12, 23, 15)]) : Snd p l e (zRm 8 1 158) s m args below meth c 6 z0 b (zI z0 b N D cA s) (fun _ => (0, 0)) (zQw below z0 b N D cA Kn h0 args s) 0 (bL_vote Kn) := by
  obtain ⟨hx, hb, hml, hown, hts, -⟩ := id C
  unfold bL_vote
  refine k_aload hx hb dL_vote_0 ?_
  refine k_iconst hx hb dL_vote_2 (by decide) ?_
  refine k_aload_n hx hb dL_vote_3 rfl ?_
  refine k_iload_n hx hb dL_vote_4 rfl ?_
  refine k_iload_n hx hb dL_vote_5 rfl ?_
  refine k_iload_n hx hb dL_vote_6 rfl ?_
  refine k_callX3 C (ci := 5) (Tf := TX5) (Nf := 6) (Cn := RX5) rfl (mX5_vote hlt) rfl zlL_51 zmX5_vote zvX5_vote ziX5 zcX5_vote (by decide +kernel) ⟨Nat.le_of_ble_eq_true rfl, Nat.le_of_ble_eq_true rfl⟩ ⟨Nat.le_of_ble_eq_true rfl, Nat.le_of_ble_eq_true rfl⟩ dL_vote_7 ?_ ?_
  · rintro a h k ⟨-, x, y, z, -, ⟨-, rfl⟩ | ⟨-, -, rfl⟩ | ⟨-, -, -, rfl⟩⟩
    · exact z_hand C hr htab (k := 2) [] (⟨0, 12, 15, 25⟩ : ExceptionTableEntry) [(⟨0, 12, 19, 13⟩ : ExceptionTableEntry), (⟨0, 12, 23, 15⟩ : ExceptionTableEntry)] rfl (fun z hz => absurd hz List.not_mem_nil) (by decide) (by decide) znL_25 (by decide +kernel) (len := 2) (fun H locs L q hL kk => st_w hx hb dL_vote_15 (by decide) hL kk) dL_vote_17 (by decide) dL_vote_18
    · exact z_hand C hr htab (k := 0) [(⟨0, 12, 15, 25⟩ : ExceptionTableEntry)] (⟨0, 12, 19, 13⟩ : ExceptionTableEntry) [(⟨0, 12, 23, 15⟩ : ExceptionTableEntry)] rfl (fun z hz => by
        simp only [List.mem_cons, List.not_mem_nil, or_false] at hz
        rcases hz with rfl
        · exact ⟨by decide, "java/lang/IndexOutOfBoundsException", znL_25, by decide +kernel⟩
        ) (by decide) (by decide) znL_13 (by decide +kernel) (len := 2) (fun H locs L q hL kk => st_w hx hb dL_vote_19 (by decide) hL kk) dL_vote_21 (by decide) dL_vote_22
    · exact z_hand C hr htab (k := 1) [(⟨0, 12, 15, 25⟩ : ExceptionTableEntry), (⟨0, 12, 19, 13⟩ : ExceptionTableEntry)] (⟨0, 12, 23, 15⟩ : ExceptionTableEntry) [] rfl (fun z hz => by
        simp only [List.mem_cons, List.not_mem_nil, or_false] at hz
        rcases hz with rfl | rfl
        · exact ⟨by decide, "java/lang/IndexOutOfBoundsException", znL_25, by decide +kernel⟩
        · exact ⟨by decide, "java/lang/IllegalArgumentException", znL_13, by decide +kernel⟩
        ) (by decide) (by decide) znL_15 (by decide +kernel) (len := 2) (fun H locs L q hL kk => st_w hx hb dL_vote_23 (by decide) hL kk) dL_vote_25 (by decide) dL_vote_26
  refine k_i2l hx hb dL_vote_10 ?_
  refine k_last C dL_vote_11 ?_
  refine k_goto (tgt := 27) hx hb dL_vote_12 (by decide) ?_
  refine k_iconst hx hb dL_vote_27 (by decide) ?_
  exact k_ret C hr dL_vote_28
def tL_vote : List Value → ZH → (Option Value → ZH → Prop) → Prop := fun a h Kn => ∃ (x : Int32) (y : Int32) (z : Bool), tLw ovI w21 eX5_vote tX5_vote [.int x, .int y, .int (zb z)] a h Kn
set_option maxRecDepth 20000 in
theorem vL_vote {l : Launch} {z0 b N : Nat} {D : va_G} {cA : Nat → ClassId} (hlt : l.stackTraces = false) : SemW l z0 b N D cA yL_vote cL_vote 6 [(0, 12, 15, 25), (0, 12, 19, 13), (0, 12, 23, 15)] 8 158 5 tL_vote := by
  refine semW_of hlt (by decide +kernel) (by decide) (fun p e s m args below meth c a h Kn hok hN C hr htab => sL_vote hlt C hr htab _ _ _ ?_)
  obtain ⟨x, y, z, σ, μ, o, f0, g, rfl, rfl, hsim, hK⟩ := hN
  obtain ⟨h1, h2⟩ := hsim (pM μ (pO o f0))
  simp only [bL_vote, o_aload, o_iload, o_ic, o_callX0, o_callX1, o_callX2, o_callX3, o_callX4, zcallX, zLw_0, zE, List.map_cons, List.map_nil, List.length_cons, List.length_nil, List.replicate_succ, List.replicate_zero, List.cons_append, List.nil_append, List.append_nil, List.getElem?_cons_zero, List.getElem?_cons_succ, Nat.reduceAdd, Nat.reduceSub, Nat.zero_add, Nat.add_zero, zok_nil, zok_ref, zok_int, true_and, and_true, Nat.reduceLT, Nat.reduceLeDiff]
  refine ⟨fun k hk => ?_, fun hk => ?_⟩
  · obtain ⟨e1, e2⟩ := h1 k hk
    have e3 := hK σ o e2 (fun h => absurd (e1.symm.trans h) (by unfold w21; (try split) <;> (try split) <;> decide))
    rw [e1] at e3
    exact e3
  · obtain ⟨e1, e2⟩ := h2 hk
    exact e2 _ (fun σ' hrel => w_tailI e1 hrel hK)
def bL_standing (Kn : Option Value → ZH → Prop) : ZK ZH := (o_aload 2 (o_ic 0 (o_aload 0 (o_iload 1 (o_callX1 5 eX5_standing tX5_standing (fun k h => Kn (some (.int (w21 k))) h) (o_i2l (o_last (o_ic 0 (o_ret .int Kn)))))))))
set_option maxRecDepth 20000 in
theorem sL_standing {l : Launch} {z0 b N : Nat} {D : va_G} {cA : Nat → ClassId} {p : Program} {e : Env} {s : State} {m : MethodId} {args : Array Value} {below : List Frame} {meth : Method} {c : Code} {Kn : Option Value → ZH → Prop} {h0 : ZH} (hlt : l.stackTraces = false) (C : zCx p l (zRm 8 1 124) s m args meth c cL_standing 4 RL z0 D cA 1) (hr : meth.sig.returnType = some .int) (htab : c.exceptionTable.toList = tableOf [(0, 9, 12, 25)]) : Snd p l e (zRm 8 1 124) s m args below meth c 4 z0 b (zI z0 b N D cA s) (fun _ => (0, 0)) (zQw below z0 b N D cA Kn h0 args s) 0 (bL_standing Kn) := by
  obtain ⟨hx, hb, hml, hown, hts, -⟩ := id C
  unfold bL_standing
  refine k_aload_n hx hb dL_standing_0 rfl ?_
  refine k_iconst hx hb dL_standing_1 (by decide) ?_
  refine k_aload_n hx hb dL_standing_2 rfl ?_
  refine k_iload_n hx hb dL_standing_3 rfl ?_
  refine k_callX1 C (ci := 5) (Tf := TX5) (Nf := 6) (Cn := RX5) rfl (mX5_standing hlt) rfl zlL_55 zmX5_standing zvX5_standing ziX5 zcX5_standing (by decide +kernel) ⟨Nat.le_of_ble_eq_true rfl, Nat.le_of_ble_eq_true rfl⟩ ⟨Nat.le_of_ble_eq_true rfl, Nat.le_of_ble_eq_true rfl⟩ dL_standing_4 ?_ ?_
  · rintro a h k ⟨-, x, -, rfl, -⟩
    · exact z_hand C hr htab (k := 2) [] (⟨0, 9, 12, 25⟩ : ExceptionTableEntry) [] rfl (fun z hz => absurd hz List.not_mem_nil) (by decide) (by decide) znL_25 (by decide +kernel) (len := 1) (fun H locs L q hL kk => st_n hx hb dL_standing_12 rfl (by decide) hL kk) dL_standing_13 (by decide) dL_standing_14
  refine k_i2l hx hb dL_standing_7 ?_
  refine k_last C dL_standing_8 ?_
  refine k_goto (tgt := 15) hx hb dL_standing_9 (by decide) ?_
  refine k_iconst hx hb dL_standing_15 (by decide) ?_
  exact k_ret C hr dL_standing_16
def tL_standing : List Value → ZH → (Option Value → ZH → Prop) → Prop := fun a h Kn => ∃ (x : Int32), tLw ovI w21 eX5_standing tX5_standing [.int x] a h Kn
set_option maxRecDepth 20000 in
theorem vL_standing {l : Launch} {z0 b N : Nat} {D : va_G} {cA : Nat → ClassId} (hlt : l.stackTraces = false) : SemW l z0 b N D cA yL_standing cL_standing 4 [(0, 9, 12, 25)] 8 124 3 tL_standing := by
  refine semW_of hlt (by decide +kernel) (by decide) (fun p e s m args below meth c a h Kn hok hN C hr htab => sL_standing hlt C hr htab _ _ _ ?_)
  obtain ⟨x, σ, μ, o, f0, g, rfl, rfl, hsim, hK⟩ := hN
  obtain ⟨h1, h2⟩ := hsim (pM μ (pO o f0))
  simp only [bL_standing, o_aload, o_iload, o_ic, o_callX0, o_callX1, o_callX2, o_callX3, o_callX4, zcallX, zLw_0, zE, List.map_cons, List.map_nil, List.length_cons, List.length_nil, List.replicate_succ, List.replicate_zero, List.cons_append, List.nil_append, List.append_nil, List.getElem?_cons_zero, List.getElem?_cons_succ, Nat.reduceAdd, Nat.reduceSub, Nat.zero_add, Nat.add_zero, zok_nil, zok_ref, zok_int, true_and, and_true, Nat.reduceLT, Nat.reduceLeDiff]
  refine ⟨fun k hk => ?_, fun hk => ?_⟩
  · obtain ⟨e1, e2⟩ := h1 k hk
    have e3 := hK σ o e2 (fun h => absurd (e1.symm.trans h) (by unfold w21; (try split) <;> (try split) <;> decide))
    rw [e1] at e3
    exact e3
  · obtain ⟨e1, e2⟩ := h2 hk
    exact e2 _ (fun σ' hrel => w_tailI e1 hrel hK)
def bL_couldPass (Kn : Option Value → ZH → Prop) : ZK ZH := (o_aload 2 (o_ic 0 (o_aload 0 (o_iload 1 (o_callX1 5 eX5_couldPass tX5_couldPass (fun k h => Kn (some (.int (w21 k))) h) (o_if1 (fun x => x = 0) (o_lc 0 (o_last (o_ic 0 (o_ret .int Kn)))) (o_lc 1 (o_last (o_ic 0 (o_ret .int Kn))))))))))
set_option maxRecDepth 20000 in
theorem sL_couldPass {l : Launch} {z0 b N : Nat} {D : va_G} {cA : Nat → ClassId} {p : Program} {e : Env} {s : State} {m : MethodId} {args : Array Value} {below : List Frame} {meth : Method} {c : Code} {Kn : Option Value → ZH → Prop} {h0 : ZH} (hlt : l.stackTraces = false) (C : zCx p l (zRm 8 1 134) s m args meth c cL_couldPass 4 RL z0 D cA 1) (hr : meth.sig.returnType = some .int) (htab : c.exceptionTable.toList = tableOf [(0, 16, 19, 25)]) : Snd p l e (zRm 8 1 134) s m args below meth c 4 z0 b (zI z0 b N D cA s) (fun _ => (0, 0)) (zQw below z0 b N D cA Kn h0 args s) 0 (bL_couldPass Kn) := by
  obtain ⟨hx, hb, hml, hown, hts, -⟩ := id C
  unfold bL_couldPass
  refine k_aload_n hx hb dL_couldPass_0 rfl ?_
  refine k_iconst hx hb dL_couldPass_1 (by decide) ?_
  refine k_aload_n hx hb dL_couldPass_2 rfl ?_
  refine k_iload_n hx hb dL_couldPass_3 rfl ?_
  refine k_callX1 C (ci := 5) (Tf := TX5) (Nf := 6) (Cn := RX5) rfl (mX5_couldPass hlt) rfl zlL_58 zmX5_couldPass zvX5_couldPass ziX5 zcX5_couldPass (by decide +kernel) ⟨Nat.le_of_ble_eq_true rfl, Nat.le_of_ble_eq_true rfl⟩ ⟨Nat.le_of_ble_eq_true rfl, Nat.le_of_ble_eq_true rfl⟩ dL_couldPass_4 ?_ ?_
  · rintro a h k ⟨-, x, -, rfl, -⟩
    · exact z_hand C hr htab (k := 2) [] (⟨0, 16, 19, 25⟩ : ExceptionTableEntry) [] rfl (fun z hz => absurd hz List.not_mem_nil) (by decide) (by decide) znL_25 (by decide +kernel) (len := 1) (fun H locs L q hL kk => st_n hx hb dL_couldPass_19 rfl (by decide) hL kk) dL_couldPass_20 (by decide) dL_couldPass_21
  refine k_if_eq (tgt := 14) hx hb dL_couldPass_7 (by decide) ?_ ?_
  · refine k_lconst hx hb dL_couldPass_14 (by decide) ?_
    refine k_last C dL_couldPass_15 ?_
    refine k_goto (tgt := 22) hx hb dL_couldPass_16 (by decide) ?_
    refine k_iconst hx hb dL_couldPass_22 (by decide) ?_
    exact k_ret C hr dL_couldPass_23
  · refine k_lconst hx hb dL_couldPass_10 (by decide) ?_
    refine k_goto (tgt := 15) hx hb dL_couldPass_11 (by decide) ?_
    refine k_last C dL_couldPass_15 ?_
    refine k_goto (tgt := 22) hx hb dL_couldPass_16 (by decide) ?_
    refine k_iconst hx hb dL_couldPass_22 (by decide) ?_
    exact k_ret C hr dL_couldPass_23
def tL_couldPass : List Value → ZH → (Option Value → ZH → Prop) → Prop := fun a h Kn => ∃ (x : Int32), tLw ovB w21 eX5_couldPass tX5_couldPass [.int x] a h Kn
set_option maxRecDepth 20000 in
theorem vL_couldPass {l : Launch} {z0 b N : Nat} {D : va_G} {cA : Nat → ClassId} (hlt : l.stackTraces = false) : SemW l z0 b N D cA yL_couldPass cL_couldPass 4 [(0, 16, 19, 25)] 8 134 3 tL_couldPass := by
  refine semW_of hlt (by decide +kernel) (by decide) (fun p e s m args below meth c a h Kn hok hN C hr htab => sL_couldPass hlt C hr htab _ _ _ ?_)
  obtain ⟨x, σ, μ, o, f0, g, rfl, rfl, hsim, hK⟩ := hN
  obtain ⟨h1, h2⟩ := hsim (pM μ (pO o f0))
  simp only [bL_couldPass, o_aload, o_iload, o_ic, o_callX0, o_callX1, o_callX2, o_callX3, o_callX4, zcallX, zLw_0, zE, List.map_cons, List.map_nil, List.length_cons, List.length_nil, List.replicate_succ, List.replicate_zero, List.cons_append, List.nil_append, List.append_nil, List.getElem?_cons_zero, List.getElem?_cons_succ, Nat.reduceAdd, Nat.reduceSub, Nat.zero_add, Nat.add_zero, zok_nil, zok_ref, zok_int, true_and, and_true, Nat.reduceLT, Nat.reduceLeDiff]
  refine ⟨fun k hk => ?_, fun hk => ?_⟩
  · obtain ⟨e1, e2⟩ := h1 k hk
    have e3 := hK σ o e2 (fun h => absurd (e1.symm.trans h) (by unfold w21; (try split) <;> (try split) <;> decide))
    rw [e1] at e3
    exact e3
  · obtain ⟨e1, e2⟩ := h2 hk
    exact e2 _ (fun σ' hrel => w_tailB e1 hrel hK)
def bL_clashes (Kn : Option Value → ZH → Prop) : ZK ZH := (o_aload 2 (o_ic 0 (o_aload 0 (o_iload 1 (o_callX1 5 eX5_clashes tX5_clashes (fun k h => Kn (some (.int (w21 k))) h) (o_i2l (o_last (o_ic 0 (o_ret .int Kn)))))))))
set_option maxRecDepth 20000 in
theorem sL_clashes {l : Launch} {z0 b N : Nat} {D : va_G} {cA : Nat → ClassId} {p : Program} {e : Env} {s : State} {m : MethodId} {args : Array Value} {below : List Frame} {meth : Method} {c : Code} {Kn : Option Value → ZH → Prop} {h0 : ZH} (hlt : l.stackTraces = false) (C : zCx p l (zRm 8 1 158) s m args meth c cL_clashes 4 RL z0 D cA 1) (hr : meth.sig.returnType = some .int) (htab : c.exceptionTable.toList = tableOf [(0, 9, 12, 25)]) : Snd p l e (zRm 8 1 158) s m args below meth c 4 z0 b (zI z0 b N D cA s) (fun _ => (0, 0)) (zQw below z0 b N D cA Kn h0 args s) 0 (bL_clashes Kn) := by
  obtain ⟨hx, hb, hml, hown, hts, -⟩ := id C
  unfold bL_clashes
  refine k_aload_n hx hb dL_clashes_0 rfl ?_
  refine k_iconst hx hb dL_clashes_1 (by decide) ?_
  refine k_aload_n hx hb dL_clashes_2 rfl ?_
  refine k_iload_n hx hb dL_clashes_3 rfl ?_
  refine k_callX1 C (ci := 5) (Tf := TX5) (Nf := 6) (Cn := RX5) rfl (mX5_clashes hlt) rfl zlL_62 zmX5_clashes zvX5_clashes ziX5 zcX5_clashes (by decide +kernel) ⟨Nat.le_of_ble_eq_true rfl, Nat.le_of_ble_eq_true rfl⟩ ⟨Nat.le_of_ble_eq_true rfl, Nat.le_of_ble_eq_true rfl⟩ dL_clashes_4 ?_ ?_
  · rintro a h k ⟨-, x, -, rfl, -⟩
    · exact z_hand C hr htab (k := 2) [] (⟨0, 9, 12, 25⟩ : ExceptionTableEntry) [] rfl (fun z hz => absurd hz List.not_mem_nil) (by decide) (by decide) znL_25 (by decide +kernel) (len := 1) (fun H locs L q hL kk => st_n hx hb dL_clashes_12 rfl (by decide) hL kk) dL_clashes_13 (by decide) dL_clashes_14
  refine k_i2l hx hb dL_clashes_7 ?_
  refine k_last C dL_clashes_8 ?_
  refine k_goto (tgt := 15) hx hb dL_clashes_9 (by decide) ?_
  refine k_iconst hx hb dL_clashes_15 (by decide) ?_
  exact k_ret C hr dL_clashes_16
def tL_clashes : List Value → ZH → (Option Value → ZH → Prop) → Prop := fun a h Kn => ∃ (x : Int32), tLw ovI w21 eX5_clashes tX5_clashes [.int x] a h Kn
set_option maxRecDepth 20000 in
theorem vL_clashes {l : Launch} {z0 b N : Nat} {D : va_G} {cA : Nat → ClassId} (hlt : l.stackTraces = false) : SemW l z0 b N D cA yL_clashes cL_clashes 4 [(0, 9, 12, 25)] 8 158 3 tL_clashes := by
  refine semW_of hlt (by decide +kernel) (by decide) (fun p e s m args below meth c a h Kn hok hN C hr htab => sL_clashes hlt C hr htab _ _ _ ?_)
  obtain ⟨x, σ, μ, o, f0, g, rfl, rfl, hsim, hK⟩ := hN
  obtain ⟨h1, h2⟩ := hsim (pM μ (pO o f0))
  simp only [bL_clashes, o_aload, o_iload, o_ic, o_callX0, o_callX1, o_callX2, o_callX3, o_callX4, zcallX, zLw_0, zE, List.map_cons, List.map_nil, List.length_cons, List.length_nil, List.replicate_succ, List.replicate_zero, List.cons_append, List.nil_append, List.append_nil, List.getElem?_cons_zero, List.getElem?_cons_succ, Nat.reduceAdd, Nat.reduceSub, Nat.zero_add, Nat.add_zero, zok_nil, zok_ref, zok_int, true_and, and_true, Nat.reduceLT, Nat.reduceLeDiff]
  refine ⟨fun k hk => ?_, fun hk => ?_⟩
  · obtain ⟨e1, e2⟩ := h1 k hk
    have e3 := hK σ o e2 (fun h => absurd (e1.symm.trans h) (by unfold w21; (try split) <;> (try split) <;> decide))
    rw [e1] at e3
    exact e3
  · obtain ⟨e1, e2⟩ := h2 hk
    exact e2 _ (fun σ' hrel => w_tailI e1 hrel hK)
def bL_alias (Kn : Option Value → ZH → Prop) : ZK ZH := (o_aload 2 (o_ic 0 (o_aload 0 (o_iload 1 (o_callX1 5 eX5_alias tX5_alias (fun k h => Kn (some (.int (w21 k))) h) (o_i2l (o_last (o_ic 0 (o_ret .int Kn)))))))))
set_option maxRecDepth 20000 in
theorem sL_alias {l : Launch} {z0 b N : Nat} {D : va_G} {cA : Nat → ClassId} {p : Program} {e : Env} {s : State} {m : MethodId} {args : Array Value} {below : List Frame} {meth : Method} {c : Code} {Kn : Option Value → ZH → Prop} {h0 : ZH} (hlt : l.stackTraces = false) (C : zCx p l (zRm 8 1 124) s m args meth c cL_alias 4 RL z0 D cA 1) (hr : meth.sig.returnType = some .int) (htab : c.exceptionTable.toList = tableOf [(0, 9, 12, 25)]) : Snd p l e (zRm 8 1 124) s m args below meth c 4 z0 b (zI z0 b N D cA s) (fun _ => (0, 0)) (zQw below z0 b N D cA Kn h0 args s) 0 (bL_alias Kn) := by
  obtain ⟨hx, hb, hml, hown, hts, -⟩ := id C
  unfold bL_alias
  refine k_aload_n hx hb dL_alias_0 rfl ?_
  refine k_iconst hx hb dL_alias_1 (by decide) ?_
  refine k_aload_n hx hb dL_alias_2 rfl ?_
  refine k_iload_n hx hb dL_alias_3 rfl ?_
  refine k_callX1 C (ci := 5) (Tf := TX5) (Nf := 6) (Cn := RX5) rfl (mX5_alias hlt) rfl zlL_65 zmX5_alias zvX5_alias ziX5 zcX5_alias (by decide +kernel) ⟨Nat.le_of_ble_eq_true rfl, Nat.le_of_ble_eq_true rfl⟩ ⟨Nat.le_of_ble_eq_true rfl, Nat.le_of_ble_eq_true rfl⟩ dL_alias_4 ?_ ?_
  · rintro a h k ⟨-, x, -, rfl, -⟩
    · exact z_hand C hr htab (k := 2) [] (⟨0, 9, 12, 25⟩ : ExceptionTableEntry) [] rfl (fun z hz => absurd hz List.not_mem_nil) (by decide) (by decide) znL_25 (by decide +kernel) (len := 1) (fun H locs L q hL kk => st_n hx hb dL_alias_12 rfl (by decide) hL kk) dL_alias_13 (by decide) dL_alias_14
  refine k_i2l hx hb dL_alias_7 ?_
  refine k_last C dL_alias_8 ?_
  refine k_goto (tgt := 15) hx hb dL_alias_9 (by decide) ?_
  refine k_iconst hx hb dL_alias_15 (by decide) ?_
  exact k_ret C hr dL_alias_16
def tL_alias : List Value → ZH → (Option Value → ZH → Prop) → Prop := fun a h Kn => ∃ (x : Int32), tLw ovI w21 eX5_alias tX5_alias [.int x] a h Kn
set_option maxRecDepth 20000 in
theorem vL_alias {l : Launch} {z0 b N : Nat} {D : va_G} {cA : Nat → ClassId} (hlt : l.stackTraces = false) : SemW l z0 b N D cA yL_alias cL_alias 4 [(0, 9, 12, 25)] 8 124 3 tL_alias := by
  refine semW_of hlt (by decide +kernel) (by decide) (fun p e s m args below meth c a h Kn hok hN C hr htab => sL_alias hlt C hr htab _ _ _ ?_)
  obtain ⟨x, σ, μ, o, f0, g, rfl, rfl, hsim, hK⟩ := hN
  obtain ⟨h1, h2⟩ := hsim (pM μ (pO o f0))
  simp only [bL_alias, o_aload, o_iload, o_ic, o_callX0, o_callX1, o_callX2, o_callX3, o_callX4, zcallX, zLw_0, zE, List.map_cons, List.map_nil, List.length_cons, List.length_nil, List.replicate_succ, List.replicate_zero, List.cons_append, List.nil_append, List.append_nil, List.getElem?_cons_zero, List.getElem?_cons_succ, Nat.reduceAdd, Nat.reduceSub, Nat.zero_add, Nat.add_zero, zok_nil, zok_ref, zok_int, true_and, and_true, Nat.reduceLT, Nat.reduceLeDiff]
  refine ⟨fun k hk => ?_, fun hk => ?_⟩
  · obtain ⟨e1, e2⟩ := h1 k hk
    have e3 := hK σ o e2 (fun h => absurd (e1.symm.trans h) (by unfold w21; (try split) <;> (try split) <;> decide))
    rw [e1] at e3
    exact e3
  · obtain ⟨e1, e2⟩ := h2 hk
    exact e2 _ (fun σ' hrel => w_tailI e1 hrel hK)
def bL_end (Kn : Option Value → ZH → Prop) : ZK ZH := (o_aload 2 (o_ic 0 (o_aload 0 (o_iload 1 (o_callX1 5 eX5_end tX5_end (fun k h => Kn (some (.int (w21 k))) h) (o_i2l (o_last (o_ic 0 (o_ret .int Kn)))))))))
set_option maxRecDepth 20000 in
theorem sL_end {l : Launch} {z0 b N : Nat} {D : va_G} {cA : Nat → ClassId} {p : Program} {e : Env} {s : State} {m : MethodId} {args : Array Value} {below : List Frame} {meth : Method} {c : Code} {Kn : Option Value → ZH → Prop} {h0 : ZH} (hlt : l.stackTraces = false) (C : zCx p l (zRm 8 1 124) s m args meth c cL_end 4 RL z0 D cA 1) (hr : meth.sig.returnType = some .int) (htab : c.exceptionTable.toList = tableOf [(0, 9, 12, 25)]) : Snd p l e (zRm 8 1 124) s m args below meth c 4 z0 b (zI z0 b N D cA s) (fun _ => (0, 0)) (zQw below z0 b N D cA Kn h0 args s) 0 (bL_end Kn) := by
  obtain ⟨hx, hb, hml, hown, hts, -⟩ := id C
  unfold bL_end
  refine k_aload_n hx hb dL_end_0 rfl ?_
  refine k_iconst hx hb dL_end_1 (by decide) ?_
  refine k_aload_n hx hb dL_end_2 rfl ?_
  refine k_iload_n hx hb dL_end_3 rfl ?_
  refine k_callX1 C (ci := 5) (Tf := TX5) (Nf := 6) (Cn := RX5) rfl (mX5_end hlt) rfl zlL_68 zmX5_end zvX5_end ziX5 zcX5_end (by decide +kernel) ⟨Nat.le_of_ble_eq_true rfl, Nat.le_of_ble_eq_true rfl⟩ ⟨Nat.le_of_ble_eq_true rfl, Nat.le_of_ble_eq_true rfl⟩ dL_end_4 ?_ ?_
  · rintro a h k ⟨-, x, -, rfl, -⟩
    · exact z_hand C hr htab (k := 2) [] (⟨0, 9, 12, 25⟩ : ExceptionTableEntry) [] rfl (fun z hz => absurd hz List.not_mem_nil) (by decide) (by decide) znL_25 (by decide +kernel) (len := 1) (fun H locs L q hL kk => st_n hx hb dL_end_12 rfl (by decide) hL kk) dL_end_13 (by decide) dL_end_14
  refine k_i2l hx hb dL_end_7 ?_
  refine k_last C dL_end_8 ?_
  refine k_goto (tgt := 15) hx hb dL_end_9 (by decide) ?_
  refine k_iconst hx hb dL_end_15 (by decide) ?_
  exact k_ret C hr dL_end_16
def tL_end : List Value → ZH → (Option Value → ZH → Prop) → Prop := fun a h Kn => ∃ (x : Int32), tLw ovI w21 eX5_end tX5_end [.int x] a h Kn
set_option maxRecDepth 20000 in
theorem vL_end {l : Launch} {z0 b N : Nat} {D : va_G} {cA : Nat → ClassId} (hlt : l.stackTraces = false) : SemW l z0 b N D cA yL_end cL_end 4 [(0, 9, 12, 25)] 8 124 3 tL_end := by
  refine semW_of hlt (by decide +kernel) (by decide) (fun p e s m args below meth c a h Kn hok hN C hr htab => sL_end hlt C hr htab _ _ _ ?_)
  obtain ⟨x, σ, μ, o, f0, g, rfl, rfl, hsim, hK⟩ := hN
  obtain ⟨h1, h2⟩ := hsim (pM μ (pO o f0))
  simp only [bL_end, o_aload, o_iload, o_ic, o_callX0, o_callX1, o_callX2, o_callX3, o_callX4, zcallX, zLw_0, zE, List.map_cons, List.map_nil, List.length_cons, List.length_nil, List.replicate_succ, List.replicate_zero, List.cons_append, List.nil_append, List.append_nil, List.getElem?_cons_zero, List.getElem?_cons_succ, Nat.reduceAdd, Nat.reduceSub, Nat.zero_add, Nat.add_zero, zok_nil, zok_ref, zok_int, true_and, and_true, Nat.reduceLT, Nat.reduceLeDiff]
  refine ⟨fun k hk => ?_, fun hk => ?_⟩
  · obtain ⟨e1, e2⟩ := h1 k hk
    have e3 := hK σ o e2 (fun h => absurd (e1.symm.trans h) (by unfold w21; (try split) <;> (try split) <;> decide))
    rw [e1] at e3
    exact e3
  · obtain ⟨e1, e2⟩ := h2 hk
    exact e2 _ (fun σ' hrel => w_tailI e1 hrel hK)
def bL_implies (Kn : Option Value → ZH → Prop) : ZK ZH := (o_aload 3 (o_ic 0 (o_aload 0 (o_iload 1 (o_iload 2 (o_callX2 5 eX5_implies tX5_implies (fun k h => Kn (some (.int (w21 k))) h) (o_if1 (fun x => x = 0) (o_lc 0 (o_last (o_ic 0 (o_ret .int Kn)))) (o_lc 1 (o_last (o_ic 0 (o_ret .int Kn)))))))))))
set_option maxRecDepth 20000 in
theorem sL_implies {l : Launch} {z0 b N : Nat} {D : va_G} {cA : Nat → ClassId} {p : Program} {e : Env} {s : State} {m : MethodId} {args : Array Value} {below : List Frame} {meth : Method} {c : Code} {Kn : Option Value → ZH → Prop} {h0 : ZH} (hlt : l.stackTraces = false) (C : zCx p l (zRm 8 1 125) s m args meth c cL_implies 5 RL z0 D cA 1) (hr : meth.sig.returnType = some .int) (htab : c.exceptionTable.toList = tableOf [(0, 17, 20, 25)]) : Snd p l e (zRm 8 1 125) s m args below meth c 5 z0 b (zI z0 b N D cA s) (fun _ => (0, 0)) (zQw below z0 b N D cA Kn h0 args s) 0 (bL_implies Kn) := by
  obtain ⟨hx, hb, hml, hown, hts, -⟩ := id C
  unfold bL_implies
  refine k_aload_n hx hb dL_implies_0 rfl ?_
  refine k_iconst hx hb dL_implies_1 (by decide) ?_
  refine k_aload_n hx hb dL_implies_2 rfl ?_
  refine k_iload_n hx hb dL_implies_3 rfl ?_
  refine k_iload_n hx hb dL_implies_4 rfl ?_
  refine k_callX2 C (ci := 5) (Tf := TX5) (Nf := 6) (Cn := RX5) rfl (mX5_implies hlt) rfl zlL_71 zmX5_implies zvX5_implies ziX5 zcX5_implies (by decide +kernel) ⟨Nat.le_of_ble_eq_true rfl, Nat.le_of_ble_eq_true rfl⟩ ⟨Nat.le_of_ble_eq_true rfl, Nat.le_of_ble_eq_true rfl⟩ dL_implies_5 ?_ ?_
  · rintro a h k ⟨-, x, y, -, rfl, -⟩
    · exact z_hand C hr htab (k := 2) [] (⟨0, 17, 20, 25⟩ : ExceptionTableEntry) [] rfl (fun z hz => absurd hz List.not_mem_nil) (by decide) (by decide) znL_25 (by decide +kernel) (len := 2) (fun H locs L q hL kk => st_w hx hb dL_implies_20 (by decide) hL kk) dL_implies_22 (by decide) dL_implies_23
  refine k_if_eq (tgt := 15) hx hb dL_implies_8 (by decide) ?_ ?_
  · refine k_lconst hx hb dL_implies_15 (by decide) ?_
    refine k_last C dL_implies_16 ?_
    refine k_goto (tgt := 24) hx hb dL_implies_17 (by decide) ?_
    refine k_iconst hx hb dL_implies_24 (by decide) ?_
    exact k_ret C hr dL_implies_25
  · refine k_lconst hx hb dL_implies_11 (by decide) ?_
    refine k_goto (tgt := 16) hx hb dL_implies_12 (by decide) ?_
    refine k_last C dL_implies_16 ?_
    refine k_goto (tgt := 24) hx hb dL_implies_17 (by decide) ?_
    refine k_iconst hx hb dL_implies_24 (by decide) ?_
    exact k_ret C hr dL_implies_25
def tL_implies : List Value → ZH → (Option Value → ZH → Prop) → Prop := fun a h Kn => ∃ (x : Int32) (y : Int32), tLw ovB w21 eX5_implies tX5_implies [.int x, .int y] a h Kn
set_option maxRecDepth 20000 in
theorem vL_implies {l : Launch} {z0 b N : Nat} {D : va_G} {cA : Nat → ClassId} (hlt : l.stackTraces = false) : SemW l z0 b N D cA yL_implies cL_implies 5 [(0, 17, 20, 25)] 8 125 4 tL_implies := by
  refine semW_of hlt (by decide +kernel) (by decide) (fun p e s m args below meth c a h Kn hok hN C hr htab => sL_implies hlt C hr htab _ _ _ ?_)
  obtain ⟨x, y, σ, μ, o, f0, g, rfl, rfl, hsim, hK⟩ := hN
  obtain ⟨h1, h2⟩ := hsim (pM μ (pO o f0))
  simp only [bL_implies, o_aload, o_iload, o_ic, o_callX0, o_callX1, o_callX2, o_callX3, o_callX4, zcallX, zLw_0, zE, List.map_cons, List.map_nil, List.length_cons, List.length_nil, List.replicate_succ, List.replicate_zero, List.cons_append, List.nil_append, List.append_nil, List.getElem?_cons_zero, List.getElem?_cons_succ, Nat.reduceAdd, Nat.reduceSub, Nat.zero_add, Nat.add_zero, zok_nil, zok_ref, zok_int, true_and, and_true, Nat.reduceLT, Nat.reduceLeDiff]
  refine ⟨fun k hk => ?_, fun hk => ?_⟩
  · obtain ⟨e1, e2⟩ := h1 k hk
    have e3 := hK σ o e2 (fun h => absurd (e1.symm.trans h) (by unfold w21; (try split) <;> (try split) <;> decide))
    rw [e1] at e3
    exact e3
  · obtain ⟨e1, e2⟩ := h2 hk
    exact e2 _ (fun σ' hrel => w_tailB e1 hrel hK)
def bL_shown (Kn : Option Value → ZH → Prop) : ZK ZH := (o_aload 2 (o_ic 0 (o_aload 0 (o_iload 1 (o_callX1 5 eX5_shown tX5_shown (fun k h => Kn (some (.int (w21 k))) h) (o_i2l (o_last (o_ic 0 (o_ret .int Kn)))))))))
set_option maxRecDepth 20000 in
theorem sL_shown {l : Launch} {z0 b N : Nat} {D : va_G} {cA : Nat → ClassId} {p : Program} {e : Env} {s : State} {m : MethodId} {args : Array Value} {below : List Frame} {meth : Method} {c : Code} {Kn : Option Value → ZH → Prop} {h0 : ZH} (hlt : l.stackTraces = false) (C : zCx p l (zRm 8 1 124) s m args meth c cL_shown 4 RL z0 D cA 1) (hr : meth.sig.returnType = some .int) (htab : c.exceptionTable.toList = tableOf [(0, 9, 12, 25)]) : Snd p l e (zRm 8 1 124) s m args below meth c 4 z0 b (zI z0 b N D cA s) (fun _ => (0, 0)) (zQw below z0 b N D cA Kn h0 args s) 0 (bL_shown Kn) := by
  obtain ⟨hx, hb, hml, hown, hts, -⟩ := id C
  unfold bL_shown
  refine k_aload_n hx hb dL_shown_0 rfl ?_
  refine k_iconst hx hb dL_shown_1 (by decide) ?_
  refine k_aload_n hx hb dL_shown_2 rfl ?_
  refine k_iload_n hx hb dL_shown_3 rfl ?_
  refine k_callX1 C (ci := 5) (Tf := TX5) (Nf := 6) (Cn := RX5) rfl (mX5_shown hlt) rfl zlL_74 zmX5_shown zvX5_shown ziX5 zcX5_shown (by decide +kernel) ⟨Nat.le_of_ble_eq_true rfl, Nat.le_of_ble_eq_true rfl⟩ ⟨Nat.le_of_ble_eq_true rfl, Nat.le_of_ble_eq_true rfl⟩ dL_shown_4 ?_ ?_
  · rintro a h k ⟨-, x, -, rfl, -⟩
    · exact z_hand C hr htab (k := 2) [] (⟨0, 9, 12, 25⟩ : ExceptionTableEntry) [] rfl (fun z hz => absurd hz List.not_mem_nil) (by decide) (by decide) znL_25 (by decide +kernel) (len := 1) (fun H locs L q hL kk => st_n hx hb dL_shown_12 rfl (by decide) hL kk) dL_shown_13 (by decide) dL_shown_14
  refine k_i2l hx hb dL_shown_7 ?_
  refine k_last C dL_shown_8 ?_
  refine k_goto (tgt := 15) hx hb dL_shown_9 (by decide) ?_
  refine k_iconst hx hb dL_shown_15 (by decide) ?_
  exact k_ret C hr dL_shown_16
def tL_shown : List Value → ZH → (Option Value → ZH → Prop) → Prop := fun a h Kn => ∃ (x : Int32), tLw ovI w21 eX5_shown tX5_shown [.int x] a h Kn
set_option maxRecDepth 20000 in
theorem vL_shown {l : Launch} {z0 b N : Nat} {D : va_G} {cA : Nat → ClassId} (hlt : l.stackTraces = false) : SemW l z0 b N D cA yL_shown cL_shown 4 [(0, 9, 12, 25)] 8 124 3 tL_shown := by
  refine semW_of hlt (by decide +kernel) (by decide) (fun p e s m args below meth c a h Kn hok hN C hr htab => sL_shown hlt C hr htab _ _ _ ?_)
  obtain ⟨x, σ, μ, o, f0, g, rfl, rfl, hsim, hK⟩ := hN
  obtain ⟨h1, h2⟩ := hsim (pM μ (pO o f0))
  simp only [bL_shown, o_aload, o_iload, o_ic, o_callX0, o_callX1, o_callX2, o_callX3, o_callX4, zcallX, zLw_0, zE, List.map_cons, List.map_nil, List.length_cons, List.length_nil, List.replicate_succ, List.replicate_zero, List.cons_append, List.nil_append, List.append_nil, List.getElem?_cons_zero, List.getElem?_cons_succ, Nat.reduceAdd, Nat.reduceSub, Nat.zero_add, Nat.add_zero, zok_nil, zok_ref, zok_int, true_and, and_true, Nat.reduceLT, Nat.reduceLeDiff]
  refine ⟨fun k hk => ?_, fun hk => ?_⟩
  · obtain ⟨e1, e2⟩ := h1 k hk
    have e3 := hK σ o e2 (fun h => absurd (e1.symm.trans h) (by unfold w21; (try split) <;> (try split) <;> decide))
    rw [e1] at e3
    exact e3
  · obtain ⟨e1, e2⟩ := h2 hk
    exact e2 _ (fun σ' hrel => w_tailI e1 hrel hK)
def bL_shownByHand (Kn : Option Value → ZH → Prop) : ZK ZH := (o_aload 2 (o_ic 0 (o_aload 0 (o_iload 1 (o_callX1 5 eX5_shownByHand tX5_shownByHand (fun k h => Kn (some (.int (w21 k))) h) (o_i2l (o_last (o_ic 0 (o_ret .int Kn)))))))))
set_option maxRecDepth 20000 in
theorem sL_shownByHand {l : Launch} {z0 b N : Nat} {D : va_G} {cA : Nat → ClassId} {p : Program} {e : Env} {s : State} {m : MethodId} {args : Array Value} {below : List Frame} {meth : Method} {c : Code} {Kn : Option Value → ZH → Prop} {h0 : ZH} (hlt : l.stackTraces = false) (C : zCx p l (zRm 8 1 124) s m args meth c cL_shownByHand 4 RL z0 D cA 1) (hr : meth.sig.returnType = some .int) (htab : c.exceptionTable.toList = tableOf [(0, 9, 12, 25)]) : Snd p l e (zRm 8 1 124) s m args below meth c 4 z0 b (zI z0 b N D cA s) (fun _ => (0, 0)) (zQw below z0 b N D cA Kn h0 args s) 0 (bL_shownByHand Kn) := by
  obtain ⟨hx, hb, hml, hown, hts, -⟩ := id C
  unfold bL_shownByHand
  refine k_aload_n hx hb dL_shownByHand_0 rfl ?_
  refine k_iconst hx hb dL_shownByHand_1 (by decide) ?_
  refine k_aload_n hx hb dL_shownByHand_2 rfl ?_
  refine k_iload_n hx hb dL_shownByHand_3 rfl ?_
  refine k_callX1 C (ci := 5) (Tf := TX5) (Nf := 6) (Cn := RX5) rfl (mX5_shownByHand hlt) rfl zlL_77 zmX5_shownByHand zvX5_shownByHand ziX5 zcX5_shownByHand (by decide +kernel) ⟨Nat.le_of_ble_eq_true rfl, Nat.le_of_ble_eq_true rfl⟩ ⟨Nat.le_of_ble_eq_true rfl, Nat.le_of_ble_eq_true rfl⟩ dL_shownByHand_4 ?_ ?_
  · rintro a h k ⟨-, x, -, rfl, -⟩
    · exact z_hand C hr htab (k := 2) [] (⟨0, 9, 12, 25⟩ : ExceptionTableEntry) [] rfl (fun z hz => absurd hz List.not_mem_nil) (by decide) (by decide) znL_25 (by decide +kernel) (len := 1) (fun H locs L q hL kk => st_n hx hb dL_shownByHand_12 rfl (by decide) hL kk) dL_shownByHand_13 (by decide) dL_shownByHand_14
  refine k_i2l hx hb dL_shownByHand_7 ?_
  refine k_last C dL_shownByHand_8 ?_
  refine k_goto (tgt := 15) hx hb dL_shownByHand_9 (by decide) ?_
  refine k_iconst hx hb dL_shownByHand_15 (by decide) ?_
  exact k_ret C hr dL_shownByHand_16
def tL_shownByHand : List Value → ZH → (Option Value → ZH → Prop) → Prop := fun a h Kn => ∃ (x : Int32), tLw ovI w21 eX5_shownByHand tX5_shownByHand [.int x] a h Kn
set_option maxRecDepth 20000 in
theorem vL_shownByHand {l : Launch} {z0 b N : Nat} {D : va_G} {cA : Nat → ClassId} (hlt : l.stackTraces = false) : SemW l z0 b N D cA yL_shownByHand cL_shownByHand 4 [(0, 9, 12, 25)] 8 124 3 tL_shownByHand := by
  refine semW_of hlt (by decide +kernel) (by decide) (fun p e s m args below meth c a h Kn hok hN C hr htab => sL_shownByHand hlt C hr htab _ _ _ ?_)
  obtain ⟨x, σ, μ, o, f0, g, rfl, rfl, hsim, hK⟩ := hN
  obtain ⟨h1, h2⟩ := hsim (pM μ (pO o f0))
  simp only [bL_shownByHand, o_aload, o_iload, o_ic, o_callX0, o_callX1, o_callX2, o_callX3, o_callX4, zcallX, zLw_0, zE, List.map_cons, List.map_nil, List.length_cons, List.length_nil, List.replicate_succ, List.replicate_zero, List.cons_append, List.nil_append, List.append_nil, List.getElem?_cons_zero, List.getElem?_cons_succ, Nat.reduceAdd, Nat.reduceSub, Nat.zero_add, Nat.add_zero, zok_nil, zok_ref, zok_int, true_and, and_true, Nat.reduceLT, Nat.reduceLeDiff]
  refine ⟨fun k hk => ?_, fun hk => ?_⟩
  · obtain ⟨e1, e2⟩ := h1 k hk
    have e3 := hK σ o e2 (fun h => absurd (e1.symm.trans h) (by unfold w21; (try split) <;> (try split) <;> decide))
    rw [e1] at e3
    exact e3
  · obtain ⟨e1, e2⟩ := h2 hk
    exact e2 _ (fun σ' hrel => w_tailI e1 hrel hK)
def bL_users (Kn : Option Value → ZH → Prop) : ZK ZH := (o_aload 2 (o_ic 0 (o_aload 0 (o_iload 1 (o_callX1 5 eX5_users tX5_users (fun k h => Kn (some (.int (w21 k))) h) (o_i2l (o_last (o_ic 0 (o_ret .int Kn)))))))))
set_option maxRecDepth 20000 in
theorem sL_users {l : Launch} {z0 b N : Nat} {D : va_G} {cA : Nat → ClassId} {p : Program} {e : Env} {s : State} {m : MethodId} {args : Array Value} {below : List Frame} {meth : Method} {c : Code} {Kn : Option Value → ZH → Prop} {h0 : ZH} (hlt : l.stackTraces = false) (C : zCx p l (zRm 8 1 124) s m args meth c cL_users 4 RL z0 D cA 1) (hr : meth.sig.returnType = some .int) (htab : c.exceptionTable.toList = tableOf [(0, 9, 12, 25)]) : Snd p l e (zRm 8 1 124) s m args below meth c 4 z0 b (zI z0 b N D cA s) (fun _ => (0, 0)) (zQw below z0 b N D cA Kn h0 args s) 0 (bL_users Kn) := by
  obtain ⟨hx, hb, hml, hown, hts, -⟩ := id C
  unfold bL_users
  refine k_aload_n hx hb dL_users_0 rfl ?_
  refine k_iconst hx hb dL_users_1 (by decide) ?_
  refine k_aload_n hx hb dL_users_2 rfl ?_
  refine k_iload_n hx hb dL_users_3 rfl ?_
  refine k_callX1 C (ci := 5) (Tf := TX5) (Nf := 6) (Cn := RX5) rfl (mX5_users hlt) rfl zlL_80 zmX5_users zvX5_users ziX5 zcX5_users (by decide +kernel) ⟨Nat.le_of_ble_eq_true rfl, Nat.le_of_ble_eq_true rfl⟩ ⟨Nat.le_of_ble_eq_true rfl, Nat.le_of_ble_eq_true rfl⟩ dL_users_4 ?_ ?_
  · rintro a h k ⟨-, x, -, rfl, -⟩
    · exact z_hand C hr htab (k := 2) [] (⟨0, 9, 12, 25⟩ : ExceptionTableEntry) [] rfl (fun z hz => absurd hz List.not_mem_nil) (by decide) (by decide) znL_25 (by decide +kernel) (len := 1) (fun H locs L q hL kk => st_n hx hb dL_users_12 rfl (by decide) hL kk) dL_users_13 (by decide) dL_users_14
  refine k_i2l hx hb dL_users_7 ?_
  refine k_last C dL_users_8 ?_
  refine k_goto (tgt := 15) hx hb dL_users_9 (by decide) ?_
  refine k_iconst hx hb dL_users_15 (by decide) ?_
  exact k_ret C hr dL_users_16
def tL_users : List Value → ZH → (Option Value → ZH → Prop) → Prop := fun a h Kn => ∃ (x : Int32), tLw ovI w21 eX5_users tX5_users [.int x] a h Kn
set_option maxRecDepth 20000 in
theorem vL_users {l : Launch} {z0 b N : Nat} {D : va_G} {cA : Nat → ClassId} (hlt : l.stackTraces = false) : SemW l z0 b N D cA yL_users cL_users 4 [(0, 9, 12, 25)] 8 124 3 tL_users := by
  refine semW_of hlt (by decide +kernel) (by decide) (fun p e s m args below meth c a h Kn hok hN C hr htab => sL_users hlt C hr htab _ _ _ ?_)
  obtain ⟨x, σ, μ, o, f0, g, rfl, rfl, hsim, hK⟩ := hN
  obtain ⟨h1, h2⟩ := hsim (pM μ (pO o f0))
  simp only [bL_users, o_aload, o_iload, o_ic, o_callX0, o_callX1, o_callX2, o_callX3, o_callX4, zcallX, zLw_0, zE, List.map_cons, List.map_nil, List.length_cons, List.length_nil, List.replicate_succ, List.replicate_zero, List.cons_append, List.nil_append, List.append_nil, List.getElem?_cons_zero, List.getElem?_cons_succ, Nat.reduceAdd, Nat.reduceSub, Nat.zero_add, Nat.add_zero, zok_nil, zok_ref, zok_int, true_and, and_true, Nat.reduceLT, Nat.reduceLeDiff]
  refine ⟨fun k hk => ?_, fun hk => ?_⟩
  · obtain ⟨e1, e2⟩ := h1 k hk
    have e3 := hK σ o e2 (fun h => absurd (e1.symm.trans h) (by unfold w21; (try split) <;> (try split) <;> decide))
    rw [e1] at e3
    exact e3
  · obtain ⟨e1, e2⟩ := h2 hk
    exact e2 _ (fun σ' hrel => w_tailI e1 hrel hK)
def bL_reason (Kn : Option Value → ZH → Prop) : ZK ZH := (o_aload 3 (o_ic 0 (o_aload 0 (o_iload 1 (o_iload 2 (o_callX2 5 eX5_reason tX5_reason (fun k h => Kn (some (.int (w21 k))) h) (o_i2l (o_last (o_ic 0 (o_ret .int Kn))))))))))
set_option maxRecDepth 20000 in
theorem sL_reason {l : Launch} {z0 b N : Nat} {D : va_G} {cA : Nat → ClassId} {p : Program} {e : Env} {s : State} {m : MethodId} {args : Array Value} {below : List Frame} {meth : Method} {c : Code} {Kn : Option Value → ZH → Prop} {h0 : ZH} (hlt : l.stackTraces = false) (C : zCx p l (zRm 8 1 125) s m args meth c cL_reason 5 RL z0 D cA 1) (hr : meth.sig.returnType = some .int) (htab : c.exceptionTable.toList = tableOf [(0, 10, 13, 25)]) : Snd p l e (zRm 8 1 125) s m args below meth c 5 z0 b (zI z0 b N D cA s) (fun _ => (0, 0)) (zQw below z0 b N D cA Kn h0 args s) 0 (bL_reason Kn) := by
  obtain ⟨hx, hb, hml, hown, hts, -⟩ := id C
  unfold bL_reason
  refine k_aload_n hx hb dL_reason_0 rfl ?_
  refine k_iconst hx hb dL_reason_1 (by decide) ?_
  refine k_aload_n hx hb dL_reason_2 rfl ?_
  refine k_iload_n hx hb dL_reason_3 rfl ?_
  refine k_iload_n hx hb dL_reason_4 rfl ?_
  refine k_callX2 C (ci := 5) (Tf := TX5) (Nf := 6) (Cn := RX5) rfl (mX5_reason hlt) rfl zlL_83 zmX5_reason zvX5_reason ziX5 zcX5_reason (by decide +kernel) ⟨Nat.le_of_ble_eq_true rfl, Nat.le_of_ble_eq_true rfl⟩ ⟨Nat.le_of_ble_eq_true rfl, Nat.le_of_ble_eq_true rfl⟩ dL_reason_5 ?_ ?_
  · rintro a h k ⟨-, x, y, -, rfl, -⟩
    · exact z_hand C hr htab (k := 2) [] (⟨0, 10, 13, 25⟩ : ExceptionTableEntry) [] rfl (fun z hz => absurd hz List.not_mem_nil) (by decide) (by decide) znL_25 (by decide +kernel) (len := 2) (fun H locs L q hL kk => st_w hx hb dL_reason_13 (by decide) hL kk) dL_reason_15 (by decide) dL_reason_16
  refine k_i2l hx hb dL_reason_8 ?_
  refine k_last C dL_reason_9 ?_
  refine k_goto (tgt := 17) hx hb dL_reason_10 (by decide) ?_
  refine k_iconst hx hb dL_reason_17 (by decide) ?_
  exact k_ret C hr dL_reason_18
def tL_reason : List Value → ZH → (Option Value → ZH → Prop) → Prop := fun a h Kn => ∃ (x : Int32) (y : Int32), tLw ovI w21 eX5_reason tX5_reason [.int x, .int y] a h Kn
set_option maxRecDepth 20000 in
theorem vL_reason {l : Launch} {z0 b N : Nat} {D : va_G} {cA : Nat → ClassId} (hlt : l.stackTraces = false) : SemW l z0 b N D cA yL_reason cL_reason 5 [(0, 10, 13, 25)] 8 125 4 tL_reason := by
  refine semW_of hlt (by decide +kernel) (by decide) (fun p e s m args below meth c a h Kn hok hN C hr htab => sL_reason hlt C hr htab _ _ _ ?_)
  obtain ⟨x, y, σ, μ, o, f0, g, rfl, rfl, hsim, hK⟩ := hN
  obtain ⟨h1, h2⟩ := hsim (pM μ (pO o f0))
  simp only [bL_reason, o_aload, o_iload, o_ic, o_callX0, o_callX1, o_callX2, o_callX3, o_callX4, zcallX, zLw_0, zE, List.map_cons, List.map_nil, List.length_cons, List.length_nil, List.replicate_succ, List.replicate_zero, List.cons_append, List.nil_append, List.append_nil, List.getElem?_cons_zero, List.getElem?_cons_succ, Nat.reduceAdd, Nat.reduceSub, Nat.zero_add, Nat.add_zero, zok_nil, zok_ref, zok_int, true_and, and_true, Nat.reduceLT, Nat.reduceLeDiff]
  refine ⟨fun k hk => ?_, fun hk => ?_⟩
  · obtain ⟨e1, e2⟩ := h1 k hk
    have e3 := hK σ o e2 (fun h => absurd (e1.symm.trans h) (by unfold w21; (try split) <;> (try split) <;> decide))
    rw [e1] at e3
    exact e3
  · obtain ⟨e1, e2⟩ := h2 hk
    exact e2 _ (fun σ' hrel => w_tailI e1 hrel hK)
def bL_count (Kn : Option Value → ZH → Prop) : ZK ZH := (o_aload 4 (o_ic 0 (o_aload 0 (o_iload 1 (o_iload 2 (o_iload 3 (o_callX3 5 eX5_count tX5_count (fun k h => Kn (some (.int (w01 k))) h) (o_i2l (o_last (o_ic 0 (o_ret .int Kn)))))))))))
set_option maxRecDepth 20000 in
theorem sL_count {l : Launch} {z0 b N : Nat} {D : va_G} {cA : Nat → ClassId} {p : Program} {e : Env} {s : State} {m : MethodId} {args : Array Value} {below : List Frame} {meth : Method} {c : Code} {Kn : Option Value → ZH → Prop} {h0 : ZH} (hlt : l.stackTraces = false) (C : zCx p l (zRm 8 1 128) s m args meth c cL_count 6 RL z0 D cA 1) (hr : meth.sig.returnType = some .int) (htab : c.exceptionTable.toList = tableOf [(0, 12, 15, 13)]) : Snd p l e (zRm 8 1 128) s m args below meth c 6 z0 b (zI z0 b N D cA s) (fun _ => (0, 0)) (zQw below z0 b N D cA Kn h0 args s) 0 (bL_count Kn) := by
  obtain ⟨hx, hb, hml, hown, hts, -⟩ := id C
  unfold bL_count
  refine k_aload hx hb dL_count_0 ?_
  refine k_iconst hx hb dL_count_2 (by decide) ?_
  refine k_aload_n hx hb dL_count_3 rfl ?_
  refine k_iload_n hx hb dL_count_4 rfl ?_
  refine k_iload_n hx hb dL_count_5 rfl ?_
  refine k_iload_n hx hb dL_count_6 rfl ?_
  refine k_callX3 C (ci := 5) (Tf := TX5) (Nf := 6) (Cn := RX5) rfl (mX5_count hlt) rfl zlL_87 zmX5_count zvX5_count ziX5 zcX5_count (by decide +kernel) ⟨Nat.le_of_ble_eq_true rfl, Nat.le_of_ble_eq_true rfl⟩ ⟨Nat.le_of_ble_eq_true rfl, Nat.le_of_ble_eq_true rfl⟩ dL_count_7 ?_ ?_
  · rintro a h k ⟨-, x, y, z, -, rfl, -⟩
    · exact z_hand C hr htab (k := 0) [] (⟨0, 12, 15, 13⟩ : ExceptionTableEntry) [] rfl (fun z hz => absurd hz List.not_mem_nil) (by decide) (by decide) znL_13 (by decide +kernel) (len := 2) (fun H locs L q hL kk => st_w hx hb dL_count_15 (by decide) hL kk) dL_count_17 (by decide) dL_count_18
  refine k_i2l hx hb dL_count_10 ?_
  refine k_last C dL_count_11 ?_
  refine k_goto (tgt := 19) hx hb dL_count_12 (by decide) ?_
  refine k_iconst hx hb dL_count_19 (by decide) ?_
  exact k_ret C hr dL_count_20
def tL_count : List Value → ZH → (Option Value → ZH → Prop) → Prop := fun a h Kn => ∃ (x : Int32) (y : Int32) (z : Int32), tLw ovI w01 eX5_count tX5_count [.int x, .int y, .int z] a h Kn
set_option maxRecDepth 20000 in
theorem vL_count {l : Launch} {z0 b N : Nat} {D : va_G} {cA : Nat → ClassId} (hlt : l.stackTraces = false) : SemW l z0 b N D cA yL_count cL_count 6 [(0, 12, 15, 13)] 8 128 5 tL_count := by
  refine semW_of hlt (by decide +kernel) (by decide) (fun p e s m args below meth c a h Kn hok hN C hr htab => sL_count hlt C hr htab _ _ _ ?_)
  obtain ⟨x, y, z, σ, μ, o, f0, g, rfl, rfl, hsim, hK⟩ := hN
  obtain ⟨h1, h2⟩ := hsim (pM μ (pO o f0))
  simp only [bL_count, o_aload, o_iload, o_ic, o_callX0, o_callX1, o_callX2, o_callX3, o_callX4, zcallX, zLw_0, zE, List.map_cons, List.map_nil, List.length_cons, List.length_nil, List.replicate_succ, List.replicate_zero, List.cons_append, List.nil_append, List.append_nil, List.getElem?_cons_zero, List.getElem?_cons_succ, Nat.reduceAdd, Nat.reduceSub, Nat.zero_add, Nat.add_zero, zok_nil, zok_ref, zok_int, true_and, and_true, Nat.reduceLT, Nat.reduceLeDiff]
  refine ⟨fun k hk => ?_, fun hk => ?_⟩
  · obtain ⟨e1, e2⟩ := h1 k hk
    have e3 := hK σ o e2 (fun h => absurd (e1.symm.trans h) (by unfold w01; (try split) <;> (try split) <;> decide))
    rw [e1] at e3
    exact e3
  · obtain ⟨e1, e2⟩ := h2 hk
    exact e2 _ (fun σ' hrel => w_tailI e1 hrel hK)
def bL_match (Kn : Option Value → ZH → Prop) : ZK ZH := (o_aload 5 (o_ic 0 (o_aload 0 (o_iload 1 (o_iload 2 (o_iload 3 (o_iload 4 (o_callX4 5 eX5_match tX5_match (fun k h => Kn (some (.int (w21 k))) h) (o_i2l (o_last (o_ic 0 (o_ret .int Kn))))))))))))
set_option maxRecDepth 20000 in
theorem sL_match {l : Launch} {z0 b N : Nat} {D : va_G} {cA : Nat → ClassId} {p : Program} {e : Env} {s : State} {m : MethodId} {args : Array Value} {below : List Frame} {meth : Method} {c : Code} {Kn : Option Value → ZH → Prop} {h0 : ZH} (hlt : l.stackTraces = false) (C : zCx p l (zRm 8 1 130) s m args meth c cL_match 7 RL z0 D cA 1) (hr : meth.sig.returnType = some .int) (htab : c.exceptionTable.toList = tableOf [(0, 14, 17, 25), (0, 14, 21, 13)]) : Snd p l e (zRm 8 1 130) s m args below meth c 7 z0 b (zI z0 b N D cA s) (fun _ => (0, 0)) (zQw below z0 b N D cA Kn h0 args s) 0 (bL_match Kn) := by
  obtain ⟨hx, hb, hml, hown, hts, -⟩ := id C
  unfold bL_match
  refine k_aload hx hb dL_match_0 ?_
  refine k_iconst hx hb dL_match_2 (by decide) ?_
  refine k_aload_n hx hb dL_match_3 rfl ?_
  refine k_iload_n hx hb dL_match_4 rfl ?_
  refine k_iload_n hx hb dL_match_5 rfl ?_
  refine k_iload_n hx hb dL_match_6 rfl ?_
  refine k_iload hx hb dL_match_7 ?_
  refine k_callX4 C (ci := 5) (Tf := TX5) (Nf := 6) (Cn := RX5) rfl (mX5_match hlt) rfl zlL_90 zmX5_match zvX5_match ziX5 zcX5_match (by decide +kernel) ⟨Nat.le_of_ble_eq_true rfl, Nat.le_of_ble_eq_true rfl⟩ ⟨Nat.le_of_ble_eq_true rfl, Nat.le_of_ble_eq_true rfl⟩ dL_match_9 ?_ ?_
  · rintro a h k ⟨-, p, x, y, z, -, ⟨-, rfl⟩ | ⟨-, -, rfl⟩ | ⟨-, -, -, rfl⟩⟩
    · exact z_hand C hr htab (k := 2) [] (⟨0, 14, 17, 25⟩ : ExceptionTableEntry) [(⟨0, 14, 21, 13⟩ : ExceptionTableEntry)] rfl (fun z hz => absurd hz List.not_mem_nil) (by decide) (by decide) znL_25 (by decide +kernel) (len := 2) (fun H locs L q hL kk => st_w hx hb dL_match_17 (by decide) hL kk) dL_match_19 (by decide) dL_match_20
    · exact z_hand C hr htab (k := 0) [(⟨0, 14, 17, 25⟩ : ExceptionTableEntry)] (⟨0, 14, 21, 13⟩ : ExceptionTableEntry) [] rfl (fun z hz => by
        simp only [List.mem_cons, List.not_mem_nil, or_false] at hz
        rcases hz with rfl
        · exact ⟨by decide, "java/lang/IndexOutOfBoundsException", znL_25, by decide +kernel⟩
        ) (by decide) (by decide) znL_13 (by decide +kernel) (len := 2) (fun H locs L q hL kk => st_w hx hb dL_match_21 (by decide) hL kk) dL_match_23 (by decide) dL_match_24
    · exact z_hand C hr htab (k := 2) [] (⟨0, 14, 17, 25⟩ : ExceptionTableEntry) [(⟨0, 14, 21, 13⟩ : ExceptionTableEntry)] rfl (fun z hz => absurd hz List.not_mem_nil) (by decide) (by decide) znL_25 (by decide +kernel) (len := 2) (fun H locs L q hL kk => st_w hx hb dL_match_17 (by decide) hL kk) dL_match_19 (by decide) dL_match_20
  refine k_i2l hx hb dL_match_12 ?_
  refine k_last C dL_match_13 ?_
  refine k_goto (tgt := 25) hx hb dL_match_14 (by decide) ?_
  refine k_iconst hx hb dL_match_25 (by decide) ?_
  exact k_ret C hr dL_match_26
def tL_match : List Value → ZH → (Option Value → ZH → Prop) → Prop := fun a h Kn => ∃ (p : Int32) (x : Int32) (y : Int32) (z : Int32), tLw ovI w21 eX5_match tX5_match [.int p, .int x, .int y, .int z] a h Kn
set_option maxRecDepth 20000 in
theorem vL_match {l : Launch} {z0 b N : Nat} {D : va_G} {cA : Nat → ClassId} (hlt : l.stackTraces = false) : SemW l z0 b N D cA yL_match cL_match 7 [(0, 14, 17, 25), (0, 14, 21, 13)] 8 130 6 tL_match := by
  refine semW_of hlt (by decide +kernel) (by decide) (fun p e s m args below meth c a h Kn hok hN C hr htab => sL_match hlt C hr htab _ _ _ ?_)
  obtain ⟨p, x, y, z, σ, μ, o, f0, g, rfl, rfl, hsim, hK⟩ := hN
  obtain ⟨h1, h2⟩ := hsim (pM μ (pO o f0))
  simp only [bL_match, o_aload, o_iload, o_ic, o_callX0, o_callX1, o_callX2, o_callX3, o_callX4, zcallX, zLw_0, zE, List.map_cons, List.map_nil, List.length_cons, List.length_nil, List.replicate_succ, List.replicate_zero, List.cons_append, List.nil_append, List.append_nil, List.getElem?_cons_zero, List.getElem?_cons_succ, Nat.reduceAdd, Nat.reduceSub, Nat.zero_add, Nat.add_zero, zok_nil, zok_ref, zok_int, true_and, and_true, Nat.reduceLT, Nat.reduceLeDiff]
  refine ⟨fun k hk => ?_, fun hk => ?_⟩
  · obtain ⟨e1, e2⟩ := h1 k hk
    have e3 := hK σ o e2 (fun h => absurd (e1.symm.trans h) (by unfold w21; (try split) <;> (try split) <;> decide))
    rw [e1] at e3
    exact e3
  · obtain ⟨e1, e2⟩ := h2 hk
    exact e2 _ (fun σ' hrel => w_tailI e1 hrel hK)
