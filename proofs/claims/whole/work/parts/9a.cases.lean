theorem ziL : Cond.initialized RL ∈ zWS := zws_mem 42 (by decide +kernel) rfl
theorem zlL_104 : Cond.methodLink RL 104 yX6_thrown ∈ zWS := zws_mem 765 (by decide +kernel) rfl
theorem zmX6_thrown : Cond.instanceMethod yX6_thrown ∈ zWS := zws_mem 766 (by decide +kernel) rfl
theorem zvX6_thrown : Cond.selects RX6 yX6_thrown yX6_thrown ∈ zWS := zws_mem 767 (by decide +kernel) rfl
theorem zcX6_thrown : Cond.code yX6_thrown cX6_thrown 1 (some .int) ∈ zWS := zws_mem 768 (by decide +kernel) rfl
theorem zlL_103 : Cond.methodLink RL 103 yX6_type ∈ zWS := zws_mem 769 (by decide +kernel) rfl
theorem zmX6_type : Cond.instanceMethod yX6_type ∈ zWS := zws_mem 770 (by decide +kernel) rfl
theorem zvX6_type : Cond.selects RX6 yX6_type yX6_type ∈ zWS := zws_mem 771 (by decide +kernel) rfl
theorem zcX6_type : Cond.code yX6_type cX6_type 2 (some .int) ∈ zWS := zws_mem 772 (by decide +kernel) rfl
theorem zlL_98 : Cond.methodLink RL 98 yL_type ∈ zWS := zws_mem 224 (by decide +kernel) rfl
theorem zlL_110 : Cond.methodLink RL 110 yX6_enter ∈ zWS := zws_mem 783 (by decide +kernel) rfl
theorem zmX6_enter : Cond.instanceMethod yX6_enter ∈ zWS := zws_mem 784 (by decide +kernel) rfl
theorem zvX6_enter : Cond.selects RX6 yX6_enter yX6_enter ∈ zWS := zws_mem 785 (by decide +kernel) rfl
theorem zcX6_enter : Cond.code yX6_enter cX6_enter 3 (some .int) ∈ zWS := zws_mem 786 (by decide +kernel) rfl
theorem zlL_107 : Cond.methodLink RL 107 yL_enter ∈ zWS := zws_mem 324 (by decide +kernel) rfl
theorem zlL_111 : Cond.methodLink RL 111 yX5_tags ∈ zWS := zws_mem 212 (by decide +kernel) rfl
theorem zmX5_tags : Cond.instanceMethod yX5_tags ∈ zWS := zws_mem 213 (by decide +kernel) rfl
theorem zvX5_tags : Cond.selects RX5 yX5_tags yX5_tags ∈ zWS := zws_mem 214 (by decide +kernel) rfl
theorem zcX5_tags : Cond.code yX5_tags cX5_tags 1 (some .int) ∈ zWS := zws_mem 215 (by decide +kernel) rfl
theorem zlL_114 : Cond.methodLink RL 114 yX6_tags ∈ zWS := zws_mem 791 (by decide +kernel) rfl
theorem zmX6_tags : Cond.instanceMethod yX6_tags ∈ zWS := zws_mem 792 (by decide +kernel) rfl
theorem zvX6_tags : Cond.selects RX6 yX6_tags yX6_tags ∈ zWS := zws_mem 793 (by decide +kernel) rfl
theorem zcX6_tags : Cond.code yX6_tags cX6_tags 1 (some .int) ∈ zWS := zws_mem 794 (by decide +kernel) rfl
theorem zlL_118 : Cond.methodLink RL 118 yX6_letter ∈ zWS := zws_mem 795 (by decide +kernel) rfl
theorem zmX6_letter : Cond.instanceMethod yX6_letter ∈ zWS := zws_mem 796 (by decide +kernel) rfl
theorem zvX6_letter : Cond.selects RX6 yX6_letter yX6_letter ∈ zWS := zws_mem 797 (by decide +kernel) rfl
theorem zcX6_letter : Cond.code yX6_letter cX6_letter 3 (some .char) ∈ zWS := zws_mem 798 (by decide +kernel) rfl
theorem zlL_115 : Cond.methodLink RL 115 yL_letter ∈ zWS := zws_mem 379 (by decide +kernel) rfl
theorem zlL_121 : Cond.methodLink RL 121 yX6_addThing ∈ zWS := zws_mem 806 (by decide +kernel) rfl
theorem zmX6_addThing : Cond.instanceMethod yX6_addThing ∈ zWS := zws_mem 807 (by decide +kernel) rfl
theorem zvX6_addThing : Cond.selects RX6 yX6_addThing yX6_addThing ∈ zWS := zws_mem 808 (by decide +kernel) rfl
theorem zcX6_addThing : Cond.code yX6_addThing cX6_addThing 1 (some .int) ∈ zWS := zws_mem 809 (by decide +kernel) rfl
theorem zlL_119 : Cond.methodLink RL 119 yL_addThing ∈ zWS := zws_mem 409 (by decide +kernel) rfl
theorem zlL_122 : Cond.methodLink RL 122 yX5_things ∈ zWS := zws_mem 216 (by decide +kernel) rfl
theorem zmX5_things : Cond.instanceMethod yX5_things ∈ zWS := zws_mem 217 (by decide +kernel) rfl
theorem zvX5_things : Cond.selects RX5 yX5_things yX5_things ∈ zWS := zws_mem 218 (by decide +kernel) rfl
theorem zcX5_things : Cond.code yX5_things cX5_things 1 (some .int) ∈ zWS := zws_mem 219 (by decide +kernel) rfl
theorem zlL_125 : Cond.methodLink RL 125 yX6_things ∈ zWS := zws_mem 810 (by decide +kernel) rfl
theorem zmX6_things : Cond.instanceMethod yX6_things ∈ zWS := zws_mem 811 (by decide +kernel) rfl
theorem zvX6_things : Cond.selects RX6 yX6_things yX6_things ∈ zWS := zws_mem 812 (by decide +kernel) rfl
theorem zcX6_things : Cond.code yX6_things cX6_things 1 (some .int) ∈ zWS := zws_mem 813 (by decide +kernel) rfl
theorem zlL_128 : Cond.methodLink RL 128 yX6_tag ∈ zWS := zws_mem 814 (by decide +kernel) rfl
theorem zmX6_tag : Cond.instanceMethod yX6_tag ∈ zWS := zws_mem 815 (by decide +kernel) rfl
theorem zvX6_tag : Cond.selects RX6 yX6_tag yX6_tag ∈ zWS := zws_mem 816 (by decide +kernel) rfl
theorem zcX6_tag : Cond.code yX6_tag cX6_tag 3 (some .boolean) ∈ zWS := zws_mem 817 (by decide +kernel) rfl
theorem zlL_126 : Cond.methodLink RL 126 yL_tag ∈ zWS := zws_mem 417 (by decide +kernel) rfl
theorem zlL_131 : Cond.methodLink RL 131 yX6_untag ∈ zWS := zws_mem 838 (by decide +kernel) rfl
theorem zmX6_untag : Cond.instanceMethod yX6_untag ∈ zWS := zws_mem 839 (by decide +kernel) rfl
theorem zvX6_untag : Cond.selects RX6 yX6_untag yX6_untag ∈ zWS := zws_mem 840 (by decide +kernel) rfl
theorem zcX6_untag : Cond.code yX6_untag cX6_untag 3 (some .boolean) ∈ zWS := zws_mem 841 (by decide +kernel) rfl
theorem zlL_129 : Cond.methodLink RL 129 yL_untag ∈ zWS := zws_mem 463 (by decide +kernel) rfl
theorem zlL_135 : Cond.methodLink RL 135 yX6_mass ∈ zWS := zws_mem 842 (by decide +kernel) rfl
theorem zmX6_mass : Cond.instanceMethod yX6_mass ∈ zWS := zws_mem 843 (by decide +kernel) rfl
theorem zvX6_mass : Cond.selects RX6 yX6_mass yX6_mass ∈ zWS := zws_mem 844 (by decide +kernel) rfl
theorem zcX6_mass : Cond.code yX6_mass cX6_mass 7 (some .int) ∈ zWS := zws_mem 845 (by decide +kernel) rfl
theorem zlL_132 : Cond.methodLink RL 132 yL_mass ∈ zWS := zws_mem 470 (by decide +kernel) rfl
theorem zlL_138 : Cond.methodLink RL 138 yX6_undo ∈ zWS := zws_mem 873 (by decide +kernel) rfl
theorem zmX6_undo : Cond.instanceMethod yX6_undo ∈ zWS := zws_mem 874 (by decide +kernel) rfl
theorem zvX6_undo : Cond.selects RX6 yX6_undo yX6_undo ∈ zWS := zws_mem 875 (by decide +kernel) rfl
theorem zcX6_undo : Cond.code yX6_undo cX6_undo 2 (some .int) ∈ zWS := zws_mem 876 (by decide +kernel) rfl
theorem zlL_136 : Cond.methodLink RL 136 yL_undo ∈ zWS := zws_mem 483 (by decide +kernel) rfl
theorem zlL_139 : Cond.methodLink RL 139 yX5_kept ∈ zWS := zws_mem 220 (by decide +kernel) rfl
theorem zmX5_kept : Cond.instanceMethod yX5_kept ∈ zWS := zws_mem 221 (by decide +kernel) rfl
theorem zvX5_kept : Cond.selects RX5 yX5_kept yX5_kept ∈ zWS := zws_mem 222 (by decide +kernel) rfl
theorem zcX5_kept : Cond.code yX5_kept cX5_kept 1 (some .int) ∈ zWS := zws_mem 223 (by decide +kernel) rfl
theorem zlL_142 : Cond.methodLink RL 142 yX6_kept ∈ zWS := zws_mem 880 (by decide +kernel) rfl
theorem zmX6_kept : Cond.instanceMethod yX6_kept ∈ zWS := zws_mem 881 (by decide +kernel) rfl
theorem zvX6_kept : Cond.selects RX6 yX6_kept yX6_kept ∈ zWS := zws_mem 882 (by decide +kernel) rfl
theorem zcX6_kept : Cond.code yX6_kept cX6_kept 1 (some .int) ∈ zWS := zws_mem 883 (by decide +kernel) rfl
theorem zlL_146 : Cond.methodLink RL 146 yX6_hand ∈ zWS := zws_mem 884 (by decide +kernel) rfl
theorem zmX6_hand : Cond.instanceMethod yX6_hand ∈ zWS := zws_mem 885 (by decide +kernel) rfl
theorem zvX6_hand : Cond.selects RX6 yX6_hand yX6_hand ∈ zWS := zws_mem 886 (by decide +kernel) rfl
theorem zcX6_hand : Cond.code yX6_hand cX6_hand 2 (some .int) ∈ zWS := zws_mem 887 (by decide +kernel) rfl
theorem zlL_143 : Cond.methodLink RL 143 yL_hand ∈ zWS := zws_mem 496 (by decide +kernel) rfl
theorem zlL_149 : Cond.methodLink RL 149 yX6_ask ∈ zWS := zws_mem 888 (by decide +kernel) rfl
theorem zmX6_ask : Cond.instanceMethod yX6_ask ∈ zWS := zws_mem 889 (by decide +kernel) rfl
theorem zvX6_ask : Cond.selects RX6 yX6_ask yX6_ask ∈ zWS := zws_mem 890 (by decide +kernel) rfl
theorem zcX6_ask : Cond.code yX6_ask cX6_ask 5 (some .int) ∈ zWS := zws_mem 891 (by decide +kernel) rfl
theorem zlL_147 : Cond.methodLink RL 147 yL_ask ∈ zWS := zws_mem 503 (by decide +kernel) rfl
theorem zlL_153 : Cond.methodLink RL 153 yX6_vote ∈ zWS := zws_mem 892 (by decide +kernel) rfl
theorem zmX6_vote : Cond.instanceMethod yX6_vote ∈ zWS := zws_mem 893 (by decide +kernel) rfl
theorem zvX6_vote : Cond.selects RX6 yX6_vote yX6_vote ∈ zWS := zws_mem 894 (by decide +kernel) rfl
theorem zcX6_vote : Cond.code yX6_vote cX6_vote 8 (some .int) ∈ zWS := zws_mem 895 (by decide +kernel) rfl
theorem zlL_150 : Cond.methodLink RL 150 yL_vote ∈ zWS := zws_mem 517 (by decide +kernel) rfl
theorem zlL_156 : Cond.methodLink RL 156 yX6_standing ∈ zWS := zws_mem 916 (by decide +kernel) rfl
theorem zmX6_standing : Cond.instanceMethod yX6_standing ∈ zWS := zws_mem 917 (by decide +kernel) rfl
theorem zvX6_standing : Cond.selects RX6 yX6_standing yX6_standing ∈ zWS := zws_mem 918 (by decide +kernel) rfl
theorem zcX6_standing : Cond.code yX6_standing cX6_standing 2 (some .int) ∈ zWS := zws_mem 919 (by decide +kernel) rfl
theorem zlL_154 : Cond.methodLink RL 154 yL_standing ∈ zWS := zws_mem 567 (by decide +kernel) rfl
theorem zlL_159 : Cond.methodLink RL 159 yX6_couldPass ∈ zWS := zws_mem 920 (by decide +kernel) rfl
theorem zmX6_couldPass : Cond.instanceMethod yX6_couldPass ∈ zWS := zws_mem 921 (by decide +kernel) rfl
theorem zvX6_couldPass : Cond.selects RX6 yX6_couldPass yX6_couldPass ∈ zWS := zws_mem 922 (by decide +kernel) rfl
theorem zcX6_couldPass : Cond.code yX6_couldPass cX6_couldPass 2 (some .boolean) ∈ zWS := zws_mem 923 (by decide +kernel) rfl
theorem zlL_157 : Cond.methodLink RL 157 yL_couldPass ∈ zWS := zws_mem 574 (by decide +kernel) rfl
theorem zlL_162 : Cond.methodLink RL 162 yX6_clashes ∈ zWS := zws_mem 924 (by decide +kernel) rfl
theorem zmX6_clashes : Cond.instanceMethod yX6_clashes ∈ zWS := zws_mem 925 (by decide +kernel) rfl
theorem zvX6_clashes : Cond.selects RX6 yX6_clashes yX6_clashes ∈ zWS := zws_mem 926 (by decide +kernel) rfl
theorem zcX6_clashes : Cond.code yX6_clashes cX6_clashes 6 (some .int) ∈ zWS := zws_mem 927 (by decide +kernel) rfl
theorem zlL_160 : Cond.methodLink RL 160 yL_clashes ∈ zWS := zws_mem 585 (by decide +kernel) rfl
theorem zlL_165 : Cond.methodLink RL 165 yX6_alias ∈ zWS := zws_mem 932 (by decide +kernel) rfl
theorem zmX6_alias : Cond.instanceMethod yX6_alias ∈ zWS := zws_mem 933 (by decide +kernel) rfl
theorem zvX6_alias : Cond.selects RX6 yX6_alias yX6_alias ∈ zWS := zws_mem 934 (by decide +kernel) rfl
theorem zcX6_alias : Cond.code yX6_alias cX6_alias 2 (some .int) ∈ zWS := zws_mem 935 (by decide +kernel) rfl
theorem zlL_163 : Cond.methodLink RL 163 yL_alias ∈ zWS := zws_mem 600 (by decide +kernel) rfl
theorem zlL_168 : Cond.methodLink RL 168 yX6_end ∈ zWS := zws_mem 936 (by decide +kernel) rfl
theorem zmX6_end : Cond.instanceMethod yX6_end ∈ zWS := zws_mem 937 (by decide +kernel) rfl
theorem zvX6_end : Cond.selects RX6 yX6_end yX6_end ∈ zWS := zws_mem 938 (by decide +kernel) rfl
theorem zcX6_end : Cond.code yX6_end cX6_end 2 (some .int) ∈ zWS := zws_mem 939 (by decide +kernel) rfl
theorem zlL_166 : Cond.methodLink RL 166 yL_end ∈ zWS := zws_mem 607 (by decide +kernel) rfl
theorem zlL_171 : Cond.methodLink RL 171 yX6_implies ∈ zWS := zws_mem 940 (by decide +kernel) rfl
theorem zmX6_implies : Cond.instanceMethod yX6_implies ∈ zWS := zws_mem 941 (by decide +kernel) rfl
theorem zvX6_implies : Cond.selects RX6 yX6_implies yX6_implies ∈ zWS := zws_mem 942 (by decide +kernel) rfl
theorem zcX6_implies : Cond.code yX6_implies cX6_implies 3 (some .boolean) ∈ zWS := zws_mem 943 (by decide +kernel) rfl
theorem zlL_169 : Cond.methodLink RL 169 yL_implies ∈ zWS := zws_mem 614 (by decide +kernel) rfl
theorem zlL_174 : Cond.methodLink RL 174 yX6_shown ∈ zWS := zws_mem 944 (by decide +kernel) rfl
theorem zmX6_shown : Cond.instanceMethod yX6_shown ∈ zWS := zws_mem 945 (by decide +kernel) rfl
theorem zvX6_shown : Cond.selects RX6 yX6_shown yX6_shown ∈ zWS := zws_mem 946 (by decide +kernel) rfl
theorem zcX6_shown : Cond.code yX6_shown cX6_shown 2 (some .int) ∈ zWS := zws_mem 947 (by decide +kernel) rfl
theorem zlL_172 : Cond.methodLink RL 172 yL_shown ∈ zWS := zws_mem 621 (by decide +kernel) rfl
theorem zlL_177 : Cond.methodLink RL 177 yX6_shownByHand ∈ zWS := zws_mem 948 (by decide +kernel) rfl
theorem zmX6_shownByHand : Cond.instanceMethod yX6_shownByHand ∈ zWS := zws_mem 949 (by decide +kernel) rfl
theorem zvX6_shownByHand : Cond.selects RX6 yX6_shownByHand yX6_shownByHand ∈ zWS := zws_mem 950 (by decide +kernel) rfl
theorem zcX6_shownByHand : Cond.code yX6_shownByHand cX6_shownByHand 2 (some .int) ∈ zWS := zws_mem 951 (by decide +kernel) rfl
theorem zlL_175 : Cond.methodLink RL 175 yL_shownByHand ∈ zWS := zws_mem 632 (by decide +kernel) rfl
theorem zlL_180 : Cond.methodLink RL 180 yX6_users ∈ zWS := zws_mem 952 (by decide +kernel) rfl
theorem zmX6_users : Cond.instanceMethod yX6_users ∈ zWS := zws_mem 953 (by decide +kernel) rfl
theorem zvX6_users : Cond.selects RX6 yX6_users yX6_users ∈ zWS := zws_mem 954 (by decide +kernel) rfl
theorem zcX6_users : Cond.code yX6_users cX6_users 4 (some .int) ∈ zWS := zws_mem 955 (by decide +kernel) rfl
theorem zlL_178 : Cond.methodLink RL 178 yL_users ∈ zWS := zws_mem 643 (by decide +kernel) rfl
theorem zlL_183 : Cond.methodLink RL 183 yX6_reason ∈ zWS := zws_mem 956 (by decide +kernel) rfl
theorem zmX6_reason : Cond.instanceMethod yX6_reason ∈ zWS := zws_mem 957 (by decide +kernel) rfl
theorem zvX6_reason : Cond.selects RX6 yX6_reason yX6_reason ∈ zWS := zws_mem 958 (by decide +kernel) rfl
theorem zcX6_reason : Cond.code yX6_reason cX6_reason 7 (some .int) ∈ zWS := zws_mem 959 (by decide +kernel) rfl
theorem zlL_181 : Cond.methodLink RL 181 yL_reason ∈ zWS := zws_mem 651 (by decide +kernel) rfl
theorem zlL_186 : Cond.methodLink RL 186 yX6_count ∈ zWS := zws_mem 964 (by decide +kernel) rfl
theorem zmX6_count : Cond.instanceMethod yX6_count ∈ zWS := zws_mem 965 (by decide +kernel) rfl
theorem zvX6_count : Cond.selects RX6 yX6_count yX6_count ∈ zWS := zws_mem 966 (by decide +kernel) rfl
theorem zcX6_count : Cond.code yX6_count cX6_count 4 (some .int) ∈ zWS := zws_mem 967 (by decide +kernel) rfl
theorem zlL_184 : Cond.methodLink RL 184 yL_count ∈ zWS := zws_mem 666 (by decide +kernel) rfl
theorem zlL_190 : Cond.methodLink RL 190 yX6_match ∈ zWS := zws_mem 980 (by decide +kernel) rfl
theorem zmX6_match : Cond.instanceMethod yX6_match ∈ zWS := zws_mem 981 (by decide +kernel) rfl
theorem zvX6_match : Cond.selects RX6 yX6_match yX6_match ∈ zWS := zws_mem 982 (by decide +kernel) rfl
theorem zcX6_match : Cond.code yX6_match cX6_match 8 (some .int) ∈ zWS := zws_mem 983 (by decide +kernel) rfl
theorem zlL_187 : Cond.methodLink RL 187 yL_match ∈ zWS := zws_mem 686 (by decide +kernel) rfl
set_option maxRecDepth 20000 in
theorem sT0 {l : Launch} {z0 b Ln : Nat} {xs : Nat → Int32} {D : va_G} {cA : Nat → ClassId} {p : Program} {e : Env} {s : State} {m : MethodId} {below : List Frame} {meth : Method} {c : Code} {K : ZK ZT} (hlt : l.stackTraces = false) (C : zCx p l room_1 s m #[Value.ref b] meth c code 7 RL z0 D cA 0) (hr : meth.sig.returnType = ret) (hz9 : s.heap.size ≤ z0) (hX : va_X b Ln xs s s.heap) (hbl : b < s.heap.size) (hbz : ¬ z0 ≤ b) (hK : Snd p l e room_1 s m #[Value.ref b] below meth c 7 z0 b (iT9 z0 b 45 D cA s) cT9 (lw_Z below #[Value.ref b] s) 1685 K) : Snd p l e room_1 s m #[Value.ref b] below meth c 7 z0 b (iT9 z0 b 45 D cA s) cT9 (lw_Z below #[Value.ref b] s) 183 (bTI K) := by
  obtain ⟨hx, hb, hml, hown, hts, -⟩ := id C
  unfold bTI
  refine k_aload_n hx hb dL_law_183 rfl ?_
  refine k_callM0 C (ci := 6) (Tf := TX6) (Nf := 20) (Cn := RX6) rfl (mX6_thrown hlt) rfl zlL_104 zmX6_thrown zvX6_thrown ziX6 zcX6_thrown (by decide +kernel) ⟨Nat.le_of_ble_eq_true rfl, Nat.le_of_ble_eq_true rfl⟩ ⟨Nat.le_of_ble_eq_true rfl, rfl, rfl⟩ dL_law_184 ?_
  refine k_iload hx hb dL_law_187 ?_
  refine k_icmp_eq (tgt := 194) hx hb dL_law_189 (by decide) ?_ ?_
  · refine k_iload hx hb dL_law_194 ?_
    refine k_if_ne (tgt := 211) hx hb dL_law_196 (by decide) ?_ ?_
    · refine k_goto (tgt := 1685) hx hb dL_law_211 (by decide) ?_
      exact hK
    · refine k_aload_n hx hb dL_law_199 rfl ?_
      refine k_iconst hx hb dL_law_200 (by decide) ?_
      refine k_laldT C dL_law_201 ?_
      refine k_iload hx hb dL_law_202 ?_
      refine k_i2l hx hb dL_law_204 ?_
      refine k_lcmp hx hb dL_law_205 ?_
      refine k_if_eq (tgt := 211) hx hb dL_law_206 (by decide) ?_ ?_
      · refine k_goto (tgt := 1685) hx hb dL_law_211 (by decide) ?_
        exact hK
      · refine k_iconst hx hb dL_law_209 (by decide) ?_
        exact k_lend C hr hz9 dL_law_210
  · refine k_iconst hx hb dL_law_192 (by decide) ?_
    exact k_lend C hr hz9 dL_law_193
def bB0 (xs : Nat → Int32) (Ln : Nat) (K : ZK ZT) : ZK ZT := (o_aload 2 (o_alS 0 (o_iload 4 (o_ic 1 (o_bin (fun x y => x + y) (o_sld xs Ln (o_i2c (o_callM1 6 tX6_type (o_istore 6 (bTI K))))))))))
set_option maxRecDepth 20000 in
theorem sB0 {l : Launch} {z0 b Ln : Nat} {xs : Nat → Int32} {D : va_G} {cA : Nat → ClassId} {p : Program} {e : Env} {s : State} {m : MethodId} {below : List Frame} {meth : Method} {c : Code} {K : ZK ZT} (hlt : l.stackTraces = false) (C : zCx p l room_1 s m #[Value.ref b] meth c code 7 RL z0 D cA 0) (hr : meth.sig.returnType = ret) (hz9 : s.heap.size ≤ z0) (hX : va_X b Ln xs s s.heap) (hbl : b < s.heap.size) (hbz : ¬ z0 ≤ b) (hK : Snd p l e room_1 s m #[Value.ref b] below meth c 7 z0 b (iT9 z0 b 45 D cA s) cT9 (lw_Z below #[Value.ref b] s) 1685 K) : Snd p l e room_1 s m #[Value.ref b] below meth c 7 z0 b (iT9 z0 b 45 D cA s) cT9 (lw_Z below #[Value.ref b] s) 170 (bB0 xs Ln K) := by
  obtain ⟨hx, hb, hml, hown, hts, -⟩ := id C
  unfold bB0
  refine k_aload_n hx hb dL_law_170 rfl ?_
  refine k_alS hx hb dL_law_171 rfl ?_
  refine k_iload hx hb dL_law_172 ?_
  refine k_iconst hx hb dL_law_174 (by decide) ?_
  refine k_iadd hx hb dL_law_175 ?_
  refine k_sld hx hb hX hbl hbz dL_law_176 ?_
  refine k_i2c hx hb dL_law_177 ?_
  refine k_callM1 C (ci := 6) (Tf := TX6) (Nf := 20) (Cn := RX6) rfl (mX6_type hlt) rfl zlL_103 zmX6_type zvX6_type ziX6 zcX6_type (by decide +kernel) ⟨Nat.le_of_ble_eq_true rfl, Nat.le_of_ble_eq_true rfl⟩ ⟨Nat.le_of_ble_eq_true rfl, rfl, rfl⟩ dL_law_178 ?_
  refine k_istore hx hb dL_law_181 ?_
  exact sT0 hlt C hr hz9 hX hbl hbz hK
def bD0 (xs : Nat → Int32) (Ln : Nat) (K : ZK ZT) : ZK ZT := (o_aload 1 (o_alS 0 (o_iload 4 (o_ic 1 (o_bin (fun x y => x + y) (o_sld xs Ln (o_i2c (o_aload 3 (o_callW3 tL_type (o_istore 5 (bB0 xs Ln K)))))))))))
set_option maxRecDepth 20000 in
theorem sD0 {l : Launch} {z0 b Ln : Nat} {xs : Nat → Int32} {D : va_G} {cA : Nat → ClassId} {p : Program} {e : Env} {s : State} {m : MethodId} {below : List Frame} {meth : Method} {c : Code} {K : ZK ZT} (hlt : l.stackTraces = false) (C : zCx p l room_1 s m #[Value.ref b] meth c code 7 RL z0 D cA 0) (hr : meth.sig.returnType = ret) (hz9 : s.heap.size ≤ z0) (hX : va_X b Ln xs s s.heap) (hbl : b < s.heap.size) (hbz : ¬ z0 ≤ b) (hK : Snd p l e room_1 s m #[Value.ref b] below meth c 7 z0 b (iT9 z0 b 45 D cA s) cT9 (lw_Z below #[Value.ref b] s) 1685 K) : Snd p l e room_1 s m #[Value.ref b] below meth c 7 z0 b (iT9 z0 b 45 D cA s) cT9 (lw_Z below #[Value.ref b] s) 156 (bD0 xs Ln K) := by
  obtain ⟨hx, hb, hml, hown, hts, -⟩ := id C
  unfold bD0
  refine k_aload_n hx hb dL_law_156 rfl ?_
  refine k_alS hx hb dL_law_157 rfl ?_
  refine k_iload hx hb dL_law_158 ?_
  refine k_iconst hx hb dL_law_160 (by decide) ?_
  refine k_iadd hx hb dL_law_161 ?_
  refine k_sld hx hb hX hbl hbz dL_law_162 ?_
  refine k_i2c hx hb dL_law_163 ?_
  refine k_aload_n hx hb dL_law_164 rfl ?_
  refine k_callW3 C (vL_type hlt) zlL_98 zsL_type ziL zwL_type (by decide +kernel) ⟨Nat.le_of_ble_eq_true rfl, Nat.le_of_ble_eq_true rfl⟩ ⟨rfl, rfl⟩ dL_law_165 ?_
  refine k_istore hx hb dL_law_168 ?_
  exact sB0 hlt C hr hz9 hX hbl hbz hK
set_option maxRecDepth 20000 in
theorem sT1 {l : Launch} {z0 b Ln : Nat} {xs : Nat → Int32} {D : va_G} {cA : Nat → ClassId} {p : Program} {e : Env} {s : State} {m : MethodId} {below : List Frame} {meth : Method} {c : Code} {K : ZK ZT} (hlt : l.stackTraces = false) (C : zCx p l room_1 s m #[Value.ref b] meth c code 7 RL z0 D cA 0) (hr : meth.sig.returnType = ret) (hz9 : s.heap.size ≤ z0) (hX : va_X b Ln xs s s.heap) (hbl : b < s.heap.size) (hbz : ¬ z0 ≤ b) (hK : Snd p l e room_1 s m #[Value.ref b] below meth c 7 z0 b (iT9 z0 b 45 D cA s) cT9 (lw_Z below #[Value.ref b] s) 1685 K) : Snd p l e room_1 s m #[Value.ref b] below meth c 7 z0 b (iT9 z0 b 45 D cA s) cT9 (lw_Z below #[Value.ref b] s) 227 (bTI K) := by
  obtain ⟨hx, hb, hml, hown, hts, -⟩ := id C
  unfold bTI
  refine k_aload_n hx hb dL_law_227 rfl ?_
  refine k_callM0 C (ci := 6) (Tf := TX6) (Nf := 20) (Cn := RX6) rfl (mX6_thrown hlt) rfl zlL_104 zmX6_thrown zvX6_thrown ziX6 zcX6_thrown (by decide +kernel) ⟨Nat.le_of_ble_eq_true rfl, Nat.le_of_ble_eq_true rfl⟩ ⟨Nat.le_of_ble_eq_true rfl, rfl, rfl⟩ dL_law_228 ?_
  refine k_iload hx hb dL_law_231 ?_
  refine k_icmp_eq (tgt := 238) hx hb dL_law_233 (by decide) ?_ ?_
  · refine k_iload hx hb dL_law_238 ?_
    refine k_if_ne (tgt := 255) hx hb dL_law_240 (by decide) ?_ ?_
    · refine k_goto (tgt := 1685) hx hb dL_law_255 (by decide) ?_
      exact hK
    · refine k_aload_n hx hb dL_law_243 rfl ?_
      refine k_iconst hx hb dL_law_244 (by decide) ?_
      refine k_laldT C dL_law_245 ?_
      refine k_iload hx hb dL_law_246 ?_
      refine k_i2l hx hb dL_law_248 ?_
      refine k_lcmp hx hb dL_law_249 ?_
      refine k_if_eq (tgt := 255) hx hb dL_law_250 (by decide) ?_ ?_
      · refine k_goto (tgt := 1685) hx hb dL_law_255 (by decide) ?_
        exact hK
      · refine k_iconst hx hb dL_law_253 (by decide) ?_
        exact k_lend C hr hz9 dL_law_254
  · refine k_iconst hx hb dL_law_236 (by decide) ?_
    exact k_lend C hr hz9 dL_law_237
def bB1 (xs : Nat → Int32) (Ln : Nat) (K : ZK ZT) : ZK ZT := (o_aload 2 (o_callM0 6 tX6_enter (o_istore 6 (bTI K))))
set_option maxRecDepth 20000 in
theorem sB1 {l : Launch} {z0 b Ln : Nat} {xs : Nat → Int32} {D : va_G} {cA : Nat → ClassId} {p : Program} {e : Env} {s : State} {m : MethodId} {below : List Frame} {meth : Method} {c : Code} {K : ZK ZT} (hlt : l.stackTraces = false) (C : zCx p l room_1 s m #[Value.ref b] meth c code 7 RL z0 D cA 0) (hr : meth.sig.returnType = ret) (hz9 : s.heap.size ≤ z0) (hX : va_X b Ln xs s s.heap) (hbl : b < s.heap.size) (hbz : ¬ z0 ≤ b) (hK : Snd p l e room_1 s m #[Value.ref b] below meth c 7 z0 b (iT9 z0 b 45 D cA s) cT9 (lw_Z below #[Value.ref b] s) 1685 K) : Snd p l e room_1 s m #[Value.ref b] below meth c 7 z0 b (iT9 z0 b 45 D cA s) cT9 (lw_Z below #[Value.ref b] s) 221 (bB1 xs Ln K) := by
  obtain ⟨hx, hb, hml, hown, hts, -⟩ := id C
  unfold bB1
  refine k_aload_n hx hb dL_law_221 rfl ?_
  refine k_callM0 C (ci := 6) (Tf := TX6) (Nf := 20) (Cn := RX6) rfl (mX6_enter hlt) rfl zlL_110 zmX6_enter zvX6_enter ziX6 zcX6_enter (by decide +kernel) ⟨Nat.le_of_ble_eq_true rfl, Nat.le_of_ble_eq_true rfl⟩ ⟨Nat.le_of_ble_eq_true rfl, rfl, rfl⟩ dL_law_222 ?_
  refine k_istore hx hb dL_law_225 ?_
  exact sT1 hlt C hr hz9 hX hbl hbz hK
def bD1 (xs : Nat → Int32) (Ln : Nat) (K : ZK ZT) : ZK ZT := (o_aload 1 (o_aload 3 (o_callW2 tL_enter (o_istore 5 (bB1 xs Ln K)))))
set_option maxRecDepth 20000 in
theorem sD1 {l : Launch} {z0 b Ln : Nat} {xs : Nat → Int32} {D : va_G} {cA : Nat → ClassId} {p : Program} {e : Env} {s : State} {m : MethodId} {below : List Frame} {meth : Method} {c : Code} {K : ZK ZT} (hlt : l.stackTraces = false) (C : zCx p l room_1 s m #[Value.ref b] meth c code 7 RL z0 D cA 0) (hr : meth.sig.returnType = ret) (hz9 : s.heap.size ≤ z0) (hX : va_X b Ln xs s s.heap) (hbl : b < s.heap.size) (hbz : ¬ z0 ≤ b) (hK : Snd p l e room_1 s m #[Value.ref b] below meth c 7 z0 b (iT9 z0 b 45 D cA s) cT9 (lw_Z below #[Value.ref b] s) 1685 K) : Snd p l e room_1 s m #[Value.ref b] below meth c 7 z0 b (iT9 z0 b 45 D cA s) cT9 (lw_Z below #[Value.ref b] s) 214 (bD1 xs Ln K) := by
  obtain ⟨hx, hb, hml, hown, hts, -⟩ := id C
  unfold bD1
  refine k_aload_n hx hb dL_law_214 rfl ?_
  refine k_aload_n hx hb dL_law_215 rfl ?_
  refine k_callW2 C (vL_enter hlt) zlL_107 zsL_enter ziL zwL_enter (by decide +kernel) ⟨Nat.le_of_ble_eq_true rfl, Nat.le_of_ble_eq_true rfl⟩ ⟨rfl, rfl⟩ dL_law_216 ?_
  refine k_istore hx hb dL_law_219 ?_
  exact sB1 hlt C hr hz9 hX hbl hbz hK
def bD2 (xs : Nat → Int32) (Ln : Nat) (K : ZK ZT) : ZK ZT := (o_aload 1 (o_callM0 5 tX5_tags (o_aload 2 (o_callM0 6 tX6_tags (o_if2 (fun x y => x = y) K (o_ic 0 o_lend))))))
set_option maxRecDepth 20000 in
theorem sD2 {l : Launch} {z0 b Ln : Nat} {xs : Nat → Int32} {D : va_G} {cA : Nat → ClassId} {p : Program} {e : Env} {s : State} {m : MethodId} {below : List Frame} {meth : Method} {c : Code} {K : ZK ZT} (hlt : l.stackTraces = false) (C : zCx p l room_1 s m #[Value.ref b] meth c code 7 RL z0 D cA 0) (hr : meth.sig.returnType = ret) (hz9 : s.heap.size ≤ z0) (hX : va_X b Ln xs s s.heap) (hbl : b < s.heap.size) (hbz : ¬ z0 ≤ b) (hK : Snd p l e room_1 s m #[Value.ref b] below meth c 7 z0 b (iT9 z0 b 45 D cA s) cT9 (lw_Z below #[Value.ref b] s) 1685 K) : Snd p l e room_1 s m #[Value.ref b] below meth c 7 z0 b (iT9 z0 b 45 D cA s) cT9 (lw_Z below #[Value.ref b] s) 258 (bD2 xs Ln K) := by
  obtain ⟨hx, hb, hml, hown, hts, -⟩ := id C
  unfold bD2
  refine k_aload_n hx hb dL_law_258 rfl ?_
  refine k_callM0 C (ci := 5) (Tf := TX5) (Nf := 6) (Cn := RX5) rfl (mX5_tags hlt) rfl zlL_111 zmX5_tags zvX5_tags ziX5 zcX5_tags (by decide +kernel) ⟨Nat.le_of_ble_eq_true rfl, Nat.le_of_ble_eq_true rfl⟩ ⟨Nat.le_of_ble_eq_true rfl, rfl, rfl⟩ dL_law_259 ?_
  refine k_aload_n hx hb dL_law_262 rfl ?_
  refine k_callM0 C (ci := 6) (Tf := TX6) (Nf := 20) (Cn := RX6) rfl (mX6_tags hlt) rfl zlL_114 zmX6_tags zvX6_tags ziX6 zcX6_tags (by decide +kernel) ⟨Nat.le_of_ble_eq_true rfl, Nat.le_of_ble_eq_true rfl⟩ ⟨Nat.le_of_ble_eq_true rfl, rfl, rfl⟩ dL_law_263 ?_
  refine k_icmp_eq (tgt := 1685) hx hb dL_law_266 (by decide) ?_ ?_
  · exact hK
  · refine k_iconst hx hb dL_law_269 (by decide) ?_
    exact k_lend C hr hz9 dL_law_270
set_option maxRecDepth 20000 in
theorem sT3 {l : Launch} {z0 b Ln : Nat} {xs : Nat → Int32} {D : va_G} {cA : Nat → ClassId} {p : Program} {e : Env} {s : State} {m : MethodId} {below : List Frame} {meth : Method} {c : Code} {K : ZK ZT} (hlt : l.stackTraces = false) (C : zCx p l room_1 s m #[Value.ref b] meth c code 7 RL z0 D cA 0) (hr : meth.sig.returnType = ret) (hz9 : s.heap.size ≤ z0) (hX : va_X b Ln xs s s.heap) (hbl : b < s.heap.size) (hbz : ¬ z0 ≤ b) (hK : Snd p l e room_1 s m #[Value.ref b] below meth c 7 z0 b (iT9 z0 b 45 D cA s) cT9 (lw_Z below #[Value.ref b] s) 1685 K) : Snd p l e room_1 s m #[Value.ref b] below meth c 7 z0 b (iT9 z0 b 45 D cA s) cT9 (lw_Z below #[Value.ref b] s) 308 (bTI K) := by
  obtain ⟨hx, hb, hml, hown, hts, -⟩ := id C
  unfold bTI
  refine k_aload_n hx hb dL_law_308 rfl ?_
  refine k_callM0 C (ci := 6) (Tf := TX6) (Nf := 20) (Cn := RX6) rfl (mX6_thrown hlt) rfl zlL_104 zmX6_thrown zvX6_thrown ziX6 zcX6_thrown (by decide +kernel) ⟨Nat.le_of_ble_eq_true rfl, Nat.le_of_ble_eq_true rfl⟩ ⟨Nat.le_of_ble_eq_true rfl, rfl, rfl⟩ dL_law_309 ?_
  refine k_iload hx hb dL_law_312 ?_
  refine k_icmp_eq (tgt := 319) hx hb dL_law_314 (by decide) ?_ ?_
  · refine k_iload hx hb dL_law_319 ?_
    refine k_if_ne (tgt := 336) hx hb dL_law_321 (by decide) ?_ ?_
    · refine k_goto (tgt := 1685) hx hb dL_law_336 (by decide) ?_
      exact hK
    · refine k_aload_n hx hb dL_law_324 rfl ?_
      refine k_iconst hx hb dL_law_325 (by decide) ?_
      refine k_laldT C dL_law_326 ?_
      refine k_iload hx hb dL_law_327 ?_
      refine k_i2l hx hb dL_law_329 ?_
      refine k_lcmp hx hb dL_law_330 ?_
      refine k_if_eq (tgt := 336) hx hb dL_law_331 (by decide) ?_ ?_
      · refine k_goto (tgt := 1685) hx hb dL_law_336 (by decide) ?_
        exact hK
      · refine k_iconst hx hb dL_law_334 (by decide) ?_
        exact k_lend C hr hz9 dL_law_335
  · refine k_iconst hx hb dL_law_317 (by decide) ?_
    exact k_lend C hr hz9 dL_law_318
def bB3 (xs : Nat → Int32) (Ln : Nat) (K : ZK ZT) : ZK ZT := (o_aload 2 (o_alS 0 (o_iload 4 (o_ic 1 (o_bin (fun x y => x + y) (o_sld xs Ln (o_alS 0 (o_iload 4 (o_ic 2 (o_bin (fun x y => x + y) (o_sld xs Ln (o_callM2 6 tX6_letter (o_istore 6 (bTI K))))))))))))))
set_option maxRecDepth 20000 in
theorem sB3 {l : Launch} {z0 b Ln : Nat} {xs : Nat → Int32} {D : va_G} {cA : Nat → ClassId} {p : Program} {e : Env} {s : State} {m : MethodId} {below : List Frame} {meth : Method} {c : Code} {K : ZK ZT} (hlt : l.stackTraces = false) (C : zCx p l room_1 s m #[Value.ref b] meth c code 7 RL z0 D cA 0) (hr : meth.sig.returnType = ret) (hz9 : s.heap.size ≤ z0) (hX : va_X b Ln xs s s.heap) (hbl : b < s.heap.size) (hbz : ¬ z0 ≤ b) (hK : Snd p l e room_1 s m #[Value.ref b] below meth c 7 z0 b (iT9 z0 b 45 D cA s) cT9 (lw_Z below #[Value.ref b] s) 1685 K) : Snd p l e room_1 s m #[Value.ref b] below meth c 7 z0 b (iT9 z0 b 45 D cA s) cT9 (lw_Z below #[Value.ref b] s) 290 (bB3 xs Ln K) := by
  obtain ⟨hx, hb, hml, hown, hts, -⟩ := id C
  unfold bB3
  refine k_aload_n hx hb dL_law_290 rfl ?_
  refine k_alS hx hb dL_law_291 rfl ?_
  refine k_iload hx hb dL_law_292 ?_
  refine k_iconst hx hb dL_law_294 (by decide) ?_
  refine k_iadd hx hb dL_law_295 ?_
  refine k_sld hx hb hX hbl hbz dL_law_296 ?_
  refine k_alS hx hb dL_law_297 rfl ?_
  refine k_iload hx hb dL_law_298 ?_
  refine k_iconst hx hb dL_law_300 (by decide) ?_
  refine k_iadd hx hb dL_law_301 ?_
  refine k_sld hx hb hX hbl hbz dL_law_302 ?_
  refine k_callM2 C (ci := 6) (Tf := TX6) (Nf := 20) (Cn := RX6) rfl (mX6_letter hlt) rfl zlL_118 zmX6_letter zvX6_letter ziX6 zcX6_letter (by decide +kernel) ⟨Nat.le_of_ble_eq_true rfl, Nat.le_of_ble_eq_true rfl⟩ ⟨Nat.le_of_ble_eq_true rfl, rfl, rfl⟩ dL_law_303 ?_
  refine k_istore hx hb dL_law_306 ?_
  exact sT3 hlt C hr hz9 hX hbl hbz hK
def bD3 (xs : Nat → Int32) (Ln : Nat) (K : ZK ZT) : ZK ZT := (o_aload 1 (o_alS 0 (o_iload 4 (o_ic 1 (o_bin (fun x y => x + y) (o_sld xs Ln (o_alS 0 (o_iload 4 (o_ic 2 (o_bin (fun x y => x + y) (o_sld xs Ln (o_aload 3 (o_callW4 tL_letter (o_istore 5 (bB3 xs Ln K)))))))))))))))
set_option maxRecDepth 20000 in
theorem sD3 {l : Launch} {z0 b Ln : Nat} {xs : Nat → Int32} {D : va_G} {cA : Nat → ClassId} {p : Program} {e : Env} {s : State} {m : MethodId} {below : List Frame} {meth : Method} {c : Code} {K : ZK ZT} (hlt : l.stackTraces = false) (C : zCx p l room_1 s m #[Value.ref b] meth c code 7 RL z0 D cA 0) (hr : meth.sig.returnType = ret) (hz9 : s.heap.size ≤ z0) (hX : va_X b Ln xs s s.heap) (hbl : b < s.heap.size) (hbz : ¬ z0 ≤ b) (hK : Snd p l e room_1 s m #[Value.ref b] below meth c 7 z0 b (iT9 z0 b 45 D cA s) cT9 (lw_Z below #[Value.ref b] s) 1685 K) : Snd p l e room_1 s m #[Value.ref b] below meth c 7 z0 b (iT9 z0 b 45 D cA s) cT9 (lw_Z below #[Value.ref b] s) 271 (bD3 xs Ln K) := by
  obtain ⟨hx, hb, hml, hown, hts, -⟩ := id C
  unfold bD3
  refine k_aload_n hx hb dL_law_271 rfl ?_
  refine k_alS hx hb dL_law_272 rfl ?_
  refine k_iload hx hb dL_law_273 ?_
  refine k_iconst hx hb dL_law_275 (by decide) ?_
  refine k_iadd hx hb dL_law_276 ?_
  refine k_sld hx hb hX hbl hbz dL_law_277 ?_
  refine k_alS hx hb dL_law_278 rfl ?_
  refine k_iload hx hb dL_law_279 ?_
  refine k_iconst hx hb dL_law_281 (by decide) ?_
  refine k_iadd hx hb dL_law_282 ?_
  refine k_sld hx hb hX hbl hbz dL_law_283 ?_
  refine k_aload_n hx hb dL_law_284 rfl ?_
  refine k_callW4 C (vL_letter hlt) zlL_115 zsL_letter ziL zwL_letter (by decide +kernel) ⟨Nat.le_of_ble_eq_true rfl, Nat.le_of_ble_eq_true rfl⟩ ⟨rfl, rfl⟩ dL_law_285 ?_
  refine k_istore hx hb dL_law_288 ?_
  exact sB3 hlt C hr hz9 hX hbl hbz hK
set_option maxRecDepth 20000 in
theorem sT4 {l : Launch} {z0 b Ln : Nat} {xs : Nat → Int32} {D : va_G} {cA : Nat → ClassId} {p : Program} {e : Env} {s : State} {m : MethodId} {below : List Frame} {meth : Method} {c : Code} {K : ZK ZT} (hlt : l.stackTraces = false) (C : zCx p l room_1 s m #[Value.ref b] meth c code 7 RL z0 D cA 0) (hr : meth.sig.returnType = ret) (hz9 : s.heap.size ≤ z0) (hX : va_X b Ln xs s s.heap) (hbl : b < s.heap.size) (hbz : ¬ z0 ≤ b) (hK : Snd p l e room_1 s m #[Value.ref b] below meth c 7 z0 b (iT9 z0 b 45 D cA s) cT9 (lw_Z below #[Value.ref b] s) 1685 K) : Snd p l e room_1 s m #[Value.ref b] below meth c 7 z0 b (iT9 z0 b 45 D cA s) cT9 (lw_Z below #[Value.ref b] s) 352 (bTI K) := by
  obtain ⟨hx, hb, hml, hown, hts, -⟩ := id C
  unfold bTI
  refine k_aload_n hx hb dL_law_352 rfl ?_
  refine k_callM0 C (ci := 6) (Tf := TX6) (Nf := 20) (Cn := RX6) rfl (mX6_thrown hlt) rfl zlL_104 zmX6_thrown zvX6_thrown ziX6 zcX6_thrown (by decide +kernel) ⟨Nat.le_of_ble_eq_true rfl, Nat.le_of_ble_eq_true rfl⟩ ⟨Nat.le_of_ble_eq_true rfl, rfl, rfl⟩ dL_law_353 ?_
  refine k_iload hx hb dL_law_356 ?_
  refine k_icmp_eq (tgt := 363) hx hb dL_law_358 (by decide) ?_ ?_
  · refine k_iload hx hb dL_law_363 ?_
    refine k_if_ne (tgt := 380) hx hb dL_law_365 (by decide) ?_ ?_
    · refine k_goto (tgt := 1685) hx hb dL_law_380 (by decide) ?_
      exact hK
    · refine k_aload_n hx hb dL_law_368 rfl ?_
      refine k_iconst hx hb dL_law_369 (by decide) ?_
      refine k_laldT C dL_law_370 ?_
      refine k_iload hx hb dL_law_371 ?_
      refine k_i2l hx hb dL_law_373 ?_
      refine k_lcmp hx hb dL_law_374 ?_
      refine k_if_eq (tgt := 380) hx hb dL_law_375 (by decide) ?_ ?_
      · refine k_goto (tgt := 1685) hx hb dL_law_380 (by decide) ?_
        exact hK
      · refine k_iconst hx hb dL_law_378 (by decide) ?_
        exact k_lend C hr hz9 dL_law_379
  · refine k_iconst hx hb dL_law_361 (by decide) ?_
    exact k_lend C hr hz9 dL_law_362
def bB4 (xs : Nat → Int32) (Ln : Nat) (K : ZK ZT) : ZK ZT := (o_aload 2 (o_callM0 6 tX6_addThing (o_istore 6 (bTI K))))
set_option maxRecDepth 20000 in
theorem sB4 {l : Launch} {z0 b Ln : Nat} {xs : Nat → Int32} {D : va_G} {cA : Nat → ClassId} {p : Program} {e : Env} {s : State} {m : MethodId} {below : List Frame} {meth : Method} {c : Code} {K : ZK ZT} (hlt : l.stackTraces = false) (C : zCx p l room_1 s m #[Value.ref b] meth c code 7 RL z0 D cA 0) (hr : meth.sig.returnType = ret) (hz9 : s.heap.size ≤ z0) (hX : va_X b Ln xs s s.heap) (hbl : b < s.heap.size) (hbz : ¬ z0 ≤ b) (hK : Snd p l e room_1 s m #[Value.ref b] below meth c 7 z0 b (iT9 z0 b 45 D cA s) cT9 (lw_Z below #[Value.ref b] s) 1685 K) : Snd p l e room_1 s m #[Value.ref b] below meth c 7 z0 b (iT9 z0 b 45 D cA s) cT9 (lw_Z below #[Value.ref b] s) 346 (bB4 xs Ln K) := by
  obtain ⟨hx, hb, hml, hown, hts, -⟩ := id C
  unfold bB4
  refine k_aload_n hx hb dL_law_346 rfl ?_
  refine k_callM0 C (ci := 6) (Tf := TX6) (Nf := 20) (Cn := RX6) rfl (mX6_addThing hlt) rfl zlL_121 zmX6_addThing zvX6_addThing ziX6 zcX6_addThing (by decide +kernel) ⟨Nat.le_of_ble_eq_true rfl, Nat.le_of_ble_eq_true rfl⟩ ⟨Nat.le_of_ble_eq_true rfl, rfl, rfl⟩ dL_law_347 ?_
  refine k_istore hx hb dL_law_350 ?_
  exact sT4 hlt C hr hz9 hX hbl hbz hK
def bD4 (xs : Nat → Int32) (Ln : Nat) (K : ZK ZT) : ZK ZT := (o_aload 1 (o_aload 3 (o_callW2 tL_addThing (o_istore 5 (bB4 xs Ln K)))))
set_option maxRecDepth 20000 in
theorem sD4 {l : Launch} {z0 b Ln : Nat} {xs : Nat → Int32} {D : va_G} {cA : Nat → ClassId} {p : Program} {e : Env} {s : State} {m : MethodId} {below : List Frame} {meth : Method} {c : Code} {K : ZK ZT} (hlt : l.stackTraces = false) (C : zCx p l room_1 s m #[Value.ref b] meth c code 7 RL z0 D cA 0) (hr : meth.sig.returnType = ret) (hz9 : s.heap.size ≤ z0) (hX : va_X b Ln xs s s.heap) (hbl : b < s.heap.size) (hbz : ¬ z0 ≤ b) (hK : Snd p l e room_1 s m #[Value.ref b] below meth c 7 z0 b (iT9 z0 b 45 D cA s) cT9 (lw_Z below #[Value.ref b] s) 1685 K) : Snd p l e room_1 s m #[Value.ref b] below meth c 7 z0 b (iT9 z0 b 45 D cA s) cT9 (lw_Z below #[Value.ref b] s) 339 (bD4 xs Ln K) := by
  obtain ⟨hx, hb, hml, hown, hts, -⟩ := id C
  unfold bD4
  refine k_aload_n hx hb dL_law_339 rfl ?_
  refine k_aload_n hx hb dL_law_340 rfl ?_
  refine k_callW2 C (vL_addThing hlt) zlL_119 zsL_addThing ziL zwL_addThing (by decide +kernel) ⟨Nat.le_of_ble_eq_true rfl, Nat.le_of_ble_eq_true rfl⟩ ⟨rfl, rfl⟩ dL_law_341 ?_
  refine k_istore hx hb dL_law_344 ?_
  exact sB4 hlt C hr hz9 hX hbl hbz hK
def bD5 (xs : Nat → Int32) (Ln : Nat) (K : ZK ZT) : ZK ZT := (o_aload 1 (o_callM0 5 tX5_things (o_aload 2 (o_callM0 6 tX6_things (o_if2 (fun x y => x = y) K (o_ic 0 o_lend))))))
set_option maxRecDepth 20000 in
theorem sD5 {l : Launch} {z0 b Ln : Nat} {xs : Nat → Int32} {D : va_G} {cA : Nat → ClassId} {p : Program} {e : Env} {s : State} {m : MethodId} {below : List Frame} {meth : Method} {c : Code} {K : ZK ZT} (hlt : l.stackTraces = false) (C : zCx p l room_1 s m #[Value.ref b] meth c code 7 RL z0 D cA 0) (hr : meth.sig.returnType = ret) (hz9 : s.heap.size ≤ z0) (hX : va_X b Ln xs s s.heap) (hbl : b < s.heap.size) (hbz : ¬ z0 ≤ b) (hK : Snd p l e room_1 s m #[Value.ref b] below meth c 7 z0 b (iT9 z0 b 45 D cA s) cT9 (lw_Z below #[Value.ref b] s) 1685 K) : Snd p l e room_1 s m #[Value.ref b] below meth c 7 z0 b (iT9 z0 b 45 D cA s) cT9 (lw_Z below #[Value.ref b] s) 383 (bD5 xs Ln K) := by
  obtain ⟨hx, hb, hml, hown, hts, -⟩ := id C
  unfold bD5
  refine k_aload_n hx hb dL_law_383 rfl ?_
  refine k_callM0 C (ci := 5) (Tf := TX5) (Nf := 6) (Cn := RX5) rfl (mX5_things hlt) rfl zlL_122 zmX5_things zvX5_things ziX5 zcX5_things (by decide +kernel) ⟨Nat.le_of_ble_eq_true rfl, Nat.le_of_ble_eq_true rfl⟩ ⟨Nat.le_of_ble_eq_true rfl, rfl, rfl⟩ dL_law_384 ?_
  refine k_aload_n hx hb dL_law_387 rfl ?_
  refine k_callM0 C (ci := 6) (Tf := TX6) (Nf := 20) (Cn := RX6) rfl (mX6_things hlt) rfl zlL_125 zmX6_things zvX6_things ziX6 zcX6_things (by decide +kernel) ⟨Nat.le_of_ble_eq_true rfl, Nat.le_of_ble_eq_true rfl⟩ ⟨Nat.le_of_ble_eq_true rfl, rfl, rfl⟩ dL_law_388 ?_
  refine k_icmp_eq (tgt := 1685) hx hb dL_law_391 (by decide) ?_ ?_
  · exact hK
  · refine k_iconst hx hb dL_law_394 (by decide) ?_
    exact k_lend C hr hz9 dL_law_395
set_option maxRecDepth 20000 in
theorem sT6 {l : Launch} {z0 b Ln : Nat} {xs : Nat → Int32} {D : va_G} {cA : Nat → ClassId} {p : Program} {e : Env} {s : State} {m : MethodId} {below : List Frame} {meth : Method} {c : Code} {K : ZK ZT} (hlt : l.stackTraces = false) (C : zCx p l room_1 s m #[Value.ref b] meth c code 7 RL z0 D cA 0) (hr : meth.sig.returnType = ret) (hz9 : s.heap.size ≤ z0) (hX : va_X b Ln xs s s.heap) (hbl : b < s.heap.size) (hbz : ¬ z0 ≤ b) (hK : Snd p l e room_1 s m #[Value.ref b] below meth c 7 z0 b (iT9 z0 b 45 D cA s) cT9 (lw_Z below #[Value.ref b] s) 1685 K) : Snd p l e room_1 s m #[Value.ref b] below meth c 7 z0 b (iT9 z0 b 45 D cA s) cT9 (lw_Z below #[Value.ref b] s) 433 (bTB K) := by
  obtain ⟨hx, hb, hml, hown, hts, -⟩ := id C
  unfold bTB
  refine k_aload_n hx hb dL_law_433 rfl ?_
  refine k_callM0 C (ci := 6) (Tf := TX6) (Nf := 20) (Cn := RX6) rfl (mX6_thrown hlt) rfl zlL_104 zmX6_thrown zvX6_thrown ziX6 zcX6_thrown (by decide +kernel) ⟨Nat.le_of_ble_eq_true rfl, Nat.le_of_ble_eq_true rfl⟩ ⟨Nat.le_of_ble_eq_true rfl, rfl, rfl⟩ dL_law_434 ?_
  refine k_iload hx hb dL_law_437 ?_
  refine k_icmp_eq (tgt := 444) hx hb dL_law_439 (by decide) ?_ ?_
  · refine k_iload hx hb dL_law_444 ?_
    refine k_if_ne (tgt := 468) hx hb dL_law_446 (by decide) ?_ ?_
    · refine k_goto (tgt := 1685) hx hb dL_law_468 (by decide) ?_
      exact hK
    · refine k_aload_n hx hb dL_law_449 rfl ?_
      refine k_iconst hx hb dL_law_450 (by decide) ?_
      refine k_laldT C dL_law_451 ?_
      refine k_iload hx hb dL_law_452 ?_
      refine k_if_eq (tgt := 461) hx hb dL_law_454 (by decide) ?_ ?_
      · refine k_lconst hx hb dL_law_461 (by decide) ?_
        refine k_lcmp hx hb dL_law_462 ?_
        refine k_if_eq (tgt := 468) hx hb dL_law_463 (by decide) ?_ ?_
        · refine k_goto (tgt := 1685) hx hb dL_law_468 (by decide) ?_
          exact hK
        · refine k_iconst hx hb dL_law_466 (by decide) ?_
          exact k_lend C hr hz9 dL_law_467
      · refine k_lconst hx hb dL_law_457 (by decide) ?_
        refine k_goto (tgt := 462) hx hb dL_law_458 (by decide) ?_
        refine k_lcmp hx hb dL_law_462 ?_
        refine k_if_eq (tgt := 468) hx hb dL_law_463 (by decide) ?_ ?_
        · refine k_goto (tgt := 1685) hx hb dL_law_468 (by decide) ?_
          exact hK
        · refine k_iconst hx hb dL_law_466 (by decide) ?_
          exact k_lend C hr hz9 dL_law_467
  · refine k_iconst hx hb dL_law_442 (by decide) ?_
    exact k_lend C hr hz9 dL_law_443
def bB6 (xs : Nat → Int32) (Ln : Nat) (K : ZK ZT) : ZK ZT := (o_aload 2 (o_alS 0 (o_iload 4 (o_ic 1 (o_bin (fun x y => x + y) (o_sld xs Ln (o_alS 0 (o_iload 4 (o_ic 2 (o_bin (fun x y => x + y) (o_sld xs Ln (o_callM2 6 tX6_tag (o_istore 6 (bTB K))))))))))))))
set_option maxRecDepth 20000 in
theorem sB6 {l : Launch} {z0 b Ln : Nat} {xs : Nat → Int32} {D : va_G} {cA : Nat → ClassId} {p : Program} {e : Env} {s : State} {m : MethodId} {below : List Frame} {meth : Method} {c : Code} {K : ZK ZT} (hlt : l.stackTraces = false) (C : zCx p l room_1 s m #[Value.ref b] meth c code 7 RL z0 D cA 0) (hr : meth.sig.returnType = ret) (hz9 : s.heap.size ≤ z0) (hX : va_X b Ln xs s s.heap) (hbl : b < s.heap.size) (hbz : ¬ z0 ≤ b) (hK : Snd p l e room_1 s m #[Value.ref b] below meth c 7 z0 b (iT9 z0 b 45 D cA s) cT9 (lw_Z below #[Value.ref b] s) 1685 K) : Snd p l e room_1 s m #[Value.ref b] below meth c 7 z0 b (iT9 z0 b 45 D cA s) cT9 (lw_Z below #[Value.ref b] s) 415 (bB6 xs Ln K) := by
  obtain ⟨hx, hb, hml, hown, hts, -⟩ := id C
  unfold bB6
  refine k_aload_n hx hb dL_law_415 rfl ?_
  refine k_alS hx hb dL_law_416 rfl ?_
  refine k_iload hx hb dL_law_417 ?_
  refine k_iconst hx hb dL_law_419 (by decide) ?_
  refine k_iadd hx hb dL_law_420 ?_
  refine k_sld hx hb hX hbl hbz dL_law_421 ?_
  refine k_alS hx hb dL_law_422 rfl ?_
  refine k_iload hx hb dL_law_423 ?_
  refine k_iconst hx hb dL_law_425 (by decide) ?_
  refine k_iadd hx hb dL_law_426 ?_
  refine k_sld hx hb hX hbl hbz dL_law_427 ?_
  refine k_callM2 C (ci := 6) (Tf := TX6) (Nf := 20) (Cn := RX6) rfl (mX6_tag hlt) rfl zlL_128 zmX6_tag zvX6_tag ziX6 zcX6_tag (by decide +kernel) ⟨Nat.le_of_ble_eq_true rfl, Nat.le_of_ble_eq_true rfl⟩ ⟨Nat.le_of_ble_eq_true rfl, rfl, rfl⟩ dL_law_428 ?_
  refine k_istore hx hb dL_law_431 ?_
  exact sT6 hlt C hr hz9 hX hbl hbz hK
def bD6 (xs : Nat → Int32) (Ln : Nat) (K : ZK ZT) : ZK ZT := (o_aload 1 (o_alS 0 (o_iload 4 (o_ic 1 (o_bin (fun x y => x + y) (o_sld xs Ln (o_alS 0 (o_iload 4 (o_ic 2 (o_bin (fun x y => x + y) (o_sld xs Ln (o_aload 3 (o_callW4 tL_tag (o_istore 5 (bB6 xs Ln K)))))))))))))))
set_option maxRecDepth 20000 in
theorem sD6 {l : Launch} {z0 b Ln : Nat} {xs : Nat → Int32} {D : va_G} {cA : Nat → ClassId} {p : Program} {e : Env} {s : State} {m : MethodId} {below : List Frame} {meth : Method} {c : Code} {K : ZK ZT} (hlt : l.stackTraces = false) (C : zCx p l room_1 s m #[Value.ref b] meth c code 7 RL z0 D cA 0) (hr : meth.sig.returnType = ret) (hz9 : s.heap.size ≤ z0) (hX : va_X b Ln xs s s.heap) (hbl : b < s.heap.size) (hbz : ¬ z0 ≤ b) (hK : Snd p l e room_1 s m #[Value.ref b] below meth c 7 z0 b (iT9 z0 b 45 D cA s) cT9 (lw_Z below #[Value.ref b] s) 1685 K) : Snd p l e room_1 s m #[Value.ref b] below meth c 7 z0 b (iT9 z0 b 45 D cA s) cT9 (lw_Z below #[Value.ref b] s) 396 (bD6 xs Ln K) := by
  obtain ⟨hx, hb, hml, hown, hts, -⟩ := id C
  unfold bD6
  refine k_aload_n hx hb dL_law_396 rfl ?_
  refine k_alS hx hb dL_law_397 rfl ?_
  refine k_iload hx hb dL_law_398 ?_
  refine k_iconst hx hb dL_law_400 (by decide) ?_
  refine k_iadd hx hb dL_law_401 ?_
  refine k_sld hx hb hX hbl hbz dL_law_402 ?_
  refine k_alS hx hb dL_law_403 rfl ?_
  refine k_iload hx hb dL_law_404 ?_
  refine k_iconst hx hb dL_law_406 (by decide) ?_
  refine k_iadd hx hb dL_law_407 ?_
  refine k_sld hx hb hX hbl hbz dL_law_408 ?_
  refine k_aload_n hx hb dL_law_409 rfl ?_
  refine k_callW4 C (vL_tag hlt) zlL_126 zsL_tag ziL zwL_tag (by decide +kernel) ⟨Nat.le_of_ble_eq_true rfl, Nat.le_of_ble_eq_true rfl⟩ ⟨rfl, rfl⟩ dL_law_410 ?_
  refine k_istore hx hb dL_law_413 ?_
  exact sB6 hlt C hr hz9 hX hbl hbz hK
set_option maxRecDepth 20000 in
theorem sT7 {l : Launch} {z0 b Ln : Nat} {xs : Nat → Int32} {D : va_G} {cA : Nat → ClassId} {p : Program} {e : Env} {s : State} {m : MethodId} {below : List Frame} {meth : Method} {c : Code} {K : ZK ZT} (hlt : l.stackTraces = false) (C : zCx p l room_1 s m #[Value.ref b] meth c code 7 RL z0 D cA 0) (hr : meth.sig.returnType = ret) (hz9 : s.heap.size ≤ z0) (hX : va_X b Ln xs s s.heap) (hbl : b < s.heap.size) (hbz : ¬ z0 ≤ b) (hK : Snd p l e room_1 s m #[Value.ref b] below meth c 7 z0 b (iT9 z0 b 45 D cA s) cT9 (lw_Z below #[Value.ref b] s) 1685 K) : Snd p l e room_1 s m #[Value.ref b] below meth c 7 z0 b (iT9 z0 b 45 D cA s) cT9 (lw_Z below #[Value.ref b] s) 508 (bTB K) := by
  obtain ⟨hx, hb, hml, hown, hts, -⟩ := id C
  unfold bTB
  refine k_aload_n hx hb dL_law_508 rfl ?_
  refine k_callM0 C (ci := 6) (Tf := TX6) (Nf := 20) (Cn := RX6) rfl (mX6_thrown hlt) rfl zlL_104 zmX6_thrown zvX6_thrown ziX6 zcX6_thrown (by decide +kernel) ⟨Nat.le_of_ble_eq_true rfl, Nat.le_of_ble_eq_true rfl⟩ ⟨Nat.le_of_ble_eq_true rfl, rfl, rfl⟩ dL_law_509 ?_
  refine k_iload hx hb dL_law_512 ?_
  refine k_icmp_eq (tgt := 519) hx hb dL_law_514 (by decide) ?_ ?_
  · refine k_iload hx hb dL_law_519 ?_
    refine k_if_ne (tgt := 543) hx hb dL_law_521 (by decide) ?_ ?_
    · refine k_goto (tgt := 1685) hx hb dL_law_543 (by decide) ?_
      exact hK
    · refine k_aload_n hx hb dL_law_524 rfl ?_
      refine k_iconst hx hb dL_law_525 (by decide) ?_
      refine k_laldT C dL_law_526 ?_
      refine k_iload hx hb dL_law_527 ?_
      refine k_if_eq (tgt := 536) hx hb dL_law_529 (by decide) ?_ ?_
      · refine k_lconst hx hb dL_law_536 (by decide) ?_
        refine k_lcmp hx hb dL_law_537 ?_
        refine k_if_eq (tgt := 543) hx hb dL_law_538 (by decide) ?_ ?_
        · refine k_goto (tgt := 1685) hx hb dL_law_543 (by decide) ?_
          exact hK
        · refine k_iconst hx hb dL_law_541 (by decide) ?_
          exact k_lend C hr hz9 dL_law_542
      · refine k_lconst hx hb dL_law_532 (by decide) ?_
        refine k_goto (tgt := 537) hx hb dL_law_533 (by decide) ?_
        refine k_lcmp hx hb dL_law_537 ?_
        refine k_if_eq (tgt := 543) hx hb dL_law_538 (by decide) ?_ ?_
        · refine k_goto (tgt := 1685) hx hb dL_law_543 (by decide) ?_
          exact hK
        · refine k_iconst hx hb dL_law_541 (by decide) ?_
          exact k_lend C hr hz9 dL_law_542
  · refine k_iconst hx hb dL_law_517 (by decide) ?_
    exact k_lend C hr hz9 dL_law_518
def bB7 (xs : Nat → Int32) (Ln : Nat) (K : ZK ZT) : ZK ZT := (o_aload 2 (o_alS 0 (o_iload 4 (o_ic 1 (o_bin (fun x y => x + y) (o_sld xs Ln (o_alS 0 (o_iload 4 (o_ic 2 (o_bin (fun x y => x + y) (o_sld xs Ln (o_callM2 6 tX6_untag (o_istore 6 (bTB K))))))))))))))
set_option maxRecDepth 20000 in
theorem sB7 {l : Launch} {z0 b Ln : Nat} {xs : Nat → Int32} {D : va_G} {cA : Nat → ClassId} {p : Program} {e : Env} {s : State} {m : MethodId} {below : List Frame} {meth : Method} {c : Code} {K : ZK ZT} (hlt : l.stackTraces = false) (C : zCx p l room_1 s m #[Value.ref b] meth c code 7 RL z0 D cA 0) (hr : meth.sig.returnType = ret) (hz9 : s.heap.size ≤ z0) (hX : va_X b Ln xs s s.heap) (hbl : b < s.heap.size) (hbz : ¬ z0 ≤ b) (hK : Snd p l e room_1 s m #[Value.ref b] below meth c 7 z0 b (iT9 z0 b 45 D cA s) cT9 (lw_Z below #[Value.ref b] s) 1685 K) : Snd p l e room_1 s m #[Value.ref b] below meth c 7 z0 b (iT9 z0 b 45 D cA s) cT9 (lw_Z below #[Value.ref b] s) 490 (bB7 xs Ln K) := by
  obtain ⟨hx, hb, hml, hown, hts, -⟩ := id C
  unfold bB7
  refine k_aload_n hx hb dL_law_490 rfl ?_
  refine k_alS hx hb dL_law_491 rfl ?_
  refine k_iload hx hb dL_law_492 ?_
  refine k_iconst hx hb dL_law_494 (by decide) ?_
  refine k_iadd hx hb dL_law_495 ?_
  refine k_sld hx hb hX hbl hbz dL_law_496 ?_
  refine k_alS hx hb dL_law_497 rfl ?_
  refine k_iload hx hb dL_law_498 ?_
  refine k_iconst hx hb dL_law_500 (by decide) ?_
  refine k_iadd hx hb dL_law_501 ?_
  refine k_sld hx hb hX hbl hbz dL_law_502 ?_
  refine k_callM2 C (ci := 6) (Tf := TX6) (Nf := 20) (Cn := RX6) rfl (mX6_untag hlt) rfl zlL_131 zmX6_untag zvX6_untag ziX6 zcX6_untag (by decide +kernel) ⟨Nat.le_of_ble_eq_true rfl, Nat.le_of_ble_eq_true rfl⟩ ⟨Nat.le_of_ble_eq_true rfl, rfl, rfl⟩ dL_law_503 ?_
  refine k_istore hx hb dL_law_506 ?_
  exact sT7 hlt C hr hz9 hX hbl hbz hK
def bD7 (xs : Nat → Int32) (Ln : Nat) (K : ZK ZT) : ZK ZT := (o_aload 1 (o_alS 0 (o_iload 4 (o_ic 1 (o_bin (fun x y => x + y) (o_sld xs Ln (o_alS 0 (o_iload 4 (o_ic 2 (o_bin (fun x y => x + y) (o_sld xs Ln (o_aload 3 (o_callW4 tL_untag (o_istore 5 (bB7 xs Ln K)))))))))))))))
set_option maxRecDepth 20000 in
theorem sD7 {l : Launch} {z0 b Ln : Nat} {xs : Nat → Int32} {D : va_G} {cA : Nat → ClassId} {p : Program} {e : Env} {s : State} {m : MethodId} {below : List Frame} {meth : Method} {c : Code} {K : ZK ZT} (hlt : l.stackTraces = false) (C : zCx p l room_1 s m #[Value.ref b] meth c code 7 RL z0 D cA 0) (hr : meth.sig.returnType = ret) (hz9 : s.heap.size ≤ z0) (hX : va_X b Ln xs s s.heap) (hbl : b < s.heap.size) (hbz : ¬ z0 ≤ b) (hK : Snd p l e room_1 s m #[Value.ref b] below meth c 7 z0 b (iT9 z0 b 45 D cA s) cT9 (lw_Z below #[Value.ref b] s) 1685 K) : Snd p l e room_1 s m #[Value.ref b] below meth c 7 z0 b (iT9 z0 b 45 D cA s) cT9 (lw_Z below #[Value.ref b] s) 471 (bD7 xs Ln K) := by
  obtain ⟨hx, hb, hml, hown, hts, -⟩ := id C
  unfold bD7
  refine k_aload_n hx hb dL_law_471 rfl ?_
  refine k_alS hx hb dL_law_472 rfl ?_
  refine k_iload hx hb dL_law_473 ?_
  refine k_iconst hx hb dL_law_475 (by decide) ?_
  refine k_iadd hx hb dL_law_476 ?_
  refine k_sld hx hb hX hbl hbz dL_law_477 ?_
  refine k_alS hx hb dL_law_478 rfl ?_
  refine k_iload hx hb dL_law_479 ?_
  refine k_iconst hx hb dL_law_481 (by decide) ?_
  refine k_iadd hx hb dL_law_482 ?_
  refine k_sld hx hb hX hbl hbz dL_law_483 ?_
  refine k_aload_n hx hb dL_law_484 rfl ?_
  refine k_callW4 C (vL_untag hlt) zlL_129 zsL_untag ziL zwL_untag (by decide +kernel) ⟨Nat.le_of_ble_eq_true rfl, Nat.le_of_ble_eq_true rfl⟩ ⟨rfl, rfl⟩ dL_law_485 ?_
  refine k_istore hx hb dL_law_488 ?_
  exact sB7 hlt C hr hz9 hX hbl hbz hK
set_option maxRecDepth 20000 in
theorem sT8 {l : Launch} {z0 b Ln : Nat} {xs : Nat → Int32} {D : va_G} {cA : Nat → ClassId} {p : Program} {e : Env} {s : State} {m : MethodId} {below : List Frame} {meth : Method} {c : Code} {K : ZK ZT} (hlt : l.stackTraces = false) (C : zCx p l room_1 s m #[Value.ref b] meth c code 7 RL z0 D cA 0) (hr : meth.sig.returnType = ret) (hz9 : s.heap.size ≤ z0) (hX : va_X b Ln xs s s.heap) (hbl : b < s.heap.size) (hbz : ¬ z0 ≤ b) (hK : Snd p l e room_1 s m #[Value.ref b] below meth c 7 z0 b (iT9 z0 b 45 D cA s) cT9 (lw_Z below #[Value.ref b] s) 1685 K) : Snd p l e room_1 s m #[Value.ref b] below meth c 7 z0 b (iT9 z0 b 45 D cA s) cT9 (lw_Z below #[Value.ref b] s) 595 (bTI K) := by
  obtain ⟨hx, hb, hml, hown, hts, -⟩ := id C
  unfold bTI
  refine k_aload_n hx hb dL_law_595 rfl ?_
  refine k_callM0 C (ci := 6) (Tf := TX6) (Nf := 20) (Cn := RX6) rfl (mX6_thrown hlt) rfl zlL_104 zmX6_thrown zvX6_thrown ziX6 zcX6_thrown (by decide +kernel) ⟨Nat.le_of_ble_eq_true rfl, Nat.le_of_ble_eq_true rfl⟩ ⟨Nat.le_of_ble_eq_true rfl, rfl, rfl⟩ dL_law_596 ?_
  refine k_iload hx hb dL_law_599 ?_
  refine k_icmp_eq (tgt := 606) hx hb dL_law_601 (by decide) ?_ ?_
  · refine k_iload hx hb dL_law_606 ?_
    refine k_if_ne (tgt := 623) hx hb dL_law_608 (by decide) ?_ ?_
    · refine k_goto (tgt := 1685) hx hb dL_law_623 (by decide) ?_
      exact hK
    · refine k_aload_n hx hb dL_law_611 rfl ?_
      refine k_iconst hx hb dL_law_612 (by decide) ?_
      refine k_laldT C dL_law_613 ?_
      refine k_iload hx hb dL_law_614 ?_
      refine k_i2l hx hb dL_law_616 ?_
      refine k_lcmp hx hb dL_law_617 ?_
      refine k_if_eq (tgt := 623) hx hb dL_law_618 (by decide) ?_ ?_
      · refine k_goto (tgt := 1685) hx hb dL_law_623 (by decide) ?_
        exact hK
      · refine k_iconst hx hb dL_law_621 (by decide) ?_
        exact k_lend C hr hz9 dL_law_622
  · refine k_iconst hx hb dL_law_604 (by decide) ?_
    exact k_lend C hr hz9 dL_law_605
def bB8 (xs : Nat → Int32) (Ln : Nat) (K : ZK ZT) : ZK ZT := (o_aload 2 (o_alS 0 (o_iload 4 (o_ic 1 (o_bin (fun x y => x + y) (o_sld xs Ln (o_alS 0 (o_iload 4 (o_ic 2 (o_bin (fun x y => x + y) (o_sld xs Ln (o_alS 0 (o_iload 4 (o_ic 3 (o_bin (fun x y => x + y) (o_sld xs Ln (o_callM3 6 tX6_mass (o_istore 6 (bTI K)))))))))))))))))))
set_option maxRecDepth 20000 in
theorem sB8 {l : Launch} {z0 b Ln : Nat} {xs : Nat → Int32} {D : va_G} {cA : Nat → ClassId} {p : Program} {e : Env} {s : State} {m : MethodId} {below : List Frame} {meth : Method} {c : Code} {K : ZK ZT} (hlt : l.stackTraces = false) (C : zCx p l room_1 s m #[Value.ref b] meth c code 7 RL z0 D cA 0) (hr : meth.sig.returnType = ret) (hz9 : s.heap.size ≤ z0) (hX : va_X b Ln xs s s.heap) (hbl : b < s.heap.size) (hbz : ¬ z0 ≤ b) (hK : Snd p l e room_1 s m #[Value.ref b] below meth c 7 z0 b (iT9 z0 b 45 D cA s) cT9 (lw_Z below #[Value.ref b] s) 1685 K) : Snd p l e room_1 s m #[Value.ref b] below meth c 7 z0 b (iT9 z0 b 45 D cA s) cT9 (lw_Z below #[Value.ref b] s) 571 (bB8 xs Ln K) := by
  obtain ⟨hx, hb, hml, hown, hts, -⟩ := id C
  unfold bB8
  refine k_aload_n hx hb dL_law_571 rfl ?_
  refine k_alS hx hb dL_law_572 rfl ?_
  refine k_iload hx hb dL_law_573 ?_
  refine k_iconst hx hb dL_law_575 (by decide) ?_
  refine k_iadd hx hb dL_law_576 ?_
  refine k_sld hx hb hX hbl hbz dL_law_577 ?_
  refine k_alS hx hb dL_law_578 rfl ?_
  refine k_iload hx hb dL_law_579 ?_
  refine k_iconst hx hb dL_law_581 (by decide) ?_
  refine k_iadd hx hb dL_law_582 ?_
  refine k_sld hx hb hX hbl hbz dL_law_583 ?_
  refine k_alS hx hb dL_law_584 rfl ?_
  refine k_iload hx hb dL_law_585 ?_
  refine k_iconst hx hb dL_law_587 (by decide) ?_
  refine k_iadd hx hb dL_law_588 ?_
  refine k_sld hx hb hX hbl hbz dL_law_589 ?_
  refine k_callM3 C (ci := 6) (Tf := TX6) (Nf := 20) (Cn := RX6) rfl (mX6_mass hlt) rfl zlL_135 zmX6_mass zvX6_mass ziX6 zcX6_mass (by decide +kernel) ⟨Nat.le_of_ble_eq_true rfl, Nat.le_of_ble_eq_true rfl⟩ ⟨Nat.le_of_ble_eq_true rfl, rfl, rfl⟩ dL_law_590 ?_
  refine k_istore hx hb dL_law_593 ?_
  exact sT8 hlt C hr hz9 hX hbl hbz hK
def bD8 (xs : Nat → Int32) (Ln : Nat) (K : ZK ZT) : ZK ZT := (o_aload 1 (o_alS 0 (o_iload 4 (o_ic 1 (o_bin (fun x y => x + y) (o_sld xs Ln (o_alS 0 (o_iload 4 (o_ic 2 (o_bin (fun x y => x + y) (o_sld xs Ln (o_alS 0 (o_iload 4 (o_ic 3 (o_bin (fun x y => x + y) (o_sld xs Ln (o_aload 3 (o_callW5 tL_mass (o_istore 5 (bB8 xs Ln K))))))))))))))))))))
set_option maxRecDepth 20000 in
theorem sD8 {l : Launch} {z0 b Ln : Nat} {xs : Nat → Int32} {D : va_G} {cA : Nat → ClassId} {p : Program} {e : Env} {s : State} {m : MethodId} {below : List Frame} {meth : Method} {c : Code} {K : ZK ZT} (hlt : l.stackTraces = false) (C : zCx p l room_1 s m #[Value.ref b] meth c code 7 RL z0 D cA 0) (hr : meth.sig.returnType = ret) (hz9 : s.heap.size ≤ z0) (hX : va_X b Ln xs s s.heap) (hbl : b < s.heap.size) (hbz : ¬ z0 ≤ b) (hK : Snd p l e room_1 s m #[Value.ref b] below meth c 7 z0 b (iT9 z0 b 45 D cA s) cT9 (lw_Z below #[Value.ref b] s) 1685 K) : Snd p l e room_1 s m #[Value.ref b] below meth c 7 z0 b (iT9 z0 b 45 D cA s) cT9 (lw_Z below #[Value.ref b] s) 546 (bD8 xs Ln K) := by
  obtain ⟨hx, hb, hml, hown, hts, -⟩ := id C
  unfold bD8
  refine k_aload_n hx hb dL_law_546 rfl ?_
  refine k_alS hx hb dL_law_547 rfl ?_
  refine k_iload hx hb dL_law_548 ?_
  refine k_iconst hx hb dL_law_550 (by decide) ?_
  refine k_iadd hx hb dL_law_551 ?_
  refine k_sld hx hb hX hbl hbz dL_law_552 ?_
  refine k_alS hx hb dL_law_553 rfl ?_
  refine k_iload hx hb dL_law_554 ?_
  refine k_iconst hx hb dL_law_556 (by decide) ?_
  refine k_iadd hx hb dL_law_557 ?_
  refine k_sld hx hb hX hbl hbz dL_law_558 ?_
  refine k_alS hx hb dL_law_559 rfl ?_
  refine k_iload hx hb dL_law_560 ?_
  refine k_iconst hx hb dL_law_562 (by decide) ?_
  refine k_iadd hx hb dL_law_563 ?_
  refine k_sld hx hb hX hbl hbz dL_law_564 ?_
  refine k_aload_n hx hb dL_law_565 rfl ?_
  refine k_callW5 C (vL_mass hlt) zlL_132 zsL_mass ziL zwL_mass (by decide +kernel) ⟨Nat.le_of_ble_eq_true rfl, Nat.le_of_ble_eq_true rfl⟩ ⟨rfl, rfl⟩ dL_law_566 ?_
  refine k_istore hx hb dL_law_569 ?_
  exact sB8 hlt C hr hz9 hX hbl hbz hK
set_option maxRecDepth 20000 in
theorem sT9 {l : Launch} {z0 b Ln : Nat} {xs : Nat → Int32} {D : va_G} {cA : Nat → ClassId} {p : Program} {e : Env} {s : State} {m : MethodId} {below : List Frame} {meth : Method} {c : Code} {K : ZK ZT} (hlt : l.stackTraces = false) (C : zCx p l room_1 s m #[Value.ref b] meth c code 7 RL z0 D cA 0) (hr : meth.sig.returnType = ret) (hz9 : s.heap.size ≤ z0) (hX : va_X b Ln xs s s.heap) (hbl : b < s.heap.size) (hbz : ¬ z0 ≤ b) (hK : Snd p l e room_1 s m #[Value.ref b] below meth c 7 z0 b (iT9 z0 b 45 D cA s) cT9 (lw_Z below #[Value.ref b] s) 1685 K) : Snd p l e room_1 s m #[Value.ref b] below meth c 7 z0 b (iT9 z0 b 45 D cA s) cT9 (lw_Z below #[Value.ref b] s) 639 (bTI K) := by
  obtain ⟨hx, hb, hml, hown, hts, -⟩ := id C
  unfold bTI
  refine k_aload_n hx hb dL_law_639 rfl ?_
  refine k_callM0 C (ci := 6) (Tf := TX6) (Nf := 20) (Cn := RX6) rfl (mX6_thrown hlt) rfl zlL_104 zmX6_thrown zvX6_thrown ziX6 zcX6_thrown (by decide +kernel) ⟨Nat.le_of_ble_eq_true rfl, Nat.le_of_ble_eq_true rfl⟩ ⟨Nat.le_of_ble_eq_true rfl, rfl, rfl⟩ dL_law_640 ?_
  refine k_iload hx hb dL_law_643 ?_
  refine k_icmp_eq (tgt := 650) hx hb dL_law_645 (by decide) ?_ ?_
  · refine k_iload hx hb dL_law_650 ?_
    refine k_if_ne (tgt := 667) hx hb dL_law_652 (by decide) ?_ ?_
    · refine k_goto (tgt := 1685) hx hb dL_law_667 (by decide) ?_
      exact hK
    · refine k_aload_n hx hb dL_law_655 rfl ?_
      refine k_iconst hx hb dL_law_656 (by decide) ?_
      refine k_laldT C dL_law_657 ?_
      refine k_iload hx hb dL_law_658 ?_
      refine k_i2l hx hb dL_law_660 ?_
      refine k_lcmp hx hb dL_law_661 ?_
      refine k_if_eq (tgt := 667) hx hb dL_law_662 (by decide) ?_ ?_
      · refine k_goto (tgt := 1685) hx hb dL_law_667 (by decide) ?_
        exact hK
      · refine k_iconst hx hb dL_law_665 (by decide) ?_
        exact k_lend C hr hz9 dL_law_666
  · refine k_iconst hx hb dL_law_648 (by decide) ?_
    exact k_lend C hr hz9 dL_law_649
def bB9 (xs : Nat → Int32) (Ln : Nat) (K : ZK ZT) : ZK ZT := (o_aload 2 (o_callM0 6 tX6_undo (o_istore 6 (bTI K))))
set_option maxRecDepth 20000 in
theorem sB9 {l : Launch} {z0 b Ln : Nat} {xs : Nat → Int32} {D : va_G} {cA : Nat → ClassId} {p : Program} {e : Env} {s : State} {m : MethodId} {below : List Frame} {meth : Method} {c : Code} {K : ZK ZT} (hlt : l.stackTraces = false) (C : zCx p l room_1 s m #[Value.ref b] meth c code 7 RL z0 D cA 0) (hr : meth.sig.returnType = ret) (hz9 : s.heap.size ≤ z0) (hX : va_X b Ln xs s s.heap) (hbl : b < s.heap.size) (hbz : ¬ z0 ≤ b) (hK : Snd p l e room_1 s m #[Value.ref b] below meth c 7 z0 b (iT9 z0 b 45 D cA s) cT9 (lw_Z below #[Value.ref b] s) 1685 K) : Snd p l e room_1 s m #[Value.ref b] below meth c 7 z0 b (iT9 z0 b 45 D cA s) cT9 (lw_Z below #[Value.ref b] s) 633 (bB9 xs Ln K) := by
  obtain ⟨hx, hb, hml, hown, hts, -⟩ := id C
  unfold bB9
  refine k_aload_n hx hb dL_law_633 rfl ?_
  refine k_callM0 C (ci := 6) (Tf := TX6) (Nf := 20) (Cn := RX6) rfl (mX6_undo hlt) rfl zlL_138 zmX6_undo zvX6_undo ziX6 zcX6_undo (by decide +kernel) ⟨Nat.le_of_ble_eq_true rfl, Nat.le_of_ble_eq_true rfl⟩ ⟨Nat.le_of_ble_eq_true rfl, rfl, rfl⟩ dL_law_634 ?_
  refine k_istore hx hb dL_law_637 ?_
  exact sT9 hlt C hr hz9 hX hbl hbz hK
def bD9 (xs : Nat → Int32) (Ln : Nat) (K : ZK ZT) : ZK ZT := (o_aload 1 (o_aload 3 (o_callW2 tL_undo (o_istore 5 (bB9 xs Ln K)))))
set_option maxRecDepth 20000 in
theorem sD9 {l : Launch} {z0 b Ln : Nat} {xs : Nat → Int32} {D : va_G} {cA : Nat → ClassId} {p : Program} {e : Env} {s : State} {m : MethodId} {below : List Frame} {meth : Method} {c : Code} {K : ZK ZT} (hlt : l.stackTraces = false) (C : zCx p l room_1 s m #[Value.ref b] meth c code 7 RL z0 D cA 0) (hr : meth.sig.returnType = ret) (hz9 : s.heap.size ≤ z0) (hX : va_X b Ln xs s s.heap) (hbl : b < s.heap.size) (hbz : ¬ z0 ≤ b) (hK : Snd p l e room_1 s m #[Value.ref b] below meth c 7 z0 b (iT9 z0 b 45 D cA s) cT9 (lw_Z below #[Value.ref b] s) 1685 K) : Snd p l e room_1 s m #[Value.ref b] below meth c 7 z0 b (iT9 z0 b 45 D cA s) cT9 (lw_Z below #[Value.ref b] s) 626 (bD9 xs Ln K) := by
  obtain ⟨hx, hb, hml, hown, hts, -⟩ := id C
  unfold bD9
  refine k_aload_n hx hb dL_law_626 rfl ?_
  refine k_aload_n hx hb dL_law_627 rfl ?_
  refine k_callW2 C (vL_undo hlt) zlL_136 zsL_undo ziL zwL_undo (by decide +kernel) ⟨Nat.le_of_ble_eq_true rfl, Nat.le_of_ble_eq_true rfl⟩ ⟨rfl, rfl⟩ dL_law_628 ?_
  refine k_istore hx hb dL_law_631 ?_
  exact sB9 hlt C hr hz9 hX hbl hbz hK
def bD10 (xs : Nat → Int32) (Ln : Nat) (K : ZK ZT) : ZK ZT := (o_aload 1 (o_callM0 5 tX5_kept (o_aload 2 (o_callM0 6 tX6_kept (o_if2 (fun x y => x = y) K (o_ic 0 o_lend))))))
set_option maxRecDepth 20000 in
theorem sD10 {l : Launch} {z0 b Ln : Nat} {xs : Nat → Int32} {D : va_G} {cA : Nat → ClassId} {p : Program} {e : Env} {s : State} {m : MethodId} {below : List Frame} {meth : Method} {c : Code} {K : ZK ZT} (hlt : l.stackTraces = false) (C : zCx p l room_1 s m #[Value.ref b] meth c code 7 RL z0 D cA 0) (hr : meth.sig.returnType = ret) (hz9 : s.heap.size ≤ z0) (hX : va_X b Ln xs s s.heap) (hbl : b < s.heap.size) (hbz : ¬ z0 ≤ b) (hK : Snd p l e room_1 s m #[Value.ref b] below meth c 7 z0 b (iT9 z0 b 45 D cA s) cT9 (lw_Z below #[Value.ref b] s) 1685 K) : Snd p l e room_1 s m #[Value.ref b] below meth c 7 z0 b (iT9 z0 b 45 D cA s) cT9 (lw_Z below #[Value.ref b] s) 670 (bD10 xs Ln K) := by
  obtain ⟨hx, hb, hml, hown, hts, -⟩ := id C
  unfold bD10
  refine k_aload_n hx hb dL_law_670 rfl ?_
  refine k_callM0 C (ci := 5) (Tf := TX5) (Nf := 6) (Cn := RX5) rfl (mX5_kept hlt) rfl zlL_139 zmX5_kept zvX5_kept ziX5 zcX5_kept (by decide +kernel) ⟨Nat.le_of_ble_eq_true rfl, Nat.le_of_ble_eq_true rfl⟩ ⟨Nat.le_of_ble_eq_true rfl, rfl, rfl⟩ dL_law_671 ?_
  refine k_aload_n hx hb dL_law_674 rfl ?_
  refine k_callM0 C (ci := 6) (Tf := TX6) (Nf := 20) (Cn := RX6) rfl (mX6_kept hlt) rfl zlL_142 zmX6_kept zvX6_kept ziX6 zcX6_kept (by decide +kernel) ⟨Nat.le_of_ble_eq_true rfl, Nat.le_of_ble_eq_true rfl⟩ ⟨Nat.le_of_ble_eq_true rfl, rfl, rfl⟩ dL_law_675 ?_
  refine k_icmp_eq (tgt := 1685) hx hb dL_law_678 (by decide) ?_ ?_
  · exact hK
  · refine k_iconst hx hb dL_law_681 (by decide) ?_
    exact k_lend C hr hz9 dL_law_682
set_option maxRecDepth 20000 in
theorem sT11 {l : Launch} {z0 b Ln : Nat} {xs : Nat → Int32} {D : va_G} {cA : Nat → ClassId} {p : Program} {e : Env} {s : State} {m : MethodId} {below : List Frame} {meth : Method} {c : Code} {K : ZK ZT} (hlt : l.stackTraces = false) (C : zCx p l room_1 s m #[Value.ref b] meth c code 7 RL z0 D cA 0) (hr : meth.sig.returnType = ret) (hz9 : s.heap.size ≤ z0) (hX : va_X b Ln xs s s.heap) (hbl : b < s.heap.size) (hbz : ¬ z0 ≤ b) (hK : Snd p l e room_1 s m #[Value.ref b] below meth c 7 z0 b (iT9 z0 b 45 D cA s) cT9 (lw_Z below #[Value.ref b] s) 1685 K) : Snd p l e room_1 s m #[Value.ref b] below meth c 7 z0 b (iT9 z0 b 45 D cA s) cT9 (lw_Z below #[Value.ref b] s) 708 (bTI K) := by
  obtain ⟨hx, hb, hml, hown, hts, -⟩ := id C
  unfold bTI
  refine k_aload_n hx hb dL_law_708 rfl ?_
  refine k_callM0 C (ci := 6) (Tf := TX6) (Nf := 20) (Cn := RX6) rfl (mX6_thrown hlt) rfl zlL_104 zmX6_thrown zvX6_thrown ziX6 zcX6_thrown (by decide +kernel) ⟨Nat.le_of_ble_eq_true rfl, Nat.le_of_ble_eq_true rfl⟩ ⟨Nat.le_of_ble_eq_true rfl, rfl, rfl⟩ dL_law_709 ?_
  refine k_iload hx hb dL_law_712 ?_
  refine k_icmp_eq (tgt := 719) hx hb dL_law_714 (by decide) ?_ ?_
  · refine k_iload hx hb dL_law_719 ?_
    refine k_if_ne (tgt := 736) hx hb dL_law_721 (by decide) ?_ ?_
    · refine k_goto (tgt := 1685) hx hb dL_law_736 (by decide) ?_
      exact hK
    · refine k_aload_n hx hb dL_law_724 rfl ?_
      refine k_iconst hx hb dL_law_725 (by decide) ?_
      refine k_laldT C dL_law_726 ?_
      refine k_iload hx hb dL_law_727 ?_
      refine k_i2l hx hb dL_law_729 ?_
      refine k_lcmp hx hb dL_law_730 ?_
      refine k_if_eq (tgt := 736) hx hb dL_law_731 (by decide) ?_ ?_
      · refine k_goto (tgt := 1685) hx hb dL_law_736 (by decide) ?_
        exact hK
      · refine k_iconst hx hb dL_law_734 (by decide) ?_
        exact k_lend C hr hz9 dL_law_735
  · refine k_iconst hx hb dL_law_717 (by decide) ?_
    exact k_lend C hr hz9 dL_law_718
def bB11 (xs : Nat → Int32) (Ln : Nat) (K : ZK ZT) : ZK ZT := (o_aload 2 (o_alS 0 (o_iload 4 (o_ic 1 (o_bin (fun x y => x + y) (o_sld xs Ln (o_callM1 6 tX6_hand (o_istore 6 (bTI K)))))))))
set_option maxRecDepth 20000 in
theorem sB11 {l : Launch} {z0 b Ln : Nat} {xs : Nat → Int32} {D : va_G} {cA : Nat → ClassId} {p : Program} {e : Env} {s : State} {m : MethodId} {below : List Frame} {meth : Method} {c : Code} {K : ZK ZT} (hlt : l.stackTraces = false) (C : zCx p l room_1 s m #[Value.ref b] meth c code 7 RL z0 D cA 0) (hr : meth.sig.returnType = ret) (hz9 : s.heap.size ≤ z0) (hX : va_X b Ln xs s s.heap) (hbl : b < s.heap.size) (hbz : ¬ z0 ≤ b) (hK : Snd p l e room_1 s m #[Value.ref b] below meth c 7 z0 b (iT9 z0 b 45 D cA s) cT9 (lw_Z below #[Value.ref b] s) 1685 K) : Snd p l e room_1 s m #[Value.ref b] below meth c 7 z0 b (iT9 z0 b 45 D cA s) cT9 (lw_Z below #[Value.ref b] s) 696 (bB11 xs Ln K) := by
  obtain ⟨hx, hb, hml, hown, hts, -⟩ := id C
  unfold bB11
  refine k_aload_n hx hb dL_law_696 rfl ?_
  refine k_alS hx hb dL_law_697 rfl ?_
  refine k_iload hx hb dL_law_698 ?_
  refine k_iconst hx hb dL_law_700 (by decide) ?_
  refine k_iadd hx hb dL_law_701 ?_
  refine k_sld hx hb hX hbl hbz dL_law_702 ?_
  refine k_callM1 C (ci := 6) (Tf := TX6) (Nf := 20) (Cn := RX6) rfl (mX6_hand hlt) rfl zlL_146 zmX6_hand zvX6_hand ziX6 zcX6_hand (by decide +kernel) ⟨Nat.le_of_ble_eq_true rfl, Nat.le_of_ble_eq_true rfl⟩ ⟨Nat.le_of_ble_eq_true rfl, rfl, rfl⟩ dL_law_703 ?_
  refine k_istore hx hb dL_law_706 ?_
  exact sT11 hlt C hr hz9 hX hbl hbz hK
def bD11 (xs : Nat → Int32) (Ln : Nat) (K : ZK ZT) : ZK ZT := (o_aload 1 (o_alS 0 (o_iload 4 (o_ic 1 (o_bin (fun x y => x + y) (o_sld xs Ln (o_aload 3 (o_callW3 tL_hand (o_istore 5 (bB11 xs Ln K))))))))))
set_option maxRecDepth 20000 in
theorem sD11 {l : Launch} {z0 b Ln : Nat} {xs : Nat → Int32} {D : va_G} {cA : Nat → ClassId} {p : Program} {e : Env} {s : State} {m : MethodId} {below : List Frame} {meth : Method} {c : Code} {K : ZK ZT} (hlt : l.stackTraces = false) (C : zCx p l room_1 s m #[Value.ref b] meth c code 7 RL z0 D cA 0) (hr : meth.sig.returnType = ret) (hz9 : s.heap.size ≤ z0) (hX : va_X b Ln xs s s.heap) (hbl : b < s.heap.size) (hbz : ¬ z0 ≤ b) (hK : Snd p l e room_1 s m #[Value.ref b] below meth c 7 z0 b (iT9 z0 b 45 D cA s) cT9 (lw_Z below #[Value.ref b] s) 1685 K) : Snd p l e room_1 s m #[Value.ref b] below meth c 7 z0 b (iT9 z0 b 45 D cA s) cT9 (lw_Z below #[Value.ref b] s) 683 (bD11 xs Ln K) := by
  obtain ⟨hx, hb, hml, hown, hts, -⟩ := id C
  unfold bD11
  refine k_aload_n hx hb dL_law_683 rfl ?_
  refine k_alS hx hb dL_law_684 rfl ?_
  refine k_iload hx hb dL_law_685 ?_
  refine k_iconst hx hb dL_law_687 (by decide) ?_
  refine k_iadd hx hb dL_law_688 ?_
  refine k_sld hx hb hX hbl hbz dL_law_689 ?_
  refine k_aload_n hx hb dL_law_690 rfl ?_
  refine k_callW3 C (vL_hand hlt) zlL_143 zsL_hand ziL zwL_hand (by decide +kernel) ⟨Nat.le_of_ble_eq_true rfl, Nat.le_of_ble_eq_true rfl⟩ ⟨rfl, rfl⟩ dL_law_691 ?_
  refine k_istore hx hb dL_law_694 ?_
  exact sB11 hlt C hr hz9 hX hbl hbz hK
set_option maxRecDepth 20000 in
theorem sT12 {l : Launch} {z0 b Ln : Nat} {xs : Nat → Int32} {D : va_G} {cA : Nat → ClassId} {p : Program} {e : Env} {s : State} {m : MethodId} {below : List Frame} {meth : Method} {c : Code} {K : ZK ZT} (hlt : l.stackTraces = false) (C : zCx p l room_1 s m #[Value.ref b] meth c code 7 RL z0 D cA 0) (hr : meth.sig.returnType = ret) (hz9 : s.heap.size ≤ z0) (hX : va_X b Ln xs s s.heap) (hbl : b < s.heap.size) (hbz : ¬ z0 ≤ b) (hK : Snd p l e room_1 s m #[Value.ref b] below meth c 7 z0 b (iT9 z0 b 45 D cA s) cT9 (lw_Z below #[Value.ref b] s) 1685 K) : Snd p l e room_1 s m #[Value.ref b] below meth c 7 z0 b (iT9 z0 b 45 D cA s) cT9 (lw_Z below #[Value.ref b] s) 788 (bTI K) := by
  obtain ⟨hx, hb, hml, hown, hts, -⟩ := id C
  unfold bTI
  refine k_aload_n hx hb dL_law_788 rfl ?_
  refine k_callM0 C (ci := 6) (Tf := TX6) (Nf := 20) (Cn := RX6) rfl (mX6_thrown hlt) rfl zlL_104 zmX6_thrown zvX6_thrown ziX6 zcX6_thrown (by decide +kernel) ⟨Nat.le_of_ble_eq_true rfl, Nat.le_of_ble_eq_true rfl⟩ ⟨Nat.le_of_ble_eq_true rfl, rfl, rfl⟩ dL_law_789 ?_
  refine k_iload hx hb dL_law_792 ?_
  refine k_icmp_eq (tgt := 799) hx hb dL_law_794 (by decide) ?_ ?_
  · refine k_iload hx hb dL_law_799 ?_
    refine k_if_ne (tgt := 816) hx hb dL_law_801 (by decide) ?_ ?_
    · refine k_goto (tgt := 1685) hx hb dL_law_816 (by decide) ?_
      exact hK
    · refine k_aload_n hx hb dL_law_804 rfl ?_
      refine k_iconst hx hb dL_law_805 (by decide) ?_
      refine k_laldT C dL_law_806 ?_
      refine k_iload hx hb dL_law_807 ?_
      refine k_i2l hx hb dL_law_809 ?_
      refine k_lcmp hx hb dL_law_810 ?_
      refine k_if_eq (tgt := 816) hx hb dL_law_811 (by decide) ?_ ?_
      · refine k_goto (tgt := 1685) hx hb dL_law_816 (by decide) ?_
        exact hK
      · refine k_iconst hx hb dL_law_814 (by decide) ?_
        exact k_lend C hr hz9 dL_law_815
  · refine k_iconst hx hb dL_law_797 (by decide) ?_
    exact k_lend C hr hz9 dL_law_798
def bB12 (xs : Nat → Int32) (Ln : Nat) (K : ZK ZT) : ZK ZT := (o_aload 2 (o_alS 0 (o_iload 4 (o_ic 1 (o_bin (fun x y => x + y) (o_sld xs Ln (o_alS 0 (o_iload 4 (o_ic 2 (o_bin (fun x y => x + y) (o_sld xs Ln (o_alS 0 (o_iload 4 (o_ic 3 (o_bin (fun x y => x + y) (o_sld xs Ln (o_callM3 6 tX6_ask (o_istore 6 (bTI K)))))))))))))))))))
set_option maxRecDepth 20000 in
theorem sB12 {l : Launch} {z0 b Ln : Nat} {xs : Nat → Int32} {D : va_G} {cA : Nat → ClassId} {p : Program} {e : Env} {s : State} {m : MethodId} {below : List Frame} {meth : Method} {c : Code} {K : ZK ZT} (hlt : l.stackTraces = false) (C : zCx p l room_1 s m #[Value.ref b] meth c code 7 RL z0 D cA 0) (hr : meth.sig.returnType = ret) (hz9 : s.heap.size ≤ z0) (hX : va_X b Ln xs s s.heap) (hbl : b < s.heap.size) (hbz : ¬ z0 ≤ b) (hK : Snd p l e room_1 s m #[Value.ref b] below meth c 7 z0 b (iT9 z0 b 45 D cA s) cT9 (lw_Z below #[Value.ref b] s) 1685 K) : Snd p l e room_1 s m #[Value.ref b] below meth c 7 z0 b (iT9 z0 b 45 D cA s) cT9 (lw_Z below #[Value.ref b] s) 764 (bB12 xs Ln K) := by
  obtain ⟨hx, hb, hml, hown, hts, -⟩ := id C
  unfold bB12
  refine k_aload_n hx hb dL_law_764 rfl ?_
  refine k_alS hx hb dL_law_765 rfl ?_
  refine k_iload hx hb dL_law_766 ?_
  refine k_iconst hx hb dL_law_768 (by decide) ?_
  refine k_iadd hx hb dL_law_769 ?_
  refine k_sld hx hb hX hbl hbz dL_law_770 ?_
  refine k_alS hx hb dL_law_771 rfl ?_
  refine k_iload hx hb dL_law_772 ?_
  refine k_iconst hx hb dL_law_774 (by decide) ?_
  refine k_iadd hx hb dL_law_775 ?_
  refine k_sld hx hb hX hbl hbz dL_law_776 ?_
  refine k_alS hx hb dL_law_777 rfl ?_
  refine k_iload hx hb dL_law_778 ?_
  refine k_iconst hx hb dL_law_780 (by decide) ?_
  refine k_iadd hx hb dL_law_781 ?_
  refine k_sld hx hb hX hbl hbz dL_law_782 ?_
  refine k_callM3 C (ci := 6) (Tf := TX6) (Nf := 20) (Cn := RX6) rfl (mX6_ask hlt) rfl zlL_149 zmX6_ask zvX6_ask ziX6 zcX6_ask (by decide +kernel) ⟨Nat.le_of_ble_eq_true rfl, Nat.le_of_ble_eq_true rfl⟩ ⟨Nat.le_of_ble_eq_true rfl, rfl, rfl⟩ dL_law_783 ?_
  refine k_istore hx hb dL_law_786 ?_
  exact sT12 hlt C hr hz9 hX hbl hbz hK
def bD12 (xs : Nat → Int32) (Ln : Nat) (K : ZK ZT) : ZK ZT := (o_aload 1 (o_alS 0 (o_iload 4 (o_ic 1 (o_bin (fun x y => x + y) (o_sld xs Ln (o_alS 0 (o_iload 4 (o_ic 2 (o_bin (fun x y => x + y) (o_sld xs Ln (o_alS 0 (o_iload 4 (o_ic 3 (o_bin (fun x y => x + y) (o_sld xs Ln (o_aload 3 (o_callW5 tL_ask (o_istore 5 (bB12 xs Ln K))))))))))))))))))))
set_option maxRecDepth 20000 in
theorem sD12 {l : Launch} {z0 b Ln : Nat} {xs : Nat → Int32} {D : va_G} {cA : Nat → ClassId} {p : Program} {e : Env} {s : State} {m : MethodId} {below : List Frame} {meth : Method} {c : Code} {K : ZK ZT} (hlt : l.stackTraces = false) (C : zCx p l room_1 s m #[Value.ref b] meth c code 7 RL z0 D cA 0) (hr : meth.sig.returnType = ret) (hz9 : s.heap.size ≤ z0) (hX : va_X b Ln xs s s.heap) (hbl : b < s.heap.size) (hbz : ¬ z0 ≤ b) (hK : Snd p l e room_1 s m #[Value.ref b] below meth c 7 z0 b (iT9 z0 b 45 D cA s) cT9 (lw_Z below #[Value.ref b] s) 1685 K) : Snd p l e room_1 s m #[Value.ref b] below meth c 7 z0 b (iT9 z0 b 45 D cA s) cT9 (lw_Z below #[Value.ref b] s) 739 (bD12 xs Ln K) := by
  obtain ⟨hx, hb, hml, hown, hts, -⟩ := id C
  unfold bD12
  refine k_aload_n hx hb dL_law_739 rfl ?_
  refine k_alS hx hb dL_law_740 rfl ?_
  refine k_iload hx hb dL_law_741 ?_
  refine k_iconst hx hb dL_law_743 (by decide) ?_
  refine k_iadd hx hb dL_law_744 ?_
  refine k_sld hx hb hX hbl hbz dL_law_745 ?_
  refine k_alS hx hb dL_law_746 rfl ?_
  refine k_iload hx hb dL_law_747 ?_
  refine k_iconst hx hb dL_law_749 (by decide) ?_
  refine k_iadd hx hb dL_law_750 ?_
  refine k_sld hx hb hX hbl hbz dL_law_751 ?_
  refine k_alS hx hb dL_law_752 rfl ?_
  refine k_iload hx hb dL_law_753 ?_
  refine k_iconst hx hb dL_law_755 (by decide) ?_
  refine k_iadd hx hb dL_law_756 ?_
  refine k_sld hx hb hX hbl hbz dL_law_757 ?_
  refine k_aload_n hx hb dL_law_758 rfl ?_
  refine k_callW5 C (vL_ask hlt) zlL_147 zsL_ask ziL zwL_ask (by decide +kernel) ⟨Nat.le_of_ble_eq_true rfl, Nat.le_of_ble_eq_true rfl⟩ ⟨rfl, rfl⟩ dL_law_759 ?_
  refine k_istore hx hb dL_law_762 ?_
  exact sB12 hlt C hr hz9 hX hbl hbz hK
set_option maxRecDepth 20000 in
theorem sT13 {l : Launch} {z0 b Ln : Nat} {xs : Nat → Int32} {D : va_G} {cA : Nat → ClassId} {p : Program} {e : Env} {s : State} {m : MethodId} {below : List Frame} {meth : Method} {c : Code} {K : ZK ZT} (hlt : l.stackTraces = false) (C : zCx p l room_1 s m #[Value.ref b] meth c code 7 RL z0 D cA 0) (hr : meth.sig.returnType = ret) (hz9 : s.heap.size ≤ z0) (hX : va_X b Ln xs s s.heap) (hbl : b < s.heap.size) (hbz : ¬ z0 ≤ b) (hK : Snd p l e room_1 s m #[Value.ref b] below meth c 7 z0 b (iT9 z0 b 45 D cA s) cT9 (lw_Z below #[Value.ref b] s) 1685 K) : Snd p l e room_1 s m #[Value.ref b] below meth c 7 z0 b (iT9 z0 b 45 D cA s) cT9 (lw_Z below #[Value.ref b] s) 884 (bTI K) := by
  obtain ⟨hx, hb, hml, hown, hts, -⟩ := id C
  unfold bTI
  refine k_aload_n hx hb dL_law_884 rfl ?_
  refine k_callM0 C (ci := 6) (Tf := TX6) (Nf := 20) (Cn := RX6) rfl (mX6_thrown hlt) rfl zlL_104 zmX6_thrown zvX6_thrown ziX6 zcX6_thrown (by decide +kernel) ⟨Nat.le_of_ble_eq_true rfl, Nat.le_of_ble_eq_true rfl⟩ ⟨Nat.le_of_ble_eq_true rfl, rfl, rfl⟩ dL_law_885 ?_
  refine k_iload hx hb dL_law_888 ?_
  refine k_icmp_eq (tgt := 895) hx hb dL_law_890 (by decide) ?_ ?_
  · refine k_iload hx hb dL_law_895 ?_
    refine k_if_ne (tgt := 912) hx hb dL_law_897 (by decide) ?_ ?_
    · refine k_goto (tgt := 1685) hx hb dL_law_912 (by decide) ?_
      exact hK
    · refine k_aload_n hx hb dL_law_900 rfl ?_
      refine k_iconst hx hb dL_law_901 (by decide) ?_
      refine k_laldT C dL_law_902 ?_
      refine k_iload hx hb dL_law_903 ?_
      refine k_i2l hx hb dL_law_905 ?_
      refine k_lcmp hx hb dL_law_906 ?_
      refine k_if_eq (tgt := 912) hx hb dL_law_907 (by decide) ?_ ?_
      · refine k_goto (tgt := 1685) hx hb dL_law_912 (by decide) ?_
        exact hK
      · refine k_iconst hx hb dL_law_910 (by decide) ?_
        exact k_lend C hr hz9 dL_law_911
  · refine k_iconst hx hb dL_law_893 (by decide) ?_
    exact k_lend C hr hz9 dL_law_894
def bB13 (xs : Nat → Int32) (Ln : Nat) (K : ZK ZT) : ZK ZT := (o_aload 2 (o_alS 0 (o_iload 4 (o_ic 1 (o_bin (fun x y => x + y) (o_sld xs Ln (o_alS 0 (o_iload 4 (o_ic 2 (o_bin (fun x y => x + y) (o_sld xs Ln (o_alS 0 (o_iload 4 (o_ic 3 (o_bin (fun x y => x + y) (o_sld xs Ln (o_if1 (fun x => x = 0) (o_ic 0 (o_callM3 6 tX6_vote (o_istore 6 (bTI K)))) (o_ic 1 (o_callM3 6 tX6_vote (o_istore 6 (bTI K)))))))))))))))))))))
set_option maxRecDepth 20000 in
theorem sB13 {l : Launch} {z0 b Ln : Nat} {xs : Nat → Int32} {D : va_G} {cA : Nat → ClassId} {p : Program} {e : Env} {s : State} {m : MethodId} {below : List Frame} {meth : Method} {c : Code} {K : ZK ZT} (hlt : l.stackTraces = false) (C : zCx p l room_1 s m #[Value.ref b] meth c code 7 RL z0 D cA 0) (hr : meth.sig.returnType = ret) (hz9 : s.heap.size ≤ z0) (hX : va_X b Ln xs s s.heap) (hbl : b < s.heap.size) (hbz : ¬ z0 ≤ b) (hK : Snd p l e room_1 s m #[Value.ref b] below meth c 7 z0 b (iT9 z0 b 45 D cA s) cT9 (lw_Z below #[Value.ref b] s) 1685 K) : Snd p l e room_1 s m #[Value.ref b] below meth c 7 z0 b (iT9 z0 b 45 D cA s) cT9 (lw_Z below #[Value.ref b] s) 852 (bB13 xs Ln K) := by
  obtain ⟨hx, hb, hml, hown, hts, -⟩ := id C
  unfold bB13
  refine k_aload_n hx hb dL_law_852 rfl ?_
  refine k_alS hx hb dL_law_853 rfl ?_
  refine k_iload hx hb dL_law_854 ?_
  refine k_iconst hx hb dL_law_856 (by decide) ?_
  refine k_iadd hx hb dL_law_857 ?_
  refine k_sld hx hb hX hbl hbz dL_law_858 ?_
  refine k_alS hx hb dL_law_859 rfl ?_
  refine k_iload hx hb dL_law_860 ?_
  refine k_iconst hx hb dL_law_862 (by decide) ?_
  refine k_iadd hx hb dL_law_863 ?_
  refine k_sld hx hb hX hbl hbz dL_law_864 ?_
  refine k_alS hx hb dL_law_865 rfl ?_
  refine k_iload hx hb dL_law_866 ?_
  refine k_iconst hx hb dL_law_868 (by decide) ?_
  refine k_iadd hx hb dL_law_869 ?_
  refine k_sld hx hb hX hbl hbz dL_law_870 ?_
  refine k_if_eq (tgt := 878) hx hb dL_law_871 (by decide) ?_ ?_
  · refine k_iconst hx hb dL_law_878 (by decide) ?_
    refine k_callM3 C (ci := 6) (Tf := TX6) (Nf := 20) (Cn := RX6) rfl (mX6_vote hlt) rfl zlL_153 zmX6_vote zvX6_vote ziX6 zcX6_vote (by decide +kernel) ⟨Nat.le_of_ble_eq_true rfl, Nat.le_of_ble_eq_true rfl⟩ ⟨Nat.le_of_ble_eq_true rfl, rfl, rfl⟩ dL_law_879 ?_
    refine k_istore hx hb dL_law_882 ?_
    exact sT13 hlt C hr hz9 hX hbl hbz hK
  · refine k_iconst hx hb dL_law_874 (by decide) ?_
    refine k_goto (tgt := 879) hx hb dL_law_875 (by decide) ?_
    refine k_callM3 C (ci := 6) (Tf := TX6) (Nf := 20) (Cn := RX6) rfl (mX6_vote hlt) rfl zlL_153 zmX6_vote zvX6_vote ziX6 zcX6_vote (by decide +kernel) ⟨Nat.le_of_ble_eq_true rfl, Nat.le_of_ble_eq_true rfl⟩ ⟨Nat.le_of_ble_eq_true rfl, rfl, rfl⟩ dL_law_879 ?_
    refine k_istore hx hb dL_law_882 ?_
    exact sT13 hlt C hr hz9 hX hbl hbz hK
def bD13 (xs : Nat → Int32) (Ln : Nat) (K : ZK ZT) : ZK ZT := (o_aload 1 (o_alS 0 (o_iload 4 (o_ic 1 (o_bin (fun x y => x + y) (o_sld xs Ln (o_alS 0 (o_iload 4 (o_ic 2 (o_bin (fun x y => x + y) (o_sld xs Ln (o_alS 0 (o_iload 4 (o_ic 3 (o_bin (fun x y => x + y) (o_sld xs Ln (o_if1 (fun x => x = 0) (o_ic 0 (o_aload 3 (o_callW5 tL_vote (o_istore 5 (bB13 xs Ln K))))) (o_ic 1 (o_aload 3 (o_callW5 tL_vote (o_istore 5 (bB13 xs Ln K))))))))))))))))))))))
set_option maxRecDepth 20000 in
theorem sD13 {l : Launch} {z0 b Ln : Nat} {xs : Nat → Int32} {D : va_G} {cA : Nat → ClassId} {p : Program} {e : Env} {s : State} {m : MethodId} {below : List Frame} {meth : Method} {c : Code} {K : ZK ZT} (hlt : l.stackTraces = false) (C : zCx p l room_1 s m #[Value.ref b] meth c code 7 RL z0 D cA 0) (hr : meth.sig.returnType = ret) (hz9 : s.heap.size ≤ z0) (hX : va_X b Ln xs s s.heap) (hbl : b < s.heap.size) (hbz : ¬ z0 ≤ b) (hK : Snd p l e room_1 s m #[Value.ref b] below meth c 7 z0 b (iT9 z0 b 45 D cA s) cT9 (lw_Z below #[Value.ref b] s) 1685 K) : Snd p l e room_1 s m #[Value.ref b] below meth c 7 z0 b (iT9 z0 b 45 D cA s) cT9 (lw_Z below #[Value.ref b] s) 819 (bD13 xs Ln K) := by
  obtain ⟨hx, hb, hml, hown, hts, -⟩ := id C
  unfold bD13
  refine k_aload_n hx hb dL_law_819 rfl ?_
  refine k_alS hx hb dL_law_820 rfl ?_
  refine k_iload hx hb dL_law_821 ?_
  refine k_iconst hx hb dL_law_823 (by decide) ?_
  refine k_iadd hx hb dL_law_824 ?_
  refine k_sld hx hb hX hbl hbz dL_law_825 ?_
  refine k_alS hx hb dL_law_826 rfl ?_
  refine k_iload hx hb dL_law_827 ?_
  refine k_iconst hx hb dL_law_829 (by decide) ?_
  refine k_iadd hx hb dL_law_830 ?_
  refine k_sld hx hb hX hbl hbz dL_law_831 ?_
  refine k_alS hx hb dL_law_832 rfl ?_
  refine k_iload hx hb dL_law_833 ?_
  refine k_iconst hx hb dL_law_835 (by decide) ?_
  refine k_iadd hx hb dL_law_836 ?_
  refine k_sld hx hb hX hbl hbz dL_law_837 ?_
  refine k_if_eq (tgt := 845) hx hb dL_law_838 (by decide) ?_ ?_
  · refine k_iconst hx hb dL_law_845 (by decide) ?_
    refine k_aload_n hx hb dL_law_846 rfl ?_
    refine k_callW5 C (vL_vote hlt) zlL_150 zsL_vote ziL zwL_vote (by decide +kernel) ⟨Nat.le_of_ble_eq_true rfl, Nat.le_of_ble_eq_true rfl⟩ ⟨rfl, rfl⟩ dL_law_847 ?_
    refine k_istore hx hb dL_law_850 ?_
    exact sB13 hlt C hr hz9 hX hbl hbz hK
  · refine k_iconst hx hb dL_law_841 (by decide) ?_
    refine k_goto (tgt := 846) hx hb dL_law_842 (by decide) ?_
    refine k_aload_n hx hb dL_law_846 rfl ?_
    refine k_callW5 C (vL_vote hlt) zlL_150 zsL_vote ziL zwL_vote (by decide +kernel) ⟨Nat.le_of_ble_eq_true rfl, Nat.le_of_ble_eq_true rfl⟩ ⟨rfl, rfl⟩ dL_law_847 ?_
    refine k_istore hx hb dL_law_850 ?_
    exact sB13 hlt C hr hz9 hX hbl hbz hK
set_option maxRecDepth 20000 in
theorem sT14 {l : Launch} {z0 b Ln : Nat} {xs : Nat → Int32} {D : va_G} {cA : Nat → ClassId} {p : Program} {e : Env} {s : State} {m : MethodId} {below : List Frame} {meth : Method} {c : Code} {K : ZK ZT} (hlt : l.stackTraces = false) (C : zCx p l room_1 s m #[Value.ref b] meth c code 7 RL z0 D cA 0) (hr : meth.sig.returnType = ret) (hz9 : s.heap.size ≤ z0) (hX : va_X b Ln xs s s.heap) (hbl : b < s.heap.size) (hbz : ¬ z0 ≤ b) (hK : Snd p l e room_1 s m #[Value.ref b] below meth c 7 z0 b (iT9 z0 b 45 D cA s) cT9 (lw_Z below #[Value.ref b] s) 1685 K) : Snd p l e room_1 s m #[Value.ref b] below meth c 7 z0 b (iT9 z0 b 45 D cA s) cT9 (lw_Z below #[Value.ref b] s) 940 (bTI K) := by
  obtain ⟨hx, hb, hml, hown, hts, -⟩ := id C
  unfold bTI
  refine k_aload_n hx hb dL_law_940 rfl ?_
  refine k_callM0 C (ci := 6) (Tf := TX6) (Nf := 20) (Cn := RX6) rfl (mX6_thrown hlt) rfl zlL_104 zmX6_thrown zvX6_thrown ziX6 zcX6_thrown (by decide +kernel) ⟨Nat.le_of_ble_eq_true rfl, Nat.le_of_ble_eq_true rfl⟩ ⟨Nat.le_of_ble_eq_true rfl, rfl, rfl⟩ dL_law_941 ?_
  refine k_iload hx hb dL_law_944 ?_
  refine k_icmp_eq (tgt := 951) hx hb dL_law_946 (by decide) ?_ ?_
  · refine k_iload hx hb dL_law_951 ?_
    refine k_if_ne (tgt := 968) hx hb dL_law_953 (by decide) ?_ ?_
    · refine k_goto (tgt := 1685) hx hb dL_law_968 (by decide) ?_
      exact hK
    · refine k_aload_n hx hb dL_law_956 rfl ?_
      refine k_iconst hx hb dL_law_957 (by decide) ?_
      refine k_laldT C dL_law_958 ?_
      refine k_iload hx hb dL_law_959 ?_
      refine k_i2l hx hb dL_law_961 ?_
      refine k_lcmp hx hb dL_law_962 ?_
      refine k_if_eq (tgt := 968) hx hb dL_law_963 (by decide) ?_ ?_
      · refine k_goto (tgt := 1685) hx hb dL_law_968 (by decide) ?_
        exact hK
      · refine k_iconst hx hb dL_law_966 (by decide) ?_
        exact k_lend C hr hz9 dL_law_967
  · refine k_iconst hx hb dL_law_949 (by decide) ?_
    exact k_lend C hr hz9 dL_law_950
def bB14 (xs : Nat → Int32) (Ln : Nat) (K : ZK ZT) : ZK ZT := (o_aload 2 (o_alS 0 (o_iload 4 (o_ic 1 (o_bin (fun x y => x + y) (o_sld xs Ln (o_callM1 6 tX6_standing (o_istore 6 (bTI K)))))))))
set_option maxRecDepth 20000 in
theorem sB14 {l : Launch} {z0 b Ln : Nat} {xs : Nat → Int32} {D : va_G} {cA : Nat → ClassId} {p : Program} {e : Env} {s : State} {m : MethodId} {below : List Frame} {meth : Method} {c : Code} {K : ZK ZT} (hlt : l.stackTraces = false) (C : zCx p l room_1 s m #[Value.ref b] meth c code 7 RL z0 D cA 0) (hr : meth.sig.returnType = ret) (hz9 : s.heap.size ≤ z0) (hX : va_X b Ln xs s s.heap) (hbl : b < s.heap.size) (hbz : ¬ z0 ≤ b) (hK : Snd p l e room_1 s m #[Value.ref b] below meth c 7 z0 b (iT9 z0 b 45 D cA s) cT9 (lw_Z below #[Value.ref b] s) 1685 K) : Snd p l e room_1 s m #[Value.ref b] below meth c 7 z0 b (iT9 z0 b 45 D cA s) cT9 (lw_Z below #[Value.ref b] s) 928 (bB14 xs Ln K) := by
  obtain ⟨hx, hb, hml, hown, hts, -⟩ := id C
  unfold bB14
  refine k_aload_n hx hb dL_law_928 rfl ?_
  refine k_alS hx hb dL_law_929 rfl ?_
  refine k_iload hx hb dL_law_930 ?_
  refine k_iconst hx hb dL_law_932 (by decide) ?_
  refine k_iadd hx hb dL_law_933 ?_
  refine k_sld hx hb hX hbl hbz dL_law_934 ?_
  refine k_callM1 C (ci := 6) (Tf := TX6) (Nf := 20) (Cn := RX6) rfl (mX6_standing hlt) rfl zlL_156 zmX6_standing zvX6_standing ziX6 zcX6_standing (by decide +kernel) ⟨Nat.le_of_ble_eq_true rfl, Nat.le_of_ble_eq_true rfl⟩ ⟨Nat.le_of_ble_eq_true rfl, rfl, rfl⟩ dL_law_935 ?_
  refine k_istore hx hb dL_law_938 ?_
  exact sT14 hlt C hr hz9 hX hbl hbz hK
def bD14 (xs : Nat → Int32) (Ln : Nat) (K : ZK ZT) : ZK ZT := (o_aload 1 (o_alS 0 (o_iload 4 (o_ic 1 (o_bin (fun x y => x + y) (o_sld xs Ln (o_aload 3 (o_callW3 tL_standing (o_istore 5 (bB14 xs Ln K))))))))))
set_option maxRecDepth 20000 in
theorem sD14 {l : Launch} {z0 b Ln : Nat} {xs : Nat → Int32} {D : va_G} {cA : Nat → ClassId} {p : Program} {e : Env} {s : State} {m : MethodId} {below : List Frame} {meth : Method} {c : Code} {K : ZK ZT} (hlt : l.stackTraces = false) (C : zCx p l room_1 s m #[Value.ref b] meth c code 7 RL z0 D cA 0) (hr : meth.sig.returnType = ret) (hz9 : s.heap.size ≤ z0) (hX : va_X b Ln xs s s.heap) (hbl : b < s.heap.size) (hbz : ¬ z0 ≤ b) (hK : Snd p l e room_1 s m #[Value.ref b] below meth c 7 z0 b (iT9 z0 b 45 D cA s) cT9 (lw_Z below #[Value.ref b] s) 1685 K) : Snd p l e room_1 s m #[Value.ref b] below meth c 7 z0 b (iT9 z0 b 45 D cA s) cT9 (lw_Z below #[Value.ref b] s) 915 (bD14 xs Ln K) := by
  obtain ⟨hx, hb, hml, hown, hts, -⟩ := id C
  unfold bD14
  refine k_aload_n hx hb dL_law_915 rfl ?_
  refine k_alS hx hb dL_law_916 rfl ?_
  refine k_iload hx hb dL_law_917 ?_
  refine k_iconst hx hb dL_law_919 (by decide) ?_
  refine k_iadd hx hb dL_law_920 ?_
  refine k_sld hx hb hX hbl hbz dL_law_921 ?_
  refine k_aload_n hx hb dL_law_922 rfl ?_
  refine k_callW3 C (vL_standing hlt) zlL_154 zsL_standing ziL zwL_standing (by decide +kernel) ⟨Nat.le_of_ble_eq_true rfl, Nat.le_of_ble_eq_true rfl⟩ ⟨rfl, rfl⟩ dL_law_923 ?_
  refine k_istore hx hb dL_law_926 ?_
  exact sB14 hlt C hr hz9 hX hbl hbz hK
set_option maxRecDepth 20000 in
theorem sT15 {l : Launch} {z0 b Ln : Nat} {xs : Nat → Int32} {D : va_G} {cA : Nat → ClassId} {p : Program} {e : Env} {s : State} {m : MethodId} {below : List Frame} {meth : Method} {c : Code} {K : ZK ZT} (hlt : l.stackTraces = false) (C : zCx p l room_1 s m #[Value.ref b] meth c code 7 RL z0 D cA 0) (hr : meth.sig.returnType = ret) (hz9 : s.heap.size ≤ z0) (hX : va_X b Ln xs s s.heap) (hbl : b < s.heap.size) (hbz : ¬ z0 ≤ b) (hK : Snd p l e room_1 s m #[Value.ref b] below meth c 7 z0 b (iT9 z0 b 45 D cA s) cT9 (lw_Z below #[Value.ref b] s) 1685 K) : Snd p l e room_1 s m #[Value.ref b] below meth c 7 z0 b (iT9 z0 b 45 D cA s) cT9 (lw_Z below #[Value.ref b] s) 996 (bTB K) := by
  obtain ⟨hx, hb, hml, hown, hts, -⟩ := id C
  unfold bTB
  refine k_aload_n hx hb dL_law_996 rfl ?_
  refine k_callM0 C (ci := 6) (Tf := TX6) (Nf := 20) (Cn := RX6) rfl (mX6_thrown hlt) rfl zlL_104 zmX6_thrown zvX6_thrown ziX6 zcX6_thrown (by decide +kernel) ⟨Nat.le_of_ble_eq_true rfl, Nat.le_of_ble_eq_true rfl⟩ ⟨Nat.le_of_ble_eq_true rfl, rfl, rfl⟩ dL_law_997 ?_
  refine k_iload hx hb dL_law_1000 ?_
  refine k_icmp_eq (tgt := 1007) hx hb dL_law_1002 (by decide) ?_ ?_
  · refine k_iload hx hb dL_law_1007 ?_
    refine k_if_ne (tgt := 1031) hx hb dL_law_1009 (by decide) ?_ ?_
    · refine k_goto (tgt := 1685) hx hb dL_law_1031 (by decide) ?_
      exact hK
    · refine k_aload_n hx hb dL_law_1012 rfl ?_
      refine k_iconst hx hb dL_law_1013 (by decide) ?_
      refine k_laldT C dL_law_1014 ?_
      refine k_iload hx hb dL_law_1015 ?_
      refine k_if_eq (tgt := 1024) hx hb dL_law_1017 (by decide) ?_ ?_
      · refine k_lconst hx hb dL_law_1024 (by decide) ?_
        refine k_lcmp hx hb dL_law_1025 ?_
        refine k_if_eq (tgt := 1031) hx hb dL_law_1026 (by decide) ?_ ?_
        · refine k_goto (tgt := 1685) hx hb dL_law_1031 (by decide) ?_
          exact hK
        · refine k_iconst hx hb dL_law_1029 (by decide) ?_
          exact k_lend C hr hz9 dL_law_1030
      · refine k_lconst hx hb dL_law_1020 (by decide) ?_
        refine k_goto (tgt := 1025) hx hb dL_law_1021 (by decide) ?_
        refine k_lcmp hx hb dL_law_1025 ?_
        refine k_if_eq (tgt := 1031) hx hb dL_law_1026 (by decide) ?_ ?_
        · refine k_goto (tgt := 1685) hx hb dL_law_1031 (by decide) ?_
          exact hK
        · refine k_iconst hx hb dL_law_1029 (by decide) ?_
          exact k_lend C hr hz9 dL_law_1030
  · refine k_iconst hx hb dL_law_1005 (by decide) ?_
    exact k_lend C hr hz9 dL_law_1006
def bB15 (xs : Nat → Int32) (Ln : Nat) (K : ZK ZT) : ZK ZT := (o_aload 2 (o_alS 0 (o_iload 4 (o_ic 1 (o_bin (fun x y => x + y) (o_sld xs Ln (o_callM1 6 tX6_couldPass (o_istore 6 (bTB K)))))))))
set_option maxRecDepth 20000 in
theorem sB15 {l : Launch} {z0 b Ln : Nat} {xs : Nat → Int32} {D : va_G} {cA : Nat → ClassId} {p : Program} {e : Env} {s : State} {m : MethodId} {below : List Frame} {meth : Method} {c : Code} {K : ZK ZT} (hlt : l.stackTraces = false) (C : zCx p l room_1 s m #[Value.ref b] meth c code 7 RL z0 D cA 0) (hr : meth.sig.returnType = ret) (hz9 : s.heap.size ≤ z0) (hX : va_X b Ln xs s s.heap) (hbl : b < s.heap.size) (hbz : ¬ z0 ≤ b) (hK : Snd p l e room_1 s m #[Value.ref b] below meth c 7 z0 b (iT9 z0 b 45 D cA s) cT9 (lw_Z below #[Value.ref b] s) 1685 K) : Snd p l e room_1 s m #[Value.ref b] below meth c 7 z0 b (iT9 z0 b 45 D cA s) cT9 (lw_Z below #[Value.ref b] s) 984 (bB15 xs Ln K) := by
  obtain ⟨hx, hb, hml, hown, hts, -⟩ := id C
  unfold bB15
  refine k_aload_n hx hb dL_law_984 rfl ?_
  refine k_alS hx hb dL_law_985 rfl ?_
  refine k_iload hx hb dL_law_986 ?_
  refine k_iconst hx hb dL_law_988 (by decide) ?_
  refine k_iadd hx hb dL_law_989 ?_
  refine k_sld hx hb hX hbl hbz dL_law_990 ?_
  refine k_callM1 C (ci := 6) (Tf := TX6) (Nf := 20) (Cn := RX6) rfl (mX6_couldPass hlt) rfl zlL_159 zmX6_couldPass zvX6_couldPass ziX6 zcX6_couldPass (by decide +kernel) ⟨Nat.le_of_ble_eq_true rfl, Nat.le_of_ble_eq_true rfl⟩ ⟨Nat.le_of_ble_eq_true rfl, rfl, rfl⟩ dL_law_991 ?_
  refine k_istore hx hb dL_law_994 ?_
  exact sT15 hlt C hr hz9 hX hbl hbz hK
def bD15 (xs : Nat → Int32) (Ln : Nat) (K : ZK ZT) : ZK ZT := (o_aload 1 (o_alS 0 (o_iload 4 (o_ic 1 (o_bin (fun x y => x + y) (o_sld xs Ln (o_aload 3 (o_callW3 tL_couldPass (o_istore 5 (bB15 xs Ln K))))))))))
set_option maxRecDepth 20000 in
theorem sD15 {l : Launch} {z0 b Ln : Nat} {xs : Nat → Int32} {D : va_G} {cA : Nat → ClassId} {p : Program} {e : Env} {s : State} {m : MethodId} {below : List Frame} {meth : Method} {c : Code} {K : ZK ZT} (hlt : l.stackTraces = false) (C : zCx p l room_1 s m #[Value.ref b] meth c code 7 RL z0 D cA 0) (hr : meth.sig.returnType = ret) (hz9 : s.heap.size ≤ z0) (hX : va_X b Ln xs s s.heap) (hbl : b < s.heap.size) (hbz : ¬ z0 ≤ b) (hK : Snd p l e room_1 s m #[Value.ref b] below meth c 7 z0 b (iT9 z0 b 45 D cA s) cT9 (lw_Z below #[Value.ref b] s) 1685 K) : Snd p l e room_1 s m #[Value.ref b] below meth c 7 z0 b (iT9 z0 b 45 D cA s) cT9 (lw_Z below #[Value.ref b] s) 971 (bD15 xs Ln K) := by
  obtain ⟨hx, hb, hml, hown, hts, -⟩ := id C
  unfold bD15
  refine k_aload_n hx hb dL_law_971 rfl ?_
  refine k_alS hx hb dL_law_972 rfl ?_
  refine k_iload hx hb dL_law_973 ?_
  refine k_iconst hx hb dL_law_975 (by decide) ?_
  refine k_iadd hx hb dL_law_976 ?_
  refine k_sld hx hb hX hbl hbz dL_law_977 ?_
  refine k_aload_n hx hb dL_law_978 rfl ?_
  refine k_callW3 C (vL_couldPass hlt) zlL_157 zsL_couldPass ziL zwL_couldPass (by decide +kernel) ⟨Nat.le_of_ble_eq_true rfl, Nat.le_of_ble_eq_true rfl⟩ ⟨rfl, rfl⟩ dL_law_979 ?_
  refine k_istore hx hb dL_law_982 ?_
  exact sB15 hlt C hr hz9 hX hbl hbz hK
set_option maxRecDepth 20000 in
theorem sT16 {l : Launch} {z0 b Ln : Nat} {xs : Nat → Int32} {D : va_G} {cA : Nat → ClassId} {p : Program} {e : Env} {s : State} {m : MethodId} {below : List Frame} {meth : Method} {c : Code} {K : ZK ZT} (hlt : l.stackTraces = false) (C : zCx p l room_1 s m #[Value.ref b] meth c code 7 RL z0 D cA 0) (hr : meth.sig.returnType = ret) (hz9 : s.heap.size ≤ z0) (hX : va_X b Ln xs s s.heap) (hbl : b < s.heap.size) (hbz : ¬ z0 ≤ b) (hK : Snd p l e room_1 s m #[Value.ref b] below meth c 7 z0 b (iT9 z0 b 45 D cA s) cT9 (lw_Z below #[Value.ref b] s) 1685 K) : Snd p l e room_1 s m #[Value.ref b] below meth c 7 z0 b (iT9 z0 b 45 D cA s) cT9 (lw_Z below #[Value.ref b] s) 1059 (bTI K) := by
  obtain ⟨hx, hb, hml, hown, hts, -⟩ := id C
  unfold bTI
  refine k_aload_n hx hb dL_law_1059 rfl ?_
  refine k_callM0 C (ci := 6) (Tf := TX6) (Nf := 20) (Cn := RX6) rfl (mX6_thrown hlt) rfl zlL_104 zmX6_thrown zvX6_thrown ziX6 zcX6_thrown (by decide +kernel) ⟨Nat.le_of_ble_eq_true rfl, Nat.le_of_ble_eq_true rfl⟩ ⟨Nat.le_of_ble_eq_true rfl, rfl, rfl⟩ dL_law_1060 ?_
  refine k_iload hx hb dL_law_1063 ?_
  refine k_icmp_eq (tgt := 1070) hx hb dL_law_1065 (by decide) ?_ ?_
  · refine k_iload hx hb dL_law_1070 ?_
    refine k_if_ne (tgt := 1087) hx hb dL_law_1072 (by decide) ?_ ?_
    · refine k_goto (tgt := 1685) hx hb dL_law_1087 (by decide) ?_
      exact hK
    · refine k_aload_n hx hb dL_law_1075 rfl ?_
      refine k_iconst hx hb dL_law_1076 (by decide) ?_
      refine k_laldT C dL_law_1077 ?_
      refine k_iload hx hb dL_law_1078 ?_
      refine k_i2l hx hb dL_law_1080 ?_
      refine k_lcmp hx hb dL_law_1081 ?_
      refine k_if_eq (tgt := 1087) hx hb dL_law_1082 (by decide) ?_ ?_
      · refine k_goto (tgt := 1685) hx hb dL_law_1087 (by decide) ?_
        exact hK
      · refine k_iconst hx hb dL_law_1085 (by decide) ?_
        exact k_lend C hr hz9 dL_law_1086
  · refine k_iconst hx hb dL_law_1068 (by decide) ?_
    exact k_lend C hr hz9 dL_law_1069
def bB16 (xs : Nat → Int32) (Ln : Nat) (K : ZK ZT) : ZK ZT := (o_aload 2 (o_alS 0 (o_iload 4 (o_ic 1 (o_bin (fun x y => x + y) (o_sld xs Ln (o_callM1 6 tX6_clashes (o_istore 6 (bTI K)))))))))
set_option maxRecDepth 20000 in
theorem sB16 {l : Launch} {z0 b Ln : Nat} {xs : Nat → Int32} {D : va_G} {cA : Nat → ClassId} {p : Program} {e : Env} {s : State} {m : MethodId} {below : List Frame} {meth : Method} {c : Code} {K : ZK ZT} (hlt : l.stackTraces = false) (C : zCx p l room_1 s m #[Value.ref b] meth c code 7 RL z0 D cA 0) (hr : meth.sig.returnType = ret) (hz9 : s.heap.size ≤ z0) (hX : va_X b Ln xs s s.heap) (hbl : b < s.heap.size) (hbz : ¬ z0 ≤ b) (hK : Snd p l e room_1 s m #[Value.ref b] below meth c 7 z0 b (iT9 z0 b 45 D cA s) cT9 (lw_Z below #[Value.ref b] s) 1685 K) : Snd p l e room_1 s m #[Value.ref b] below meth c 7 z0 b (iT9 z0 b 45 D cA s) cT9 (lw_Z below #[Value.ref b] s) 1047 (bB16 xs Ln K) := by
  obtain ⟨hx, hb, hml, hown, hts, -⟩ := id C
  unfold bB16
  refine k_aload_n hx hb dL_law_1047 rfl ?_
  refine k_alS hx hb dL_law_1048 rfl ?_
  refine k_iload hx hb dL_law_1049 ?_
  refine k_iconst hx hb dL_law_1051 (by decide) ?_
  refine k_iadd hx hb dL_law_1052 ?_
  refine k_sld hx hb hX hbl hbz dL_law_1053 ?_
  refine k_callM1 C (ci := 6) (Tf := TX6) (Nf := 20) (Cn := RX6) rfl (mX6_clashes hlt) rfl zlL_162 zmX6_clashes zvX6_clashes ziX6 zcX6_clashes (by decide +kernel) ⟨Nat.le_of_ble_eq_true rfl, Nat.le_of_ble_eq_true rfl⟩ ⟨Nat.le_of_ble_eq_true rfl, rfl, rfl⟩ dL_law_1054 ?_
  refine k_istore hx hb dL_law_1057 ?_
  exact sT16 hlt C hr hz9 hX hbl hbz hK
def bD16 (xs : Nat → Int32) (Ln : Nat) (K : ZK ZT) : ZK ZT := (o_aload 1 (o_alS 0 (o_iload 4 (o_ic 1 (o_bin (fun x y => x + y) (o_sld xs Ln (o_aload 3 (o_callW3 tL_clashes (o_istore 5 (bB16 xs Ln K))))))))))
set_option maxRecDepth 20000 in
theorem sD16 {l : Launch} {z0 b Ln : Nat} {xs : Nat → Int32} {D : va_G} {cA : Nat → ClassId} {p : Program} {e : Env} {s : State} {m : MethodId} {below : List Frame} {meth : Method} {c : Code} {K : ZK ZT} (hlt : l.stackTraces = false) (C : zCx p l room_1 s m #[Value.ref b] meth c code 7 RL z0 D cA 0) (hr : meth.sig.returnType = ret) (hz9 : s.heap.size ≤ z0) (hX : va_X b Ln xs s s.heap) (hbl : b < s.heap.size) (hbz : ¬ z0 ≤ b) (hK : Snd p l e room_1 s m #[Value.ref b] below meth c 7 z0 b (iT9 z0 b 45 D cA s) cT9 (lw_Z below #[Value.ref b] s) 1685 K) : Snd p l e room_1 s m #[Value.ref b] below meth c 7 z0 b (iT9 z0 b 45 D cA s) cT9 (lw_Z below #[Value.ref b] s) 1034 (bD16 xs Ln K) := by
  obtain ⟨hx, hb, hml, hown, hts, -⟩ := id C
  unfold bD16
  refine k_aload_n hx hb dL_law_1034 rfl ?_
  refine k_alS hx hb dL_law_1035 rfl ?_
  refine k_iload hx hb dL_law_1036 ?_
  refine k_iconst hx hb dL_law_1038 (by decide) ?_
  refine k_iadd hx hb dL_law_1039 ?_
  refine k_sld hx hb hX hbl hbz dL_law_1040 ?_
  refine k_aload_n hx hb dL_law_1041 rfl ?_
  refine k_callW3 C (vL_clashes hlt) zlL_160 zsL_clashes ziL zwL_clashes (by decide +kernel) ⟨Nat.le_of_ble_eq_true rfl, Nat.le_of_ble_eq_true rfl⟩ ⟨rfl, rfl⟩ dL_law_1042 ?_
  refine k_istore hx hb dL_law_1045 ?_
  exact sB16 hlt C hr hz9 hX hbl hbz hK
set_option maxRecDepth 20000 in
theorem sT17 {l : Launch} {z0 b Ln : Nat} {xs : Nat → Int32} {D : va_G} {cA : Nat → ClassId} {p : Program} {e : Env} {s : State} {m : MethodId} {below : List Frame} {meth : Method} {c : Code} {K : ZK ZT} (hlt : l.stackTraces = false) (C : zCx p l room_1 s m #[Value.ref b] meth c code 7 RL z0 D cA 0) (hr : meth.sig.returnType = ret) (hz9 : s.heap.size ≤ z0) (hX : va_X b Ln xs s s.heap) (hbl : b < s.heap.size) (hbz : ¬ z0 ≤ b) (hK : Snd p l e room_1 s m #[Value.ref b] below meth c 7 z0 b (iT9 z0 b 45 D cA s) cT9 (lw_Z below #[Value.ref b] s) 1685 K) : Snd p l e room_1 s m #[Value.ref b] below meth c 7 z0 b (iT9 z0 b 45 D cA s) cT9 (lw_Z below #[Value.ref b] s) 1115 (bTI K) := by
  obtain ⟨hx, hb, hml, hown, hts, -⟩ := id C
  unfold bTI
  refine k_aload_n hx hb dL_law_1115 rfl ?_
  refine k_callM0 C (ci := 6) (Tf := TX6) (Nf := 20) (Cn := RX6) rfl (mX6_thrown hlt) rfl zlL_104 zmX6_thrown zvX6_thrown ziX6 zcX6_thrown (by decide +kernel) ⟨Nat.le_of_ble_eq_true rfl, Nat.le_of_ble_eq_true rfl⟩ ⟨Nat.le_of_ble_eq_true rfl, rfl, rfl⟩ dL_law_1116 ?_
  refine k_iload hx hb dL_law_1119 ?_
  refine k_icmp_eq (tgt := 1126) hx hb dL_law_1121 (by decide) ?_ ?_
  · refine k_iload hx hb dL_law_1126 ?_
    refine k_if_ne (tgt := 1143) hx hb dL_law_1128 (by decide) ?_ ?_
    · refine k_goto (tgt := 1685) hx hb dL_law_1143 (by decide) ?_
      exact hK
    · refine k_aload_n hx hb dL_law_1131 rfl ?_
      refine k_iconst hx hb dL_law_1132 (by decide) ?_
      refine k_laldT C dL_law_1133 ?_
      refine k_iload hx hb dL_law_1134 ?_
      refine k_i2l hx hb dL_law_1136 ?_
      refine k_lcmp hx hb dL_law_1137 ?_
      refine k_if_eq (tgt := 1143) hx hb dL_law_1138 (by decide) ?_ ?_
      · refine k_goto (tgt := 1685) hx hb dL_law_1143 (by decide) ?_
        exact hK
      · refine k_iconst hx hb dL_law_1141 (by decide) ?_
        exact k_lend C hr hz9 dL_law_1142
  · refine k_iconst hx hb dL_law_1124 (by decide) ?_
    exact k_lend C hr hz9 dL_law_1125
def bB17 (xs : Nat → Int32) (Ln : Nat) (K : ZK ZT) : ZK ZT := (o_aload 2 (o_alS 0 (o_iload 4 (o_ic 1 (o_bin (fun x y => x + y) (o_sld xs Ln (o_callM1 6 tX6_alias (o_istore 6 (bTI K)))))))))
set_option maxRecDepth 20000 in
theorem sB17 {l : Launch} {z0 b Ln : Nat} {xs : Nat → Int32} {D : va_G} {cA : Nat → ClassId} {p : Program} {e : Env} {s : State} {m : MethodId} {below : List Frame} {meth : Method} {c : Code} {K : ZK ZT} (hlt : l.stackTraces = false) (C : zCx p l room_1 s m #[Value.ref b] meth c code 7 RL z0 D cA 0) (hr : meth.sig.returnType = ret) (hz9 : s.heap.size ≤ z0) (hX : va_X b Ln xs s s.heap) (hbl : b < s.heap.size) (hbz : ¬ z0 ≤ b) (hK : Snd p l e room_1 s m #[Value.ref b] below meth c 7 z0 b (iT9 z0 b 45 D cA s) cT9 (lw_Z below #[Value.ref b] s) 1685 K) : Snd p l e room_1 s m #[Value.ref b] below meth c 7 z0 b (iT9 z0 b 45 D cA s) cT9 (lw_Z below #[Value.ref b] s) 1103 (bB17 xs Ln K) := by
  obtain ⟨hx, hb, hml, hown, hts, -⟩ := id C
  unfold bB17
  refine k_aload_n hx hb dL_law_1103 rfl ?_
  refine k_alS hx hb dL_law_1104 rfl ?_
  refine k_iload hx hb dL_law_1105 ?_
  refine k_iconst hx hb dL_law_1107 (by decide) ?_
  refine k_iadd hx hb dL_law_1108 ?_
  refine k_sld hx hb hX hbl hbz dL_law_1109 ?_
  refine k_callM1 C (ci := 6) (Tf := TX6) (Nf := 20) (Cn := RX6) rfl (mX6_alias hlt) rfl zlL_165 zmX6_alias zvX6_alias ziX6 zcX6_alias (by decide +kernel) ⟨Nat.le_of_ble_eq_true rfl, Nat.le_of_ble_eq_true rfl⟩ ⟨Nat.le_of_ble_eq_true rfl, rfl, rfl⟩ dL_law_1110 ?_
  refine k_istore hx hb dL_law_1113 ?_
  exact sT17 hlt C hr hz9 hX hbl hbz hK
def bD17 (xs : Nat → Int32) (Ln : Nat) (K : ZK ZT) : ZK ZT := (o_aload 1 (o_alS 0 (o_iload 4 (o_ic 1 (o_bin (fun x y => x + y) (o_sld xs Ln (o_aload 3 (o_callW3 tL_alias (o_istore 5 (bB17 xs Ln K))))))))))
set_option maxRecDepth 20000 in
theorem sD17 {l : Launch} {z0 b Ln : Nat} {xs : Nat → Int32} {D : va_G} {cA : Nat → ClassId} {p : Program} {e : Env} {s : State} {m : MethodId} {below : List Frame} {meth : Method} {c : Code} {K : ZK ZT} (hlt : l.stackTraces = false) (C : zCx p l room_1 s m #[Value.ref b] meth c code 7 RL z0 D cA 0) (hr : meth.sig.returnType = ret) (hz9 : s.heap.size ≤ z0) (hX : va_X b Ln xs s s.heap) (hbl : b < s.heap.size) (hbz : ¬ z0 ≤ b) (hK : Snd p l e room_1 s m #[Value.ref b] below meth c 7 z0 b (iT9 z0 b 45 D cA s) cT9 (lw_Z below #[Value.ref b] s) 1685 K) : Snd p l e room_1 s m #[Value.ref b] below meth c 7 z0 b (iT9 z0 b 45 D cA s) cT9 (lw_Z below #[Value.ref b] s) 1090 (bD17 xs Ln K) := by
  obtain ⟨hx, hb, hml, hown, hts, -⟩ := id C
  unfold bD17
  refine k_aload_n hx hb dL_law_1090 rfl ?_
  refine k_alS hx hb dL_law_1091 rfl ?_
  refine k_iload hx hb dL_law_1092 ?_
  refine k_iconst hx hb dL_law_1094 (by decide) ?_
  refine k_iadd hx hb dL_law_1095 ?_
  refine k_sld hx hb hX hbl hbz dL_law_1096 ?_
  refine k_aload_n hx hb dL_law_1097 rfl ?_
  refine k_callW3 C (vL_alias hlt) zlL_163 zsL_alias ziL zwL_alias (by decide +kernel) ⟨Nat.le_of_ble_eq_true rfl, Nat.le_of_ble_eq_true rfl⟩ ⟨rfl, rfl⟩ dL_law_1098 ?_
  refine k_istore hx hb dL_law_1101 ?_
  exact sB17 hlt C hr hz9 hX hbl hbz hK
set_option maxRecDepth 20000 in
theorem sT18 {l : Launch} {z0 b Ln : Nat} {xs : Nat → Int32} {D : va_G} {cA : Nat → ClassId} {p : Program} {e : Env} {s : State} {m : MethodId} {below : List Frame} {meth : Method} {c : Code} {K : ZK ZT} (hlt : l.stackTraces = false) (C : zCx p l room_1 s m #[Value.ref b] meth c code 7 RL z0 D cA 0) (hr : meth.sig.returnType = ret) (hz9 : s.heap.size ≤ z0) (hX : va_X b Ln xs s s.heap) (hbl : b < s.heap.size) (hbz : ¬ z0 ≤ b) (hK : Snd p l e room_1 s m #[Value.ref b] below meth c 7 z0 b (iT9 z0 b 45 D cA s) cT9 (lw_Z below #[Value.ref b] s) 1685 K) : Snd p l e room_1 s m #[Value.ref b] below meth c 7 z0 b (iT9 z0 b 45 D cA s) cT9 (lw_Z below #[Value.ref b] s) 1171 (bTI K) := by
  obtain ⟨hx, hb, hml, hown, hts, -⟩ := id C
  unfold bTI
  refine k_aload_n hx hb dL_law_1171 rfl ?_
  refine k_callM0 C (ci := 6) (Tf := TX6) (Nf := 20) (Cn := RX6) rfl (mX6_thrown hlt) rfl zlL_104 zmX6_thrown zvX6_thrown ziX6 zcX6_thrown (by decide +kernel) ⟨Nat.le_of_ble_eq_true rfl, Nat.le_of_ble_eq_true rfl⟩ ⟨Nat.le_of_ble_eq_true rfl, rfl, rfl⟩ dL_law_1172 ?_
  refine k_iload hx hb dL_law_1175 ?_
  refine k_icmp_eq (tgt := 1182) hx hb dL_law_1177 (by decide) ?_ ?_
  · refine k_iload hx hb dL_law_1182 ?_
    refine k_if_ne (tgt := 1199) hx hb dL_law_1184 (by decide) ?_ ?_
    · refine k_goto (tgt := 1685) hx hb dL_law_1199 (by decide) ?_
      exact hK
    · refine k_aload_n hx hb dL_law_1187 rfl ?_
      refine k_iconst hx hb dL_law_1188 (by decide) ?_
      refine k_laldT C dL_law_1189 ?_
      refine k_iload hx hb dL_law_1190 ?_
      refine k_i2l hx hb dL_law_1192 ?_
      refine k_lcmp hx hb dL_law_1193 ?_
      refine k_if_eq (tgt := 1199) hx hb dL_law_1194 (by decide) ?_ ?_
      · refine k_goto (tgt := 1685) hx hb dL_law_1199 (by decide) ?_
        exact hK
      · refine k_iconst hx hb dL_law_1197 (by decide) ?_
        exact k_lend C hr hz9 dL_law_1198
  · refine k_iconst hx hb dL_law_1180 (by decide) ?_
    exact k_lend C hr hz9 dL_law_1181
def bB18 (xs : Nat → Int32) (Ln : Nat) (K : ZK ZT) : ZK ZT := (o_aload 2 (o_alS 0 (o_iload 4 (o_ic 1 (o_bin (fun x y => x + y) (o_sld xs Ln (o_callM1 6 tX6_end (o_istore 6 (bTI K)))))))))
set_option maxRecDepth 20000 in
theorem sB18 {l : Launch} {z0 b Ln : Nat} {xs : Nat → Int32} {D : va_G} {cA : Nat → ClassId} {p : Program} {e : Env} {s : State} {m : MethodId} {below : List Frame} {meth : Method} {c : Code} {K : ZK ZT} (hlt : l.stackTraces = false) (C : zCx p l room_1 s m #[Value.ref b] meth c code 7 RL z0 D cA 0) (hr : meth.sig.returnType = ret) (hz9 : s.heap.size ≤ z0) (hX : va_X b Ln xs s s.heap) (hbl : b < s.heap.size) (hbz : ¬ z0 ≤ b) (hK : Snd p l e room_1 s m #[Value.ref b] below meth c 7 z0 b (iT9 z0 b 45 D cA s) cT9 (lw_Z below #[Value.ref b] s) 1685 K) : Snd p l e room_1 s m #[Value.ref b] below meth c 7 z0 b (iT9 z0 b 45 D cA s) cT9 (lw_Z below #[Value.ref b] s) 1159 (bB18 xs Ln K) := by
  obtain ⟨hx, hb, hml, hown, hts, -⟩ := id C
  unfold bB18
  refine k_aload_n hx hb dL_law_1159 rfl ?_
  refine k_alS hx hb dL_law_1160 rfl ?_
  refine k_iload hx hb dL_law_1161 ?_
  refine k_iconst hx hb dL_law_1163 (by decide) ?_
  refine k_iadd hx hb dL_law_1164 ?_
  refine k_sld hx hb hX hbl hbz dL_law_1165 ?_
  refine k_callM1 C (ci := 6) (Tf := TX6) (Nf := 20) (Cn := RX6) rfl (mX6_end hlt) rfl zlL_168 zmX6_end zvX6_end ziX6 zcX6_end (by decide +kernel) ⟨Nat.le_of_ble_eq_true rfl, Nat.le_of_ble_eq_true rfl⟩ ⟨Nat.le_of_ble_eq_true rfl, rfl, rfl⟩ dL_law_1166 ?_
  refine k_istore hx hb dL_law_1169 ?_
  exact sT18 hlt C hr hz9 hX hbl hbz hK
def bD18 (xs : Nat → Int32) (Ln : Nat) (K : ZK ZT) : ZK ZT := (o_aload 1 (o_alS 0 (o_iload 4 (o_ic 1 (o_bin (fun x y => x + y) (o_sld xs Ln (o_aload 3 (o_callW3 tL_end (o_istore 5 (bB18 xs Ln K))))))))))
set_option maxRecDepth 20000 in
theorem sD18 {l : Launch} {z0 b Ln : Nat} {xs : Nat → Int32} {D : va_G} {cA : Nat → ClassId} {p : Program} {e : Env} {s : State} {m : MethodId} {below : List Frame} {meth : Method} {c : Code} {K : ZK ZT} (hlt : l.stackTraces = false) (C : zCx p l room_1 s m #[Value.ref b] meth c code 7 RL z0 D cA 0) (hr : meth.sig.returnType = ret) (hz9 : s.heap.size ≤ z0) (hX : va_X b Ln xs s s.heap) (hbl : b < s.heap.size) (hbz : ¬ z0 ≤ b) (hK : Snd p l e room_1 s m #[Value.ref b] below meth c 7 z0 b (iT9 z0 b 45 D cA s) cT9 (lw_Z below #[Value.ref b] s) 1685 K) : Snd p l e room_1 s m #[Value.ref b] below meth c 7 z0 b (iT9 z0 b 45 D cA s) cT9 (lw_Z below #[Value.ref b] s) 1146 (bD18 xs Ln K) := by
  obtain ⟨hx, hb, hml, hown, hts, -⟩ := id C
  unfold bD18
  refine k_aload_n hx hb dL_law_1146 rfl ?_
  refine k_alS hx hb dL_law_1147 rfl ?_
  refine k_iload hx hb dL_law_1148 ?_
  refine k_iconst hx hb dL_law_1150 (by decide) ?_
  refine k_iadd hx hb dL_law_1151 ?_
  refine k_sld hx hb hX hbl hbz dL_law_1152 ?_
  refine k_aload_n hx hb dL_law_1153 rfl ?_
  refine k_callW3 C (vL_end hlt) zlL_166 zsL_end ziL zwL_end (by decide +kernel) ⟨Nat.le_of_ble_eq_true rfl, Nat.le_of_ble_eq_true rfl⟩ ⟨rfl, rfl⟩ dL_law_1154 ?_
  refine k_istore hx hb dL_law_1157 ?_
  exact sB18 hlt C hr hz9 hX hbl hbz hK
set_option maxRecDepth 20000 in
theorem sT19 {l : Launch} {z0 b Ln : Nat} {xs : Nat → Int32} {D : va_G} {cA : Nat → ClassId} {p : Program} {e : Env} {s : State} {m : MethodId} {below : List Frame} {meth : Method} {c : Code} {K : ZK ZT} (hlt : l.stackTraces = false) (C : zCx p l room_1 s m #[Value.ref b] meth c code 7 RL z0 D cA 0) (hr : meth.sig.returnType = ret) (hz9 : s.heap.size ≤ z0) (hX : va_X b Ln xs s s.heap) (hbl : b < s.heap.size) (hbz : ¬ z0 ≤ b) (hK : Snd p l e room_1 s m #[Value.ref b] below meth c 7 z0 b (iT9 z0 b 45 D cA s) cT9 (lw_Z below #[Value.ref b] s) 1685 K) : Snd p l e room_1 s m #[Value.ref b] below meth c 7 z0 b (iT9 z0 b 45 D cA s) cT9 (lw_Z below #[Value.ref b] s) 1239 (bTB K) := by
  obtain ⟨hx, hb, hml, hown, hts, -⟩ := id C
  unfold bTB
  refine k_aload_n hx hb dL_law_1239 rfl ?_
  refine k_callM0 C (ci := 6) (Tf := TX6) (Nf := 20) (Cn := RX6) rfl (mX6_thrown hlt) rfl zlL_104 zmX6_thrown zvX6_thrown ziX6 zcX6_thrown (by decide +kernel) ⟨Nat.le_of_ble_eq_true rfl, Nat.le_of_ble_eq_true rfl⟩ ⟨Nat.le_of_ble_eq_true rfl, rfl, rfl⟩ dL_law_1240 ?_
  refine k_iload hx hb dL_law_1243 ?_
  refine k_icmp_eq (tgt := 1250) hx hb dL_law_1245 (by decide) ?_ ?_
  · refine k_iload hx hb dL_law_1250 ?_
    refine k_if_ne (tgt := 1274) hx hb dL_law_1252 (by decide) ?_ ?_
    · refine k_goto (tgt := 1685) hx hb dL_law_1274 (by decide) ?_
      exact hK
    · refine k_aload_n hx hb dL_law_1255 rfl ?_
      refine k_iconst hx hb dL_law_1256 (by decide) ?_
      refine k_laldT C dL_law_1257 ?_
      refine k_iload hx hb dL_law_1258 ?_
      refine k_if_eq (tgt := 1267) hx hb dL_law_1260 (by decide) ?_ ?_
      · refine k_lconst hx hb dL_law_1267 (by decide) ?_
        refine k_lcmp hx hb dL_law_1268 ?_
        refine k_if_eq (tgt := 1274) hx hb dL_law_1269 (by decide) ?_ ?_
        · refine k_goto (tgt := 1685) hx hb dL_law_1274 (by decide) ?_
          exact hK
        · refine k_iconst hx hb dL_law_1272 (by decide) ?_
          exact k_lend C hr hz9 dL_law_1273
      · refine k_lconst hx hb dL_law_1263 (by decide) ?_
        refine k_goto (tgt := 1268) hx hb dL_law_1264 (by decide) ?_
        refine k_lcmp hx hb dL_law_1268 ?_
        refine k_if_eq (tgt := 1274) hx hb dL_law_1269 (by decide) ?_ ?_
        · refine k_goto (tgt := 1685) hx hb dL_law_1274 (by decide) ?_
          exact hK
        · refine k_iconst hx hb dL_law_1272 (by decide) ?_
          exact k_lend C hr hz9 dL_law_1273
  · refine k_iconst hx hb dL_law_1248 (by decide) ?_
    exact k_lend C hr hz9 dL_law_1249
def bB19 (xs : Nat → Int32) (Ln : Nat) (K : ZK ZT) : ZK ZT := (o_aload 2 (o_alS 0 (o_iload 4 (o_ic 1 (o_bin (fun x y => x + y) (o_sld xs Ln (o_alS 0 (o_iload 4 (o_ic 2 (o_bin (fun x y => x + y) (o_sld xs Ln (o_callM2 6 tX6_implies (o_istore 6 (bTB K))))))))))))))
set_option maxRecDepth 20000 in
theorem sB19 {l : Launch} {z0 b Ln : Nat} {xs : Nat → Int32} {D : va_G} {cA : Nat → ClassId} {p : Program} {e : Env} {s : State} {m : MethodId} {below : List Frame} {meth : Method} {c : Code} {K : ZK ZT} (hlt : l.stackTraces = false) (C : zCx p l room_1 s m #[Value.ref b] meth c code 7 RL z0 D cA 0) (hr : meth.sig.returnType = ret) (hz9 : s.heap.size ≤ z0) (hX : va_X b Ln xs s s.heap) (hbl : b < s.heap.size) (hbz : ¬ z0 ≤ b) (hK : Snd p l e room_1 s m #[Value.ref b] below meth c 7 z0 b (iT9 z0 b 45 D cA s) cT9 (lw_Z below #[Value.ref b] s) 1685 K) : Snd p l e room_1 s m #[Value.ref b] below meth c 7 z0 b (iT9 z0 b 45 D cA s) cT9 (lw_Z below #[Value.ref b] s) 1221 (bB19 xs Ln K) := by
  obtain ⟨hx, hb, hml, hown, hts, -⟩ := id C
  unfold bB19
  refine k_aload_n hx hb dL_law_1221 rfl ?_
  refine k_alS hx hb dL_law_1222 rfl ?_
  refine k_iload hx hb dL_law_1223 ?_
  refine k_iconst hx hb dL_law_1225 (by decide) ?_
  refine k_iadd hx hb dL_law_1226 ?_
  refine k_sld hx hb hX hbl hbz dL_law_1227 ?_
  refine k_alS hx hb dL_law_1228 rfl ?_
  refine k_iload hx hb dL_law_1229 ?_
  refine k_iconst hx hb dL_law_1231 (by decide) ?_
  refine k_iadd hx hb dL_law_1232 ?_
  refine k_sld hx hb hX hbl hbz dL_law_1233 ?_
  refine k_callM2 C (ci := 6) (Tf := TX6) (Nf := 20) (Cn := RX6) rfl (mX6_implies hlt) rfl zlL_171 zmX6_implies zvX6_implies ziX6 zcX6_implies (by decide +kernel) ⟨Nat.le_of_ble_eq_true rfl, Nat.le_of_ble_eq_true rfl⟩ ⟨Nat.le_of_ble_eq_true rfl, rfl, rfl⟩ dL_law_1234 ?_
  refine k_istore hx hb dL_law_1237 ?_
  exact sT19 hlt C hr hz9 hX hbl hbz hK
def bD19 (xs : Nat → Int32) (Ln : Nat) (K : ZK ZT) : ZK ZT := (o_aload 1 (o_alS 0 (o_iload 4 (o_ic 1 (o_bin (fun x y => x + y) (o_sld xs Ln (o_alS 0 (o_iload 4 (o_ic 2 (o_bin (fun x y => x + y) (o_sld xs Ln (o_aload 3 (o_callW4 tL_implies (o_istore 5 (bB19 xs Ln K)))))))))))))))
set_option maxRecDepth 20000 in
theorem sD19 {l : Launch} {z0 b Ln : Nat} {xs : Nat → Int32} {D : va_G} {cA : Nat → ClassId} {p : Program} {e : Env} {s : State} {m : MethodId} {below : List Frame} {meth : Method} {c : Code} {K : ZK ZT} (hlt : l.stackTraces = false) (C : zCx p l room_1 s m #[Value.ref b] meth c code 7 RL z0 D cA 0) (hr : meth.sig.returnType = ret) (hz9 : s.heap.size ≤ z0) (hX : va_X b Ln xs s s.heap) (hbl : b < s.heap.size) (hbz : ¬ z0 ≤ b) (hK : Snd p l e room_1 s m #[Value.ref b] below meth c 7 z0 b (iT9 z0 b 45 D cA s) cT9 (lw_Z below #[Value.ref b] s) 1685 K) : Snd p l e room_1 s m #[Value.ref b] below meth c 7 z0 b (iT9 z0 b 45 D cA s) cT9 (lw_Z below #[Value.ref b] s) 1202 (bD19 xs Ln K) := by
  obtain ⟨hx, hb, hml, hown, hts, -⟩ := id C
  unfold bD19
  refine k_aload_n hx hb dL_law_1202 rfl ?_
  refine k_alS hx hb dL_law_1203 rfl ?_
  refine k_iload hx hb dL_law_1204 ?_
  refine k_iconst hx hb dL_law_1206 (by decide) ?_
  refine k_iadd hx hb dL_law_1207 ?_
  refine k_sld hx hb hX hbl hbz dL_law_1208 ?_
  refine k_alS hx hb dL_law_1209 rfl ?_
  refine k_iload hx hb dL_law_1210 ?_
  refine k_iconst hx hb dL_law_1212 (by decide) ?_
  refine k_iadd hx hb dL_law_1213 ?_
  refine k_sld hx hb hX hbl hbz dL_law_1214 ?_
  refine k_aload_n hx hb dL_law_1215 rfl ?_
  refine k_callW4 C (vL_implies hlt) zlL_169 zsL_implies ziL zwL_implies (by decide +kernel) ⟨Nat.le_of_ble_eq_true rfl, Nat.le_of_ble_eq_true rfl⟩ ⟨rfl, rfl⟩ dL_law_1216 ?_
  refine k_istore hx hb dL_law_1219 ?_
  exact sB19 hlt C hr hz9 hX hbl hbz hK
set_option maxRecDepth 20000 in
theorem sT20 {l : Launch} {z0 b Ln : Nat} {xs : Nat → Int32} {D : va_G} {cA : Nat → ClassId} {p : Program} {e : Env} {s : State} {m : MethodId} {below : List Frame} {meth : Method} {c : Code} {K : ZK ZT} (hlt : l.stackTraces = false) (C : zCx p l room_1 s m #[Value.ref b] meth c code 7 RL z0 D cA 0) (hr : meth.sig.returnType = ret) (hz9 : s.heap.size ≤ z0) (hX : va_X b Ln xs s s.heap) (hbl : b < s.heap.size) (hbz : ¬ z0 ≤ b) (hK : Snd p l e room_1 s m #[Value.ref b] below meth c 7 z0 b (iT9 z0 b 45 D cA s) cT9 (lw_Z below #[Value.ref b] s) 1685 K) : Snd p l e room_1 s m #[Value.ref b] below meth c 7 z0 b (iT9 z0 b 45 D cA s) cT9 (lw_Z below #[Value.ref b] s) 1302 (bTI K) := by
  obtain ⟨hx, hb, hml, hown, hts, -⟩ := id C
  unfold bTI
  refine k_aload_n hx hb dL_law_1302 rfl ?_
  refine k_callM0 C (ci := 6) (Tf := TX6) (Nf := 20) (Cn := RX6) rfl (mX6_thrown hlt) rfl zlL_104 zmX6_thrown zvX6_thrown ziX6 zcX6_thrown (by decide +kernel) ⟨Nat.le_of_ble_eq_true rfl, Nat.le_of_ble_eq_true rfl⟩ ⟨Nat.le_of_ble_eq_true rfl, rfl, rfl⟩ dL_law_1303 ?_
  refine k_iload hx hb dL_law_1306 ?_
  refine k_icmp_eq (tgt := 1313) hx hb dL_law_1308 (by decide) ?_ ?_
  · refine k_iload hx hb dL_law_1313 ?_
    refine k_if_ne (tgt := 1330) hx hb dL_law_1315 (by decide) ?_ ?_
    · refine k_goto (tgt := 1685) hx hb dL_law_1330 (by decide) ?_
      exact hK
    · refine k_aload_n hx hb dL_law_1318 rfl ?_
      refine k_iconst hx hb dL_law_1319 (by decide) ?_
      refine k_laldT C dL_law_1320 ?_
      refine k_iload hx hb dL_law_1321 ?_
      refine k_i2l hx hb dL_law_1323 ?_
      refine k_lcmp hx hb dL_law_1324 ?_
      refine k_if_eq (tgt := 1330) hx hb dL_law_1325 (by decide) ?_ ?_
      · refine k_goto (tgt := 1685) hx hb dL_law_1330 (by decide) ?_
        exact hK
      · refine k_iconst hx hb dL_law_1328 (by decide) ?_
        exact k_lend C hr hz9 dL_law_1329
  · refine k_iconst hx hb dL_law_1311 (by decide) ?_
    exact k_lend C hr hz9 dL_law_1312
def bB20 (xs : Nat → Int32) (Ln : Nat) (K : ZK ZT) : ZK ZT := (o_aload 2 (o_alS 0 (o_iload 4 (o_ic 1 (o_bin (fun x y => x + y) (o_sld xs Ln (o_callM1 6 tX6_shown (o_istore 6 (bTI K)))))))))
set_option maxRecDepth 20000 in
theorem sB20 {l : Launch} {z0 b Ln : Nat} {xs : Nat → Int32} {D : va_G} {cA : Nat → ClassId} {p : Program} {e : Env} {s : State} {m : MethodId} {below : List Frame} {meth : Method} {c : Code} {K : ZK ZT} (hlt : l.stackTraces = false) (C : zCx p l room_1 s m #[Value.ref b] meth c code 7 RL z0 D cA 0) (hr : meth.sig.returnType = ret) (hz9 : s.heap.size ≤ z0) (hX : va_X b Ln xs s s.heap) (hbl : b < s.heap.size) (hbz : ¬ z0 ≤ b) (hK : Snd p l e room_1 s m #[Value.ref b] below meth c 7 z0 b (iT9 z0 b 45 D cA s) cT9 (lw_Z below #[Value.ref b] s) 1685 K) : Snd p l e room_1 s m #[Value.ref b] below meth c 7 z0 b (iT9 z0 b 45 D cA s) cT9 (lw_Z below #[Value.ref b] s) 1290 (bB20 xs Ln K) := by
  obtain ⟨hx, hb, hml, hown, hts, -⟩ := id C
  unfold bB20
  refine k_aload_n hx hb dL_law_1290 rfl ?_
  refine k_alS hx hb dL_law_1291 rfl ?_
  refine k_iload hx hb dL_law_1292 ?_
  refine k_iconst hx hb dL_law_1294 (by decide) ?_
  refine k_iadd hx hb dL_law_1295 ?_
  refine k_sld hx hb hX hbl hbz dL_law_1296 ?_
  refine k_callM1 C (ci := 6) (Tf := TX6) (Nf := 20) (Cn := RX6) rfl (mX6_shown hlt) rfl zlL_174 zmX6_shown zvX6_shown ziX6 zcX6_shown (by decide +kernel) ⟨Nat.le_of_ble_eq_true rfl, Nat.le_of_ble_eq_true rfl⟩ ⟨Nat.le_of_ble_eq_true rfl, rfl, rfl⟩ dL_law_1297 ?_
  refine k_istore hx hb dL_law_1300 ?_
  exact sT20 hlt C hr hz9 hX hbl hbz hK
def bD20 (xs : Nat → Int32) (Ln : Nat) (K : ZK ZT) : ZK ZT := (o_aload 1 (o_alS 0 (o_iload 4 (o_ic 1 (o_bin (fun x y => x + y) (o_sld xs Ln (o_aload 3 (o_callW3 tL_shown (o_istore 5 (bB20 xs Ln K))))))))))
set_option maxRecDepth 20000 in
theorem sD20 {l : Launch} {z0 b Ln : Nat} {xs : Nat → Int32} {D : va_G} {cA : Nat → ClassId} {p : Program} {e : Env} {s : State} {m : MethodId} {below : List Frame} {meth : Method} {c : Code} {K : ZK ZT} (hlt : l.stackTraces = false) (C : zCx p l room_1 s m #[Value.ref b] meth c code 7 RL z0 D cA 0) (hr : meth.sig.returnType = ret) (hz9 : s.heap.size ≤ z0) (hX : va_X b Ln xs s s.heap) (hbl : b < s.heap.size) (hbz : ¬ z0 ≤ b) (hK : Snd p l e room_1 s m #[Value.ref b] below meth c 7 z0 b (iT9 z0 b 45 D cA s) cT9 (lw_Z below #[Value.ref b] s) 1685 K) : Snd p l e room_1 s m #[Value.ref b] below meth c 7 z0 b (iT9 z0 b 45 D cA s) cT9 (lw_Z below #[Value.ref b] s) 1277 (bD20 xs Ln K) := by
  obtain ⟨hx, hb, hml, hown, hts, -⟩ := id C
  unfold bD20
  refine k_aload_n hx hb dL_law_1277 rfl ?_
  refine k_alS hx hb dL_law_1278 rfl ?_
  refine k_iload hx hb dL_law_1279 ?_
  refine k_iconst hx hb dL_law_1281 (by decide) ?_
  refine k_iadd hx hb dL_law_1282 ?_
  refine k_sld hx hb hX hbl hbz dL_law_1283 ?_
  refine k_aload_n hx hb dL_law_1284 rfl ?_
  refine k_callW3 C (vL_shown hlt) zlL_172 zsL_shown ziL zwL_shown (by decide +kernel) ⟨Nat.le_of_ble_eq_true rfl, Nat.le_of_ble_eq_true rfl⟩ ⟨rfl, rfl⟩ dL_law_1285 ?_
  refine k_istore hx hb dL_law_1288 ?_
  exact sB20 hlt C hr hz9 hX hbl hbz hK
set_option maxRecDepth 20000 in
theorem sT21 {l : Launch} {z0 b Ln : Nat} {xs : Nat → Int32} {D : va_G} {cA : Nat → ClassId} {p : Program} {e : Env} {s : State} {m : MethodId} {below : List Frame} {meth : Method} {c : Code} {K : ZK ZT} (hlt : l.stackTraces = false) (C : zCx p l room_1 s m #[Value.ref b] meth c code 7 RL z0 D cA 0) (hr : meth.sig.returnType = ret) (hz9 : s.heap.size ≤ z0) (hX : va_X b Ln xs s s.heap) (hbl : b < s.heap.size) (hbz : ¬ z0 ≤ b) (hK : Snd p l e room_1 s m #[Value.ref b] below meth c 7 z0 b (iT9 z0 b 45 D cA s) cT9 (lw_Z below #[Value.ref b] s) 1685 K) : Snd p l e room_1 s m #[Value.ref b] below meth c 7 z0 b (iT9 z0 b 45 D cA s) cT9 (lw_Z below #[Value.ref b] s) 1358 (bTI K) := by
  obtain ⟨hx, hb, hml, hown, hts, -⟩ := id C
  unfold bTI
  refine k_aload_n hx hb dL_law_1358 rfl ?_
  refine k_callM0 C (ci := 6) (Tf := TX6) (Nf := 20) (Cn := RX6) rfl (mX6_thrown hlt) rfl zlL_104 zmX6_thrown zvX6_thrown ziX6 zcX6_thrown (by decide +kernel) ⟨Nat.le_of_ble_eq_true rfl, Nat.le_of_ble_eq_true rfl⟩ ⟨Nat.le_of_ble_eq_true rfl, rfl, rfl⟩ dL_law_1359 ?_
  refine k_iload hx hb dL_law_1362 ?_
  refine k_icmp_eq (tgt := 1369) hx hb dL_law_1364 (by decide) ?_ ?_
  · refine k_iload hx hb dL_law_1369 ?_
    refine k_if_ne (tgt := 1386) hx hb dL_law_1371 (by decide) ?_ ?_
    · refine k_goto (tgt := 1685) hx hb dL_law_1386 (by decide) ?_
      exact hK
    · refine k_aload_n hx hb dL_law_1374 rfl ?_
      refine k_iconst hx hb dL_law_1375 (by decide) ?_
      refine k_laldT C dL_law_1376 ?_
      refine k_iload hx hb dL_law_1377 ?_
      refine k_i2l hx hb dL_law_1379 ?_
      refine k_lcmp hx hb dL_law_1380 ?_
      refine k_if_eq (tgt := 1386) hx hb dL_law_1381 (by decide) ?_ ?_
      · refine k_goto (tgt := 1685) hx hb dL_law_1386 (by decide) ?_
        exact hK
      · refine k_iconst hx hb dL_law_1384 (by decide) ?_
        exact k_lend C hr hz9 dL_law_1385
  · refine k_iconst hx hb dL_law_1367 (by decide) ?_
    exact k_lend C hr hz9 dL_law_1368
def bB21 (xs : Nat → Int32) (Ln : Nat) (K : ZK ZT) : ZK ZT := (o_aload 2 (o_alS 0 (o_iload 4 (o_ic 1 (o_bin (fun x y => x + y) (o_sld xs Ln (o_callM1 6 tX6_shownByHand (o_istore 6 (bTI K)))))))))
set_option maxRecDepth 20000 in
theorem sB21 {l : Launch} {z0 b Ln : Nat} {xs : Nat → Int32} {D : va_G} {cA : Nat → ClassId} {p : Program} {e : Env} {s : State} {m : MethodId} {below : List Frame} {meth : Method} {c : Code} {K : ZK ZT} (hlt : l.stackTraces = false) (C : zCx p l room_1 s m #[Value.ref b] meth c code 7 RL z0 D cA 0) (hr : meth.sig.returnType = ret) (hz9 : s.heap.size ≤ z0) (hX : va_X b Ln xs s s.heap) (hbl : b < s.heap.size) (hbz : ¬ z0 ≤ b) (hK : Snd p l e room_1 s m #[Value.ref b] below meth c 7 z0 b (iT9 z0 b 45 D cA s) cT9 (lw_Z below #[Value.ref b] s) 1685 K) : Snd p l e room_1 s m #[Value.ref b] below meth c 7 z0 b (iT9 z0 b 45 D cA s) cT9 (lw_Z below #[Value.ref b] s) 1346 (bB21 xs Ln K) := by
  obtain ⟨hx, hb, hml, hown, hts, -⟩ := id C
  unfold bB21
  refine k_aload_n hx hb dL_law_1346 rfl ?_
  refine k_alS hx hb dL_law_1347 rfl ?_
  refine k_iload hx hb dL_law_1348 ?_
  refine k_iconst hx hb dL_law_1350 (by decide) ?_
  refine k_iadd hx hb dL_law_1351 ?_
  refine k_sld hx hb hX hbl hbz dL_law_1352 ?_
  refine k_callM1 C (ci := 6) (Tf := TX6) (Nf := 20) (Cn := RX6) rfl (mX6_shownByHand hlt) rfl zlL_177 zmX6_shownByHand zvX6_shownByHand ziX6 zcX6_shownByHand (by decide +kernel) ⟨Nat.le_of_ble_eq_true rfl, Nat.le_of_ble_eq_true rfl⟩ ⟨Nat.le_of_ble_eq_true rfl, rfl, rfl⟩ dL_law_1353 ?_
  refine k_istore hx hb dL_law_1356 ?_
  exact sT21 hlt C hr hz9 hX hbl hbz hK
def bD21 (xs : Nat → Int32) (Ln : Nat) (K : ZK ZT) : ZK ZT := (o_aload 1 (o_alS 0 (o_iload 4 (o_ic 1 (o_bin (fun x y => x + y) (o_sld xs Ln (o_aload 3 (o_callW3 tL_shownByHand (o_istore 5 (bB21 xs Ln K))))))))))
set_option maxRecDepth 20000 in
theorem sD21 {l : Launch} {z0 b Ln : Nat} {xs : Nat → Int32} {D : va_G} {cA : Nat → ClassId} {p : Program} {e : Env} {s : State} {m : MethodId} {below : List Frame} {meth : Method} {c : Code} {K : ZK ZT} (hlt : l.stackTraces = false) (C : zCx p l room_1 s m #[Value.ref b] meth c code 7 RL z0 D cA 0) (hr : meth.sig.returnType = ret) (hz9 : s.heap.size ≤ z0) (hX : va_X b Ln xs s s.heap) (hbl : b < s.heap.size) (hbz : ¬ z0 ≤ b) (hK : Snd p l e room_1 s m #[Value.ref b] below meth c 7 z0 b (iT9 z0 b 45 D cA s) cT9 (lw_Z below #[Value.ref b] s) 1685 K) : Snd p l e room_1 s m #[Value.ref b] below meth c 7 z0 b (iT9 z0 b 45 D cA s) cT9 (lw_Z below #[Value.ref b] s) 1333 (bD21 xs Ln K) := by
  obtain ⟨hx, hb, hml, hown, hts, -⟩ := id C
  unfold bD21
  refine k_aload_n hx hb dL_law_1333 rfl ?_
  refine k_alS hx hb dL_law_1334 rfl ?_
  refine k_iload hx hb dL_law_1335 ?_
  refine k_iconst hx hb dL_law_1337 (by decide) ?_
  refine k_iadd hx hb dL_law_1338 ?_
  refine k_sld hx hb hX hbl hbz dL_law_1339 ?_
  refine k_aload_n hx hb dL_law_1340 rfl ?_
  refine k_callW3 C (vL_shownByHand hlt) zlL_175 zsL_shownByHand ziL zwL_shownByHand (by decide +kernel) ⟨Nat.le_of_ble_eq_true rfl, Nat.le_of_ble_eq_true rfl⟩ ⟨rfl, rfl⟩ dL_law_1341 ?_
  refine k_istore hx hb dL_law_1344 ?_
  exact sB21 hlt C hr hz9 hX hbl hbz hK
set_option maxRecDepth 20000 in
theorem sT22 {l : Launch} {z0 b Ln : Nat} {xs : Nat → Int32} {D : va_G} {cA : Nat → ClassId} {p : Program} {e : Env} {s : State} {m : MethodId} {below : List Frame} {meth : Method} {c : Code} {K : ZK ZT} (hlt : l.stackTraces = false) (C : zCx p l room_1 s m #[Value.ref b] meth c code 7 RL z0 D cA 0) (hr : meth.sig.returnType = ret) (hz9 : s.heap.size ≤ z0) (hX : va_X b Ln xs s s.heap) (hbl : b < s.heap.size) (hbz : ¬ z0 ≤ b) (hK : Snd p l e room_1 s m #[Value.ref b] below meth c 7 z0 b (iT9 z0 b 45 D cA s) cT9 (lw_Z below #[Value.ref b] s) 1685 K) : Snd p l e room_1 s m #[Value.ref b] below meth c 7 z0 b (iT9 z0 b 45 D cA s) cT9 (lw_Z below #[Value.ref b] s) 1414 (bTI K) := by
  obtain ⟨hx, hb, hml, hown, hts, -⟩ := id C
  unfold bTI
  refine k_aload_n hx hb dL_law_1414 rfl ?_
  refine k_callM0 C (ci := 6) (Tf := TX6) (Nf := 20) (Cn := RX6) rfl (mX6_thrown hlt) rfl zlL_104 zmX6_thrown zvX6_thrown ziX6 zcX6_thrown (by decide +kernel) ⟨Nat.le_of_ble_eq_true rfl, Nat.le_of_ble_eq_true rfl⟩ ⟨Nat.le_of_ble_eq_true rfl, rfl, rfl⟩ dL_law_1415 ?_
  refine k_iload hx hb dL_law_1418 ?_
  refine k_icmp_eq (tgt := 1425) hx hb dL_law_1420 (by decide) ?_ ?_
  · refine k_iload hx hb dL_law_1425 ?_
    refine k_if_ne (tgt := 1442) hx hb dL_law_1427 (by decide) ?_ ?_
    · refine k_goto (tgt := 1685) hx hb dL_law_1442 (by decide) ?_
      exact hK
    · refine k_aload_n hx hb dL_law_1430 rfl ?_
      refine k_iconst hx hb dL_law_1431 (by decide) ?_
      refine k_laldT C dL_law_1432 ?_
      refine k_iload hx hb dL_law_1433 ?_
      refine k_i2l hx hb dL_law_1435 ?_
      refine k_lcmp hx hb dL_law_1436 ?_
      refine k_if_eq (tgt := 1442) hx hb dL_law_1437 (by decide) ?_ ?_
      · refine k_goto (tgt := 1685) hx hb dL_law_1442 (by decide) ?_
        exact hK
      · refine k_iconst hx hb dL_law_1440 (by decide) ?_
        exact k_lend C hr hz9 dL_law_1441
  · refine k_iconst hx hb dL_law_1423 (by decide) ?_
    exact k_lend C hr hz9 dL_law_1424
def bB22 (xs : Nat → Int32) (Ln : Nat) (K : ZK ZT) : ZK ZT := (o_aload 2 (o_alS 0 (o_iload 4 (o_ic 1 (o_bin (fun x y => x + y) (o_sld xs Ln (o_callM1 6 tX6_users (o_istore 6 (bTI K)))))))))
set_option maxRecDepth 20000 in
theorem sB22 {l : Launch} {z0 b Ln : Nat} {xs : Nat → Int32} {D : va_G} {cA : Nat → ClassId} {p : Program} {e : Env} {s : State} {m : MethodId} {below : List Frame} {meth : Method} {c : Code} {K : ZK ZT} (hlt : l.stackTraces = false) (C : zCx p l room_1 s m #[Value.ref b] meth c code 7 RL z0 D cA 0) (hr : meth.sig.returnType = ret) (hz9 : s.heap.size ≤ z0) (hX : va_X b Ln xs s s.heap) (hbl : b < s.heap.size) (hbz : ¬ z0 ≤ b) (hK : Snd p l e room_1 s m #[Value.ref b] below meth c 7 z0 b (iT9 z0 b 45 D cA s) cT9 (lw_Z below #[Value.ref b] s) 1685 K) : Snd p l e room_1 s m #[Value.ref b] below meth c 7 z0 b (iT9 z0 b 45 D cA s) cT9 (lw_Z below #[Value.ref b] s) 1402 (bB22 xs Ln K) := by
  obtain ⟨hx, hb, hml, hown, hts, -⟩ := id C
  unfold bB22
  refine k_aload_n hx hb dL_law_1402 rfl ?_
  refine k_alS hx hb dL_law_1403 rfl ?_
  refine k_iload hx hb dL_law_1404 ?_
  refine k_iconst hx hb dL_law_1406 (by decide) ?_
  refine k_iadd hx hb dL_law_1407 ?_
  refine k_sld hx hb hX hbl hbz dL_law_1408 ?_
  refine k_callM1 C (ci := 6) (Tf := TX6) (Nf := 20) (Cn := RX6) rfl (mX6_users hlt) rfl zlL_180 zmX6_users zvX6_users ziX6 zcX6_users (by decide +kernel) ⟨Nat.le_of_ble_eq_true rfl, Nat.le_of_ble_eq_true rfl⟩ ⟨Nat.le_of_ble_eq_true rfl, rfl, rfl⟩ dL_law_1409 ?_
  refine k_istore hx hb dL_law_1412 ?_
  exact sT22 hlt C hr hz9 hX hbl hbz hK
def bD22 (xs : Nat → Int32) (Ln : Nat) (K : ZK ZT) : ZK ZT := (o_aload 1 (o_alS 0 (o_iload 4 (o_ic 1 (o_bin (fun x y => x + y) (o_sld xs Ln (o_aload 3 (o_callW3 tL_users (o_istore 5 (bB22 xs Ln K))))))))))
set_option maxRecDepth 20000 in
theorem sD22 {l : Launch} {z0 b Ln : Nat} {xs : Nat → Int32} {D : va_G} {cA : Nat → ClassId} {p : Program} {e : Env} {s : State} {m : MethodId} {below : List Frame} {meth : Method} {c : Code} {K : ZK ZT} (hlt : l.stackTraces = false) (C : zCx p l room_1 s m #[Value.ref b] meth c code 7 RL z0 D cA 0) (hr : meth.sig.returnType = ret) (hz9 : s.heap.size ≤ z0) (hX : va_X b Ln xs s s.heap) (hbl : b < s.heap.size) (hbz : ¬ z0 ≤ b) (hK : Snd p l e room_1 s m #[Value.ref b] below meth c 7 z0 b (iT9 z0 b 45 D cA s) cT9 (lw_Z below #[Value.ref b] s) 1685 K) : Snd p l e room_1 s m #[Value.ref b] below meth c 7 z0 b (iT9 z0 b 45 D cA s) cT9 (lw_Z below #[Value.ref b] s) 1389 (bD22 xs Ln K) := by
  obtain ⟨hx, hb, hml, hown, hts, -⟩ := id C
  unfold bD22
  refine k_aload_n hx hb dL_law_1389 rfl ?_
  refine k_alS hx hb dL_law_1390 rfl ?_
  refine k_iload hx hb dL_law_1391 ?_
  refine k_iconst hx hb dL_law_1393 (by decide) ?_
  refine k_iadd hx hb dL_law_1394 ?_
  refine k_sld hx hb hX hbl hbz dL_law_1395 ?_
  refine k_aload_n hx hb dL_law_1396 rfl ?_
  refine k_callW3 C (vL_users hlt) zlL_178 zsL_users ziL zwL_users (by decide +kernel) ⟨Nat.le_of_ble_eq_true rfl, Nat.le_of_ble_eq_true rfl⟩ ⟨rfl, rfl⟩ dL_law_1397 ?_
  refine k_istore hx hb dL_law_1400 ?_
  exact sB22 hlt C hr hz9 hX hbl hbz hK
set_option maxRecDepth 20000 in
theorem sT23 {l : Launch} {z0 b Ln : Nat} {xs : Nat → Int32} {D : va_G} {cA : Nat → ClassId} {p : Program} {e : Env} {s : State} {m : MethodId} {below : List Frame} {meth : Method} {c : Code} {K : ZK ZT} (hlt : l.stackTraces = false) (C : zCx p l room_1 s m #[Value.ref b] meth c code 7 RL z0 D cA 0) (hr : meth.sig.returnType = ret) (hz9 : s.heap.size ≤ z0) (hX : va_X b Ln xs s s.heap) (hbl : b < s.heap.size) (hbz : ¬ z0 ≤ b) (hK : Snd p l e room_1 s m #[Value.ref b] below meth c 7 z0 b (iT9 z0 b 45 D cA s) cT9 (lw_Z below #[Value.ref b] s) 1685 K) : Snd p l e room_1 s m #[Value.ref b] below meth c 7 z0 b (iT9 z0 b 45 D cA s) cT9 (lw_Z below #[Value.ref b] s) 1482 (bTI K) := by
  obtain ⟨hx, hb, hml, hown, hts, -⟩ := id C
  unfold bTI
  refine k_aload_n hx hb dL_law_1482 rfl ?_
  refine k_callM0 C (ci := 6) (Tf := TX6) (Nf := 20) (Cn := RX6) rfl (mX6_thrown hlt) rfl zlL_104 zmX6_thrown zvX6_thrown ziX6 zcX6_thrown (by decide +kernel) ⟨Nat.le_of_ble_eq_true rfl, Nat.le_of_ble_eq_true rfl⟩ ⟨Nat.le_of_ble_eq_true rfl, rfl, rfl⟩ dL_law_1483 ?_
  refine k_iload hx hb dL_law_1486 ?_
  refine k_icmp_eq (tgt := 1493) hx hb dL_law_1488 (by decide) ?_ ?_
  · refine k_iload hx hb dL_law_1493 ?_
    refine k_if_ne (tgt := 1510) hx hb dL_law_1495 (by decide) ?_ ?_
    · refine k_goto (tgt := 1685) hx hb dL_law_1510 (by decide) ?_
      exact hK
    · refine k_aload_n hx hb dL_law_1498 rfl ?_
      refine k_iconst hx hb dL_law_1499 (by decide) ?_
      refine k_laldT C dL_law_1500 ?_
      refine k_iload hx hb dL_law_1501 ?_
      refine k_i2l hx hb dL_law_1503 ?_
      refine k_lcmp hx hb dL_law_1504 ?_
      refine k_if_eq (tgt := 1510) hx hb dL_law_1505 (by decide) ?_ ?_
      · refine k_goto (tgt := 1685) hx hb dL_law_1510 (by decide) ?_
        exact hK
      · refine k_iconst hx hb dL_law_1508 (by decide) ?_
        exact k_lend C hr hz9 dL_law_1509
  · refine k_iconst hx hb dL_law_1491 (by decide) ?_
    exact k_lend C hr hz9 dL_law_1492
def bB23 (xs : Nat → Int32) (Ln : Nat) (K : ZK ZT) : ZK ZT := (o_aload 2 (o_alS 0 (o_iload 4 (o_ic 1 (o_bin (fun x y => x + y) (o_sld xs Ln (o_alS 0 (o_iload 4 (o_ic 2 (o_bin (fun x y => x + y) (o_sld xs Ln (o_callM2 6 tX6_reason (o_istore 6 (bTI K))))))))))))))
set_option maxRecDepth 20000 in
theorem sB23 {l : Launch} {z0 b Ln : Nat} {xs : Nat → Int32} {D : va_G} {cA : Nat → ClassId} {p : Program} {e : Env} {s : State} {m : MethodId} {below : List Frame} {meth : Method} {c : Code} {K : ZK ZT} (hlt : l.stackTraces = false) (C : zCx p l room_1 s m #[Value.ref b] meth c code 7 RL z0 D cA 0) (hr : meth.sig.returnType = ret) (hz9 : s.heap.size ≤ z0) (hX : va_X b Ln xs s s.heap) (hbl : b < s.heap.size) (hbz : ¬ z0 ≤ b) (hK : Snd p l e room_1 s m #[Value.ref b] below meth c 7 z0 b (iT9 z0 b 45 D cA s) cT9 (lw_Z below #[Value.ref b] s) 1685 K) : Snd p l e room_1 s m #[Value.ref b] below meth c 7 z0 b (iT9 z0 b 45 D cA s) cT9 (lw_Z below #[Value.ref b] s) 1464 (bB23 xs Ln K) := by
  obtain ⟨hx, hb, hml, hown, hts, -⟩ := id C
  unfold bB23
  refine k_aload_n hx hb dL_law_1464 rfl ?_
  refine k_alS hx hb dL_law_1465 rfl ?_
  refine k_iload hx hb dL_law_1466 ?_
  refine k_iconst hx hb dL_law_1468 (by decide) ?_
  refine k_iadd hx hb dL_law_1469 ?_
  refine k_sld hx hb hX hbl hbz dL_law_1470 ?_
  refine k_alS hx hb dL_law_1471 rfl ?_
  refine k_iload hx hb dL_law_1472 ?_
  refine k_iconst hx hb dL_law_1474 (by decide) ?_
  refine k_iadd hx hb dL_law_1475 ?_
  refine k_sld hx hb hX hbl hbz dL_law_1476 ?_
  refine k_callM2 C (ci := 6) (Tf := TX6) (Nf := 20) (Cn := RX6) rfl (mX6_reason hlt) rfl zlL_183 zmX6_reason zvX6_reason ziX6 zcX6_reason (by decide +kernel) ⟨Nat.le_of_ble_eq_true rfl, Nat.le_of_ble_eq_true rfl⟩ ⟨Nat.le_of_ble_eq_true rfl, rfl, rfl⟩ dL_law_1477 ?_
  refine k_istore hx hb dL_law_1480 ?_
  exact sT23 hlt C hr hz9 hX hbl hbz hK
def bD23 (xs : Nat → Int32) (Ln : Nat) (K : ZK ZT) : ZK ZT := (o_aload 1 (o_alS 0 (o_iload 4 (o_ic 1 (o_bin (fun x y => x + y) (o_sld xs Ln (o_alS 0 (o_iload 4 (o_ic 2 (o_bin (fun x y => x + y) (o_sld xs Ln (o_aload 3 (o_callW4 tL_reason (o_istore 5 (bB23 xs Ln K)))))))))))))))
set_option maxRecDepth 20000 in
theorem sD23 {l : Launch} {z0 b Ln : Nat} {xs : Nat → Int32} {D : va_G} {cA : Nat → ClassId} {p : Program} {e : Env} {s : State} {m : MethodId} {below : List Frame} {meth : Method} {c : Code} {K : ZK ZT} (hlt : l.stackTraces = false) (C : zCx p l room_1 s m #[Value.ref b] meth c code 7 RL z0 D cA 0) (hr : meth.sig.returnType = ret) (hz9 : s.heap.size ≤ z0) (hX : va_X b Ln xs s s.heap) (hbl : b < s.heap.size) (hbz : ¬ z0 ≤ b) (hK : Snd p l e room_1 s m #[Value.ref b] below meth c 7 z0 b (iT9 z0 b 45 D cA s) cT9 (lw_Z below #[Value.ref b] s) 1685 K) : Snd p l e room_1 s m #[Value.ref b] below meth c 7 z0 b (iT9 z0 b 45 D cA s) cT9 (lw_Z below #[Value.ref b] s) 1445 (bD23 xs Ln K) := by
  obtain ⟨hx, hb, hml, hown, hts, -⟩ := id C
  unfold bD23
  refine k_aload_n hx hb dL_law_1445 rfl ?_
  refine k_alS hx hb dL_law_1446 rfl ?_
  refine k_iload hx hb dL_law_1447 ?_
  refine k_iconst hx hb dL_law_1449 (by decide) ?_
  refine k_iadd hx hb dL_law_1450 ?_
  refine k_sld hx hb hX hbl hbz dL_law_1451 ?_
  refine k_alS hx hb dL_law_1452 rfl ?_
  refine k_iload hx hb dL_law_1453 ?_
  refine k_iconst hx hb dL_law_1455 (by decide) ?_
  refine k_iadd hx hb dL_law_1456 ?_
  refine k_sld hx hb hX hbl hbz dL_law_1457 ?_
  refine k_aload_n hx hb dL_law_1458 rfl ?_
  refine k_callW4 C (vL_reason hlt) zlL_181 zsL_reason ziL zwL_reason (by decide +kernel) ⟨Nat.le_of_ble_eq_true rfl, Nat.le_of_ble_eq_true rfl⟩ ⟨rfl, rfl⟩ dL_law_1459 ?_
  refine k_istore hx hb dL_law_1462 ?_
  exact sB23 hlt C hr hz9 hX hbl hbz hK
set_option maxRecDepth 20000 in
theorem sT24 {l : Launch} {z0 b Ln : Nat} {xs : Nat → Int32} {D : va_G} {cA : Nat → ClassId} {p : Program} {e : Env} {s : State} {m : MethodId} {below : List Frame} {meth : Method} {c : Code} {K : ZK ZT} (hlt : l.stackTraces = false) (C : zCx p l room_1 s m #[Value.ref b] meth c code 7 RL z0 D cA 0) (hr : meth.sig.returnType = ret) (hz9 : s.heap.size ≤ z0) (hX : va_X b Ln xs s s.heap) (hbl : b < s.heap.size) (hbz : ¬ z0 ≤ b) (hK : Snd p l e room_1 s m #[Value.ref b] below meth c 7 z0 b (iT9 z0 b 45 D cA s) cT9 (lw_Z below #[Value.ref b] s) 1685 K) : Snd p l e room_1 s m #[Value.ref b] below meth c 7 z0 b (iT9 z0 b 45 D cA s) cT9 (lw_Z below #[Value.ref b] s) 1562 (bTI K) := by
  obtain ⟨hx, hb, hml, hown, hts, -⟩ := id C
  unfold bTI
  refine k_aload_n hx hb dL_law_1562 rfl ?_
  refine k_callM0 C (ci := 6) (Tf := TX6) (Nf := 20) (Cn := RX6) rfl (mX6_thrown hlt) rfl zlL_104 zmX6_thrown zvX6_thrown ziX6 zcX6_thrown (by decide +kernel) ⟨Nat.le_of_ble_eq_true rfl, Nat.le_of_ble_eq_true rfl⟩ ⟨Nat.le_of_ble_eq_true rfl, rfl, rfl⟩ dL_law_1563 ?_
  refine k_iload hx hb dL_law_1566 ?_
  refine k_icmp_eq (tgt := 1573) hx hb dL_law_1568 (by decide) ?_ ?_
  · refine k_iload hx hb dL_law_1573 ?_
    refine k_if_ne (tgt := 1590) hx hb dL_law_1575 (by decide) ?_ ?_
    · refine k_goto (tgt := 1685) hx hb dL_law_1590 (by decide) ?_
      exact hK
    · refine k_aload_n hx hb dL_law_1578 rfl ?_
      refine k_iconst hx hb dL_law_1579 (by decide) ?_
      refine k_laldT C dL_law_1580 ?_
      refine k_iload hx hb dL_law_1581 ?_
      refine k_i2l hx hb dL_law_1583 ?_
      refine k_lcmp hx hb dL_law_1584 ?_
      refine k_if_eq (tgt := 1590) hx hb dL_law_1585 (by decide) ?_ ?_
      · refine k_goto (tgt := 1685) hx hb dL_law_1590 (by decide) ?_
        exact hK
      · refine k_iconst hx hb dL_law_1588 (by decide) ?_
        exact k_lend C hr hz9 dL_law_1589
  · refine k_iconst hx hb dL_law_1571 (by decide) ?_
    exact k_lend C hr hz9 dL_law_1572
def bB24 (xs : Nat → Int32) (Ln : Nat) (K : ZK ZT) : ZK ZT := (o_aload 2 (o_alS 0 (o_iload 4 (o_ic 1 (o_bin (fun x y => x + y) (o_sld xs Ln (o_alS 0 (o_iload 4 (o_ic 2 (o_bin (fun x y => x + y) (o_sld xs Ln (o_alS 0 (o_iload 4 (o_ic 3 (o_bin (fun x y => x + y) (o_sld xs Ln (o_callM3 6 tX6_count (o_istore 6 (bTI K)))))))))))))))))))
set_option maxRecDepth 20000 in
theorem sB24 {l : Launch} {z0 b Ln : Nat} {xs : Nat → Int32} {D : va_G} {cA : Nat → ClassId} {p : Program} {e : Env} {s : State} {m : MethodId} {below : List Frame} {meth : Method} {c : Code} {K : ZK ZT} (hlt : l.stackTraces = false) (C : zCx p l room_1 s m #[Value.ref b] meth c code 7 RL z0 D cA 0) (hr : meth.sig.returnType = ret) (hz9 : s.heap.size ≤ z0) (hX : va_X b Ln xs s s.heap) (hbl : b < s.heap.size) (hbz : ¬ z0 ≤ b) (hK : Snd p l e room_1 s m #[Value.ref b] below meth c 7 z0 b (iT9 z0 b 45 D cA s) cT9 (lw_Z below #[Value.ref b] s) 1685 K) : Snd p l e room_1 s m #[Value.ref b] below meth c 7 z0 b (iT9 z0 b 45 D cA s) cT9 (lw_Z below #[Value.ref b] s) 1538 (bB24 xs Ln K) := by
  obtain ⟨hx, hb, hml, hown, hts, -⟩ := id C
  unfold bB24
  refine k_aload_n hx hb dL_law_1538 rfl ?_
  refine k_alS hx hb dL_law_1539 rfl ?_
  refine k_iload hx hb dL_law_1540 ?_
  refine k_iconst hx hb dL_law_1542 (by decide) ?_
  refine k_iadd hx hb dL_law_1543 ?_
  refine k_sld hx hb hX hbl hbz dL_law_1544 ?_
  refine k_alS hx hb dL_law_1545 rfl ?_
  refine k_iload hx hb dL_law_1546 ?_
  refine k_iconst hx hb dL_law_1548 (by decide) ?_
  refine k_iadd hx hb dL_law_1549 ?_
  refine k_sld hx hb hX hbl hbz dL_law_1550 ?_
  refine k_alS hx hb dL_law_1551 rfl ?_
  refine k_iload hx hb dL_law_1552 ?_
  refine k_iconst hx hb dL_law_1554 (by decide) ?_
  refine k_iadd hx hb dL_law_1555 ?_
  refine k_sld hx hb hX hbl hbz dL_law_1556 ?_
  refine k_callM3 C (ci := 6) (Tf := TX6) (Nf := 20) (Cn := RX6) rfl (mX6_count hlt) rfl zlL_186 zmX6_count zvX6_count ziX6 zcX6_count (by decide +kernel) ⟨Nat.le_of_ble_eq_true rfl, Nat.le_of_ble_eq_true rfl⟩ ⟨Nat.le_of_ble_eq_true rfl, rfl, rfl⟩ dL_law_1557 ?_
  refine k_istore hx hb dL_law_1560 ?_
  exact sT24 hlt C hr hz9 hX hbl hbz hK
def bD24 (xs : Nat → Int32) (Ln : Nat) (K : ZK ZT) : ZK ZT := (o_aload 1 (o_alS 0 (o_iload 4 (o_ic 1 (o_bin (fun x y => x + y) (o_sld xs Ln (o_alS 0 (o_iload 4 (o_ic 2 (o_bin (fun x y => x + y) (o_sld xs Ln (o_alS 0 (o_iload 4 (o_ic 3 (o_bin (fun x y => x + y) (o_sld xs Ln (o_aload 3 (o_callW5 tL_count (o_istore 5 (bB24 xs Ln K))))))))))))))))))))
set_option maxRecDepth 20000 in
theorem sD24 {l : Launch} {z0 b Ln : Nat} {xs : Nat → Int32} {D : va_G} {cA : Nat → ClassId} {p : Program} {e : Env} {s : State} {m : MethodId} {below : List Frame} {meth : Method} {c : Code} {K : ZK ZT} (hlt : l.stackTraces = false) (C : zCx p l room_1 s m #[Value.ref b] meth c code 7 RL z0 D cA 0) (hr : meth.sig.returnType = ret) (hz9 : s.heap.size ≤ z0) (hX : va_X b Ln xs s s.heap) (hbl : b < s.heap.size) (hbz : ¬ z0 ≤ b) (hK : Snd p l e room_1 s m #[Value.ref b] below meth c 7 z0 b (iT9 z0 b 45 D cA s) cT9 (lw_Z below #[Value.ref b] s) 1685 K) : Snd p l e room_1 s m #[Value.ref b] below meth c 7 z0 b (iT9 z0 b 45 D cA s) cT9 (lw_Z below #[Value.ref b] s) 1513 (bD24 xs Ln K) := by
  obtain ⟨hx, hb, hml, hown, hts, -⟩ := id C
  unfold bD24
  refine k_aload_n hx hb dL_law_1513 rfl ?_
  refine k_alS hx hb dL_law_1514 rfl ?_
  refine k_iload hx hb dL_law_1515 ?_
  refine k_iconst hx hb dL_law_1517 (by decide) ?_
  refine k_iadd hx hb dL_law_1518 ?_
  refine k_sld hx hb hX hbl hbz dL_law_1519 ?_
  refine k_alS hx hb dL_law_1520 rfl ?_
  refine k_iload hx hb dL_law_1521 ?_
  refine k_iconst hx hb dL_law_1523 (by decide) ?_
  refine k_iadd hx hb dL_law_1524 ?_
  refine k_sld hx hb hX hbl hbz dL_law_1525 ?_
  refine k_alS hx hb dL_law_1526 rfl ?_
  refine k_iload hx hb dL_law_1527 ?_
  refine k_iconst hx hb dL_law_1529 (by decide) ?_
  refine k_iadd hx hb dL_law_1530 ?_
  refine k_sld hx hb hX hbl hbz dL_law_1531 ?_
  refine k_aload_n hx hb dL_law_1532 rfl ?_
  refine k_callW5 C (vL_count hlt) zlL_184 zsL_count ziL zwL_count (by decide +kernel) ⟨Nat.le_of_ble_eq_true rfl, Nat.le_of_ble_eq_true rfl⟩ ⟨rfl, rfl⟩ dL_law_1533 ?_
  refine k_istore hx hb dL_law_1536 ?_
  exact sB24 hlt C hr hz9 hX hbl hbz hK
set_option maxRecDepth 20000 in
theorem sT25 {l : Launch} {z0 b Ln : Nat} {xs : Nat → Int32} {D : va_G} {cA : Nat → ClassId} {p : Program} {e : Env} {s : State} {m : MethodId} {below : List Frame} {meth : Method} {c : Code} {K : ZK ZT} (hlt : l.stackTraces = false) (C : zCx p l room_1 s m #[Value.ref b] meth c code 7 RL z0 D cA 0) (hr : meth.sig.returnType = ret) (hz9 : s.heap.size ≤ z0) (hX : va_X b Ln xs s s.heap) (hbl : b < s.heap.size) (hbz : ¬ z0 ≤ b) (hK : Snd p l e room_1 s m #[Value.ref b] below meth c 7 z0 b (iT9 z0 b 45 D cA s) cT9 (lw_Z below #[Value.ref b] s) 1685 K) : Snd p l e room_1 s m #[Value.ref b] below meth c 7 z0 b (iT9 z0 b 45 D cA s) cT9 (lw_Z below #[Value.ref b] s) 1654 (bTI K) := by
  obtain ⟨hx, hb, hml, hown, hts, -⟩ := id C
  unfold bTI
  refine k_aload_n hx hb dL_law_1654 rfl ?_
  refine k_callM0 C (ci := 6) (Tf := TX6) (Nf := 20) (Cn := RX6) rfl (mX6_thrown hlt) rfl zlL_104 zmX6_thrown zvX6_thrown ziX6 zcX6_thrown (by decide +kernel) ⟨Nat.le_of_ble_eq_true rfl, Nat.le_of_ble_eq_true rfl⟩ ⟨Nat.le_of_ble_eq_true rfl, rfl, rfl⟩ dL_law_1655 ?_
  refine k_iload hx hb dL_law_1658 ?_
  refine k_icmp_eq (tgt := 1665) hx hb dL_law_1660 (by decide) ?_ ?_
  · refine k_iload hx hb dL_law_1665 ?_
    refine k_if_ne (tgt := 1682) hx hb dL_law_1667 (by decide) ?_ ?_
    · refine k_goto (tgt := 1685) hx hb dL_law_1682 (by decide) ?_
      exact hK
    · refine k_aload_n hx hb dL_law_1670 rfl ?_
      refine k_iconst hx hb dL_law_1671 (by decide) ?_
      refine k_laldT C dL_law_1672 ?_
      refine k_iload hx hb dL_law_1673 ?_
      refine k_i2l hx hb dL_law_1675 ?_
      refine k_lcmp hx hb dL_law_1676 ?_
      refine k_if_eq (tgt := 1682) hx hb dL_law_1677 (by decide) ?_ ?_
      · refine k_goto (tgt := 1685) hx hb dL_law_1682 (by decide) ?_
        exact hK
      · refine k_iconst hx hb dL_law_1680 (by decide) ?_
        exact k_lend C hr hz9 dL_law_1681
  · refine k_iconst hx hb dL_law_1663 (by decide) ?_
    exact k_lend C hr hz9 dL_law_1664
def bB25 (xs : Nat → Int32) (Ln : Nat) (K : ZK ZT) : ZK ZT := (o_aload 2 (o_alS 0 (o_iload 4 (o_ic 1 (o_bin (fun x y => x + y) (o_sld xs Ln (o_alS 0 (o_iload 4 (o_ic 2 (o_bin (fun x y => x + y) (o_sld xs Ln (o_alS 0 (o_iload 4 (o_ic 3 (o_bin (fun x y => x + y) (o_sld xs Ln (o_alS 0 (o_iload 4 (o_ic 4 (o_bin (fun x y => x + y) (o_sld xs Ln (o_callM4 6 tX6_match (o_istore 6 (bTI K))))))))))))))))))))))))
set_option maxRecDepth 20000 in
theorem sB25 {l : Launch} {z0 b Ln : Nat} {xs : Nat → Int32} {D : va_G} {cA : Nat → ClassId} {p : Program} {e : Env} {s : State} {m : MethodId} {below : List Frame} {meth : Method} {c : Code} {K : ZK ZT} (hlt : l.stackTraces = false) (C : zCx p l room_1 s m #[Value.ref b] meth c code 7 RL z0 D cA 0) (hr : meth.sig.returnType = ret) (hz9 : s.heap.size ≤ z0) (hX : va_X b Ln xs s s.heap) (hbl : b < s.heap.size) (hbz : ¬ z0 ≤ b) (hK : Snd p l e room_1 s m #[Value.ref b] below meth c 7 z0 b (iT9 z0 b 45 D cA s) cT9 (lw_Z below #[Value.ref b] s) 1685 K) : Snd p l e room_1 s m #[Value.ref b] below meth c 7 z0 b (iT9 z0 b 45 D cA s) cT9 (lw_Z below #[Value.ref b] s) 1624 (bB25 xs Ln K) := by
  obtain ⟨hx, hb, hml, hown, hts, -⟩ := id C
  unfold bB25
  refine k_aload_n hx hb dL_law_1624 rfl ?_
  refine k_alS hx hb dL_law_1625 rfl ?_
  refine k_iload hx hb dL_law_1626 ?_
  refine k_iconst hx hb dL_law_1628 (by decide) ?_
  refine k_iadd hx hb dL_law_1629 ?_
  refine k_sld hx hb hX hbl hbz dL_law_1630 ?_
  refine k_alS hx hb dL_law_1631 rfl ?_
  refine k_iload hx hb dL_law_1632 ?_
  refine k_iconst hx hb dL_law_1634 (by decide) ?_
  refine k_iadd hx hb dL_law_1635 ?_
  refine k_sld hx hb hX hbl hbz dL_law_1636 ?_
  refine k_alS hx hb dL_law_1637 rfl ?_
  refine k_iload hx hb dL_law_1638 ?_
  refine k_iconst hx hb dL_law_1640 (by decide) ?_
  refine k_iadd hx hb dL_law_1641 ?_
  refine k_sld hx hb hX hbl hbz dL_law_1642 ?_
  refine k_alS hx hb dL_law_1643 rfl ?_
  refine k_iload hx hb dL_law_1644 ?_
  refine k_iconst hx hb dL_law_1646 (by decide) ?_
  refine k_iadd hx hb dL_law_1647 ?_
  refine k_sld hx hb hX hbl hbz dL_law_1648 ?_
  refine k_callM4 C (ci := 6) (Tf := TX6) (Nf := 20) (Cn := RX6) rfl (mX6_match hlt) rfl zlL_190 zmX6_match zvX6_match ziX6 zcX6_match (by decide +kernel) ⟨Nat.le_of_ble_eq_true rfl, Nat.le_of_ble_eq_true rfl⟩ ⟨Nat.le_of_ble_eq_true rfl, rfl, rfl⟩ dL_law_1649 ?_
  refine k_istore hx hb dL_law_1652 ?_
  exact sT25 hlt C hr hz9 hX hbl hbz hK
def bD25 (xs : Nat → Int32) (Ln : Nat) (K : ZK ZT) : ZK ZT := (o_aload 1 (o_alS 0 (o_iload 4 (o_ic 1 (o_bin (fun x y => x + y) (o_sld xs Ln (o_alS 0 (o_iload 4 (o_ic 2 (o_bin (fun x y => x + y) (o_sld xs Ln (o_alS 0 (o_iload 4 (o_ic 3 (o_bin (fun x y => x + y) (o_sld xs Ln (o_alS 0 (o_iload 4 (o_ic 4 (o_bin (fun x y => x + y) (o_sld xs Ln (o_aload 3 (o_callW6 tL_match (o_istore 5 (bB25 xs Ln K)))))))))))))))))))))))))
set_option maxRecDepth 20000 in
theorem sD25 {l : Launch} {z0 b Ln : Nat} {xs : Nat → Int32} {D : va_G} {cA : Nat → ClassId} {p : Program} {e : Env} {s : State} {m : MethodId} {below : List Frame} {meth : Method} {c : Code} {K : ZK ZT} (hlt : l.stackTraces = false) (C : zCx p l room_1 s m #[Value.ref b] meth c code 7 RL z0 D cA 0) (hr : meth.sig.returnType = ret) (hz9 : s.heap.size ≤ z0) (hX : va_X b Ln xs s s.heap) (hbl : b < s.heap.size) (hbz : ¬ z0 ≤ b) (hK : Snd p l e room_1 s m #[Value.ref b] below meth c 7 z0 b (iT9 z0 b 45 D cA s) cT9 (lw_Z below #[Value.ref b] s) 1685 K) : Snd p l e room_1 s m #[Value.ref b] below meth c 7 z0 b (iT9 z0 b 45 D cA s) cT9 (lw_Z below #[Value.ref b] s) 1593 (bD25 xs Ln K) := by
  obtain ⟨hx, hb, hml, hown, hts, -⟩ := id C
  unfold bD25
  refine k_aload_n hx hb dL_law_1593 rfl ?_
  refine k_alS hx hb dL_law_1594 rfl ?_
  refine k_iload hx hb dL_law_1595 ?_
  refine k_iconst hx hb dL_law_1597 (by decide) ?_
  refine k_iadd hx hb dL_law_1598 ?_
  refine k_sld hx hb hX hbl hbz dL_law_1599 ?_
  refine k_alS hx hb dL_law_1600 rfl ?_
  refine k_iload hx hb dL_law_1601 ?_
  refine k_iconst hx hb dL_law_1603 (by decide) ?_
  refine k_iadd hx hb dL_law_1604 ?_
  refine k_sld hx hb hX hbl hbz dL_law_1605 ?_
  refine k_alS hx hb dL_law_1606 rfl ?_
  refine k_iload hx hb dL_law_1607 ?_
  refine k_iconst hx hb dL_law_1609 (by decide) ?_
  refine k_iadd hx hb dL_law_1610 ?_
  refine k_sld hx hb hX hbl hbz dL_law_1611 ?_
  refine k_alS hx hb dL_law_1612 rfl ?_
  refine k_iload hx hb dL_law_1613 ?_
  refine k_iconst hx hb dL_law_1615 (by decide) ?_
  refine k_iadd hx hb dL_law_1616 ?_
  refine k_sld hx hb hX hbl hbz dL_law_1617 ?_
  refine k_aload_n hx hb dL_law_1618 rfl ?_
  refine k_callW6 C (vL_match hlt) zlL_187 zsL_match ziL zwL_match (by decide +kernel) ⟨Nat.le_of_ble_eq_true rfl, Nat.le_of_ble_eq_true rfl⟩ ⟨rfl, rfl⟩ dL_law_1619 ?_
  refine k_istore hx hb dL_law_1622 ?_
  exact sB25 hlt C hr hz9 hX hbl hbz hK
def bH (xs : Nat → Int32) (Ln : Nat) (K : ZK ZT) : ZK ZT := (o_iload 4 (o_alS 0 (o_slen Ln (o_ic 5 (o_bin (fun x y => x - y) (o_if2 (fun x y => y < x) (o_ic 1 o_lend) (o_alS 0 (o_iload 4 (o_sld xs Ln (o_ic 31 (o_bin (fun x y => x &&& y) (o_tsw 0 [bD0 xs Ln K, bD1 xs Ln K, bD2 xs Ln K, bD3 xs Ln K, bD4 xs Ln K, bD5 xs Ln K, bD6 xs Ln K, bD7 xs Ln K, bD8 xs Ln K, bD9 xs Ln K, bD10 xs Ln K, bD11 xs Ln K, bD12 xs Ln K, bD13 xs Ln K, bD14 xs Ln K, bD15 xs Ln K, bD16 xs Ln K, bD17 xs Ln K, bD18 xs Ln K, bD19 xs Ln K, bD20 xs Ln K, bD21 xs Ln K, bD22 xs Ln K, bD23 xs Ln K, bD24 xs Ln K, bD25 xs Ln K] K))))))))))))
set_option maxRecDepth 20000 in
theorem sH {l : Launch} {z0 b Ln : Nat} {xs : Nat → Int32} {D : va_G} {cA : Nat → ClassId} {p : Program} {e : Env} {s : State} {m : MethodId} {below : List Frame} {meth : Method} {c : Code} {K : ZK ZT} (hlt : l.stackTraces = false) (C : zCx p l room_1 s m #[Value.ref b] meth c code 7 RL z0 D cA 0) (hr : meth.sig.returnType = ret) (hz9 : s.heap.size ≤ z0) (hX : va_X b Ln xs s s.heap) (hbl : b < s.heap.size) (hbz : ¬ z0 ≤ b) (hK : Snd p l e room_1 s m #[Value.ref b] below meth c 7 z0 b (iT9 z0 b 45 D cA s) cT9 (lw_Z below #[Value.ref b] s) 1685 K) : Snd p l e room_1 s m #[Value.ref b] below meth c 7 z0 b (iT9 z0 b 45 D cA s) cT9 (lw_Z below #[Value.ref b] s) 23 (bH xs Ln K) := by
  obtain ⟨hx, hb, hml, hown, hts, -⟩ := id C
  unfold bH
  refine k_iload hx hb dL_law_23 ?_
  refine k_alS hx hb dL_law_25 rfl ?_
  refine k_slen hx hb hX hbl hbz dL_law_26 ?_
  refine k_iconst hx hb dL_law_27 (by decide) ?_
  refine k_isub hx hb dL_law_28 ?_
  refine k_icmp_gt (tgt := 1691) hx hb dL_law_29 (by decide) ?_ ?_
  · refine k_iconst hx hb dL_law_1691 (by decide) ?_
    exact k_lend C hr hz9 dL_law_1692
  · refine k_alS hx hb dL_law_32 rfl ?_
    refine k_iload hx hb dL_law_33 ?_
    refine k_sld hx hb hX hbl hbz dL_law_35 ?_
    refine k_bipush hx hb dL_law_36 (by decide) ?_
    refine k_iand hx hb dL_law_38 ?_
    refine k_tsw hx hb (tgtD := 1685) dL_law_39 [156, 214, 258, 271, 339, 383, 396, 471, 546, 626, 670, 683, 739, 819, 915, 971, 1034, 1090, 1146, 1202, 1277, 1333, 1389, 1445, 1513, 1593] rfl rfl (by decide) (by decide) hK ?_
    intro i K9 t h1 h2
    match i, h1, h2 with
    | 0, h1, h2 =>
      cases h1; cases h2
      exact sD0 hlt C hr hz9 hX hbl hbz hK
    | 1, h1, h2 =>
      cases h1; cases h2
      exact sD1 hlt C hr hz9 hX hbl hbz hK
    | 2, h1, h2 =>
      cases h1; cases h2
      exact sD2 hlt C hr hz9 hX hbl hbz hK
    | 3, h1, h2 =>
      cases h1; cases h2
      exact sD3 hlt C hr hz9 hX hbl hbz hK
    | 4, h1, h2 =>
      cases h1; cases h2
      exact sD4 hlt C hr hz9 hX hbl hbz hK
    | 5, h1, h2 =>
      cases h1; cases h2
      exact sD5 hlt C hr hz9 hX hbl hbz hK
    | 6, h1, h2 =>
      cases h1; cases h2
      exact sD6 hlt C hr hz9 hX hbl hbz hK
    | 7, h1, h2 =>
      cases h1; cases h2
      exact sD7 hlt C hr hz9 hX hbl hbz hK
    | 8, h1, h2 =>
      cases h1; cases h2
      exact sD8 hlt C hr hz9 hX hbl hbz hK
    | 9, h1, h2 =>
      cases h1; cases h2
      exact sD9 hlt C hr hz9 hX hbl hbz hK
    | 10, h1, h2 =>
      cases h1; cases h2
      exact sD10 hlt C hr hz9 hX hbl hbz hK
    | 11, h1, h2 =>
      cases h1; cases h2
      exact sD11 hlt C hr hz9 hX hbl hbz hK
    | 12, h1, h2 =>
      cases h1; cases h2
      exact sD12 hlt C hr hz9 hX hbl hbz hK
    | 13, h1, h2 =>
      cases h1; cases h2
      exact sD13 hlt C hr hz9 hX hbl hbz hK
    | 14, h1, h2 =>
      cases h1; cases h2
      exact sD14 hlt C hr hz9 hX hbl hbz hK
    | 15, h1, h2 =>
      cases h1; cases h2
      exact sD15 hlt C hr hz9 hX hbl hbz hK
    | 16, h1, h2 =>
      cases h1; cases h2
      exact sD16 hlt C hr hz9 hX hbl hbz hK
    | 17, h1, h2 =>
      cases h1; cases h2
      exact sD17 hlt C hr hz9 hX hbl hbz hK
    | 18, h1, h2 =>
      cases h1; cases h2
      exact sD18 hlt C hr hz9 hX hbl hbz hK
    | 19, h1, h2 =>
      cases h1; cases h2
      exact sD19 hlt C hr hz9 hX hbl hbz hK
    | 20, h1, h2 =>
      cases h1; cases h2
      exact sD20 hlt C hr hz9 hX hbl hbz hK
    | 21, h1, h2 =>
      cases h1; cases h2
      exact sD21 hlt C hr hz9 hX hbl hbz hK
    | 22, h1, h2 =>
      cases h1; cases h2
      exact sD22 hlt C hr hz9 hX hbl hbz hK
    | 23, h1, h2 =>
      cases h1; cases h2
      exact sD23 hlt C hr hz9 hX hbl hbz hK
    | 24, h1, h2 =>
      cases h1; cases h2
      exact sD24 hlt C hr hz9 hX hbl hbz hK
    | 25, h1, h2 =>
      cases h1; cases h2
      exact sD25 hlt C hr hz9 hX hbl hbz hK
    | n + 26, h1, h2 => exact absurd h1 (by simp)
theorem sI {l : Launch} {z0 b Ln : Nat} {xs : Nat → Int32} {D : va_G} {cA : Nat → ClassId} {p : Program} {e : Env} {s : State} {m : MethodId} {below : List Frame} {meth : Method} {c : Code} {K : ZK ZT} (hlt : l.stackTraces = false) (C : zCx p l room_1 s m #[Value.ref b] meth c code 7 RL z0 D cA 0) (hr : meth.sig.returnType = ret) (hz9 : s.heap.size ≤ z0) (hX : va_X b Ln xs s s.heap) (hbl : b < s.heap.size) (hbz : ¬ z0 ≤ b) (hK : Snd p l e room_1 s m #[Value.ref b] below meth c 7 z0 b (iT9 z0 b 45 D cA s) cT9 (lw_Z below #[Value.ref b] s) 23 K) : Snd p l e room_1 s m #[Value.ref b] below meth c 7 z0 b (iT9 z0 b 45 D cA s) cT9 (lw_Z below #[Value.ref b] s) 1685 (o_iinc 4 5 K) := by
  obtain ⟨hx, hb, hml, hown, hts, -⟩ := id C
  refine k_iinc hx hb dL_law_1685 (by decide) ?_
  exact k_goto (tgt := 23) hx hb dL_law_1688 (by decide) hK
