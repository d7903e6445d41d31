theorem zbX6 : Cond.instantiable RX6 20 ∈ zWS := zws_mem 699 (by decide +kernel) rfl
theorem zbX5 : Cond.instantiable RX5 6 ∈ zWS := zws_mem 59 (by decide +kernel) rfl
theorem znL_8 : Cond.classLink RL 8 RX5 ∈ zWS := zws_mem 58 (by decide +kernel) rfl
theorem znL_95 : Cond.classLink RL 95 RX6 ∈ zWS := zws_mem 698 (by decide +kernel) rfl
theorem zlL_94 : Cond.methodLink RL 94 yX5_init ∈ zWS := zws_mem 60 (by decide +kernel) rfl
theorem zlL_97 : Cond.methodLink RL 97 yX6_init ∈ zWS := zws_mem 700 (by decide +kernel) rfl
theorem zT_n0 : Cond.methodLinkNest "TagRoot" 9 ⟨"TagRoot$Names", "<init>", "()V"⟩ "TagRoot" ∈ lw_tbl := List.mem_of_getElem? (i := 68) (by decide +kernel)
theorem zT_n1 : Cond.methodLinkNest "TagRoot" 18 ⟨"TagRoot$Rules", "<init>", "()V"⟩ "TagRoot" ∈ lw_tbl := List.mem_of_getElem? (i := 95) (by decide +kernel)
theorem zT_n2 : Cond.methodLinkNest "TagRoot" 28 ⟨"TagRoot$Requests", "<init>", "()V"⟩ "TagRoot" ∈ lw_tbl := List.mem_of_getElem? (i := 120) (by decide +kernel)
theorem zT_n3 : Cond.methodLinkNest "TagRoot" 35 ⟨"TagRoot$Hands", "<init>", "()V"⟩ "TagRoot" ∈ lw_tbl := List.mem_of_getElem? (i := 150) (by decide +kernel)
theorem zT_n4 : Cond.methodLinkNest "TagRoot" 42 ⟨"TagRoot$Rows", "<init>", "()V"⟩ "TagRoot" ∈ lw_tbl := List.mem_of_getElem? (i := 184) (by decide +kernel)
theorem zT_n5 : Cond.methodLinkNest "TagRoot$Rules" 35 ⟨"TagRoot", "has", "(II)Z"⟩ "TagRoot" ∈ lw_tbl := List.mem_of_getElem? (i := 368) (by decide +kernel)
theorem zT_n6 : Cond.methodLinkNest "TagRoot$Rows" 31 ⟨"TagRoot", "has", "(II)Z"⟩ "TagRoot" ∈ lw_tbl := List.mem_of_getElem? (i := 462) (by decide +kernel)
theorem zT_n7 : Cond.methodLinkNest "TagRoot$Hands" 50 ⟨"TagRoot", "has", "(II)Z"⟩ "TagRoot" ∈ lw_tbl := List.mem_of_getElem? (i := 495) (by decide +kernel)
theorem zT_s0 : Cond.stringRef "TagRoot" 53 "no character of names" ∈ lw_tbl := List.mem_of_getElem? (i := 277) (by decide +kernel)
theorem zT_s1 : Cond.stringRef "TagRoot" 64 "the draft is full" ∈ lw_tbl := List.mem_of_getElem? (i := 313) (by decide +kernel)
theorem zT_s2 : Cond.stringRef "TagRoot" 71 "the draft is empty" ∈ lw_tbl := List.mem_of_getElem? (i := 331) (by decide +kernel)
theorem zT_s3 : Cond.stringRef "TagRoot" 80 "there are no more tags to be had" ∈ lw_tbl := List.mem_of_getElem? (i := 347) (by decide +kernel)
theorem zT_s4 : Cond.stringRef "TagRoot" 229 "no such tag" ∈ lw_tbl := List.mem_of_getElem? (i := 400) (by decide +kernel)
theorem zT_s5 : Cond.stringRef "TagRoot" 101 "no such character" ∈ lw_tbl := List.mem_of_getElem? (i := 407) (by decide +kernel)
theorem zT_s6 : Cond.stringRef "TagRoot" 109 "there are no more things to be had" ∈ lw_tbl := List.mem_of_getElem? (i := 416) (by decide +kernel)
theorem zT_s7 : Cond.stringRef "TagRoot" 231 "no such thing" ∈ lw_tbl := List.mem_of_getElem? (i := 428) (by decide +kernel)
theorem zT_s8 : Cond.stringRef "TagRoot" 123 "no such kind of edit" ∈ lw_tbl := List.mem_of_getElem? (i := 477) (by decide +kernel)
theorem zT_s9 : Cond.stringRef "TagRoot" 146 "no change is kept" ∈ lw_tbl := List.mem_of_getElem? (i := 490) (by decide +kernel)
theorem zT_s10 : Cond.stringRef "TagRoot" 155 "no such kind of request" ∈ lw_tbl := List.mem_of_getElem? (i := 510) (by decide +kernel)
theorem zT_s11 : Cond.stringRef "TagRoot" 157 "a rule leads to another tag" ∈ lw_tbl := List.mem_of_getElem? (i := 511) (by decide +kernel)
theorem zT_s12 : Cond.stringRef "TagRoot" 160 "there are no more requests to be had" ∈ lw_tbl := List.mem_of_getElem? (i := 512) (by decide +kernel)
theorem zT_s13 : Cond.stringRef "TagRoot" 233 "no such request" ∈ lw_tbl := List.mem_of_getElem? (i := 528) (by decide +kernel)
theorem zT_s14 : Cond.stringRef "TagRoot" 169 "no such voter" ∈ lw_tbl := List.mem_of_getElem? (i := 529) (by decide +kernel)
theorem zT_s15 : Cond.stringRef "TagRoot" 174 "the request is not open" ∈ lw_tbl := List.mem_of_getElem? (i := 530) (by decide +kernel)
theorem zT_s16 : Cond.stringRef "TagRoot" 238 "no set of tags" ∈ lw_tbl := List.mem_of_getElem? (i := 681) (by decide +kernel)
theorem zT_s17 : Cond.stringRef "TagRoot" 222 "no place is below 0" ∈ lw_tbl := List.mem_of_getElem? (i := 693) (by decide +kernel)
theorem zT_s18 : Cond.stringRef "TagRoot" 227 "no such place" ∈ lw_tbl := List.mem_of_getElem? (i := 697) (by decide +kernel)
theorem zT_c0 : Cond.castable "java/lang/IllegalArgumentException" "java/lang/IllegalArgumentException" ∈ lw_tbl := List.mem_of_getElem? (i := 238) (by decide +kernel)
theorem zT_c1 : Cond.castable "java/lang/IllegalStateException" "java/lang/IllegalStateException" ∈ lw_tbl := List.mem_of_getElem? (i := 306) (by decide +kernel)
theorem zT_c2 : Cond.castable "java/lang/IndexOutOfBoundsException" "java/lang/IndexOutOfBoundsException" ∈ lw_tbl := List.mem_of_getElem? (i := 393) (by decide +kernel)
theorem zT_d0 : Cond.declares (Bundle.initS "java/lang/RuntimeException") ∈ lw_tbl := List.mem_of_getElem? (i := 240) (by decide +kernel)
theorem zT_d1 : Cond.declares (Bundle.initS "java/lang/Exception") ∈ lw_tbl := List.mem_of_getElem? (i := 242) (by decide +kernel)
theorem zT_d2 : Cond.declares (Bundle.initS "java/lang/Throwable") ∈ lw_tbl := List.mem_of_getElem? (i := 244) (by decide +kernel)
theorem zT_l0 : Cond.laysStatic Bundle.tN "UNASSIGNED_STACK" Bundle.steD ∈ lw_tbl := List.mem_of_getElem? (i := 263) (by decide +kernel)
theorem zT_l1 : Cond.laysStatic Bundle.tN "SUPPRESSED_SENTINEL" Bundle.listD ∈ lw_tbl := List.mem_of_getElem? (i := 265) (by decide +kernel)
theorem zT_i : Cond.initialized Bundle.tN ∈ lw_tbl := List.mem_of_getElem? (i := 50) (by decide +kernel)
section ST
theorem zstr_of {args : Array Value} {s : State} {own tx : String} {k : Nat} {cur : ClassId} (hcur : s.vm.findClass own = some cur) (h : (Cond.stringRef own k tx).before args s = true) : ∃ sa, vk_R own k tx sa s := by
  obtain ⟨-, -, -, a, -, -, -, -, -, hev⟩ := Cond.stringRef_spec hcur h
  exact ⟨a, vk_R.of h hev⟩
theorem zarr_of {args : Array Value} {s : State} {ty : FieldType} (hra : ∀ k (U : State), U.vm.findClass ("[" ++ ty.toString) = some k → va_RA U k ty) (h : (Cond.arrayClass ty).before args s = true) : ∃ c : ClassId, ArrOfT s c ty ∧ va_RA s c ty := by
  obtain ⟨c, kA, comp, h1, h2, h3⟩ := Cond.arrayClass_spec h
  exact ⟨c, fun n z => ⟨fun k h => (by cases h), kA, h2, comp, h3⟩, hra _ _ h1⟩
/-- what the launch gives -/
theorem zG_of {s : State} {b : Nat} (hts : ∀ w ∈ lw_tbl, w.before #[Value.ref b] s = true) (hgv : (Jvm.Cond.and given_1 narrow_1).before #[Value.ref b] s = true) : ∃ (D : va_G) (cA : Nat → ClassId), zG D cA s ∧ zZ s.heap.size s s.heap := by
  have hws : ∀ w ∈ zWS, w.before #[Value.ref b] s = true := fun w hw => hts w (List.mem_filter.mp hw).1
  have hfl := flat_of_before _ hgv
  obtain ⟨c0, i0, hKn0⟩ := u_known (C := RX0) (T := TX0) (N := 7) (n := 7) hws zinX0 (hws _ zbX0)
  obtain ⟨c1, i1, hKn1⟩ := u_known (C := RX1) (T := TX1) (N := 5) (n := 5) hws zinX1 (hws _ zbX1)
  obtain ⟨c2, i2, hKn2⟩ := u_known (C := RX2) (T := TX2) (N := 7) (n := 7) hws zinX2 (hws _ zbX2)
  obtain ⟨c3, i3, hKn3⟩ := u_known (C := RX3) (T := TX3) (N := 1) (n := 1) hws zinX3 (hws _ zbX3)
  obtain ⟨c4, i4, hKn4⟩ := u_known (C := RX4) (T := TX4) (N := 5) (n := 5) hws zinX4 (hws _ zbX4)
  obtain ⟨c5, i5, hKn5⟩ := u_known (C := RX5) (T := TX5) (N := 6) (n := 6) hws zinX5 (hws _ zbX5)
  obtain ⟨c6, i6, hKn6⟩ := u_known (C := RX6) (T := TX6) (N := 20) (n := 20) hws zinX6 (hws _ zbX6)
  obtain ⟨dC, dI, hKc⟩ : ∃ (dC : Nat → ClassId) (dI : Nat → Nat → Nat), ∀ (k : Nat) (q : vw_C), vwCl[k]? = some q → u_Kn s q.1 q.2.1 q.2.2 (dC k) (dI k) := by
    refine ⟨fun k => match k with
      | 0 => c0 | 1 => c1 | 2 => c2 | 3 => c3 | 4 => c4 | 5 => c5 | _ => c6, fun k => match k with
      | 0 => i0 | 1 => i1 | 2 => i2 | 3 => i3 | 4 => i4 | 5 => i5 | _ => i6, ?_⟩
    intro k q hq
    match k, hq with
    | 0, hq => cases hq; exact hKn0
    | 1, hq => cases hq; exact hKn1
    | 2, hq => cases hq; exact hKn2
    | 3, hq => cases hq; exact hKn3
    | 4, hq => cases hq; exact hKn4
    | 5, hq => cases hq; exact hKn5
    | 6, hq => cases hq; exact hKn6
    | k + 7, hq => simp [vwCl] at hq
  obtain ⟨a0, hA0⟩ := zarr_of (ty := .int) (fun _ _ h => h) (hws _ za_int)
  obtain ⟨a1, hA1⟩ := zarr_of (ty := .char) (fun _ _ h => h) (hws _ za_char)
  obtain ⟨a2, hA2⟩ := zarr_of (ty := .long) (fun _ _ h => h) (hws _ za_long)
  have hTR : s.vm.findClass "TagRoot" = some c5 := hKn5.2.1
  refine ⟨(dC, dI), fun k => match k with
    | 0 => a0 | 1 => a1 | _ => a2, ⟨⟨hKc, ?_⟩, ?_, ?_, ?_, ?_, ?_⟩, ?_⟩
  · intro k q hq
    match k, hq with
    | 0, hq => cases hq; exact hA0
    | 1, hq => cases hq; exact hA1
    | 2, hq => cases hq; exact hA2
    | k + 3, hq => simp at hq
  · exact List.forall_mem_cons.mpr ⟨va_Nw.of rfl (hts _ zT_n0), List.forall_mem_cons.mpr ⟨va_Nw.of rfl (hts _ zT_n1), List.forall_mem_cons.mpr ⟨va_Nw.of rfl (hts _ zT_n2), List.forall_mem_cons.mpr ⟨va_Nw.of rfl (hts _ zT_n3), List.forall_mem_cons.mpr ⟨va_Nw.of rfl (hts _ zT_n4), List.forall_mem_cons.mpr ⟨va_Nw.of rfl (hts _ zT_n5), List.forall_mem_cons.mpr ⟨va_Nw.of rfl (hts _ zT_n6), List.forall_mem_cons.mpr ⟨va_Nw.of rfl (hts _ zT_n7), fun _ h => absurd h List.not_mem_nil⟩⟩⟩⟩⟩⟩⟩⟩
  · exact List.forall_mem_cons.mpr ⟨zstr_of hTR (hts _ zT_s0), List.forall_mem_cons.mpr ⟨zstr_of hTR (hts _ zT_s1), List.forall_mem_cons.mpr ⟨zstr_of hTR (hts _ zT_s2), List.forall_mem_cons.mpr ⟨zstr_of hTR (hts _ zT_s3), List.forall_mem_cons.mpr ⟨zstr_of hTR (hts _ zT_s4), List.forall_mem_cons.mpr ⟨zstr_of hTR (hts _ zT_s5), List.forall_mem_cons.mpr ⟨zstr_of hTR (hts _ zT_s6), List.forall_mem_cons.mpr ⟨zstr_of hTR (hts _ zT_s7), List.forall_mem_cons.mpr ⟨zstr_of hTR (hts _ zT_s8), List.forall_mem_cons.mpr ⟨zstr_of hTR (hts _ zT_s9), List.forall_mem_cons.mpr ⟨zstr_of hTR (hts _ zT_s10), List.forall_mem_cons.mpr ⟨zstr_of hTR (hts _ zT_s11), List.forall_mem_cons.mpr ⟨zstr_of hTR (hts _ zT_s12), List.forall_mem_cons.mpr ⟨zstr_of hTR (hts _ zT_s13), List.forall_mem_cons.mpr ⟨zstr_of hTR (hts _ zT_s14), List.forall_mem_cons.mpr ⟨zstr_of hTR (hts _ zT_s15), List.forall_mem_cons.mpr ⟨zstr_of hTR (hts _ zT_s16), List.forall_mem_cons.mpr ⟨zstr_of hTR (hts _ zT_s17), List.forall_mem_cons.mpr ⟨zstr_of hTR (hts _ zT_s18), fun _ h => absurd h List.not_mem_nil⟩⟩⟩⟩⟩⟩⟩⟩⟩⟩⟩⟩⟩⟩⟩⟩⟩⟩⟩
  · exact List.forall_mem_cons.mpr ⟨va_Nc.of (hfl _ (by decide +kernel)), List.forall_mem_cons.mpr ⟨va_Nc.of (hfl _ (by decide +kernel)), List.forall_mem_cons.mpr ⟨va_Nc.of (hfl _ (by decide +kernel)), fun _ h => absurd h List.not_mem_nil⟩⟩⟩
  · exact List.forall_mem_cons.mpr ⟨va_Nw.of rfl (hts _ zT_c0), List.forall_mem_cons.mpr ⟨va_Nw.of rfl (hts _ zT_c1), List.forall_mem_cons.mpr ⟨va_Nw.of rfl (hts _ zT_c2), fun _ h => absurd h List.not_mem_nil⟩⟩⟩
  · exact List.forall_mem_cons.mpr ⟨va_Nw.of rfl (hts _ zT_d0), List.forall_mem_cons.mpr ⟨va_Nw.of rfl (hts _ zT_d1), List.forall_mem_cons.mpr ⟨va_Nw.of rfl (hts _ zT_d2), fun _ h => absurd h List.not_mem_nil⟩⟩⟩
  · exact ⟨vx_Zqof (hts _ zT_l0) (hts _ zT_i) (hfl _ (by decide +kernel)) (fun a ha => Nat.not_le.mpr ha), vx_Zqof (hts _ zT_l1) (hts _ zT_i) (hfl _ (by decide +kernel)) (fun a ha => Nat.not_le.mpr ha)⟩
variable {l : Launch} {z0 b Ln : Nat} {xs : Nat → Int32} {D : va_G} {cA : Nat → ClassId} {p : Program} {e : Env} {s : State} {m : MethodId} {below : List Frame} {meth : Method} {c : Code} {h0 : ZH}
def bS (K : ZK ZC) : ZK ZC := o_new 1088 10455 0 0 5 6 [.null, .null, .null, .null, .null, .null] (o_dup (o_ini 1088 10455 0 0 0 28 1170 (.inr (5, [.null, .null, .null, .null, .null, .null])) (cT zT0) (o_astore 1 (o_new 1088 10455 0 0 6 20 [.int 0, .null, .int 0, .int 0, .null, .null, .null, .null, .int 0, .null, .int 0, .null, .null, .null, .null, .null, .null, .int 0, .null, .null] (o_dup (o_ini 1088 10455 0 0 29 14 952 (.inr (6, [.int 0, .null, .int 0, .int 0, .null, .null, .null, .null, .int 0, .null, .int 0, .null, .null, .null, .null, .null, .null, .int 0, .null, .null])) (cM zM0) (o_astore 2 (o_ic 1 (o_newa 1088 10455 0 0 2 1 (1, .inr (.inl (fun _ => 0))) (o_astore 3 (o_ic 0 (o_istore 4 K))))))))))))
set_option maxRecDepth 20000 in
theorem sS {K : ZK ZC} (hlt : l.stackTraces = false) (C : zCx p l room_1 s m #[Value.ref b] meth c code 7 RL z0 D cA 0) (hK : Snd p l e room_1 s m #[Value.ref b] below meth c 7 z0 b (iC z0 b 0 0 h0 D cA s) (cC 0) (lw_Z below #[Value.ref b] s) 23 K) : Snd p l e room_1 s m #[Value.ref b] below meth c 7 z0 b (iC z0 b 0 0 h0 D cA s) (cC 0) (lw_Z below #[Value.ref b] s) 0 (bS K) := by
  obtain ⟨hx, hb, hml, hown, hts, -⟩ := id C
  unfold bS
  refine k_new C (ci := 5) (nf := 6) (Cn := RX5) (Tf := TX5) tyX5 tyX5_ok rfl zinX5 znL_8 zbX5 ziX5 (fs := [.null, .null, .null, .null, .null, .null]) (zfs rfl) dfsX5 dL_law_0 ?_
  refine k_dup hx hb dL_law_3 ?_
  refine k_ini C (nA := 0) (by rfl) (run_pub C (k := 0 + 0) (vX5i hlt) zlL_94 ziX5 zmX5_init zcX5_init rfl (by decide +kernel) ⟨Nat.le_of_ble_eq_true rfl, Nat.le_of_ble_eq_true rfl⟩ dL_law_4) ?_
  refine k_astore_n hx hb dL_law_7 rfl ?_
  refine k_new C (ci := 6) (nf := 20) (Cn := RX6) (Tf := TX6) tyX6 tyX6_ok rfl zinX6 znL_95 zbX6 ziX6 (fs := [.int 0, .null, .int 0, .int 0, .null, .null, .null, .null, .int 0, .null, .int 0, .null, .null, .null, .null, .null, .null, .int 0, .null, .null]) (zfs rfl) dfsX6 dL_law_8 ?_
  refine k_dup hx hb dL_law_11 ?_
  refine k_ini C (nA := 29) (by rfl) (run_pub C (k := 0 + 29) (vX6i hlt) zlL_97 ziX6 zmX6_init zcX6_init rfl (by decide +kernel) ⟨Nat.le_of_ble_eq_true rfl, Nat.le_of_ble_eq_true rfl⟩ dL_law_12) ?_
  refine k_astore_n hx hb dL_law_15 rfl ?_
  refine k_iconst hx hb dL_law_16 (by decide) ?_
  refine k_newa C (aty := .long) (ty := .long) (ti := 2) (n := 1) (a := (1, .inr (.inl (fun _ => 0)))) rfl za_long rfl (fun _ => rfl) (fun _ _ h => h) (by decide) (Nat.le_of_ble_eq_true rfl) dL_law_17 ?_
  refine k_astore_n hx hb dL_law_19 rfl ?_
  refine k_iconst hx hb dL_law_20 (by decide) ?_
  refine k_istore hx hb dL_law_21 ?_
  exact hK
theorem lt_sub5 {a i : Nat} (ha : a ≤ 2560) (hi : i ≤ 2560) : (nI a - 5 < nI i) ↔ a < i + 5 := by
  rw [Int32.lt_iff_toInt_lt, show (5 : Int32) = nI 5 from rfl, pk_sub_toInt (by omega) (by omega), nI_toInt (by omega)]
  omega
abbrev Lw23 (l : Launch) (b : Nat) (D : va_G) (cA : Nat → ClassId) (p : Program) (e : Env) (s : State) (m : MethodId) (below : List Frame) (meth : Method) (c : Code) (z0 pc : Nat) : ZK ZT := fun ls st t => AW p l e room_1 s m #[Value.ref b] below meth c 7 z0 b (iT9 z0 b 45 D cA s) cT9 (lw_Z below #[Value.ref b] s) pc ls st t
set_option maxRecDepth 20000 in
theorem law_loop (hlt : l.stackTraces = false) (C : zCx p l room_1 s m #[Value.ref b] meth c code 7 RL z0 D cA 0) (hr : meth.sig.returnType = ret) (hz9 : s.heap.size ≤ z0) (hX : va_X b Ln xs s s.heap) (hbl : b < s.heap.size) (hbz : ¬ z0 ≤ b) (hLn : Ln ≤ 2560) {f0 : ZH} : ∀ (f i j : Nat) (σ : zTS) (μ : zMS) (o : Nat → Int64), zRel σ μ → j ≤ i → 5 * i ≤ Ln → Ln < 5 * i + 5 * f + 5 → Lw23 l b D cA p e s m below meth c z0 23 (lsW (5 * i) none none) [] (zLw σ μ o f0, j) := by
  intro f
  induction f with
  | zero =>
    intro i j σ μ o hrel hj hi hf
    refine sH (K := Lw23 l b D cA p e s m below meth c z0 1685) hlt C hr hz9 hX hbl hbz (fun _ _ _ h => h) _ _ _ ⟨fun _ => ⟨rfl, (by omega : j ≤ 512)⟩, fun hge => ?_⟩
    exact absurd ((lt_sub5 hLn (by omega)).mpr (by omega)) hge
  | succ f ih =>
    intro i j σ μ o hrel hj hi hf
    refine sH (K := Lw23 l b D cA p e s m below meth c z0 1685) hlt C hr hz9 hX hbl hbz (fun _ _ _ h => h) _ _ _ ⟨fun _ => ⟨rfl, (by omega : j ≤ 512)⟩, fun hge => ?_⟩
    have hi5 : 5 * i + 5 ≤ Ln := by
      refine Nat.le_of_not_lt fun q => hge ((lt_sub5 hLn (by omega)).mpr (by omega))
    have hK : ∀ (σ' : zTS) (μ' : zMS) (o' : Nat → Int64) (x5 x6 : Option Value) (j' : Nat), zRel σ' μ' → j' ≤ j + 1 → Lw23 l b D cA p e s m below meth c z0 1685 (lsW (5 * i) x5 x6) [] (zLw σ' μ' o' f0, j') := by
      intro σ' μ' o' x5 x6 j' hrel' hj'
      refine sI (K := Lw23 l b D cA p e s m below meth c z0 23) hlt C hr hz9 hX hbl hbz (fun _ _ _ h => h) _ _ _ ?_
      show Lw23 l b D cA p e s m below meth c z0 23 [some (.retAddr 0), some (.ref 0), some (.ref 29), some (.ref 44), some (.int (nI (5 * i) + 5)), x5, x6] [] (zLw σ' μ' o' f0, j')
      rw [show (5 : Int32) = nI 5 from rfl, nI_add]
      refine AW_weak (ih (i + 1) j' σ' μ' o' hrel' (by omega) (by omega) (by omega)) rfl (fun k v hk => ?_)
      match k, hk with
      | 0, hk => exact hk
      | 1, hk => exact hk
      | 2, hk => exact hk
      | 3, hk => exact hk
      | 4, hk => exact hk
      | 5, hk => cases hk
      | 6, hk => cases hk
      | k + 7, hk => cases hk
    refine ⟨vp_in_nI (by omega) (by omega), ?_⟩
    refine ⟨fun k K9 h1 h2 => ?_, fun _ => hK σ μ o none none j hrel (by omega)⟩
    clear h2
    match k, h1 with
    | 0, h1 => cases h1; exact qw0 hrel hi5 hLn (by omega) hK
    | 1, h1 => cases h1; exact qw1 hrel hi5 hLn (by omega) hK
    | 2, h1 => cases h1; exact qw2 hrel hi5 hLn (by omega) hK
    | 3, h1 => cases h1; exact qw3 hrel hi5 hLn (by omega) hK
    | 4, h1 => cases h1; exact qw4 hrel hi5 hLn (by omega) hK
    | 5, h1 => cases h1; exact qw5 hrel hi5 hLn (by omega) hK
    | 6, h1 => cases h1; exact qw6 hrel hi5 hLn (by omega) hK
    | 7, h1 => cases h1; exact qw7 hrel hi5 hLn (by omega) hK
    | 8, h1 => cases h1; exact qw8 hrel hi5 hLn (by omega) hK
    | 9, h1 => cases h1; exact qw9 hrel hi5 hLn (by omega) hK
    | 10, h1 => cases h1; exact qw10 hrel hi5 hLn (by omega) hK
    | 11, h1 => cases h1; exact qw11 hrel hi5 hLn (by omega) hK
    | 12, h1 => cases h1; exact qw12 hrel hi5 hLn (by omega) hK
    | 13, h1 => cases h1; exact qw13 hrel hi5 hLn (by omega) hK
    | 14, h1 => cases h1; exact qw14 hrel hi5 hLn (by omega) hK
    | 15, h1 => cases h1; exact qw15 hrel hi5 hLn (by omega) hK
    | 16, h1 => cases h1; exact qw16 hrel hi5 hLn (by omega) hK
    | 17, h1 => cases h1; exact qw17 hrel hi5 hLn (by omega) hK
    | 18, h1 => cases h1; exact qw18 hrel hi5 hLn (by omega) hK
    | 19, h1 => cases h1; exact qw19 hrel hi5 hLn (by omega) hK
    | 20, h1 => cases h1; exact qw20 hrel hi5 hLn (by omega) hK
    | 21, h1 => cases h1; exact qw21 hrel hi5 hLn (by omega) hK
    | 22, h1 => cases h1; exact qw22 hrel hi5 hLn (by omega) hK
    | 23, h1 => cases h1; exact qw23 hrel hi5 hLn (by omega) hK
    | 24, h1 => cases h1; exact qw24 hrel hi5 hLn (by omega) hK
    | 25, h1 => cases h1; exact qw25 hrel hi5 hLn (by omega) hK
    | k + 26, h1 => exact absurd h1 (by simp)
theorem zLw_0s : zB 0 ((cT zT0 ++ cM zM0) ++ [.inl (2, 1, .inr (.inl (fun _ => 0)))]) h0 = zLw zT0 zM0 (fun _ => 0) h0 := by
  rw [zLw_out, pT_pM]
  have h1 : pM zM0 (pT zT0 h0) = zB 0 (cT zT0 ++ cM zM0) h0 := by
    have h := zB_app (bs := 0) (A := cT zT0) (B := cM zM0) (f := h0)
    exact h
  rw [h1]
  have h := zB_app (bs := 0) (A := cT zT0 ++ cM zM0) (B := [.inl (2, 1, .inr (.inl (fun _ => 0)))]) (f := h0)
  exact h.symm
set_option maxRecDepth 20000 in
set_option maxHeartbeats 4000000 in
/-- the law from its entry -/
theorem whole_start {p : Program} {e : Env} {s : State} {m : MethodId} {below : List Frame} {meth : Method} {c : Code} (l : Launch) (hflags : l.flags = flags0) {b L : Nat} {xs : Nat → Int32} (hL : L ≤ 2560) (C0 : lw_At p s m meth c b L xs) : W p l e room_1 s m #[Value.ref b] below meth c s.heap [] 0 0 (lw_Z below #[Value.ref b] s) (entryFrame m ([Value.ref b] : List Value).toArray 7) := by
  obtain ⟨hx, hb, hr, hml, hown, hts, hX, hbl, hlocks, hgv⟩ := id C0
  have hlt : l.stackTraces = false := by
    unfold Launch.stackTraces
    rw [hflags]
    decide
  obtain ⟨D, cA, hG, hZ⟩ := zG_of hts hgv
  have C : zCx p l room_1 s m #[Value.ref b] meth c code 7 RL s.heap.size D cA 0 := ⟨hx, hb, hml, hown, fun w hw => hts w (List.mem_filter.mp hw).1, hG, hZ, Nat.le_refl _, hlocks, hlt, Nat.zero_le _, Nat.zero_le _⟩
  have hbz : ¬ s.heap.size ≤ b := Nat.not_le.mpr hbl
  have hloop := law_loop (below := below) (e := e) hlt C hr (Nat.le_refl _) hX hbl hbz hL (f0 := fun _ => zdum) L 0 0 zT0 zM0 (fun _ => 0) rel_0 (Nat.le_refl _) (Nat.zero_le _) (by omega)
  have h23 : AW p l e room_1 s m #[Value.ref b] below meth c 7 s.heap.size b (iC s.heap.size b 0 0 (fun _ => zdum) D cA s) (cC 0) (lw_Z below #[Value.ref b] s) 23 [some (.retAddr 0), some (.ref 0), some (.ref 29), some (.ref 44), some (.int 0), none, none] [] ((cT zT0 ++ cM zM0) ++ [.inl (2, 1, .inr (.inl (fun _ => 0)))], 2149) := by
    intro H locs Ls hI hLs
    obtain ⟨hI, -⟩ := hI
    have hI : zI s.heap.size b 45 D cA s (zB 0 ((cT zT0 ++ cM zM0) ++ [.inl (2, 1, .inr (.inl (fun _ => 0)))]) (fun _ => zdum)) H locs := hI
    rw [zLw_0s] at hI
    exact hloop H locs Ls hI hLs
  have h0 : AW p l e room_1 s m #[Value.ref b] below meth c 7 s.heap.size b (iC s.heap.size b 0 0 (fun _ => zdum) D cA s) (cC 0) (lw_Z below #[Value.ref b] s) 0 (zE 7 [.retAddr 0]) [] ([], 0) := by
    refine sS (K := fun ls st t => AW p l e room_1 s m #[Value.ref b] below meth c 7 s.heap.size b (iC s.heap.size b 0 0 (fun _ => zdum) D cA s) (cC 0) (lw_Z below #[Value.ref b] s) 23 ls st t) hlt C (fun _ _ _ h => h) _ _ _ ?_
    refine ⟨Nat.le_of_ble_eq_true rfl, Nat.le_of_ble_eq_true rfl, rfl, Nat.le_of_ble_eq_true rfl, rfl, Nat.le_refl _, Nat.le_of_ble_eq_true rfl, Nat.le_of_ble_eq_true rfl, [], rfl, rfl, ?_⟩
    refine ⟨(by decide : 1 < 7), Nat.le_of_ble_eq_true rfl, Nat.le_of_ble_eq_true rfl, rfl, Nat.le_of_ble_eq_true rfl, rfl, Nat.zero_le _, Nat.le_of_ble_eq_true rfl, Nat.le_of_ble_eq_true rfl, cT zT0, rfl, rfl, ?_⟩
    refine ⟨(by decide : 2 < 7), rfl, Nat.le_of_ble_eq_true rfl, Nat.le_of_ble_eq_true rfl, (by decide : 3 < 7), (by decide : 4 < 7), ?_⟩
    exact h23
  have hW := h0 s.heap [] _ ⟨⟨fun k q hk => by
    have hk : (zWd s.heap.size b 0 cA (zB 0 [] (fun _ => zdum)))[k]? = some q := hk
    exact absurd (zWd_at.mp hk).1 (by omega), va_S.rf, fun k _ => by rw [zB_nil]⟩, rfl, Nat.le_refl _⟩ (zE_ok (a := [.retAddr 0]) (by simp [Value.category]) (by decide))
  rw [lg_entry_eq]
  exact hW
end ST
