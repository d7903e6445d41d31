theorem zbX5 : Cond.instantiable RX5 6 ∈ zWS := zws_mem 34 (by decide +kernel) rfl
theorem znL_9 : Cond.classLink RL 9 RX5 ∈ zWS := zws_mem 33 (by decide +kernel) rfl
theorem zlL_123 : Cond.methodLink RL 123 yX5_init ∈ zWS := zws_mem 35 (by decide +kernel) rfl
theorem zT_n0 : Cond.methodLinkNest "TagRoot" 9 ⟨"TagRoot$Names", "<init>", "()V"⟩ "TagRoot" ∈ lw_tbl := List.mem_of_getElem? (i := 43) (by decide +kernel)
theorem zT_n1 : Cond.methodLinkNest "TagRoot" 18 ⟨"TagRoot$Rules", "<init>", "()V"⟩ "TagRoot" ∈ lw_tbl := List.mem_of_getElem? (i := 70) (by decide +kernel)
theorem zT_n2 : Cond.methodLinkNest "TagRoot" 28 ⟨"TagRoot$Requests", "<init>", "()V"⟩ "TagRoot" ∈ lw_tbl := List.mem_of_getElem? (i := 95) (by decide +kernel)
theorem zT_n3 : Cond.methodLinkNest "TagRoot" 35 ⟨"TagRoot$Hands", "<init>", "()V"⟩ "TagRoot" ∈ lw_tbl := List.mem_of_getElem? (i := 125) (by decide +kernel)
theorem zT_n4 : Cond.methodLinkNest "TagRoot" 42 ⟨"TagRoot$Rows", "<init>", "()V"⟩ "TagRoot" ∈ lw_tbl := List.mem_of_getElem? (i := 159) (by decide +kernel)
theorem zT_n5 : Cond.methodLinkNest "TagRoot$Rules" 35 ⟨"TagRoot", "has", "(II)Z"⟩ "TagRoot" ∈ lw_tbl := List.mem_of_getElem? (i := 342) (by decide +kernel)
theorem zT_n6 : Cond.methodLinkNest "TagRoot$Rows" 31 ⟨"TagRoot", "has", "(II)Z"⟩ "TagRoot" ∈ lw_tbl := List.mem_of_getElem? (i := 349) (by decide +kernel)
theorem zT_n7 : Cond.methodLinkNest "TagRoot$Hands" 50 ⟨"TagRoot", "has", "(II)Z"⟩ "TagRoot" ∈ lw_tbl := List.mem_of_getElem? (i := 388) (by decide +kernel)
theorem zT_s0 : Cond.stringRef "TagRoot" 109 "there are no more things to be had" ∈ lw_tbl := List.mem_of_getElem? (i := 253) (by decide +kernel)
theorem zT_s1 : Cond.stringRef "TagRoot" 231 "no such thing" ∈ lw_tbl := List.mem_of_getElem? (i := 297) (by decide +kernel)
theorem zT_s2 : Cond.stringRef "TagRoot" 229 "no such tag" ∈ lw_tbl := List.mem_of_getElem? (i := 308) (by decide +kernel)
theorem zT_s3 : Cond.stringRef "TagRoot" 123 "no such kind of edit" ∈ lw_tbl := List.mem_of_getElem? (i := 367) (by decide +kernel)
theorem zT_s4 : Cond.stringRef "TagRoot" 146 "no change is kept" ∈ lw_tbl := List.mem_of_getElem? (i := 383) (by decide +kernel)
theorem zT_s5 : Cond.stringRef "TagRoot" 155 "no such kind of request" ∈ lw_tbl := List.mem_of_getElem? (i := 393) (by decide +kernel)
theorem zT_s6 : Cond.stringRef "TagRoot" 157 "a rule leads to another tag" ∈ lw_tbl := List.mem_of_getElem? (i := 394) (by decide +kernel)
theorem zT_s7 : Cond.stringRef "TagRoot" 160 "there are no more requests to be had" ∈ lw_tbl := List.mem_of_getElem? (i := 395) (by decide +kernel)
theorem zT_s8 : Cond.stringRef "TagRoot" 233 "no such request" ∈ lw_tbl := List.mem_of_getElem? (i := 408) (by decide +kernel)
theorem zT_s9 : Cond.stringRef "TagRoot" 169 "no such voter" ∈ lw_tbl := List.mem_of_getElem? (i := 409) (by decide +kernel)
theorem zT_s10 : Cond.stringRef "TagRoot" 174 "the request is not open" ∈ lw_tbl := List.mem_of_getElem? (i := 410) (by decide +kernel)
theorem zT_s11 : Cond.stringRef "TagRoot" 71 "the draft is empty" ∈ lw_tbl := List.mem_of_getElem? (i := 463) (by decide +kernel)
theorem zT_s12 : Cond.stringRef "TagRoot" 80 "there are no more tags to be had" ∈ lw_tbl := List.mem_of_getElem? (i := 479) (by decide +kernel)
theorem zT_s13 : Cond.stringRef "TagRoot" 53 "no character of names" ∈ lw_tbl := List.mem_of_getElem? (i := 503) (by decide +kernel)
theorem zT_s14 : Cond.stringRef "TagRoot" 64 "the draft is full" ∈ lw_tbl := List.mem_of_getElem? (i := 504) (by decide +kernel)
theorem zT_s15 : Cond.stringRef "TagRoot" 101 "no such character" ∈ lw_tbl := List.mem_of_getElem? (i := 533) (by decide +kernel)
theorem zT_s16 : Cond.stringRef "TagRoot" 238 "no set of tags" ∈ lw_tbl := List.mem_of_getElem? (i := 623) (by decide +kernel)
theorem zT_s17 : Cond.stringRef "TagRoot" 222 "no place is below 0" ∈ lw_tbl := List.mem_of_getElem? (i := 635) (by decide +kernel)
theorem zT_s18 : Cond.stringRef "TagRoot" 227 "no such place" ∈ lw_tbl := List.mem_of_getElem? (i := 639) (by decide +kernel)
theorem zT_c0 : Cond.castable "java/lang/IllegalArgumentException" "java/lang/IllegalArgumentException" ∈ lw_tbl := List.mem_of_getElem? (i := 360) (by decide +kernel)
theorem zT_c1 : Cond.castable "java/lang/IllegalStateException" "java/lang/IllegalStateException" ∈ lw_tbl := List.mem_of_getElem? (i := 214) (by decide +kernel)
theorem zT_c2 : Cond.castable "java/lang/IndexOutOfBoundsException" "java/lang/IndexOutOfBoundsException" ∈ lw_tbl := List.mem_of_getElem? (i := 290) (by decide +kernel)
theorem zT_d0 : Cond.declares (Bundle.initS "java/lang/RuntimeException") ∈ lw_tbl := List.mem_of_getElem? (i := 216) (by decide +kernel)
theorem zT_d1 : Cond.declares (Bundle.initS "java/lang/Exception") ∈ lw_tbl := List.mem_of_getElem? (i := 218) (by decide +kernel)
theorem zT_d2 : Cond.declares (Bundle.initS "java/lang/Throwable") ∈ lw_tbl := List.mem_of_getElem? (i := 220) (by decide +kernel)
theorem zT_l0 : Cond.laysStatic Bundle.tN "UNASSIGNED_STACK" Bundle.steD ∈ lw_tbl := List.mem_of_getElem? (i := 239) (by decide +kernel)
theorem zT_l1 : Cond.laysStatic Bundle.tN "SUPPRESSED_SENTINEL" Bundle.listD ∈ lw_tbl := List.mem_of_getElem? (i := 241) (by decide +kernel)
theorem zT_i : Cond.initialized Bundle.tN ∈ lw_tbl := List.mem_of_getElem? (i := 25) (by decide +kernel)
section ST
theorem zstr_of {args : Array Value} {s : State} {own tx : String} {k : Nat} {cur : ClassId} (hcur : s.vm.findClass own = some cur) (h : (Cond.stringRef own k tx).before args s = true) : ∃ sa, vk_R own k tx sa s := by
  obtain ⟨-, -, -, a, -, -, -, -, -, hev⟩ := Cond.stringRef_spec hcur h
  exact ⟨a, vk_R.of h hev⟩
theorem zarr_of {args : Array Value} {s : State} {ty : FieldType} (hra : ∀ k (U : State), U.vm.findClass ("[" ++ ty.toString) = some k → va_RA U k ty) (h : (Cond.arrayClass ty).before args s = true) : ∃ c : ClassId, ArrOfT s c ty ∧ va_RA s c ty := by
  obtain ⟨c, kA, comp, h1, h2, h3⟩ := Cond.arrayClass_spec h
  exact ⟨c, fun n z => ⟨fun k h => (by cases h), kA, h2, comp, h3⟩, hra _ _ h1⟩
/-- what the launch gives -/
theorem zG_of {s : State} {b : Nat} (hts : ∀ w ∈ lw_tbl, w.before #[Value.ref b] s = true) (hgv : (Jvm.Cond.and given_1 narrow_1).before #[Value.ref b] s = true) : ∃ (D : va_G) (cA : Nat → ClassId), zG D cA s ∧ zZ s.heap.size s s.heap := by
  have hws : ∀ w ∈ zWS, w.before #[Value.ref b] s = true := fun w hw => hts w (List.mem_filter.mp hw).1
  have hfl := flat_of_before _ hgv
  obtain ⟨c0, i0, hKn0⟩ := u_known (C := RX0) (T := TX0) (N := 7) (n := 7) hws zinX0 (hws _ zbX0)
  obtain ⟨c1, i1, hKn1⟩ := u_known (C := RX1) (T := TX1) (N := 5) (n := 5) hws zinX1 (hws _ zbX1)
  obtain ⟨c2, i2, hKn2⟩ := u_known (C := RX2) (T := TX2) (N := 7) (n := 7) hws zinX2 (hws _ zbX2)
  obtain ⟨c3, i3, hKn3⟩ := u_known (C := RX3) (T := TX3) (N := 1) (n := 1) hws zinX3 (hws _ zbX3)
  obtain ⟨c4, i4, hKn4⟩ := u_known (C := RX4) (T := TX4) (N := 5) (n := 5) hws zinX4 (hws _ zbX4)
  obtain ⟨c5, i5, hKn5⟩ := u_known (C := RX5) (T := TX5) (N := 6) (n := 6) hws zinX5 (hws _ zbX5)
  obtain ⟨dC, dI, hKc⟩ : ∃ (dC : Nat → ClassId) (dI : Nat → Nat → Nat), ∀ (k : Nat) (q : vw_C), vwCl[k]? = some q → u_Kn s q.1 q.2.1 q.2.2 (dC k) (dI k) := by
    refine ⟨fun k => match k with
      | 0 => c0 | 1 => c1 | 2 => c2 | 3 => c3 | 4 => c4 | _ => c5, fun k => match k with
      | 0 => i0 | 1 => i1 | 2 => i2 | 3 => i3 | 4 => i4 | _ => i5, ?_⟩
    intro k q hq
    match k, hq with
    | 0, hq => cases hq; exact hKn0
    | 1, hq => cases hq; exact hKn1
    | 2, hq => cases hq; exact hKn2
    | 3, hq => cases hq; exact hKn3
    | 4, hq => cases hq; exact hKn4
    | 5, hq => cases hq; exact hKn5
    | k + 6, hq => simp [vwCl] at hq
  obtain ⟨a0, hA0⟩ := zarr_of (ty := .int) (fun _ _ h => h) (hws _ za_int)
  obtain ⟨a1, hA1⟩ := zarr_of (ty := .char) (fun _ _ h => h) (hws _ za_char)
  have hTR : s.vm.findClass "TagRoot" = some c5 := hKn5.2.1
  refine ⟨(dC, dI), fun k => match k with
    | 0 => a0 | _ => a1, ⟨⟨hKc, ?_⟩, ?_, ?_, ?_, ?_, ?_⟩, ?_⟩
  · intro k q hq
    match k, hq with
    | 0, hq => cases hq; exact hA0
    | 1, hq => cases hq; exact hA1
    | k + 2, hq => simp at hq
  · exact List.forall_mem_cons.mpr ⟨va_Nw.of rfl (hts _ zT_n0), List.forall_mem_cons.mpr ⟨va_Nw.of rfl (hts _ zT_n1), List.forall_mem_cons.mpr ⟨va_Nw.of rfl (hts _ zT_n2), List.forall_mem_cons.mpr ⟨va_Nw.of rfl (hts _ zT_n3), List.forall_mem_cons.mpr ⟨va_Nw.of rfl (hts _ zT_n4), List.forall_mem_cons.mpr ⟨va_Nw.of rfl (hts _ zT_n5), List.forall_mem_cons.mpr ⟨va_Nw.of rfl (hts _ zT_n6), List.forall_mem_cons.mpr ⟨va_Nw.of rfl (hts _ zT_n7), fun _ h => absurd h List.not_mem_nil⟩⟩⟩⟩⟩⟩⟩⟩
  · exact List.forall_mem_cons.mpr ⟨zstr_of hTR (hts _ zT_s0), List.forall_mem_cons.mpr ⟨zstr_of hTR (hts _ zT_s1), List.forall_mem_cons.mpr ⟨zstr_of hTR (hts _ zT_s2), List.forall_mem_cons.mpr ⟨zstr_of hTR (hts _ zT_s3), List.forall_mem_cons.mpr ⟨zstr_of hTR (hts _ zT_s4), List.forall_mem_cons.mpr ⟨zstr_of hTR (hts _ zT_s5), List.forall_mem_cons.mpr ⟨zstr_of hTR (hts _ zT_s6), List.forall_mem_cons.mpr ⟨zstr_of hTR (hts _ zT_s7), List.forall_mem_cons.mpr ⟨zstr_of hTR (hts _ zT_s8), List.forall_mem_cons.mpr ⟨zstr_of hTR (hts _ zT_s9), List.forall_mem_cons.mpr ⟨zstr_of hTR (hts _ zT_s10), List.forall_mem_cons.mpr ⟨zstr_of hTR (hts _ zT_s11), List.forall_mem_cons.mpr ⟨zstr_of hTR (hts _ zT_s12), List.forall_mem_cons.mpr ⟨zstr_of hTR (hts _ zT_s13), List.forall_mem_cons.mpr ⟨zstr_of hTR (hts _ zT_s14), List.forall_mem_cons.mpr ⟨zstr_of hTR (hts _ zT_s15), List.forall_mem_cons.mpr ⟨zstr_of hTR (hts _ zT_s16), List.forall_mem_cons.mpr ⟨zstr_of hTR (hts _ zT_s17), List.forall_mem_cons.mpr ⟨zstr_of hTR (hts _ zT_s18), fun _ h => absurd h List.not_mem_nil⟩⟩⟩⟩⟩⟩⟩⟩⟩⟩⟩⟩⟩⟩⟩⟩⟩⟩⟩
  · exact List.forall_mem_cons.mpr ⟨va_Nc.of (hfl _ (by decide +kernel)), List.forall_mem_cons.mpr ⟨va_Nc.of (hfl _ (by decide +kernel)), List.forall_mem_cons.mpr ⟨va_Nc.of (hfl _ (by decide +kernel)), fun _ h => absurd h List.not_mem_nil⟩⟩⟩
  · exact List.forall_mem_cons.mpr ⟨va_Nw.of rfl (hts _ zT_c0), List.forall_mem_cons.mpr ⟨va_Nw.of rfl (hts _ zT_c1), List.forall_mem_cons.mpr ⟨va_Nw.of rfl (hts _ zT_c2), fun _ h => absurd h List.not_mem_nil⟩⟩⟩
  · exact List.forall_mem_cons.mpr ⟨va_Nw.of rfl (hts _ zT_d0), List.forall_mem_cons.mpr ⟨va_Nw.of rfl (hts _ zT_d1), List.forall_mem_cons.mpr ⟨va_Nw.of rfl (hts _ zT_d2), fun _ h => absurd h List.not_mem_nil⟩⟩⟩
  · exact ⟨vx_Zqof (hts _ zT_l0) (hts _ zT_i) (hfl _ (by decide +kernel)) (fun a ha => Nat.not_le.mpr ha), vx_Zqof (hts _ zT_l1) (hts _ zT_i) (hfl _ (by decide +kernel)) (fun a ha => Nat.not_le.mpr ha)⟩
variable {l : Launch} {z0 b Ln : Nat} {xs : Nat → Int32} {D : va_G} {cA : Nat → ClassId} {p : Program} {e : Env} {s : State} {m : MethodId} {below : List Frame} {meth : Method} {c : Code} {Q : State → Prop}
abbrev xT5 : va_E := .inr (5, [.null, .null, .null, .null, .null, .null])
/-- the second object's making: its cells are counted from a place of their own -/
def o_in2 (K : ZK QQ) : ZK ZC := fun ls st t => match st with
  | .ref a :: r => r.length ≤ 4 ∧ a = 29 ∧ t = (cT zT0 ++ [xT5], 1182) ∧ K ls r (zM0, zM0, 0, 0)
  | _ => False
theorem k_in2 (hlt : l.stackTraces = false) (C : zCx p l rmL s m #[Value.ref b] meth c cL_law 7 RL z0 D cA 0) {pc : Nat} {K : ZK QQ} (d : decode cL_law pc = .ok (.invokespecial 123, 3)) (hK : Snd p l e rmL s m #[Value.ref b] below meth c 7 z0 b (I2 z0 b D cA 58 s) (c2 58 2352) Q (pc + 3) K) : Snd p l e rmL s m #[Value.ref b] below meth c 7 z0 b (iC z0 b 0 0 (fun _ => zdum) D cA s) (cC 0) Q pc (o_in2 K) := by
  intro ls st t hq H locs L hI hL T hT X
  have hsz := iC_size hI hT X
  obtain ⟨hx, hb, hml, hown, hts, hg, hz, hz0, -⟩ := C
  obtain ⟨⟨hP, hS, hdum⟩, hs0, hj⟩ := hI
  unfold o_in2 at hq
  split at hq
  · next a r =>
    obtain ⟨hr4, rfl, rfl, hq⟩ := hq
    have hlen : 0 + (cT zT0 ++ [xT5]).length = 30 := rfl
    have hP : va_P D vwCl (zWd z0 b 30 cA (zB 0 (cT zT0 ++ [xT5]) (fun _ => zdum))) H := hP
    have hsz : H.size = z0 + 30 := hsz
    have hG : GoodIn zWS (Cond.code yX5_init cX5_init 1 none :: zWS) := zGood (fun w hw => by
      rcases List.mem_cons.mp hw with rfl | hw
      · exact zcX5_init
      · exact hw)
    have hlo : ∀ k, k < 29 → zB 0 (cT zT0 ++ [xT5]) (fun _ => zdum) k = pT zT0 (fun _ => zdum) k := by
      intro k hk
      have h := zB_app (bs := 0) (A := cT zT0) (B := [xT5]) (f := fun _ => zdum)
      rw [← h]
      unfold zB pT zB
      have hl : (cT zT0).length = 29 := rfl
      have hl1 : ([xT5] : List va_E).length = 1 := rfl
      rw [if_neg (by omega)]
    have hhi : zB 0 (cT zT0 ++ [xT5]) (fun _ => zdum) 29 = xT5 := rfl
    have hPo : va_P D vwCl (zWd z0 b 29 cA (pT zT0 (fun _ => zdum))) H := hP.by (fun i => i) (fun k q hk => by
      obtain ⟨hk1, rfl⟩ := zWd_at.mp hk
      rw [zWd_get (by omega), hlo k hk1])
    have hPn : va_P D vwCl (zWd (z0 + 29) b (0 + 1) cA (zB 0 [xT5] (fun _ => zdum))) H := hP.by (fun i => 29 + i) (fun k q hk => by
      obtain ⟨hk1, rfl⟩ := zWd_at.mp hk
      have hk0 : k = 0 := by omega
      subst hk0
      rw [zWd_get (k := 29 + 0) (by omega), show 29 + 0 = 29 from rfl, hhi]
      rfl)
    have hpre : PreS s H (PcC (z0 + 29) b D cA 0 xT5 (fun _ => zdum)) [.ref (z0 + 29 + 0)] := ⟨PcC.blind, fun U hU hW => by
      have hZ : zZ z0 U U.heap := hz.on hW (by rw [hU]; exact hS.2.1)
      refine ⟨rfl, ⟨by rw [hU]; omega, hg.warm hW, ⟨hZ.1.narrow (fun q hq => by omega), hZ.2.narrow (fun q hq => by omega)⟩, by rw [hU]; exact hPn, fun k hk => ?_⟩, by rw [hU]; omega⟩
      exact zB_out (Or.inr (by show 0 + ([xT5] : List va_E).length ≤ k; exact hk))⟩
    have hrun := va_runI (g := F0 m pc L (.ref (z0 + 29 + 0) :: r.map (zc z0 b))) (H := H) (locs := locs) (cells := 30) (slots := 1182) (e := e) (below := below) (meth := meth) (R := rmL) (As := []) ⟨hx, hb, hml, hown, hts⟩ (vX5i (z0 := z0 + 29) (b := b) (D := D) (cA := cA) hlt (fun _ => zdum)) (cwI 0 hts hG rfl rfl rfl (hts _ ziX5) (hts _ zlL_123) (hts _ zmX5_init) rfl (by decide +kernel) ⟨Nat.le_of_ble_eq_true rfl, Nat.le_of_ble_eq_true rfl⟩) hpre rfl rfl hL.1.1 rfl (lv_room (zrest r hr4)) d ⟨Nat.le_of_ble_eq_true rfl, Nat.le_of_ble_eq_true rfl⟩
    obtain ⟨v, st₀, t2, T', Lc, g0, X', hLc, e1, e2, hqn, st⟩ := hrun T hT X
    obtain ⟨⟨v', h', hv, ⟨rfl, rfl⟩, hP', hd'⟩, hF⟩ := hqn
    cases hv
    obtain ⟨k1, k2, k3⟩ := vx_keep g0 e1 hS (fun q _ h => by omega) (fun q h => by omega) hLc hF
    have hP' : va_P D vwCl (zWd (z0 + 29) b 29 cA (pT zT0 (fun _ => zdum))) T'.heap := by rw [e1]; exact hP'
    have hback : va_P D vwCl (zWd z0 b 29 cA (pT zT0 (fun _ => zdum))) T'.heap := hPo.kept (fun i q hi => by
      refine k2 q.1 (hPo i q hi).lt ?_
      obtain ⟨h1, rfl⟩ := zWd_at.mp hi
      show ¬ z0 + 29 ≤ z0 + i
      omega)
    have hgr : z0 + 58 ≤ T'.heap.size := by
      have h9 := (hP' 28 _ (zWd_get (by omega))).lt
      have h9 : z0 + 29 + 28 < T'.heap.size := h9
      omega
    have hW := hK _ r (zM0, zM0, 0, 0) hq T'.heap (locs ++ Lc) L ⟨⟨zT0, zT0, rel_0, rel_0, zTw_P.mpr ⟨hback, hP'⟩⟩, k3, by show s.heap.size + 58 + 0 ≤ T'.heap.size; omega⟩ hL
    obtain ⟨t9, a1, b1⟩ := hW T' rfl X'
    exact ⟨t9, st t9 a1, b1⟩
  · exact hq.elim
def bS (K : ZK QQ) : ZK ZC := o_new 20058 122352 0 0 5 6 [.null, .null, .null, .null, .null, .null] (o_dup (o_ini 20058 122352 0 0 0 28 1170 xT5 (cT zT0) (o_astore 1 (o_new 20058 122352 0 0 5 6 [.null, .null, .null, .null, .null, .null] (o_dup (o_in2 (o_astore 2 K)))))))
set_option maxRecDepth 20000 in
theorem sS {K : ZK QQ} (hlt : l.stackTraces = false) (C : zCx p l rmL s m #[Value.ref b] meth c cL_law 7 RL z0 D cA 0) (hK : Snd p l e rmL s m #[Value.ref b] below meth c 7 z0 b (I2 z0 b D cA 58 s) (c2 58 2352) Q 16 K) : Snd p l e rmL s m #[Value.ref b] below meth c 7 z0 b (iC z0 b 0 0 (fun _ => zdum) D cA s) (cC 0) Q 0 (bS K) := by
  obtain ⟨hx, hb, hml, hown, hts, -⟩ := id C
  unfold bS
  refine k_new C (ci := 5) (nf := 6) (Cn := RX5) (Tf := TX5) tyX5 tyX5_ok rfl zinX5 znL_9 zbX5 ziX5 (fs := [.null, .null, .null, .null, .null, .null]) (zfs rfl) dfsX5 dL_law_0 ?_
  refine k_dup hx hb dL_law_3 ?_
  refine k_ini C (nA := 0) (by rfl) (run_pub C (k := 0 + 0) (vX5i hlt) zlL_123 ziX5 zmX5_init zcX5_init rfl (by decide +kernel) ⟨Nat.le_of_ble_eq_true rfl, Nat.le_of_ble_eq_true rfl⟩ dL_law_4) ?_
  refine k_astore_n hx hb dL_law_7 rfl ?_
  refine k_new C (ci := 5) (nf := 6) (Cn := RX5) (Tf := TX5) tyX5 tyX5_ok rfl zinX5 znL_9 zbX5 ziX5 (fs := [.null, .null, .null, .null, .null, .null]) (zfs rfl) dfsX5 dL_law_8 ?_
  refine k_dup hx hb dL_law_11 ?_
  refine k_in2 hlt C dL_law_12 ?_
  refine k_astore_n hx hb dL_law_15 rfl ?_
  exact hK
set_option maxRecDepth 20000 in
set_option maxHeartbeats 4000000 in
/-- the law from its entry -/
theorem law_start (hlt : l.stackTraces = false) (C : zCx p l rmL s m #[Value.ref b] meth c cL_law 7 RL s.heap.size D cA 0) (hr : meth.sig.returnType = ret) (hX : va_X b Ln xs s s.heap) (hLn : Ln < 2 ^ 31) (hbl : b < s.heap.size) : W p l e rmL s m #[Value.ref b] below meth c s.heap [] 0 0 (lwZ below s) (entryFrame m ([Value.ref b] : List Value).toArray 7) := by
  have hbz : ¬ s.heap.size ≤ b := Nat.not_le.mpr hbl
  have h16 := law_body (below := below) (e := e) hlt C hr hX hLn hbl hbz
  have h0 : AW p l e rmL s m #[Value.ref b] below meth c 7 s.heap.size b (iC s.heap.size b 0 0 (fun _ => zdum) D cA s) (cC 0) (lwZ below s) 0 (zE 7 [.retAddr 0]) [] ([], 0) := by
    refine sS (K := fun ls st t => AW p l e rmL s m #[Value.ref b] below meth c 7 s.heap.size b (I2 s.heap.size b D cA 58 s) (c2 58 2352) (lwZ below s) 16 ls st t) hlt C (fun _ _ _ h => h) _ _ _ ?_
    refine ⟨Nat.le_of_ble_eq_true rfl, Nat.le_of_ble_eq_true rfl, rfl, Nat.le_of_ble_eq_true rfl, rfl, Nat.le_refl _, Nat.le_of_ble_eq_true rfl, Nat.le_of_ble_eq_true rfl, [], rfl, rfl, ?_⟩
    refine ⟨(by decide : 1 < 7), Nat.le_of_ble_eq_true rfl, Nat.le_of_ble_eq_true rfl, rfl, Nat.le_of_ble_eq_true rfl, rfl, rfl, ?_⟩
    exact ⟨(by decide : 2 < 7), h16⟩
  have hW := h0 s.heap [] _ ⟨⟨fun k q hk => by
    have hk : (zWd s.heap.size b 0 cA (zB 0 [] (fun _ => zdum)))[k]? = some q := hk
    exact absurd (zWd_at.mp hk).1 (by omega), va_S.rf, fun k _ => by rw [zB_nil]⟩, rfl, Nat.le_refl _⟩ (zE_ok (a := [.retAddr 0]) (by simp [Value.category]) (by decide))
  rw [lg_entry_eq]
  exact hW
end ST
