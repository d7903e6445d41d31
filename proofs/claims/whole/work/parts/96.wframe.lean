/-! ===== the law's own methods: a call in a try, what is caught, the answer into 'out' ===== -/
theorem zup_zB {bs a : Nat} {cs : List va_E} {f : ZH} {x : va_E} (h : a < bs ∨ bs + cs.length ≤ a) : zup (zB bs cs f) a x = zB bs cs (zup f a x) := by
  funext k
  unfold zup zB
  by_cases h1 : k = a
  · subst h1
    rw [if_pos rfl, if_neg (by omega)]
    exact (if_pos rfl).symm
  · by_cases h2 : bs ≤ k ∧ k < bs + cs.length
    · rw [if_neg h1, if_pos h2, if_pos h2]
    · rw [if_neg h1, if_neg h2, if_neg h2]
      exact (if_neg h1).symm
def zLw (σ : zTS) (μ : zMS) (o : Nat → Int64) (f : ZH) : ZH := pT σ (pM μ (pO o f))
theorem zLw_out {σ : zTS} {μ : zMS} {o : Nat → Int64} {f : ZH} : zLw σ μ o f = pO o (pT σ (pM μ f)) := by
  unfold zLw
  rw [pM_pO, pT_pO]
theorem zLw_M {σ : zTS} {μ : zMS} {o : Nat → Int64} {f : ZH} : zLw σ μ o f = pM μ (pT σ (pO o f)) := by
  unfold zLw
  rw [pT_pM]
theorem zLw_44 {σ : zTS} {μ : zMS} {o : Nat → Int64} {f : ZH} : zLw σ μ o f 44 = .inl (2, 1, .inr (.inl o)) := by rw [zLw_out, pO_0]
theorem zLw_s {σ : zTS} {μ : zMS} {o v : Nat → Int64} {f : ZH} : zup (zLw σ μ o f) 44 (.inl (2, 1, .inr (.inl v))) = zLw σ μ v f := by rw [zLw_out, pO_s, zLw_out]
theorem zLw_0 {σ : zTS} {μ : zMS} {o : Nat → Int64} {f : ZH} : zLw σ μ o f 0 = .inr (5, [.ref 1, .ref 5, .ref 10, .ref 15, .ref 22, .ref 27]) := pT_0
theorem zLw_29 {σ : zTS} {μ : zMS} {o : Nat → Int64} {f : ZH} : ∃ fs, zLw σ μ o f 29 = .inr (6, fs) ∧ 0 < fs.length := by
  rw [zLw_M]
  exact ⟨_, pM_0, by show 0 < 20; decide⟩
def zcallX (n : Nat) (exc : List Value → ZH → Nat → Prop) (ctN : List Value → ZH → (Option Value → ZH → Prop) → Prop) (KX : Nat → ZH → Prop) (K : ZK ZH) (ls : List (Option Value)) (a r : List Value) (h : ZH) : Prop :=
  zok n a = true ∧ r.length ≤ 4 ∧ (∀ k, exc a h k → KX k h) ∧ ((∀ k, ¬ exc a h k) → ctN a h (fun v h' => K ls (v.toList ++ r) h'))
section WF
variable {p : Program} {l : Launch} {e : Env} {R : Room} {s : State} {m : MethodId} {args : Array Value} {below : List Frame} {meth : Method} {c : Code}
variable {nL z0 b N : Nat} {D : va_G} {cA : Nat → ClassId} {Q : State → Prop} {pc : Nat} {cc : ByteArray} {own : String} {K : ZK ZH}
variable {Kn : Option Value → ZH → Prop} {h0 : ZH}
/-- the end of a body of the law's methods -/
abbrev zQw (below : List Frame) (z0 b N : Nat) (D : va_G) (cA : Nat → ClassId) (Kn : Option Value → ZH → Prop) (h0 : ZH) (args : Array Value) (s : State) : State → Prop := vx_MQ below (zQn z0 b N D cA Kn) (zXn z0 b N D cA (fun _ => False) h0) args s 1 (6 * 1) (fun q => z0 ≤ q)
/-- what a handler asks -/
def zHand (p : Program) (l : Launch) (e : Env) (R : Room) (s : State) (m : MethodId) (args : Array Value) (below : List Frame) (meth : Method) (c : Code) (nL z0 b N : Nat) (D : va_G) (cA : Nat → ClassId) (Q : State → Prop) (pc k : Nat) (P : ZH → Prop) : Prop :=
  ∀ (h : ZH) (H : Heap) (locs : List Loc) (L : Array Slot) (r : List Value) (q : Addr) (ce : Cell), P h → zI z0 b N D cA s h H locs → lv_has L nL [] → H[q]? = some ce → ce.vm = .none → s.vm.findClass (zEx k) = some ce.cls → vx_W p l e R s m args below meth c H locs 1 (6 * 1) Q (F0 m pc L r) q
theorem z_callVX (C : zCx p l R s m args meth c cc nL own z0 D cA 1) {ci Nf : Nat} {Cn : String} {Tf : u_T} {idx maxL fr lo n : Nat} {y : MethodName} {bytes : ByteArray} {ret : Option FieldType} {exc : List Value → ZH → Nat → Prop} {ctN : List Value → ZH → (Option Value → ZH → Prop) → Prop} {KX : Nat → ZH → Prop} (hc : vwCl[ci]? = some (Cn, Tf, Nf)) (hsem : Sem l z0 b N D cA y bytes maxL ret fr lo (n + 1) exc ctN) (hy : y.cls = Cn) (hlink : Cond.methodLink own idx y ∈ zWS) (hinst : Cond.instanceMethod y ∈ zWS) (hsel : Cond.selects Cn y y ∈ zWS) (hini : Cond.initialized Cn ∈ zWS) (hcode : Cond.code y bytes maxL ret ∈ zWS)
    (hd : y.cls ≠ "java/lang/invoke/MethodHandle" ∧ y.cls ≠ "java/lang/invoke/VarHandle" ∧ (parseMethodDescriptor y.desc).map (fun d => d.parameters.length) = some n) (hR : fr + 1 ≤ R.frames ∧ 8 + (maxL + 11) + lo ≤ R.locals) (hRc : 1 ≤ R.cells ∧ 6 ≤ R.slots) (d : decode cc pc = .ok (.invokevirtual idx, 3)) (hand : ∀ a h k, exc a h k → zHand p l e R s m args below meth c nL z0 b N D cA Q pc k (KX k))
    (hK : Snd p l e R s m args below meth c nL z0 b (zI z0 b N D cA s) (fun _ => (0, 0)) Q (pc + 3) K)
    (ls : List (Option Value)) (a0 : Nat) (a r fs : List Value) (h : ZH) (hrc : h a0 = .inr (ci, fs)) (hfs : 0 < fs.length) (hq : zcallX (n + 1) exc ctN KX K ls (.ref a0 :: a) r h) : AW p l e R s m args below meth c nL z0 b (zI z0 b N D cA s) (fun _ => (0, 0)) Q pc ls (a.reverse ++ .ref a0 :: r) h := by
  intro H locs L hI hL
  obtain ⟨hx, hb, hml, hown, hts, hg, hz, hz0, hlocks, hlt, hM1, hM2⟩ := C
  obtain ⟨hok, hr4, hq1, hq2⟩ := hq
  have hG : GoodIn zWS (wsV own idx Cn y (Cond.code y bytes maxL ret :: zWS)) := zGood (fun w hw => by
    simp only [wsV, List.mem_append, List.mem_cons, List.not_mem_nil, or_false] at hw
    rcases hw with (rfl | rfl | rfl | rfl) | rfl | hw <;> assumption)
  have hpre := zPre (a := .ref a0 :: a) hg hz hz0 hI
  have hnd : ¬ (Sum.inr (ci, fs) : va_E) = zdum := fun z => by cases z; simp at hfs
  have hrecv := va_recv hg.1 hI.1 hc (hI.get hrc hnd)
  have hstk : ((a.reverse ++ .ref a0 :: r).map (zc z0 b)) = (a.map (zc z0 b)).reverse ++ .ref (z0 + a0) :: r.map (zc z0 b) := by rw [List.map_append, List.map_reverse]; rfl
  have hlen : (a.map (zc z0 b)).length = n := by
    have := zok_len hok
    rw [List.length_map]
    simpa using this
  intro T hT X
  by_cases hex : ∀ k, ¬ exc (.ref a0 :: a) h k
  · have hM := hsem 0 (.ref a0 :: a) h (fun v h' => K ls (v.toList ++ r) h') (fun _ => False) hok (fun k hk => (hex k hk).elim) (fun _ => hq2 hex)
    rcases vx_runV (g := F0 m pc L ((a.reverse ++ .ref a0 :: r).map (zc z0 b))) (H := H) (locs := locs) (cells := 0) (slots := 0) (e := e) (below := below) (meth := meth) (R := R) (C := Cn) (b := z0 + a0) (As := a.map (zc z0 b)) (rest := r.map (zc z0 b)) ⟨hx, hb, hml, hown, hts⟩ hM (cwV n hts hG rfl rfl rfl ⟨hy, hd⟩ hR) ⟨zPc.blind, hrecv, hpre⟩ rfl hlen hL.1.1 hstk (lv_room (zrest r hr4)) d ⟨Nat.zero_le _, Nat.zero_le _⟩ T hT X with ⟨v, st₀, t, T', Lc, g0, X', hLc, e1, e2, hqn, st⟩ | ⟨q, st₀, t, T', Lc, E, ce, g0, X', hLc, e1, e2, hxn, hce, hcv, hcl, st⟩
    · exact z_after hK (fun v h' h9 => h9) hz0 hI.2.1 hL g0 X' hLc e1 hqn st
    · obtain ⟨⟨k', -, h9, -⟩, -⟩ := hxn
      exact h9.elim
  · obtain ⟨k, hexk⟩ := Classical.not_forall.mp hex
    have hexk := Classical.not_not.mp hexk
    have hM := hsem 1 (.ref a0 :: a) h (fun _ _ => False) (fun k' => exc (.ref a0 :: a) h k') hok (fun k' hk => ⟨rfl, hk⟩) (fun h9 => (h9 k hexk).elim)
    rcases vx_runV (g := F0 m pc L ((a.reverse ++ .ref a0 :: r).map (zc z0 b))) (H := H) (locs := locs) (cells := 0) (slots := 0) (e := e) (below := below) (meth := meth) (R := R) (C := Cn) (b := z0 + a0) (As := a.map (zc z0 b)) (rest := r.map (zc z0 b)) ⟨hx, hb, hml, hown, hts⟩ hM (cwV n hts hG rfl rfl rfl ⟨hy, hd⟩ hR) ⟨zPc.blind, hrecv, hpre⟩ rfl hlen hL.1.1 hstk (lv_room (zrest r hr4)) d ⟨by have := hRc.1; omega, by have := hRc.2; omega⟩ T hT X with ⟨v, st₀, t, T', Lc, g0, X', hLc, e1, e2, hqn, st⟩ | ⟨q, st₀, t, T', Lc, E, ce, g0, X', hLc, e1, e2, hxn, hce, hcv, hcl, st⟩
    · obtain ⟨⟨v', h', -, h9, -⟩, -⟩ := hqn
      exact h9.elim
    · obtain ⟨⟨k', rfl, hk9, hP'⟩, hF⟩ := hxn
      obtain ⟨-, -, k3⟩ := vx_keep g0 e1 hI.2.1 (fun q _ h => h) (fun q h => h) hLc hF
      have hw := hand _ _ k' hk9 h T'.heap (locs ++ Lc) L (r.map (zc z0 b)) q ce (hq1 k' hk9) ⟨by rw [e1]; exact hP', k3, hI.2.2⟩ (lv_sub hL.1 [] rfl) (by rw [e1]; exact hce) hcv hcl
      obtain ⟨t2, a1, b1⟩ := hw T' rfl X'
      exact ⟨t2, st.trans a1, b1⟩
theorem st_n (hx : p.tables.exec = Jvm.exec) (hb : c.code = cc) {k : Fin 4} {i hp : Nat} (d : decode cc hp = .ok (.astore_n k, 1)) (hi : (k : Nat) = i) (hn : i < nL) {H : Heap} {locs : List Loc} {cells slots : Nat} {L : Array Slot} {q : Nat} (hL : lv_has L nL []) (kk : ∀ L', lv_has L' nL [] → W p l e R s m args below meth c H locs cells slots Q (F0 m (hp + 1) L' [])) : W p l e R s m args below meth c H locs cells slots Q (F0 m hp L [.ref q]) :=
  lv_astore_n (lv' := [(i, .ref q)]) hx hb d hi hL hn rfl (fun L' hl => kk L' (lv_sub hl [] rfl))
theorem st_w (hx : p.tables.exec = Jvm.exec) (hb : c.code = cc) {i hp : Nat} (d : decode cc hp = .ok (.astore i, 2)) (hn : i < nL) {H : Heap} {locs : List Loc} {cells slots : Nat} {L : Array Slot} {q : Nat} (hL : lv_has L nL []) (kk : ∀ L', lv_has L' nL [] → W p l e R s m args below meth c H locs cells slots Q (F0 m (hp + 2) L' [])) : W p l e R s m args below meth c H locs cells slots Q (F0 m hp L [.ref q]) :=
  lv_astore (lv' := [(i, .ref q)]) hx hb d hL hn rfl (fun L' hl => kk L' (lv_sub hl [] rfl))
/-- a handler: it puts the exception away and answers w -/
theorem z_hand (C : zCx p l R s m args meth c cc nL own z0 D cA 1) (hr : meth.sig.returnType = some .int) {hh : List (Nat × Nat × Nat × Nat)} (htab : c.exceptionTable.toList = tableOf hh) {k : Nat} (pre : List ExceptionTableEntry) (x : ExceptionTableEntry) (suf : List ExceptionTableEntry) (hsp : tableOf hh = pre ++ x :: suf) (hpass : ∀ z ∈ pre, z.catchType ≠ 0 ∧ ∃ nm : String, Cond.classLink own z.catchType nm ∈ zWS ∧ (zEx k, nm) ∈ zNcs) (hcov : covers x pc = true) (hx0 : x.catchType ≠ 0) (hlink : Cond.classLink own x.catchType (zEx k) ∈ zWS) (hcas : (zEx k, zEx k) ∈ zCas)
    {len : Nat} {w : Int32} {n : Int} (hst : ∀ (H : Heap) (locs : List Loc) (L : Array Slot) (q : Nat), lv_has L nL [] → (∀ L', lv_has L' nL [] → W p l e R s m args below meth c H locs 1 (6 * 1) (zQw below z0 b N D cA Kn h0 args s) (F0 m (x.handlerPc + len) L' [])) → W p l e R s m args below meth c H locs 1 (6 * 1) (zQw below z0 b N D cA Kn h0 args s) (F0 m x.handlerPc L [.ref q]))
    (d1 : decode cc (x.handlerPc + len) = .ok (.iconst n, 1)) (hw : Int32.ofInt n = w) (d2 : decode cc (x.handlerPc + len + 1) = .ok (.ireturn, 1)) : zHand p l e R s m args below meth c nL z0 b N D cA (zQw below z0 b N D cA Kn h0 args s) pc k (fun h => Kn (some (.int w)) h) := by
  intro h H locs L r q ce hP hI hL hce hcv hcl
  obtain ⟨hx, hb, hml, hown, hts, hg, hz, hz0, hlocks, -⟩ := C
  refine vx_catch hown pre x suf (htab.trans hsp) (fun z hz => Or.inr ⟨(hpass z hz).1, ?_⟩) hcov hx0 (hts _ hlink) (va_Nw.use rfl (hg.2.2.2.2.1 _ hcas)) hce hcv hcl ?_
  · obtain ⟨nm, h1, h2⟩ := (hpass z hz).2
    exact ⟨nm, hts _ h1, hg.2.2.2.1 _ h2⟩
  · refine hst H locs L q hL (fun L' hL' => ?_)
    refine lv_iconst hx hb d1 hw ?_
    exact vx_ret (W.zret hx hb hr rfl (fun t ht hW => ⟨⟨some (.int w), h, rfl, hP, by rw [ht]; exact hI.1, hI.2.2⟩, hI.2.1.F ht⟩) hI.2.1.2.2 d2 hlocks)
def o_callX0 (ci : Nat) (exc : List Value → ZH → Nat → Prop) (ctN : List Value → ZH → (Option Value → ZH → Prop) → Prop) (KX : Nat → ZH → Prop) (K : ZK ZH) : ZK ZH := fun ls st h => match st with
  | .ref a :: r => (match h a with
    | .inr (c', fs) => c' = ci ∧ 0 < fs.length ∧ zcallX 1 exc ctN KX K ls [.ref a] r h
    | .inl _ => False)
  | _ => False
def o_callX1 (ci : Nat) (exc : List Value → ZH → Nat → Prop) (ctN : List Value → ZH → (Option Value → ZH → Prop) → Prop) (KX : Nat → ZH → Prop) (K : ZK ZH) : ZK ZH := fun ls st h => match st with
  | v0 :: .ref a :: r => (match h a with
    | .inr (c', fs) => c' = ci ∧ 0 < fs.length ∧ zcallX 2 exc ctN KX K ls [.ref a, v0] r h
    | .inl _ => False)
  | _ => False
def o_callX2 (ci : Nat) (exc : List Value → ZH → Nat → Prop) (ctN : List Value → ZH → (Option Value → ZH → Prop) → Prop) (KX : Nat → ZH → Prop) (K : ZK ZH) : ZK ZH := fun ls st h => match st with
  | v1 :: v0 :: .ref a :: r => (match h a with
    | .inr (c', fs) => c' = ci ∧ 0 < fs.length ∧ zcallX 3 exc ctN KX K ls [.ref a, v0, v1] r h
    | .inl _ => False)
  | _ => False
def o_callX3 (ci : Nat) (exc : List Value → ZH → Nat → Prop) (ctN : List Value → ZH → (Option Value → ZH → Prop) → Prop) (KX : Nat → ZH → Prop) (K : ZK ZH) : ZK ZH := fun ls st h => match st with
  | v2 :: v1 :: v0 :: .ref a :: r => (match h a with
    | .inr (c', fs) => c' = ci ∧ 0 < fs.length ∧ zcallX 4 exc ctN KX K ls [.ref a, v0, v1, v2] r h
    | .inl _ => False)
  | _ => False
def o_callX4 (ci : Nat) (exc : List Value → ZH → Nat → Prop) (ctN : List Value → ZH → (Option Value → ZH → Prop) → Prop) (KX : Nat → ZH → Prop) (K : ZK ZH) : ZK ZH := fun ls st h => match st with
  | v3 :: v2 :: v1 :: v0 :: .ref a :: r => (match h a with
    | .inr (c', fs) => c' = ci ∧ 0 < fs.length ∧ zcallX 5 exc ctN KX K ls [.ref a, v0, v1, v2, v3] r h
    | .inl _ => False)
  | _ => False
theorem k_callX0 (C : zCx p l R s m args meth c cc nL own z0 D cA 1) {ci Nf : Nat} {Cn : String} {Tf : u_T} {idx maxL fr lo : Nat} {y : MethodName} {bytes : ByteArray} {ret : Option FieldType} {exc : List Value → ZH → Nat → Prop} {ctN : List Value → ZH → (Option Value → ZH → Prop) → Prop} {KX : Nat → ZH → Prop} (hc : vwCl[ci]? = some (Cn, Tf, Nf)) (hsem : Sem l z0 b N D cA y bytes maxL ret fr lo 1 exc ctN) (hy : y.cls = Cn) (hlink : Cond.methodLink own idx y ∈ zWS) (hinst : Cond.instanceMethod y ∈ zWS) (hsel : Cond.selects Cn y y ∈ zWS) (hini : Cond.initialized Cn ∈ zWS) (hcode : Cond.code y bytes maxL ret ∈ zWS)
    (hd : y.cls ≠ "java/lang/invoke/MethodHandle" ∧ y.cls ≠ "java/lang/invoke/VarHandle" ∧ (parseMethodDescriptor y.desc).map (fun d => d.parameters.length) = some 0) (hR : fr + 1 ≤ R.frames ∧ 8 + (maxL + 11) + lo ≤ R.locals) (hRc : 1 ≤ R.cells ∧ 6 ≤ R.slots) (d : decode cc pc = .ok (.invokevirtual idx, 3)) (hand : ∀ a h k, exc a h k → zHand p l e R s m args below meth c nL z0 b N D cA Q pc k (KX k))
    (hK : Snd p l e R s m args below meth c nL z0 b (zI z0 b N D cA s) (fun _ => (0, 0)) Q (pc + 3) K) : Snd p l e R s m args below meth c nL z0 b (zI z0 b N D cA s) (fun _ => (0, 0)) Q pc (o_callX0 ci exc ctN KX K) := by
  intro ls st h hq
  unfold o_callX0 at hq
  split at hq
  · next  a r =>
    split at hq
    · next c' fs hfs =>
      obtain ⟨rfl, hl, hq⟩ := hq
      exact z_callVX C hc hsem hy hlink hinst hsel hini hcode hd hR hRc d hand hK ls a [] r fs h hfs hl hq
    · exact hq.elim
  · exact hq.elim
theorem k_callX1 (C : zCx p l R s m args meth c cc nL own z0 D cA 1) {ci Nf : Nat} {Cn : String} {Tf : u_T} {idx maxL fr lo : Nat} {y : MethodName} {bytes : ByteArray} {ret : Option FieldType} {exc : List Value → ZH → Nat → Prop} {ctN : List Value → ZH → (Option Value → ZH → Prop) → Prop} {KX : Nat → ZH → Prop} (hc : vwCl[ci]? = some (Cn, Tf, Nf)) (hsem : Sem l z0 b N D cA y bytes maxL ret fr lo 2 exc ctN) (hy : y.cls = Cn) (hlink : Cond.methodLink own idx y ∈ zWS) (hinst : Cond.instanceMethod y ∈ zWS) (hsel : Cond.selects Cn y y ∈ zWS) (hini : Cond.initialized Cn ∈ zWS) (hcode : Cond.code y bytes maxL ret ∈ zWS)
    (hd : y.cls ≠ "java/lang/invoke/MethodHandle" ∧ y.cls ≠ "java/lang/invoke/VarHandle" ∧ (parseMethodDescriptor y.desc).map (fun d => d.parameters.length) = some 1) (hR : fr + 1 ≤ R.frames ∧ 8 + (maxL + 11) + lo ≤ R.locals) (hRc : 1 ≤ R.cells ∧ 6 ≤ R.slots) (d : decode cc pc = .ok (.invokevirtual idx, 3)) (hand : ∀ a h k, exc a h k → zHand p l e R s m args below meth c nL z0 b N D cA Q pc k (KX k))
    (hK : Snd p l e R s m args below meth c nL z0 b (zI z0 b N D cA s) (fun _ => (0, 0)) Q (pc + 3) K) : Snd p l e R s m args below meth c nL z0 b (zI z0 b N D cA s) (fun _ => (0, 0)) Q pc (o_callX1 ci exc ctN KX K) := by
  intro ls st h hq
  unfold o_callX1 at hq
  split at hq
  · next v0 a r =>
    split at hq
    · next c' fs hfs =>
      obtain ⟨rfl, hl, hq⟩ := hq
      exact z_callVX C hc hsem hy hlink hinst hsel hini hcode hd hR hRc d hand hK ls a [v0] r fs h hfs hl hq
    · exact hq.elim
  · exact hq.elim
theorem k_callX2 (C : zCx p l R s m args meth c cc nL own z0 D cA 1) {ci Nf : Nat} {Cn : String} {Tf : u_T} {idx maxL fr lo : Nat} {y : MethodName} {bytes : ByteArray} {ret : Option FieldType} {exc : List Value → ZH → Nat → Prop} {ctN : List Value → ZH → (Option Value → ZH → Prop) → Prop} {KX : Nat → ZH → Prop} (hc : vwCl[ci]? = some (Cn, Tf, Nf)) (hsem : Sem l z0 b N D cA y bytes maxL ret fr lo 3 exc ctN) (hy : y.cls = Cn) (hlink : Cond.methodLink own idx y ∈ zWS) (hinst : Cond.instanceMethod y ∈ zWS) (hsel : Cond.selects Cn y y ∈ zWS) (hini : Cond.initialized Cn ∈ zWS) (hcode : Cond.code y bytes maxL ret ∈ zWS)
    (hd : y.cls ≠ "java/lang/invoke/MethodHandle" ∧ y.cls ≠ "java/lang/invoke/VarHandle" ∧ (parseMethodDescriptor y.desc).map (fun d => d.parameters.length) = some 2) (hR : fr + 1 ≤ R.frames ∧ 8 + (maxL + 11) + lo ≤ R.locals) (hRc : 1 ≤ R.cells ∧ 6 ≤ R.slots) (d : decode cc pc = .ok (.invokevirtual idx, 3)) (hand : ∀ a h k, exc a h k → zHand p l e R s m args below meth c nL z0 b N D cA Q pc k (KX k))
    (hK : Snd p l e R s m args below meth c nL z0 b (zI z0 b N D cA s) (fun _ => (0, 0)) Q (pc + 3) K) : Snd p l e R s m args below meth c nL z0 b (zI z0 b N D cA s) (fun _ => (0, 0)) Q pc (o_callX2 ci exc ctN KX K) := by
  intro ls st h hq
  unfold o_callX2 at hq
  split at hq
  · next v1 v0 a r =>
    split at hq
    · next c' fs hfs =>
      obtain ⟨rfl, hl, hq⟩ := hq
      exact z_callVX C hc hsem hy hlink hinst hsel hini hcode hd hR hRc d hand hK ls a [v0, v1] r fs h hfs hl hq
    · exact hq.elim
  · exact hq.elim
theorem k_callX3 (C : zCx p l R s m args meth c cc nL own z0 D cA 1) {ci Nf : Nat} {Cn : String} {Tf : u_T} {idx maxL fr lo : Nat} {y : MethodName} {bytes : ByteArray} {ret : Option FieldType} {exc : List Value → ZH → Nat → Prop} {ctN : List Value → ZH → (Option Value → ZH → Prop) → Prop} {KX : Nat → ZH → Prop} (hc : vwCl[ci]? = some (Cn, Tf, Nf)) (hsem : Sem l z0 b N D cA y bytes maxL ret fr lo 4 exc ctN) (hy : y.cls = Cn) (hlink : Cond.methodLink own idx y ∈ zWS) (hinst : Cond.instanceMethod y ∈ zWS) (hsel : Cond.selects Cn y y ∈ zWS) (hini : Cond.initialized Cn ∈ zWS) (hcode : Cond.code y bytes maxL ret ∈ zWS)
    (hd : y.cls ≠ "java/lang/invoke/MethodHandle" ∧ y.cls ≠ "java/lang/invoke/VarHandle" ∧ (parseMethodDescriptor y.desc).map (fun d => d.parameters.length) = some 3) (hR : fr + 1 ≤ R.frames ∧ 8 + (maxL + 11) + lo ≤ R.locals) (hRc : 1 ≤ R.cells ∧ 6 ≤ R.slots) (d : decode cc pc = .ok (.invokevirtual idx, 3)) (hand : ∀ a h k, exc a h k → zHand p l e R s m args below meth c nL z0 b N D cA Q pc k (KX k))
    (hK : Snd p l e R s m args below meth c nL z0 b (zI z0 b N D cA s) (fun _ => (0, 0)) Q (pc + 3) K) : Snd p l e R s m args below meth c nL z0 b (zI z0 b N D cA s) (fun _ => (0, 0)) Q pc (o_callX3 ci exc ctN KX K) := by
  intro ls st h hq
  unfold o_callX3 at hq
  split at hq
  · next v2 v1 v0 a r =>
    split at hq
    · next c' fs hfs =>
      obtain ⟨rfl, hl, hq⟩ := hq
      exact z_callVX C hc hsem hy hlink hinst hsel hini hcode hd hR hRc d hand hK ls a [v0, v1, v2] r fs h hfs hl hq
    · exact hq.elim
  · exact hq.elim
theorem k_callX4 (C : zCx p l R s m args meth c cc nL own z0 D cA 1) {ci Nf : Nat} {Cn : String} {Tf : u_T} {idx maxL fr lo : Nat} {y : MethodName} {bytes : ByteArray} {ret : Option FieldType} {exc : List Value → ZH → Nat → Prop} {ctN : List Value → ZH → (Option Value → ZH → Prop) → Prop} {KX : Nat → ZH → Prop} (hc : vwCl[ci]? = some (Cn, Tf, Nf)) (hsem : Sem l z0 b N D cA y bytes maxL ret fr lo 5 exc ctN) (hy : y.cls = Cn) (hlink : Cond.methodLink own idx y ∈ zWS) (hinst : Cond.instanceMethod y ∈ zWS) (hsel : Cond.selects Cn y y ∈ zWS) (hini : Cond.initialized Cn ∈ zWS) (hcode : Cond.code y bytes maxL ret ∈ zWS)
    (hd : y.cls ≠ "java/lang/invoke/MethodHandle" ∧ y.cls ≠ "java/lang/invoke/VarHandle" ∧ (parseMethodDescriptor y.desc).map (fun d => d.parameters.length) = some 4) (hR : fr + 1 ≤ R.frames ∧ 8 + (maxL + 11) + lo ≤ R.locals) (hRc : 1 ≤ R.cells ∧ 6 ≤ R.slots) (d : decode cc pc = .ok (.invokevirtual idx, 3)) (hand : ∀ a h k, exc a h k → zHand p l e R s m args below meth c nL z0 b N D cA Q pc k (KX k))
    (hK : Snd p l e R s m args below meth c nL z0 b (zI z0 b N D cA s) (fun _ => (0, 0)) Q (pc + 3) K) : Snd p l e R s m args below meth c nL z0 b (zI z0 b N D cA s) (fun _ => (0, 0)) Q pc (o_callX4 ci exc ctN KX K) := by
  intro ls st h hq
  unfold o_callX4 at hq
  split at hq
  · next v3 v2 v1 v0 a r =>
    split at hq
    · next c' fs hfs =>
      obtain ⟨rfl, hl, hq⟩ := hq
      exact z_callVX C hc hsem hy hlink hinst hsel hini hcode hd hR hRc d hand hK ls a [v0, v1, v2, v3] r fs h hfs hl hq
    · exact hq.elim
  · exact hq.elim
/-- a law's method: what it does where the call of the class answers as the model -/
def SemW (l : Launch) (z0 b N : Nat) (D : va_G) (cA : Nat → ClassId) (y : MethodName) (bytes : ByteArray) (maxL : Nat) (hh : List (Nat × Nat × Nat × Nat)) (fr lo n : Nat) (ctN : List Value → ZH → (Option Value → ZH → Prop) → Prop) : Prop :=
  ∀ (a : List Value) (h : ZH) (Kn : Option Value → ZH → Prop), zok n a = true → ctN a h Kn → Met l y (Cond.codeWith y bytes maxL (some .int) hh :: zWS) (zRm fr 1 lo) (zPc z0 b N D cA a h) (zQn z0 b N D cA Kn) 1 (6 * 1) (fun q => z0 ≤ q)
theorem semW_of (hlt : l.stackTraces = false) {y : MethodName} {bytes : ByteArray} {maxL fr lo n : Nat} {hh : List (Nat × Nat × Nat × Nat)} {ctN : List Value → ZH → (Option Value → ZH → Prop) → Prop} (hy : plainName y.cls = true) (hn : n ≤ maxL)
    (body : ∀ (p : Program) (e : Env) (s : State) (m : MethodId) (args : Array Value) (below : List Frame) (meth : Method) (c : Code) (a : List Value) (h : ZH) (Kn : Option Value → ZH → Prop), zok n a = true → ctN a h Kn → zCx p l (zRm fr 1 lo) s m args meth c bytes maxL y.cls z0 D cA 1 → meth.sig.returnType = some .int → c.exceptionTable.toList = tableOf hh →
      AW p l e (zRm fr 1 lo) s m args below meth c maxL z0 b (zI z0 b N D cA s) (fun _ => (0, 0)) (zQw below z0 b N D cA Kn h args s) 0 (zE maxL a) [] h) :
    SemW l z0 b N D cA y bytes maxL hh fr lo n ctN := by
  intro a h Kn hok hN
  refine zMet (XC := zXn z0 b N D cA (fun _ => False) h) (vx_ofWH hy rfl ?_) (fun E st t hx => by
    obtain ⟨⟨k', -, h9, -⟩, -⟩ := hx
    exact h9)
  intro p e s m args below meth c s₁ B hml hv
  obtain ⟨rfl, hz0, hg, hz, hP, hd⟩ := hv
  have hts := atoms_spec (ws := Cond.codeWith y bytes maxL (some .int) hh :: zWS) B.pre
  have hC : zCx p l (zRm fr 1 lo) s m (a.map (zc z0 b)).toArray meth c bytes maxL y.cls z0 D cA 1 := ⟨B.exec, B.bytes, hml, findClass_of_methodNamed B.named, fun w hw => hts w (List.mem_cons_of_mem _ hw), hg, hz, hz0, B.notSynchronized, hlt, Nat.le_refl _, Nat.le_refl _⟩
  have hW := body p e s m (a.map (zc z0 b)).toArray below meth c a h Kn hok hN hC B.returns (vx_table (x := y) B (hts _ List.mem_cons_self)) s.heap [] _ ⟨hP, va_S.rf, hd⟩ (zE_ok (zok_cat hok) (by rw [zok_len hok]; exact hn))
  rw [lg_entry_eq]
  exact hW
end WF
/-- what the law's methods do -/
def ovI (x : Int32) : Int64 := x.toInt64
def ovB (x : Int32) : Int64 := if x = 0 then 0 else 1
def tLw (ov : Int32 → Int64) (wp : Nat → Int32) (e : List Value → ZH → Nat → Prop) (t : List Value → ZH → (Option Value → ZH → Prop) → Prop) (as : List Value) (a : List Value) (h : ZH) (Kn : Option Value → ZH → Prop) : Prop :=
  ∃ (σ : zTS) (μ : zMS) (o : Nat → Int64) (f0 : ZH) (g : zP), a = .ref 0 :: (as ++ [.ref 44]) ∧ h = zLw σ μ o f0 ∧ zSim wp e t as σ g ∧ ∀ σ' o', zRel σ' g.2 → (g.2.1 = 0 → o' 0 = ov g.1) → Kn (some (.int g.2.1)) (zLw σ' μ o' f0)
theorem w_tailI {Kn : Option Value → ZH → Prop} {σ' : zTS} {μ : zMS} {o : Nat → Int64} {f0 : ZH} {g : zP} {ls : List (Option Value)} (h0 : g.2.1 = 0) (hrel : zRel σ' g.2) (hK : ∀ σ' o', zRel σ' g.2 → (g.2.1 = 0 → o' 0 = ovI g.1) → Kn (some (.int g.2.1)) (zLw σ' μ o' f0)) : o_i2l (o_last (o_ic 0 (o_ret .int Kn))) ls [.int g.1, .int 0, .ref 44] (zLw σ' μ o f0) := by
  simp only [o_i2l, o_last, o_ic, o_ret, zLw_44, zLw_s]
  refine ⟨trivial, vp_in_nI (n := 0) (by omega) (by omega), rfl, ?_⟩
  have h := hK σ' (vp_updL o (0 : Int32).toNatClampNeg (ovI g.1)) hrel (fun _ => rfl)
  rw [h0] at h
  exact h
theorem w_tailB {Kn : Option Value → ZH → Prop} {σ' : zTS} {μ : zMS} {o : Nat → Int64} {f0 : ZH} {g : zP} {ls : List (Option Value)} (h0 : g.2.1 = 0) (hrel : zRel σ' g.2) (hK : ∀ σ' o', zRel σ' g.2 → (g.2.1 = 0 → o' 0 = ovB g.1) → Kn (some (.int g.2.1)) (zLw σ' μ o' f0)) : o_if1 (fun x => x = 0) (o_lc 0 (o_last (o_ic 0 (o_ret .int Kn)))) (o_lc 1 (o_last (o_ic 0 (o_ret .int Kn)))) ls [.int g.1, .int 0, .ref 44] (zLw σ' μ o f0) := by
  simp only [o_if1, o_lc, o_last, o_ic, o_ret, zLw_44, zLw_s]
  refine ⟨fun hg => ⟨trivial, vp_in_nI (n := 0) (by omega) (by omega), rfl, ?_⟩, fun hg => ⟨trivial, vp_in_nI (n := 0) (by omega) (by omega), rfl, ?_⟩⟩
  · have h := hK σ' (vp_updL o (0 : Int32).toNatClampNeg 0) hrel (fun _ => by
      unfold ovB
      rw [if_pos hg]
      rfl)
    rw [h0] at h
    exact h
  · have h := hK σ' (vp_updL o (0 : Int32).toNatClampNeg 1) hrel (fun _ => by
      unfold ovB
      rw [if_neg hg]
      rfl)
    rw [h0] at h
    exact h
