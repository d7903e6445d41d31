/-! ===== instructions over two objects ===== -/
section GEN2
variable {p : Program} {l : Launch} {e : Env} {R : Room} {s : State} {m : MethodId} {args : Array Value} {below : List Frame} {meth : Method} {c : Code}
variable {τ : Type} {nL z0 b : Nat} {I : τ → Heap → List Loc → Prop} {cs : τ → Nat × Nat} {Q : State → Prop} {pc : Nat} {cc : ByteArray} {K : ZK τ}
def o_irem (K : ZK τ) : ZK τ := fun ls st h => match st with
  | .int y :: .int x :: r => ¬ y = 0 ∧ K ls (.int (x - x / y * y) :: r) h
  | _ => False
theorem k_irem (hx : p.tables.exec = Jvm.exec) (hb : c.code = cc) (d : decode cc pc = .ok (.irem, 1)) (hK : Snd p l e R s m args below meth c nL z0 b I cs Q (pc + 1) K) : Snd p l e R s m args below meth c nL z0 b I cs Q pc (o_irem K) := by
  intro ls st h hk H locs L hI hL
  simp only [o_irem] at hk
  split at hk
  · exact lv_irem hx hb d hk.1 (hK _ _ _ hk.2 H locs L hI hL)
  · exact hk.elim
theorem k_ldc (hx : p.tables.exec = Jvm.exec) (hb : c.code = cc) {own : String} {index : Nat} {v : Int32} (hown : s.vm.findClass own = some m.cls) (hq : (Jvm.Cond.constant own index v).before args s = true) (d : decode cc pc = .ok (.ldc index, 2)) (hK : Snd p l e R s m args below meth c nL z0 b I cs Q (pc + 2) K) : Snd p l e R s m args below meth c nL z0 b I cs Q pc (o_ic v K) :=
  fun ls st h hk H locs L hI hL => lv_ldc hx hb hown hq d (hK _ _ _ hk H locs L hI hL)
end GEN2
theorem ro_gH {μ : zMS} {p : Int32} {f : zMS → Int32} : (gH μ p (fun μ => (f μ, μ))).2 = vThr μ p := by
  unfold gH
  split
  · next h => rw [h]
  · rfl
theorem qset_j {i : Bool} {t : QQ} {μ : zMS} : (qset i t μ).2.2 = t.2.2 := by cases i <;> rfl
abbrev QK : Type := Int32 → zMS → zMS → Nat → Prop
def zQn2 (z0 b : Nat) (D : va_G) (cA : Nat → ClassId) (Kn : QK) : Array Value → State → Outcome → State → Prop := fun _ st oc t =>
  (∃ (v : Int32) (μ ν : zMS) (g : Nat), oc = .returned (some (.int v)) ∧ Kn v μ ν g ∧ qTw z0 b D cA μ ν t.heap ∧ st.heap.size + g ≤ t.heap.size) ∧ va_F (fun q : Nat => z0 ≤ q) st t
abbrev zQ2 (below : List Frame) (z0 b : Nat) (D : va_G) (cA : Nat → ClassId) (Kn : QK) (args : Array Value) (s : State) (M : Nat) : State → Prop := vx_MQ below (zQn2 z0 b D cA Kn) (fun _ _ _ => False) args s M (6 * M) (fun q => z0 ≤ q)
def zPc2 (z0 b : Nat) (D : va_G) (cA : Nat → ClassId) (a : List Value) (μ ν : zMS) : Array Value → State → Prop := va_Pc (a.map (zc z0 b)) (fun U => z0 ≤ U.heap.size ∧ zG D cA U ∧ zZ z0 U U.heap ∧ qTw z0 b D cA μ ν U.heap)
theorem zPc2.blind {z0 b : Nat} {D : va_G} {cA : Nat → ClassId} {a : List Value} {μ ν : zMS} : FrameBlind (zPc2 z0 b D cA a μ ν) := fun x U g mk q => ⟨q.1, q.2.1, q.2.2.1.warm (s := U) (State.WarmedH.refl U), q.2.2.2.1.on (s := U) (State.WarmedH.refl U) (fun _ _ _ => rfl), q.2.2.2.2⟩
/-- a method of the law: what it does to what the two objects are alike to, with M new cells at the most, and some at the least -/
def SemL (l : Launch) (z0 b : Nat) (D : va_G) (cA : Nat → ClassId) (y : MethodName) (w : Cond) (fr lo n M : Nat) (ct : List Value → zMS → zMS → QK → Prop) : Prop :=
  ∀ (a : List Value) (μ ν : zMS) (Kn : QK), zok n a = true → ct a μ ν Kn → Met l y (w :: zWS) (zRm fr M lo) (zPc2 z0 b D cA a μ ν) (zQn2 z0 b D cA Kn) M (6 * M) (fun q => z0 ≤ q)
section OP2
variable {p : Program} {l : Launch} {e : Env} {R : Room} {s : State} {m : MethodId} {args : Array Value} {below : List Frame} {meth : Method} {c : Code}
variable {nL z0 b c0 d0 MB : Nat} {D : va_G} {cA : Nat → ClassId} {Q : State → Prop} {pc : Nat} {cc : ByteArray} {own : String} {K : ZK QQ} {i : Bool}
theorem I2_thr {t : QQ} {k : Int32} {H : Heap} {locs : List Loc} (h : I2 z0 b D cA c0 s (qset i t (vThr (qmu i t) k)) H locs) : I2 z0 b D cA c0 s t H locs := by
  cases i with
  | false => exact h
  | true => exact h
def o_ret2 (M : Nat) (ty : FieldType) (Kn : QK) : ZK QQ := fun _ st t => match st with
  | [.int v] => narrow ty (.int v) = .int v ∧ t.2.2.1 ≤ M ∧ Kn v t.1 t.2.1 t.2.2.2
  | _ => False
theorem k_ret2 (C : zCx p l R s m args meth c cc nL own z0 D cA 0) {ty : FieldType} {M : Nat} {Kn : QK} (hr : meth.sig.returnType = some ty) (d : decode cc pc = .ok (.ireturn, 1)) : Snd p l e R s m args below meth c nL z0 b (I2 z0 b D cA 0 s) (c2 0 0) (zQ2 below z0 b D cA Kn args s M) pc (o_ret2 M ty Kn) := by
  intro ls st t hq H locs L hI hL
  obtain ⟨hx, hb, hml, hown, hts, hg, hz, hz0, hlocks, hlt, hM1, hM2⟩ := C
  unfold o_ret2 at hq
  split at hq
  · next v =>
    exact vx_ret (W.widen (by show 0 + t.2.2.1 ≤ M; omega) (by show 0 + 6 * t.2.2.1 ≤ 6 * M; omega) (W.zret hx hb hr hq.1 (fun t9 ht hW => ⟨⟨v, t.1, t.2.1, t.2.2.2, rfl, hq.2.2, by rw [ht]; exact hI.1, by rw [ht]; exact hI.2.2⟩, hI.2.1.F ht⟩) hI.2.1.2.2 d hlocks))
  · exact hq.elim
/-- what a handler asks -/
def zHand2 (p : Program) (l : Launch) (e : Env) (R : Room) (s : State) (m : MethodId) (args : Array Value) (below : List Frame) (meth : Method) (c : Code) (nL z0 b : Nat) (D : va_G) (cA : Nat → ClassId) (Q : State → Prop) (pc k : Nat) (P : QQ → Prop) : Prop :=
  ∀ (t : QQ) (H : Heap) (locs : List Loc) (L : Array Slot) (r : List Value) (q : Addr) (ce : Cell), P t → I2 z0 b D cA 0 s t H locs → lv_has L nL [] → H[q]? = some ce → ce.vm = .none → s.vm.findClass (zEx k) = some ce.cls → vx_W p l e R s m args below meth c H locs (0 + t.2.2.1) (0 + 6 * t.2.2.1) Q (F0 m pc L r) q
theorem st_n2 (hx : p.tables.exec = Jvm.exec) (hb : c.code = cc) {k : Fin 4} {i hp : Nat} (d : decode cc hp = .ok (.astore_n k, 1)) (hi : (k : Nat) = i) (hn : i < nL) {H : Heap} {locs : List Loc} {cells slots : Nat} {L : Array Slot} {q : Nat} (hL : lv_has L nL []) (kk : ∀ L', lv_has L' nL [] → W p l e R s m args below meth c H locs cells slots Q (F0 m (hp + 1) L' [])) : W p l e R s m args below meth c H locs cells slots Q (F0 m hp L [.ref q]) :=
  lv_astore_n (lv' := [(i, .ref q)]) hx hb d hi hL hn rfl (fun L' hl => kk L' (lv_sub hl [] rfl))
theorem st_w2 (hx : p.tables.exec = Jvm.exec) (hb : c.code = cc) {i hp : Nat} (d : decode cc hp = .ok (.astore i, 2)) (hn : i < nL) {H : Heap} {locs : List Loc} {cells slots : Nat} {L : Array Slot} {q : Nat} (hL : lv_has L nL []) (kk : ∀ L', lv_has L' nL [] → W p l e R s m args below meth c H locs cells slots Q (F0 m (hp + 2) L' [])) : W p l e R s m args below meth c H locs cells slots Q (F0 m hp L [.ref q]) :=
  lv_astore (lv' := [(i, .ref q)]) hx hb d hL hn rfl (fun L' hl => kk L' (lv_sub hl [] rfl))
/-- a handler: it puts the exception away and answers w -/
theorem z_hand2 (C : zCx p l R s m args meth c cc nL own z0 D cA 0) (hr : meth.sig.returnType = some .int) {hh : List (Nat × Nat × Nat × Nat)} (htab : c.exceptionTable.toList = tableOf hh) {k M : Nat} {Kn : QK} (pre : List ExceptionTableEntry) (x : ExceptionTableEntry) (suf : List ExceptionTableEntry) (hsp : tableOf hh = pre ++ x :: suf) (hpass : ∀ z ∈ pre, z.catchType ≠ 0 ∧ ∃ nm : String, Cond.classLink own z.catchType nm ∈ zWS ∧ (zEx k, nm) ∈ zNcs) (hcov : covers x pc = true) (hx0 : x.catchType ≠ 0) (hlink : Cond.classLink own x.catchType (zEx k) ∈ zWS) (hcas : (zEx k, zEx k) ∈ zCas)
    {len idx : Nat} {w : Int32} (hst : ∀ (H : Heap) (locs : List Loc) (cells slots : Nat) (L : Array Slot) (q : Nat), lv_has L nL [] → (∀ L', lv_has L' nL [] → W p l e R s m args below meth c H locs cells slots (zQ2 below z0 b D cA Kn args s M) (F0 m (x.handlerPc + len) L' [])) → W p l e R s m args below meth c H locs cells slots (zQ2 below z0 b D cA Kn args s M) (F0 m x.handlerPc L [.ref q]))
    (hk : Cond.constant own idx w ∈ zWS) (d1 : decode cc (x.handlerPc + len) = .ok (.ldc idx, 2)) (d2 : decode cc (x.handlerPc + len + 2) = .ok (.ireturn, 1)) : zHand2 p l e R s m args below meth c nL z0 b D cA (zQ2 below z0 b D cA Kn args s M) pc k (fun t => t.2.2.1 ≤ M ∧ Kn w t.1 t.2.1 t.2.2.2) := by
  intro t H locs L r q ce hP hI hL hce hcv hcl
  obtain ⟨hx, hb, hml, hown, hts, hg, hz, hz0, hlocks, -⟩ := C
  refine vx_catch hown pre x suf (htab.trans hsp) (fun z hz => Or.inr ⟨(hpass z hz).1, ?_⟩) hcov hx0 (hts _ hlink) (va_Nw.use rfl (hg.2.2.2.2.1 _ hcas)) hce hcv hcl ?_
  · obtain ⟨nm, h1, h2⟩ := (hpass z hz).2
    exact ⟨nm, hts _ h1, hg.2.2.2.1 _ h2⟩
  · refine hst H locs _ _ L q hL (fun L' hL' => ?_)
    refine lv_ldc hx hb hown (hts _ hk) d1 ?_
    exact vx_ret (W.widen (by show 0 + t.2.2.1 ≤ M; omega) (by show 0 + 6 * t.2.2.1 ≤ 6 * M; omega) (W.zret hx hb hr rfl (fun t9 ht hW => ⟨⟨w, t.1, t.2.1, t.2.2.2, rfl, hP.2, by rw [ht]; exact hI.1, by rw [ht]; exact hI.2.2⟩, hI.2.1.F ht⟩) hI.2.1.2.2 d2 hlocks))
/-- at most so many on the stack, none of two words -/
def qrs : Nat → List Value → Bool
  | _, [] => true
  | 0, _ :: _ => false
  | k + 1, v :: r => (v.category == 1) && qrs k r
theorem qrs_nil {k : Nat} : qrs k [] = true := by cases k <;> rfl
theorem qrs_int {k : Nat} {x : Int32} {r : List Value} : qrs (k + 1) (.int x :: r) = qrs k r := by simp [qrs, Value.category]
theorem qrs_ref {k x : Nat} {r : List Value} : qrs (k + 1) (.ref x :: r) = qrs k r := by simp [qrs, Value.category]
theorem qrs_ra {k x : Nat} {r : List Value} : qrs (k + 1) (.retAddr x :: r) = qrs k r := by simp [qrs, Value.category]
theorem qrs_sum : ∀ (k : Nat) (r : List Value), qrs k r = true → ((r.map (zc z0 b)).map fun v => v.category).sum ≤ k
  | k, [], _ => Nat.zero_le _
  | 0, v :: r, h => absurd h (by simp [qrs])
  | k + 1, v :: r, h => by
    rw [qrs, Bool.and_eq_true, beq_iff_eq] at h
    have h9 := qrs_sum k r h.2
    simp only [List.map_cons, List.sum_cons, zc_cat]
    omega
/-- a call of one of the law's own methods -/
def o_cL (n M MB : Nat) (ct : List Value → zMS → zMS → QK → Prop) (K : ZK QQ) : ZK QQ := fun ls st t => n ≤ st.length ∧ zok n (st.take n).reverse = true ∧ qrs 8 (st.drop n) = true ∧ t.2.2.1 + M ≤ MB ∧ ct (st.take n).reverse t.1 t.2.1 (fun v μ ν g => K ls (.int v :: st.drop n) (μ, ν, t.2.2.1 + M, t.2.2.2 + g))
theorem z2_after {M : Nat} {t : QQ} {H : Heap} {locs Lc : List Loc} {L : Array Slot} {ls : List (Option Value)} {r G : List Value} {T T' st₀ t2 : State} {v : Option Value} {x : Array Value} (hK : Snd p l e R s m args below meth c nL z0 b (I2 z0 b D cA c0 s) (c2 c0 d0) Q (pc + 3) K) (hI : I2 z0 b D cA c0 s t H locs) (hL : zL z0 b L nL ls)
    (h0 : st₀.heap = H) (X' : Stand p l e R s m args below meth c T' (locs ++ Lc) (c0 + t.2.2.1 + M) (d0 + 6 * t.2.2.1 + 6 * M)) (hLc : ∀ q ∈ Lc, z0 ≤ q.base) (e1 : T'.heap = t2.heap) (hq : zQn2 z0 b D cA (fun v μ ν g => K ls (.int v :: r) (μ, ν, t.2.2.1 + M, t.2.2.2 + g)) x st₀ (.returned v) t2)
    (st : Goes p e below T (F0 m pc L G) T' { (F0 m pc L G) with pc := pc + 3, stack := v.toList ++ r.map (zc z0 b) }) : ∃ t, Steps p.tables e below (T.setTop (F0 m pc L G)) t ∧ Q t := by
  obtain ⟨⟨v', μ, ν, g, hv, hkn, hP', hg'⟩, hF⟩ := hq
  cases hv
  obtain ⟨hP, hS, hgr⟩ := hI
  obtain ⟨k1, -, k3⟩ := vx_keep h0 e1 hS (fun q _ h => h) (fun q h => h) hLc hF
  have e9 : d0 + 6 * t.2.2.1 + 6 * M = d0 + 6 * (t.2.2.1 + M) := by omega
  rw [Nat.add_assoc, e9] at X'
  obtain ⟨t3, a1, b1⟩ := hK _ _ _ hkn T'.heap (locs ++ Lc) L ⟨by rw [e1]; exact hP', k3, by
    rw [h0] at hg'
    rw [e1]
    show s.heap.size + c0 + (t.2.2.2 + g) ≤ t2.heap.size
    omega⟩ hL T' rfl X'
  exact ⟨t3, st t3 a1, b1⟩
theorem z2_pre {a : List Value} {t : QQ} {H : Heap} {locs : List Loc} (hg : zG D cA s) (hz : zZ z0 s s.heap) (hz0 : z0 ≤ s.heap.size) (hI : I2 z0 b D cA c0 s t H locs) : ∀ U : State, U.heap = H → s.WarmedH U.vm → zPc2 z0 b D cA a t.1 t.2.1 (a.map (zc z0 b)).toArray U :=
  fun U hU hW => ⟨rfl, by rw [hU]; exact Nat.le_trans hz0 hI.2.1.1, hg.warm hW, hz.on hW (by rw [hU]; exact hI.2.1.2.1), by rw [hU]; exact hI.1⟩
theorem q_take {n : Nat} {st : List Value} (h : n ≤ st.length) : (st.map (zc z0 b)) = (((st.take n).reverse).map (zc z0 b)).reverse ++ (st.drop n).map (zc z0 b) := by
  rw [List.map_reverse, List.reverse_reverse, ← List.map_append, List.take_append_drop]
theorem k_cL (C : zCx p l R s m args meth c cc nL own z0 D cA 0) {idx maxL fr lo n M : Nat} {y : MethodName} {bytes : ByteArray} {ret : Option FieldType} {ct : List Value → zMS → zMS → QK → Prop} (hsem : SemL l z0 b D cA y (Cond.code y bytes maxL ret) fr lo n M ct) (hlink : Cond.methodLink own idx y ∈ zWS) (hstat : Cond.static y ∈ zWS) (hini : Cond.initialized y.cls ∈ zWS) (hcode : Cond.code y bytes maxL ret ∈ zWS)
    (hd : y.cls ≠ "java/lang/invoke/MethodHandle" ∧ y.cls ≠ "java/lang/invoke/VarHandle" ∧ (parseMethodDescriptor y.desc).map (fun d => d.parameters.length) = some n) (hR : fr + 1 ≤ R.frames ∧ 8 + (maxL + 11) + lo ≤ R.locals) (hRb : c0 + MB ≤ R.cells ∧ d0 + 6 * MB ≤ R.slots) (d : decode cc pc = .ok (.invokestatic idx, 3))
    (hK : Snd p l e R s m args below meth c nL z0 b (I2 z0 b D cA c0 s) (c2 c0 d0) Q (pc + 3) K) : Snd p l e R s m args below meth c nL z0 b (I2 z0 b D cA c0 s) (c2 c0 d0) Q pc (o_cL n M MB ct K) := by
  intro ls st t hq H locs L hI hL T hT X
  obtain ⟨hx, hb, hml, hown, hts, hg, hz, hz0, hlocks, -⟩ := C
  obtain ⟨hn, hok, hr4, hj, hq⟩ := hq
  have hG : GoodIn zWS (va_wsS own idx y (Cond.code y bytes maxL ret :: zWS)) := zGood (fun w hw => by
    simp only [va_wsS, List.mem_append, List.mem_cons, List.not_mem_nil, or_false] at hw
    rcases hw with (rfl | rfl | rfl) | rfl | hw <;> assumption)
  have hM := hsem _ _ _ _ hok hq
  obtain ⟨v, st₀, t2, T', Lc, g0, X', hLc, e1, e2, hqn, st9⟩ := va_runS (g := F0 m pc L (st.map (zc z0 b))) (H := H) (locs := locs) (cells := c0 + t.2.2.1) (slots := d0 + 6 * t.2.2.1) (e := e) (below := below) (meth := meth) (R := R) (As := ((st.take n).reverse).map (zc z0 b)) (rest := (st.drop n).map (zc z0 b)) ⟨hx, hb, hml, hown, hts⟩ hM (va_cwS n hts hG rfl rfl rfl hd hR) ⟨zPc2.blind, z2_pre hg hz hz0 hI⟩ rfl (by rw [List.length_map, List.length_reverse, List.length_take]; omega) hL.1.1 (q_take hn) (lv_room (qrs_sum _ _ hr4)) d ⟨by show c0 + t.2.2.1 + M ≤ R.cells; omega, by show d0 + 6 * t.2.2.1 + 6 * M ≤ R.slots; omega⟩ T hT X
  exact z2_after hK hI hL g0 X' hLc e1 hqn st9
theorem k_cLW (C : zCx p l R s m args meth c cc nL own z0 D cA 0) {idx maxL fr lo n M : Nat} {y : MethodName} {bytes : ByteArray} {hh : List (Nat × Nat × Nat × Nat)} {ct : List Value → zMS → zMS → QK → Prop} (hsem : SemL l z0 b D cA y (Cond.codeWith y bytes maxL (some .int) hh) fr lo n M ct) (hlink : Cond.methodLink own idx y ∈ zWS) (hstat : Cond.static y ∈ zWS) (hini : Cond.initialized y.cls ∈ zWS) (hcode : Cond.codeWith y bytes maxL (some .int) hh ∈ zWS)
    (hd : y.cls ≠ "java/lang/invoke/MethodHandle" ∧ y.cls ≠ "java/lang/invoke/VarHandle" ∧ (parseMethodDescriptor y.desc).map (fun d => d.parameters.length) = some n) (hR : fr + 1 ≤ R.frames ∧ 8 + (maxL + 11) + lo ≤ R.locals) (hRb : c0 + MB ≤ R.cells ∧ d0 + 6 * MB ≤ R.slots) (d : decode cc pc = .ok (.invokestatic idx, 3))
    (hK : Snd p l e R s m args below meth c nL z0 b (I2 z0 b D cA c0 s) (c2 c0 d0) Q (pc + 3) K) : Snd p l e R s m args below meth c nL z0 b (I2 z0 b D cA c0 s) (c2 c0 d0) Q pc (o_cL n M MB ct K) := by
  intro ls st t hq H locs L hI hL T hT X
  obtain ⟨hx, hb, hml, hown, hts, hg, hz, hz0, hlocks, -⟩ := C
  obtain ⟨hn, hok, hr4, hj, hq⟩ := hq
  have hG : GoodIn zWS (va_wsS own idx y (Cond.codeWith y bytes maxL (some .int) hh :: zWS)) := zGood (fun w hw => by
    simp only [va_wsS, List.mem_append, List.mem_cons, List.not_mem_nil, or_false] at hw
    rcases hw with (rfl | rfl | rfl) | rfl | hw <;> assumption)
  have hM := hsem _ _ _ _ hok hq
  obtain ⟨v, st₀, t2, T', Lc, g0, X', hLc, e1, e2, hqn, st9⟩ := vx_runSW (g := F0 m pc L (st.map (zc z0 b))) (H := H) (locs := locs) (cells := c0 + t.2.2.1) (slots := d0 + 6 * t.2.2.1) (e := e) (below := below) (meth := meth) (R := R) (As := ((st.take n).reverse).map (zc z0 b)) (rest := (st.drop n).map (zc z0 b)) ⟨hx, hb, hml, hown, hts⟩ hM (vx_cwSW n hts hG rfl rfl rfl hd hR) ⟨zPc2.blind, z2_pre hg hz hz0 hI⟩ rfl (by rw [List.length_map, List.length_reverse, List.length_take]; omega) hL.1.1 (q_take hn) (lv_room (qrs_sum _ _ hr4)) d ⟨by show c0 + t.2.2.1 + M ≤ R.cells; omega, by show d0 + 6 * t.2.2.1 + 6 * M ≤ R.slots; omega⟩ T hT X
  exact z2_after hK hI hL g0 X' hLc e1 hqn st9
/-- a body gives the method -/
theorem semL_of (hlt : l.stackTraces = false) {y : MethodName} {bytes : ByteArray} {maxL fr lo n M : Nat} {ret : Option FieldType} {ct : List Value → zMS → zMS → QK → Prop} (hy : plainName y.cls = true) (hn : n ≤ maxL)
    (body : ∀ (p : Program) (e : Env) (s : State) (m : MethodId) (args : Array Value) (below : List Frame) (meth : Method) (c : Code) (a : List Value) (μ ν : zMS) (Kn : QK), zok n a = true → ct a μ ν Kn → zCx p l (zRm fr M lo) s m args meth c bytes maxL y.cls z0 D cA 0 → meth.sig.returnType = ret →
      AW p l e (zRm fr M lo) s m args below meth c maxL z0 b (I2 z0 b D cA 0 s) (c2 0 0) (zQ2 below z0 b D cA Kn args s M) 0 (zE maxL a) [] (μ, ν, 0, 0)) : SemL l z0 b D cA y (Cond.code y bytes maxL ret) fr lo n M ct := by
  intro a μ ν Kn hok hN
  refine zMet (XC := fun _ _ _ => False) (vx_ofW hy rfl ?_) (fun _ _ _ h => h)
  intro p e s m args below meth c s₁ B hml htab hv
  obtain ⟨rfl, hz0, hg, hz, hP⟩ := hv
  have hts := atoms_spec (ws := Cond.code y bytes maxL ret :: zWS) B.pre
  have hC : zCx p l (zRm fr M lo) s m (a.map (zc z0 b)).toArray meth c bytes maxL y.cls z0 D cA 0 := ⟨B.exec, B.bytes, hml, findClass_of_methodNamed B.named, fun w hw => hts w (List.mem_cons_of_mem _ hw), hg, hz, hz0, B.notSynchronized, hlt, Nat.zero_le _, Nat.zero_le _⟩
  have hW := body p e s m (a.map (zc z0 b)).toArray below meth c a μ ν Kn hok hN hC B.returns s.heap [] _ ⟨hP, va_S.rf, Nat.le_refl _⟩ (zE_ok (zok_cat hok) (by rw [zok_len hok]; exact hn))
  rw [lg_entry_eq]
  exact hW
theorem semLW_of (hlt : l.stackTraces = false) {y : MethodName} {bytes : ByteArray} {maxL fr lo n M : Nat} {hh : List (Nat × Nat × Nat × Nat)} {ct : List Value → zMS → zMS → QK → Prop} (hy : plainName y.cls = true) (hn : n ≤ maxL)
    (body : ∀ (p : Program) (e : Env) (s : State) (m : MethodId) (args : Array Value) (below : List Frame) (meth : Method) (c : Code) (a : List Value) (μ ν : zMS) (Kn : QK), zok n a = true → ct a μ ν Kn → zCx p l (zRm fr M lo) s m args meth c bytes maxL y.cls z0 D cA 0 → meth.sig.returnType = some .int → c.exceptionTable.toList = tableOf hh →
      AW p l e (zRm fr M lo) s m args below meth c maxL z0 b (I2 z0 b D cA 0 s) (c2 0 0) (zQ2 below z0 b D cA Kn args s M) 0 (zE maxL a) [] (μ, ν, 0, 0)) : SemL l z0 b D cA y (Cond.codeWith y bytes maxL (some .int) hh) fr lo n M ct := by
  intro a μ ν Kn hok hN
  refine zMet (XC := fun _ _ _ => False) (vx_ofWH hy rfl ?_) (fun _ _ _ h => h)
  intro p e s m args below meth c s₁ B hml hv
  obtain ⟨rfl, hz0, hg, hz, hP⟩ := hv
  have hts := atoms_spec (ws := Cond.codeWith y bytes maxL (some .int) hh :: zWS) B.pre
  have hC : zCx p l (zRm fr M lo) s m (a.map (zc z0 b)).toArray meth c bytes maxL y.cls z0 D cA 0 := ⟨B.exec, B.bytes, hml, findClass_of_methodNamed B.named, fun w hw => hts w (List.mem_cons_of_mem _ hw), hg, hz, hz0, B.notSynchronized, hlt, Nat.zero_le _, Nat.zero_le _⟩
  have hW := body p e s m (a.map (zc z0 b)).toArray below meth c a μ ν Kn hok hN hC B.returns (vx_table (x := y) B (hts _ List.mem_cons_self)) s.heap [] _ ⟨hP, va_S.rf, Nat.le_refl _⟩ (zE_ok (zok_cat hok) (by rw [zok_len hok]; exact hn))
  rw [lg_entry_eq]
  exact hW
def o_rd0 (i : Bool) (MB : Nat) (g : zMS → zP) (K : ZK QQ) : ZK QQ := fun ls st t => match st with
  | .ref a :: r => a = qob i ∧ r.length ≤ 4 ∧ t.2.2.1 ≤ MB ∧ (g (qmu i t)).2.1 = 0 ∧ K ls (.int (g (qmu i t)).1 :: r) t
  | _ => False
theorem k_rd0 (C : zCx p l R s m args meth c cc nL own z0 D cA 0) {g : zMS → zP} {wp : Nat → Int32} {idx maxL fr lo : Nat} {y : MethodName} {bytes : ByteArray} {ret : Option FieldType} {exc : List Value → ZH → Nat → Prop} {ctN : List Value → ZH → (Option Value → ZH → Prop) → Prop} (hsem : ∀ z0 N, Sem l z0 b N D cA y bytes maxL ret fr lo (0 + 1) exc ctN) (hsim : ∀ (σ : zTS) (μ : zMS), zRel σ μ → zSim wp exc ctN (qI []) σ (g  μ)) (hwp : ∀ k, ¬ wp k = 0) (hro : ∀ (μ : zMS), ∃ k, (g  μ).2 = vThr μ k) (hy : y.cls = RX5) (hlink : Cond.methodLink own idx y ∈ zWS) (hinst : Cond.instanceMethod y ∈ zWS) (hsel : Cond.selects RX5 y y ∈ zWS) (hini : Cond.initialized RX5 ∈ zWS) (hcode : Cond.code y bytes maxL ret ∈ zWS) (hd : y.cls ≠ "java/lang/invoke/MethodHandle" ∧ y.cls ≠ "java/lang/invoke/VarHandle" ∧ (parseMethodDescriptor y.desc).map (fun d => d.parameters.length) = some 0) (hR : fr + 1 ≤ R.frames ∧ 8 + (maxL + 11) + lo ≤ R.locals) (hRb : c0 + MB ≤ R.cells ∧ d0 + 6 * MB ≤ R.slots) (d : decode cc pc = .ok (.invokevirtual idx, 3)) (hK : Snd p l e R s m args below meth c nL z0 b (I2 z0 b D cA c0 s) (c2 c0 d0) Q (pc + 3) K) : Snd p l e R s m args below meth c nL z0 b (I2 z0 b D cA c0 s) (c2 c0 d0) Q pc (o_rd0 i MB g K) := by
  intro ls st t hq H locs L hI hL
  unfold o_rd0 at hq
  split at hq
  · next a r =>
    obtain ⟨rfl, hr4, hj, h0, hq⟩ := hq
    intro T hT X
    rcases z2_V C (i := i) (t := t) (xs := []) (G := g (qmu i t)) hsem rfl hy hlink hinst hsel hini hcode hd hR (fun σ hσ => hsim  σ _ hσ) hwp d (r := r) hr4 hI hL.1.1 (cells := c0 + t.2.2.1) (slots := d0 + 6 * t.2.2.1) ⟨by omega, by omega⟩ (fun h => absurd h0 h) T hT X with ⟨-, T', Lc, hI', X', st⟩ | ⟨h9, -⟩
    · obtain ⟨k, hk⟩ := hro  (qmu i t)
      rw [hk] at hI'
      obtain ⟨t2, a1, b1⟩ := hK _ _ _ hq T'.heap (locs ++ Lc) L (I2_thr hI') hL T' rfl X'
      exact ⟨t2, st t2 a1, b1⟩
    · exact absurd h0 h9
  · exact hq.elim
def o_wr0 (i : Bool) (MB : Nat) (g : zMS → zP) (K : ZK QQ) : ZK QQ := fun ls st t => match st with
  | .ref a :: r => a = qob i ∧ r.length ≤ 4 ∧ t.2.2.1 ≤ MB ∧ (g (qmu i t)).2.1 = 0 ∧ K ls (.int (g (qmu i t)).1 :: r) (qset i t (g (qmu i t)).2)
  | _ => False
theorem k_wr0 (C : zCx p l R s m args meth c cc nL own z0 D cA 0) {g : zMS → zP} {wp : Nat → Int32} {idx maxL fr lo : Nat} {y : MethodName} {bytes : ByteArray} {ret : Option FieldType} {exc : List Value → ZH → Nat → Prop} {ctN : List Value → ZH → (Option Value → ZH → Prop) → Prop} (hsem : ∀ z0 N, Sem l z0 b N D cA y bytes maxL ret fr lo (0 + 1) exc ctN) (hsim : ∀ (σ : zTS) (μ : zMS), zRel σ μ → zSim wp exc ctN (qI []) σ (g  μ)) (hwp : ∀ k, ¬ wp k = 0) (hy : y.cls = RX5) (hlink : Cond.methodLink own idx y ∈ zWS) (hinst : Cond.instanceMethod y ∈ zWS) (hsel : Cond.selects RX5 y y ∈ zWS) (hini : Cond.initialized RX5 ∈ zWS) (hcode : Cond.code y bytes maxL ret ∈ zWS) (hd : y.cls ≠ "java/lang/invoke/MethodHandle" ∧ y.cls ≠ "java/lang/invoke/VarHandle" ∧ (parseMethodDescriptor y.desc).map (fun d => d.parameters.length) = some 0) (hR : fr + 1 ≤ R.frames ∧ 8 + (maxL + 11) + lo ≤ R.locals) (hRb : c0 + MB ≤ R.cells ∧ d0 + 6 * MB ≤ R.slots) (d : decode cc pc = .ok (.invokevirtual idx, 3)) (hK : Snd p l e R s m args below meth c nL z0 b (I2 z0 b D cA c0 s) (c2 c0 d0) Q (pc + 3) K) : Snd p l e R s m args below meth c nL z0 b (I2 z0 b D cA c0 s) (c2 c0 d0) Q pc (o_wr0 i MB g K) := by
  intro ls st t hq H locs L hI hL
  unfold o_wr0 at hq
  split at hq
  · next a r =>
    obtain ⟨rfl, hr4, hj, h0, hq⟩ := hq
    intro T hT X
    rcases z2_V C (i := i) (t := t) (xs := []) (G := g (qmu i t)) hsem rfl hy hlink hinst hsel hini hcode hd hR (fun σ hσ => hsim  σ _ hσ) hwp d (r := r) hr4 hI hL.1.1 (cells := c0 + t.2.2.1) (slots := d0 + 6 * t.2.2.1) ⟨by omega, by omega⟩ (fun h => absurd h0 h) T hT X with ⟨-, T', Lc, hI', X', st⟩ | ⟨h9, -⟩
    · have hW := hK _ _ _ hq T'.heap (locs ++ Lc) L hI' hL
      have hc : c2 c0 d0 (qset i t (g (qmu i t)).2) = (c0 + t.2.2.1, d0 + 6 * t.2.2.1) := by
        show (c0 + (qset i t (g (qmu i t)).2).2.2.1, d0 + 6 * (qset i t (g (qmu i t)).2).2.2.1) = _
        rw [qset_j]
      rw [hc] at hW
      obtain ⟨t2, a1, b1⟩ := hW T' rfl X'
      exact ⟨t2, st t2 a1, b1⟩
    · exact absurd h0 h9
  · exact hq.elim
def o_tr0 (i : Bool) (MB : Nat) (Pr : Prop) (A : Int32 → Prop) (g : zMS → zP) (Kh : QQ → Prop) (K : ZK QQ) : ZK QQ := fun ls st t => match st with
  | .ref a :: r => a = qob i ∧ r.length ≤ 4 ∧ t.2.2.1 + 1 ≤ MB ∧ Pr ∧ ((g (qmu i t)).2.1 = 0 → K ls (.int (g (qmu i t)).1 :: r) (qset i t (g (qmu i t)).2)) ∧ (¬ (g (qmu i t)).2.1 = 0 → A (g (qmu i t)).2.1 ∧ Kh (qex t))
  | _ => False
theorem k_tr0 (C : zCx p l R s m args meth c cc nL own z0 D cA 0) {g : zMS → zP} {wp : Nat → Int32} {idx maxL fr lo : Nat} {y : MethodName} {bytes : ByteArray} {ret : Option FieldType} {exc : List Value → ZH → Nat → Prop} {ctN : List Value → ZH → (Option Value → ZH → Prop) → Prop} (hsem : ∀ z0 N, Sem l z0 b N D cA y bytes maxL ret fr lo (0 + 1) exc ctN) {Pr : Prop} (hsim : ∀ (σ : zTS) (μ : zMS), Pr → zRel σ μ → zSim wp exc ctN (qI []) σ (g  μ)) (hwp : ∀ k, ¬ wp k = 0) (hy : y.cls = RX5) (hlink : Cond.methodLink own idx y ∈ zWS) (hinst : Cond.instanceMethod y ∈ zWS) (hsel : Cond.selects RX5 y y ∈ zWS) (hini : Cond.initialized RX5 ∈ zWS) (hcode : Cond.code y bytes maxL ret ∈ zWS) (hd : y.cls ≠ "java/lang/invoke/MethodHandle" ∧ y.cls ≠ "java/lang/invoke/VarHandle" ∧ (parseMethodDescriptor y.desc).map (fun d => d.parameters.length) = some 0) (hR : fr + 1 ≤ R.frames ∧ 8 + (maxL + 11) + lo ≤ R.locals) {A : Int32 → Prop} {Kh : QQ → Prop} (hRb : MB ≤ R.cells ∧ 6 * MB ≤ R.slots) (d : decode cc pc = .ok (.invokevirtual idx, 3)) (hand : ∀ k, (∃ a h, exc a h k) → ∀ cd, cd = wp k → A cd → zHand2 p l e R s m args below meth c nL z0 b D cA Q pc k Kh) (hK : Snd p l e R s m args below meth c nL z0 b (I2 z0 b D cA 0 s) (c2 0 0) Q (pc + 3) K) : Snd p l e R s m args below meth c nL z0 b (I2 z0 b D cA 0 s) (c2 0 0) Q pc (o_tr0 i MB Pr A g Kh K) := by
  intro ls st t hq H locs L hI hL
  unfold o_tr0 at hq
  split at hq
  · next a r =>
    obtain ⟨rfl, hr4, hj, hpr, hq1, hq2⟩ := hq
    intro T hT X
    rcases z2_V C (i := i) (t := t) (xs := []) (G := g (qmu i t)) hsem rfl hy hlink hinst hsel hini hcode hd hR (fun σ hσ => hsim  σ _ hpr hσ) hwp d (r := r) hr4 hI hL.1.1 (cells := 0 + t.2.2.1) (slots := 0 + 6 * t.2.2.1) ⟨by omega, by omega⟩ (fun h => ⟨by omega, by omega⟩) T hT X with ⟨h0, T', Lc, hI', X', st⟩ | ⟨h9, k, q, ce, T', Lc, hw, hex, hI', X', hce, hcv, hcl, st⟩
    · have hW := hK _ _ _ (hq1 h0) T'.heap (locs ++ Lc) L hI' hL
      have hc : c2 0 0 (qset i t (g (qmu i t)).2) = (0 + t.2.2.1, 0 + 6 * t.2.2.1) := by
        show (0 + (qset i t (g (qmu i t)).2).2.2.1, 0 + 6 * (qset i t (g (qmu i t)).2).2.2.1) = _
        rw [qset_j]
      rw [hc] at hW
      obtain ⟨t2, a1, b1⟩ := hW T' rfl X'
      exact ⟨t2, st t2 a1, b1⟩
    · obtain ⟨hA, hKh⟩ := hq2 h9
      obtain ⟨t2, a1, b1⟩ := hand k hex _ hw hA (qex t) T'.heap (locs ++ Lc) L (r.map (zc z0 b)) q ce hKh hI' (lv_sub hL.1 [] rfl) hce hcv hcl T' rfl X'
      exact ⟨t2, st.trans a1, b1⟩
  · exact hq.elim
def o_rd1 (i : Bool) (MB : Nat) (g : Int32 → zMS → zP) (K : ZK QQ) : ZK QQ := fun ls st t => match st with
  | .int x0 :: .ref a :: r => a = qob i ∧ r.length ≤ 4 ∧ t.2.2.1 ≤ MB ∧ (g x0 (qmu i t)).2.1 = 0 ∧ K ls (.int (g x0 (qmu i t)).1 :: r) t
  | _ => False
theorem k_rd1 (C : zCx p l R s m args meth c cc nL own z0 D cA 0) {g : Int32 → zMS → zP} {wp : Nat → Int32} {idx maxL fr lo : Nat} {y : MethodName} {bytes : ByteArray} {ret : Option FieldType} {exc : List Value → ZH → Nat → Prop} {ctN : List Value → ZH → (Option Value → ZH → Prop) → Prop} (hsem : ∀ z0 N, Sem l z0 b N D cA y bytes maxL ret fr lo (1 + 1) exc ctN) (hsim : ∀ (x0 : Int32) (σ : zTS) (μ : zMS), zRel σ μ → zSim wp exc ctN (qI [x0]) σ (g x0 μ)) (hwp : ∀ k, ¬ wp k = 0) (hro : ∀ (x0 : Int32) (μ : zMS), ∃ k, (g x0 μ).2 = vThr μ k) (hy : y.cls = RX5) (hlink : Cond.methodLink own idx y ∈ zWS) (hinst : Cond.instanceMethod y ∈ zWS) (hsel : Cond.selects RX5 y y ∈ zWS) (hini : Cond.initialized RX5 ∈ zWS) (hcode : Cond.code y bytes maxL ret ∈ zWS) (hd : y.cls ≠ "java/lang/invoke/MethodHandle" ∧ y.cls ≠ "java/lang/invoke/VarHandle" ∧ (parseMethodDescriptor y.desc).map (fun d => d.parameters.length) = some 1) (hR : fr + 1 ≤ R.frames ∧ 8 + (maxL + 11) + lo ≤ R.locals) (hRb : c0 + MB ≤ R.cells ∧ d0 + 6 * MB ≤ R.slots) (d : decode cc pc = .ok (.invokevirtual idx, 3)) (hK : Snd p l e R s m args below meth c nL z0 b (I2 z0 b D cA c0 s) (c2 c0 d0) Q (pc + 3) K) : Snd p l e R s m args below meth c nL z0 b (I2 z0 b D cA c0 s) (c2 c0 d0) Q pc (o_rd1 i MB g K) := by
  intro ls st t hq H locs L hI hL
  unfold o_rd1 at hq
  split at hq
  · next x0 a r =>
    obtain ⟨rfl, hr4, hj, h0, hq⟩ := hq
    intro T hT X
    rcases z2_V C (i := i) (t := t) (xs := [x0]) (G := g x0 (qmu i t)) hsem rfl hy hlink hinst hsel hini hcode hd hR (fun σ hσ => hsim x0 σ _ hσ) hwp d (r := r) hr4 hI hL.1.1 (cells := c0 + t.2.2.1) (slots := d0 + 6 * t.2.2.1) ⟨by omega, by omega⟩ (fun h => absurd h0 h) T hT X with ⟨-, T', Lc, hI', X', st⟩ | ⟨h9, -⟩
    · obtain ⟨k, hk⟩ := hro x0 (qmu i t)
      rw [hk] at hI'
      obtain ⟨t2, a1, b1⟩ := hK _ _ _ hq T'.heap (locs ++ Lc) L (I2_thr hI') hL T' rfl X'
      exact ⟨t2, st t2 a1, b1⟩
    · exact absurd h0 h9
  · exact hq.elim
def o_wr1 (i : Bool) (MB : Nat) (g : Int32 → zMS → zP) (K : ZK QQ) : ZK QQ := fun ls st t => match st with
  | .int x0 :: .ref a :: r => a = qob i ∧ r.length ≤ 4 ∧ t.2.2.1 ≤ MB ∧ (g x0 (qmu i t)).2.1 = 0 ∧ K ls (.int (g x0 (qmu i t)).1 :: r) (qset i t (g x0 (qmu i t)).2)
  | _ => False
theorem k_wr1 (C : zCx p l R s m args meth c cc nL own z0 D cA 0) {g : Int32 → zMS → zP} {wp : Nat → Int32} {idx maxL fr lo : Nat} {y : MethodName} {bytes : ByteArray} {ret : Option FieldType} {exc : List Value → ZH → Nat → Prop} {ctN : List Value → ZH → (Option Value → ZH → Prop) → Prop} (hsem : ∀ z0 N, Sem l z0 b N D cA y bytes maxL ret fr lo (1 + 1) exc ctN) (hsim : ∀ (x0 : Int32) (σ : zTS) (μ : zMS), zRel σ μ → zSim wp exc ctN (qI [x0]) σ (g x0 μ)) (hwp : ∀ k, ¬ wp k = 0) (hy : y.cls = RX5) (hlink : Cond.methodLink own idx y ∈ zWS) (hinst : Cond.instanceMethod y ∈ zWS) (hsel : Cond.selects RX5 y y ∈ zWS) (hini : Cond.initialized RX5 ∈ zWS) (hcode : Cond.code y bytes maxL ret ∈ zWS) (hd : y.cls ≠ "java/lang/invoke/MethodHandle" ∧ y.cls ≠ "java/lang/invoke/VarHandle" ∧ (parseMethodDescriptor y.desc).map (fun d => d.parameters.length) = some 1) (hR : fr + 1 ≤ R.frames ∧ 8 + (maxL + 11) + lo ≤ R.locals) (hRb : c0 + MB ≤ R.cells ∧ d0 + 6 * MB ≤ R.slots) (d : decode cc pc = .ok (.invokevirtual idx, 3)) (hK : Snd p l e R s m args below meth c nL z0 b (I2 z0 b D cA c0 s) (c2 c0 d0) Q (pc + 3) K) : Snd p l e R s m args below meth c nL z0 b (I2 z0 b D cA c0 s) (c2 c0 d0) Q pc (o_wr1 i MB g K) := by
  intro ls st t hq H locs L hI hL
  unfold o_wr1 at hq
  split at hq
  · next x0 a r =>
    obtain ⟨rfl, hr4, hj, h0, hq⟩ := hq
    intro T hT X
    rcases z2_V C (i := i) (t := t) (xs := [x0]) (G := g x0 (qmu i t)) hsem rfl hy hlink hinst hsel hini hcode hd hR (fun σ hσ => hsim x0 σ _ hσ) hwp d (r := r) hr4 hI hL.1.1 (cells := c0 + t.2.2.1) (slots := d0 + 6 * t.2.2.1) ⟨by omega, by omega⟩ (fun h => absurd h0 h) T hT X with ⟨-, T', Lc, hI', X', st⟩ | ⟨h9, -⟩
    · have hW := hK _ _ _ hq T'.heap (locs ++ Lc) L hI' hL
      have hc : c2 c0 d0 (qset i t (g x0 (qmu i t)).2) = (c0 + t.2.2.1, d0 + 6 * t.2.2.1) := by
        show (c0 + (qset i t (g x0 (qmu i t)).2).2.2.1, d0 + 6 * (qset i t (g x0 (qmu i t)).2).2.2.1) = _
        rw [qset_j]
      rw [hc] at hW
      obtain ⟨t2, a1, b1⟩ := hW T' rfl X'
      exact ⟨t2, st t2 a1, b1⟩
    · exact absurd h0 h9
  · exact hq.elim
def o_tr1 (i : Bool) (MB : Nat) (Pr : Int32 → Prop) (A : Int32 → Prop) (g : Int32 → zMS → zP) (Kh : QQ → Prop) (K : ZK QQ) : ZK QQ := fun ls st t => match st with
  | .int x0 :: .ref a :: r => a = qob i ∧ r.length ≤ 4 ∧ t.2.2.1 + 1 ≤ MB ∧ Pr x0 ∧ ((g x0 (qmu i t)).2.1 = 0 → K ls (.int (g x0 (qmu i t)).1 :: r) (qset i t (g x0 (qmu i t)).2)) ∧ (¬ (g x0 (qmu i t)).2.1 = 0 → A (g x0 (qmu i t)).2.1 ∧ Kh (qex t))
  | _ => False
theorem k_tr1 (C : zCx p l R s m args meth c cc nL own z0 D cA 0) {g : Int32 → zMS → zP} {wp : Nat → Int32} {idx maxL fr lo : Nat} {y : MethodName} {bytes : ByteArray} {ret : Option FieldType} {exc : List Value → ZH → Nat → Prop} {ctN : List Value → ZH → (Option Value → ZH → Prop) → Prop} (hsem : ∀ z0 N, Sem l z0 b N D cA y bytes maxL ret fr lo (1 + 1) exc ctN) {Pr : Int32 → Prop} (hsim : ∀ (x0 : Int32) (σ : zTS) (μ : zMS), Pr x0 → zRel σ μ → zSim wp exc ctN (qI [x0]) σ (g x0 μ)) (hwp : ∀ k, ¬ wp k = 0) (hy : y.cls = RX5) (hlink : Cond.methodLink own idx y ∈ zWS) (hinst : Cond.instanceMethod y ∈ zWS) (hsel : Cond.selects RX5 y y ∈ zWS) (hini : Cond.initialized RX5 ∈ zWS) (hcode : Cond.code y bytes maxL ret ∈ zWS) (hd : y.cls ≠ "java/lang/invoke/MethodHandle" ∧ y.cls ≠ "java/lang/invoke/VarHandle" ∧ (parseMethodDescriptor y.desc).map (fun d => d.parameters.length) = some 1) (hR : fr + 1 ≤ R.frames ∧ 8 + (maxL + 11) + lo ≤ R.locals) {A : Int32 → Prop} {Kh : QQ → Prop} (hRb : MB ≤ R.cells ∧ 6 * MB ≤ R.slots) (d : decode cc pc = .ok (.invokevirtual idx, 3)) (hand : ∀ k, (∃ a h, exc a h k) → ∀ cd, cd = wp k → A cd → zHand2 p l e R s m args below meth c nL z0 b D cA Q pc k Kh) (hK : Snd p l e R s m args below meth c nL z0 b (I2 z0 b D cA 0 s) (c2 0 0) Q (pc + 3) K) : Snd p l e R s m args below meth c nL z0 b (I2 z0 b D cA 0 s) (c2 0 0) Q pc (o_tr1 i MB Pr A g Kh K) := by
  intro ls st t hq H locs L hI hL
  unfold o_tr1 at hq
  split at hq
  · next x0 a r =>
    obtain ⟨rfl, hr4, hj, hpr, hq1, hq2⟩ := hq
    intro T hT X
    rcases z2_V C (i := i) (t := t) (xs := [x0]) (G := g x0 (qmu i t)) hsem rfl hy hlink hinst hsel hini hcode hd hR (fun σ hσ => hsim x0 σ _ hpr hσ) hwp d (r := r) hr4 hI hL.1.1 (cells := 0 + t.2.2.1) (slots := 0 + 6 * t.2.2.1) ⟨by omega, by omega⟩ (fun h => ⟨by omega, by omega⟩) T hT X with ⟨h0, T', Lc, hI', X', st⟩ | ⟨h9, k, q, ce, T', Lc, hw, hex, hI', X', hce, hcv, hcl, st⟩
    · have hW := hK _ _ _ (hq1 h0) T'.heap (locs ++ Lc) L hI' hL
      have hc : c2 0 0 (qset i t (g x0 (qmu i t)).2) = (0 + t.2.2.1, 0 + 6 * t.2.2.1) := by
        show (0 + (qset i t (g x0 (qmu i t)).2).2.2.1, 0 + 6 * (qset i t (g x0 (qmu i t)).2).2.2.1) = _
        rw [qset_j]
      rw [hc] at hW
      obtain ⟨t2, a1, b1⟩ := hW T' rfl X'
      exact ⟨t2, st t2 a1, b1⟩
    · obtain ⟨hA, hKh⟩ := hq2 h9
      obtain ⟨t2, a1, b1⟩ := hand k hex _ hw hA (qex t) T'.heap (locs ++ Lc) L (r.map (zc z0 b)) q ce hKh hI' (lv_sub hL.1 [] rfl) hce hcv hcl T' rfl X'
      exact ⟨t2, st.trans a1, b1⟩
  · exact hq.elim
def o_to1 (i : Bool) (MB : Nat) (Pr : Int32 → Prop) (A : Int32 → Prop) (g : Int32 → zMS → zP) (Kh : QQ → Prop) (K : ZK QQ) : ZK QQ := fun ls st t => match st with
  | .int x0 :: .ref a :: r => a = qob i ∧ r.length ≤ 4 ∧ t.2.2.1 + 1 ≤ MB ∧ Pr x0 ∧ ((g x0 (qmu i t)).2.1 = 0 → K ls (.int (g x0 (qmu i t)).1 :: r) t) ∧ (¬ (g x0 (qmu i t)).2.1 = 0 → A (g x0 (qmu i t)).2.1 ∧ Kh (qex t))
  | _ => False
theorem k_to1 (C : zCx p l R s m args meth c cc nL own z0 D cA 0) {g : Int32 → zMS → zP} {wp : Nat → Int32} {idx maxL fr lo : Nat} {y : MethodName} {bytes : ByteArray} {ret : Option FieldType} {exc : List Value → ZH → Nat → Prop} {ctN : List Value → ZH → (Option Value → ZH → Prop) → Prop} (hsem : ∀ z0 N, Sem l z0 b N D cA y bytes maxL ret fr lo (1 + 1) exc ctN) {Pr : Int32 → Prop} (hsim : ∀ (x0 : Int32) (σ : zTS) (μ : zMS), Pr x0 → zRel σ μ → zSim wp exc ctN (qI [x0]) σ (g x0 μ)) (hwp : ∀ k, ¬ wp k = 0) (hro : ∀ (x0 : Int32) (μ : zMS), ∃ k, (g x0 μ).2 = vThr μ k) (hy : y.cls = RX5) (hlink : Cond.methodLink own idx y ∈ zWS) (hinst : Cond.instanceMethod y ∈ zWS) (hsel : Cond.selects RX5 y y ∈ zWS) (hini : Cond.initialized RX5 ∈ zWS) (hcode : Cond.code y bytes maxL ret ∈ zWS) (hd : y.cls ≠ "java/lang/invoke/MethodHandle" ∧ y.cls ≠ "java/lang/invoke/VarHandle" ∧ (parseMethodDescriptor y.desc).map (fun d => d.parameters.length) = some 1) (hR : fr + 1 ≤ R.frames ∧ 8 + (maxL + 11) + lo ≤ R.locals) {A : Int32 → Prop} {Kh : QQ → Prop} (hRb : MB ≤ R.cells ∧ 6 * MB ≤ R.slots) (d : decode cc pc = .ok (.invokevirtual idx, 3)) (hand : ∀ k, (∃ a h, exc a h k) → ∀ cd, cd = wp k → A cd → zHand2 p l e R s m args below meth c nL z0 b D cA Q pc k Kh) (hK : Snd p l e R s m args below meth c nL z0 b (I2 z0 b D cA 0 s) (c2 0 0) Q (pc + 3) K) : Snd p l e R s m args below meth c nL z0 b (I2 z0 b D cA 0 s) (c2 0 0) Q pc (o_to1 i MB Pr A g Kh K) := by
  intro ls st t hq H locs L hI hL
  unfold o_to1 at hq
  split at hq
  · next x0 a r =>
    obtain ⟨rfl, hr4, hj, hpr, hq1, hq2⟩ := hq
    intro T hT X
    rcases z2_V C (i := i) (t := t) (xs := [x0]) (G := g x0 (qmu i t)) hsem rfl hy hlink hinst hsel hini hcode hd hR (fun σ hσ => hsim x0 σ _ hpr hσ) hwp d (r := r) hr4 hI hL.1.1 (cells := 0 + t.2.2.1) (slots := 0 + 6 * t.2.2.1) ⟨by omega, by omega⟩ (fun h => ⟨by omega, by omega⟩) T hT X with ⟨h0, T', Lc, hI', X', st⟩ | ⟨h9, k, q, ce, T', Lc, hw, hex, hI', X', hce, hcv, hcl, st⟩
    · obtain ⟨k, hk⟩ := hro x0 (qmu i t)
      rw [hk] at hI'
      obtain ⟨t2, a1, b1⟩ := hK _ _ _ (hq1 h0) T'.heap (locs ++ Lc) L (I2_thr hI') hL T' rfl X'
      exact ⟨t2, st t2 a1, b1⟩
    · obtain ⟨hA, hKh⟩ := hq2 h9
      obtain ⟨t2, a1, b1⟩ := hand k hex _ hw hA (qex t) T'.heap (locs ++ Lc) L (r.map (zc z0 b)) q ce hKh hI' (lv_sub hL.1 [] rfl) hce hcv hcl T' rfl X'
      exact ⟨t2, st.trans a1, b1⟩
  · exact hq.elim
def o_rd2 (i : Bool) (MB : Nat) (g : Int32 → Int32 → zMS → zP) (K : ZK QQ) : ZK QQ := fun ls st t => match st with
  | .int x1 :: .int x0 :: .ref a :: r => a = qob i ∧ r.length ≤ 4 ∧ t.2.2.1 ≤ MB ∧ (g x0 x1 (qmu i t)).2.1 = 0 ∧ K ls (.int (g x0 x1 (qmu i t)).1 :: r) t
  | _ => False
theorem k_rd2 (C : zCx p l R s m args meth c cc nL own z0 D cA 0) {g : Int32 → Int32 → zMS → zP} {wp : Nat → Int32} {idx maxL fr lo : Nat} {y : MethodName} {bytes : ByteArray} {ret : Option FieldType} {exc : List Value → ZH → Nat → Prop} {ctN : List Value → ZH → (Option Value → ZH → Prop) → Prop} (hsem : ∀ z0 N, Sem l z0 b N D cA y bytes maxL ret fr lo (2 + 1) exc ctN) (hsim : ∀ (x0 x1 : Int32) (σ : zTS) (μ : zMS), zRel σ μ → zSim wp exc ctN (qI [x0, x1]) σ (g x0 x1 μ)) (hwp : ∀ k, ¬ wp k = 0) (hro : ∀ (x0 x1 : Int32) (μ : zMS), ∃ k, (g x0 x1 μ).2 = vThr μ k) (hy : y.cls = RX5) (hlink : Cond.methodLink own idx y ∈ zWS) (hinst : Cond.instanceMethod y ∈ zWS) (hsel : Cond.selects RX5 y y ∈ zWS) (hini : Cond.initialized RX5 ∈ zWS) (hcode : Cond.code y bytes maxL ret ∈ zWS) (hd : y.cls ≠ "java/lang/invoke/MethodHandle" ∧ y.cls ≠ "java/lang/invoke/VarHandle" ∧ (parseMethodDescriptor y.desc).map (fun d => d.parameters.length) = some 2) (hR : fr + 1 ≤ R.frames ∧ 8 + (maxL + 11) + lo ≤ R.locals) (hRb : c0 + MB ≤ R.cells ∧ d0 + 6 * MB ≤ R.slots) (d : decode cc pc = .ok (.invokevirtual idx, 3)) (hK : Snd p l e R s m args below meth c nL z0 b (I2 z0 b D cA c0 s) (c2 c0 d0) Q (pc + 3) K) : Snd p l e R s m args below meth c nL z0 b (I2 z0 b D cA c0 s) (c2 c0 d0) Q pc (o_rd2 i MB g K) := by
  intro ls st t hq H locs L hI hL
  unfold o_rd2 at hq
  split at hq
  · next x1 x0 a r =>
    obtain ⟨rfl, hr4, hj, h0, hq⟩ := hq
    intro T hT X
    rcases z2_V C (i := i) (t := t) (xs := [x0, x1]) (G := g x0 x1 (qmu i t)) hsem rfl hy hlink hinst hsel hini hcode hd hR (fun σ hσ => hsim x0 x1 σ _ hσ) hwp d (r := r) hr4 hI hL.1.1 (cells := c0 + t.2.2.1) (slots := d0 + 6 * t.2.2.1) ⟨by omega, by omega⟩ (fun h => absurd h0 h) T hT X with ⟨-, T', Lc, hI', X', st⟩ | ⟨h9, -⟩
    · obtain ⟨k, hk⟩ := hro x0 x1 (qmu i t)
      rw [hk] at hI'
      obtain ⟨t2, a1, b1⟩ := hK _ _ _ hq T'.heap (locs ++ Lc) L (I2_thr hI') hL T' rfl X'
      exact ⟨t2, st t2 a1, b1⟩
    · exact absurd h0 h9
  · exact hq.elim
def o_wr2 (i : Bool) (MB : Nat) (g : Int32 → Int32 → zMS → zP) (K : ZK QQ) : ZK QQ := fun ls st t => match st with
  | .int x1 :: .int x0 :: .ref a :: r => a = qob i ∧ r.length ≤ 4 ∧ t.2.2.1 ≤ MB ∧ (g x0 x1 (qmu i t)).2.1 = 0 ∧ K ls (.int (g x0 x1 (qmu i t)).1 :: r) (qset i t (g x0 x1 (qmu i t)).2)
  | _ => False
theorem k_wr2 (C : zCx p l R s m args meth c cc nL own z0 D cA 0) {g : Int32 → Int32 → zMS → zP} {wp : Nat → Int32} {idx maxL fr lo : Nat} {y : MethodName} {bytes : ByteArray} {ret : Option FieldType} {exc : List Value → ZH → Nat → Prop} {ctN : List Value → ZH → (Option Value → ZH → Prop) → Prop} (hsem : ∀ z0 N, Sem l z0 b N D cA y bytes maxL ret fr lo (2 + 1) exc ctN) (hsim : ∀ (x0 x1 : Int32) (σ : zTS) (μ : zMS), zRel σ μ → zSim wp exc ctN (qI [x0, x1]) σ (g x0 x1 μ)) (hwp : ∀ k, ¬ wp k = 0) (hy : y.cls = RX5) (hlink : Cond.methodLink own idx y ∈ zWS) (hinst : Cond.instanceMethod y ∈ zWS) (hsel : Cond.selects RX5 y y ∈ zWS) (hini : Cond.initialized RX5 ∈ zWS) (hcode : Cond.code y bytes maxL ret ∈ zWS) (hd : y.cls ≠ "java/lang/invoke/MethodHandle" ∧ y.cls ≠ "java/lang/invoke/VarHandle" ∧ (parseMethodDescriptor y.desc).map (fun d => d.parameters.length) = some 2) (hR : fr + 1 ≤ R.frames ∧ 8 + (maxL + 11) + lo ≤ R.locals) (hRb : c0 + MB ≤ R.cells ∧ d0 + 6 * MB ≤ R.slots) (d : decode cc pc = .ok (.invokevirtual idx, 3)) (hK : Snd p l e R s m args below meth c nL z0 b (I2 z0 b D cA c0 s) (c2 c0 d0) Q (pc + 3) K) : Snd p l e R s m args below meth c nL z0 b (I2 z0 b D cA c0 s) (c2 c0 d0) Q pc (o_wr2 i MB g K) := by
  intro ls st t hq H locs L hI hL
  unfold o_wr2 at hq
  split at hq
  · next x1 x0 a r =>
    obtain ⟨rfl, hr4, hj, h0, hq⟩ := hq
    intro T hT X
    rcases z2_V C (i := i) (t := t) (xs := [x0, x1]) (G := g x0 x1 (qmu i t)) hsem rfl hy hlink hinst hsel hini hcode hd hR (fun σ hσ => hsim x0 x1 σ _ hσ) hwp d (r := r) hr4 hI hL.1.1 (cells := c0 + t.2.2.1) (slots := d0 + 6 * t.2.2.1) ⟨by omega, by omega⟩ (fun h => absurd h0 h) T hT X with ⟨-, T', Lc, hI', X', st⟩ | ⟨h9, -⟩
    · have hW := hK _ _ _ hq T'.heap (locs ++ Lc) L hI' hL
      have hc : c2 c0 d0 (qset i t (g x0 x1 (qmu i t)).2) = (c0 + t.2.2.1, d0 + 6 * t.2.2.1) := by
        show (c0 + (qset i t (g x0 x1 (qmu i t)).2).2.2.1, d0 + 6 * (qset i t (g x0 x1 (qmu i t)).2).2.2.1) = _
        rw [qset_j]
      rw [hc] at hW
      obtain ⟨t2, a1, b1⟩ := hW T' rfl X'
      exact ⟨t2, st t2 a1, b1⟩
    · exact absurd h0 h9
  · exact hq.elim
def o_tr2 (i : Bool) (MB : Nat) (Pr : Int32 → Int32 → Prop) (A : Int32 → Prop) (g : Int32 → Int32 → zMS → zP) (Kh : QQ → Prop) (K : ZK QQ) : ZK QQ := fun ls st t => match st with
  | .int x1 :: .int x0 :: .ref a :: r => a = qob i ∧ r.length ≤ 4 ∧ t.2.2.1 + 1 ≤ MB ∧ Pr x0 x1 ∧ ((g x0 x1 (qmu i t)).2.1 = 0 → K ls (.int (g x0 x1 (qmu i t)).1 :: r) (qset i t (g x0 x1 (qmu i t)).2)) ∧ (¬ (g x0 x1 (qmu i t)).2.1 = 0 → A (g x0 x1 (qmu i t)).2.1 ∧ Kh (qex t))
  | _ => False
theorem k_tr2 (C : zCx p l R s m args meth c cc nL own z0 D cA 0) {g : Int32 → Int32 → zMS → zP} {wp : Nat → Int32} {idx maxL fr lo : Nat} {y : MethodName} {bytes : ByteArray} {ret : Option FieldType} {exc : List Value → ZH → Nat → Prop} {ctN : List Value → ZH → (Option Value → ZH → Prop) → Prop} (hsem : ∀ z0 N, Sem l z0 b N D cA y bytes maxL ret fr lo (2 + 1) exc ctN) {Pr : Int32 → Int32 → Prop} (hsim : ∀ (x0 x1 : Int32) (σ : zTS) (μ : zMS), Pr x0 x1 → zRel σ μ → zSim wp exc ctN (qI [x0, x1]) σ (g x0 x1 μ)) (hwp : ∀ k, ¬ wp k = 0) (hy : y.cls = RX5) (hlink : Cond.methodLink own idx y ∈ zWS) (hinst : Cond.instanceMethod y ∈ zWS) (hsel : Cond.selects RX5 y y ∈ zWS) (hini : Cond.initialized RX5 ∈ zWS) (hcode : Cond.code y bytes maxL ret ∈ zWS) (hd : y.cls ≠ "java/lang/invoke/MethodHandle" ∧ y.cls ≠ "java/lang/invoke/VarHandle" ∧ (parseMethodDescriptor y.desc).map (fun d => d.parameters.length) = some 2) (hR : fr + 1 ≤ R.frames ∧ 8 + (maxL + 11) + lo ≤ R.locals) {A : Int32 → Prop} {Kh : QQ → Prop} (hRb : MB ≤ R.cells ∧ 6 * MB ≤ R.slots) (d : decode cc pc = .ok (.invokevirtual idx, 3)) (hand : ∀ k, (∃ a h, exc a h k) → ∀ cd, cd = wp k → A cd → zHand2 p l e R s m args below meth c nL z0 b D cA Q pc k Kh) (hK : Snd p l e R s m args below meth c nL z0 b (I2 z0 b D cA 0 s) (c2 0 0) Q (pc + 3) K) : Snd p l e R s m args below meth c nL z0 b (I2 z0 b D cA 0 s) (c2 0 0) Q pc (o_tr2 i MB Pr A g Kh K) := by
  intro ls st t hq H locs L hI hL
  unfold o_tr2 at hq
  split at hq
  · next x1 x0 a r =>
    obtain ⟨rfl, hr4, hj, hpr, hq1, hq2⟩ := hq
    intro T hT X
    rcases z2_V C (i := i) (t := t) (xs := [x0, x1]) (G := g x0 x1 (qmu i t)) hsem rfl hy hlink hinst hsel hini hcode hd hR (fun σ hσ => hsim x0 x1 σ _ hpr hσ) hwp d (r := r) hr4 hI hL.1.1 (cells := 0 + t.2.2.1) (slots := 0 + 6 * t.2.2.1) ⟨by omega, by omega⟩ (fun h => ⟨by omega, by omega⟩) T hT X with ⟨h0, T', Lc, hI', X', st⟩ | ⟨h9, k, q, ce, T', Lc, hw, hex, hI', X', hce, hcv, hcl, st⟩
    · have hW := hK _ _ _ (hq1 h0) T'.heap (locs ++ Lc) L hI' hL
      have hc : c2 0 0 (qset i t (g x0 x1 (qmu i t)).2) = (0 + t.2.2.1, 0 + 6 * t.2.2.1) := by
        show (0 + (qset i t (g x0 x1 (qmu i t)).2).2.2.1, 0 + 6 * (qset i t (g x0 x1 (qmu i t)).2).2.2.1) = _
        rw [qset_j]
      rw [hc] at hW
      obtain ⟨t2, a1, b1⟩ := hW T' rfl X'
      exact ⟨t2, st t2 a1, b1⟩
    · obtain ⟨hA, hKh⟩ := hq2 h9
      obtain ⟨t2, a1, b1⟩ := hand k hex _ hw hA (qex t) T'.heap (locs ++ Lc) L (r.map (zc z0 b)) q ce hKh hI' (lv_sub hL.1 [] rfl) hce hcv hcl T' rfl X'
      exact ⟨t2, st.trans a1, b1⟩
  · exact hq.elim
def o_rd3 (i : Bool) (MB : Nat) (g : Int32 → Int32 → Int32 → zMS → zP) (K : ZK QQ) : ZK QQ := fun ls st t => match st with
  | .int x2 :: .int x1 :: .int x0 :: .ref a :: r => a = qob i ∧ r.length ≤ 4 ∧ t.2.2.1 ≤ MB ∧ (g x0 x1 x2 (qmu i t)).2.1 = 0 ∧ K ls (.int (g x0 x1 x2 (qmu i t)).1 :: r) t
  | _ => False
theorem k_rd3 (C : zCx p l R s m args meth c cc nL own z0 D cA 0) {g : Int32 → Int32 → Int32 → zMS → zP} {wp : Nat → Int32} {idx maxL fr lo : Nat} {y : MethodName} {bytes : ByteArray} {ret : Option FieldType} {exc : List Value → ZH → Nat → Prop} {ctN : List Value → ZH → (Option Value → ZH → Prop) → Prop} (hsem : ∀ z0 N, Sem l z0 b N D cA y bytes maxL ret fr lo (3 + 1) exc ctN) (hsim : ∀ (x0 x1 x2 : Int32) (σ : zTS) (μ : zMS), zRel σ μ → zSim wp exc ctN (qI [x0, x1, x2]) σ (g x0 x1 x2 μ)) (hwp : ∀ k, ¬ wp k = 0) (hro : ∀ (x0 x1 x2 : Int32) (μ : zMS), ∃ k, (g x0 x1 x2 μ).2 = vThr μ k) (hy : y.cls = RX5) (hlink : Cond.methodLink own idx y ∈ zWS) (hinst : Cond.instanceMethod y ∈ zWS) (hsel : Cond.selects RX5 y y ∈ zWS) (hini : Cond.initialized RX5 ∈ zWS) (hcode : Cond.code y bytes maxL ret ∈ zWS) (hd : y.cls ≠ "java/lang/invoke/MethodHandle" ∧ y.cls ≠ "java/lang/invoke/VarHandle" ∧ (parseMethodDescriptor y.desc).map (fun d => d.parameters.length) = some 3) (hR : fr + 1 ≤ R.frames ∧ 8 + (maxL + 11) + lo ≤ R.locals) (hRb : c0 + MB ≤ R.cells ∧ d0 + 6 * MB ≤ R.slots) (d : decode cc pc = .ok (.invokevirtual idx, 3)) (hK : Snd p l e R s m args below meth c nL z0 b (I2 z0 b D cA c0 s) (c2 c0 d0) Q (pc + 3) K) : Snd p l e R s m args below meth c nL z0 b (I2 z0 b D cA c0 s) (c2 c0 d0) Q pc (o_rd3 i MB g K) := by
  intro ls st t hq H locs L hI hL
  unfold o_rd3 at hq
  split at hq
  · next x2 x1 x0 a r =>
    obtain ⟨rfl, hr4, hj, h0, hq⟩ := hq
    intro T hT X
    rcases z2_V C (i := i) (t := t) (xs := [x0, x1, x2]) (G := g x0 x1 x2 (qmu i t)) hsem rfl hy hlink hinst hsel hini hcode hd hR (fun σ hσ => hsim x0 x1 x2 σ _ hσ) hwp d (r := r) hr4 hI hL.1.1 (cells := c0 + t.2.2.1) (slots := d0 + 6 * t.2.2.1) ⟨by omega, by omega⟩ (fun h => absurd h0 h) T hT X with ⟨-, T', Lc, hI', X', st⟩ | ⟨h9, -⟩
    · obtain ⟨k, hk⟩ := hro x0 x1 x2 (qmu i t)
      rw [hk] at hI'
      obtain ⟨t2, a1, b1⟩ := hK _ _ _ hq T'.heap (locs ++ Lc) L (I2_thr hI') hL T' rfl X'
      exact ⟨t2, st t2 a1, b1⟩
    · exact absurd h0 h9
  · exact hq.elim
def o_wr3 (i : Bool) (MB : Nat) (g : Int32 → Int32 → Int32 → zMS → zP) (K : ZK QQ) : ZK QQ := fun ls st t => match st with
  | .int x2 :: .int x1 :: .int x0 :: .ref a :: r => a = qob i ∧ r.length ≤ 4 ∧ t.2.2.1 ≤ MB ∧ (g x0 x1 x2 (qmu i t)).2.1 = 0 ∧ K ls (.int (g x0 x1 x2 (qmu i t)).1 :: r) (qset i t (g x0 x1 x2 (qmu i t)).2)
  | _ => False
theorem k_wr3 (C : zCx p l R s m args meth c cc nL own z0 D cA 0) {g : Int32 → Int32 → Int32 → zMS → zP} {wp : Nat → Int32} {idx maxL fr lo : Nat} {y : MethodName} {bytes : ByteArray} {ret : Option FieldType} {exc : List Value → ZH → Nat → Prop} {ctN : List Value → ZH → (Option Value → ZH → Prop) → Prop} (hsem : ∀ z0 N, Sem l z0 b N D cA y bytes maxL ret fr lo (3 + 1) exc ctN) (hsim : ∀ (x0 x1 x2 : Int32) (σ : zTS) (μ : zMS), zRel σ μ → zSim wp exc ctN (qI [x0, x1, x2]) σ (g x0 x1 x2 μ)) (hwp : ∀ k, ¬ wp k = 0) (hy : y.cls = RX5) (hlink : Cond.methodLink own idx y ∈ zWS) (hinst : Cond.instanceMethod y ∈ zWS) (hsel : Cond.selects RX5 y y ∈ zWS) (hini : Cond.initialized RX5 ∈ zWS) (hcode : Cond.code y bytes maxL ret ∈ zWS) (hd : y.cls ≠ "java/lang/invoke/MethodHandle" ∧ y.cls ≠ "java/lang/invoke/VarHandle" ∧ (parseMethodDescriptor y.desc).map (fun d => d.parameters.length) = some 3) (hR : fr + 1 ≤ R.frames ∧ 8 + (maxL + 11) + lo ≤ R.locals) (hRb : c0 + MB ≤ R.cells ∧ d0 + 6 * MB ≤ R.slots) (d : decode cc pc = .ok (.invokevirtual idx, 3)) (hK : Snd p l e R s m args below meth c nL z0 b (I2 z0 b D cA c0 s) (c2 c0 d0) Q (pc + 3) K) : Snd p l e R s m args below meth c nL z0 b (I2 z0 b D cA c0 s) (c2 c0 d0) Q pc (o_wr3 i MB g K) := by
  intro ls st t hq H locs L hI hL
  unfold o_wr3 at hq
  split at hq
  · next x2 x1 x0 a r =>
    obtain ⟨rfl, hr4, hj, h0, hq⟩ := hq
    intro T hT X
    rcases z2_V C (i := i) (t := t) (xs := [x0, x1, x2]) (G := g x0 x1 x2 (qmu i t)) hsem rfl hy hlink hinst hsel hini hcode hd hR (fun σ hσ => hsim x0 x1 x2 σ _ hσ) hwp d (r := r) hr4 hI hL.1.1 (cells := c0 + t.2.2.1) (slots := d0 + 6 * t.2.2.1) ⟨by omega, by omega⟩ (fun h => absurd h0 h) T hT X with ⟨-, T', Lc, hI', X', st⟩ | ⟨h9, -⟩
    · have hW := hK _ _ _ hq T'.heap (locs ++ Lc) L hI' hL
      have hc : c2 c0 d0 (qset i t (g x0 x1 x2 (qmu i t)).2) = (c0 + t.2.2.1, d0 + 6 * t.2.2.1) := by
        show (c0 + (qset i t (g x0 x1 x2 (qmu i t)).2).2.2.1, d0 + 6 * (qset i t (g x0 x1 x2 (qmu i t)).2).2.2.1) = _
        rw [qset_j]
      rw [hc] at hW
      obtain ⟨t2, a1, b1⟩ := hW T' rfl X'
      exact ⟨t2, st t2 a1, b1⟩
    · exact absurd h0 h9
  · exact hq.elim
def o_tr3 (i : Bool) (MB : Nat) (Pr : Int32 → Int32 → Int32 → Prop) (A : Int32 → Prop) (g : Int32 → Int32 → Int32 → zMS → zP) (Kh : QQ → Prop) (K : ZK QQ) : ZK QQ := fun ls st t => match st with
  | .int x2 :: .int x1 :: .int x0 :: .ref a :: r => a = qob i ∧ r.length ≤ 4 ∧ t.2.2.1 + 1 ≤ MB ∧ Pr x0 x1 x2 ∧ ((g x0 x1 x2 (qmu i t)).2.1 = 0 → K ls (.int (g x0 x1 x2 (qmu i t)).1 :: r) (qset i t (g x0 x1 x2 (qmu i t)).2)) ∧ (¬ (g x0 x1 x2 (qmu i t)).2.1 = 0 → A (g x0 x1 x2 (qmu i t)).2.1 ∧ Kh (qex t))
  | _ => False
theorem k_tr3 (C : zCx p l R s m args meth c cc nL own z0 D cA 0) {g : Int32 → Int32 → Int32 → zMS → zP} {wp : Nat → Int32} {idx maxL fr lo : Nat} {y : MethodName} {bytes : ByteArray} {ret : Option FieldType} {exc : List Value → ZH → Nat → Prop} {ctN : List Value → ZH → (Option Value → ZH → Prop) → Prop} (hsem : ∀ z0 N, Sem l z0 b N D cA y bytes maxL ret fr lo (3 + 1) exc ctN) {Pr : Int32 → Int32 → Int32 → Prop} (hsim : ∀ (x0 x1 x2 : Int32) (σ : zTS) (μ : zMS), Pr x0 x1 x2 → zRel σ μ → zSim wp exc ctN (qI [x0, x1, x2]) σ (g x0 x1 x2 μ)) (hwp : ∀ k, ¬ wp k = 0) (hy : y.cls = RX5) (hlink : Cond.methodLink own idx y ∈ zWS) (hinst : Cond.instanceMethod y ∈ zWS) (hsel : Cond.selects RX5 y y ∈ zWS) (hini : Cond.initialized RX5 ∈ zWS) (hcode : Cond.code y bytes maxL ret ∈ zWS) (hd : y.cls ≠ "java/lang/invoke/MethodHandle" ∧ y.cls ≠ "java/lang/invoke/VarHandle" ∧ (parseMethodDescriptor y.desc).map (fun d => d.parameters.length) = some 3) (hR : fr + 1 ≤ R.frames ∧ 8 + (maxL + 11) + lo ≤ R.locals) {A : Int32 → Prop} {Kh : QQ → Prop} (hRb : MB ≤ R.cells ∧ 6 * MB ≤ R.slots) (d : decode cc pc = .ok (.invokevirtual idx, 3)) (hand : ∀ k, (∃ a h, exc a h k) → ∀ cd, cd = wp k → A cd → zHand2 p l e R s m args below meth c nL z0 b D cA Q pc k Kh) (hK : Snd p l e R s m args below meth c nL z0 b (I2 z0 b D cA 0 s) (c2 0 0) Q (pc + 3) K) : Snd p l e R s m args below meth c nL z0 b (I2 z0 b D cA 0 s) (c2 0 0) Q pc (o_tr3 i MB Pr A g Kh K) := by
  intro ls st t hq H locs L hI hL
  unfold o_tr3 at hq
  split at hq
  · next x2 x1 x0 a r =>
    obtain ⟨rfl, hr4, hj, hpr, hq1, hq2⟩ := hq
    intro T hT X
    rcases z2_V C (i := i) (t := t) (xs := [x0, x1, x2]) (G := g x0 x1 x2 (qmu i t)) hsem rfl hy hlink hinst hsel hini hcode hd hR (fun σ hσ => hsim x0 x1 x2 σ _ hpr hσ) hwp d (r := r) hr4 hI hL.1.1 (cells := 0 + t.2.2.1) (slots := 0 + 6 * t.2.2.1) ⟨by omega, by omega⟩ (fun h => ⟨by omega, by omega⟩) T hT X with ⟨h0, T', Lc, hI', X', st⟩ | ⟨h9, k, q, ce, T', Lc, hw, hex, hI', X', hce, hcv, hcl, st⟩
    · have hW := hK _ _ _ (hq1 h0) T'.heap (locs ++ Lc) L hI' hL
      have hc : c2 0 0 (qset i t (g x0 x1 x2 (qmu i t)).2) = (0 + t.2.2.1, 0 + 6 * t.2.2.1) := by
        show (0 + (qset i t (g x0 x1 x2 (qmu i t)).2).2.2.1, 0 + 6 * (qset i t (g x0 x1 x2 (qmu i t)).2).2.2.1) = _
        rw [qset_j]
      rw [hc] at hW
      obtain ⟨t2, a1, b1⟩ := hW T' rfl X'
      exact ⟨t2, st t2 a1, b1⟩
    · obtain ⟨hA, hKh⟩ := hq2 h9
      obtain ⟨t2, a1, b1⟩ := hand k hex _ hw hA (qex t) T'.heap (locs ++ Lc) L (r.map (zc z0 b)) q ce hKh hI' (lv_sub hL.1 [] rfl) hce hcv hcl T' rfl X'
      exact ⟨t2, st.trans a1, b1⟩
  · exact hq.elim
def o_tr4 (i : Bool) (MB : Nat) (Pr : Int32 → Int32 → Int32 → Int32 → Prop) (A : Int32 → Prop) (g : Int32 → Int32 → Int32 → Int32 → zMS → zP) (Kh : QQ → Prop) (K : ZK QQ) : ZK QQ := fun ls st t => match st with
  | .int x3 :: .int x2 :: .int x1 :: .int x0 :: .ref a :: r => a = qob i ∧ r.length ≤ 4 ∧ t.2.2.1 + 1 ≤ MB ∧ Pr x0 x1 x2 x3 ∧ ((g x0 x1 x2 x3 (qmu i t)).2.1 = 0 → K ls (.int (g x0 x1 x2 x3 (qmu i t)).1 :: r) (qset i t (g x0 x1 x2 x3 (qmu i t)).2)) ∧ (¬ (g x0 x1 x2 x3 (qmu i t)).2.1 = 0 → A (g x0 x1 x2 x3 (qmu i t)).2.1 ∧ Kh (qex t))
  | _ => False
theorem k_tr4 (C : zCx p l R s m args meth c cc nL own z0 D cA 0) {g : Int32 → Int32 → Int32 → Int32 → zMS → zP} {wp : Nat → Int32} {idx maxL fr lo : Nat} {y : MethodName} {bytes : ByteArray} {ret : Option FieldType} {exc : List Value → ZH → Nat → Prop} {ctN : List Value → ZH → (Option Value → ZH → Prop) → Prop} (hsem : ∀ z0 N, Sem l z0 b N D cA y bytes maxL ret fr lo (4 + 1) exc ctN) {Pr : Int32 → Int32 → Int32 → Int32 → Prop} (hsim : ∀ (x0 x1 x2 x3 : Int32) (σ : zTS) (μ : zMS), Pr x0 x1 x2 x3 → zRel σ μ → zSim wp exc ctN (qI [x0, x1, x2, x3]) σ (g x0 x1 x2 x3 μ)) (hwp : ∀ k, ¬ wp k = 0) (hy : y.cls = RX5) (hlink : Cond.methodLink own idx y ∈ zWS) (hinst : Cond.instanceMethod y ∈ zWS) (hsel : Cond.selects RX5 y y ∈ zWS) (hini : Cond.initialized RX5 ∈ zWS) (hcode : Cond.code y bytes maxL ret ∈ zWS) (hd : y.cls ≠ "java/lang/invoke/MethodHandle" ∧ y.cls ≠ "java/lang/invoke/VarHandle" ∧ (parseMethodDescriptor y.desc).map (fun d => d.parameters.length) = some 4) (hR : fr + 1 ≤ R.frames ∧ 8 + (maxL + 11) + lo ≤ R.locals) {A : Int32 → Prop} {Kh : QQ → Prop} (hRb : MB ≤ R.cells ∧ 6 * MB ≤ R.slots) (d : decode cc pc = .ok (.invokevirtual idx, 3)) (hand : ∀ k, (∃ a h, exc a h k) → ∀ cd, cd = wp k → A cd → zHand2 p l e R s m args below meth c nL z0 b D cA Q pc k Kh) (hK : Snd p l e R s m args below meth c nL z0 b (I2 z0 b D cA 0 s) (c2 0 0) Q (pc + 3) K) : Snd p l e R s m args below meth c nL z0 b (I2 z0 b D cA 0 s) (c2 0 0) Q pc (o_tr4 i MB Pr A g Kh K) := by
  intro ls st t hq H locs L hI hL
  unfold o_tr4 at hq
  split at hq
  · next x3 x2 x1 x0 a r =>
    obtain ⟨rfl, hr4, hj, hpr, hq1, hq2⟩ := hq
    intro T hT X
    rcases z2_V C (i := i) (t := t) (xs := [x0, x1, x2, x3]) (G := g x0 x1 x2 x3 (qmu i t)) hsem rfl hy hlink hinst hsel hini hcode hd hR (fun σ hσ => hsim x0 x1 x2 x3 σ _ hpr hσ) hwp d (r := r) hr4 hI hL.1.1 (cells := 0 + t.2.2.1) (slots := 0 + 6 * t.2.2.1) ⟨by omega, by omega⟩ (fun h => ⟨by omega, by omega⟩) T hT X with ⟨h0, T', Lc, hI', X', st⟩ | ⟨h9, k, q, ce, T', Lc, hw, hex, hI', X', hce, hcv, hcl, st⟩
    · have hW := hK _ _ _ (hq1 h0) T'.heap (locs ++ Lc) L hI' hL
      have hc : c2 0 0 (qset i t (g x0 x1 x2 x3 (qmu i t)).2) = (0 + t.2.2.1, 0 + 6 * t.2.2.1) := by
        show (0 + (qset i t (g x0 x1 x2 x3 (qmu i t)).2).2.2.1, 0 + 6 * (qset i t (g x0 x1 x2 x3 (qmu i t)).2).2.2.1) = _
        rw [qset_j]
      rw [hc] at hW
      obtain ⟨t2, a1, b1⟩ := hW T' rfl X'
      exact ⟨t2, st t2 a1, b1⟩
    · obtain ⟨hA, hKh⟩ := hq2 h9
      obtain ⟨t2, a1, b1⟩ := hand k hex _ hw hA (qex t) T'.heap (locs ++ Lc) L (r.map (zc z0 b)) q ce hKh hI' (lv_sub hL.1 [] rfl) hce hcv hcl T' rfl X'
      exact ⟨t2, st.trans a1, b1⟩
  · exact hq.elim
def o_to4 (i : Bool) (MB : Nat) (Pr : Int32 → Int32 → Int32 → Int32 → Prop) (A : Int32 → Prop) (g : Int32 → Int32 → Int32 → Int32 → zMS → zP) (Kh : QQ → Prop) (K : ZK QQ) : ZK QQ := fun ls st t => match st with
  | .int x3 :: .int x2 :: .int x1 :: .int x0 :: .ref a :: r => a = qob i ∧ r.length ≤ 4 ∧ t.2.2.1 + 1 ≤ MB ∧ Pr x0 x1 x2 x3 ∧ ((g x0 x1 x2 x3 (qmu i t)).2.1 = 0 → K ls (.int (g x0 x1 x2 x3 (qmu i t)).1 :: r) t) ∧ (¬ (g x0 x1 x2 x3 (qmu i t)).2.1 = 0 → A (g x0 x1 x2 x3 (qmu i t)).2.1 ∧ Kh (qex t))
  | _ => False
theorem k_to4 (C : zCx p l R s m args meth c cc nL own z0 D cA 0) {g : Int32 → Int32 → Int32 → Int32 → zMS → zP} {wp : Nat → Int32} {idx maxL fr lo : Nat} {y : MethodName} {bytes : ByteArray} {ret : Option FieldType} {exc : List Value → ZH → Nat → Prop} {ctN : List Value → ZH → (Option Value → ZH → Prop) → Prop} (hsem : ∀ z0 N, Sem l z0 b N D cA y bytes maxL ret fr lo (4 + 1) exc ctN) {Pr : Int32 → Int32 → Int32 → Int32 → Prop} (hsim : ∀ (x0 x1 x2 x3 : Int32) (σ : zTS) (μ : zMS), Pr x0 x1 x2 x3 → zRel σ μ → zSim wp exc ctN (qI [x0, x1, x2, x3]) σ (g x0 x1 x2 x3 μ)) (hwp : ∀ k, ¬ wp k = 0) (hro : ∀ (x0 x1 x2 x3 : Int32) (μ : zMS), ∃ k, (g x0 x1 x2 x3 μ).2 = vThr μ k) (hy : y.cls = RX5) (hlink : Cond.methodLink own idx y ∈ zWS) (hinst : Cond.instanceMethod y ∈ zWS) (hsel : Cond.selects RX5 y y ∈ zWS) (hini : Cond.initialized RX5 ∈ zWS) (hcode : Cond.code y bytes maxL ret ∈ zWS) (hd : y.cls ≠ "java/lang/invoke/MethodHandle" ∧ y.cls ≠ "java/lang/invoke/VarHandle" ∧ (parseMethodDescriptor y.desc).map (fun d => d.parameters.length) = some 4) (hR : fr + 1 ≤ R.frames ∧ 8 + (maxL + 11) + lo ≤ R.locals) {A : Int32 → Prop} {Kh : QQ → Prop} (hRb : MB ≤ R.cells ∧ 6 * MB ≤ R.slots) (d : decode cc pc = .ok (.invokevirtual idx, 3)) (hand : ∀ k, (∃ a h, exc a h k) → ∀ cd, cd = wp k → A cd → zHand2 p l e R s m args below meth c nL z0 b D cA Q pc k Kh) (hK : Snd p l e R s m args below meth c nL z0 b (I2 z0 b D cA 0 s) (c2 0 0) Q (pc + 3) K) : Snd p l e R s m args below meth c nL z0 b (I2 z0 b D cA 0 s) (c2 0 0) Q pc (o_to4 i MB Pr A g Kh K) := by
  intro ls st t hq H locs L hI hL
  unfold o_to4 at hq
  split at hq
  · next x3 x2 x1 x0 a r =>
    obtain ⟨rfl, hr4, hj, hpr, hq1, hq2⟩ := hq
    intro T hT X
    rcases z2_V C (i := i) (t := t) (xs := [x0, x1, x2, x3]) (G := g x0 x1 x2 x3 (qmu i t)) hsem rfl hy hlink hinst hsel hini hcode hd hR (fun σ hσ => hsim x0 x1 x2 x3 σ _ hpr hσ) hwp d (r := r) hr4 hI hL.1.1 (cells := 0 + t.2.2.1) (slots := 0 + 6 * t.2.2.1) ⟨by omega, by omega⟩ (fun h => ⟨by omega, by omega⟩) T hT X with ⟨h0, T', Lc, hI', X', st⟩ | ⟨h9, k, q, ce, T', Lc, hw, hex, hI', X', hce, hcv, hcl, st⟩
    · obtain ⟨k, hk⟩ := hro x0 x1 x2 x3 (qmu i t)
      rw [hk] at hI'
      obtain ⟨t2, a1, b1⟩ := hK _ _ _ (hq1 h0) T'.heap (locs ++ Lc) L (I2_thr hI') hL T' rfl X'
      exact ⟨t2, st t2 a1, b1⟩
    · obtain ⟨hA, hKh⟩ := hq2 h9
      obtain ⟨t2, a1, b1⟩ := hand k hex _ hw hA (qex t) T'.heap (locs ++ Lc) L (r.map (zc z0 b)) q ce hKh hI' (lv_sub hL.1 [] rfl) hce hcv hcl T' rfl X'
      exact ⟨t2, st.trans a1, b1⟩
  · exact hq.elim
end OP2
