/-! ===== the walk of the law's body ===== -/
abbrev ZT : Type := ZH × Nat
def cT9 (t : ZT) : Nat × Nat := (45 + t.2, 2149 + 6 * t.2)
section LF
variable {p : Program} {l : Launch} {e : Env} {R : Room} {s : State} {m : MethodId} {args : Array Value} {below : List Frame} {meth : Method} {c : Code}
variable {nL z0 b N : Nat} {D : va_G} {cA : Nat → ClassId} {Q : State → Prop} {pc : Nat} {cc : ByteArray} {own : String} {K : ZK ZT}
abbrev iT9 (z0 b N : Nat) (D : va_G) (cA : Nat → ClassId) (s : State) : ZT → Heap → List Loc → Prop := fun t H locs => zI z0 b N D cA s t.1 H locs
section GEN
variable {τ : Type} {I : τ → Heap → List Loc → Prop} {cs : τ → Nat × Nat} {KK : ZK τ}
def o_alS (i : Nat) (K : ZK τ) : ZK τ := fun ls st h => match ls[i]? with
  | some (some (.retAddr x)) => K ls (.retAddr x :: st) h
  | _ => False
theorem k_alS (hx : p.tables.exec = Jvm.exec) (hb : c.code = cc) {k : Fin 4} {i : Nat} (d : decode cc pc = .ok (.aload_n k, 1)) (hi : (k : Nat) = i) (hK : Snd p l e R s m args below meth c nL z0 b I cs Q (pc + 1) KK) : Snd p l e R s m args below meth c nL z0 b I cs Q pc (o_alS i KK) := by
  intro ls st h hk H locs L hI hL
  simp only [o_alS] at hk
  split at hk
  · next x hq => exact lv_aload_n hx hb d hi (zL_at hL hq) (hK _ _ _ hk H locs L hI hL)
  · exact hk.elim
end GEN
def o_sld (xs : Nat → Int32) (L : Nat) (K : ZK ZT) : ZK ZT := fun ls st t => match st with
  | .int i :: .retAddr _ :: r => vp_in i L ∧ K ls (.int (xs i.toNatClampNeg) :: r) t
  | _ => False
theorem k_sld (hx : p.tables.exec = Jvm.exec) (hb : c.code = cc) {xs : Nat → Int32} {Ln : Nat} (hX : va_X b Ln xs s s.heap) (hbl : b < s.heap.size) (hbz : ¬ z0 ≤ b) (d : decode cc pc = .ok (.iaload, 1)) (hK : Snd p l e R s m args below meth c nL z0 b (iT9 z0 b N D cA s) cT9 Q (pc + 1) K) : Snd p l e R s m args below meth c nL z0 b (iT9 z0 b N D cA s) cT9 Q pc (o_sld xs Ln K) := by
  intro ls st t hq H locs L hI hL
  unfold o_sld at hq
  split at hq
  · next i x r => exact va_sld hx hb hX hbl hbz hI.2.1 hq.1 d (hK _ _ _ hq.2 H locs L hI hL)
  · exact hq.elim
def o_slen (L : Nat) (K : ZK ZT) : ZK ZT := fun ls st t => match st with
  | .retAddr _ :: r => K ls (.int (nI L) :: r) t
  | _ => False
theorem k_slen (hx : p.tables.exec = Jvm.exec) (hb : c.code = cc) {xs : Nat → Int32} {Ln : Nat} (hX : va_X b Ln xs s s.heap) (hbl : b < s.heap.size) (hbz : ¬ z0 ≤ b) (d : decode cc pc = .ok (.arraylength, 1)) (hK : Snd p l e R s m args below meth c nL z0 b (iT9 z0 b N D cA s) cT9 Q (pc + 1) K) : Snd p l e R s m args below meth c nL z0 b (iT9 z0 b N D cA s) cT9 Q pc (o_slen Ln K) := by
  intro ls st t hq H locs L hI hL
  unfold o_slen at hq
  split at hq
  · next x r => exact va_slen hx hb hX hbl hbz hI.2.1 d (hK _ _ _ hq H locs L hI hL)
  · exact hq.elim
def o_laldT (K : ZK ZT) : ZK ZT := fun ls st t => match st with
  | .int i :: .ref a :: r => (match t.1 a with
    | .inl (t', n, .inr (.inl f)) => t' = 2 ∧ vp_in i n ∧ K ls (.long (f i.toNatClampNeg) :: r) t
    | _ => False)
  | _ => False
theorem k_laldT (C : zCx p l R s m args meth c cc nL own z0 D cA 0) (d : decode cc pc = .ok (.laload, 1)) (hK : Snd p l e R s m args below meth c nL z0 b (iT9 z0 b N D cA s) cT9 Q (pc + 1) K) : Snd p l e R s m args below meth c nL z0 b (iT9 z0 b N D cA s) cT9 Q pc (o_laldT K) := by
  intro ls st t hq H locs L hI hL
  obtain ⟨hx, hb, hml, hown, hts, hg, -⟩ := C
  unfold o_laldT at hq
  split at hq
  · next i a r =>
    split at hq
    · next t' n f hf =>
      obtain ⟨rfl, hv, hq⟩ := hq
      exact va_lald hx hb hg.1 hI.1 a 2 (hI.get hf (fun z => by cases z)) rfl hv d (hK _ _ _ hq H locs L hI hL)
    · exact hq.elim
  · exact hq.elim
theorem z_afterT {H : Heap} {locs Lc : List Loc} {L : Array Slot} {ls : List (Option Value)} {r G : List Value} {T T' st₀ t : State} {v : Option Value} {j j' cells slots : Nat} {Kk : Option Value → ZH → Prop} {x : Array Value} (hK : Snd p l e R s m args below meth c nL z0 b (iT9 z0 b N D cA s) cT9 Q (pc + 3) K) (hKk : ∀ v h', Kk v h' → K ls (v.toList ++ r) (h', j')) (hS : va_S (fun q : Nat => z0 ≤ q) s.heap H locs) (hL : zL z0 b L nL ls) (hc : (cells, slots) = cT9 ((fun _ => zdum), j'))
    (h0 : st₀.heap = H) (X' : Stand p l e R s m args below meth c T' (locs ++ Lc) cells slots) (hLc : ∀ q ∈ Lc, z0 ≤ q.base) (e1 : T'.heap = t.heap) (hq : zQn z0 b N D cA Kk x st₀ (.returned v) t)
    (st : Goes p e below T (F0 m pc L G) T' { (F0 m pc L G) with pc := pc + 3, stack := v.toList ++ r.map (zc z0 b) }) : ∃ t, Steps p.tables e below (T.setTop (F0 m pc L G)) t ∧ Q t := by
  obtain ⟨⟨v', h', hv, hkn, hP', hd'⟩, hF⟩ := hq
  have hvv : v = v'.map (zc z0 b) := by
    cases hv
    rfl
  subst hvv
  obtain ⟨-, -, k3⟩ := vx_keep h0 e1 hS (fun q _ h => h) (fun q h => h) hLc hF
  injection hc with hc1 hc2
  subst hc1; subst hc2
  obtain ⟨t2, a1, b1⟩ := hK _ _ _ (hKk _ _ hkn) T'.heap (locs ++ Lc) L ⟨by rw [e1]; exact hP', k3, hd'⟩ hL T' rfl X'
  refine ⟨t2, st t2 ?_, b1⟩
  have e9 : (v'.map (zc z0 b)).toList ++ r.map (zc z0 b) = (v'.toList ++ r).map (zc z0 b) := by cases v' <;> simp
  rw [e9]
  exact a1
def zcallM (n : Nat) (ctN : List Value → ZH → (Option Value → ZH → Prop) → Prop) (K : ZK ZT) (ls : List (Option Value)) (a r : List Value) (t : ZT) : Prop := zok n a = true ∧ r.length ≤ 4 ∧ ctN a t.1 (fun v h' => K ls (v.toList ++ r) (h', t.2))
theorem z_callM (C : zCx p l R s m args meth c cc nL own z0 D cA 0) {ci Nf : Nat} {Cn : String} {Tf : u_T} {idx maxL fr lo n : Nat} {y : MethodName} {bytes : ByteArray} {ret : Option FieldType} {ctN : List Value → ZH → (Option Value → ZH → Prop) → Prop} (hc : vwCl[ci]? = some (Cn, Tf, Nf)) (hsem : Sem l z0 b N D cA y bytes maxL ret fr lo (n + 1) zno ctN) (hy : y.cls = Cn) (hlink : Cond.methodLink own idx y ∈ zWS) (hinst : Cond.instanceMethod y ∈ zWS) (hsel : Cond.selects Cn y y ∈ zWS) (hini : Cond.initialized Cn ∈ zWS) (hcode : Cond.code y bytes maxL ret ∈ zWS)
    (hd : y.cls ≠ "java/lang/invoke/MethodHandle" ∧ y.cls ≠ "java/lang/invoke/VarHandle" ∧ (parseMethodDescriptor y.desc).map (fun d => d.parameters.length) = some n) (hR : fr + 1 ≤ R.frames ∧ 8 + (maxL + 11) + lo ≤ R.locals) (hRc : 2000 ≤ R.cells + 2000 ∧ R.cells = 1088 ∧ R.slots = 10455) (d : decode cc pc = .ok (.invokevirtual idx, 3))
    (hK : Snd p l e R s m args below meth c nL z0 b (iT9 z0 b N D cA s) cT9 Q (pc + 3) K)
    (ls : List (Option Value)) (a0 : Nat) (a r fs : List Value) (t : ZT) (hrc : t.1 a0 = .inr (ci, fs)) (hfs : 0 < fs.length) (hj : t.2 ≤ 1000) (hq : zcallM (n + 1) ctN K ls (.ref a0 :: a) r t) : AW p l e R s m args below meth c nL z0 b (iT9 z0 b N D cA s) cT9 Q pc ls (a.reverse ++ .ref a0 :: r) t := by
  intro H locs L hI hL
  obtain ⟨hx, hb, hml, hown, hts, hg, hz, hz0, hlocks, -⟩ := C
  obtain ⟨hok, hr4, hq2⟩ := hq
  have hG : GoodIn zWS (wsV own idx Cn y (Cond.code y bytes maxL ret :: zWS)) := zGood (fun w hw => by
    simp only [wsV, List.mem_append, List.mem_cons, List.not_mem_nil, or_false] at hw
    rcases hw with (rfl | rfl | rfl | rfl) | rfl | hw <;> assumption)
  have hpre := zPre (a := .ref a0 :: a) hg hz hz0 hI
  have hnd : ¬ (Sum.inr (ci, fs) : va_E) = zdum := fun z => by cases z; simp at hfs
  have hrecv := va_recv hg.1 hI.1 hc (hI.get hrc hnd)
  have hstk : ((a.reverse ++ .ref a0 :: r).map (zc z0 b)) = (a.map (zc z0 b)).reverse ++ .ref (z0 + a0) :: r.map (zc z0 b) := by rw [List.map_append, List.map_reverse]; rfl
  have hlen : (a.map (zc z0 b)).length = n := by
    have := zok_len hok
    rw [List.length_map]
    simpa using this
  intro T hT X
  have hM := zMet (hsem 0 (.ref a0 :: a) t.1 (fun v h' => K ls (v.toList ++ r) (h', t.2)) (fun _ => False) hok (fun k hk => hk.elim) (fun _ => hq2)) (fun E st t hx => by
    obtain ⟨⟨k', -, h9, -⟩, -⟩ := hx
    exact h9)
  obtain ⟨v, st₀, t2, T', Lc, g0, X', hLc, e1, e2, hqn, st⟩ := va_runV (g := F0 m pc L ((a.reverse ++ .ref a0 :: r).map (zc z0 b))) (H := H) (locs := locs) (cells := 45 + t.2) (slots := 2149 + 6 * t.2) (e := e) (below := below) (meth := meth) (R := R) (C := Cn) (b := z0 + a0) (As := a.map (zc z0 b)) (rest := r.map (zc z0 b)) ⟨hx, hb, hml, hown, hts⟩ hM (cwV n hts hG rfl rfl rfl ⟨hy, hd⟩ hR) ⟨zPc.blind, hrecv, hpre⟩ rfl hlen hL.1.1 hstk (lv_room (zrest r hr4)) d ⟨by have := hRc.2.1; omega, by have := hRc.2.2; omega⟩ T hT X
  exact z_afterT (j := t.2) hK (fun v h' h9 => h9) hI.2.1 hL rfl g0 X' hLc e1 hqn st
def zcallW (n : Nat) (ctN : List Value → ZH → (Option Value → ZH → Prop) → Prop) (K : ZK ZT) (ls : List (Option Value)) (a r : List Value) (t : ZT) : Prop := zok n a = true ∧ r.length ≤ 4 ∧ ctN a t.1 (fun v h' => K ls (v.toList ++ r) (h', t.2 + 1))
theorem z_callW (C : zCx p l R s m args meth c cc nL own z0 D cA 0) {idx maxL fr lo n : Nat} {y : MethodName} {bytes : ByteArray} {hh : List (Nat × Nat × Nat × Nat)} {ctN : List Value → ZH → (Option Value → ZH → Prop) → Prop} (hsem : SemW l z0 b N D cA y bytes maxL hh fr lo n ctN) (hlink : Cond.methodLink own idx y ∈ zWS) (hstat : Cond.static y ∈ zWS) (hini : Cond.initialized y.cls ∈ zWS) (hcode : Cond.codeWith y bytes maxL (some .int) hh ∈ zWS)
    (hd : y.cls ≠ "java/lang/invoke/MethodHandle" ∧ y.cls ≠ "java/lang/invoke/VarHandle" ∧ (parseMethodDescriptor y.desc).map (fun d => d.parameters.length) = some n) (hR : fr + 1 ≤ R.frames ∧ 8 + (maxL + 11) + lo ≤ R.locals) (hRc : R.cells = 1088 ∧ R.slots = 10455) (d : decode cc pc = .ok (.invokestatic idx, 3))
    (hK : Snd p l e R s m args below meth c nL z0 b (iT9 z0 b N D cA s) cT9 Q (pc + 3) K)
    (ls : List (Option Value)) (a r : List Value) (t : ZT) (hj : t.2 ≤ 1000) (hq : zcallW n ctN K ls a r t) : AW p l e R s m args below meth c nL z0 b (iT9 z0 b N D cA s) cT9 Q pc ls (a.reverse ++ r) t := by
  intro H locs L hI hL
  obtain ⟨hx, hb, hml, hown, hts, hg, hz, hz0, hlocks, -⟩ := C
  obtain ⟨hok, hr4, hq2⟩ := hq
  have hG : GoodIn zWS (va_wsS own idx y (Cond.codeWith y bytes maxL (some .int) hh :: zWS)) := zGood (fun w hw => by
    simp only [va_wsS, List.mem_append, List.mem_cons, List.not_mem_nil, or_false] at hw
    rcases hw with (rfl | rfl | rfl) | rfl | hw <;> assumption)
  have hpre := zPre (a := a) hg hz hz0 hI
  have hstk : ((a.reverse ++ r).map (zc z0 b)) = (a.map (zc z0 b)).reverse ++ r.map (zc z0 b) := by rw [List.map_append, List.map_reverse]
  intro T hT X
  have hM := hsem a t.1 (fun v h' => K ls (v.toList ++ r) (h', t.2 + 1)) hok hq2
  obtain ⟨v, st₀, t2, T', Lc, g0, X', hLc, e1, e2, hqn, st⟩ := vx_runSW (g := F0 m pc L ((a.reverse ++ r).map (zc z0 b))) (H := H) (locs := locs) (cells := 45 + t.2) (slots := 2149 + 6 * t.2) (e := e) (below := below) (meth := meth) (R := R) (As := a.map (zc z0 b)) (rest := r.map (zc z0 b)) ⟨hx, hb, hml, hown, hts⟩ hM (vx_cwSW n hts hG rfl rfl rfl hd hR) ⟨zPc.blind, hpre⟩ rfl (by rw [List.length_map]; exact zok_len hok) hL.1.1 hstk (lv_room (zrest r hr4)) d ⟨by have := hRc.1; omega, by have := hRc.2; omega⟩ T hT X
  exact z_afterT (j := t.2) (j' := t.2 + 1) hK (fun v h' h9 => h9) hI.2.1 hL (by show (45 + t.2 + 1, 2149 + 6 * t.2 + 6 * 1) = (45 + (t.2 + 1), 2149 + 6 * (t.2 + 1)); congr 1) g0 X' hLc e1 hqn st
def o_lend : ZK ZT := fun _ st t => st = [.int 1] ∧ t.2 ≤ 512
theorem k_lend (C : zCx p l room_1 s m #[Value.ref b] meth c code nL own z0 D cA 0) (hr : meth.sig.returnType = ret) (hz9 : s.heap.size ≤ z0) (d : decode code pc = .ok (.ireturn, 1)) : Snd p l e room_1 s m #[Value.ref b] below meth c nL z0 b (iT9 z0 b N D cA s) cT9 (lw_Z below #[Value.ref b] s) pc o_lend := by
  intro ls st t hq H locs L hI hL
  obtain ⟨hx, hb, hml, hown, hts, hg, hz, hz0, hlocks, -⟩ := C
  obtain ⟨rfl, hj⟩ := hq
  refine va_forget (fun q hq => Nat.le_trans hz9 (hI.2.1.2.2 q hq)) ?_
  refine W.widen (k := 1088) (n := 10455) (by show 45 + t.2 ≤ 1088; omega) (by show 2149 + 6 * t.2 ≤ 10455; omega) ?_
  exact lw_ret hx hb hr hlocks d
def o_callM0 (ci : Nat) (ctN : List Value → ZH → (Option Value → ZH → Prop) → Prop) (K : ZK ZT) : ZK ZT := fun ls st t => match st with
  | .ref a :: r => t.2 ≤ 1000 ∧ ∃ fs, t.1 a = .inr (ci, fs) ∧ 0 < fs.length ∧ zcallM 1 ctN K ls [.ref a] r t
  | _ => False
theorem k_callM0 (C : zCx p l R s m args meth c cc nL own z0 D cA 0) {ci Nf : Nat} {Cn : String} {Tf : u_T} {idx maxL fr lo : Nat} {y : MethodName} {bytes : ByteArray} {ret : Option FieldType} {ctN : List Value → ZH → (Option Value → ZH → Prop) → Prop} (hc : vwCl[ci]? = some (Cn, Tf, Nf)) (hsem : Sem l z0 b N D cA y bytes maxL ret fr lo 1 zno ctN) (hy : y.cls = Cn) (hlink : Cond.methodLink own idx y ∈ zWS) (hinst : Cond.instanceMethod y ∈ zWS) (hsel : Cond.selects Cn y y ∈ zWS) (hini : Cond.initialized Cn ∈ zWS) (hcode : Cond.code y bytes maxL ret ∈ zWS)
    (hd : y.cls ≠ "java/lang/invoke/MethodHandle" ∧ y.cls ≠ "java/lang/invoke/VarHandle" ∧ (parseMethodDescriptor y.desc).map (fun d => d.parameters.length) = some 0) (hR : fr + 1 ≤ R.frames ∧ 8 + (maxL + 11) + lo ≤ R.locals) (hRc : 2000 ≤ R.cells + 2000 ∧ R.cells = 1088 ∧ R.slots = 10455) (d : decode cc pc = .ok (.invokevirtual idx, 3))
    (hK : Snd p l e R s m args below meth c nL z0 b (iT9 z0 b N D cA s) cT9 Q (pc + 3) K) : Snd p l e R s m args below meth c nL z0 b (iT9 z0 b N D cA s) cT9 Q pc (o_callM0 ci ctN K) := by
  intro ls st t hq
  unfold o_callM0 at hq
  split at hq
  · next a r =>
    obtain ⟨hj, fs, hrc, hfs, hq⟩ := hq
    exact z_callM C hc hsem hy hlink hinst hsel hini hcode hd hR hRc d hK ls a [] r fs t hrc hfs hj hq
  · exact hq.elim
def o_callM1 (ci : Nat) (ctN : List Value → ZH → (Option Value → ZH → Prop) → Prop) (K : ZK ZT) : ZK ZT := fun ls st t => match st with
  | v0 :: .ref a :: r => t.2 ≤ 1000 ∧ ∃ fs, t.1 a = .inr (ci, fs) ∧ 0 < fs.length ∧ zcallM 2 ctN K ls [.ref a, v0] r t
  | _ => False
theorem k_callM1 (C : zCx p l R s m args meth c cc nL own z0 D cA 0) {ci Nf : Nat} {Cn : String} {Tf : u_T} {idx maxL fr lo : Nat} {y : MethodName} {bytes : ByteArray} {ret : Option FieldType} {ctN : List Value → ZH → (Option Value → ZH → Prop) → Prop} (hc : vwCl[ci]? = some (Cn, Tf, Nf)) (hsem : Sem l z0 b N D cA y bytes maxL ret fr lo 2 zno ctN) (hy : y.cls = Cn) (hlink : Cond.methodLink own idx y ∈ zWS) (hinst : Cond.instanceMethod y ∈ zWS) (hsel : Cond.selects Cn y y ∈ zWS) (hini : Cond.initialized Cn ∈ zWS) (hcode : Cond.code y bytes maxL ret ∈ zWS)
    (hd : y.cls ≠ "java/lang/invoke/MethodHandle" ∧ y.cls ≠ "java/lang/invoke/VarHandle" ∧ (parseMethodDescriptor y.desc).map (fun d => d.parameters.length) = some 1) (hR : fr + 1 ≤ R.frames ∧ 8 + (maxL + 11) + lo ≤ R.locals) (hRc : 2000 ≤ R.cells + 2000 ∧ R.cells = 1088 ∧ R.slots = 10455) (d : decode cc pc = .ok (.invokevirtual idx, 3))
    (hK : Snd p l e R s m args below meth c nL z0 b (iT9 z0 b N D cA s) cT9 Q (pc + 3) K) : Snd p l e R s m args below meth c nL z0 b (iT9 z0 b N D cA s) cT9 Q pc (o_callM1 ci ctN K) := by
  intro ls st t hq
  unfold o_callM1 at hq
  split at hq
  · next v0 a r =>
    obtain ⟨hj, fs, hrc, hfs, hq⟩ := hq
    exact z_callM C hc hsem hy hlink hinst hsel hini hcode hd hR hRc d hK ls a [v0] r fs t hrc hfs hj hq
  · exact hq.elim
def o_callM2 (ci : Nat) (ctN : List Value → ZH → (Option Value → ZH → Prop) → Prop) (K : ZK ZT) : ZK ZT := fun ls st t => match st with
  | v1 :: v0 :: .ref a :: r => t.2 ≤ 1000 ∧ ∃ fs, t.1 a = .inr (ci, fs) ∧ 0 < fs.length ∧ zcallM 3 ctN K ls [.ref a, v0, v1] r t
  | _ => False
theorem k_callM2 (C : zCx p l R s m args meth c cc nL own z0 D cA 0) {ci Nf : Nat} {Cn : String} {Tf : u_T} {idx maxL fr lo : Nat} {y : MethodName} {bytes : ByteArray} {ret : Option FieldType} {ctN : List Value → ZH → (Option Value → ZH → Prop) → Prop} (hc : vwCl[ci]? = some (Cn, Tf, Nf)) (hsem : Sem l z0 b N D cA y bytes maxL ret fr lo 3 zno ctN) (hy : y.cls = Cn) (hlink : Cond.methodLink own idx y ∈ zWS) (hinst : Cond.instanceMethod y ∈ zWS) (hsel : Cond.selects Cn y y ∈ zWS) (hini : Cond.initialized Cn ∈ zWS) (hcode : Cond.code y bytes maxL ret ∈ zWS)
    (hd : y.cls ≠ "java/lang/invoke/MethodHandle" ∧ y.cls ≠ "java/lang/invoke/VarHandle" ∧ (parseMethodDescriptor y.desc).map (fun d => d.parameters.length) = some 2) (hR : fr + 1 ≤ R.frames ∧ 8 + (maxL + 11) + lo ≤ R.locals) (hRc : 2000 ≤ R.cells + 2000 ∧ R.cells = 1088 ∧ R.slots = 10455) (d : decode cc pc = .ok (.invokevirtual idx, 3))
    (hK : Snd p l e R s m args below meth c nL z0 b (iT9 z0 b N D cA s) cT9 Q (pc + 3) K) : Snd p l e R s m args below meth c nL z0 b (iT9 z0 b N D cA s) cT9 Q pc (o_callM2 ci ctN K) := by
  intro ls st t hq
  unfold o_callM2 at hq
  split at hq
  · next v1 v0 a r =>
    obtain ⟨hj, fs, hrc, hfs, hq⟩ := hq
    exact z_callM C hc hsem hy hlink hinst hsel hini hcode hd hR hRc d hK ls a [v0, v1] r fs t hrc hfs hj hq
  · exact hq.elim
def o_callM3 (ci : Nat) (ctN : List Value → ZH → (Option Value → ZH → Prop) → Prop) (K : ZK ZT) : ZK ZT := fun ls st t => match st with
  | v2 :: v1 :: v0 :: .ref a :: r => t.2 ≤ 1000 ∧ ∃ fs, t.1 a = .inr (ci, fs) ∧ 0 < fs.length ∧ zcallM 4 ctN K ls [.ref a, v0, v1, v2] r t
  | _ => False
theorem k_callM3 (C : zCx p l R s m args meth c cc nL own z0 D cA 0) {ci Nf : Nat} {Cn : String} {Tf : u_T} {idx maxL fr lo : Nat} {y : MethodName} {bytes : ByteArray} {ret : Option FieldType} {ctN : List Value → ZH → (Option Value → ZH → Prop) → Prop} (hc : vwCl[ci]? = some (Cn, Tf, Nf)) (hsem : Sem l z0 b N D cA y bytes maxL ret fr lo 4 zno ctN) (hy : y.cls = Cn) (hlink : Cond.methodLink own idx y ∈ zWS) (hinst : Cond.instanceMethod y ∈ zWS) (hsel : Cond.selects Cn y y ∈ zWS) (hini : Cond.initialized Cn ∈ zWS) (hcode : Cond.code y bytes maxL ret ∈ zWS)
    (hd : y.cls ≠ "java/lang/invoke/MethodHandle" ∧ y.cls ≠ "java/lang/invoke/VarHandle" ∧ (parseMethodDescriptor y.desc).map (fun d => d.parameters.length) = some 3) (hR : fr + 1 ≤ R.frames ∧ 8 + (maxL + 11) + lo ≤ R.locals) (hRc : 2000 ≤ R.cells + 2000 ∧ R.cells = 1088 ∧ R.slots = 10455) (d : decode cc pc = .ok (.invokevirtual idx, 3))
    (hK : Snd p l e R s m args below meth c nL z0 b (iT9 z0 b N D cA s) cT9 Q (pc + 3) K) : Snd p l e R s m args below meth c nL z0 b (iT9 z0 b N D cA s) cT9 Q pc (o_callM3 ci ctN K) := by
  intro ls st t hq
  unfold o_callM3 at hq
  split at hq
  · next v2 v1 v0 a r =>
    obtain ⟨hj, fs, hrc, hfs, hq⟩ := hq
    exact z_callM C hc hsem hy hlink hinst hsel hini hcode hd hR hRc d hK ls a [v0, v1, v2] r fs t hrc hfs hj hq
  · exact hq.elim
def o_callM4 (ci : Nat) (ctN : List Value → ZH → (Option Value → ZH → Prop) → Prop) (K : ZK ZT) : ZK ZT := fun ls st t => match st with
  | v3 :: v2 :: v1 :: v0 :: .ref a :: r => t.2 ≤ 1000 ∧ ∃ fs, t.1 a = .inr (ci, fs) ∧ 0 < fs.length ∧ zcallM 5 ctN K ls [.ref a, v0, v1, v2, v3] r t
  | _ => False
theorem k_callM4 (C : zCx p l R s m args meth c cc nL own z0 D cA 0) {ci Nf : Nat} {Cn : String} {Tf : u_T} {idx maxL fr lo : Nat} {y : MethodName} {bytes : ByteArray} {ret : Option FieldType} {ctN : List Value → ZH → (Option Value → ZH → Prop) → Prop} (hc : vwCl[ci]? = some (Cn, Tf, Nf)) (hsem : Sem l z0 b N D cA y bytes maxL ret fr lo 5 zno ctN) (hy : y.cls = Cn) (hlink : Cond.methodLink own idx y ∈ zWS) (hinst : Cond.instanceMethod y ∈ zWS) (hsel : Cond.selects Cn y y ∈ zWS) (hini : Cond.initialized Cn ∈ zWS) (hcode : Cond.code y bytes maxL ret ∈ zWS)
    (hd : y.cls ≠ "java/lang/invoke/MethodHandle" ∧ y.cls ≠ "java/lang/invoke/VarHandle" ∧ (parseMethodDescriptor y.desc).map (fun d => d.parameters.length) = some 4) (hR : fr + 1 ≤ R.frames ∧ 8 + (maxL + 11) + lo ≤ R.locals) (hRc : 2000 ≤ R.cells + 2000 ∧ R.cells = 1088 ∧ R.slots = 10455) (d : decode cc pc = .ok (.invokevirtual idx, 3))
    (hK : Snd p l e R s m args below meth c nL z0 b (iT9 z0 b N D cA s) cT9 Q (pc + 3) K) : Snd p l e R s m args below meth c nL z0 b (iT9 z0 b N D cA s) cT9 Q pc (o_callM4 ci ctN K) := by
  intro ls st t hq
  unfold o_callM4 at hq
  split at hq
  · next v3 v2 v1 v0 a r =>
    obtain ⟨hj, fs, hrc, hfs, hq⟩ := hq
    exact z_callM C hc hsem hy hlink hinst hsel hini hcode hd hR hRc d hK ls a [v0, v1, v2, v3] r fs t hrc hfs hj hq
  · exact hq.elim
def o_callW2 (ctN : List Value → ZH → (Option Value → ZH → Prop) → Prop) (K : ZK ZT) : ZK ZT := fun ls st t => match st with
  | v1 :: v0 :: r => t.2 ≤ 1000 ∧ zcallW 2 ctN K ls [v0, v1] r t
  | _ => False
theorem k_callW2 (C : zCx p l R s m args meth c cc nL own z0 D cA 0) {idx maxL fr lo : Nat} {y : MethodName} {bytes : ByteArray} {hh : List (Nat × Nat × Nat × Nat)} {ctN : List Value → ZH → (Option Value → ZH → Prop) → Prop} (hsem : SemW l z0 b N D cA y bytes maxL hh fr lo 2 ctN) (hlink : Cond.methodLink own idx y ∈ zWS) (hstat : Cond.static y ∈ zWS) (hini : Cond.initialized y.cls ∈ zWS) (hcode : Cond.codeWith y bytes maxL (some .int) hh ∈ zWS)
    (hd : y.cls ≠ "java/lang/invoke/MethodHandle" ∧ y.cls ≠ "java/lang/invoke/VarHandle" ∧ (parseMethodDescriptor y.desc).map (fun d => d.parameters.length) = some 2) (hR : fr + 1 ≤ R.frames ∧ 8 + (maxL + 11) + lo ≤ R.locals) (hRc : R.cells = 1088 ∧ R.slots = 10455) (d : decode cc pc = .ok (.invokestatic idx, 3))
    (hK : Snd p l e R s m args below meth c nL z0 b (iT9 z0 b N D cA s) cT9 Q (pc + 3) K) : Snd p l e R s m args below meth c nL z0 b (iT9 z0 b N D cA s) cT9 Q pc (o_callW2 ctN K) := by
  intro ls st t hq
  unfold o_callW2 at hq
  split at hq
  · next v1 v0 r => exact z_callW C hsem hlink hstat hini hcode hd hR hRc d hK ls [v0, v1] r t hq.1 hq.2
  · exact hq.elim
def o_callW3 (ctN : List Value → ZH → (Option Value → ZH → Prop) → Prop) (K : ZK ZT) : ZK ZT := fun ls st t => match st with
  | v2 :: v1 :: v0 :: r => t.2 ≤ 1000 ∧ zcallW 3 ctN K ls [v0, v1, v2] r t
  | _ => False
theorem k_callW3 (C : zCx p l R s m args meth c cc nL own z0 D cA 0) {idx maxL fr lo : Nat} {y : MethodName} {bytes : ByteArray} {hh : List (Nat × Nat × Nat × Nat)} {ctN : List Value → ZH → (Option Value → ZH → Prop) → Prop} (hsem : SemW l z0 b N D cA y bytes maxL hh fr lo 3 ctN) (hlink : Cond.methodLink own idx y ∈ zWS) (hstat : Cond.static y ∈ zWS) (hini : Cond.initialized y.cls ∈ zWS) (hcode : Cond.codeWith y bytes maxL (some .int) hh ∈ zWS)
    (hd : y.cls ≠ "java/lang/invoke/MethodHandle" ∧ y.cls ≠ "java/lang/invoke/VarHandle" ∧ (parseMethodDescriptor y.desc).map (fun d => d.parameters.length) = some 3) (hR : fr + 1 ≤ R.frames ∧ 8 + (maxL + 11) + lo ≤ R.locals) (hRc : R.cells = 1088 ∧ R.slots = 10455) (d : decode cc pc = .ok (.invokestatic idx, 3))
    (hK : Snd p l e R s m args below meth c nL z0 b (iT9 z0 b N D cA s) cT9 Q (pc + 3) K) : Snd p l e R s m args below meth c nL z0 b (iT9 z0 b N D cA s) cT9 Q pc (o_callW3 ctN K) := by
  intro ls st t hq
  unfold o_callW3 at hq
  split at hq
  · next v2 v1 v0 r => exact z_callW C hsem hlink hstat hini hcode hd hR hRc d hK ls [v0, v1, v2] r t hq.1 hq.2
  · exact hq.elim
def o_callW4 (ctN : List Value → ZH → (Option Value → ZH → Prop) → Prop) (K : ZK ZT) : ZK ZT := fun ls st t => match st with
  | v3 :: v2 :: v1 :: v0 :: r => t.2 ≤ 1000 ∧ zcallW 4 ctN K ls [v0, v1, v2, v3] r t
  | _ => False
theorem k_callW4 (C : zCx p l R s m args meth c cc nL own z0 D cA 0) {idx maxL fr lo : Nat} {y : MethodName} {bytes : ByteArray} {hh : List (Nat × Nat × Nat × Nat)} {ctN : List Value → ZH → (Option Value → ZH → Prop) → Prop} (hsem : SemW l z0 b N D cA y bytes maxL hh fr lo 4 ctN) (hlink : Cond.methodLink own idx y ∈ zWS) (hstat : Cond.static y ∈ zWS) (hini : Cond.initialized y.cls ∈ zWS) (hcode : Cond.codeWith y bytes maxL (some .int) hh ∈ zWS)
    (hd : y.cls ≠ "java/lang/invoke/MethodHandle" ∧ y.cls ≠ "java/lang/invoke/VarHandle" ∧ (parseMethodDescriptor y.desc).map (fun d => d.parameters.length) = some 4) (hR : fr + 1 ≤ R.frames ∧ 8 + (maxL + 11) + lo ≤ R.locals) (hRc : R.cells = 1088 ∧ R.slots = 10455) (d : decode cc pc = .ok (.invokestatic idx, 3))
    (hK : Snd p l e R s m args below meth c nL z0 b (iT9 z0 b N D cA s) cT9 Q (pc + 3) K) : Snd p l e R s m args below meth c nL z0 b (iT9 z0 b N D cA s) cT9 Q pc (o_callW4 ctN K) := by
  intro ls st t hq
  unfold o_callW4 at hq
  split at hq
  · next v3 v2 v1 v0 r => exact z_callW C hsem hlink hstat hini hcode hd hR hRc d hK ls [v0, v1, v2, v3] r t hq.1 hq.2
  · exact hq.elim
def o_callW5 (ctN : List Value → ZH → (Option Value → ZH → Prop) → Prop) (K : ZK ZT) : ZK ZT := fun ls st t => match st with
  | v4 :: v3 :: v2 :: v1 :: v0 :: r => t.2 ≤ 1000 ∧ zcallW 5 ctN K ls [v0, v1, v2, v3, v4] r t
  | _ => False
theorem k_callW5 (C : zCx p l R s m args meth c cc nL own z0 D cA 0) {idx maxL fr lo : Nat} {y : MethodName} {bytes : ByteArray} {hh : List (Nat × Nat × Nat × Nat)} {ctN : List Value → ZH → (Option Value → ZH → Prop) → Prop} (hsem : SemW l z0 b N D cA y bytes maxL hh fr lo 5 ctN) (hlink : Cond.methodLink own idx y ∈ zWS) (hstat : Cond.static y ∈ zWS) (hini : Cond.initialized y.cls ∈ zWS) (hcode : Cond.codeWith y bytes maxL (some .int) hh ∈ zWS)
    (hd : y.cls ≠ "java/lang/invoke/MethodHandle" ∧ y.cls ≠ "java/lang/invoke/VarHandle" ∧ (parseMethodDescriptor y.desc).map (fun d => d.parameters.length) = some 5) (hR : fr + 1 ≤ R.frames ∧ 8 + (maxL + 11) + lo ≤ R.locals) (hRc : R.cells = 1088 ∧ R.slots = 10455) (d : decode cc pc = .ok (.invokestatic idx, 3))
    (hK : Snd p l e R s m args below meth c nL z0 b (iT9 z0 b N D cA s) cT9 Q (pc + 3) K) : Snd p l e R s m args below meth c nL z0 b (iT9 z0 b N D cA s) cT9 Q pc (o_callW5 ctN K) := by
  intro ls st t hq
  unfold o_callW5 at hq
  split at hq
  · next v4 v3 v2 v1 v0 r => exact z_callW C hsem hlink hstat hini hcode hd hR hRc d hK ls [v0, v1, v2, v3, v4] r t hq.1 hq.2
  · exact hq.elim
def o_callW6 (ctN : List Value → ZH → (Option Value → ZH → Prop) → Prop) (K : ZK ZT) : ZK ZT := fun ls st t => match st with
  | v5 :: v4 :: v3 :: v2 :: v1 :: v0 :: r => t.2 ≤ 1000 ∧ zcallW 6 ctN K ls [v0, v1, v2, v3, v4, v5] r t
  | _ => False
theorem k_callW6 (C : zCx p l R s m args meth c cc nL own z0 D cA 0) {idx maxL fr lo : Nat} {y : MethodName} {bytes : ByteArray} {hh : List (Nat × Nat × Nat × Nat)} {ctN : List Value → ZH → (Option Value → ZH → Prop) → Prop} (hsem : SemW l z0 b N D cA y bytes maxL hh fr lo 6 ctN) (hlink : Cond.methodLink own idx y ∈ zWS) (hstat : Cond.static y ∈ zWS) (hini : Cond.initialized y.cls ∈ zWS) (hcode : Cond.codeWith y bytes maxL (some .int) hh ∈ zWS)
    (hd : y.cls ≠ "java/lang/invoke/MethodHandle" ∧ y.cls ≠ "java/lang/invoke/VarHandle" ∧ (parseMethodDescriptor y.desc).map (fun d => d.parameters.length) = some 6) (hR : fr + 1 ≤ R.frames ∧ 8 + (maxL + 11) + lo ≤ R.locals) (hRc : R.cells = 1088 ∧ R.slots = 10455) (d : decode cc pc = .ok (.invokestatic idx, 3))
    (hK : Snd p l e R s m args below meth c nL z0 b (iT9 z0 b N D cA s) cT9 Q (pc + 3) K) : Snd p l e R s m args below meth c nL z0 b (iT9 z0 b N D cA s) cT9 Q pc (o_callW6 ctN K) := by
  intro ls st t hq
  unfold o_callW6 at hq
  split at hq
  · next v5 v4 v3 v2 v1 v0 r => exact z_callW C hsem hlink hstat hini hcode hd hR hRc d hK ls [v0, v1, v2, v3, v4, v5] r t hq.1 hq.2
  · exact hq.elim
theorem AW_weak {τ : Type} {I : τ → Heap → List Loc → Prop} {cs : τ → Nat × Nat} {ls ls' : List (Option Value)} {st : List Value} {h : τ} (ha : AW p l e R s m args below meth c nL z0 b I cs Q pc ls st h) (hl : ls.length = ls'.length) (hs : ∀ (k : Nat) (v : Value), ls[k]? = some (some v) → ls'[k]? = some (some v)) : AW p l e R s m args below meth c nL z0 b I cs Q pc ls' st h :=
  fun H locs L hI hL => ha H locs L hI (zL_sub hL hl hs)
end LF
/-- the ends of a case: what was thrown, and the answer -/
def bTI (K : ZK ZT) : ZK ZT := o_aload 2 (o_callM0 6 tX6_thrown (o_iload 5 (o_if2 (fun x y => x = y) (o_iload 5 (o_if1 (fun x => ¬ x = 0) K (o_aload 3 (o_ic 0 (o_laldT (o_iload 6 (o_i2l (o_lcmp (o_if1 (fun x => x = 0) K (o_ic 0 o_lend)))))))))) (o_ic 0 o_lend))))
def bTB (K : ZK ZT) : ZK ZT := o_aload 2 (o_callM0 6 tX6_thrown (o_iload 5 (o_if2 (fun x y => x = y) (o_iload 5 (o_if1 (fun x => ¬ x = 0) K (o_aload 3 (o_ic 0 (o_laldT (o_iload 6 (o_if1 (fun x => x = 0) (o_lc 0 (o_lcmp (o_if1 (fun x => x = 0) K (o_ic 0 o_lend)))) (o_lc 1 (o_lcmp (o_if1 (fun x => x = 0) K (o_ic 0 o_lend))))))))))) (o_ic 0 o_lend))))
theorem cmp_self (x : Int64) : lg_cmp x x = 0 := by
  unfold lg_cmp
  simp
abbrev lsW (i : Nat) (x5 x6 : Option Value) : List (Option Value) := [some (.retAddr 0), some (.ref 0), some (.ref 29), some (.ref 44), some (.int (nI i)), x5, x6]
theorem tail_I {K : ZK ZT} {i j : Nat} {σ : zTS} {g : zP} {o : Nat → Int64} {f0 : ZH} (hj : j ≤ 1000) (ho : g.2.1 = 0 → o 0 = ovI g.1) (hK : K (lsW i (some (.int g.2.1)) (some (.int g.1))) [] (zLw σ g.2 o f0, j)) : bTI K (lsW i (some (.int g.2.1)) (some (.int g.1))) [] (zLw σ g.2 o f0, j) := by
  obtain ⟨fs, h29, hfs⟩ := zLw_29 (σ := σ) (μ := g.2) (o := o) (f := f0)
  refine ⟨hj, fs, h29, hfs, rfl, Nat.zero_le _, g.2, _, rfl, zLw_M, ?_⟩
  refine ⟨fun _ => ⟨fun _ => hK, fun h0 => ?_⟩, fun h => absurd rfl h⟩
  have h0 : g.2.1 = 0 := Classical.not_not.mp h0
  simp only [o_aload, o_ic, o_laldT, o_iload, o_i2l, o_lcmp, o_if1, List.getElem?_cons_zero, List.getElem?_cons_succ, zLw_44]
  refine ⟨trivial, vp_in_nI (n := 0) (by omega) (by omega), fun _ => hK, fun h => absurd ?_ h⟩
  have h1 := ho h0
  rw [show o (0 : Int32).toNatClampNeg = ovI g.1 from h1]
  exact cmp_self _
theorem tail_B {K : ZK ZT} {i j : Nat} {σ : zTS} {g : zP} {o : Nat → Int64} {f0 : ZH} (hj : j ≤ 1000) (ho : g.2.1 = 0 → o 0 = ovB g.1) (hK : K (lsW i (some (.int g.2.1)) (some (.int g.1))) [] (zLw σ g.2 o f0, j)) : bTB K (lsW i (some (.int g.2.1)) (some (.int g.1))) [] (zLw σ g.2 o f0, j) := by
  obtain ⟨fs, h29, hfs⟩ := zLw_29 (σ := σ) (μ := g.2) (o := o) (f := f0)
  refine ⟨hj, fs, h29, hfs, rfl, Nat.zero_le _, g.2, _, rfl, zLw_M, ?_⟩
  refine ⟨fun _ => ⟨fun _ => hK, fun h0 => ?_⟩, fun h => absurd rfl h⟩
  have h0 : g.2.1 = 0 := Classical.not_not.mp h0
  have h1 := ho h0
  simp only [o_aload, o_ic, o_laldT, o_iload, o_lc, o_lcmp, o_if1, List.getElem?_cons_zero, List.getElem?_cons_succ, zLw_44]
  refine ⟨trivial, vp_in_nI (n := 0) (by omega) (by omega), fun hg => ⟨fun _ => hK, fun h => absurd ?_ h⟩, fun hg => ⟨fun _ => hK, fun h => absurd ?_ h⟩⟩
  · rw [show o (0 : Int32).toNatClampNeg = 0 from h1.trans (if_pos hg)]
    exact cmp_self _
  · rw [show o (0 : Int32).toNatClampNeg = 1 from h1.trans (if_neg hg)]
    exact cmp_self _
