section KC
variable {p : Program} {l : Launch} {e : Env} {R : Room} {s : State} {m : MethodId} {args : Array Value} {below : List Frame} {meth : Method} {c : Code}
variable {nL z0 b N M : Nat} {D : va_G} {cA : Nat → ClassId} {Q : State → Prop} {pc : Nat} {cc : ByteArray} {own : String} {K : ZK ZH}
variable {Kn : Option Value → ZH → Prop} {Kx : Nat → Prop} {h0 : ZH}

theorem zok_len {n : Nat} {a : List Value} (h : zok n a = true) : a.length = n := by
  simp only [zok, Bool.and_eq_true, beq_iff_eq] at h
  exact h.1
theorem zok_cat {n : Nat} {a : List Value} (h : zok n a = true) : ∀ v ∈ a, v.category = 1 := by
  simp only [zok, Bool.and_eq_true, List.all_eq_true, beq_iff_eq] at h
  exact h.2
theorem zcat4 : ∀ (r : List Value), ((r.map (zc z0 b)).map fun v => v.category).sum ≤ 2 * r.length
  | [] => Nat.le_refl _
  | v :: r => by
    have h1 : v.category ≤ 2 := by cases v <;> simp [Value.category]
    have h2 := zcat4 r
    simp only [List.map_cons, List.sum_cons, List.length_cons, zc_cat]
    omega
theorem zrest (r : List Value) (h : r.length ≤ 4) : ((r.map (zc z0 b)).map fun v => v.category).sum ≤ 8 := Nat.le_trans (zcat4 r) (by omega)
theorem zMet {y : MethodName} {ws : List Cond} {rm : Room} {Pc : Array Value → State → Prop} {Qc : Array Value → State → Outcome → State → Prop} {XC : String → State → State → Prop} {mc ms : Nat} {free : Addr → Prop} (hM : vx_Met l y ws rm Pc Qc XC mc ms free) (hX : ∀ E st t, ¬ XC E st t) : Met l y ws rm Pc Qc mc ms free := by
  intro p e h1 h2 h3 s m args below h4 h5 h6 h7
  obtain ⟨n, oc, q1, q2, q3, q4⟩ := hM p e h1 h2 h3 s m args below h4 h5 h6 h7
  refine ⟨n, oc, q1, q2, q3, ?_⟩
  rcases q4 with h | ⟨q, -, E, ce, L, hx, -⟩
  · exact h
  · exact (hX _ _ _ hx).elim
/-- behind a call that returned -/
theorem z_after {H : Heap} {locs Lc : List Loc} {L : Array Slot} {ls : List (Option Value)} {r G : List Value} {T T' st₀ t : State} {v : Option Value} {Kk : Option Value → ZH → Prop} {x : Array Value} (hK : Snd p l e R s m args below meth c nL z0 b (zI z0 b N D cA s) (fun _ => (0, 0)) Q (pc + 3) K) (hKk : ∀ v h', Kk v h' → K ls (v.toList ++ r) h') (hz0 : z0 ≤ s.heap.size) (hS : va_S (fun q : Nat => z0 ≤ q) s.heap H locs) (hL : zL z0 b L nL ls)
    (h0 : st₀.heap = H) (X' : Stand p l e R s m args below meth c T' (locs ++ Lc) 0 0) (hLc : ∀ q ∈ Lc, z0 ≤ q.base) (e1 : T'.heap = t.heap) (hq : zQn z0 b N D cA Kk x st₀ (.returned v) t)
    (st : Goes p e below T (F0 m pc L G) T' { (F0 m pc L G) with pc := pc + 3, stack := v.toList ++ r.map (zc z0 b) }) : ∃ t, Steps p.tables e below (T.setTop (F0 m pc L G)) t ∧ Q t := by
  obtain ⟨⟨v', h', hv, hkn, hP', hd'⟩, hF⟩ := hq
  have hvv : v = v'.map (zc z0 b) := by
    cases hv
    rfl
  subst hvv
  obtain ⟨-, -, k3⟩ := vx_keep h0 e1 hS (fun q _ h => h) (fun q h => h) hLc hF
  obtain ⟨t2, a1, b1⟩ := hK _ _ _ (hKk _ _ hkn) T'.heap (locs ++ Lc) L ⟨by rw [e1]; exact hP', k3, hd'⟩ hL T' rfl X'
  refine ⟨t2, st t2 ?_, b1⟩
  have e9 : (v'.map (zc z0 b)).toList ++ r.map (zc z0 b) = (v'.toList ++ r).map (zc z0 b) := by cases v' <;> simp
  rw [e9]
  exact a1
/-- behind a call that threw, in a body without handlers -/
theorem z_thrown (C : zCx p l R s m args meth c cc nL own z0 D cA M) (htab : ∀ x ∈ c.exceptionTable.toList, False) {H : Heap} {locs Lc : List Loc} {L : Array Slot} {r G : List Value} {T T' st₀ t : State} {Kx9 : Nat → Prop} {q : Addr} {E : String} {ce : Cell} (hM : M = 1) (hkx : ∀ k, Kx9 k → Kx k) (hS : va_S (fun q : Nat => z0 ≤ q) s.heap H locs)
    (hh0 : st₀.heap = H) (X' : Stand p l e R s m args below meth c T' (locs ++ Lc) 1 6) (hLc : ∀ q ∈ Lc, z0 ≤ q.base) (e1 : T'.heap = t.heap) (hx : zXn z0 b N D cA Kx9 h0 E st₀ t) (hce : t.heap[q]? = some ce) (hcv : ce.vm = .none) (hcl : s.vm.findClass E = some ce.cls)
    (st : Steps p.tables e below (T.setTop (F0 m pc L G)) ((T'.setTop { (F0 m pc L G) with stack := r }).pushFrame (.throwing q))) : ∃ t, Steps p.tables e below (T.setTop (F0 m pc L G)) t ∧ (vx_MQ below (zQn z0 b N D cA Kn) (zXn z0 b N D cA Kx h0) args s M (6 * M) (fun q => z0 ≤ q)) t := by
  obtain ⟨hx9, hb, hml, hown, hts, hg, hz, hz0, hlocks, hlt, hM1, hM2⟩ := C
  obtain ⟨⟨k', hE, hk9, hP', hgr⟩, hF⟩ := hx
  obtain ⟨-, -, k3⟩ := vx_keep hh0 e1 hS (fun q _ h => h) (fun q h => h) hLc hF
  have hw := vx_out (p := p) (l := l) (e := e) (R := R) (s := s) (m := m) (args := args) (below := below) (meth := meth) (c := c) (H := T'.heap) (locs := locs ++ Lc) (cells := 1) (slots := 6) (ls := L) (rest := r) (pc := pc) (Qc := zQn z0 b N D cA Kn) (XC := zXn z0 b N D cA Kx h0) (free := fun q => z0 ≤ q) (mc := M) (ms := 6 * M) (q := q) (E := E) (ce := ce) (fun x hx => (htab x hx).elim) hlocks (by rw [e1]; exact hce) hcv hcl
    (fun u hu hA => ⟨⟨k', hE, hkx k' hk9, by rw [hu, e1]; exact hP', by rw [hu, e1]; exact Nat.lt_of_le_of_lt hS.1 (by rw [← hh0]; exact hgr)⟩, k3.F hu⟩) k3.2.2 (by omega) (by omega)
  obtain ⟨t2, a1, b1⟩ := hw T' rfl X'
  exact ⟨t2, st.trans a1, b1⟩
theorem zPre {h : ZH} {a : List Value} {H : Heap} {locs : List Loc} (hg : zG D cA s) (hz : zZ z0 s s.heap) (hz0 : z0 ≤ s.heap.size) (hI : zI z0 b N D cA s h H locs) : ∀ U : State, U.heap = H → s.WarmedH U.vm → zPc z0 b N D cA a h (a.map (zc z0 b)).toArray U :=
  fun U hU hW => ⟨rfl, by rw [hU]; exact Nat.le_trans hz0 hI.2.1.1, hg.warm hW, hz.on hW (by rw [hU]; exact hI.2.1.2.1), by rw [hU]; exact hI.1, hI.2.2⟩

theorem z_callS (C : zCx p l R s m args meth c cc nL own z0 D cA M) (htab : ∀ x ∈ c.exceptionTable.toList, False) {idx maxL fr lo n : Nat} {y : MethodName} {bytes : ByteArray} {ret : Option FieldType} {exc : List Value → ZH → Nat → Prop} {ctN : List Value → ZH → (Option Value → ZH → Prop) → Prop} (hsem : Sem l z0 b N D cA y bytes maxL ret fr lo n exc ctN) (hlink : Cond.methodLink own idx y ∈ zWS) (hstat : Cond.static y ∈ zWS) (hini : Cond.initialized y.cls ∈ zWS) (hcode : Cond.code y bytes maxL ret ∈ zWS) (hd : y.cls ≠ "java/lang/invoke/MethodHandle" ∧ y.cls ≠ "java/lang/invoke/VarHandle" ∧ (parseMethodDescriptor y.desc).map (fun d => d.parameters.length) = some n) (hR : fr + 1 ≤ R.frames ∧ 8 + (maxL + 11) + lo ≤ R.locals) (d : decode cc pc = .ok (.invokestatic idx, 3)) (hK : Snd p l e R s m args below meth c nL z0 b (zI z0 b N D cA s) (fun _ => (0, 0)) (vx_MQ below (zQn z0 b N D cA Kn) (zXn z0 b N D cA Kx h0) args s M (6 * M) (fun q => z0 ≤ q)) (pc + 3) K)
    (ls : List (Option Value)) (a r : List Value) (h : ZH) (hq : zcall M n exc ctN Kx h0 K ls a r h) : AW p l e R s m args below meth c nL z0 b (zI z0 b N D cA s) (fun _ => (0, 0)) (vx_MQ below (zQn z0 b N D cA Kn) (zXn z0 b N D cA Kx h0) args s M (6 * M) (fun q => z0 ≤ q)) pc ls (a.reverse ++ r) h := by
  intro H locs L hI hL
  have C' := C
  obtain ⟨hx, hb, hml, hown, hts, hg, hz, hz0, hlocks, hlt, hM1, hM2⟩ := C
  obtain ⟨hok, hr4, hq1, hq2⟩ := hq
  have hG : GoodIn zWS (va_wsS own idx y (Cond.code y bytes maxL ret :: zWS)) := zGood (fun w hw => by
    simp only [va_wsS, List.mem_append, List.mem_cons, List.not_mem_nil, or_false] at hw
    rcases hw with (rfl | rfl | rfl) | rfl | hw <;> assumption)
  have hpre := zPre (a := a) hg hz hz0 hI
  have hstk : ((a.reverse ++ r).map (zc z0 b)) = (a.map (zc z0 b)).reverse ++ r.map (zc z0 b) := by rw [List.map_append, List.map_reverse]
  intro T hT X
  by_cases hex : ∀ k, ¬ exc a h k
  · skip
    have hM := hsem 0 a h (fun v h' => K ls (v.toList ++ r) h') (fun _ => False) hok (fun k hk => (hex k hk).elim) hq2
    rcases vx_runS (g := F0 m pc L ((a.reverse ++ r).map (zc z0 b))) (H := H) (locs := locs) (cells := 0) (slots := 0) (e := e) (below := below) (meth := meth) (R := R) (As := a.map (zc z0 b)) (rest := r.map (zc z0 b)) ⟨hx, hb, hml, hown, hts⟩ hM (va_cwS n hts hG rfl rfl rfl hd hR) ⟨zPc.blind, hpre⟩ rfl (by rw [List.length_map]; exact zok_len hok) hL.1.1 hstk (lv_room (zrest r hr4)) d ⟨Nat.zero_le _, Nat.zero_le _⟩ T hT X with ⟨v, st₀, t, T', Lc, g0, X', hLc, e1, e2, hqn, st⟩ | ⟨q, st₀, t, T', Lc, E, ce, g0, X', hLc, e1, e2, hxn, hce, hcv, hcl, st⟩
    · exact z_after hK (fun v h' h9 => h9) hz0 hI.2.1 hL g0 X' hLc e1 hqn st
    · obtain ⟨⟨k', -, h9, -⟩, -⟩ := hxn
      exact h9.elim
  · obtain ⟨k, hexk⟩ := Classical.not_forall.mp hex
    have hexk := Classical.not_not.mp hexk
    obtain ⟨hM9, -, rfl⟩ := hq1 k hexk
    have hM := hsem 1 a h (fun _ _ => False) (fun k' => exc a h k') hok (fun k' hk => ⟨rfl, hk⟩) (fun h9 => (h9 k hexk).elim)
    rcases vx_runS (g := F0 m pc L ((a.reverse ++ r).map (zc z0 b))) (H := H) (locs := locs) (cells := 0) (slots := 0) (e := e) (below := below) (meth := meth) (R := R) (As := a.map (zc z0 b)) (rest := r.map (zc z0 b)) ⟨hx, hb, hml, hown, hts⟩ hM (va_cwS n hts hG rfl rfl rfl hd hR) ⟨zPc.blind, hpre⟩ rfl (by rw [List.length_map]; exact zok_len hok) hL.1.1 hstk (lv_room (zrest r hr4)) d ⟨by omega, by omega⟩ T hT X with ⟨v, st₀, t, T', Lc, g0, X', hLc, e1, e2, hqn, st⟩ | ⟨q, st₀, t, T', Lc, E, ce, g0, X', hLc, e1, e2, hxn, hce, hcv, hcl, st⟩
    · obtain ⟨⟨v', h', -, h9, -⟩, -⟩ := hqn
      exact h9.elim
    · exact z_thrown C' htab hM9 (fun k' hk' => (hq1 k' hk').2.1) hI.2.1 g0 X' hLc e1 hxn hce hcv hcl st
theorem z_callV (C : zCx p l R s m args meth c cc nL own z0 D cA M) (htab : ∀ x ∈ c.exceptionTable.toList, False) {ci Nf : Nat} {Cn : String} {Tf : u_T} {idx maxL fr lo n : Nat} {y : MethodName} {bytes : ByteArray} {ret : Option FieldType} {exc : List Value → ZH → Nat → Prop} {ctN : List Value → ZH → (Option Value → ZH → Prop) → Prop} (hc : vwCl[ci]? = some (Cn, Tf, Nf)) (hsem : Sem l z0 b N D cA y bytes maxL ret fr lo (n + 1) exc ctN) (hy : y.cls = Cn) (hlink : Cond.methodLink own idx y ∈ zWS) (hinst : Cond.instanceMethod y ∈ zWS) (hsel : Cond.selects Cn y y ∈ zWS) (hini : Cond.initialized Cn ∈ zWS) (hcode : Cond.code y bytes maxL ret ∈ zWS) (hd : y.cls ≠ "java/lang/invoke/MethodHandle" ∧ y.cls ≠ "java/lang/invoke/VarHandle" ∧ (parseMethodDescriptor y.desc).map (fun d => d.parameters.length) = some n) (hR : fr + 1 ≤ R.frames ∧ 8 + (maxL + 11) + lo ≤ R.locals) (d : decode cc pc = .ok (.invokevirtual idx, 3)) (hK : Snd p l e R s m args below meth c nL z0 b (zI z0 b N D cA s) (fun _ => (0, 0)) (vx_MQ below (zQn z0 b N D cA Kn) (zXn z0 b N D cA Kx h0) args s M (6 * M) (fun q => z0 ≤ q)) (pc + 3) K)
    (ls : List (Option Value)) (a0 : Nat) (a r fs : List Value) (h : ZH) (hrc : h a0 = .inr (ci, fs)) (hfs : 0 < fs.length) (hq : zcall M (n + 1) exc ctN Kx h0 K ls (.ref a0 :: a) r h) : AW p l e R s m args below meth c nL z0 b (zI z0 b N D cA s) (fun _ => (0, 0)) (vx_MQ below (zQn z0 b N D cA Kn) (zXn z0 b N D cA Kx h0) args s M (6 * M) (fun q => z0 ≤ q)) pc ls (a.reverse ++ .ref a0 :: r) h := by
  intro H locs L hI hL
  have C' := C
  obtain ⟨hx, hb, hml, hown, hts, hg, hz, hz0, hlocks, hlt, hM1, hM2⟩ := C
  obtain ⟨hok, hr4, hq1, hq2⟩ := hq
  have hG : GoodIn zWS (wsV own idx Cn y (Cond.code y bytes maxL ret :: zWS)) := zGood (fun w hw => by
    simp only [wsV, List.mem_append, List.mem_cons, List.not_mem_nil, or_false] at hw
    rcases hw with (rfl | rfl | rfl | rfl) | rfl | hw <;> assumption)
  have hpre := zPre (a := .ref a0 :: a) hg hz hz0 hI
  have hnd : ¬ (Sum.inr (ci, fs) : va_E) = zdum := fun z => by cases z; simp at hfs
  have hrecv := va_recv hg.1 hI.1 hc (hI.get hrc hnd)
  have hstk : ((a.reverse ++ .ref a0 :: r).map (zc z0 b)) = (a.map (zc z0 b)).reverse ++ .ref (z0 + a0) :: r.map (zc z0 b) := by rw [List.map_append, List.map_reverse]; rfl
  have hlen : (a.map (zc z0 b)).length = n := by
    have := zok_len hok
    rw [List.length_map]
    simpa using this
  intro T hT X
  by_cases hex : ∀ k, ¬ exc (.ref a0 :: a) h k
  · skip
    have hM := hsem 0 (.ref a0 :: a) h (fun v h' => K ls (v.toList ++ r) h') (fun _ => False) hok (fun k hk => (hex k hk).elim) hq2
    rcases vx_runV (g := F0 m pc L ((a.reverse ++ .ref a0 :: r).map (zc z0 b))) (H := H) (locs := locs) (cells := 0) (slots := 0) (e := e) (below := below) (meth := meth) (R := R) (C := Cn) (b := z0 + a0) (As := a.map (zc z0 b)) (rest := r.map (zc z0 b)) ⟨hx, hb, hml, hown, hts⟩ hM (cwV n hts hG rfl rfl rfl ⟨hy, hd⟩ hR) ⟨zPc.blind, hrecv, hpre⟩ rfl hlen hL.1.1 hstk (lv_room (zrest r hr4)) d ⟨Nat.zero_le _, Nat.zero_le _⟩ T hT X with ⟨v, st₀, t, T', Lc, g0, X', hLc, e1, e2, hqn, st⟩ | ⟨q, st₀, t, T', Lc, E, ce, g0, X', hLc, e1, e2, hxn, hce, hcv, hcl, st⟩
    · exact z_after hK (fun v h' h9 => h9) hz0 hI.2.1 hL g0 X' hLc e1 hqn st
    · obtain ⟨⟨k', -, h9, -⟩, -⟩ := hxn
      exact h9.elim
  · obtain ⟨k, hexk⟩ := Classical.not_forall.mp hex
    have hexk := Classical.not_not.mp hexk
    obtain ⟨hM9, -, rfl⟩ := hq1 k hexk
    have hM := hsem 1 (.ref a0 :: a) h (fun _ _ => False) (fun k' => exc (.ref a0 :: a) h k') hok (fun k' hk => ⟨rfl, hk⟩) (fun h9 => (h9 k hexk).elim)
    rcases vx_runV (g := F0 m pc L ((a.reverse ++ .ref a0 :: r).map (zc z0 b))) (H := H) (locs := locs) (cells := 0) (slots := 0) (e := e) (below := below) (meth := meth) (R := R) (C := Cn) (b := z0 + a0) (As := a.map (zc z0 b)) (rest := r.map (zc z0 b)) ⟨hx, hb, hml, hown, hts⟩ hM (cwV n hts hG rfl rfl rfl ⟨hy, hd⟩ hR) ⟨zPc.blind, hrecv, hpre⟩ rfl hlen hL.1.1 hstk (lv_room (zrest r hr4)) d ⟨by omega, by omega⟩ T hT X with ⟨v, st₀, t, T', Lc, g0, X', hLc, e1, e2, hqn, st⟩ | ⟨q, st₀, t, T', Lc, E, ce, g0, X', hLc, e1, e2, hxn, hce, hcv, hcl, st⟩
    · obtain ⟨⟨v', h', -, h9, -⟩, -⟩ := hqn
      exact h9.elim
    · exact z_thrown C' htab hM9 (fun k' hk' => (hq1 k' hk').2.1) hI.2.1 g0 X' hLc e1 hxn hce hcv hcl st
theorem z_callSN (C : zCx p l R s m args meth c cc nL own z0 D cA M) {host : String} {idx maxL fr lo n : Nat} {y : MethodName} {bytes : ByteArray} {ret : Option FieldType} {exc : List Value → ZH → Nat → Prop} {ctN : List Value → ZH → (Option Value → ZH → Prop) → Prop} (hsem : Sem l z0 b N D cA y bytes maxL ret fr lo n exc ctN) (hnest : (own, idx, y, host) ∈ zNest) (hex : ∀ a h k, ¬ exc a h k) (hstat : Cond.static y ∈ zWS) (hini : Cond.initialized y.cls ∈ zWS) (hcode : Cond.code y bytes maxL ret ∈ zWS) (hd : y.cls ≠ "java/lang/invoke/MethodHandle" ∧ y.cls ≠ "java/lang/invoke/VarHandle" ∧ (parseMethodDescriptor y.desc).map (fun d => d.parameters.length) = some n) (hR : fr + 1 ≤ R.frames ∧ 8 + (maxL + 11) + lo ≤ R.locals) (d : decode cc pc = .ok (.invokestatic idx, 3)) (hK : Snd p l e R s m args below meth c nL z0 b (zI z0 b N D cA s) (fun _ => (0, 0)) (vx_MQ below (zQn z0 b N D cA Kn) (zXn z0 b N D cA Kx h0) args s M (6 * M) (fun q => z0 ≤ q)) (pc + 3) K)
    (ls : List (Option Value)) (a r : List Value) (h : ZH) (hq : zcall M n exc ctN Kx h0 K ls a r h) : AW p l e R s m args below meth c nL z0 b (zI z0 b N D cA s) (fun _ => (0, 0)) (vx_MQ below (zQn z0 b N D cA Kn) (zXn z0 b N D cA Kx h0) args s M (6 * M) (fun q => z0 ≤ q)) pc ls (a.reverse ++ r) h := by
  intro H locs L hI hL
  obtain ⟨hx, hb, hml, hown, hts, hg, hz, hz0, hlocks, hlt, hM1, hM2⟩ := C
  obtain ⟨hok, hr4, hq1, hq2⟩ := hq
  have hG : GoodIn zWS (Cond.code y bytes maxL ret :: zWS) := zGood (fun w hw => by
    rcases List.mem_cons.mp hw with rfl | hw <;> assumption)
  have hpre := zPre (a := a) hg hz hz0 hI
  have hstk : ((a.reverse ++ r).map (zc z0 b)) = (a.map (zc z0 b)).reverse ++ r.map (zc z0 b) := by rw [List.map_append, List.map_reverse]
  intro T hT X
  have hM := zMet (hsem 0 a h (fun v h' => K ls (v.toList ++ r) h') (fun _ => False) hok (fun k hk => (hex _ _ _ hk).elim) hq2) (fun E st t hxn => by
    obtain ⟨⟨k', -, h9, -⟩, -⟩ := hxn
    exact h9)
  obtain ⟨v, st₀, t, T', Lc, g0, X', hLc, e1, e2, hqn, st⟩ := va_runSN (g := F0 m pc L ((a.reverse ++ r).map (zc z0 b))) (H := H) (locs := locs) (cells := 0) (slots := 0) (e := e) (below := below) (meth := meth) (R := R) (As := a.map (zc z0 b)) (rest := r.map (zc z0 b)) ⟨hx, hb, hml, hown, hts⟩ hM ⟨va_cnB n hts hG rfl rfl rfl (hg.2.1 _ hnest) (hts _ hini) hd hR, hts _ hstat, trivial⟩ ⟨zPc.blind, hpre⟩ rfl (by rw [List.length_map]; exact zok_len hok) hL.1.1 hstk (lv_room (zrest r hr4)) d ⟨Nat.zero_le _, Nat.zero_le _⟩ T hT X
  exact z_after hK (fun v h' h9 => h9) hz0 hI.2.1 hL g0 X' hLc e1 hqn st
theorem k_callS0 (C : zCx p l R s m args meth c cc nL own z0 D cA M) (htab : ∀ x ∈ c.exceptionTable.toList, False) {idx maxL fr lo : Nat} {y : MethodName} {bytes : ByteArray} {ret : Option FieldType} {exc : List Value → ZH → Nat → Prop} {ctN : List Value → ZH → (Option Value → ZH → Prop) → Prop} (hsem : Sem l z0 b N D cA y bytes maxL ret fr lo 0 exc ctN) (hlink : Cond.methodLink own idx y ∈ zWS) (hstat : Cond.static y ∈ zWS) (hini : Cond.initialized y.cls ∈ zWS) (hcode : Cond.code y bytes maxL ret ∈ zWS) (hd : y.cls ≠ "java/lang/invoke/MethodHandle" ∧ y.cls ≠ "java/lang/invoke/VarHandle" ∧ (parseMethodDescriptor y.desc).map (fun d => d.parameters.length) = some 0) (hR : fr + 1 ≤ R.frames ∧ 8 + (maxL + 11) + lo ≤ R.locals) (d : decode cc pc = .ok (.invokestatic idx, 3)) (hK : Snd p l e R s m args below meth c nL z0 b (zI z0 b N D cA s) (fun _ => (0, 0)) (vx_MQ below (zQn z0 b N D cA Kn) (zXn z0 b N D cA Kx h0) args s M (6 * M) (fun q => z0 ≤ q)) (pc + 3) K) : Snd p l e R s m args below meth c nL z0 b (zI z0 b N D cA s) (fun _ => (0, 0)) (vx_MQ below (zQn z0 b N D cA Kn) (zXn z0 b N D cA Kx h0) args s M (6 * M) (fun q => z0 ≤ q)) pc (o_callS0 M exc ctN Kx h0 K) := by
  intro ls st h hq
  exact z_callS C htab hsem hlink hstat hini hcode hd hR d hK ls [] st h hq
theorem k_callS1 (C : zCx p l R s m args meth c cc nL own z0 D cA M) (htab : ∀ x ∈ c.exceptionTable.toList, False) {idx maxL fr lo : Nat} {y : MethodName} {bytes : ByteArray} {ret : Option FieldType} {exc : List Value → ZH → Nat → Prop} {ctN : List Value → ZH → (Option Value → ZH → Prop) → Prop} (hsem : Sem l z0 b N D cA y bytes maxL ret fr lo 1 exc ctN) (hlink : Cond.methodLink own idx y ∈ zWS) (hstat : Cond.static y ∈ zWS) (hini : Cond.initialized y.cls ∈ zWS) (hcode : Cond.code y bytes maxL ret ∈ zWS) (hd : y.cls ≠ "java/lang/invoke/MethodHandle" ∧ y.cls ≠ "java/lang/invoke/VarHandle" ∧ (parseMethodDescriptor y.desc).map (fun d => d.parameters.length) = some 1) (hR : fr + 1 ≤ R.frames ∧ 8 + (maxL + 11) + lo ≤ R.locals) (d : decode cc pc = .ok (.invokestatic idx, 3)) (hK : Snd p l e R s m args below meth c nL z0 b (zI z0 b N D cA s) (fun _ => (0, 0)) (vx_MQ below (zQn z0 b N D cA Kn) (zXn z0 b N D cA Kx h0) args s M (6 * M) (fun q => z0 ≤ q)) (pc + 3) K) : Snd p l e R s m args below meth c nL z0 b (zI z0 b N D cA s) (fun _ => (0, 0)) (vx_MQ below (zQn z0 b N D cA Kn) (zXn z0 b N D cA Kx h0) args s M (6 * M) (fun q => z0 ≤ q)) pc (o_callS1 M exc ctN Kx h0 K) := by
  intro ls st h hq
  unfold o_callS1 at hq
  split at hq
  · next v0 r =>
    exact z_callS C htab hsem hlink hstat hini hcode hd hR d hK ls [v0] r h hq
  · exact hq.elim
theorem k_callS2 (C : zCx p l R s m args meth c cc nL own z0 D cA M) (htab : ∀ x ∈ c.exceptionTable.toList, False) {idx maxL fr lo : Nat} {y : MethodName} {bytes : ByteArray} {ret : Option FieldType} {exc : List Value → ZH → Nat → Prop} {ctN : List Value → ZH → (Option Value → ZH → Prop) → Prop} (hsem : Sem l z0 b N D cA y bytes maxL ret fr lo 2 exc ctN) (hlink : Cond.methodLink own idx y ∈ zWS) (hstat : Cond.static y ∈ zWS) (hini : Cond.initialized y.cls ∈ zWS) (hcode : Cond.code y bytes maxL ret ∈ zWS) (hd : y.cls ≠ "java/lang/invoke/MethodHandle" ∧ y.cls ≠ "java/lang/invoke/VarHandle" ∧ (parseMethodDescriptor y.desc).map (fun d => d.parameters.length) = some 2) (hR : fr + 1 ≤ R.frames ∧ 8 + (maxL + 11) + lo ≤ R.locals) (d : decode cc pc = .ok (.invokestatic idx, 3)) (hK : Snd p l e R s m args below meth c nL z0 b (zI z0 b N D cA s) (fun _ => (0, 0)) (vx_MQ below (zQn z0 b N D cA Kn) (zXn z0 b N D cA Kx h0) args s M (6 * M) (fun q => z0 ≤ q)) (pc + 3) K) : Snd p l e R s m args below meth c nL z0 b (zI z0 b N D cA s) (fun _ => (0, 0)) (vx_MQ below (zQn z0 b N D cA Kn) (zXn z0 b N D cA Kx h0) args s M (6 * M) (fun q => z0 ≤ q)) pc (o_callS2 M exc ctN Kx h0 K) := by
  intro ls st h hq
  unfold o_callS2 at hq
  split at hq
  · next v1 v0 r =>
    exact z_callS C htab hsem hlink hstat hini hcode hd hR d hK ls [v0, v1] r h hq
  · exact hq.elim
theorem k_callS3 (C : zCx p l R s m args meth c cc nL own z0 D cA M) (htab : ∀ x ∈ c.exceptionTable.toList, False) {idx maxL fr lo : Nat} {y : MethodName} {bytes : ByteArray} {ret : Option FieldType} {exc : List Value → ZH → Nat → Prop} {ctN : List Value → ZH → (Option Value → ZH → Prop) → Prop} (hsem : Sem l z0 b N D cA y bytes maxL ret fr lo 3 exc ctN) (hlink : Cond.methodLink own idx y ∈ zWS) (hstat : Cond.static y ∈ zWS) (hini : Cond.initialized y.cls ∈ zWS) (hcode : Cond.code y bytes maxL ret ∈ zWS) (hd : y.cls ≠ "java/lang/invoke/MethodHandle" ∧ y.cls ≠ "java/lang/invoke/VarHandle" ∧ (parseMethodDescriptor y.desc).map (fun d => d.parameters.length) = some 3) (hR : fr + 1 ≤ R.frames ∧ 8 + (maxL + 11) + lo ≤ R.locals) (d : decode cc pc = .ok (.invokestatic idx, 3)) (hK : Snd p l e R s m args below meth c nL z0 b (zI z0 b N D cA s) (fun _ => (0, 0)) (vx_MQ below (zQn z0 b N D cA Kn) (zXn z0 b N D cA Kx h0) args s M (6 * M) (fun q => z0 ≤ q)) (pc + 3) K) : Snd p l e R s m args below meth c nL z0 b (zI z0 b N D cA s) (fun _ => (0, 0)) (vx_MQ below (zQn z0 b N D cA Kn) (zXn z0 b N D cA Kx h0) args s M (6 * M) (fun q => z0 ≤ q)) pc (o_callS3 M exc ctN Kx h0 K) := by
  intro ls st h hq
  unfold o_callS3 at hq
  split at hq
  · next v2 v1 v0 r =>
    exact z_callS C htab hsem hlink hstat hini hcode hd hR d hK ls [v0, v1, v2] r h hq
  · exact hq.elim
theorem k_callS4 (C : zCx p l R s m args meth c cc nL own z0 D cA M) (htab : ∀ x ∈ c.exceptionTable.toList, False) {idx maxL fr lo : Nat} {y : MethodName} {bytes : ByteArray} {ret : Option FieldType} {exc : List Value → ZH → Nat → Prop} {ctN : List Value → ZH → (Option Value → ZH → Prop) → Prop} (hsem : Sem l z0 b N D cA y bytes maxL ret fr lo 4 exc ctN) (hlink : Cond.methodLink own idx y ∈ zWS) (hstat : Cond.static y ∈ zWS) (hini : Cond.initialized y.cls ∈ zWS) (hcode : Cond.code y bytes maxL ret ∈ zWS) (hd : y.cls ≠ "java/lang/invoke/MethodHandle" ∧ y.cls ≠ "java/lang/invoke/VarHandle" ∧ (parseMethodDescriptor y.desc).map (fun d => d.parameters.length) = some 4) (hR : fr + 1 ≤ R.frames ∧ 8 + (maxL + 11) + lo ≤ R.locals) (d : decode cc pc = .ok (.invokestatic idx, 3)) (hK : Snd p l e R s m args below meth c nL z0 b (zI z0 b N D cA s) (fun _ => (0, 0)) (vx_MQ below (zQn z0 b N D cA Kn) (zXn z0 b N D cA Kx h0) args s M (6 * M) (fun q => z0 ≤ q)) (pc + 3) K) : Snd p l e R s m args below meth c nL z0 b (zI z0 b N D cA s) (fun _ => (0, 0)) (vx_MQ below (zQn z0 b N D cA Kn) (zXn z0 b N D cA Kx h0) args s M (6 * M) (fun q => z0 ≤ q)) pc (o_callS4 M exc ctN Kx h0 K) := by
  intro ls st h hq
  unfold o_callS4 at hq
  split at hq
  · next v3 v2 v1 v0 r =>
    exact z_callS C htab hsem hlink hstat hini hcode hd hR d hK ls [v0, v1, v2, v3] r h hq
  · exact hq.elim
theorem k_callS5 (C : zCx p l R s m args meth c cc nL own z0 D cA M) (htab : ∀ x ∈ c.exceptionTable.toList, False) {idx maxL fr lo : Nat} {y : MethodName} {bytes : ByteArray} {ret : Option FieldType} {exc : List Value → ZH → Nat → Prop} {ctN : List Value → ZH → (Option Value → ZH → Prop) → Prop} (hsem : Sem l z0 b N D cA y bytes maxL ret fr lo 5 exc ctN) (hlink : Cond.methodLink own idx y ∈ zWS) (hstat : Cond.static y ∈ zWS) (hini : Cond.initialized y.cls ∈ zWS) (hcode : Cond.code y bytes maxL ret ∈ zWS) (hd : y.cls ≠ "java/lang/invoke/MethodHandle" ∧ y.cls ≠ "java/lang/invoke/VarHandle" ∧ (parseMethodDescriptor y.desc).map (fun d => d.parameters.length) = some 5) (hR : fr + 1 ≤ R.frames ∧ 8 + (maxL + 11) + lo ≤ R.locals) (d : decode cc pc = .ok (.invokestatic idx, 3)) (hK : Snd p l e R s m args below meth c nL z0 b (zI z0 b N D cA s) (fun _ => (0, 0)) (vx_MQ below (zQn z0 b N D cA Kn) (zXn z0 b N D cA Kx h0) args s M (6 * M) (fun q => z0 ≤ q)) (pc + 3) K) : Snd p l e R s m args below meth c nL z0 b (zI z0 b N D cA s) (fun _ => (0, 0)) (vx_MQ below (zQn z0 b N D cA Kn) (zXn z0 b N D cA Kx h0) args s M (6 * M) (fun q => z0 ≤ q)) pc (o_callS5 M exc ctN Kx h0 K) := by
  intro ls st h hq
  unfold o_callS5 at hq
  split at hq
  · next v4 v3 v2 v1 v0 r =>
    exact z_callS C htab hsem hlink hstat hini hcode hd hR d hK ls [v0, v1, v2, v3, v4] r h hq
  · exact hq.elim
theorem k_callSN0 (C : zCx p l R s m args meth c cc nL own z0 D cA M) {idx maxL fr lo : Nat} {y : MethodName} {bytes : ByteArray} {ret : Option FieldType} {exc : List Value → ZH → Nat → Prop} {ctN : List Value → ZH → (Option Value → ZH → Prop) → Prop} (hsem : Sem l z0 b N D cA y bytes maxL ret fr lo 0 exc ctN) {host : String} (hnest : (own, idx, y, host) ∈ zNest) (hex : ∀ a h k, ¬ exc a h k) (hstat : Cond.static y ∈ zWS) (hini : Cond.initialized y.cls ∈ zWS) (hcode : Cond.code y bytes maxL ret ∈ zWS) (hd : y.cls ≠ "java/lang/invoke/MethodHandle" ∧ y.cls ≠ "java/lang/invoke/VarHandle" ∧ (parseMethodDescriptor y.desc).map (fun d => d.parameters.length) = some 0) (hR : fr + 1 ≤ R.frames ∧ 8 + (maxL + 11) + lo ≤ R.locals) (d : decode cc pc = .ok (.invokestatic idx, 3)) (hK : Snd p l e R s m args below meth c nL z0 b (zI z0 b N D cA s) (fun _ => (0, 0)) (vx_MQ below (zQn z0 b N D cA Kn) (zXn z0 b N D cA Kx h0) args s M (6 * M) (fun q => z0 ≤ q)) (pc + 3) K) : Snd p l e R s m args below meth c nL z0 b (zI z0 b N D cA s) (fun _ => (0, 0)) (vx_MQ below (zQn z0 b N D cA Kn) (zXn z0 b N D cA Kx h0) args s M (6 * M) (fun q => z0 ≤ q)) pc (o_callS0 M exc ctN Kx h0 K) := by
  intro ls st h hq
  exact z_callSN C hsem hnest hex hstat hini hcode hd hR d hK ls [] st h hq
theorem k_callSN1 (C : zCx p l R s m args meth c cc nL own z0 D cA M) {idx maxL fr lo : Nat} {y : MethodName} {bytes : ByteArray} {ret : Option FieldType} {exc : List Value → ZH → Nat → Prop} {ctN : List Value → ZH → (Option Value → ZH → Prop) → Prop} (hsem : Sem l z0 b N D cA y bytes maxL ret fr lo 1 exc ctN) {host : String} (hnest : (own, idx, y, host) ∈ zNest) (hex : ∀ a h k, ¬ exc a h k) (hstat : Cond.static y ∈ zWS) (hini : Cond.initialized y.cls ∈ zWS) (hcode : Cond.code y bytes maxL ret ∈ zWS) (hd : y.cls ≠ "java/lang/invoke/MethodHandle" ∧ y.cls ≠ "java/lang/invoke/VarHandle" ∧ (parseMethodDescriptor y.desc).map (fun d => d.parameters.length) = some 1) (hR : fr + 1 ≤ R.frames ∧ 8 + (maxL + 11) + lo ≤ R.locals) (d : decode cc pc = .ok (.invokestatic idx, 3)) (hK : Snd p l e R s m args below meth c nL z0 b (zI z0 b N D cA s) (fun _ => (0, 0)) (vx_MQ below (zQn z0 b N D cA Kn) (zXn z0 b N D cA Kx h0) args s M (6 * M) (fun q => z0 ≤ q)) (pc + 3) K) : Snd p l e R s m args below meth c nL z0 b (zI z0 b N D cA s) (fun _ => (0, 0)) (vx_MQ below (zQn z0 b N D cA Kn) (zXn z0 b N D cA Kx h0) args s M (6 * M) (fun q => z0 ≤ q)) pc (o_callS1 M exc ctN Kx h0 K) := by
  intro ls st h hq
  unfold o_callS1 at hq
  split at hq
  · next v0 r =>
    exact z_callSN C hsem hnest hex hstat hini hcode hd hR d hK ls [v0] r h hq
  · exact hq.elim
theorem k_callSN2 (C : zCx p l R s m args meth c cc nL own z0 D cA M) {idx maxL fr lo : Nat} {y : MethodName} {bytes : ByteArray} {ret : Option FieldType} {exc : List Value → ZH → Nat → Prop} {ctN : List Value → ZH → (Option Value → ZH → Prop) → Prop} (hsem : Sem l z0 b N D cA y bytes maxL ret fr lo 2 exc ctN) {host : String} (hnest : (own, idx, y, host) ∈ zNest) (hex : ∀ a h k, ¬ exc a h k) (hstat : Cond.static y ∈ zWS) (hini : Cond.initialized y.cls ∈ zWS) (hcode : Cond.code y bytes maxL ret ∈ zWS) (hd : y.cls ≠ "java/lang/invoke/MethodHandle" ∧ y.cls ≠ "java/lang/invoke/VarHandle" ∧ (parseMethodDescriptor y.desc).map (fun d => d.parameters.length) = some 2) (hR : fr + 1 ≤ R.frames ∧ 8 + (maxL + 11) + lo ≤ R.locals) (d : decode cc pc = .ok (.invokestatic idx, 3)) (hK : Snd p l e R s m args below meth c nL z0 b (zI z0 b N D cA s) (fun _ => (0, 0)) (vx_MQ below (zQn z0 b N D cA Kn) (zXn z0 b N D cA Kx h0) args s M (6 * M) (fun q => z0 ≤ q)) (pc + 3) K) : Snd p l e R s m args below meth c nL z0 b (zI z0 b N D cA s) (fun _ => (0, 0)) (vx_MQ below (zQn z0 b N D cA Kn) (zXn z0 b N D cA Kx h0) args s M (6 * M) (fun q => z0 ≤ q)) pc (o_callS2 M exc ctN Kx h0 K) := by
  intro ls st h hq
  unfold o_callS2 at hq
  split at hq
  · next v1 v0 r =>
    exact z_callSN C hsem hnest hex hstat hini hcode hd hR d hK ls [v0, v1] r h hq
  · exact hq.elim
theorem k_callSN3 (C : zCx p l R s m args meth c cc nL own z0 D cA M) {idx maxL fr lo : Nat} {y : MethodName} {bytes : ByteArray} {ret : Option FieldType} {exc : List Value → ZH → Nat → Prop} {ctN : List Value → ZH → (Option Value → ZH → Prop) → Prop} (hsem : Sem l z0 b N D cA y bytes maxL ret fr lo 3 exc ctN) {host : String} (hnest : (own, idx, y, host) ∈ zNest) (hex : ∀ a h k, ¬ exc a h k) (hstat : Cond.static y ∈ zWS) (hini : Cond.initialized y.cls ∈ zWS) (hcode : Cond.code y bytes maxL ret ∈ zWS) (hd : y.cls ≠ "java/lang/invoke/MethodHandle" ∧ y.cls ≠ "java/lang/invoke/VarHandle" ∧ (parseMethodDescriptor y.desc).map (fun d => d.parameters.length) = some 3) (hR : fr + 1 ≤ R.frames ∧ 8 + (maxL + 11) + lo ≤ R.locals) (d : decode cc pc = .ok (.invokestatic idx, 3)) (hK : Snd p l e R s m args below meth c nL z0 b (zI z0 b N D cA s) (fun _ => (0, 0)) (vx_MQ below (zQn z0 b N D cA Kn) (zXn z0 b N D cA Kx h0) args s M (6 * M) (fun q => z0 ≤ q)) (pc + 3) K) : Snd p l e R s m args below meth c nL z0 b (zI z0 b N D cA s) (fun _ => (0, 0)) (vx_MQ below (zQn z0 b N D cA Kn) (zXn z0 b N D cA Kx h0) args s M (6 * M) (fun q => z0 ≤ q)) pc (o_callS3 M exc ctN Kx h0 K) := by
  intro ls st h hq
  unfold o_callS3 at hq
  split at hq
  · next v2 v1 v0 r =>
    exact z_callSN C hsem hnest hex hstat hini hcode hd hR d hK ls [v0, v1, v2] r h hq
  · exact hq.elim
theorem k_callSN4 (C : zCx p l R s m args meth c cc nL own z0 D cA M) {idx maxL fr lo : Nat} {y : MethodName} {bytes : ByteArray} {ret : Option FieldType} {exc : List Value → ZH → Nat → Prop} {ctN : List Value → ZH → (Option Value → ZH → Prop) → Prop} (hsem : Sem l z0 b N D cA y bytes maxL ret fr lo 4 exc ctN) {host : String} (hnest : (own, idx, y, host) ∈ zNest) (hex : ∀ a h k, ¬ exc a h k) (hstat : Cond.static y ∈ zWS) (hini : Cond.initialized y.cls ∈ zWS) (hcode : Cond.code y bytes maxL ret ∈ zWS) (hd : y.cls ≠ "java/lang/invoke/MethodHandle" ∧ y.cls ≠ "java/lang/invoke/VarHandle" ∧ (parseMethodDescriptor y.desc).map (fun d => d.parameters.length) = some 4) (hR : fr + 1 ≤ R.frames ∧ 8 + (maxL + 11) + lo ≤ R.locals) (d : decode cc pc = .ok (.invokestatic idx, 3)) (hK : Snd p l e R s m args below meth c nL z0 b (zI z0 b N D cA s) (fun _ => (0, 0)) (vx_MQ below (zQn z0 b N D cA Kn) (zXn z0 b N D cA Kx h0) args s M (6 * M) (fun q => z0 ≤ q)) (pc + 3) K) : Snd p l e R s m args below meth c nL z0 b (zI z0 b N D cA s) (fun _ => (0, 0)) (vx_MQ below (zQn z0 b N D cA Kn) (zXn z0 b N D cA Kx h0) args s M (6 * M) (fun q => z0 ≤ q)) pc (o_callS4 M exc ctN Kx h0 K) := by
  intro ls st h hq
  unfold o_callS4 at hq
  split at hq
  · next v3 v2 v1 v0 r =>
    exact z_callSN C hsem hnest hex hstat hini hcode hd hR d hK ls [v0, v1, v2, v3] r h hq
  · exact hq.elim
theorem k_callSN5 (C : zCx p l R s m args meth c cc nL own z0 D cA M) {idx maxL fr lo : Nat} {y : MethodName} {bytes : ByteArray} {ret : Option FieldType} {exc : List Value → ZH → Nat → Prop} {ctN : List Value → ZH → (Option Value → ZH → Prop) → Prop} (hsem : Sem l z0 b N D cA y bytes maxL ret fr lo 5 exc ctN) {host : String} (hnest : (own, idx, y, host) ∈ zNest) (hex : ∀ a h k, ¬ exc a h k) (hstat : Cond.static y ∈ zWS) (hini : Cond.initialized y.cls ∈ zWS) (hcode : Cond.code y bytes maxL ret ∈ zWS) (hd : y.cls ≠ "java/lang/invoke/MethodHandle" ∧ y.cls ≠ "java/lang/invoke/VarHandle" ∧ (parseMethodDescriptor y.desc).map (fun d => d.parameters.length) = some 5) (hR : fr + 1 ≤ R.frames ∧ 8 + (maxL + 11) + lo ≤ R.locals) (d : decode cc pc = .ok (.invokestatic idx, 3)) (hK : Snd p l e R s m args below meth c nL z0 b (zI z0 b N D cA s) (fun _ => (0, 0)) (vx_MQ below (zQn z0 b N D cA Kn) (zXn z0 b N D cA Kx h0) args s M (6 * M) (fun q => z0 ≤ q)) (pc + 3) K) : Snd p l e R s m args below meth c nL z0 b (zI z0 b N D cA s) (fun _ => (0, 0)) (vx_MQ below (zQn z0 b N D cA Kn) (zXn z0 b N D cA Kx h0) args s M (6 * M) (fun q => z0 ≤ q)) pc (o_callS5 M exc ctN Kx h0 K) := by
  intro ls st h hq
  unfold o_callS5 at hq
  split at hq
  · next v4 v3 v2 v1 v0 r =>
    exact z_callSN C hsem hnest hex hstat hini hcode hd hR d hK ls [v0, v1, v2, v3, v4] r h hq
  · exact hq.elim
theorem k_callV0 (C : zCx p l R s m args meth c cc nL own z0 D cA M) (htab : ∀ x ∈ c.exceptionTable.toList, False) {ci Nf : Nat} {Cn : String} {Tf : u_T} {idx maxL fr lo : Nat} {y : MethodName} {bytes : ByteArray} {ret : Option FieldType} {exc : List Value → ZH → Nat → Prop} {ctN : List Value → ZH → (Option Value → ZH → Prop) → Prop} (hc : vwCl[ci]? = some (Cn, Tf, Nf)) (hsem : Sem l z0 b N D cA y bytes maxL ret fr lo 1 exc ctN) (hy : y.cls = Cn) (hlink : Cond.methodLink own idx y ∈ zWS) (hinst : Cond.instanceMethod y ∈ zWS) (hsel : Cond.selects Cn y y ∈ zWS) (hini : Cond.initialized Cn ∈ zWS) (hcode : Cond.code y bytes maxL ret ∈ zWS) (hd : y.cls ≠ "java/lang/invoke/MethodHandle" ∧ y.cls ≠ "java/lang/invoke/VarHandle" ∧ (parseMethodDescriptor y.desc).map (fun d => d.parameters.length) = some 0) (hR : fr + 1 ≤ R.frames ∧ 8 + (maxL + 11) + lo ≤ R.locals) (d : decode cc pc = .ok (.invokevirtual idx, 3)) (hK : Snd p l e R s m args below meth c nL z0 b (zI z0 b N D cA s) (fun _ => (0, 0)) (vx_MQ below (zQn z0 b N D cA Kn) (zXn z0 b N D cA Kx h0) args s M (6 * M) (fun q => z0 ≤ q)) (pc + 3) K) : Snd p l e R s m args below meth c nL z0 b (zI z0 b N D cA s) (fun _ => (0, 0)) (vx_MQ below (zQn z0 b N D cA Kn) (zXn z0 b N D cA Kx h0) args s M (6 * M) (fun q => z0 ≤ q)) pc (o_callV0 M ci exc ctN Kx h0 K) := by
  intro ls st h hq
  unfold o_callV0 at hq
  split at hq
  · next  a r =>
    split at hq
    · next c' fs hfs =>
      obtain ⟨rfl, hf0, hq⟩ := hq
      exact z_callV C htab hc hsem hy hlink hinst hsel hini hcode hd hR d hK ls _ [] _ fs h hfs hf0 hq
    · exact hq.elim
  · exact hq.elim
theorem k_callV1 (C : zCx p l R s m args meth c cc nL own z0 D cA M) (htab : ∀ x ∈ c.exceptionTable.toList, False) {ci Nf : Nat} {Cn : String} {Tf : u_T} {idx maxL fr lo : Nat} {y : MethodName} {bytes : ByteArray} {ret : Option FieldType} {exc : List Value → ZH → Nat → Prop} {ctN : List Value → ZH → (Option Value → ZH → Prop) → Prop} (hc : vwCl[ci]? = some (Cn, Tf, Nf)) (hsem : Sem l z0 b N D cA y bytes maxL ret fr lo 2 exc ctN) (hy : y.cls = Cn) (hlink : Cond.methodLink own idx y ∈ zWS) (hinst : Cond.instanceMethod y ∈ zWS) (hsel : Cond.selects Cn y y ∈ zWS) (hini : Cond.initialized Cn ∈ zWS) (hcode : Cond.code y bytes maxL ret ∈ zWS) (hd : y.cls ≠ "java/lang/invoke/MethodHandle" ∧ y.cls ≠ "java/lang/invoke/VarHandle" ∧ (parseMethodDescriptor y.desc).map (fun d => d.parameters.length) = some 1) (hR : fr + 1 ≤ R.frames ∧ 8 + (maxL + 11) + lo ≤ R.locals) (d : decode cc pc = .ok (.invokevirtual idx, 3)) (hK : Snd p l e R s m args below meth c nL z0 b (zI z0 b N D cA s) (fun _ => (0, 0)) (vx_MQ below (zQn z0 b N D cA Kn) (zXn z0 b N D cA Kx h0) args s M (6 * M) (fun q => z0 ≤ q)) (pc + 3) K) : Snd p l e R s m args below meth c nL z0 b (zI z0 b N D cA s) (fun _ => (0, 0)) (vx_MQ below (zQn z0 b N D cA Kn) (zXn z0 b N D cA Kx h0) args s M (6 * M) (fun q => z0 ≤ q)) pc (o_callV1 M ci exc ctN Kx h0 K) := by
  intro ls st h hq
  unfold o_callV1 at hq
  split at hq
  · next v0 a r =>
    split at hq
    · next c' fs hfs =>
      obtain ⟨rfl, hf0, hq⟩ := hq
      exact z_callV C htab hc hsem hy hlink hinst hsel hini hcode hd hR d hK ls _ [v0] _ fs h hfs hf0 hq
    · exact hq.elim
  · exact hq.elim
theorem k_callV2 (C : zCx p l R s m args meth c cc nL own z0 D cA M) (htab : ∀ x ∈ c.exceptionTable.toList, False) {ci Nf : Nat} {Cn : String} {Tf : u_T} {idx maxL fr lo : Nat} {y : MethodName} {bytes : ByteArray} {ret : Option FieldType} {exc : List Value → ZH → Nat → Prop} {ctN : List Value → ZH → (Option Value → ZH → Prop) → Prop} (hc : vwCl[ci]? = some (Cn, Tf, Nf)) (hsem : Sem l z0 b N D cA y bytes maxL ret fr lo 3 exc ctN) (hy : y.cls = Cn) (hlink : Cond.methodLink own idx y ∈ zWS) (hinst : Cond.instanceMethod y ∈ zWS) (hsel : Cond.selects Cn y y ∈ zWS) (hini : Cond.initialized Cn ∈ zWS) (hcode : Cond.code y bytes maxL ret ∈ zWS) (hd : y.cls ≠ "java/lang/invoke/MethodHandle" ∧ y.cls ≠ "java/lang/invoke/VarHandle" ∧ (parseMethodDescriptor y.desc).map (fun d => d.parameters.length) = some 2) (hR : fr + 1 ≤ R.frames ∧ 8 + (maxL + 11) + lo ≤ R.locals) (d : decode cc pc = .ok (.invokevirtual idx, 3)) (hK : Snd p l e R s m args below meth c nL z0 b (zI z0 b N D cA s) (fun _ => (0, 0)) (vx_MQ below (zQn z0 b N D cA Kn) (zXn z0 b N D cA Kx h0) args s M (6 * M) (fun q => z0 ≤ q)) (pc + 3) K) : Snd p l e R s m args below meth c nL z0 b (zI z0 b N D cA s) (fun _ => (0, 0)) (vx_MQ below (zQn z0 b N D cA Kn) (zXn z0 b N D cA Kx h0) args s M (6 * M) (fun q => z0 ≤ q)) pc (o_callV2 M ci exc ctN Kx h0 K) := by
  intro ls st h hq
  unfold o_callV2 at hq
  split at hq
  · next v1 v0 a r =>
    split at hq
    · next c' fs hfs =>
      obtain ⟨rfl, hf0, hq⟩ := hq
      exact z_callV C htab hc hsem hy hlink hinst hsel hini hcode hd hR d hK ls _ [v0, v1] _ fs h hfs hf0 hq
    · exact hq.elim
  · exact hq.elim
theorem k_callV3 (C : zCx p l R s m args meth c cc nL own z0 D cA M) (htab : ∀ x ∈ c.exceptionTable.toList, False) {ci Nf : Nat} {Cn : String} {Tf : u_T} {idx maxL fr lo : Nat} {y : MethodName} {bytes : ByteArray} {ret : Option FieldType} {exc : List Value → ZH → Nat → Prop} {ctN : List Value → ZH → (Option Value → ZH → Prop) → Prop} (hc : vwCl[ci]? = some (Cn, Tf, Nf)) (hsem : Sem l z0 b N D cA y bytes maxL ret fr lo 4 exc ctN) (hy : y.cls = Cn) (hlink : Cond.methodLink own idx y ∈ zWS) (hinst : Cond.instanceMethod y ∈ zWS) (hsel : Cond.selects Cn y y ∈ zWS) (hini : Cond.initialized Cn ∈ zWS) (hcode : Cond.code y bytes maxL ret ∈ zWS) (hd : y.cls ≠ "java/lang/invoke/MethodHandle" ∧ y.cls ≠ "java/lang/invoke/VarHandle" ∧ (parseMethodDescriptor y.desc).map (fun d => d.parameters.length) = some 3) (hR : fr + 1 ≤ R.frames ∧ 8 + (maxL + 11) + lo ≤ R.locals) (d : decode cc pc = .ok (.invokevirtual idx, 3)) (hK : Snd p l e R s m args below meth c nL z0 b (zI z0 b N D cA s) (fun _ => (0, 0)) (vx_MQ below (zQn z0 b N D cA Kn) (zXn z0 b N D cA Kx h0) args s M (6 * M) (fun q => z0 ≤ q)) (pc + 3) K) : Snd p l e R s m args below meth c nL z0 b (zI z0 b N D cA s) (fun _ => (0, 0)) (vx_MQ below (zQn z0 b N D cA Kn) (zXn z0 b N D cA Kx h0) args s M (6 * M) (fun q => z0 ≤ q)) pc (o_callV3 M ci exc ctN Kx h0 K) := by
  intro ls st h hq
  unfold o_callV3 at hq
  split at hq
  · next v2 v1 v0 a r =>
    split at hq
    · next c' fs hfs =>
      obtain ⟨rfl, hf0, hq⟩ := hq
      exact z_callV C htab hc hsem hy hlink hinst hsel hini hcode hd hR d hK ls _ [v0, v1, v2] _ fs h hfs hf0 hq
    · exact hq.elim
  · exact hq.elim
theorem k_callV4 (C : zCx p l R s m args meth c cc nL own z0 D cA M) (htab : ∀ x ∈ c.exceptionTable.toList, False) {ci Nf : Nat} {Cn : String} {Tf : u_T} {idx maxL fr lo : Nat} {y : MethodName} {bytes : ByteArray} {ret : Option FieldType} {exc : List Value → ZH → Nat → Prop} {ctN : List Value → ZH → (Option Value → ZH → Prop) → Prop} (hc : vwCl[ci]? = some (Cn, Tf, Nf)) (hsem : Sem l z0 b N D cA y bytes maxL ret fr lo 5 exc ctN) (hy : y.cls = Cn) (hlink : Cond.methodLink own idx y ∈ zWS) (hinst : Cond.instanceMethod y ∈ zWS) (hsel : Cond.selects Cn y y ∈ zWS) (hini : Cond.initialized Cn ∈ zWS) (hcode : Cond.code y bytes maxL ret ∈ zWS) (hd : y.cls ≠ "java/lang/invoke/MethodHandle" ∧ y.cls ≠ "java/lang/invoke/VarHandle" ∧ (parseMethodDescriptor y.desc).map (fun d => d.parameters.length) = some 4) (hR : fr + 1 ≤ R.frames ∧ 8 + (maxL + 11) + lo ≤ R.locals) (d : decode cc pc = .ok (.invokevirtual idx, 3)) (hK : Snd p l e R s m args below meth c nL z0 b (zI z0 b N D cA s) (fun _ => (0, 0)) (vx_MQ below (zQn z0 b N D cA Kn) (zXn z0 b N D cA Kx h0) args s M (6 * M) (fun q => z0 ≤ q)) (pc + 3) K) : Snd p l e R s m args below meth c nL z0 b (zI z0 b N D cA s) (fun _ => (0, 0)) (vx_MQ below (zQn z0 b N D cA Kn) (zXn z0 b N D cA Kx h0) args s M (6 * M) (fun q => z0 ≤ q)) pc (o_callV4 M ci exc ctN Kx h0 K) := by
  intro ls st h hq
  unfold o_callV4 at hq
  split at hq
  · next v3 v2 v1 v0 a r =>
    split at hq
    · next c' fs hfs =>
      obtain ⟨rfl, hf0, hq⟩ := hq
      exact z_callV C htab hc hsem hy hlink hinst hsel hini hcode hd hR d hK ls _ [v0, v1, v2, v3] _ fs h hfs hf0 hq
    · exact hq.elim
  · exact hq.elim
theorem k_callV5 (C : zCx p l R s m args meth c cc nL own z0 D cA M) (htab : ∀ x ∈ c.exceptionTable.toList, False) {ci Nf : Nat} {Cn : String} {Tf : u_T} {idx maxL fr lo : Nat} {y : MethodName} {bytes : ByteArray} {ret : Option FieldType} {exc : List Value → ZH → Nat → Prop} {ctN : List Value → ZH → (Option Value → ZH → Prop) → Prop} (hc : vwCl[ci]? = some (Cn, Tf, Nf)) (hsem : Sem l z0 b N D cA y bytes maxL ret fr lo 6 exc ctN) (hy : y.cls = Cn) (hlink : Cond.methodLink own idx y ∈ zWS) (hinst : Cond.instanceMethod y ∈ zWS) (hsel : Cond.selects Cn y y ∈ zWS) (hini : Cond.initialized Cn ∈ zWS) (hcode : Cond.code y bytes maxL ret ∈ zWS) (hd : y.cls ≠ "java/lang/invoke/MethodHandle" ∧ y.cls ≠ "java/lang/invoke/VarHandle" ∧ (parseMethodDescriptor y.desc).map (fun d => d.parameters.length) = some 5) (hR : fr + 1 ≤ R.frames ∧ 8 + (maxL + 11) + lo ≤ R.locals) (d : decode cc pc = .ok (.invokevirtual idx, 3)) (hK : Snd p l e R s m args below meth c nL z0 b (zI z0 b N D cA s) (fun _ => (0, 0)) (vx_MQ below (zQn z0 b N D cA Kn) (zXn z0 b N D cA Kx h0) args s M (6 * M) (fun q => z0 ≤ q)) (pc + 3) K) : Snd p l e R s m args below meth c nL z0 b (zI z0 b N D cA s) (fun _ => (0, 0)) (vx_MQ below (zQn z0 b N D cA Kn) (zXn z0 b N D cA Kx h0) args s M (6 * M) (fun q => z0 ≤ q)) pc (o_callV5 M ci exc ctN Kx h0 K) := by
  intro ls st h hq
  unfold o_callV5 at hq
  split at hq
  · next v4 v3 v2 v1 v0 a r =>
    split at hq
    · next c' fs hfs =>
      obtain ⟨rfl, hf0, hq⟩ := hq
      exact z_callV C htab hc hsem hy hlink hinst hsel hini hcode hd hR d hK ls _ [v0, v1, v2, v3, v4] _ fs h hfs hf0 hq
    · exact hq.elim
  · exact hq.elim
end KC

section KB
variable {l : Launch} {z0 b N : Nat} {D : va_G} {cA : Nat → ClassId}
def zE (nL : Nat) (a : List Value) : List (Option Value) := a.map some ++ List.replicate (nL - a.length) none
theorem zE_at {nL : Nat} {a : List Value} {k : Nat} {v : Value} (h : (zE nL a)[k]? = some (some v)) : a[k]? = some v := by
  unfold zE at h
  rw [List.getElem?_append] at h
  split at h
  · rw [List.getElem?_map] at h
    cases ha : a[k]? with
    | none => rw [ha] at h; cases h
    | some w => rw [ha] at h; cases h; rfl
  · rw [List.getElem?_replicate] at h
    split at h <;> cases h
theorem lv_args_mem : ∀ (a : List Value) (i : Nat), (∀ v ∈ a, v.category = 1) → ∀ q : Nat × Value, (∃ j v, a[j]? = some v ∧ q = (i + j, v)) → q ∈ lv_args i a
  | [], i, _, q, ⟨j, v, h, _⟩ => by simp at h
  | w :: r, i, hc, q, ⟨j, v, h, hq⟩ => by
    have hw : w.category = 1 := hc w List.mem_cons_self
    unfold lv_args
    rw [if_neg (by rw [hw]; decide)]
    cases j with
    | zero =>
      simp at h
      subst h
      exact List.mem_cons.mpr (Or.inl hq)
    | succ j => exact List.mem_cons_of_mem _ (lv_args_mem r (i + 1) (fun v hv => hc v (List.mem_cons_of_mem _ hv)) q ⟨j, v, by simpa using h, by rw [hq]; congr 1; omega⟩)
theorem lg_sl_len : ∀ (a : List Value), (∀ v ∈ a, v.category = 1) → (lg_sl a).length = a.length
  | [], _ => rfl
  | w :: r, hc => by
    have hw : w.category = 1 := hc w List.mem_cons_self
    have h2 := lg_sl_len r (fun v hv => hc v (List.mem_cons_of_mem _ hv))
    unfold lg_sl at h2 ⊢
    rw [List.flatMap_cons, List.length_append, h2, if_neg (by rw [hw]; decide)]
    simp
    omega
theorem zE_ok {nL : Nat} {a : List Value} (hc : ∀ v ∈ a, v.category = 1) (hn : a.length ≤ nL) : zL z0 b ((lg_sl (a.map (zc z0 b)) ++ List.replicate (nL - (lg_sl (a.map (zc z0 b))).length) Slot.unset).toArray) nL (zE nL a) := by
  have hc2 : ∀ v ∈ a.map (zc z0 b), v.category = 1 := fun v hv => by
    obtain ⟨w, hw, rfl⟩ := List.mem_map.mp hv
    rw [zc_cat]
    exact hc w hw
  have h1 := lv_entry (a.map (zc z0 b)) (n := nL) (by rw [lg_sl_len _ hc2, List.length_map]; exact hn)
  refine ⟨⟨h1.1, h1.2.1, fun q hq => ?_⟩, by unfold zE; simp; omega, fun v hv => ?_⟩
  · obtain ⟨j, v, h2, h3⟩ := (zA_mem _ 0 q).mp hq
    refine h1.2.2 q (lv_args_mem _ 0 hc2 q ⟨j, zc z0 b v, ?_, h3⟩)
    rw [List.getElem?_map, zE_at h2]
    rfl
  · obtain ⟨k, hk⟩ := List.getElem?_of_mem hv
    exact hc v (List.mem_of_getElem? (zE_at hk))
theorem sem_of (hlt : l.stackTraces = false) {y : MethodName} {bytes : ByteArray} {maxL fr lo n : Nat} {ret : Option FieldType} {exc : List Value → ZH → Nat → Prop} {ctN : List Value → ZH → (Option Value → ZH → Prop) → Prop} (hy : plainName y.cls = true) (hn : n ≤ maxL)
    (body : ∀ (p : Program) (e : Env) (s : State) (m : MethodId) (args : Array Value) (below : List Frame) (meth : Method) (c : Code) (M : Nat) (a : List Value) (h : ZH) (Kn : Option Value → ZH → Prop) (Kx : Nat → Prop), zok n a = true → (∀ k, exc a h k → M = 1 ∧ Kx k) → ((∀ k, ¬ exc a h k) → ctN a h Kn) →
      zCx p l (zRm fr M lo) s m args meth c bytes maxL y.cls z0 D cA M → meth.sig.returnType = ret → (∀ x ∈ c.exceptionTable.toList, False) →
      AW p l e (zRm fr M lo) s m args below meth c maxL z0 b (zI z0 b N D cA s) (fun _ => (0, 0)) (vx_MQ below (zQn z0 b N D cA Kn) (zXn z0 b N D cA Kx h) args s M (6 * M) (fun q => z0 ≤ q)) 0 (zE maxL a) [] h) :
    Sem l z0 b N D cA y bytes maxL ret fr lo n exc ctN := by
  intro M a h Kn Kx hok hX hN
  refine vx_ofW hy rfl ?_
  intro p e s m args below meth c s₁ B hml htab hv
  obtain ⟨rfl, hz0, hg, hz, hP, hd⟩ := hv
  have hts := atoms_spec (ws := Cond.code y bytes maxL ret :: zWS) B.pre
  have hC : zCx p l (zRm fr M lo) s m (a.map (zc z0 b)).toArray meth c bytes maxL y.cls z0 D cA M := ⟨B.exec, B.bytes, hml, findClass_of_methodNamed B.named, fun w hw => hts w (List.mem_cons_of_mem _ hw), hg, hz, hz0, B.notSynchronized, hlt, Nat.le_refl _, Nat.le_refl _⟩
  have hW := body p e s m (a.map (zc z0 b)).toArray below meth c M a h Kn Kx hok hX hN hC B.returns htab s.heap [] _ ⟨hP, va_S.rf, hd⟩ (zE_ok (zok_cat hok) (by rw [zok_len hok]; exact hn))
  rw [lg_entry_eq]
  exact hW
end KB
