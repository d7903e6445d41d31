/-! ===== two objects of the class in one world: the first at 0, the second at 29 ===== -/
def shV (d : Nat) (v : Value) : Value := match v with
  | .ref k => .ref (d + k)
  | v => v
theorem zc_sh (z0 b d : Nat) (v : Value) : zc (z0 + d) b v = zc z0 b (shV d v) := by
  cases v <;> simp [zc, shV, Nat.add_assoc]
def shE (d : Nat) (e : va_E) : va_E := match e with
  | .inl x => .inl x
  | .inr (ci, fs) => .inr (ci, fs.map (shV d))
theorem ze_sh (z0 b d : Nat) (cA : Nat → ClassId) (e : va_E) : ze (z0 + d) b cA e = ze z0 b cA (shE d e) := by
  rcases e with ⟨t, a⟩ | ⟨ci, fs⟩
  · rfl
  · show (.inr (ci, fs.map (zc (z0 + d) b)) : va_E) = .inr (ci, (fs.map (shV d)).map (zc z0 b))
    have h : zc (z0 + d) b = zc z0 b ∘ shV d := funext (zc_sh z0 b d)
    rw [List.map_map, h]
def zF2 (τ : zTS) : ZH := fun k => if 29 ≤ k ∧ k < 58 then shE 29 (pT τ (fun _ => zdum) (k - 29)) else zdum
def zTw (σ τ : zTS) : ZH := pT σ (zF2 τ)
theorem zTw_lo {σ τ : zTS} {k : Nat} (h : k < 29) : zTw σ τ k = pT σ (fun _ => zdum) k := by
  unfold zTw pT zB
  have hl : (cT σ).length = 29 := rfl
  rw [if_pos (by omega), if_pos (by omega)]
theorem zTw_hi {σ τ : zTS} {k : Nat} (h : k < 29) : zTw σ τ (29 + k) = shE 29 (pT τ (fun _ => zdum) k) := by
  unfold zTw pT
  have hl : (cT σ).length = 29 := rfl
  rw [zB_out (Or.inr (by omega))]
  unfold zF2 pT
  rw [if_pos (by omega), Nat.add_sub_cancel_left]
theorem zTw_dum {σ τ : zTS} : ∀ k, 58 ≤ k → zTw σ τ k = zdum := by
  intro k hk
  unfold zTw pT
  have hl : (cT σ).length = 29 := rfl
  rw [zB_out (Or.inr (by omega))]
  unfold zF2
  rw [if_neg (by omega)]
theorem pT_dum {τ : zTS} : ∀ k, 29 ≤ k → pT τ (fun _ => zdum) k = zdum := by
  intro k hk
  unfold pT
  have hl : (cT τ).length = 29 := rfl
  rw [zB_out (Or.inr (by omega))]
theorem zTw_0 {σ τ : zTS} : zTw σ τ 0 = .inr (5, [.ref 1, .ref 5, .ref 10, .ref 15, .ref 22, .ref 27]) := pT_0
theorem zTw_29 {σ τ : zTS} : zTw σ τ 29 = .inr (5, [.ref 30, .ref 34, .ref 39, .ref 44, .ref 51, .ref 56]) := by
  rw [show (29 : Nat) = 29 + 0 from rfl, zTw_hi (by omega), pT_0]
  rfl
theorem zTw_P {z0 b : Nat} {cA : Nat → ClassId} {D : va_G} {σ τ : zTS} {H : Heap} : va_P D vwCl (zWd z0 b 58 cA (zTw σ τ)) H ↔ va_P D vwCl (zWd z0 b 29 cA (pT σ (fun _ => zdum))) H ∧ va_P D vwCl (zWd (z0 + 29) b 29 cA (pT τ (fun _ => zdum))) H := by
  constructor
  · intro h
    refine ⟨h.by (fun i => i) (fun k q hk => ?_), h.by (fun i => 29 + i) (fun k q hk => ?_)⟩
    · obtain ⟨hk1, rfl⟩ := zWd_at.mp hk
      rw [zWd_get (by omega), zTw_lo hk1]
    · obtain ⟨hk1, rfl⟩ := zWd_at.mp hk
      rw [zWd_get (k := 29 + k) (by omega), zTw_hi hk1, ze_sh, Nat.add_assoc]
  · rintro ⟨h1, h2⟩ k q hk
    obtain ⟨hk1, rfl⟩ := zWd_at.mp hk
    by_cases h : k < 29
    · have h9 := h1 k _ (zWd_get h)
      rw [zTw_lo h]
      exact h9
    · obtain ⟨j, rfl⟩ : ∃ j, k = 29 + j := ⟨k - 29, by omega⟩
      have h9 := h2 j _ (zWd_get (by omega))
      rw [ze_sh, Nat.add_assoc] at h9
      rw [zTw_hi (by omega)]
      exact h9
/-- the state of a walk: what the two objects are alike to, how many cells are new at the most, and at the least -/
abbrev QQ : Type := zMS × zMS × Nat × Nat
def qmu (i : Bool) (t : QQ) : zMS := match i with
  | false => t.1
  | true => t.2.1
def qset (i : Bool) (t : QQ) (μ : zMS) : QQ := match i with
  | false => (μ, t.2)
  | true => (t.1, μ, t.2.2)
def qob (i : Bool) : Nat := match i with
  | false => 0
  | true => 29
def qex (t : QQ) : QQ := (t.1, t.2.1, t.2.2.1 + 1, t.2.2.2 + 1)
def qj (t : QQ) (m g : Nat) : QQ := (t.1, t.2.1, t.2.2.1 + m, t.2.2.2 + g)
def qTw (z0 b : Nat) (D : va_G) (cA : Nat → ClassId) (μ ν : zMS) (H : Heap) : Prop := ∃ σ τ, zRel σ μ ∧ zRel τ ν ∧ va_P D vwCl (zWd z0 b 58 cA (zTw σ τ)) H
def qI (xs : List Int32) : List Value := xs.map Value.int
theorem qI_zc {z b : Nat} {xs : List Int32} : (qI xs).map (zc z b) = qI xs := by
  unfold qI
  rw [List.map_map]
  rfl
theorem qI_ok {n a : Nat} {xs : List Int32} (h : xs.length = n) : zok (n + 1) (.ref a :: qI xs) = true := by
  subst h
  simp [zok, qI, Value.category]
section TWO
variable {p : Program} {l : Launch} {e : Env} {R : Room} {s : State} {m : MethodId} {args : Array Value} {below : List Frame} {meth : Method} {c : Code}
variable {nL z0 b c0 d0 : Nat} {D : va_G} {cA : Nat → ClassId} {Q : State → Prop} {pc : Nat} {cc : ByteArray} {own : String} {K : ZK QQ}
abbrev I2 (z0 b : Nat) (D : va_G) (cA : Nat → ClassId) (c0 : Nat) (s : State) : QQ → Heap → List Loc → Prop := fun t H locs => qTw z0 b D cA t.1 t.2.1 H ∧ va_S (fun q : Nat => z0 ≤ q) s.heap H locs ∧ s.heap.size + c0 + t.2.2.2 ≤ H.size
abbrev c2 (c0 d0 : Nat) : QQ → Nat × Nat := fun t => (c0 + t.2.2.1, d0 + 6 * t.2.2.1)
/-- a call of one of the two objects, at the machine: it answers, or it throws and a cell is new -/
theorem z2_V (C : zCx p l R s m args meth c cc nL own z0 D cA 0) {i : Bool} {t : QQ} {xs : List Int32} {G : zP} {wp : Nat → Int32} {idx maxL fr lo n : Nat} {y : MethodName} {bytes : ByteArray} {ret : Option FieldType} {exc : List Value → ZH → Nat → Prop} {ctN : List Value → ZH → (Option Value → ZH → Prop) → Prop}
    (hsem : ∀ z0 N, Sem l z0 b N D cA y bytes maxL ret fr lo (n + 1) exc ctN) (hxs : xs.length = n) (hy : y.cls = RX5) (hlink : Cond.methodLink own idx y ∈ zWS) (hinst : Cond.instanceMethod y ∈ zWS) (hsel : Cond.selects RX5 y y ∈ zWS) (hini : Cond.initialized RX5 ∈ zWS) (hcode : Cond.code y bytes maxL ret ∈ zWS)
    (hd : y.cls ≠ "java/lang/invoke/MethodHandle" ∧ y.cls ≠ "java/lang/invoke/VarHandle" ∧ (parseMethodDescriptor y.desc).map (fun d => d.parameters.length) = some n) (hR : fr + 1 ≤ R.frames ∧ 8 + (maxL + 11) + lo ≤ R.locals) (hsim : ∀ σ, zRel σ (qmu i t) → zSim wp exc ctN (qI xs) σ G) (hwp : ∀ k, ¬ wp k = 0) (d : decode cc pc = .ok (.invokevirtual idx, 3))
    {r : List Value} (hr4 : r.length ≤ 4) {H : Heap} {locs : List Loc} {L : Array Slot} (hI : I2 z0 b D cA c0 s t H locs) (hL : L.size = nL) {cells slots : Nat} (hroom0 : cells ≤ R.cells ∧ slots ≤ R.slots) (hroom : ¬ G.2.1 = 0 → cells + 1 ≤ R.cells ∧ slots + 6 ≤ R.slots) :
    ∀ T : State, T.heap = H → Stand p l e R s m args below meth c T locs cells slots →
      (G.2.1 = 0 ∧ ∃ (T' : State) (Lc : List Loc), I2 z0 b D cA c0 s (qset i t G.2) T'.heap (locs ++ Lc) ∧ Stand p l e R s m args below meth c T' (locs ++ Lc) cells slots ∧ Goes p e below T (F0 m pc L (((qI xs).reverse ++ .ref (qob i) :: r).map (zc z0 b))) T' { (F0 m pc L (((qI xs).reverse ++ .ref (qob i) :: r).map (zc z0 b))) with pc := pc + 3, stack := (some (.int G.1) : Option Value).toList ++ r.map (zc z0 b) }) ∨
      (¬ G.2.1 = 0 ∧ ∃ (k : Nat) (q : Addr) (ce : Cell) (T' : State) (Lc : List Loc), G.2.1 = wp k ∧ (∃ a h, exc a h k) ∧ I2 z0 b D cA c0 s (qex t) T'.heap (locs ++ Lc) ∧ Stand p l e R s m args below meth c T' (locs ++ Lc) (cells + 1) (slots + 6) ∧ T'.heap[q]? = some ce ∧ ce.vm = .none ∧ s.vm.findClass (zEx k) = some ce.cls ∧
        Steps p.tables e below (T.setTop (F0 m pc L (((qI xs).reverse ++ .ref (qob i) :: r).map (zc z0 b)))) ((T'.setTop { (F0 m pc L (((qI xs).reverse ++ .ref (qob i) :: r).map (zc z0 b))) with stack := r.map (zc z0 b) }).pushFrame (.throwing q))) := by
  intro T hT X
  obtain ⟨hx, hb, hml, hown, hts, hg, hz, hz0, hlocks, hlt, -, -⟩ := C
  obtain ⟨⟨σ, τ, hσ, hτ, hP⟩, hS, hgr⟩ := hI
  have hG : GoodIn zWS (wsV own idx RX5 y (Cond.code y bytes maxL ret :: zWS)) := zGood (fun w hw => by
    simp only [wsV, List.mem_append, List.mem_cons, List.not_mem_nil, or_false] at hw
    rcases hw with (rfl | rfl | rfl | rfl) | rfl | hw <;> assumption)
  have hI0 : zI z0 b 58 D cA s (zTw σ τ) H locs := ⟨hP, hS, zTw_dum⟩
  have hok : zok (n + 1) (.ref 0 :: qI xs) = true := qI_ok hxs
  have hlen : ((qI xs).map (zc z0 b)).length = n := by rw [List.length_map]; unfold qI; rw [List.length_map]; exact hxs
  have hstk : (((qI xs).reverse ++ .ref (qob i) :: r).map (zc z0 b)) = ((qI xs).map (zc z0 b)).reverse ++ .ref (z0 + qob i) :: r.map (zc z0 b) := by rw [List.map_append, List.map_reverse]; rfl
  cases i with
  | false =>
    have hs := hsim σ hσ (zF2 τ)
    have hpre := zPre (a := .ref 0 :: qI xs) hg hz hz0 hI0
    have hrecv := va_recv hg.1 hP (q := (RX5, TX5, 6)) (ci := 5) rfl (hI0.get (a := 0) zTw_0 (fun z => by cases z))
    by_cases hex : ∀ k, ¬ exc (.ref 0 :: qI xs) (pT σ (zF2 τ)) k
    · left
      obtain ⟨h0, hct⟩ := hs.2 hex
      have hM := hsem z0 58 0 (.ref 0 :: qI xs) (pT σ (zF2 τ)) (fun v h' => v = some (.int G.1) ∧ ∃ σ', zRel σ' G.2 ∧ h' = pT σ' (zF2 τ)) (fun _ => False) hok (fun k hk => (hex k hk).elim) (fun _ => hct _ (fun σ' h' => ⟨rfl, σ', h', rfl⟩))
      rcases vx_runV (g := F0 m pc L (((qI xs).reverse ++ .ref (qob false) :: r).map (zc z0 b))) (H := H) (locs := locs) (cells := cells) (slots := slots) (e := e) (below := below) (meth := meth) (R := R) (C := RX5) (b := z0 + 0) (As := (qI xs).map (zc z0 b)) (rest := r.map (zc z0 b)) ⟨hx, hb, hml, hown, hts⟩ hM (cwV n hts hG rfl rfl rfl ⟨hy, hd⟩ hR) ⟨zPc.blind, hrecv, hpre⟩ rfl hlen hL hstk (lv_room (zrest r hr4)) d ⟨hroom0.1, hroom0.2⟩ T hT X with ⟨v, st₀, t2, T', Lc, g0, X', hLc, e1, e2, hqn, st⟩ | ⟨q, st₀, t2, T', Lc, E, ce, g0, X', hLc, e1, e2, hxn, hce, hcv, hcl, st⟩
      · obtain ⟨⟨v', h', hv, ⟨rfl, σ', hσ', rfl⟩, hP', hd'⟩, hF⟩ := hqn
        cases hv
        obtain ⟨k1, k2, k3⟩ := vx_keep g0 e1 hS (fun q _ h => h) (fun q h => h) hLc hF
        exact ⟨h0, T', Lc, ⟨⟨σ', τ, hσ', hτ, by rw [e1]; exact hP'⟩, k3, Nat.le_trans hgr k1⟩, X', st⟩
      · obtain ⟨⟨k', -, h9, -⟩, -⟩ := hxn
        exact h9.elim
    · right
      obtain ⟨k, hexk⟩ := Classical.not_forall.mp hex
      have hexk := Classical.not_not.mp hexk
      have hne : ¬ G.2.1 = 0 := by rw [(hs.1 k hexk).1]; exact hwp k
      have hM := hsem z0 58 1 (.ref 0 :: qI xs) (pT σ (zF2 τ)) (fun _ _ => False) (fun k' => exc (.ref 0 :: qI xs) (pT σ (zF2 τ)) k') hok (fun k' hk => ⟨rfl, hk⟩) (fun h9 => (h9 k hexk).elim)
      rcases vx_runV (g := F0 m pc L (((qI xs).reverse ++ .ref (qob false) :: r).map (zc z0 b))) (H := H) (locs := locs) (cells := cells) (slots := slots) (e := e) (below := below) (meth := meth) (R := R) (C := RX5) (b := z0 + 0) (As := (qI xs).map (zc z0 b)) (rest := r.map (zc z0 b)) ⟨hx, hb, hml, hown, hts⟩ hM (cwV n hts hG rfl rfl rfl ⟨hy, hd⟩ hR) ⟨zPc.blind, hrecv, hpre⟩ rfl hlen hL hstk (lv_room (zrest r hr4)) d ⟨(hroom hne).1, (hroom hne).2⟩ T hT X with ⟨v, st₀, t2, T', Lc, g0, X', hLc, e1, e2, hqn, st⟩ | ⟨q, st₀, t2, T', Lc, E, ce, g0, X', hLc, e1, e2, hxn, hce, hcv, hcl, st⟩
      · obtain ⟨⟨v', h', -, h9, -⟩, -⟩ := hqn
        exact h9.elim
      · obtain ⟨⟨k', rfl, hk9, hP', hgr'⟩, hF⟩ := hxn
        obtain ⟨k1, k2, k3⟩ := vx_keep g0 e1 hS (fun q _ h => h) (fun q h => h) hLc hF
        refine ⟨hne, k', q, ce, T', Lc, (hs.1 k' hk9).1, ⟨_, _, hk9⟩, ⟨⟨σ, τ, hσ, hτ, by rw [e1]; exact hP'⟩, k3, ?_⟩, X', by rw [e1]; exact hce, hcv, hcl, st⟩
        rw [g0, ← e1] at hgr'
        show s.heap.size + c0 + (t.2.2.2 + 1) ≤ T'.heap.size
        omega
  | true =>
    have hs := hsim τ hτ (fun _ => zdum)
    obtain ⟨hPo, hPp⟩ := zTw_P.mp hP
    have hz29 : z0 + 29 ≤ H.size := by
      have := (hPp 0 _ (zWd_get (by omega))).lt
      have : z0 + 29 + 0 < H.size := this
      omega
    have hpre : ∀ U : State, U.heap = H → s.WarmedH U.vm → zPc (z0 + 29) b 29 D cA (.ref 0 :: qI xs) (pT τ (fun _ => zdum)) (Value.ref (z0 + 29) :: (qI xs).map (zc z0 b)).toArray U := by
      intro U hU hW
      have hZ : zZ z0 U U.heap := hz.on hW (by rw [hU]; exact hS.2.1)
      refine ⟨?_, by rw [hU]; exact hz29, hg.warm hW, ⟨hZ.1.narrow (fun q hq => by omega), hZ.2.narrow (fun q hq => by omega)⟩, by rw [hU]; exact hPp, pT_dum⟩
      show (Value.ref (z0 + 29) :: (qI xs).map (zc z0 b)).toArray = (Value.ref (z0 + 29 + 0) :: (qI xs).map (zc (z0 + 29) b)).toArray
      rw [qI_zc, qI_zc]
    have hrecv := va_recv hg.1 hP (q := (RX5, TX5, 6)) (ci := 5) rfl (hI0.get (a := 29) zTw_29 (fun z => by cases z))
    have hback : ∀ {T' : State}, (∀ q : Nat, q < H.size → ¬ z0 + 29 ≤ q → T'.heap[q]? = H[q]?) → va_P D vwCl (zWd z0 b 29 cA (pT σ (fun _ => zdum))) T'.heap := fun h => hPo.kept (fun i q hi => by
      refine h q.1 (hPo i q hi).lt ?_
      obtain ⟨h1, rfl⟩ := zWd_at.mp hi
      show ¬ z0 + 29 ≤ z0 + i
      omega)
    by_cases hex : ∀ k, ¬ exc (.ref 0 :: qI xs) (pT τ (fun _ => zdum)) k
    · left
      obtain ⟨h0, hct⟩ := hs.2 hex
      have hM := hsem (z0 + 29) 29 0 (.ref 0 :: qI xs) (pT τ (fun _ => zdum)) (fun v h' => v = some (.int G.1) ∧ ∃ σ', zRel σ' G.2 ∧ h' = pT σ' (fun _ => zdum)) (fun _ => False) hok (fun k hk => (hex k hk).elim) (fun _ => hct _ (fun σ' h' => ⟨rfl, σ', h', rfl⟩))
      rcases vx_runV (g := F0 m pc L (((qI xs).reverse ++ .ref (qob true) :: r).map (zc z0 b))) (H := H) (locs := locs) (cells := cells) (slots := slots) (e := e) (below := below) (meth := meth) (R := R) (C := RX5) (b := z0 + 29) (As := (qI xs).map (zc z0 b)) (rest := r.map (zc z0 b)) ⟨hx, hb, hml, hown, hts⟩ hM (cwV n hts hG rfl rfl rfl ⟨hy, hd⟩ hR) ⟨zPc.blind, hrecv, hpre⟩ rfl hlen hL hstk (lv_room (zrest r hr4)) d ⟨hroom0.1, hroom0.2⟩ T hT X with ⟨v, st₀, t2, T', Lc, g0, X', hLc, e1, e2, hqn, st⟩ | ⟨q, st₀, t2, T', Lc, E, ce, g0, X', hLc, e1, e2, hxn, hce, hcv, hcl, st⟩
      · obtain ⟨⟨v', h', hv, ⟨rfl, σ', hσ', rfl⟩, hP', hd'⟩, hF⟩ := hqn
        cases hv
        obtain ⟨k1, k2, k3⟩ := vx_keep g0 e1 hS (fun q _ h => by omega) (fun q h => by omega) hLc hF
        exact ⟨h0, T', Lc, ⟨⟨σ, σ', hσ, hσ', zTw_P.mpr ⟨hback k2, by rw [e1]; exact hP'⟩⟩, k3, Nat.le_trans hgr k1⟩, X', st⟩
      · obtain ⟨⟨k', -, h9, -⟩, -⟩ := hxn
        exact h9.elim
    · right
      obtain ⟨k, hexk⟩ := Classical.not_forall.mp hex
      have hexk := Classical.not_not.mp hexk
      have hne : ¬ G.2.1 = 0 := by rw [(hs.1 k hexk).1]; exact hwp k
      have hM := hsem (z0 + 29) 29 1 (.ref 0 :: qI xs) (pT τ (fun _ => zdum)) (fun _ _ => False) (fun k' => exc (.ref 0 :: qI xs) (pT τ (fun _ => zdum)) k') hok (fun k' hk => ⟨rfl, hk⟩) (fun h9 => (h9 k hexk).elim)
      rcases vx_runV (g := F0 m pc L (((qI xs).reverse ++ .ref (qob true) :: r).map (zc z0 b))) (H := H) (locs := locs) (cells := cells) (slots := slots) (e := e) (below := below) (meth := meth) (R := R) (C := RX5) (b := z0 + 29) (As := (qI xs).map (zc z0 b)) (rest := r.map (zc z0 b)) ⟨hx, hb, hml, hown, hts⟩ hM (cwV n hts hG rfl rfl rfl ⟨hy, hd⟩ hR) ⟨zPc.blind, hrecv, hpre⟩ rfl hlen hL hstk (lv_room (zrest r hr4)) d ⟨(hroom hne).1, (hroom hne).2⟩ T hT X with ⟨v, st₀, t2, T', Lc, g0, X', hLc, e1, e2, hqn, st⟩ | ⟨q, st₀, t2, T', Lc, E, ce, g0, X', hLc, e1, e2, hxn, hce, hcv, hcl, st⟩
      · obtain ⟨⟨v', h', -, h9, -⟩, -⟩ := hqn
        exact h9.elim
      · obtain ⟨⟨k', rfl, hk9, hP', hgr'⟩, hF⟩ := hxn
        obtain ⟨k1, k2, k3⟩ := vx_keep g0 e1 hS (fun q _ h => by omega) (fun q h => by omega) hLc hF
        refine ⟨hne, k', q, ce, T', Lc, (hs.1 k' hk9).1, ⟨_, _, hk9⟩, ⟨⟨σ, τ, hσ, hτ, zTw_P.mpr ⟨hback k2, by rw [e1]; exact hP'⟩⟩, k3, ?_⟩, X', by rw [e1]; exact hce, hcv, hcl, st⟩
        rw [g0, ← e1] at hgr'
        show s.heap.size + c0 + (t.2.2.2 + 1) ≤ T'.heap.size
        omega
end TWO
