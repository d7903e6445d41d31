
/-! ===== what holds in every body of this claim ===== -/
def zWS : List Cond := lw_tbl.filter goodWord
theorem zws_mem {w : Cond} (i : Nat) (h : lw_tbl[i]? = some w) (g : goodWord w = true) : w ∈ zWS := List.mem_filter.mpr ⟨List.mem_of_getElem? h, g⟩
theorem zGood {ws : List Cond} (h : ∀ w ∈ ws, w ∈ zWS) : GoodIn zWS ws := fun w hw => ⟨h w hw, good_of_word (List.mem_filter.mp (h w hw)).2⟩
def zNest : List (String × Nat × MethodName × String) := [("TagRoot", 9, ⟨"TagRoot$Names", "<init>", "()V"⟩, "TagRoot"), ("TagRoot", 18, ⟨"TagRoot$Rules", "<init>", "()V"⟩, "TagRoot"), ("TagRoot", 28, ⟨"TagRoot$Requests", "<init>", "()V"⟩, "TagRoot"), ("TagRoot", 35, ⟨"TagRoot$Hands", "<init>", "()V"⟩, "TagRoot"), ("TagRoot", 42, ⟨"TagRoot$Rows", "<init>", "()V"⟩, "TagRoot"), ("TagRoot$Rules", 35, ⟨"TagRoot", "has", "(II)Z"⟩, "TagRoot"), ("TagRoot$Rows", 31, ⟨"TagRoot", "has", "(II)Z"⟩, "TagRoot"), ("TagRoot$Hands", 50, ⟨"TagRoot", "has", "(II)Z"⟩, "TagRoot")]
def zStr : List (String × Nat × String) := [("TagRoot", 109, "there are no more things to be had"), ("TagRoot", 231, "no such thing"), ("TagRoot", 229, "no such tag"), ("TagRoot", 123, "no such kind of edit"), ("TagRoot", 146, "no change is kept"), ("TagRoot", 155, "no such kind of request"), ("TagRoot", 157, "a rule leads to another tag"), ("TagRoot", 160, "there are no more requests to be had"), ("TagRoot", 233, "no such request"), ("TagRoot", 169, "no such voter"), ("TagRoot", 174, "the request is not open"), ("TagRoot", 71, "the draft is empty"), ("TagRoot", 80, "there are no more tags to be had"), ("TagRoot", 53, "no character of names"), ("TagRoot", 64, "the draft is full"), ("TagRoot", 101, "no such character"), ("TagRoot", 238, "no set of tags"), ("TagRoot", 222, "no place is below 0"), ("TagRoot", 227, "no such place")]
def zNcs : List (String × String) := [("java/lang/IllegalStateException", "java/lang/IllegalArgumentException"), ("java/lang/IllegalArgumentException", "java/lang/IndexOutOfBoundsException"), ("java/lang/IllegalStateException", "java/lang/IndexOutOfBoundsException")]
def zCas : List (String × String) := [("java/lang/IllegalArgumentException", "java/lang/IllegalArgumentException"), ("java/lang/IllegalStateException", "java/lang/IllegalStateException"), ("java/lang/IndexOutOfBoundsException", "java/lang/IndexOutOfBoundsException")]
def zDec : List MethodName := [Bundle.initS "java/lang/RuntimeException", Bundle.initS "java/lang/Exception", Bundle.initS "java/lang/Throwable"]
def zBad (X : String) : List Cond := [.declares (Bundle.initS "java/lang/RuntimeException"), .declares (Bundle.initS "java/lang/Exception"), .declares (Bundle.initS "java/lang/Throwable"), .castable X X]
def zEx (k : Nat) : String := if k = 0 then "java/lang/IllegalArgumentException" else if k = 1 then "java/lang/IllegalStateException" else "java/lang/IndexOutOfBoundsException"
abbrev zNames : List String := ["java/lang/RuntimeException", "java/lang/Exception"]

def zG (D : va_G) (cA : Nat → ClassId) (U : State) : Prop := va_K D vwCl [(cA 0, .int), (cA 1, .char)] U ∧ (∀ q ∈ zNest, va_Nw (.methodLinkNest q.1 q.2.1 q.2.2.1 q.2.2.2) U) ∧ (∀ q ∈ zStr, ∃ sa, vk_R q.1 q.2.1 q.2.2 sa U) ∧ (∀ q ∈ zNcs, va_Nc q.1 q.2 U) ∧ (∀ q ∈ zCas, va_Nw (.castable q.1 q.2) U) ∧ ∀ x ∈ zDec, va_Nw (.declares x) U
theorem zG.warm {D : va_G} {cA : Nat → ClassId} {s U : State} (hW : s.WarmedH U.vm) (h : zG D cA s) : zG D cA U :=
  ⟨va_K.moved hW.alike h.1, fun q hq => va_Nw.warmM hW (h.2.1 q hq), fun q hq => by
    obtain ⟨sa, h1⟩ := h.2.2.1 q hq
    exact ⟨sa, vk_R.warm hW h1⟩, fun q hq => va_Nc.moved hW.alike (h.2.2.2.1 q hq), fun q hq => va_Nw.warmC hW (h.2.2.2.2.1 q hq), fun x hx => va_Nw.warmD hW (h.2.2.2.2.2 x hx)⟩
def zZ (z0 : Nat) (U : State) (H : Heap) : Prop := vx_Zq Bundle.tN "UNASSIGNED_STACK" Bundle.steD (fun q => z0 ≤ q) U H ∧ vx_Zq Bundle.tN "SUPPRESSED_SENTINEL" Bundle.listD (fun q => z0 ≤ q) U H
theorem zZ.on {z0 : Nat} {s U : State} {H0 H : Heap} (hW : s.WarmedH U.vm) (hk : ∀ q : Nat, q < H0.size → ¬ z0 ≤ q → H[q]? = H0[q]?) (h : zZ z0 s H0) : zZ z0 U H :=
  ⟨vx_Zq.moved hW.alike (h.1.kept hk), vx_Zq.moved hW.alike (h.2.kept hk)⟩
def zI (z0 b N : Nat) (D : va_G) (cA : Nat → ClassId) (s : State) (h : ZH) (H : Heap) (locs : List Loc) : Prop := va_P D vwCl (zWd z0 b N cA h) H ∧ va_S (fun q : Nat => z0 ≤ q) s.heap H locs ∧ ∀ k, N ≤ k → h k = zdum
def zok (n : Nat) (a : List Value) : Bool := a.length == n && a.all (fun v => v.category == 1)
def zBs (z0 b N : Nat) (D : va_G) (cA : Nat → ClassId) (h : ZH) (U : State) : Prop := z0 ≤ U.heap.size ∧ zG D cA U ∧ zZ z0 U U.heap ∧ va_P D vwCl (zWd z0 b N cA h) U.heap ∧ ∀ k, N ≤ k → h k = zdum
def zPc (z0 b N : Nat) (D : va_G) (cA : Nat → ClassId) (a : List Value) (h : ZH) : Array Value → State → Prop := va_Pc (a.map (zc z0 b)) (zBs z0 b N D cA h)
def zQn (z0 b N : Nat) (D : va_G) (cA : Nat → ClassId) (Kn : Option Value → ZH → Prop) : Array Value → State → Outcome → State → Prop := fun _ st oc t =>
  (∃ (v : Option Value) (h' : ZH), oc = .returned (v.map (zc z0 b)) ∧ Kn v h' ∧ va_P D vwCl (zWd z0 b N cA h') t.heap ∧ ∀ k, N ≤ k → h' k = zdum) ∧ va_F (fun q : Nat => z0 ≤ q) st t
def zXn (z0 b N : Nat) (D : va_G) (cA : Nat → ClassId) (Kx : Nat → Prop) (h : ZH) : String → State → State → Prop := fun E st t =>
  (∃ k, E = zEx k ∧ Kx k ∧ va_P D vwCl (zWd z0 b N cA h) t.heap ∧ st.heap.size < t.heap.size) ∧ va_F (fun q : Nat => z0 ≤ q) st t
abbrev zRm (fr M lo : Nat) : Room := { frames := fr, cells := M, slots := 6 * M, locals := lo }
/-- a method, by what it throws (exc) and what it does else (ctN): with a cell more where it throws -/
def Sem (l : Launch) (z0 b N : Nat) (D : va_G) (cA : Nat → ClassId) (y : MethodName) (bytes : ByteArray) (maxL : Nat) (ret : Option FieldType) (fr lo n : Nat) (exc : List Value → ZH → Nat → Prop) (ctN : List Value → ZH → (Option Value → ZH → Prop) → Prop) : Prop :=
  ∀ (M : Nat) (a : List Value) (h : ZH) (Kn : Option Value → ZH → Prop) (Kx : Nat → Prop), zok n a = true → (∀ k, exc a h k → M = 1 ∧ Kx k) → ((∀ k, ¬ exc a h k) → ctN a h Kn) →
    vx_Met l y (Cond.code y bytes maxL ret :: zWS) (zRm fr M lo) (zPc z0 b N D cA a h) (zQn z0 b N D cA Kn) (zXn z0 b N D cA Kx h) M (6 * M) (fun q => z0 ≤ q)
theorem zBs.on {z0 b N : Nat} {D : va_G} {cA : Nat → ClassId} {h : ZH} {s U : State} (hW : s.WarmedH U.vm) (hh : U.heap = s.heap) (q : zBs z0 b N D cA h s) : zBs z0 b N D cA h U :=
  ⟨by rw [hh]; exact q.1, q.2.1.warm hW, q.2.2.1.on hW (fun x _ _ => by rw [hh]), by rw [hh]; exact q.2.2.2.1, q.2.2.2.2⟩
theorem zPc.blind {z0 b N : Nat} {D : va_G} {cA : Nat → ClassId} {a : List Value} {h : ZH} : FrameBlind (zPc z0 b N D cA a h) := fun x U g mk q => ⟨q.1, zBs.on (s := U) (State.WarmedH.refl U) rfl q.2⟩
def zCx (p : Program) (l : Launch) (R : Room) (s : State) (m : MethodId) (args : Array Value) (meth : Method) (c : Code) (cc : ByteArray) (nL : Nat) (own : String) (z0 : Nat) (D : va_G) (cA : Nat → ClassId) (M : Nat) : Prop :=
  p.tables.exec = Jvm.exec ∧ c.code = cc ∧ c.maxLocals = nL ∧ s.vm.findClass own = some m.cls ∧ (∀ w ∈ zWS, w.before args s = true) ∧ zG D cA s ∧ zZ z0 s s.heap ∧ z0 ≤ s.heap.size ∧ meth.locks = false ∧ l.stackTraces = false ∧ M ≤ R.cells ∧ 6 * M ≤ R.slots
section HEAPOPS
def o_getf (ci k : Nat) (K : ZK ZH) : ZK ZH := fun ls st h => match st with
  | .ref a :: r => (match h a with
    | .inr (c', fs) => c' = ci ∧ (match fs[k]? with
      | some v => K ls (v :: r) h
      | none => False)
    | .inl _ => False)
  | _ => False
def o_puti (ci k : Nat) (K : ZK ZH) : ZK ZH := fun ls st h => match st with
  | .int x :: .ref a :: r => (match h a with
    | .inr (c', fs) => c' = ci ∧ k < fs.length ∧ K ls r (zup h a (.inr (ci, fs.set k (.int x))))
    | .inl _ => False)
  | _ => False
def o_ald (t : Nat) (K : ZK ZH) : ZK ZH := fun ls st h => match st with
  | .int i :: .ref a :: r => (match h a with
    | .inl (t', n, .inl f) => t' = t ∧ vp_in i n ∧ K ls (.int (f i.toNatClampNeg) :: r) h
    | _ => False)
  | _ => False
def o_iast (K : ZK ZH) : ZK ZH := fun ls st h => match st with
  | .int x :: .int i :: .ref a :: r => (match h a with
    | .inl (t', n, .inl f) => t' = 0 ∧ vp_in i n ∧ K ls r (zup h a (.inl (0, n, .inl (upd f i.toNatClampNeg x))))
    | _ => False)
  | _ => False
def o_cast (K : ZK ZH) : ZK ZH := fun ls st h => match st with
  | .int x :: .int i :: .ref a :: r => (match h a with
    | .inl (t', n, .inl f) => t' = 1 ∧ vp_in i n ∧ K ls r (zup h a (.inl (1, n, .inl (upd f i.toNatClampNeg (vp_nar .char x)))))
    | _ => False)
  | _ => False
def o_lald (K : ZK ZH) : ZK ZH := fun ls st h => match st with
  | .int i :: .ref a :: r => (match h a with
    | .inl (t', n, .inr (.inl f)) => t' = 2 ∧ vp_in i n ∧ K ls (.long (f i.toNatClampNeg) :: r) h
    | _ => False)
  | _ => False
def o_last (K : ZK ZH) : ZK ZH := fun ls st h => match st with
  | .long x :: .int i :: .ref a :: r => (match h a with
    | .inl (t', n, .inr (.inl f)) => t' = 2 ∧ vp_in i n ∧ K ls r (zup h a (.inl (2, n, .inr (.inl (vp_updL f i.toNatClampNeg x)))))
    | _ => False)
  | _ => False
def o_ret (ty : FieldType) (Kn : Option Value → ZH → Prop) : ZK ZH := fun _ st h => match st with
  | [.int v] => narrow ty (.int v) = .int v ∧ Kn (some (.int v)) h
  | _ => False
def o_vret (Kn : Option Value → ZH → Prop) : ZK ZH := fun _ st h => match st with
  | [] => Kn none h
  | _ => False
def o_mmin (K : ZK ZH) : ZK ZH := fun ls st h => match st with
  | .int y :: .int x :: r => r.length ≤ 3 ∧ K ls (.int (if y < x then y else x) :: r) h
  | _ => False
def o_mabs (K : ZK ZH) : ZK ZH := fun ls st h => match st with
  | .int x :: r => r.length ≤ 3 ∧ K ls (.int (if 0 ≤ x then x else 0 - x) :: r) h
  | _ => False
def o_throw (M k : Nat) (Kx : Nat → Prop) (h0 : ZH) : ZK ZH := fun _ st h => match st with
  | [] => M = 1 ∧ Kx k ∧ h = h0
  | _ => False
def zcall (M n : Nat) (exc : List Value → ZH → Nat → Prop) (ctN : List Value → ZH → (Option Value → ZH → Prop) → Prop) (Kx : Nat → Prop) (h0 : ZH) (K : ZK ZH) (ls : List (Option Value)) (a r : List Value) (h : ZH) : Prop :=
  zok n a = true ∧ r.length ≤ 4 ∧ (∀ k, exc a h k → M = 1 ∧ Kx k ∧ h = h0) ∧ ((∀ k, ¬ exc a h k) → ctN a h (fun v h' => K ls (v.toList ++ r) h'))
def o_callS0 (M : Nat) (exc : List Value → ZH → Nat → Prop) (ctN : List Value → ZH → (Option Value → ZH → Prop) → Prop) (Kx : Nat → Prop) (h0 : ZH) (K : ZK ZH) : ZK ZH := fun ls st h => zcall M 0 exc ctN Kx h0 K ls [] st h
def o_callS1 (M : Nat) (exc : List Value → ZH → Nat → Prop) (ctN : List Value → ZH → (Option Value → ZH → Prop) → Prop) (Kx : Nat → Prop) (h0 : ZH) (K : ZK ZH) : ZK ZH := fun ls st h => match st with
  | v0 :: r => zcall M 1 exc ctN Kx h0 K ls [v0] r h
  | _ => False
def o_callS2 (M : Nat) (exc : List Value → ZH → Nat → Prop) (ctN : List Value → ZH → (Option Value → ZH → Prop) → Prop) (Kx : Nat → Prop) (h0 : ZH) (K : ZK ZH) : ZK ZH := fun ls st h => match st with
  | v1 :: v0 :: r => zcall M 2 exc ctN Kx h0 K ls [v0, v1] r h
  | _ => False
def o_callS3 (M : Nat) (exc : List Value → ZH → Nat → Prop) (ctN : List Value → ZH → (Option Value → ZH → Prop) → Prop) (Kx : Nat → Prop) (h0 : ZH) (K : ZK ZH) : ZK ZH := fun ls st h => match st with
  | v2 :: v1 :: v0 :: r => zcall M 3 exc ctN Kx h0 K ls [v0, v1, v2] r h
  | _ => False
def o_callS4 (M : Nat) (exc : List Value → ZH → Nat → Prop) (ctN : List Value → ZH → (Option Value → ZH → Prop) → Prop) (Kx : Nat → Prop) (h0 : ZH) (K : ZK ZH) : ZK ZH := fun ls st h => match st with
  | v3 :: v2 :: v1 :: v0 :: r => zcall M 4 exc ctN Kx h0 K ls [v0, v1, v2, v3] r h
  | _ => False
def o_callS5 (M : Nat) (exc : List Value → ZH → Nat → Prop) (ctN : List Value → ZH → (Option Value → ZH → Prop) → Prop) (Kx : Nat → Prop) (h0 : ZH) (K : ZK ZH) : ZK ZH := fun ls st h => match st with
  | v4 :: v3 :: v2 :: v1 :: v0 :: r => zcall M 5 exc ctN Kx h0 K ls [v0, v1, v2, v3, v4] r h
  | _ => False
def o_callV0 (M ci : Nat) (exc : List Value → ZH → Nat → Prop) (ctN : List Value → ZH → (Option Value → ZH → Prop) → Prop) (Kx : Nat → Prop) (h0 : ZH) (K : ZK ZH) : ZK ZH := fun ls st h => match st with
  | .ref a :: r => (match h a with
    | .inr (c', fs) => c' = ci ∧ 0 < fs.length ∧ zcall M 1 exc ctN Kx h0 K ls [.ref a] r h
    | .inl _ => False)
  | _ => False
def o_callV1 (M ci : Nat) (exc : List Value → ZH → Nat → Prop) (ctN : List Value → ZH → (Option Value → ZH → Prop) → Prop) (Kx : Nat → Prop) (h0 : ZH) (K : ZK ZH) : ZK ZH := fun ls st h => match st with
  | v0 :: .ref a :: r => (match h a with
    | .inr (c', fs) => c' = ci ∧ 0 < fs.length ∧ zcall M 2 exc ctN Kx h0 K ls [.ref a, v0] r h
    | .inl _ => False)
  | _ => False
def o_callV2 (M ci : Nat) (exc : List Value → ZH → Nat → Prop) (ctN : List Value → ZH → (Option Value → ZH → Prop) → Prop) (Kx : Nat → Prop) (h0 : ZH) (K : ZK ZH) : ZK ZH := fun ls st h => match st with
  | v1 :: v0 :: .ref a :: r => (match h a with
    | .inr (c', fs) => c' = ci ∧ 0 < fs.length ∧ zcall M 3 exc ctN Kx h0 K ls [.ref a, v0, v1] r h
    | .inl _ => False)
  | _ => False
def o_callV3 (M ci : Nat) (exc : List Value → ZH → Nat → Prop) (ctN : List Value → ZH → (Option Value → ZH → Prop) → Prop) (Kx : Nat → Prop) (h0 : ZH) (K : ZK ZH) : ZK ZH := fun ls st h => match st with
  | v2 :: v1 :: v0 :: .ref a :: r => (match h a with
    | .inr (c', fs) => c' = ci ∧ 0 < fs.length ∧ zcall M 4 exc ctN Kx h0 K ls [.ref a, v0, v1, v2] r h
    | .inl _ => False)
  | _ => False
def o_callV4 (M ci : Nat) (exc : List Value → ZH → Nat → Prop) (ctN : List Value → ZH → (Option Value → ZH → Prop) → Prop) (Kx : Nat → Prop) (h0 : ZH) (K : ZK ZH) : ZK ZH := fun ls st h => match st with
  | v3 :: v2 :: v1 :: v0 :: .ref a :: r => (match h a with
    | .inr (c', fs) => c' = ci ∧ 0 < fs.length ∧ zcall M 5 exc ctN Kx h0 K ls [.ref a, v0, v1, v2, v3] r h
    | .inl _ => False)
  | _ => False
def o_callV5 (M ci : Nat) (exc : List Value → ZH → Nat → Prop) (ctN : List Value → ZH → (Option Value → ZH → Prop) → Prop) (Kx : Nat → Prop) (h0 : ZH) (K : ZK ZH) : ZK ZH := fun ls st h => match st with
  | v4 :: v3 :: v2 :: v1 :: v0 :: .ref a :: r => (match h a with
    | .inr (c', fs) => c' = ci ∧ 0 < fs.length ∧ zcall M 6 exc ctN Kx h0 K ls [.ref a, v0, v1, v2, v3, v4] r h
    | .inl _ => False)
  | _ => False
end HEAPOPS
section KH
variable {p : Program} {l : Launch} {e : Env} {R : Room} {s : State} {m : MethodId} {args : Array Value} {below : List Frame} {meth : Method} {c : Code}
variable {nL z0 b N M : Nat} {D : va_G} {cA : Nat → ClassId} {Q : State → Prop} {pc : Nat} {cc : ByteArray} {own : String} {K : ZK ZH}
theorem zcat3 {z0 b : Nat} : ∀ (r : List Value), r.length ≤ 3 → ((r.map (zc z0 b)).map fun v => v.category).sum ≤ 6 := by
  have h1 : ∀ v : Value, (zc z0 b v).category ≤ 2 := fun v => by rw [zc_cat]; cases v <;> simp [Value.category]
  intro r hr
  match r, hr with
  | [], _ => exact Nat.zero_le _
  | [u], _ => have := h1 u; simp; omega
  | [u, v], _ => have := h1 u; have := h1 v; simp; omega
  | [u, v, w], _ => have := h1 u; have := h1 v; have := h1 w; simp; omega
  | _ :: _ :: _ :: _ :: _, hr => simp at hr

theorem zI.lt {h : ZH} {H : Heap} {locs : List Loc} (hI : zI z0 b N D cA s h H locs) {a : Nat} (ha : ¬ h a = zdum) : a < N := Nat.not_le.mp fun q => ha (hI.2.2 a q)
theorem zI.get {h : ZH} {H : Heap} {locs : List Loc} (hI : zI z0 b N D cA s h H locs) {a : Nat} {x : va_E} (ha : h a = x) (hx : ¬ x = zdum) : (zWd z0 b N cA h)[a]? = some (z0 + a, ze z0 b cA x) := by
  rw [zWd_get (hI.lt (by rw [ha]; exact hx)), ha]
theorem zup_dum {h : ZH} {a : Nat} {x : va_E} (hd : ∀ k, N ≤ k → h k = zdum) (ha : a < N) : ∀ k, N ≤ k → zup h a x k = zdum := fun k hk => by
  have : ¬ k = a := by omega
  simp only [zup, if_neg this]
  exact hd k hk
theorem k_getf (C : zCx p l R s m args meth c cc nL own z0 D cA M) {idx ci k Nf : Nat} {Cn ref : String} {Tf : u_T} (hc : vwCl[ci]? = some (Cn, Tf, Nf)) (hin : ∀ w ∈ u_ws Cn Tf Nf, w ∈ zWS) (hk : k < Nf) (href : ref = (Tf k).1) (hlink : Cond.fieldLink own idx ref (Tf k).2.1 (Tf k).2.2.1 ∈ zWS) (d : decode cc pc = .ok (.getfield idx, 3)) (hK : Snd p l e R s m args below meth c nL z0 b (zI z0 b N D cA s) (fun _ => (0, 0)) Q (pc + 3) K) : Snd p l e R s m args below meth c nL z0 b (zI z0 b N D cA s) (fun _ => (0, 0)) Q pc (o_getf ci k K) := by
  intro ls st h hq H locs L hI hL
  obtain ⟨hx, hb, hml, hown, hts, hg, -⟩ := C
  simp only [o_getf] at hq
  split at hq
  · next a r =>
    split at hq
    · next c' fs hfs =>
      obtain ⟨rfl, hq⟩ := hq
      split at hq
      · next v hv =>
        refine va_get hx hb hts hin hown hg.1 hI.1 a (hI.get hfs (fun z => by cases z; simp at hv)) hc k hk (hts _ hlink) (fun x h9 => by rw [href]; exact h9) (v := zc z0 b v) ?_ d (hK _ _ _ hq H locs L hI hL)
        show (fs.map (zc z0 b))[k]? = _
        rw [List.getElem?_map, hv]; rfl
      · exact hq.elim
    · exact hq.elim
  · exact hq.elim
theorem k_puti (C : zCx p l R s m args meth c cc nL own z0 D cA M) {idx ci k Nf : Nat} {Cn ref : String} {Tf : u_T} (ty : Nat → FieldType) (hty : ∀ k, k < Nf → parseFieldDescriptor (Tf k).2.2.1 = some (ty k)) (hnm : ∀ a, a < Nf → ∀ b, b < Nf → a ≠ b → (Tf a).2.1 ≠ (Tf b).2.1) (hc : vwCl[ci]? = some (Cn, Tf, Nf)) (hin : ∀ w ∈ u_ws Cn Tf Nf, w ∈ zWS) (hk : k < Nf) (href : ref = (Tf k).1) (hfin : (Tf k).2.2.2 = false) (hint : parseFieldDescriptor (Tf k).2.2.1 = some .int) (hlink : Cond.fieldLink own idx ref (Tf k).2.1 (Tf k).2.2.1 ∈ zWS) (d : decode cc pc = .ok (.putfield idx, 3)) (hK : Snd p l e R s m args below meth c nL z0 b (zI z0 b N D cA s) (fun _ => (0, 0)) Q (pc + 3) K) : Snd p l e R s m args below meth c nL z0 b (zI z0 b N D cA s) (fun _ => (0, 0)) Q pc (o_puti ci k K) := by
  intro ls st h hq H locs L hI hL
  obtain ⟨hx, hb, hml, hown, hts, hg, -⟩ := C
  simp only [o_puti] at hq
  split at hq
  · next x a r =>
    split at hq
    · next c' fs hfs =>
      obtain ⟨rfl, hl, hq⟩ := hq
      have hnd : ¬ (Sum.inr (c', fs) : va_E) = zdum := fun z => by cases z; simp at hl
      refine va_put hx hb hts hin ty hty hnm hown hg.1 hI.1 (zWd_D z0 b N cA h) hI.2.1 a (hI.get hfs hnd) hc k hk (hts _ hlink) (fun x h9 => by rw [href]; exact h9) hfin hint rfl rfl (by simpa using hl) d (fun H1 locs1 hP1 _ hS1 => ?_)
      refine hK _ _ _ hq H1 locs1 L ⟨?_, hS1, zup_dum hI.2.2 (hI.lt (by rw [hfs]; exact hnd))⟩ hL
      have e9 : (zWd z0 b N cA h).set a (z0 + a, .inr (c', (fs.map (zc z0 b)).set k (.int x))) = zWd z0 b N cA (zup h a (.inr (c', fs.set k (.int x)))) := by
        rw [← zWd_set (hI.lt (by rw [hfs]; exact hnd))]
        show _ = (zWd z0 b N cA h).set a (z0 + a, .inr (c', (fs.set k (.int x)).map (zc z0 b)))
        rw [List.map_set]; rfl
      rw [← e9]
      exact hP1
    · exact hq.elim
  · exact hq.elim
theorem k_iald (C : zCx p l R s m args meth c cc nL own z0 D cA M) (d : decode cc pc = .ok (.iaload, 1)) (hK : Snd p l e R s m args below meth c nL z0 b (zI z0 b N D cA s) (fun _ => (0, 0)) Q (pc + 1) K) : Snd p l e R s m args below meth c nL z0 b (zI z0 b N D cA s) (fun _ => (0, 0)) Q pc (o_ald 0 K) := by
  intro ls st h hq H locs L hI hL
  obtain ⟨hx, hb, hml, hown, hts, hg, -⟩ := C
  simp only [o_ald] at hq
  split at hq
  · next i a r =>
    split at hq
    · next t' n f hf =>
      obtain ⟨rfl, hv, hq⟩ := hq
      exact va_iald hx hb hg.1 hI.1 a 0 (hI.get hf (fun z => by cases z)) rfl hv d (hK _ _ _ hq H locs L hI hL)
    · exact hq.elim
  · exact hq.elim
theorem k_cald (C : zCx p l R s m args meth c cc nL own z0 D cA M) (d : decode cc pc = .ok (.caload, 1)) (hK : Snd p l e R s m args below meth c nL z0 b (zI z0 b N D cA s) (fun _ => (0, 0)) Q (pc + 1) K) : Snd p l e R s m args below meth c nL z0 b (zI z0 b N D cA s) (fun _ => (0, 0)) Q pc (o_ald 1 K) := by
  intro ls st h hq H locs L hI hL
  obtain ⟨hx, hb, hml, hown, hts, hg, -⟩ := C
  simp only [o_ald] at hq
  split at hq
  · next i a r =>
    split at hq
    · next t' n f hf =>
      obtain ⟨rfl, hv, hq⟩ := hq
      exact va_cald hx hb hg.1 hI.1 a 1 (hI.get hf (fun z => by cases z)) rfl hv d (hK _ _ _ hq H locs L hI hL)
    · exact hq.elim
  · exact hq.elim
theorem k_iast (C : zCx p l R s m args meth c cc nL own z0 D cA M) (d : decode cc pc = .ok (.iastore, 1)) (hK : Snd p l e R s m args below meth c nL z0 b (zI z0 b N D cA s) (fun _ => (0, 0)) Q (pc + 1) K) : Snd p l e R s m args below meth c nL z0 b (zI z0 b N D cA s) (fun _ => (0, 0)) Q pc (o_iast K) := by
  intro ls st h hq H locs L hI hL
  obtain ⟨hx, hb, hml, hown, hts, hg, -⟩ := C
  simp only [o_iast] at hq
  split at hq
  · next x i a r =>
    split at hq
    · next t' n f hf =>
      obtain ⟨rfl, hv, hq⟩ := hq
      have ha : a < N := hI.lt (by rw [hf]; exact fun z => by cases z)
      refine va_iast hx hb hg.1 hI.1 (zWd_D z0 b N cA h) hI.2.1 a 0 (hI.get hf (fun z => by cases z)) rfl hv d (fun H1 locs1 hP1 _ hS1 => ?_)
      refine hK _ _ _ hq H1 locs1 L ⟨?_, hS1, zup_dum hI.2.2 ha⟩ hL
      rw [← zWd_set ha]
      exact hP1
    · exact hq.elim
  · exact hq.elim
theorem k_cast (C : zCx p l R s m args meth c cc nL own z0 D cA M) (d : decode cc pc = .ok (.castore, 1)) (hK : Snd p l e R s m args below meth c nL z0 b (zI z0 b N D cA s) (fun _ => (0, 0)) Q (pc + 1) K) : Snd p l e R s m args below meth c nL z0 b (zI z0 b N D cA s) (fun _ => (0, 0)) Q pc (o_cast K) := by
  intro ls st h hq H locs L hI hL
  obtain ⟨hx, hb, hml, hown, hts, hg, -⟩ := C
  simp only [o_cast] at hq
  split at hq
  · next x i a r =>
    split at hq
    · next t' n f hf =>
      obtain ⟨rfl, hv, hq⟩ := hq
      have ha : a < N := hI.lt (by rw [hf]; exact fun z => by cases z)
      refine va_cast hx hb hg.1 hI.1 (zWd_D z0 b N cA h) hI.2.1 a 1 (hI.get hf (fun z => by cases z)) rfl hv d (fun H1 locs1 hP1 _ hS1 => ?_)
      refine hK _ _ _ hq H1 locs1 L ⟨?_, hS1, zup_dum hI.2.2 ha⟩ hL
      rw [← zWd_set ha]
      exact hP1
    · exact hq.elim
  · exact hq.elim
theorem k_mmin (C : zCx p l R s m args meth c cc nL own z0 D cA M) {idx : Nat} (hlink : Cond.methodLink own idx Lib.Math.min.name ∈ zWS) (hstat : Cond.static Lib.Math.min.name ∈ zWS) (hini : Cond.initialized "java/lang/Math" ∈ zWS) (hcode : Cond.code Lib.Math.min.name Lib.Math.min.code 2 (some .int) ∈ zWS) (hR : 1 ≤ R.frames ∧ 19 ≤ R.locals) (d : decode cc pc = .ok (.invokestatic idx, 3)) (hK : Snd p l e R s m args below meth c nL z0 b (zI z0 b N D cA s) (fun _ => (0, 0)) Q (pc + 3) K) : Snd p l e R s m args below meth c nL z0 b (zI z0 b N D cA s) (fun _ => (0, 0)) Q pc (o_mmin K) := by
  intro ls st h hq H locs L hI hL
  obtain ⟨hx, hb, hml, hown, hts, hg, -⟩ := C
  unfold o_mmin at hq
  split at hq
  · refine va_mmin hx hb (hml.trans hL.1.1.symm) hown (hts _ hlink) (hts _ hstat) (hts _ hini) (hts _ hcode) hR.1 ?_ (Nat.zero_le _) (Nat.zero_le _) d (hK _ _ _ hq.2 H locs L hI hL)
    have h9 := zcat3 (z0 := z0) (b := b) _ hq.1
    have := hR.2
    omega
  · exact hq.elim
theorem k_mabs (C : zCx p l R s m args meth c cc nL own z0 D cA M) {idx : Nat} (hlink : Cond.methodLink own idx Lib.Math.abs.name ∈ zWS) (hstat : Cond.static Lib.Math.abs.name ∈ zWS) (hini : Cond.initialized "java/lang/Math" ∈ zWS) (hcode : Cond.code Lib.Math.abs.name Lib.Math.abs.code 1 (some .int) ∈ zWS) (hR : 1 ≤ R.frames ∧ 19 ≤ R.locals) (d : decode cc pc = .ok (.invokestatic idx, 3)) (hK : Snd p l e R s m args below meth c nL z0 b (zI z0 b N D cA s) (fun _ => (0, 0)) Q (pc + 3) K) : Snd p l e R s m args below meth c nL z0 b (zI z0 b N D cA s) (fun _ => (0, 0)) Q pc (o_mabs K) := by
  intro ls st h hq H locs L hI hL
  obtain ⟨hx, hb, hml, hown, hts, hg, -⟩ := C
  unfold o_mabs at hq
  split at hq
  · refine va_mabs hx hb (hml.trans hL.1.1.symm) hown (hts _ hlink) (hts _ hstat) (hts _ hini) (hts _ hcode) hR.1 ?_ (Nat.zero_le _) (Nat.zero_le _) d (hK _ _ _ hq.2 H locs L hI hL)
    have h9 := zcat3 (z0 := z0) (b := b) _ hq.1
    have := hR.2
    omega
  · exact hq.elim

variable {Kn : Option Value → ZH → Prop} {Kx : Nat → Prop} {h0 : ZH}
theorem k_ret (C : zCx p l R s m args meth c cc nL own z0 D cA M) {ty : FieldType} (hr : meth.sig.returnType = some ty) (d : decode cc pc = .ok (.ireturn, 1)) : Snd p l e R s m args below meth c nL z0 b (zI z0 b N D cA s) (fun _ => (0, 0)) (vx_MQ below (zQn z0 b N D cA Kn) (zXn z0 b N D cA Kx h0) args s M (6 * M) (fun q => z0 ≤ q)) pc (o_ret ty Kn) := by
  intro ls st h hq H locs L hI hL
  obtain ⟨hx, hb, hml, hown, hts, hg, hz, hz0, hlocks, hlt, hM1, hM2⟩ := C
  unfold o_ret at hq
  split at hq
  · next v =>
    refine vx_ret (W.widen (Nat.zero_le _) (Nat.zero_le _) (W.zret hx hb hr hq.1 (fun t ht hW => ⟨⟨some (.int v), h, rfl, hq.2, by rw [ht]; exact hI.1, hI.2.2⟩, hI.2.1.F ht⟩) hI.2.1.2.2 d hlocks))
  · exact hq.elim
theorem k_vret (C : zCx p l R s m args meth c cc nL own z0 D cA M) (hr : meth.sig.returnType = none) (d : decode cc pc = .ok (.return_, 1)) : Snd p l e R s m args below meth c nL z0 b (zI z0 b N D cA s) (fun _ => (0, 0)) (vx_MQ below (zQn z0 b N D cA Kn) (zXn z0 b N D cA Kx h0) args s M (6 * M) (fun q => z0 ≤ q)) pc (o_vret Kn) := by
  intro ls st h hq H locs L hI hL
  obtain ⟨hx, hb, hml, hown, hts, hg, hz, hz0, hlocks, hlt, hM1, hM2⟩ := C
  unfold o_vret at hq
  split at hq
  · refine vx_ret (W.widen (Nat.zero_le _) (Nat.zero_le _) (W.vret hx hb hr (fun t ht hW => ⟨⟨none, h, rfl, hq, by rw [ht]; exact hI.1, hI.2.2⟩, hI.2.1.F ht⟩) hI.2.1.2.2 d hlocks))
  · exact hq.elim
theorem zat_of {own : String} {ic : Nat} {X : String} (h1 : ∀ w ∈ (vx_atS own ic X zNames).filter goodWord, w ∈ zWS) (h2 : ∀ w ∈ (vx_atS own ic X zNames).filter (fun w => !goodWord w), w ∈ zBad X) (hX : (X, X) ∈ zCas) {args : Array Value} {s : State} (hts : ∀ w ∈ zWS, w.before args s = true) (hg : zG D cA s) : ∀ w ∈ vx_atS own ic X zNames, w.before args s = true :=
  vx_hat (fun w hw => hts w (h1 w hw)) h2 (vx_c (va_Nw.use rfl (hg.2.2.2.2.2 _ (by simp [zDec]))) (vx_c (va_Nw.use rfl (hg.2.2.2.2.2 _ (by simp [zDec]))) (vx_c (va_Nw.use rfl (hg.2.2.2.2.2 _ (by simp [zDec]))) (vx_c (va_Nw.use rfl (hg.2.2.2.2.1 _ hX)) vx_n))))
theorem k_throw (C : zCx p l R s m args meth c cc nL own z0 D cA M) (htab : ∀ x ∈ c.exceptionTable.toList, False) {k ik is ic : Nat} {X text : String} (hX : zEx k = X) (hX2 : (X, X) ∈ zCas) (hstr : (own, is, text) ∈ zStr) (hcls : Bundle.fit X = true) (hnames : ∀ n ∈ zNames, Bundle.fit n = true) (hk : Cond.classLink own ik X ∈ zWS) (hini : Cond.initialized X ∈ zWS)
    (h1 : ∀ w ∈ (vx_atS own ic X zNames).filter goodWord, w ∈ zWS) (h2 : ∀ w ∈ (vx_atS own ic X zNames).filter (fun w => !goodWord w), w ∈ zBad X) (hgood : ∀ w ∈ Cond.classLink own ik X :: Cond.initialized X :: vx_atS own ic X zNames, vx_ot w = true)
    (d0 : decode cc pc = .ok (.new ik, 3)) (d3 : decode cc (pc + 3) = .ok (.dup, 1)) (d4 : decode cc (pc + 4) = .ok (.ldc is, 2)) (d6 : decode cc (pc + 6) = .ok (.invokespecial ic, 3)) (d9 : decode cc (pc + 9) = .ok (.athrow, 1)) (hR : 5 < R.frames ∧ 82 ≤ R.locals) : Snd p l e R s m args below meth c nL z0 b (zI z0 b N D cA s) (fun _ => (0, 0)) (vx_MQ below (zQn z0 b N D cA Kn) (zXn z0 b N D cA Kx h0) args s M (6 * M) (fun q => z0 ≤ q)) pc (o_throw M k Kx h0) := by
  intro ls st h hq H locs L hI hL
  obtain ⟨hx, hb, hml, hown, hts, hg, hz, hz0, hlocks, hlt, hM1, hM2⟩ := C
  unfold o_throw at hq
  split at hq
  · obtain ⟨rfl, hkx, rfl⟩ := hq
    obtain ⟨sa, hsa⟩ := hg.2.2.1 _ hstr
    exact vx_throwS hx hb hlt hown hcls hnames (hts _ hk) (hts _ hini) hsa (zat_of h1 h2 hX2 hts hg) hgood hz.1 hz.2 hI.2.1 (hL.1.1.trans hml.symm) d0 d3 d4 d6 d9 (fun x hx9 => (htab x hx9).elim) (by simpa using hR.1) (by simpa using hR.2) (by simpa using hM1) (by simpa using hM2) hlocks
      (fun t hA hsz hsame => ⟨⟨k, hX.symm, hkx, hI.1.kept (fun i q hi => hsame _ (hI.1 i q hi).lt), Nat.lt_of_le_of_lt hI.2.1.1 hsz⟩, ⟨Nat.le_of_lt (Nat.lt_of_le_of_lt hI.2.1.1 hsz), fun q hq1 hq2 => (hsame q (Nat.lt_of_lt_of_le hq1 hI.2.1.1)).trans (hI.2.1.2.1 q hq1 hq2)⟩⟩) hI.2.1.2.2 (Nat.le_refl _) (Nat.le_refl _)
  · exact hq.elim
end KH
