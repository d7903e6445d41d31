section CT
variable {p : Program} {l : Launch} {e : Env} {R : Room} {s : State} {m : MethodId} {args : Array Value} {below : List Frame} {meth : Method} {c : Code}
variable {nL z0 b bs j0 : Nat} {h0 : ZH} {D : va_G} {cA : Nat → ClassId} {Q : State → Prop} {pc : Nat} {cc : ByteArray} {own : String}
abbrev PcC (z0 b : Nat) (D : va_G) (cA : Nat → ClassId) (k : Nat) (x : va_E) (h0 : ZH) : Array Value → State → Prop := va_Pc [.ref (z0 + k)] (fun U => zBs z0 b (k + 1) D cA (zB k [x] h0) U ∧ U.heap.size = z0 + k + 1)
abbrev QcC (z0 b : Nat) (D : va_G) (cA : Nat → ClassId) (k mc : Nat) (es : List va_E) (h0 : ZH) : Array Value → State → Outcome → State → Prop := zQn z0 b (k + 1 + mc) D cA (fun v g => v = none ∧ g = zB k es h0)
theorem PcC.blind {k : Nat} {x : va_E} : FrameBlind (PcC z0 b D cA k x h0) := fun a U g mk q => ⟨q.1, zBs.on (s := U) (State.WarmedH.refl U) rfl q.2.1, q.2.2⟩
def o_ini (rc rs bs j0 nA mc ms : Nat) (x : va_E) (es : List va_E) (K : ZK ZC) : ZK ZC := fun ls st t => match st with
  | .ref a :: r => r.length ≤ 4 ∧ a = bs + nA ∧ j0 ≤ nA ∧ nA + 1 - j0 + mc ≤ rc ∧ t.2 + ms ≤ rs ∧ ∃ A, A.length = nA ∧ t.1 = A ++ [x] ∧ K ls r (A ++ es, t.2 + ms)
  | _ => False
theorem k_ini (C : zCx p l R s m args meth c cc nL own z0 D cA 0) {nA mc ms : Nat} {x : va_E} {es : List va_E} (hes : es.length = mc + 1)
    (hrun : ∀ (h1 : ZH) (H : Heap) (locs : List Loc) (L : Array Slot) (cells slots : Nat) (r : List Value), PreS s H (PcC z0 b D cA (bs + nA) x h1) [.ref (z0 + (bs + nA))] → L.size = nL → (r.map fun v => v.category).sum ≤ 8 → cells + mc ≤ R.cells ∧ slots + ms ≤ R.slots → va_Run p l e R s m args below meth c H locs cells slots mc ms (F0 m pc L (.ref (z0 + (bs + nA)) :: r)) r (QcC z0 b D cA (bs + nA) mc es h1 #[.ref (z0 + (bs + nA))]) (fun q => z0 ≤ q))
    {K : ZK ZC} (hK : Snd p l e R s m args below meth c nL z0 b (iC z0 b bs j0 h0 D cA s) (cC j0) Q (pc + 3) K) : Snd p l e R s m args below meth c nL z0 b (iC z0 b bs j0 h0 D cA s) (cC j0) Q pc (o_ini R.cells R.slots bs j0 nA mc ms x es K) := by
  intro ls st t hq H locs L hI hL T hT X
  have hsz := iC_size hI hT X
  obtain ⟨hx, hb, hml, hown, hts, hg, hz, hz0, -⟩ := C
  obtain ⟨⟨hP, hS, hdum⟩, hs0, hj⟩ := hI
  unfold o_ini at hq
  split at hq
  · next a r =>
    obtain ⟨hr4, rfl, hjA, hrc, hrs, A, hA, htA, hq⟩ := hq
    obtain ⟨t1, w⟩ := t
    dsimp only at hP hS hdum hj htA hq hsz X hrs
    subst htA
    have hlen : (A ++ [x]).length = nA + 1 := by simp [hA]
    rw [hlen] at hP hdum hsz
    rw [hlen] at X
    have hB : zB bs (A ++ [x]) h0 = zB (bs + nA) [x] (zB bs A h0) := by rw [← hA]; exact zB_app.symm
    rw [hB] at hP hdum
    have hpre : PreS s H (PcC z0 b D cA (bs + nA) x (zB bs A h0)) [.ref (z0 + (bs + nA))] := ⟨PcC.blind, fun U hU hW => ⟨rfl, ⟨by rw [hU]; exact Nat.le_trans hz0 hS.1, hg.warm hW, hz.on hW (by rw [hU]; exact hS.2.1), by rw [hU]; exact hP, hdum⟩, by rw [hU, hsz]; omega⟩⟩
    obtain ⟨v, st₀, t2, T', Lc, g0, X', hLc, e1, e2, hqn, st⟩ := hrun (zB bs A h0) H locs L (nA + 1 - j0) w (r.map (zc z0 b)) hpre hL.1.1 (zrest r hr4) ⟨hrc, hrs⟩ T hT X
    obtain ⟨⟨v', h', hv, ⟨rfl, rfl⟩, hP', hd'⟩, hF⟩ := hqn
    cases hv
    obtain ⟨-, -, k3⟩ := vx_keep g0 e1 hS (fun q _ h => h) (fun q h => h) hLc hF
    have hlen2 : (A ++ es).length = nA + 1 + mc := by rw [List.length_append, hA, hes]; omega
    have hB2 : zB bs (A ++ es) h0 = zB (bs + nA) es (zB bs A h0) := by rw [← hA]; exact zB_app.symm
    have hW := hK _ r (A ++ es, w + ms) hq T'.heap (locs ++ Lc) L ⟨⟨?_, k3, ?_⟩, hs0, ?_⟩ hL
    · have hcl2 : cC j0 (A ++ es, w + ms) = (nA + 1 - j0 + mc, w + ms) := by
        show ((A ++ es).length - j0, w + ms) = _
        rw [hlen2, show nA + 1 + mc - j0 = nA + 1 - j0 + mc by omega]
      rw [hcl2] at hW
      obtain ⟨t9, a1, b1⟩ := hW T' rfl X'
      exact ⟨t9, st t9 a1, b1⟩
    · show va_P D vwCl (zWd z0 b (bs + (A ++ es).length) cA (zB bs (A ++ es) h0)) T'.heap
      rw [hlen2, hB2, e1, show bs + (nA + 1 + mc) = bs + nA + 1 + mc by omega]
      exact hP'
    · intro k hk
      have hk : bs + (A ++ es).length ≤ k := hk
      rw [hlen2] at hk
      show zB bs (A ++ es) h0 k = zdum
      rw [hB2]
      exact hd' k (by omega)
    · show j0 ≤ (A ++ es).length
      rw [hlen2]
      omega
  · exact hq.elim
theorem run_nest (C : zCx p l R s m args meth c cc nL own z0 D cA 0) {y : MethodName} {bytes : ByteArray} {maxL fr lo k mc ms idx : Nat} {x : va_E} {es : List va_E} {host : String} (hS : SemC l z0 b D cA y bytes maxL fr lo k mc ms x es) (hnest : (own, idx, y, host) ∈ zNest) (hini : Cond.initialized y.cls ∈ zWS) (hinst : Cond.instanceMethod y ∈ zWS) (hcode : Cond.code y bytes maxL none ∈ zWS) (hy1 : y.name = "<init>")
    (hd : y.cls ≠ "java/lang/invoke/MethodHandle" ∧ y.cls ≠ "java/lang/invoke/VarHandle" ∧ (parseMethodDescriptor y.desc).map (fun d => d.parameters.length) = some 0) (hR : fr + 1 ≤ R.frames ∧ 8 + (maxL + 11) + lo ≤ R.locals) (d : decode cc pc = .ok (.invokespecial idx, 3)) :
    ∀ (h1 : ZH) (H : Heap) (locs : List Loc) (L : Array Slot) (cells slots : Nat) (r : List Value), PreS s H (PcC z0 b D cA k x h1) [.ref (z0 + k)] → L.size = nL → (r.map fun v => v.category).sum ≤ 8 → cells + mc ≤ R.cells ∧ slots + ms ≤ R.slots → va_Run p l e R s m args below meth c H locs cells slots mc ms (F0 m pc L (.ref (z0 + k) :: r)) r (QcC z0 b D cA k mc es h1 #[.ref (z0 + k)]) (fun q => z0 ≤ q) := by
  intro h1 H locs L cells slots r hp hL hr hroom
  obtain ⟨hx, hb, hml, hown, hts, hg, -⟩ := C
  have hG : GoodIn zWS (Cond.code y bytes maxL none :: zWS) := zGood (fun w hw => by
    rcases List.mem_cons.mp hw with rfl | hw <;> assumption)
  exact va_runIN (g := F0 m pc L (.ref (z0 + k) :: r)) (As := []) ⟨hx, hb, hml, hown, hts⟩ (hS h1) ⟨va_cnB 0 hts hG rfl rfl rfl (hg.2.1 _ hnest) (hts _ hini) hd hR, hy1, hts _ hinst⟩ hp rfl rfl hL rfl (lv_room hr) d hroom
theorem run_pub (C : zCx p l R s m args meth c cc nL own z0 D cA 0) {y : MethodName} {bytes : ByteArray} {maxL fr lo k mc ms idx : Nat} {x : va_E} {es : List va_E} (hS : SemC l z0 b D cA y bytes maxL fr lo k mc ms x es) (hlink : Cond.methodLink own idx y ∈ zWS) (hini : Cond.initialized y.cls ∈ zWS) (hinst : Cond.instanceMethod y ∈ zWS) (hcode : Cond.code y bytes maxL none ∈ zWS) (hy1 : y.name = "<init>")
    (hd : y.cls ≠ "java/lang/invoke/MethodHandle" ∧ y.cls ≠ "java/lang/invoke/VarHandle" ∧ (parseMethodDescriptor y.desc).map (fun d => d.parameters.length) = some 0) (hR : fr + 1 ≤ R.frames ∧ 8 + (maxL + 11) + lo ≤ R.locals) (d : decode cc pc = .ok (.invokespecial idx, 3)) :
    ∀ (h1 : ZH) (H : Heap) (locs : List Loc) (L : Array Slot) (cells slots : Nat) (r : List Value), PreS s H (PcC z0 b D cA k x h1) [.ref (z0 + k)] → L.size = nL → (r.map fun v => v.category).sum ≤ 8 → cells + mc ≤ R.cells ∧ slots + ms ≤ R.slots → va_Run p l e R s m args below meth c H locs cells slots mc ms (F0 m pc L (.ref (z0 + k) :: r)) r (QcC z0 b D cA k mc es h1 #[.ref (z0 + k)]) (fun q => z0 ≤ q) := by
  intro h1 H locs L cells slots r hp hL hr hroom
  obtain ⟨hx, hb, hml, hown, hts, hg, -⟩ := C
  have hG : GoodIn zWS (Cond.code y bytes maxL none :: zWS) := zGood (fun w hw => by
    rcases List.mem_cons.mp hw with rfl | hw <;> assumption)
  exact va_runI (g := F0 m pc L (.ref (z0 + k) :: r)) (As := []) ⟨hx, hb, hml, hown, hts⟩ (hS h1) (cwI 0 hts hG rfl rfl rfl (hts _ hini) (hts _ hlink) (hts _ hinst) hy1 hd hR) hp rfl rfl hL rfl (lv_room hr) d hroom
theorem semC_of (hlt : l.stackTraces = false) {y : MethodName} {bytes : ByteArray} {maxL fr lo k mc ms : Nat} {x : va_E} {es : List va_E} (hy : plainName y.cls = true) (hn : 1 ≤ maxL) (hy1 : y.name = "<init>")
    (body : ∀ (p : Program) (e : Env) (s : State) (m : MethodId) (args : Array Value) (below : List Frame) (meth : Method) (c : Code) (h0 : ZH), zCx p l { frames := fr, cells := mc, slots := ms, locals := lo } s m args meth c bytes maxL y.cls z0 D cA 0 → meth.sig.returnType = none → meth.name = "<init>" →
      AW p l e { frames := fr, cells := mc, slots := ms, locals := lo } s m args below meth c maxL z0 b (iC z0 b k 1 h0 D cA s) (cC 1) (vx_MQ below (zQn z0 b (k + 1 + mc) D cA (fun v g => v = none ∧ g = zB k es h0)) (fun _ _ _ => False) args s mc ms (fun q => z0 ≤ q)) 0 (zE maxL [.ref k]) [] ([x], 0)) :
    SemC l z0 b D cA y bytes maxL fr lo k mc ms x es := by
  intro h0
  refine zMet (XC := fun _ _ _ => False) (vx_ofW hy rfl ?_) (fun _ _ _ h => h)
  intro p e s m args below meth c s₁ B hml htab hv
  obtain ⟨rfl, ⟨hz0, hg, hz, hP, hd⟩, hsz⟩ := hv
  have hts := atoms_spec (ws := Cond.code y bytes maxL none :: zWS) B.pre
  have hC : zCx p l { frames := fr, cells := mc, slots := ms, locals := lo } s m ([Value.ref (z0 + k)] : List Value).toArray meth c bytes maxL y.cls z0 D cA 0 := ⟨B.exec, B.bytes, hml, findClass_of_methodNamed B.named, fun w hw => hts w (List.mem_cons_of_mem _ hw), hg, hz, hz0, B.notSynchronized, hlt, Nat.zero_le _, Nat.zero_le _⟩
  have hW := body p e s m ([Value.ref (z0 + k)] : List Value).toArray below meth c h0 hC B.returns ((name_of_methodNamed B.named B.method).1.trans hy1) s.heap [] _ ⟨⟨hP, va_S.rf, hd⟩, by omega, Nat.le_refl _⟩ (zE_ok (a := [.ref k]) (by simp [Value.category]) hn)
  rw [lg_entry_eq]
  exact hW
end CT
