
/-! ===== the abstract walk: addresses are counted from z0 on; a heap is a function of numbers ===== -/
def zc (z0 b : Nat) (v : Value) : Value := match v with
  | .ref k => .ref (z0 + k)
  | .retAddr _ => .ref b
  | v => v
theorem zc_cat (z0 b : Nat) (v : Value) : (zc z0 b v).category = v.category := by cases v <;> rfl
def ze (z0 b : Nat) (cA : Nat → ClassId) (e : va_E) : va_E := match e with
  | .inl (t, a) => .inl (cA t, a)
  | .inr (ci, fs) => .inr (ci, fs.map (zc z0 b))
abbrev ZH : Type := Nat → va_E
def zdum : va_E := .inr (99, [])
def zup (h : ZH) (k : Nat) (e : va_E) : ZH := fun j => if j = k then e else h j
def zWd (z0 b N : Nat) (cA : Nat → ClassId) (h : ZH) : va_W := (List.range N).map (fun k => (z0 + k, ze z0 b cA (h k)))
theorem zWd_at {z0 b N : Nat} {cA : Nat → ClassId} {h : ZH} {i : Nat} {q : Nat × va_E} : (zWd z0 b N cA h)[i]? = some q ↔ i < N ∧ q = (z0 + i, ze z0 b cA (h i)) := by
  unfold zWd
  rw [List.getElem?_map]
  by_cases hi : i < N
  · rw [List.getElem?_range hi]
    exact ⟨fun e => ⟨hi, (Option.some.inj e).symm⟩, fun e => by rw [e.2]; rfl⟩
  · rw [List.getElem?_eq_none (by simpa using Nat.not_lt.mp hi)]
    exact ⟨fun e => by simp at e, fun e => absurd e.1 hi⟩
theorem zWd_get {z0 b N : Nat} {cA : Nat → ClassId} {h : ZH} {k : Nat} (hk : k < N) : (zWd z0 b N cA h)[k]? = some (z0 + k, ze z0 b cA (h k)) := zWd_at.mpr ⟨hk, rfl⟩
theorem zWd_ext {l l' : va_W} (h : ∀ (i : Nat) (q : Nat × va_E), l[i]? = some q ↔ l'[i]? = some q) : l = l' := by
  refine List.ext_getElem? fun i => ?_
  cases hx : l[i]? with
  | some q => exact ((h i q).mp hx).symm
  | none =>
    cases hy : l'[i]? with
    | none => rfl
    | some q => rw [(h i q).mpr hy] at hx; cases hx
theorem zWd_len (z0 b N : Nat) (cA : Nat → ClassId) (h : ZH) : (zWd z0 b N cA h).length = N := by simp [zWd]
theorem zWd_set {z0 b N : Nat} {cA : Nat → ClassId} {h : ZH} {k : Nat} {e : va_E} (hk : k < N) : (zWd z0 b N cA h).set k (z0 + k, ze z0 b cA e) = zWd z0 b N cA (zup h k e) := by
  refine zWd_ext fun i q => ?_
  rw [zWd_at, List.getElem?_set, zWd_len]
  by_cases hi : k = i
  · subst hi
    simp only [zup, if_true, hk]
    exact ⟨fun e => ⟨trivial, (Option.some.inj e).symm⟩, fun e => by rw [e.2]⟩
  · have hi' : ¬ i = k := fun q => hi q.symm
    rw [if_neg hi, zWd_at]
    simp only [zup, if_neg hi']
theorem zWd_push {z0 b N : Nat} {cA : Nat → ClassId} {h : ZH} {e : va_E} : zWd z0 b N cA h ++ [(z0 + N, ze z0 b cA e)] = zWd z0 b (N + 1) cA (zup h N e) := by
  refine zWd_ext fun i q => ?_
  rw [zWd_at, List.getElem?_append, zWd_len]
  by_cases hi : i < N
  · have hi' : ¬ i = N := Nat.ne_of_lt hi
    rw [if_pos hi, zWd_at]
    simp only [zup, if_neg hi']
    exact ⟨fun e => ⟨by omega, e.2⟩, fun e => ⟨hi, e.2⟩⟩
  · rw [if_neg hi]
    by_cases hi' : i = N
    · subst hi'
      rw [Nat.sub_self]
      simp only [zup, if_true]
      exact ⟨fun e => ⟨by omega, (Option.some.inj e).symm⟩, fun e => by rw [e.2]; rfl⟩
    · rw [List.getElem?_eq_none (by simp; omega)]
      exact ⟨fun e => (by cases e), fun e => by omega⟩
theorem zWd_D (z0 b N : Nat) (cA : Nat → ClassId) (h : ZH) : va_D (fun q : Nat => z0 ≤ q) (zWd z0 b N cA h) := by
  refine ⟨fun i j x y hi hj hxy => ?_, fun k q hk => ?_⟩
  · rw [(zWd_at.mp hi).2, (zWd_at.mp hj).2] at hxy
    exact Nat.add_left_cancel hxy
  · rw [(zWd_at.mp hk).2]
    exact Nat.le_add_right _ _
/-! locals: what is known of each -/
def zA (f : Value → Value) : Nat → List (Option Value) → List (Nat × Value)
  | _, [] => []
  | i, none :: r => zA f (i + 1) r
  | i, some v :: r => (i, f v) :: zA f (i + 1) r
theorem zA_mem {f : Value → Value} : ∀ (ls : List (Option Value)) (i : Nat) (q : Nat × Value), q ∈ zA f i ls ↔ ∃ j v, ls[j]? = some (some v) ∧ q = (i + j, f v)
  | [], i, q => by simp [zA]
  | none :: r, i, q => by
    rw [zA, zA_mem r (i + 1) q]
    constructor
    · rintro ⟨j, v, h1, h2⟩
      exact ⟨j + 1, v, by simpa using h1, by rw [h2]; congr 1; omega⟩
    · rintro ⟨j, v, h1, h2⟩
      cases j with
      | zero => simp at h1
      | succ j => exact ⟨j, v, by simpa using h1, by rw [h2]; congr 1; omega⟩
  | some w :: r, i, q => by
    rw [zA, List.mem_cons, zA_mem r (i + 1) q]
    constructor
    · rintro (h | ⟨j, v, h1, h2⟩)
      · exact ⟨0, w, by simp, by rw [h]; rfl⟩
      · exact ⟨j + 1, v, by simpa using h1, by rw [h2]; congr 1; omega⟩
    · rintro ⟨j, v, h1, h2⟩
      cases j with
      | zero =>
        simp at h1
        subst h1
        exact Or.inl (by rw [h2]; rfl)
      | succ j => exact Or.inr ⟨j, v, by simpa using h1, by rw [h2]; congr 1; omega⟩
def zL (z0 b : Nat) (L : Array Slot) (nL : Nat) (ls : List (Option Value)) : Prop := lv_has L nL (zA (zc z0 b) 0 ls) ∧ ls.length = nL ∧ ∀ v, some v ∈ ls → v.category = 1
theorem zL_at {z0 b nL k : Nat} {L : Array Slot} {ls : List (Option Value)} {v : Value} (h : zL z0 b L nL ls) (hk : ls[k]? = some (some v)) : L[k]? = some (.val (zc z0 b v)) :=
  h.1.2.2 (k, zc z0 b v) ((zA_mem ls 0 _).mpr ⟨k, v, hk, by rw [Nat.zero_add]⟩)
theorem zL_sub {z0 b nL : Nat} {L : Array Slot} {ls ls' : List (Option Value)} (h : zL z0 b L nL ls) (hl : ls'.length = ls.length) (hs : ∀ (k : Nat) (v : Value), ls'[k]? = some (some v) → ls[k]? = some (some v)) : zL z0 b L nL ls' := by
  refine ⟨⟨h.1.1, h.1.2.1, fun q hq => ?_⟩, hl.trans h.2.1, fun v hv => ?_⟩
  · obtain ⟨j, v, h1, h2⟩ := (zA_mem ls' 0 q).mp hq
    exact h.1.2.2 q ((zA_mem ls 0 q).mpr ⟨j, v, hs j v h1, h2⟩)
  · obtain ⟨k, hk⟩ := List.getElem?_of_mem hv
    exact h.2.2 v (List.mem_of_getElem? (hs k v hk))
theorem zL_store {z0 b nL k : Nat} {L L' : Array Slot} {ls : List (Option Value)} {v w : Value} (h : zL z0 b L nL ls) (hv : v.category = 1) (hw : w = zc z0 b v) (h' : lv_has L' nL ((k, w) :: (zA (zc z0 b) 0 ls).filter (fun q => !(q.1 == k) && !(q.1 + 1 == k && q.2.category == 2)))) : zL z0 b L' nL (ls.set k (some v)) := by
  subst hw
  refine ⟨⟨h'.1, h'.2.1, fun q hq => ?_⟩, by rw [List.length_set]; exact h.2.1, fun u hu => ?_⟩
  · obtain ⟨j, u, h1, h2⟩ := (zA_mem _ 0 q).mp hq
    rw [Nat.zero_add] at h2
    rw [List.getElem?_set] at h1
    by_cases hj : k = j
    · subst hj
      rw [if_pos rfl] at h1
      split at h1
      · cases h1
        rw [h2]
        exact h'.2.2 _ List.mem_cons_self
      · cases h1
    · rw [if_neg hj] at h1
      refine h'.2.2 q (List.mem_cons_of_mem _ (List.mem_filter.mpr ⟨(zA_mem ls 0 q).mpr ⟨j, u, h1, by rw [h2, Nat.zero_add]⟩, ?_⟩))
      have hc : u.category = 1 := h.2.2 u (List.mem_of_getElem? h1)
      rw [h2]
      have hjk : (j == k) = false := by simp; omega
      simp [hjk, zc_cat, hc]
  · rcases List.mem_or_eq_of_mem_set hu with h1 | h1
    · exact h.2.2 u h1
    · cases h1; exact hv
theorem zL_lt {z0 b nL k : Nat} {L : Array Slot} {ls : List (Option Value)} (h : zL z0 b L nL ls) (hk : k < ls.length) : k < nL := by rw [← h.2.1]; exact hk
theorem zL_forget {z0 b nL k : Nat} {L L' : Array Slot} {ls : List (Option Value)} {v : Value} (h : zL z0 b L nL ls) (h' : lv_has L' nL ((k, v) :: (zA (zc z0 b) 0 ls).filter (fun q => !(q.1 == k) && !(q.1 + 1 == k && q.2.category == 2)))) : zL z0 b L' nL (ls.set k none) := by
  refine ⟨⟨h'.1, h'.2.1, fun q hq => ?_⟩, by rw [List.length_set]; exact h.2.1, fun u hu => ?_⟩
  · obtain ⟨j, u, h1, h2⟩ := (zA_mem _ 0 q).mp hq
    rw [Nat.zero_add] at h2
    rw [List.getElem?_set] at h1
    by_cases hj : k = j
    · subst hj
      rw [if_pos rfl] at h1
      split at h1 <;> cases h1
    · rw [if_neg hj] at h1
      refine h'.2.2 q (List.mem_cons_of_mem _ (List.mem_filter.mpr ⟨(zA_mem ls 0 q).mpr ⟨j, u, h1, by rw [h2, Nat.zero_add]⟩, ?_⟩))
      have hc : u.category = 1 := h.2.2 u (List.mem_of_getElem? h1)
      rw [h2]
      have hjk : (j == k) = false := by simp; omega
      simp [hjk, zc_cat, hc]
  · rcases List.mem_or_eq_of_mem_set hu with h1 | h1
    · exact h.2.2 u h1
    · cases h1
/-! the walk -/
abbrev ZK (τ : Type) : Type := List (Option Value) → List Value → τ → Prop
def AW {τ : Type} (p : Program) (l : Launch) (e : Env) (R : Room) (s : State) (m : MethodId) (args : Array Value) (below : List Frame) (meth : Method) (c : Code) (nL z0 b : Nat) (I : τ → Heap → List Loc → Prop) (cs : τ → Nat × Nat) (Q : State → Prop) (pc : Nat) (ls : List (Option Value)) (st : List Value) (h : τ) : Prop :=
  ∀ (H : Heap) (locs : List Loc) (L : Array Slot), I h H locs → zL z0 b L nL ls → W p l e R s m args below meth c H locs (cs h).1 (cs h).2 Q (F0 m pc L (st.map (zc z0 b)))
def Snd {τ : Type} (p : Program) (l : Launch) (e : Env) (R : Room) (s : State) (m : MethodId) (args : Array Value) (below : List Frame) (meth : Method) (c : Code) (nL z0 b : Nat) (I : τ → Heap → List Loc → Prop) (cs : τ → Nat × Nat) (Q : State → Prop) (pc : Nat) (K : ZK τ) : Prop :=
  ∀ (ls : List (Option Value)) (st : List Value) (h : τ), K ls st h → AW p l e R s m args below meth c nL z0 b I cs Q pc ls st h
/-! the instructions: what each asks, and what goes on -/
section OPS
variable {τ : Type}
def o_iload (i : Nat) (K : ZK τ) : ZK τ := fun ls st h => match ls[i]? with
  | some (some (.int x)) => K ls (.int x :: st) h
  | _ => False
def o_aload (i : Nat) (K : ZK τ) : ZK τ := fun ls st h => match ls[i]? with
  | some (some (.ref x)) => K ls (.ref x :: st) h
  | _ => False
def o_ic (v : Int32) (K : ZK τ) : ZK τ := fun ls st h => K ls (.int v :: st) h
def o_lc (v : Int64) (K : ZK τ) : ZK τ := fun ls st h => K ls (.long v :: st) h
def o_istore (i : Nat) (K : ZK τ) : ZK τ := fun ls st h => match st with
  | .int x :: r => i < ls.length ∧ K (ls.set i (some (.int x))) r h
  | _ => False
def o_astore (i : Nat) (K : ZK τ) : ZK τ := fun ls st h => match st with
  | .ref x :: r => i < ls.length ∧ K (ls.set i (some (.ref x))) r h
  | _ => False
def o_iinc (i : Nat) (n : Int32) (K : ZK τ) : ZK τ := fun ls st h => match ls[i]? with
  | some (some (.int x)) => K (ls.set i (some (.int (x + n)))) st h
  | _ => False
def o_bin (f : Int32 → Int32 → Int32) (K : ZK τ) : ZK τ := fun ls st h => match st with
  | .int y :: .int x :: r => K ls (.int (f x y) :: r) h
  | _ => False
def o_idiv (K : ZK τ) : ZK τ := fun ls st h => match st with
  | .int y :: .int x :: r => ¬ y = 0 ∧ K ls (.int (x / y) :: r) h
  | _ => False
def o_ineg (K : ZK τ) : ZK τ := fun ls st h => match st with
  | .int x :: r => K ls (.int (-x) :: r) h
  | _ => False
def o_i2c (K : ZK τ) : ZK τ := fun ls st h => match st with
  | .int x :: r => K ls (.int (x.toUInt32 % 65536).toInt32 :: r) h
  | _ => False
def o_i2l (K : ZK τ) : ZK τ := fun ls st h => match st with
  | .int x :: r => K ls (.long x.toInt64 :: r) h
  | _ => False
def o_lcmp (K : ZK τ) : ZK τ := fun ls st h => match st with
  | .long y :: .long x :: r => K ls (.int (lg_cmp x y) :: r) h
  | _ => False
def o_if1 (q : Int32 → Prop) (Kt Kf : ZK τ) : ZK τ := fun ls st h => match st with
  | .int x :: r => (q x → Kt ls r h) ∧ (¬ q x → Kf ls r h)
  | _ => False
def o_if2 (q : Int32 → Int32 → Prop) (Kt Kf : ZK τ) : ZK τ := fun ls st h => match st with
  | .int y :: .int x :: r => (q x y → Kt ls r h) ∧ (¬ q x y → Kf ls r h)
  | _ => False
def o_dup (K : ZK τ) : ZK τ := fun ls st h => match st with
  | v :: r => v.category = 1 ∧ K ls (v :: v :: r) h
  | _ => False
def o_dup2 (K : ZK τ) : ZK τ := fun ls st h => match st with
  | v :: w :: r => v.category = 1 ∧ w.category = 1 ∧ K ls (v :: w :: v :: w :: r) h
  | _ => False
def o_tsw (lo : Int) (Ks : List (ZK τ)) (Kd : ZK τ) : ZK τ := fun ls st h => match st with
  | .int x :: r => (∀ (i : Nat) (K : ZK τ), Ks[i]? = some K → x.toInt = lo + i → K ls r h) ∧ (x.toInt < lo ∨ lo + Ks.length ≤ x.toInt → Kd ls r h)
  | _ => False
def o_lsw01 (K0 K1 Kd : ZK τ) : ZK τ := fun ls st h => match st with
  | .int x :: r => (x = 0 → K0 ls r h) ∧ (¬ x = 0 → x = 1 → K1 ls r h) ∧ (¬ x = 0 → ¬ x = 1 → Kd ls r h)
  | _ => False
end OPS
section SND
variable {p : Program} {l : Launch} {e : Env} {R : Room} {s : State} {m : MethodId} {args : Array Value} {below : List Frame} {meth : Method} {c : Code}
variable {τ : Type} {nL z0 b : Nat} {I : τ → Heap → List Loc → Prop} {cs : τ → Nat × Nat} {Q : State → Prop} {pc : Nat} {cc : ByteArray} {K Kt Kf : ZK τ}
theorem k_iload_n (hx : p.tables.exec = Jvm.exec) (hb : c.code = cc) {k : Fin 4} {i : Nat} (d : decode cc pc = .ok (.iload_n k, 1)) (hi : (k : Nat) = i) (hK : Snd p l e R s m args below meth c nL z0 b I cs Q (pc + 1) K) : Snd p l e R s m args below meth c nL z0 b I cs Q pc (o_iload i K) := by
  intro ls st h hk H locs L hI hL
  simp only [o_iload] at hk
  split at hk
  · next x hq => exact lv_iload_n hx hb d hi (zL_at hL hq) (hK _ _ _ hk H locs L hI hL)
  · exact hk.elim
theorem k_iload (hx : p.tables.exec = Jvm.exec) (hb : c.code = cc) {i : Nat} (d : decode cc pc = .ok (.iload i, 2)) (hK : Snd p l e R s m args below meth c nL z0 b I cs Q (pc + 2) K) : Snd p l e R s m args below meth c nL z0 b I cs Q pc (o_iload i K) := by
  intro ls st h hk H locs L hI hL
  simp only [o_iload] at hk
  split at hk
  · next x hq => exact lv_iload hx hb d (zL_at hL hq) (hK _ _ _ hk H locs L hI hL)
  · exact hk.elim
theorem k_aload_n (hx : p.tables.exec = Jvm.exec) (hb : c.code = cc) {k : Fin 4} {i : Nat} (d : decode cc pc = .ok (.aload_n k, 1)) (hi : (k : Nat) = i) (hK : Snd p l e R s m args below meth c nL z0 b I cs Q (pc + 1) K) : Snd p l e R s m args below meth c nL z0 b I cs Q pc (o_aload i K) := by
  intro ls st h hk H locs L hI hL
  simp only [o_aload] at hk
  split at hk
  · next x hq => exact lv_aload_n hx hb d hi (zL_at hL hq) (hK _ _ _ hk H locs L hI hL)
  · exact hk.elim
theorem k_aload (hx : p.tables.exec = Jvm.exec) (hb : c.code = cc) {i : Nat} (d : decode cc pc = .ok (.aload i, 2)) (hK : Snd p l e R s m args below meth c nL z0 b I cs Q (pc + 2) K) : Snd p l e R s m args below meth c nL z0 b I cs Q pc (o_aload i K) := by
  intro ls st h hk H locs L hI hL
  simp only [o_aload] at hk
  split at hk
  · next x hq => exact lv_aload hx hb d (zL_at hL hq) (hK _ _ _ hk H locs L hI hL)
  · exact hk.elim
theorem k_iconst (hx : p.tables.exec = Jvm.exec) (hb : c.code = cc) {n : Int} {v : Int32} (d : decode cc pc = .ok (.iconst n, 1)) (hv : Int32.ofInt n = v) (hK : Snd p l e R s m args below meth c nL z0 b I cs Q (pc + 1) K) : Snd p l e R s m args below meth c nL z0 b I cs Q pc (o_ic v K) :=
  fun ls st h hk H locs L hI hL => lv_iconst hx hb d hv (hK _ _ _ hk H locs L hI hL)
theorem k_bipush (hx : p.tables.exec = Jvm.exec) (hb : c.code = cc) {n : Int} {v : Int32} (d : decode cc pc = .ok (.bipush n, 2)) (hv : (Int8.ofInt n).toInt32 = v) (hK : Snd p l e R s m args below meth c nL z0 b I cs Q (pc + 2) K) : Snd p l e R s m args below meth c nL z0 b I cs Q pc (o_ic v K) :=
  fun ls st h hk H locs L hI hL => lv_bipush hx hb d hv (hK _ _ _ hk H locs L hI hL)
theorem k_sipush (hx : p.tables.exec = Jvm.exec) (hb : c.code = cc) {n : Int} {v : Int32} (d : decode cc pc = .ok (.sipush n, 3)) (hv : (Int16.ofInt n).toInt32 = v) (hK : Snd p l e R s m args below meth c nL z0 b I cs Q (pc + 3) K) : Snd p l e R s m args below meth c nL z0 b I cs Q pc (o_ic v K) :=
  fun ls st h hk H locs L hI hL => lv_sipush hx hb d hv (hK _ _ _ hk H locs L hI hL)
theorem k_ldcw (hx : p.tables.exec = Jvm.exec) (hb : c.code = cc) {own : String} {index : Nat} {v : Int32} (hown : s.vm.findClass own = some m.cls) (hq : (Jvm.Cond.constant own index v).before args s = true) (d : decode cc pc = .ok (.ldc_w index, 3)) (hK : Snd p l e R s m args below meth c nL z0 b I cs Q (pc + 3) K) : Snd p l e R s m args below meth c nL z0 b I cs Q pc (o_ic v K) :=
  fun ls st h hk H locs L hI hL => lv_ldcw hx hb hown hq d (hK _ _ _ hk H locs L hI hL)
theorem k_lconst (hx : p.tables.exec = Jvm.exec) (hb : c.code = cc) {n : Fin 2} {v : Int64} (d : decode cc pc = .ok (.lconst n, 1)) (hv : Int64.ofNat (n : Nat) = v) (hK : Snd p l e R s m args below meth c nL z0 b I cs Q (pc + 1) K) : Snd p l e R s m args below meth c nL z0 b I cs Q pc (o_lc v K) :=
  fun ls st h hk H locs L hI hL => lv_lconst hx hb d hv (hK _ _ _ hk H locs L hI hL)
theorem k_istore_n (hx : p.tables.exec = Jvm.exec) (hb : c.code = cc) {k : Fin 4} {i : Nat} (d : decode cc pc = .ok (.istore_n k, 1)) (hi : (k : Nat) = i) (hK : Snd p l e R s m args below meth c nL z0 b I cs Q (pc + 1) K) : Snd p l e R s m args below meth c nL z0 b I cs Q pc (o_istore i K) := by
  intro ls st h hk H locs L hI hL
  simp only [o_istore] at hk
  split at hk
  · exact lv_istore_n hx hb d hi hL.1 (zL_lt hL hk.1) rfl (fun L' h' => hK _ _ _ hk.2 H locs L' hI (zL_store hL rfl rfl h'))
  · exact hk.elim
theorem k_istore (hx : p.tables.exec = Jvm.exec) (hb : c.code = cc) {i : Nat} (d : decode cc pc = .ok (.istore i, 2)) (hK : Snd p l e R s m args below meth c nL z0 b I cs Q (pc + 2) K) : Snd p l e R s m args below meth c nL z0 b I cs Q pc (o_istore i K) := by
  intro ls st h hk H locs L hI hL
  simp only [o_istore] at hk
  split at hk
  · exact lv_istore hx hb d hL.1 (zL_lt hL hk.1) rfl (fun L' h' => hK _ _ _ hk.2 H locs L' hI (zL_store hL rfl rfl h'))
  · exact hk.elim
theorem k_astore_n (hx : p.tables.exec = Jvm.exec) (hb : c.code = cc) {k : Fin 4} {i : Nat} (d : decode cc pc = .ok (.astore_n k, 1)) (hi : (k : Nat) = i) (hK : Snd p l e R s m args below meth c nL z0 b I cs Q (pc + 1) K) : Snd p l e R s m args below meth c nL z0 b I cs Q pc (o_astore i K) := by
  intro ls st h hk H locs L hI hL
  simp only [o_astore] at hk
  split at hk
  · exact lv_astore_n hx hb d hi hL.1 (zL_lt hL hk.1) rfl (fun L' h' => hK _ _ _ hk.2 H locs L' hI (zL_store hL rfl rfl h'))
  · exact hk.elim
theorem k_astore (hx : p.tables.exec = Jvm.exec) (hb : c.code = cc) {i : Nat} (d : decode cc pc = .ok (.astore i, 2)) (hK : Snd p l e R s m args below meth c nL z0 b I cs Q (pc + 2) K) : Snd p l e R s m args below meth c nL z0 b I cs Q pc (o_astore i K) := by
  intro ls st h hk H locs L hI hL
  simp only [o_astore] at hk
  split at hk
  · exact lv_astore hx hb d hL.1 (zL_lt hL hk.1) rfl (fun L' h' => hK _ _ _ hk.2 H locs L' hI (zL_store hL rfl rfl h'))
  · exact hk.elim
theorem k_iinc (hx : p.tables.exec = Jvm.exec) (hb : c.code = cc) {i : Nat} {n : Int} {n' : Int32} (d : decode cc pc = .ok (.iinc i n, 3)) (hn : Int32.ofInt n = n') (hK : Snd p l e R s m args below meth c nL z0 b I cs Q (pc + 3) K) : Snd p l e R s m args below meth c nL z0 b I cs Q pc (o_iinc i n' K) := by
  intro ls st h hk H locs L hI hL
  subst hn
  simp only [o_iinc] at hk
  split at hk
  · next x hq =>
    have hm : (i, zc z0 b (.int x)) ∈ zA (zc z0 b) 0 ls := (zA_mem ls 0 _).mpr ⟨i, _, hq, by rw [Nat.zero_add]⟩
    obtain ⟨k, hk2⟩ := List.getElem?_of_mem hm
    exact lv_iinc hx hb d hL.1 hk2 rfl (zL_lt hL (List.getElem?_eq_some_iff.mp hq).1) rfl (fun L' h' => hK _ _ _ hk H locs L' hI (zL_store hL rfl rfl h'))
  · exact hk.elim
theorem k_iadd (hx : p.tables.exec = Jvm.exec) (hb : c.code = cc) (d : decode cc pc = .ok (.iadd, 1)) (hK : Snd p l e R s m args below meth c nL z0 b I cs Q (pc + 1) K) : Snd p l e R s m args below meth c nL z0 b I cs Q pc (o_bin (fun x y => x + y) K) := by
  intro ls st h hk H locs L hI hL
  simp only [o_bin] at hk
  split at hk
  · exact lv_iadd hx hb d (hK _ _ _ hk H locs L hI hL)
  · exact hk.elim
theorem k_isub (hx : p.tables.exec = Jvm.exec) (hb : c.code = cc) (d : decode cc pc = .ok (.isub, 1)) (hK : Snd p l e R s m args below meth c nL z0 b I cs Q (pc + 1) K) : Snd p l e R s m args below meth c nL z0 b I cs Q pc (o_bin (fun x y => x - y) K) := by
  intro ls st h hk H locs L hI hL
  simp only [o_bin] at hk
  split at hk
  · exact lv_isub hx hb d (hK _ _ _ hk H locs L hI hL)
  · exact hk.elim
theorem k_imul (hx : p.tables.exec = Jvm.exec) (hb : c.code = cc) (d : decode cc pc = .ok (.imul, 1)) (hK : Snd p l e R s m args below meth c nL z0 b I cs Q (pc + 1) K) : Snd p l e R s m args below meth c nL z0 b I cs Q pc (o_bin (fun x y => x * y) K) := by
  intro ls st h hk H locs L hI hL
  simp only [o_bin] at hk
  split at hk
  · exact lv_imul hx hb d (hK _ _ _ hk H locs L hI hL)
  · exact hk.elim
theorem k_iand (hx : p.tables.exec = Jvm.exec) (hb : c.code = cc) (d : decode cc pc = .ok (.iand, 1)) (hK : Snd p l e R s m args below meth c nL z0 b I cs Q (pc + 1) K) : Snd p l e R s m args below meth c nL z0 b I cs Q pc (o_bin (fun x y => x &&& y) K) := by
  intro ls st h hk H locs L hI hL
  simp only [o_bin] at hk
  split at hk
  · exact lv_iand hx hb d (hK _ _ _ hk H locs L hI hL)
  · exact hk.elim
theorem k_ior (hx : p.tables.exec = Jvm.exec) (hb : c.code = cc) (d : decode cc pc = .ok (.ior, 1)) (hK : Snd p l e R s m args below meth c nL z0 b I cs Q (pc + 1) K) : Snd p l e R s m args below meth c nL z0 b I cs Q pc (o_bin (fun x y => x ||| y) K) := by
  intro ls st h hk H locs L hI hL
  simp only [o_bin] at hk
  split at hk
  · exact lv_ior hx hb d (hK _ _ _ hk H locs L hI hL)
  · exact hk.elim
theorem k_ixor (hx : p.tables.exec = Jvm.exec) (hb : c.code = cc) (d : decode cc pc = .ok (.ixor, 1)) (hK : Snd p l e R s m args below meth c nL z0 b I cs Q (pc + 1) K) : Snd p l e R s m args below meth c nL z0 b I cs Q pc (o_bin (fun x y => x ^^^ y) K) := by
  intro ls st h hk H locs L hI hL
  simp only [o_bin] at hk
  split at hk
  · exact lv_ixor hx hb d (hK _ _ _ hk H locs L hI hL)
  · exact hk.elim
theorem k_ishl (hx : p.tables.exec = Jvm.exec) (hb : c.code = cc) (d : decode cc pc = .ok (.ishl, 1)) (hK : Snd p l e R s m args below meth c nL z0 b I cs Q (pc + 1) K) : Snd p l e R s m args below meth c nL z0 b I cs Q pc (o_bin (fun x y => x <<< (y &&& 31)) K) := by
  intro ls st h hk H locs L hI hL
  simp only [o_bin] at hk
  split at hk
  · exact lv_ishl hx hb d (hK _ _ _ hk H locs L hI hL)
  · exact hk.elim
theorem k_ishr (hx : p.tables.exec = Jvm.exec) (hb : c.code = cc) (d : decode cc pc = .ok (.ishr, 1)) (hK : Snd p l e R s m args below meth c nL z0 b I cs Q (pc + 1) K) : Snd p l e R s m args below meth c nL z0 b I cs Q pc (o_bin (fun x y => x >>> (y &&& 31)) K) := by
  intro ls st h hk H locs L hI hL
  simp only [o_bin] at hk
  split at hk
  · exact lv_ishr hx hb d (hK _ _ _ hk H locs L hI hL)
  · exact hk.elim
theorem k_iushr (hx : p.tables.exec = Jvm.exec) (hb : c.code = cc) (d : decode cc pc = .ok (.iushr, 1)) (hK : Snd p l e R s m args below meth c nL z0 b I cs Q (pc + 1) K) : Snd p l e R s m args below meth c nL z0 b I cs Q pc (o_bin (fun x y => (x.toUInt32 >>> (y.toUInt32 &&& Int32.toUInt32 31)).toInt32) K) := by
  intro ls st h hk H locs L hI hL
  simp only [o_bin] at hk
  split at hk
  · exact lv_iushr hx hb d rfl (hK _ _ _ hk H locs L hI hL)
  · exact hk.elim
theorem k_idiv (hx : p.tables.exec = Jvm.exec) (hb : c.code = cc) (d : decode cc pc = .ok (.idiv, 1)) (hK : Snd p l e R s m args below meth c nL z0 b I cs Q (pc + 1) K) : Snd p l e R s m args below meth c nL z0 b I cs Q pc (o_idiv K) := by
  intro ls st h hk H locs L hI hL
  simp only [o_idiv] at hk
  split at hk
  · exact lv_idiv hx hb d hk.1 (hK _ _ _ hk.2 H locs L hI hL)
  · exact hk.elim
theorem k_ineg (hx : p.tables.exec = Jvm.exec) (hb : c.code = cc) (d : decode cc pc = .ok (.ineg, 1)) (hK : Snd p l e R s m args below meth c nL z0 b I cs Q (pc + 1) K) : Snd p l e R s m args below meth c nL z0 b I cs Q pc (o_ineg K) := by
  intro ls st h hk H locs L hI hL
  simp only [o_ineg] at hk
  split at hk
  · exact lv_ineg hx hb d (hK _ _ _ hk H locs L hI hL)
  · exact hk.elim
theorem k_i2c (hx : p.tables.exec = Jvm.exec) (hb : c.code = cc) (d : decode cc pc = .ok (.i2c, 1)) (hK : Snd p l e R s m args below meth c nL z0 b I cs Q (pc + 1) K) : Snd p l e R s m args below meth c nL z0 b I cs Q pc (o_i2c K) := by
  intro ls st h hk H locs L hI hL
  simp only [o_i2c] at hk
  split at hk
  · exact lv_i2c hx hb d rfl (hK _ _ _ hk H locs L hI hL)
  · exact hk.elim
theorem k_i2l (hx : p.tables.exec = Jvm.exec) (hb : c.code = cc) (d : decode cc pc = .ok (.i2l, 1)) (hK : Snd p l e R s m args below meth c nL z0 b I cs Q (pc + 1) K) : Snd p l e R s m args below meth c nL z0 b I cs Q pc (o_i2l K) := by
  intro ls st h hk H locs L hI hL
  simp only [o_i2l] at hk
  split at hk
  · exact lv_i2l hx hb d rfl (hK _ _ _ hk H locs L hI hL)
  · exact hk.elim
theorem k_lcmp (hx : p.tables.exec = Jvm.exec) (hb : c.code = cc) (d : decode cc pc = .ok (.lcmp, 1)) (hK : Snd p l e R s m args below meth c nL z0 b I cs Q (pc + 1) K) : Snd p l e R s m args below meth c nL z0 b I cs Q pc (o_lcmp K) := by
  intro ls st h hk H locs L hI hL
  simp only [o_lcmp] at hk
  split at hk
  · exact W.lcmp hx hb d (hK _ _ _ hk H locs L hI hL)
  · exact hk.elim
theorem k_goto (hx : p.tables.exec = Jvm.exec) (hb : c.code = cc) {off : Int} {tgt : Nat} (d : decode cc pc = .ok (.goto off, 3)) (ht : (pc : Int) + off = (tgt : Int)) (hK : Snd p l e R s m args below meth c nL z0 b I cs Q tgt K) : Snd p l e R s m args below meth c nL z0 b I cs Q pc K :=
  fun ls st h hk H locs L hI hL => lv_goto hx hb d ht (hK _ _ _ hk H locs L hI hL)
theorem k_dup (hx : p.tables.exec = Jvm.exec) (hb : c.code = cc) (d : decode cc pc = .ok (.dup, 1)) (hK : Snd p l e R s m args below meth c nL z0 b I cs Q (pc + 1) K) : Snd p l e R s m args below meth c nL z0 b I cs Q pc (o_dup K) := by
  intro ls st h hk H locs L hI hL
  simp only [o_dup] at hk
  split at hk
  · exact lv_dup hx hb d (by rw [zc_cat]; exact hk.1) (hK _ _ _ hk.2 H locs L hI hL)
  · exact hk.elim
theorem k_dup2 (hx : p.tables.exec = Jvm.exec) (hb : c.code = cc) (d : decode cc pc = .ok (.dup2, 1)) (hK : Snd p l e R s m args below meth c nL z0 b I cs Q (pc + 1) K) : Snd p l e R s m args below meth c nL z0 b I cs Q pc (o_dup2 K) := by
  intro ls st h hk H locs L hI hL
  simp only [o_dup2] at hk
  split at hk
  · exact lv_dup2_11 hx hb d (by rw [zc_cat]; exact hk.1) (by rw [zc_cat]; exact hk.2.1) (hK _ _ _ hk.2.2 H locs L hI hL)
  · exact hk.elim
theorem k_tsw (hx : p.tables.exec = Jvm.exec) (hb : c.code = cc) {dflt lo hi : Int} {offs : Array Int} {len tgtD : Nat} {Ks : List (ZK τ)} {Kd : ZK τ} (d : decode cc pc = .ok (.tableswitch dflt lo hi offs, len)) (tgts : List Nat) (hlen : lo + Ks.length = hi + 1) (hl2 : tgts.length = Ks.length) (ho : offs.toList.map (fun o => (pc : Int) + o) = tgts.map (fun t : Nat => (t : Int))) (htd : (pc : Int) + dflt = (tgtD : Int))
    (hKd : Snd p l e R s m args below meth c nL z0 b I cs Q tgtD Kd) (hK : ∀ (i : Nat) (K : ZK τ) (t : Nat), Ks[i]? = some K → tgts[i]? = some t → Snd p l e R s m args below meth c nL z0 b I cs Q t K) : Snd p l e R s m args below meth c nL z0 b I cs Q pc (o_tsw lo Ks Kd) := by
  intro ls st h hk H locs L hI hL
  simp only [o_tsw] at hk
  split at hk
  · next x r =>
    by_cases h1 : x.toInt < lo
    · exact lv_tableOut hx hb d (Or.inl h1) htd (hKd _ _ _ (hk.2 (Or.inl h1)) H locs L hI hL)
    · by_cases h2 : hi < x.toInt
      · exact lv_tableOut hx hb d (Or.inr h2) htd (hKd _ _ _ (hk.2 (Or.inr (by omega))) H locs L hI hL)
      · obtain ⟨i, hi⟩ : ∃ i : Nat, i = (x.toInt - lo).toNat := ⟨_, rfl⟩
        have hxi : x.toInt = lo + i := by omega
        have hil : i < Ks.length := by omega
        obtain ⟨K, hKi⟩ : ∃ K, Ks[i]? = some K := ⟨Ks[i], List.getElem?_eq_getElem hil⟩
        obtain ⟨t, hti⟩ : ∃ t, tgts[i]? = some t := ⟨tgts[i]'(by omega), List.getElem?_eq_getElem (by omega)⟩
        have ho1 : (offs.toList.map (fun o => (pc : Int) + o))[i]? = some (t : Int) := by rw [ho, List.getElem?_map, hti]; rfl
        rw [List.getElem?_map, Array.getElem?_toList] at ho1
        cases hoi : offs[i]? with
        | none => rw [hoi] at ho1; cases ho1
        | some off =>
          rw [hoi] at ho1
          exact lv_tableIn hx hb d h1 h2 (off := off) (by rw [← hi]; exact hoi) (Option.some.inj ho1) (hK i K t hKi hti _ _ _ (hk.1 i K hKi hxi) H locs L hI hL)
  · exact hk.elim
theorem k_if_eq (hx : p.tables.exec = Jvm.exec) (hb : c.code = cc) {off : Int} {tgt : Nat} (d : decode cc pc = .ok (.ifCond .eq off, 3)) (ht : (pc : Int) + off = (tgt : Int)) (hKt : Snd p l e R s m args below meth c nL z0 b I cs Q tgt Kt) (hKf : Snd p l e R s m args below meth c nL z0 b I cs Q (pc + 3) Kf) : Snd p l e R s m args below meth c nL z0 b I cs Q pc (o_if1 (fun x => x = 0) Kt Kf) := by
  intro ls st h hk H locs L hI hL
  simp only [o_if1] at hk
  split at hk
  · exact lv_if_eq hx hb d ht (fun hc => hKt _ _ _ (hk.1 hc) H locs L hI hL) (fun hc => hKf _ _ _ (hk.2 hc) H locs L hI hL)
  · exact hk.elim
theorem k_if_ne (hx : p.tables.exec = Jvm.exec) (hb : c.code = cc) {off : Int} {tgt : Nat} (d : decode cc pc = .ok (.ifCond .ne off, 3)) (ht : (pc : Int) + off = (tgt : Int)) (hKt : Snd p l e R s m args below meth c nL z0 b I cs Q tgt Kt) (hKf : Snd p l e R s m args below meth c nL z0 b I cs Q (pc + 3) Kf) : Snd p l e R s m args below meth c nL z0 b I cs Q pc (o_if1 (fun x => ¬ x = 0) Kt Kf) := by
  intro ls st h hk H locs L hI hL
  simp only [o_if1] at hk
  split at hk
  · exact lv_if_ne hx hb d ht (fun hc => hKt _ _ _ (hk.1 hc) H locs L hI hL) (fun hc => hKf _ _ _ (hk.2 (fun q => q hc)) H locs L hI hL)
  · exact hk.elim
theorem k_if_lt (hx : p.tables.exec = Jvm.exec) (hb : c.code = cc) {off : Int} {tgt : Nat} (d : decode cc pc = .ok (.ifCond .lt off, 3)) (ht : (pc : Int) + off = (tgt : Int)) (hKt : Snd p l e R s m args below meth c nL z0 b I cs Q tgt Kt) (hKf : Snd p l e R s m args below meth c nL z0 b I cs Q (pc + 3) Kf) : Snd p l e R s m args below meth c nL z0 b I cs Q pc (o_if1 (fun x => x < 0) Kt Kf) := by
  intro ls st h hk H locs L hI hL
  simp only [o_if1] at hk
  split at hk
  · exact lv_if_lt hx hb d ht (fun hc => hKt _ _ _ (hk.1 hc) H locs L hI hL) (fun hc => hKf _ _ _ (hk.2 hc) H locs L hI hL)
  · exact hk.elim
theorem k_if_ge (hx : p.tables.exec = Jvm.exec) (hb : c.code = cc) {off : Int} {tgt : Nat} (d : decode cc pc = .ok (.ifCond .ge off, 3)) (ht : (pc : Int) + off = (tgt : Int)) (hKt : Snd p l e R s m args below meth c nL z0 b I cs Q tgt Kt) (hKf : Snd p l e R s m args below meth c nL z0 b I cs Q (pc + 3) Kf) : Snd p l e R s m args below meth c nL z0 b I cs Q pc (o_if1 (fun x => 0 ≤ x) Kt Kf) := by
  intro ls st h hk H locs L hI hL
  simp only [o_if1] at hk
  split at hk
  · exact lv_if_ge hx hb d ht (fun hc => hKt _ _ _ (hk.1 hc) H locs L hI hL) (fun hc => hKf _ _ _ (hk.2 hc) H locs L hI hL)
  · exact hk.elim
theorem k_if_gt (hx : p.tables.exec = Jvm.exec) (hb : c.code = cc) {off : Int} {tgt : Nat} (d : decode cc pc = .ok (.ifCond .gt off, 3)) (ht : (pc : Int) + off = (tgt : Int)) (hKt : Snd p l e R s m args below meth c nL z0 b I cs Q tgt Kt) (hKf : Snd p l e R s m args below meth c nL z0 b I cs Q (pc + 3) Kf) : Snd p l e R s m args below meth c nL z0 b I cs Q pc (o_if1 (fun x => 0 < x) Kt Kf) := by
  intro ls st h hk H locs L hI hL
  simp only [o_if1] at hk
  split at hk
  · exact lv_if_gt hx hb d ht (fun hc => hKt _ _ _ (hk.1 hc) H locs L hI hL) (fun hc => hKf _ _ _ (hk.2 hc) H locs L hI hL)
  · exact hk.elim
theorem k_if_le (hx : p.tables.exec = Jvm.exec) (hb : c.code = cc) {off : Int} {tgt : Nat} (d : decode cc pc = .ok (.ifCond .le off, 3)) (ht : (pc : Int) + off = (tgt : Int)) (hKt : Snd p l e R s m args below meth c nL z0 b I cs Q tgt Kt) (hKf : Snd p l e R s m args below meth c nL z0 b I cs Q (pc + 3) Kf) : Snd p l e R s m args below meth c nL z0 b I cs Q pc (o_if1 (fun x => x ≤ 0) Kt Kf) := by
  intro ls st h hk H locs L hI hL
  simp only [o_if1] at hk
  split at hk
  · exact lv_if_le hx hb d ht (fun hc => hKt _ _ _ (hk.1 hc) H locs L hI hL) (fun hc => hKf _ _ _ (hk.2 hc) H locs L hI hL)
  · exact hk.elim
theorem k_icmp_eq (hx : p.tables.exec = Jvm.exec) (hb : c.code = cc) {off : Int} {tgt : Nat} (d : decode cc pc = .ok (.if_icmp .eq off, 3)) (ht : (pc : Int) + off = (tgt : Int)) (hKt : Snd p l e R s m args below meth c nL z0 b I cs Q tgt Kt) (hKf : Snd p l e R s m args below meth c nL z0 b I cs Q (pc + 3) Kf) : Snd p l e R s m args below meth c nL z0 b I cs Q pc (o_if2 (fun x y => x = y) Kt Kf) := by
  intro ls st h hk H locs L hI hL
  simp only [o_if2] at hk
  split at hk
  · exact lv_icmp_eq hx hb d ht (fun hc => hKt _ _ _ (hk.1 hc) H locs L hI hL) (fun hc => hKf _ _ _ (hk.2 hc) H locs L hI hL)
  · exact hk.elim
theorem k_icmp_ne (hx : p.tables.exec = Jvm.exec) (hb : c.code = cc) {off : Int} {tgt : Nat} (d : decode cc pc = .ok (.if_icmp .ne off, 3)) (ht : (pc : Int) + off = (tgt : Int)) (hKt : Snd p l e R s m args below meth c nL z0 b I cs Q tgt Kt) (hKf : Snd p l e R s m args below meth c nL z0 b I cs Q (pc + 3) Kf) : Snd p l e R s m args below meth c nL z0 b I cs Q pc (o_if2 (fun x y => ¬ x = y) Kt Kf) := by
  intro ls st h hk H locs L hI hL
  simp only [o_if2] at hk
  split at hk
  · exact lv_icmp_ne hx hb d ht (fun hc => hKt _ _ _ (hk.1 hc) H locs L hI hL) (fun hc => hKf _ _ _ (hk.2 (fun q => q hc)) H locs L hI hL)
  · exact hk.elim
theorem k_icmp_lt (hx : p.tables.exec = Jvm.exec) (hb : c.code = cc) {off : Int} {tgt : Nat} (d : decode cc pc = .ok (.if_icmp .lt off, 3)) (ht : (pc : Int) + off = (tgt : Int)) (hKt : Snd p l e R s m args below meth c nL z0 b I cs Q tgt Kt) (hKf : Snd p l e R s m args below meth c nL z0 b I cs Q (pc + 3) Kf) : Snd p l e R s m args below meth c nL z0 b I cs Q pc (o_if2 (fun x y => x < y) Kt Kf) := by
  intro ls st h hk H locs L hI hL
  simp only [o_if2] at hk
  split at hk
  · exact lv_icmp_lt hx hb d ht (fun hc => hKt _ _ _ (hk.1 hc) H locs L hI hL) (fun hc => hKf _ _ _ (hk.2 hc) H locs L hI hL)
  · exact hk.elim
theorem k_icmp_ge (hx : p.tables.exec = Jvm.exec) (hb : c.code = cc) {off : Int} {tgt : Nat} (d : decode cc pc = .ok (.if_icmp .ge off, 3)) (ht : (pc : Int) + off = (tgt : Int)) (hKt : Snd p l e R s m args below meth c nL z0 b I cs Q tgt Kt) (hKf : Snd p l e R s m args below meth c nL z0 b I cs Q (pc + 3) Kf) : Snd p l e R s m args below meth c nL z0 b I cs Q pc (o_if2 (fun x y => y ≤ x) Kt Kf) := by
  intro ls st h hk H locs L hI hL
  simp only [o_if2] at hk
  split at hk
  · exact lv_icmp_ge hx hb d ht (fun hc => hKt _ _ _ (hk.1 hc) H locs L hI hL) (fun hc => hKf _ _ _ (hk.2 hc) H locs L hI hL)
  · exact hk.elim
theorem k_icmp_gt (hx : p.tables.exec = Jvm.exec) (hb : c.code = cc) {off : Int} {tgt : Nat} (d : decode cc pc = .ok (.if_icmp .gt off, 3)) (ht : (pc : Int) + off = (tgt : Int)) (hKt : Snd p l e R s m args below meth c nL z0 b I cs Q tgt Kt) (hKf : Snd p l e R s m args below meth c nL z0 b I cs Q (pc + 3) Kf) : Snd p l e R s m args below meth c nL z0 b I cs Q pc (o_if2 (fun x y => y < x) Kt Kf) := by
  intro ls st h hk H locs L hI hL
  simp only [o_if2] at hk
  split at hk
  · exact lv_icmp_gt hx hb d ht (fun hc => hKt _ _ _ (hk.1 hc) H locs L hI hL) (fun hc => hKf _ _ _ (hk.2 hc) H locs L hI hL)
  · exact hk.elim
theorem k_icmp_le (hx : p.tables.exec = Jvm.exec) (hb : c.code = cc) {off : Int} {tgt : Nat} (d : decode cc pc = .ok (.if_icmp .le off, 3)) (ht : (pc : Int) + off = (tgt : Int)) (hKt : Snd p l e R s m args below meth c nL z0 b I cs Q tgt Kt) (hKf : Snd p l e R s m args below meth c nL z0 b I cs Q (pc + 3) Kf) : Snd p l e R s m args below meth c nL z0 b I cs Q pc (o_if2 (fun x y => x ≤ y) Kt Kf) := by
  intro ls st h hk H locs L hI hL
  simp only [o_if2] at hk
  split at hk
  · exact lv_icmp_le hx hb d ht (fun hc => hKt _ _ _ (hk.1 hc) H locs L hI hL) (fun hc => hKf _ _ _ (hk.2 hc) H locs L hI hL)
  · exact hk.elim
theorem k_lsw01 (hx : p.tables.exec = Jvm.exec) (hb : c.code = cc) {dflt o0 o1 : Int} {len t0 t1 td : Nat} {K0 K1 Kd : ZK τ} (d : decode cc pc = .ok (.lookupswitch dflt #[(0, o0), (1, o1)], len)) (h0 : (pc : Int) + o0 = (t0 : Int)) (h1 : (pc : Int) + o1 = (t1 : Int)) (hd : (pc : Int) + dflt = (td : Int)) (hK0 : Snd p l e R s m args below meth c nL z0 b I cs Q t0 K0) (hK1 : Snd p l e R s m args below meth c nL z0 b I cs Q t1 K1) (hKd : Snd p l e R s m args below meth c nL z0 b I cs Q td Kd) : Snd p l e R s m args below meth c nL z0 b I cs Q pc (o_lsw01 K0 K1 Kd) := by
  intro ls st h hk H locs L hI hL
  simp only [o_lsw01] at hk
  split at hk
  · next x r =>
    by_cases e0 : x = 0
    · subst e0
      exact lv_lookup hx hb d rfl (off := o0) (by rw [show (#[((0 : Int), o0), (1, o1)] : Array (Int × Int)).toList = [(0, o0), (1, o1)] from rfl, Op.lookupswitch.offset_cons, if_pos (by decide)]) h0 (hK0 _ _ _ (hk.1 rfl) H locs L hI hL)
    · by_cases e1 : x = 1
      · subst e1
        exact lv_lookup hx hb d rfl (off := o1) (by rw [show (#[((0 : Int), o0), (1, o1)] : Array (Int × Int)).toList = [(0, o0), (1, o1)] from rfl, Op.lookupswitch.offset_cons, if_neg (by decide), Op.lookupswitch.offset_cons, if_pos (by decide)]) h1 (hK1 _ _ _ (hk.2.1 e0 rfl) H locs L hI hL)
      · exact lv_lookup hx hb d rfl (off := dflt) (by rw [show (#[((0 : Int), o0), (1, o1)] : Array (Int × Int)).toList = [(0, o0), (1, o1)] from rfl, lv_osw e0 (by decide), lv_osw e1 (by decide)]; rfl) hd (hKd _ _ _ (hk.2.2 e0 e1) H locs L hI hL)
  · exact hk.elim
end SND
