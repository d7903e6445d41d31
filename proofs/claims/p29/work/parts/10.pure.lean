/-! ===== laws for walking blocks ===== -/
def zb (x : Bool) : Int32 := if x then 1 else 0
theorem znar_b (x : Bool) : narrow .boolean (.int (zb x)) = .int (zb x) := by cases x <;> rfl
theorem zb_0 (x : Bool) : (zb x = 0) = (x = false) := by cases x <;> simp [zb]
theorem zok_nil : zok 0 [] = true := rfl
theorem zok_ref {n x : Nat} {a : List Value} : zok (n + 1) (.ref x :: a) = zok n a := by simp [zok, Value.category]
theorem zok_int {n : Nat} {x : Int32} {a : List Value} : zok (n + 1) (.int x :: a) = zok n a := by simp [zok, Value.category]
theorem zcall_no {M n : Nat} {ct : List Value → ZH → (Option Value → ZH → Prop) → Prop} {Kx : Nat → Prop} {h0 : ZH} {K : ZK ZH} {ls : List (Option Value)} {a r : List Value} {h : ZH} : zcall M n zno ct Kx h0 K ls a r h = (zok n a = true ∧ r.length ≤ 4 ∧ ct a h (fun v h' => K ls (v.toList ++ r) h')) := by
  simp [zcall, zno]
theorem o_tsw3 {τ : Type} {K0 K1 K2 Kd : ZK τ} {ls : List (Option Value)} {x : Int32} {r : List Value} {h : τ} (h0 : x = 0 → K0 ls r h) (h1 : x = 1 → K1 ls r h) (h2 : x = 2 → K2 ls r h) (hd : ¬ x = 0 → ¬ x = 1 → ¬ x = 2 → Kd ls r h) : o_tsw 0 [K0, K1, K2] Kd ls (.int x :: r) h := by
  refine ⟨fun i K hi hx => ?_, fun hx => hd (fun e => ?_) (fun e => ?_) (fun e => ?_)⟩
  · match i, hi with
    | 0, hi => cases hi; exact h0 (Int32.toInt_inj.mp (by rw [hx]; rfl))
    | 1, hi => cases hi; exact h1 (Int32.toInt_inj.mp (by rw [hx]; rfl))
    | 2, hi => cases hi; exact h2 (Int32.toInt_inj.mp (by rw [hx]; rfl))
    | n + 3, hi => exact absurd hi (by simp)
  all_goals subst e
  all_goals rcases hx with hx | hx
  all_goals exact absurd hx (by first | decide | (simp only [List.length_cons, List.length_nil]; decide))
/-! ===== pure pictures of the loops of the rules ===== -/
def sh1 (k : Nat) : Int32 := (1 : Int32) <<< (nI k &&& 31)
theorem sh1_def (k : Nat) : (1 : Int32) <<< (nI k &&& 31) = sh1 k := rfl
theorem b_one (i : Nat) : bt 1 i = decide (i = 0) := by
  rcases Nat.lt_or_ge i 32 with h | h
  · exact (by decide +kernel : ∀ i, i < 32 → bt 1 i = decide (i = 0)) i h
  · rw [b_big h, decide_eq_false (by omega)]
theorem bt_sh1 {k i : Nat} (hk : k < 32) (hi : i < 32) : bt (sh1 k) i = decide (i = k) := by
  unfold sh1
  rw [b_shl k hk 1 hi, b_one]
  by_cases h : i = k
  · subst h; simp
  · by_cases h2 : k ≤ i
    · simp [h, h2]; omega
    · simp [h, h2]
theorem bt_not {x : Int32} {i : Nat} (hi : i < 32) : bt (x ^^^ (-1)) i = !(bt x i) := by
  rw [b_xor, b_m1 i hi]; simp
theorem hasb {x : Int32} {j : Nat} (hj : j < 32) : ((x >>> (nI j &&& 31)) &&& 1 = 1) ↔ bt x j = true := by
  constructor
  · intro h
    have h0 : bt ((x >>> (nI j &&& 31)) &&& 1) 0 = true := by rw [h, b_one]; rfl
    rw [b_and, b_sshr j hj x (by decide), if_pos (by omega)] at h0
    rw [Bool.and_eq_true] at h0
    simpa using h0.1
  · intro h
    apply b_ext
    intro i hi
    rw [b_and, b_one]
    by_cases h0 : i = 0
    · subst h0
      rw [b_sshr j hj x (by decide), if_pos (by omega)]
      simp [h]
    · simp [h0]
def fE (al : Nat → Int32) (n : Nat) : Nat → Nat → Nat
  | 0, t => t
  | k + 1, t => if al t < 0 ∨ nI n ≤ al t then t else fE al n k (al t).toNatClampNeg
def fEnds (al : Nat → Int32) (n : Nat) (set : Int32) : Nat → Int32
  | 0 => 0
  | i + 1 => if bt set i then fEnds al n set i ||| sh1 (fE al n n i) else fEnds al n set i
def fNx (al im : Nat → Int32) (n : Nat) (nx : Nat → Int32) : Nat → Nat → Int32
  | 0 => fun j => if j < n then 0 else nx j
  | i + 1 => if im i = 0 then fNx al im n nx i else upd (fNx al im n nx i) (fE al n n i) (fNx al im n nx i (fE al n n i) ||| fEnds al n (im i) n)
def fRo (mid : Nat) (re : Nat → Int32) : Nat → Nat → Int32
  | 0 => re
  | i + 1 => if bt (fRo mid re i i) mid then upd (fRo mid re i) i (fRo mid re i i ||| fRo mid re i mid) else fRo mid re i
def fRe (n : Nat) (nx re : Nat → Int32) : Nat → Nat → Int32
  | 0 => fun j => if j < n then nx j ||| sh1 j else re j
  | i + 1 => if nx i = 0 then fRe n nx re i else fRo i (fRe n nx re i) n
def fWork (ρ : zRS) (n : Nat) : zRS := (ρ.1, ρ.2.1, fNx ρ.1 ρ.2.1 n ρ.2.2.1 n, fRe n (fNx ρ.1 ρ.2.1 n ρ.2.2.1 n) ρ.2.2.2.1 n, ρ.2.2.2.2)
def fRf (al re : Nat → Int32) (n : Nat) (set : Int32) : Nat → Int32
  | 0 => 0
  | i + 1 => if bt set i then fRf al re n set i ||| re (fE al n n i) else fRf al re n set i
def fSpI (nx : Nat → Int32) (all : Int32) : Nat → Int32
  | 0 => all
  | i + 1 => if bt all i then fSpI nx all i ||| nx i else fSpI nx all i
def fSp (nx : Nat → Int32) (n : Nat) : Nat → Int32 → Int32
  | 0, all => all
  | k + 1, all => if fSpI nx all n = all then all else fSp nx n k (fSpI nx all n)
def fLt (nx : Nat → Int32) (set : Int32) : Nat → Int32
  | 0 => 0
  | i + 1 => if nx i &&& set = 0 then fLt nx set i else fLt nx set i ||| sh1 i
/-- the first of the n - k numbers from k on with q -/
def fFind (q : Nat → Bool) (n : Nat) : Nat → Nat → Option Nat
  | 0, _ => none
  | f + 1, k => if k < n then (if q k then some k else fFind q n f (k + 1)) else none
def fNear (al nx : Nat → Int32) (n : Nat) (set : Int32) : Nat → Nat → Int32 → Int32
  | 0, _, _ => -1
  | f + 1, st, near => match fFind (fun i => bt set i && bt near (fE al n n i)) n n 0 with
    | some i => 100 * nI st + nI i
    | none => fNear al nx n set f (st + 1) (near ||| fLt nx near n)
def fAlias (ρ : zRS) (n t o : Nat) : Bool := decide (ρ.1 t = -1) && (decide (fE ρ.1 n n o ≠ t) && (!bt (ρ.2.2.2.1 t) (fE ρ.1 n n o) && !bt (ρ.2.2.2.1 (fE ρ.1 n n o)) t))
def fAllow (ρ : zRS) (n : Nat) (k : Int32) (t o : Nat) : Bool :=
  if k = 0 then fAlias ρ n t o
  else if k = 1 then !bt (ρ.2.1 t) o && !bt (ρ.2.2.2.1 (fE ρ.1 n n o)) (fE ρ.1 n n t)
  else if k = 2 then decide (ρ.1 t = nI o)
  else bt (ρ.2.1 t) o
def fCarry (ρ : zRS) (k : Int32) (t o : Nat) : zRS :=
  if k = 0 then (upd ρ.1 t (nI o), ρ.2)
  else if k = 1 then (ρ.1, upd ρ.2.1 t (ρ.2.1 t ||| sh1 o), ρ.2.2)
  else if k = 2 then (upd ρ.1 t (-1), ρ.2)
  else (ρ.1, upd ρ.2.1 t (ρ.2.1 t &&& (sh1 o ^^^ (-1))), ρ.2.2)
def zR (ρ : zRS) (n : Nat) : Prop := ρ.2.2.2.2 = nI n ∧ n ≤ 24
theorem fE_lt {al : Nat → Int32} {n : Nat} (hn : n < 2 ^ 31) : ∀ (k t : Nat), t < n → fE al n k t < n
  | 0, t, h => h
  | k + 1, t, h => by
    unfold fE
    split
    · exact h
    · next hc =>
      have h1 : ¬ al t < 0 := fun q => hc (Or.inl q)
      have h2 : ¬ nI n ≤ al t := fun q => hc (Or.inr q)
      obtain ⟨j, hj, e⟩ := nI_of h1
      rw [e] at h2 ⊢
      rw [nI_clamp hj]
      refine fE_lt hn k j ?_
      rcases Nat.lt_or_ge j n with h9 | h9
      · exact h9
      · exact absurd (nI_le h9 hj) h2
