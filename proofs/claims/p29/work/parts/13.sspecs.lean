/-! ===== what the small methods do: names, requests, hands, rows ===== -/
def isCh (x : Int32) : Prop := narrow .char (.int x) = .int x
theorem isCh_nar {x : Int32} (h : isCh x) : vp_nar .char x = x := by
  unfold vp_nar
  rw [h]
def fPl (c : Int32) : Int32 := if 65 ≤ c ∧ c ≤ 90 then ((c - 65 + 97).toUInt32 % 65536).toInt32 else if c = 45 then 95 else c
def fAll (q : Nat → Bool) : Nat → Nat → Bool
  | 0, _ => true
  | f + 1, k => q k && fAll q f (k + 1)
def fIsD (le ln dr : Nat → Int32) (d t : Nat) : Bool := decide (ln t = nI d) && fAll (fun i => decide (fPl (le (t * 8 + i)) = fPl (dr i))) d 0
def fOpt (x : Option Nat) : Int32 := match x with
  | some j => nI j
  | none => -1
def fB1 (x : Int32) : Int32 := x - ((x.toUInt32 >>> ((1 : Int32).toUInt32 &&& Int32.toUInt32 31)).toInt32 &&& 1431655765)
def fB2 (x : Int32) : Int32 := (x &&& 858993459) + ((x.toUInt32 >>> ((2 : Int32).toUInt32 &&& Int32.toUInt32 31)).toInt32 &&& 858993459)
def fB3 (x : Int32) : Int32 := (x + (x.toUInt32 >>> ((4 : Int32).toUInt32 &&& Int32.toUInt32 31)).toInt32) &&& 252645135
def fB4 (x : Int32) : Int32 := x + (x.toUInt32 >>> ((8 : Int32).toUInt32 &&& Int32.toUInt32 31)).toInt32
def fB5 (x : Int32) : Int32 := x + (x.toUInt32 >>> ((16 : Int32).toUInt32 &&& Int32.toUInt32 31)).toInt32
def fBc (x : Int32) : Int32 := fB5 (fB4 (fB3 (fB2 (fB1 x)))) &&& 63
def fMin (x y : Int32) : Int32 := if y < x then y else x
def fAbs (x : Int32) : Int32 := if 0 ≤ x then x else 0 - x
def fChg (se ed : Nat → Int32) : Nat → Int32
  | 0 => 0
  | i + 1 => if ed i = se i then fChg se ed i else fChg se ed i ||| sh1 i
def fCol (sh : Nat → Int32) (i : Nat) : Nat → Int32
  | 0 => 0
  | k + 1 => if bt (sh k) i then fCol sh i k ||| sh1 k else fCol sh i k
def fShI (all : Int32) (i : Nat) (sh : Nat → Int32) : Nat → Nat → Int32
  | 0 => sh
  | k + 1 => if bt all k then upd (fShI all i sh k) k (fShI all i sh k k ||| sh1 i) else fShI all i sh k
def fSh (al re : Nat → Int32) (n : Nat) (se sh : Nat → Int32) : Nat → Nat → Int32
  | 0 => fun j => if j < n then 0 else sh j
  | i + 1 => fShI (fRf al re n (se i) n) i (fSh al re n se sh i) n
def fKeep (η : zHS) (m s k : Nat) (ch : Int32) : zHS :=
  ((fun j => if j < m then η.2.1 j else η.1 j), η.2.1, upd η.2.2.1 s ch, (fun j => if s * 20 ≤ j ∧ j < s * 20 + m then η.1 (j - s * 20) else η.2.2.2.1 j), η.2.2.2.2.1, nI (min (k + 1) 20), nI (if s + 1 < 20 then s + 1 else 0))
def fPrev (s : Nat) : Nat := if 0 < s then s - 1 else 19
def fBack (η : zHS) (m s k : Nat) : zHS :=
  ((fun j => if j < m ∧ bt (η.2.2.1 (fPrev s)) j = true then η.2.2.2.1 (fPrev s * 20 + j) else η.1 j), η.2.1, η.2.2.1, η.2.2.2.1, η.2.2.2.2.1, nI (k - 1), nI (fPrev s))
def zH (η : zHS) (m k s : Nat) : Prop := η.2.2.2.2.1 = nI m ∧ m ≤ 20 ∧ η.2.2.2.2.2.1 = nI k ∧ k ≤ 20 ∧ η.2.2.2.2.2.2 = nI s ∧ s < 20
def tJ6_bitCount_0f7a4 : List Value → ZH → (Option Value → ZH → Prop) → Prop := fun a h Kn => ∃ x : Int32, a = [.int x] ∧ Kn (some (.int (fBc x))) h
def tX1_plain : List Value → ZH → (Option Value → ZH → Prop) → Prop := fun a h Kn => ∃ x : Int32, a = [.int x] ∧ isCh x ∧ Kn (some (.int (fPl x))) h
def tX1_append : List Value → ZH → (Option Value → ZH → Prop) → Prop := fun a h Kn => ∃ (ν : zNS) (f : ZH) (x : Int32) (d : Nat), a = [.ref 1, .int x] ∧ h = pN ν f ∧ isCh x ∧ ν.2.2.2.2 = nI d ∧ d < 8 ∧ Kn none (pN (ν.1, ν.2.1, upd ν.2.2.1 d x, ν.2.2.2.1, nI (d + 1)) f)
def tX1_emptyDraft : List Value → ZH → (Option Value → ZH → Prop) → Prop := fun a h Kn => ∃ (ν : zNS) (f : ZH), a = [.ref 1] ∧ h = pN ν f ∧ Kn none (pN (ν.1, ν.2.1, ν.2.2.1, ν.2.2.2.1, 0) f)
def tX1_letterAt : List Value → ZH → (Option Value → ZH → Prop) → Prop := fun a h Kn => ∃ (ν : zNS) (f : ZH) (t i : Nat), a = [.ref 1, .int (nI t), .int (nI i)] ∧ h = pN ν f ∧ t < 24 ∧ i < 8 ∧ isCh (ν.1 (t * 8 + i)) ∧ Kn (some (.int (ν.1 (t * 8 + i)))) h
def zCh (ν : zNS) : Prop := (∀ j, isCh (ν.1 j)) ∧ ∀ j, isCh (ν.2.2.1 j)
def tX1_isDraft : List Value → ZH → (Option Value → ZH → Prop) → Prop := fun a h Kn => ∃ (ν : zNS) (f : ZH) (t d : Nat), a = [.ref 1, .int (nI t)] ∧ h = pN ν f ∧ t < 24 ∧ zCh ν ∧ ν.2.2.2.2 = nI d ∧ d ≤ 8 ∧ Kn (some (.int (zb (fIsD ν.1 ν.2.1 ν.2.2.1 d t)))) h
def tX1_findDraft : List Value → ZH → (Option Value → ZH → Prop) → Prop := fun a h Kn => ∃ (ν : zNS) (f : ZH) (n d : Nat), a = [.ref 1] ∧ h = pN ν f ∧ ν.2.2.2.1 = nI n ∧ n ≤ 24 ∧ zCh ν ∧ ν.2.2.2.2 = nI d ∧ d ≤ 8 ∧ Kn (some (.int (fOpt (fFind (fIsD ν.1 ν.2.1 ν.2.2.1 d) n n 0)))) h
def tX1_addDraft : List Value → ZH → (Option Value → ZH → Prop) → Prop := fun a h Kn => ∃ (ν : zNS) (f : ZH) (n d : Nat), a = [.ref 1] ∧ h = pN ν f ∧ ν.2.2.2.1 = nI n ∧ n < 24 ∧ zCh ν ∧ ν.2.2.2.2 = nI d ∧ d ≤ 8 ∧ Kn (some (.int (nI n))) (pN ((fun j => if n * 8 ≤ j ∧ j < n * 8 + d then ν.2.2.1 (j - n * 8) else ν.1 j), upd ν.2.1 n (nI d), ν.2.2.1, nI (n + 1), ν.2.2.2.2) f)
def tX2_add : List Value → ZH → (Option Value → ZH → Prop) → Prop := fun a h Kn => ∃ (κ : zQS) (f : ZH) (q : Nat) (x y z : Int32), a = [.ref 15, .int x, .int y, .int z] ∧ h = pQ κ f ∧ κ.2.2.2.2.2.2 = nI q ∧ q < 40 ∧ Kn (some (.int (nI q))) (pQ (upd κ.1 q x, upd κ.2.1 q y, upd κ.2.2.1 q z, upd κ.2.2.2.1 q 0, κ.2.2.2.2.1, κ.2.2.2.2.2.1, nI (q + 1)) f)
def tX2_setVote : List Value → ZH → (Option Value → ZH → Prop) → Prop := fun a h Kn => ∃ (κ : zQS) (f : ZH) (q v : Nat) (x : Bool), a = [.ref 15, .int (nI q), .int (nI v), .int (zb x)] ∧ h = pQ κ f ∧ q < 40 ∧ v < 10 ∧
  Kn none (pQ (κ.1, κ.2.1, κ.2.2.1, κ.2.2.2.1, upd κ.2.2.2.2.1 q (if x then κ.2.2.2.2.1 q ||| sh1 v else κ.2.2.2.2.1 q &&& (sh1 v ^^^ (-1))), upd κ.2.2.2.2.2.1 q (if x then κ.2.2.2.2.2.1 q &&& (sh1 v ^^^ (-1)) else κ.2.2.2.2.2.1 q ||| sh1 v), κ.2.2.2.2.2.2) f)
def tX2_leadOf : List Value → ZH → (Option Value → ZH → Prop) → Prop := fun a h Kn => ∃ (κ : zQS) (f : ZH) (q : Nat), a = [.ref 15, .int (nI q)] ∧ h = pQ κ f ∧ q < 40 ∧ Kn (some (.int (fBc (κ.2.2.2.2.1 q) - fBc (κ.2.2.2.2.2.1 q)))) h
/-- a request that names tags that there are -/
def zQok (κ : zQS) (n q : Nat) (k : Int32) (t o : Nat) : Prop := q < 40 ∧ κ.1 q = k ∧ κ.2.1 q = nI t ∧ κ.2.2.1 q = nI o ∧ t < n ∧ o < n
def tX2_isAllowedBy : List Value → ZH → (Option Value → ZH → Prop) → Prop := fun a h Kn => ∃ (κ : zQS) (f f2 : ZH) (bs : Nat) (ρ : zRS) (n q t o : Nat) (k : Int32), a = [.ref 15, .ref bs, .int (nI q)] ∧ h = pQ κ f ∧ h = pR bs ρ f2 ∧ zR ρ n ∧ zQok κ n q k t o ∧ Kn (some (.int (zb (fAllow ρ n k t o)))) h
def tX2_carryOut : List Value → ZH → (Option Value → ZH → Prop) → Prop := fun a h Kn => ∃ (κ : zQS) (f f2 : ZH) (bs : Nat) (ρ : zRS) (n q t o : Nat) (k : Int32), a = [.ref 15, .ref bs, .int (nI q)] ∧ h = pQ κ f ∧ h = pR bs ρ f2 ∧ zR ρ n ∧ zQok κ n q k t o ∧ Kn none (pR bs (fWork (fCarry ρ k t o) n) f2)
def tX0_startEdit : List Value → ZH → (Option Value → ZH → Prop) → Prop := fun a h Kn => ∃ (η : zHS) (f : ZH) (m : Nat), a = [.ref 22] ∧ h = pH η f ∧ η.2.2.2.2.1 = nI m ∧ m ≤ 20 ∧ Kn none (pH (η.1, (fun j => if j < m then η.1 j else η.2.1 j), η.2.2) f)
def tX0_keep : List Value → ZH → (Option Value → ZH → Prop) → Prop := fun a h Kn => ∃ (η : zHS) (f : ZH) (m k s : Nat) (x : Int32), a = [.ref 22, .int x] ∧ h = pH η f ∧ zH η m k s ∧ Kn none (pH (fKeep η m s k x) f)
def tX0_finishEdit : List Value → ZH → (Option Value → ZH → Prop) → Prop := fun a h Kn => ∃ (η : zHS) (f : ZH) (m k s : Nat), a = [.ref 22] ∧ h = pH η f ∧ zH η m k s ∧ Kn (some (.int (fBc (fChg η.1 η.2.1 m)))) (pH (if fChg η.1 η.2.1 m = 0 then η else fKeep η m s k (fChg η.1 η.2.1 m)) f)
def tX0_restoreLatest : List Value → ZH → (Option Value → ZH → Prop) → Prop := fun a h Kn => ∃ (η : zHS) (f : ZH) (m k s : Nat), a = [.ref 22] ∧ h = pH η f ∧ zH η m k s ∧ 0 < k ∧ Kn (some (.int (fBc (η.2.2.1 (fPrev s))))) (pH (fBack η m s k) f)
def tX3_column : List Value → ZH → (Option Value → ZH → Prop) → Prop := fun a h Kn => ∃ (ω : zVS) (f : ZH) (i n : Nat), a = [.ref 27, .int (nI i), .int (nI n)] ∧ h = pV ω f ∧ i < 32 ∧ n ≤ 24 ∧ Kn (some (.int (fCol ω i n))) h
def tX3_refresh : List Value → ZH → (Option Value → ZH → Prop) → Prop := fun a h Kn => ∃ (σ : zTS) (f : ZH) (n m : Nat), a = [.ref 27, .ref 5, .ref 22] ∧ h = pT σ f ∧ zR σ.2.1 n ∧ σ.2.2.2.2.1.2.2.2.2.1 = nI m ∧ m ≤ 20 ∧
  Kn none (pT (σ.1, σ.2.1, σ.2.2.1, σ.2.2.2.1, σ.2.2.2.2.1, fSh σ.2.1.1 σ.2.1.2.2.2.1 n σ.2.2.2.2.1.1 σ.2.2.2.2.2 m) f)
theorem wb_of32z (x : Int32) : ∃ X : Nat, X < 2 ^ 32 ∧ x = nI X := ⟨x.toBitVec.toNat, x.toBitVec.isLt, by
  apply Int32.toBitVec_inj.mp
  show x.toBitVec = BitVec.ofNat 32 x.toBitVec.toNat
  rw [BitVec.ofNat_toNat]; simp⟩
theorem fBc_count (x : Int32) : fBc x = nI (fb_ct (bt x) 32) := by
  obtain ⟨X, hX, rfl⟩ : ∃ X : Nat, X < 2 ^ 32 ∧ x = nI X := wb_of32z x
  obtain ⟨a, b, c, d, ha, hb, hc, hd, rfl⟩ := fBc_nat hX
  have r1 := q12_le ⟨a, ha⟩
  have r2 := q12_le ⟨b, hb⟩
  have r3 := q12_le ⟨c, hc⟩
  have r4 := q12_le ⟨d, hd⟩
  have p1 := q123_le ⟨a, ha⟩
  have p2 := q123_le ⟨b, hb⟩
  have p3 := q123_le ⟨c, hc⟩
  have p4 := q123_le ⟨d, hd⟩
  dsimp only at r1 r2 r3 r4 p1 p2 p3 p4
  have e1 : fB1 (nI (lan a b c d)) = nI (lan (q1 a) (q1 b) (q1 c) (q1 d)) := by
    unfold fB1
    rw [pk_ushrN hX 1 1 (by decide), show (1431655765 : Int32) = nI 1431655765 from rfl, nx_and, show (2 ^ 1 : Nat) = 2 from rfl, pk_sub (g1_lan ha hb hc hd).2, ← (g1_lan ha hb hc hd).1]
    rfl
  have l1 := q1_lt a ha
  have l2 := q1_lt b hb
  have l3 := q1_lt c hc
  have l4 := q1_lt d hd
  have e2 : fB2 (nI (lan (q1 a) (q1 b) (q1 c) (q1 d))) = nI (lan (q2 (q1 a)) (q2 (q1 b)) (q2 (q1 c)) (q2 (q1 d))) := by
    unfold fB2
    rw [pk_ushrN (by unfold lan; omega) 2 2 (by decide), show (858993459 : Int32) = nI 858993459 from rfl, nx_and, nx_and, nI_add, ← g2_lan l1 l2 l3 l4]
    rfl
  have e3 : fB3 (nI (lan (q2 (q1 a)) (q2 (q1 b)) (q2 (q1 c)) (q2 (q1 d)))) = nI (lan (q3 (q2 (q1 a))) (q3 (q2 (q1 b))) (q3 (q2 (q1 c))) (q3 (q2 (q1 d)))) := by
    unfold fB3
    rw [pk_ushrN (by unfold lan; omega) 4 4 (by decide), show (252645135 : Int32) = nI 252645135 from rfl, nI_add, nx_and, ← g3_lan r1 r2 r3 r4]
    rfl
  have e4 : fBc (nI (lan a b c d)) = nI (q3 (q2 (q1 a)) + q3 (q2 (q1 b)) + q3 (q2 (q1 c)) + q3 (q2 (q1 d))) := by
    unfold fBc
    rw [e1, e2, e3]
    unfold fB4 fB5
    rw [pk_ushrN (by unfold lan; omega) 8 8 (by decide), nI_add, pk_ushrN (by unfold lan; omega) 16 16 (by decide), nI_add, show (63 : Int32) = nI 63 from rfl, nx_and]
    exact congrArg nI (g45_lan p1 p2 p3 p4 _ _ rfl rfl)
  rw [e4]
  apply congrArg
  have q1' := q123 ⟨a, ha⟩
  have q2' := q123 ⟨b, hb⟩
  have q3' := q123 ⟨c, hc⟩
  have q4' := q123 ⟨d, hd⟩
  dsimp only at q1' q2' q3' q4'
  have hbit : ∀ i, i < 32 → bt (nI (lan a b c d)) i = (lan a b c d).testBit i := by
    intro i hi
    show (BitVec.ofNat 32 (lan a b c d)).getLsbD i = _
    rw [BitVec.getLsbD_ofNat]
    simp [hi]
  rw [q1', q2', q3', q4', fb_ct_cong hbit, show (32 : Nat) = 8 + (8 + (8 + 8)) from rfl, fb_ct_split, fb_ct_split, fb_ct_split]
  have t0 : ∀ k, k < 8 → (lan a b c d).testBit k = a.testBit k := by
    intro k hk
    unfold lan
    rw [show a + 256 * (b + 256 * (c + 256 * d)) = 2 ^ 8 * (b + 256 * (c + 256 * d)) + a by omega, Nat.testBit_two_pow_mul_add _ (by omega), if_pos hk]
  have t1 : ∀ k, k < 8 → (lan a b c d).testBit (8 + k) = b.testBit k := by
    intro k hk
    unfold lan
    rw [show a + 256 * (b + 256 * (c + 256 * d)) = 2 ^ 8 * (2 ^ 8 * (c + 256 * d) + b) + a by omega, Nat.testBit_two_pow_mul_add _ (by omega), if_neg (by omega), Nat.add_sub_cancel_left, Nat.testBit_two_pow_mul_add _ (by omega), if_pos hk]
  have t2 : ∀ k, k < 8 → (lan a b c d).testBit (8 + (8 + k)) = c.testBit k := by
    intro k hk
    unfold lan
    rw [show a + 256 * (b + 256 * (c + 256 * d)) = 2 ^ 8 * (2 ^ 8 * (2 ^ 8 * d + c) + b) + a by omega, Nat.testBit_two_pow_mul_add _ (by omega), if_neg (by omega), Nat.add_sub_cancel_left, Nat.testBit_two_pow_mul_add _ (by omega), if_neg (by omega), Nat.add_sub_cancel_left, Nat.testBit_two_pow_mul_add _ (by omega), if_pos hk]
  have t3 : ∀ k, k < 8 → (lan a b c d).testBit (8 + (8 + (8 + k))) = d.testBit k := by
    intro k hk
    unfold lan
    rw [show a + 256 * (b + 256 * (c + 256 * d)) = 2 ^ 8 * (2 ^ 8 * (2 ^ 8 * d + c) + b) + a by omega, Nat.testBit_two_pow_mul_add _ (by omega), if_neg (by omega), Nat.add_sub_cancel_left, Nat.testBit_two_pow_mul_add _ (by omega), if_neg (by omega), Nat.add_sub_cancel_left, Nat.testBit_two_pow_mul_add _ (by omega), if_neg (by omega), Nat.add_sub_cancel_left]
  rw [fb_ct_cong t0, fb_ct_cong t1, fb_ct_cong t2, fb_ct_cong t3]
  simp only [Nat.add_assoc]
theorem fBc_pos {x : Int32} : (0 < fBc x) ↔ ¬ x = 0 := by
  have hle := fb_ct_le (bt x) 32
  rw [fBc_count, show (0 : Int32) = nI 0 from rfl, nI_ltI (by omega) (by omega), fb_ct_pos]
  constructor
  · rintro ⟨k, hk, h⟩ h0
    rw [h0] at h
    rw [show nI 0 = (0 : Int32) from rfl, b_0] at h
    cases h
  · intro h
    by_cases q : ∃ k, k < 32 ∧ bt x k = true
    · exact q
    · exact absurd (b_ext (x := x) (y := nI 0) (fun i hi => by
        rw [show nI 0 = (0 : Int32) from rfl, b_0]
        cases hb : bt x i
        · rfl
        · exact absurd ⟨i, hi, hb⟩ q)) h
