
/-! ===== a block of cells of a heap ===== -/
def zB (bs : Nat) (cells : List va_E) (f : ZH) : ZH := fun k => if bs ≤ k ∧ k < bs + cells.length then cells.getD (k - bs) zdum else f k
theorem zB_in {bs i : Nat} {cells : List va_E} {f : ZH} (h : i < cells.length) : zB bs cells f (bs + i) = cells.getD i zdum := by
  unfold zB
  rw [if_pos ⟨Nat.le_add_right _ _, by omega⟩, Nat.add_sub_cancel_left]
theorem zB_out {bs k : Nat} {cells : List va_E} {f : ZH} (h : k < bs ∨ bs + cells.length ≤ k) : zB bs cells f k = f k := by
  unfold zB
  rw [if_neg (by omega)]
theorem zB_set {bs i : Nat} {cells : List va_E} {f : ZH} {x : va_E} (h : i < cells.length) : zup (zB bs cells f) (bs + i) x = zB bs (cells.set i x) f := by
  funext k
  unfold zup
  by_cases hk : k = bs + i
  · subst hk
    rw [if_pos rfl, zB_in (by rw [List.length_set]; exact h)]
    rw [List.getD_eq_getElem?_getD, List.getElem?_set_self h]; rfl
  · rw [if_neg hk]
    unfold zB
    rw [List.length_set]
    split
    · next h1 =>
      rw [List.getD_eq_getElem?_getD, List.getD_eq_getElem?_getD, List.getElem?_set_ne (by omega)]
    · rfl
theorem zB_zB {bs : Nat} {c c' : List va_E} {f : ZH} (h : c'.length = c.length) : zB bs c' (zB bs c f) = zB bs c' f := by
  funext k
  unfold zB
  rw [h]
  split <;> rfl
theorem zB_swap {b1 b2 : Nat} {c1 c2 : List va_E} {f : ZH} (h : b1 + c1.length ≤ b2 ∨ b2 + c2.length ≤ b1) : zB b1 c1 (zB b2 c2 f) = zB b2 c2 (zB b1 c1 f) := by
  funext k
  unfold zB
  by_cases h1 : b1 ≤ k ∧ k < b1 + c1.length
  · rw [if_pos h1, if_neg (by omega), if_pos h1]
  · by_cases h2 : b2 ≤ k ∧ k < b2 + c2.length
    · rw [if_neg h1, if_pos h2, if_pos h2]
    · rw [if_neg h1, if_neg h2, if_neg h2, if_neg h1]
/-- a part of a block set anew -/
theorem zB_part {bs b2 : Nat} {A c c' B : List va_E} {f : ZH} (hb : b2 = bs + A.length) (h : c'.length = c.length) : zB b2 c' (zB bs (A ++ c ++ B) f) = zB bs (A ++ c' ++ B) f := by
  subst hb
  funext k
  unfold zB
  simp only [List.length_append]
  by_cases h1 : bs + A.length ≤ k ∧ k < bs + A.length + c'.length
  · rw [if_pos h1, if_pos (by omega)]
    rw [List.getD_eq_getElem?_getD, List.getD_eq_getElem?_getD, List.append_assoc, List.getElem?_append_right (by omega), List.getElem?_append_left (by omega)]
    congr 2
    omega
  · rw [if_neg h1]
    by_cases h2 : bs ≤ k ∧ k < bs + (A.length + c.length + B.length)
    · rw [if_pos h2, if_pos (by omega)]
      rw [List.getD_eq_getElem?_getD, List.getD_eq_getElem?_getD]
      by_cases h3 : k < bs + A.length
      · rw [List.append_assoc, List.append_assoc, List.getElem?_append_left (by omega), List.getElem?_append_left (by omega)]
      · rw [List.getElem?_append_right (by rw [List.length_append]; omega), List.getElem?_append_right (by rw [List.length_append]; omega)]
        simp only [List.length_append, h]
    · rw [if_neg h2, if_neg (by omega)]
theorem zB_self {bs b2 : Nat} {A c B : List va_E} {f : ZH} (hb : b2 = bs + A.length) : zB b2 c (zB bs (A ++ c ++ B) f) = zB bs (A ++ c ++ B) f := zB_part hb rfl
abbrev zNS : Type := (Nat → Int32) × (Nat → Int32) × (Nat → Int32) × Int32 × Int32
def cN (x : zNS) : List va_E := [.inr (1, [.ref 2, .ref 3, .ref 4, .int x.2.2.2.1, .int x.2.2.2.2]), .inl (1, 192, .inl x.1), .inl (0, 24, .inl x.2.1), .inl (1, 8, .inl x.2.2.1)]
def pN (x : zNS) (f : ZH) : ZH := zB 1 (cN x) f
theorem pN_pN {x y : zNS} {f : ZH} : pN x (pN y f) = pN x f := zB_zB rfl
theorem pN_0 {x : zNS} {f : ZH} : pN x f 1 = .inr (1, [.ref 2, .ref 3, .ref 4, .int x.2.2.2.1, .int x.2.2.2.2]) := zB_in (i := 0) (by show 0 < 4; decide)
theorem pN_1 {x : zNS} {f : ZH} : pN x f 2 = .inl (1, 192, .inl x.1) := zB_in (i := 1) (by show 1 < 4; decide)
theorem pN_2 {x : zNS} {f : ZH} : pN x f 3 = .inl (0, 24, .inl x.2.1) := zB_in (i := 2) (by show 2 < 4; decide)
theorem pN_3 {x : zNS} {f : ZH} : pN x f 4 = .inl (1, 8, .inl x.2.2.1) := zB_in (i := 3) (by show 3 < 4; decide)
theorem pN_s0 {x : zNS} {f : ZH} {v : Nat → Int32} : zup (pN x f) 2 (.inl (1, 192, .inl v)) = pN (v, x.2.1, x.2.2.1, x.2.2.2.1, x.2.2.2.2) f := zB_set (i := 1) (by show 1 < 4; decide)
theorem pN_s1 {x : zNS} {f : ZH} {v : Nat → Int32} : zup (pN x f) 3 (.inl (0, 24, .inl v)) = pN (x.1, v, x.2.2.1, x.2.2.2.1, x.2.2.2.2) f := zB_set (i := 2) (by show 2 < 4; decide)
theorem pN_s2 {x : zNS} {f : ZH} {v : Nat → Int32} : zup (pN x f) 4 (.inl (1, 8, .inl v)) = pN (x.1, x.2.1, v, x.2.2.2.1, x.2.2.2.2) f := zB_set (i := 3) (by show 3 < 4; decide)
theorem pN_s3 {x : zNS} {f : ZH} {v : Int32} {u4 : Int32} (e4 : u4 = x.2.2.2.2) : zup (pN x f) 1 (.inr (1, [.ref 2, .ref 3, .ref 4, .int v, .int u4])) = pN (x.1, x.2.1, x.2.2.1, v, x.2.2.2.2) f := by subst e4; exact zB_set (i := 0) (by show 0 < 4; decide)
theorem pN_s4 {x : zNS} {f : ZH} {v : Int32} {u3 : Int32} (e3 : u3 = x.2.2.2.1) : zup (pN x f) 1 (.inr (1, [.ref 2, .ref 3, .ref 4, .int u3, .int v])) = pN (x.1, x.2.1, x.2.2.1, x.2.2.2.1, v) f := by subst e3; exact zB_set (i := 0) (by show 0 < 4; decide)
abbrev zRS : Type := (Nat → Int32) × (Nat → Int32) × (Nat → Int32) × (Nat → Int32) × Int32
def cR (bs : Nat) (x : zRS) : List va_E := [.inr (4, [.ref (bs + 1), .ref (bs + 2), .ref (bs + 3), .ref (bs + 4), .int x.2.2.2.2]), .inl (0, 24, .inl x.1), .inl (0, 24, .inl x.2.1), .inl (0, 24, .inl x.2.2.1), .inl (0, 24, .inl x.2.2.2.1)]
def pR (bs : Nat) (x : zRS) (f : ZH) : ZH := zB bs (cR bs x) f
theorem pR_pR {bs : Nat} {x y : zRS} {f : ZH} : pR bs x (pR bs y f) = pR bs x f := zB_zB rfl
theorem pR_0 {bs : Nat} {x : zRS} {f : ZH} : pR bs x f bs = .inr (4, [.ref (bs + 1), .ref (bs + 2), .ref (bs + 3), .ref (bs + 4), .int x.2.2.2.2]) := zB_in (i := 0) (by show 0 < 5; decide)
theorem pR_1 {bs : Nat} {x : zRS} {f : ZH} : pR bs x f (bs + 1) = .inl (0, 24, .inl x.1) := zB_in (i := 1) (by show 1 < 5; decide)
theorem pR_2 {bs : Nat} {x : zRS} {f : ZH} : pR bs x f (bs + 2) = .inl (0, 24, .inl x.2.1) := zB_in (i := 2) (by show 2 < 5; decide)
theorem pR_3 {bs : Nat} {x : zRS} {f : ZH} : pR bs x f (bs + 3) = .inl (0, 24, .inl x.2.2.1) := zB_in (i := 3) (by show 3 < 5; decide)
theorem pR_4 {bs : Nat} {x : zRS} {f : ZH} : pR bs x f (bs + 4) = .inl (0, 24, .inl x.2.2.2.1) := zB_in (i := 4) (by show 4 < 5; decide)
theorem pR_s0 {bs : Nat} {x : zRS} {f : ZH} {v : Nat → Int32} : zup (pR bs x f) (bs + 1) (.inl (0, 24, .inl v)) = pR bs (v, x.2.1, x.2.2.1, x.2.2.2.1, x.2.2.2.2) f := zB_set (i := 1) (by show 1 < 5; decide)
theorem pR_s1 {bs : Nat} {x : zRS} {f : ZH} {v : Nat → Int32} : zup (pR bs x f) (bs + 2) (.inl (0, 24, .inl v)) = pR bs (x.1, v, x.2.2.1, x.2.2.2.1, x.2.2.2.2) f := zB_set (i := 2) (by show 2 < 5; decide)
theorem pR_s2 {bs : Nat} {x : zRS} {f : ZH} {v : Nat → Int32} : zup (pR bs x f) (bs + 3) (.inl (0, 24, .inl v)) = pR bs (x.1, x.2.1, v, x.2.2.2.1, x.2.2.2.2) f := zB_set (i := 3) (by show 3 < 5; decide)
theorem pR_s3 {bs : Nat} {x : zRS} {f : ZH} {v : Nat → Int32} : zup (pR bs x f) (bs + 4) (.inl (0, 24, .inl v)) = pR bs (x.1, x.2.1, x.2.2.1, v, x.2.2.2.2) f := zB_set (i := 4) (by show 4 < 5; decide)
theorem pR_s4 {bs : Nat} {x : zRS} {f : ZH} {v : Int32} : zup (pR bs x f) bs (.inr (4, [.ref (bs + 1), .ref (bs + 2), .ref (bs + 3), .ref (bs + 4), .int v])) = pR bs (x.1, x.2.1, x.2.2.1, x.2.2.2.1, v) f := by exact zB_set (i := 0) (by show 0 < 5; decide)
abbrev zQS : Type := (Nat → Int32) × (Nat → Int32) × (Nat → Int32) × (Nat → Int32) × (Nat → Int32) × (Nat → Int32) × Int32
def cQ (x : zQS) : List va_E := [.inr (2, [.ref 16, .ref 17, .ref 18, .ref 19, .ref 20, .ref 21, .int x.2.2.2.2.2.2]), .inl (0, 40, .inl x.1), .inl (0, 40, .inl x.2.1), .inl (0, 40, .inl x.2.2.1), .inl (0, 40, .inl x.2.2.2.1), .inl (0, 40, .inl x.2.2.2.2.1), .inl (0, 40, .inl x.2.2.2.2.2.1)]
def pQ (x : zQS) (f : ZH) : ZH := zB 15 (cQ x) f
theorem pQ_pQ {x y : zQS} {f : ZH} : pQ x (pQ y f) = pQ x f := zB_zB rfl
theorem pQ_0 {x : zQS} {f : ZH} : pQ x f 15 = .inr (2, [.ref 16, .ref 17, .ref 18, .ref 19, .ref 20, .ref 21, .int x.2.2.2.2.2.2]) := zB_in (i := 0) (by show 0 < 7; decide)
theorem pQ_1 {x : zQS} {f : ZH} : pQ x f 16 = .inl (0, 40, .inl x.1) := zB_in (i := 1) (by show 1 < 7; decide)
theorem pQ_2 {x : zQS} {f : ZH} : pQ x f 17 = .inl (0, 40, .inl x.2.1) := zB_in (i := 2) (by show 2 < 7; decide)
theorem pQ_3 {x : zQS} {f : ZH} : pQ x f 18 = .inl (0, 40, .inl x.2.2.1) := zB_in (i := 3) (by show 3 < 7; decide)
theorem pQ_4 {x : zQS} {f : ZH} : pQ x f 19 = .inl (0, 40, .inl x.2.2.2.1) := zB_in (i := 4) (by show 4 < 7; decide)
theorem pQ_5 {x : zQS} {f : ZH} : pQ x f 20 = .inl (0, 40, .inl x.2.2.2.2.1) := zB_in (i := 5) (by show 5 < 7; decide)
theorem pQ_6 {x : zQS} {f : ZH} : pQ x f 21 = .inl (0, 40, .inl x.2.2.2.2.2.1) := zB_in (i := 6) (by show 6 < 7; decide)
theorem pQ_s0 {x : zQS} {f : ZH} {v : Nat → Int32} : zup (pQ x f) 16 (.inl (0, 40, .inl v)) = pQ (v, x.2.1, x.2.2.1, x.2.2.2.1, x.2.2.2.2.1, x.2.2.2.2.2.1, x.2.2.2.2.2.2) f := zB_set (i := 1) (by show 1 < 7; decide)
theorem pQ_s1 {x : zQS} {f : ZH} {v : Nat → Int32} : zup (pQ x f) 17 (.inl (0, 40, .inl v)) = pQ (x.1, v, x.2.2.1, x.2.2.2.1, x.2.2.2.2.1, x.2.2.2.2.2.1, x.2.2.2.2.2.2) f := zB_set (i := 2) (by show 2 < 7; decide)
theorem pQ_s2 {x : zQS} {f : ZH} {v : Nat → Int32} : zup (pQ x f) 18 (.inl (0, 40, .inl v)) = pQ (x.1, x.2.1, v, x.2.2.2.1, x.2.2.2.2.1, x.2.2.2.2.2.1, x.2.2.2.2.2.2) f := zB_set (i := 3) (by show 3 < 7; decide)
theorem pQ_s3 {x : zQS} {f : ZH} {v : Nat → Int32} : zup (pQ x f) 19 (.inl (0, 40, .inl v)) = pQ (x.1, x.2.1, x.2.2.1, v, x.2.2.2.2.1, x.2.2.2.2.2.1, x.2.2.2.2.2.2) f := zB_set (i := 4) (by show 4 < 7; decide)
theorem pQ_s4 {x : zQS} {f : ZH} {v : Nat → Int32} : zup (pQ x f) 20 (.inl (0, 40, .inl v)) = pQ (x.1, x.2.1, x.2.2.1, x.2.2.2.1, v, x.2.2.2.2.2.1, x.2.2.2.2.2.2) f := zB_set (i := 5) (by show 5 < 7; decide)
theorem pQ_s5 {x : zQS} {f : ZH} {v : Nat → Int32} : zup (pQ x f) 21 (.inl (0, 40, .inl v)) = pQ (x.1, x.2.1, x.2.2.1, x.2.2.2.1, x.2.2.2.2.1, v, x.2.2.2.2.2.2) f := zB_set (i := 6) (by show 6 < 7; decide)
theorem pQ_s6 {x : zQS} {f : ZH} {v : Int32} : zup (pQ x f) 15 (.inr (2, [.ref 16, .ref 17, .ref 18, .ref 19, .ref 20, .ref 21, .int v])) = pQ (x.1, x.2.1, x.2.2.1, x.2.2.2.1, x.2.2.2.2.1, x.2.2.2.2.2.1, v) f := by exact zB_set (i := 0) (by show 0 < 7; decide)
abbrev zHS : Type := (Nat → Int32) × (Nat → Int32) × (Nat → Int32) × (Nat → Int32) × Int32 × Int32 × Int32
def cH (x : zHS) : List va_E := [.inr (0, [.ref 23, .ref 24, .ref 25, .ref 26, .int x.2.2.2.2.1, .int x.2.2.2.2.2.1, .int x.2.2.2.2.2.2]), .inl (0, 20, .inl x.1), .inl (0, 20, .inl x.2.1), .inl (0, 20, .inl x.2.2.1), .inl (0, 400, .inl x.2.2.2.1)]
def pH (x : zHS) (f : ZH) : ZH := zB 22 (cH x) f
theorem pH_pH {x y : zHS} {f : ZH} : pH x (pH y f) = pH x f := zB_zB rfl
theorem pH_0 {x : zHS} {f : ZH} : pH x f 22 = .inr (0, [.ref 23, .ref 24, .ref 25, .ref 26, .int x.2.2.2.2.1, .int x.2.2.2.2.2.1, .int x.2.2.2.2.2.2]) := zB_in (i := 0) (by show 0 < 5; decide)
theorem pH_1 {x : zHS} {f : ZH} : pH x f 23 = .inl (0, 20, .inl x.1) := zB_in (i := 1) (by show 1 < 5; decide)
theorem pH_2 {x : zHS} {f : ZH} : pH x f 24 = .inl (0, 20, .inl x.2.1) := zB_in (i := 2) (by show 2 < 5; decide)
theorem pH_3 {x : zHS} {f : ZH} : pH x f 25 = .inl (0, 20, .inl x.2.2.1) := zB_in (i := 3) (by show 3 < 5; decide)
theorem pH_4 {x : zHS} {f : ZH} : pH x f 26 = .inl (0, 400, .inl x.2.2.2.1) := zB_in (i := 4) (by show 4 < 5; decide)
theorem pH_s0 {x : zHS} {f : ZH} {v : Nat → Int32} : zup (pH x f) 23 (.inl (0, 20, .inl v)) = pH (v, x.2.1, x.2.2.1, x.2.2.2.1, x.2.2.2.2.1, x.2.2.2.2.2.1, x.2.2.2.2.2.2) f := zB_set (i := 1) (by show 1 < 5; decide)
theorem pH_s1 {x : zHS} {f : ZH} {v : Nat → Int32} : zup (pH x f) 24 (.inl (0, 20, .inl v)) = pH (x.1, v, x.2.2.1, x.2.2.2.1, x.2.2.2.2.1, x.2.2.2.2.2.1, x.2.2.2.2.2.2) f := zB_set (i := 2) (by show 2 < 5; decide)
theorem pH_s2 {x : zHS} {f : ZH} {v : Nat → Int32} : zup (pH x f) 25 (.inl (0, 20, .inl v)) = pH (x.1, x.2.1, v, x.2.2.2.1, x.2.2.2.2.1, x.2.2.2.2.2.1, x.2.2.2.2.2.2) f := zB_set (i := 3) (by show 3 < 5; decide)
theorem pH_s3 {x : zHS} {f : ZH} {v : Nat → Int32} : zup (pH x f) 26 (.inl (0, 400, .inl v)) = pH (x.1, x.2.1, x.2.2.1, v, x.2.2.2.2.1, x.2.2.2.2.2.1, x.2.2.2.2.2.2) f := zB_set (i := 4) (by show 4 < 5; decide)
theorem pH_s4 {x : zHS} {f : ZH} {v : Int32} {u5 : Int32} (e5 : u5 = x.2.2.2.2.2.1) {u6 : Int32} (e6 : u6 = x.2.2.2.2.2.2) : zup (pH x f) 22 (.inr (0, [.ref 23, .ref 24, .ref 25, .ref 26, .int v, .int u5, .int u6])) = pH (x.1, x.2.1, x.2.2.1, x.2.2.2.1, v, x.2.2.2.2.2.1, x.2.2.2.2.2.2) f := by subst e5; subst e6; exact zB_set (i := 0) (by show 0 < 5; decide)
theorem pH_s5 {x : zHS} {f : ZH} {v : Int32} {u4 : Int32} (e4 : u4 = x.2.2.2.2.1) {u6 : Int32} (e6 : u6 = x.2.2.2.2.2.2) : zup (pH x f) 22 (.inr (0, [.ref 23, .ref 24, .ref 25, .ref 26, .int u4, .int v, .int u6])) = pH (x.1, x.2.1, x.2.2.1, x.2.2.2.1, x.2.2.2.2.1, v, x.2.2.2.2.2.2) f := by subst e4; subst e6; exact zB_set (i := 0) (by show 0 < 5; decide)
theorem pH_s6 {x : zHS} {f : ZH} {v : Int32} {u4 : Int32} (e4 : u4 = x.2.2.2.2.1) {u5 : Int32} (e5 : u5 = x.2.2.2.2.2.1) : zup (pH x f) 22 (.inr (0, [.ref 23, .ref 24, .ref 25, .ref 26, .int u4, .int u5, .int v])) = pH (x.1, x.2.1, x.2.2.1, x.2.2.2.1, x.2.2.2.2.1, x.2.2.2.2.2.1, v) f := by subst e4; subst e5; exact zB_set (i := 0) (by show 0 < 5; decide)
abbrev zVS : Type := (Nat → Int32)
def cV (x : zVS) : List va_E := [.inr (3, [.ref 28]), .inl (0, 24, .inl x)]
def pV (x : zVS) (f : ZH) : ZH := zB 27 (cV x) f
theorem pV_pV {x y : zVS} {f : ZH} : pV x (pV y f) = pV x f := zB_zB rfl
theorem pV_0 {x : zVS} {f : ZH} : pV x f 27 = .inr (3, [.ref 28]) := zB_in (i := 0) (by show 0 < 2; decide)
theorem pV_1 {x : zVS} {f : ZH} : pV x f 28 = .inl (0, 24, .inl x) := zB_in (i := 1) (by show 1 < 2; decide)
theorem pV_s0 {x : zVS} {f : ZH} {v : Nat → Int32} : zup (pV x f) 28 (.inl (0, 24, .inl v)) = pV v f := zB_set (i := 1) (by show 1 < 2; decide)
abbrev zMS : Type := Int32 × (Nat → Int32) × Int32 × Int32 × (Nat → Int32) × (Nat → Int32) × (Nat → Int32) × (Nat → Int32) × Int32 × (Nat → Int32) × Int32 × (Nat → Int32) × (Nat → Int32) × (Nat → Int32) × (Nat → Int32) × (Nat → Int32) × (Nat → Int32) × Int32 × (Nat → Int32) × (Nat → Int32)
def cM (x : zMS) : List va_E := [.inr (6, [.int x.1, .ref 30, .int x.2.2.1, .int x.2.2.2.1, .ref 31, .ref 32, .ref 33, .ref 34, .int x.2.2.2.2.2.2.2.2.1, .ref 35, .int x.2.2.2.2.2.2.2.2.2.2.1, .ref 36, .ref 37, .ref 38, .ref 39, .ref 40, .ref 41, .int x.2.2.2.2.2.2.2.2.2.2.2.2.2.2.2.2.2.1, .ref 42, .ref 43]), .inl (1, 8, .inl x.2.1), .inl (1, 192, .inl x.2.2.2.2.1), .inl (0, 24, .inl x.2.2.2.2.2.1), .inl (0, 24, .inl x.2.2.2.2.2.2.1), .inl (0, 24, .inl x.2.2.2.2.2.2.2.1), .inl (0, 20, .inl x.2.2.2.2.2.2.2.2.2.1), .inl (0, 40, .inl x.2.2.2.2.2.2.2.2.2.2.2.1), .inl (0, 40, .inl x.2.2.2.2.2.2.2.2.2.2.2.2.1), .inl (0, 40, .inl x.2.2.2.2.2.2.2.2.2.2.2.2.2.1), .inl (0, 40, .inl x.2.2.2.2.2.2.2.2.2.2.2.2.2.2.1), .inl (0, 40, .inl x.2.2.2.2.2.2.2.2.2.2.2.2.2.2.2.1), .inl (0, 40, .inl x.2.2.2.2.2.2.2.2.2.2.2.2.2.2.2.2.1), .inl (0, 20, .inl x.2.2.2.2.2.2.2.2.2.2.2.2.2.2.2.2.2.2.1), .inl (0, 400, .inl x.2.2.2.2.2.2.2.2.2.2.2.2.2.2.2.2.2.2.2)]
def pM (x : zMS) (f : ZH) : ZH := zB 29 (cM x) f
theorem pM_pM {x y : zMS} {f : ZH} : pM x (pM y f) = pM x f := zB_zB rfl
theorem pM_0 {x : zMS} {f : ZH} : pM x f 29 = .inr (6, [.int x.1, .ref 30, .int x.2.2.1, .int x.2.2.2.1, .ref 31, .ref 32, .ref 33, .ref 34, .int x.2.2.2.2.2.2.2.2.1, .ref 35, .int x.2.2.2.2.2.2.2.2.2.2.1, .ref 36, .ref 37, .ref 38, .ref 39, .ref 40, .ref 41, .int x.2.2.2.2.2.2.2.2.2.2.2.2.2.2.2.2.2.1, .ref 42, .ref 43]) := zB_in (i := 0) (by show 0 < 15; decide)
theorem pM_1 {x : zMS} {f : ZH} : pM x f 30 = .inl (1, 8, .inl x.2.1) := zB_in (i := 1) (by show 1 < 15; decide)
theorem pM_2 {x : zMS} {f : ZH} : pM x f 31 = .inl (1, 192, .inl x.2.2.2.2.1) := zB_in (i := 2) (by show 2 < 15; decide)
theorem pM_3 {x : zMS} {f : ZH} : pM x f 32 = .inl (0, 24, .inl x.2.2.2.2.2.1) := zB_in (i := 3) (by show 3 < 15; decide)
theorem pM_4 {x : zMS} {f : ZH} : pM x f 33 = .inl (0, 24, .inl x.2.2.2.2.2.2.1) := zB_in (i := 4) (by show 4 < 15; decide)
theorem pM_5 {x : zMS} {f : ZH} : pM x f 34 = .inl (0, 24, .inl x.2.2.2.2.2.2.2.1) := zB_in (i := 5) (by show 5 < 15; decide)
theorem pM_6 {x : zMS} {f : ZH} : pM x f 35 = .inl (0, 20, .inl x.2.2.2.2.2.2.2.2.2.1) := zB_in (i := 6) (by show 6 < 15; decide)
theorem pM_7 {x : zMS} {f : ZH} : pM x f 36 = .inl (0, 40, .inl x.2.2.2.2.2.2.2.2.2.2.2.1) := zB_in (i := 7) (by show 7 < 15; decide)
theorem pM_8 {x : zMS} {f : ZH} : pM x f 37 = .inl (0, 40, .inl x.2.2.2.2.2.2.2.2.2.2.2.2.1) := zB_in (i := 8) (by show 8 < 15; decide)
theorem pM_9 {x : zMS} {f : ZH} : pM x f 38 = .inl (0, 40, .inl x.2.2.2.2.2.2.2.2.2.2.2.2.2.1) := zB_in (i := 9) (by show 9 < 15; decide)
theorem pM_10 {x : zMS} {f : ZH} : pM x f 39 = .inl (0, 40, .inl x.2.2.2.2.2.2.2.2.2.2.2.2.2.2.1) := zB_in (i := 10) (by show 10 < 15; decide)
theorem pM_11 {x : zMS} {f : ZH} : pM x f 40 = .inl (0, 40, .inl x.2.2.2.2.2.2.2.2.2.2.2.2.2.2.2.1) := zB_in (i := 11) (by show 11 < 15; decide)
theorem pM_12 {x : zMS} {f : ZH} : pM x f 41 = .inl (0, 40, .inl x.2.2.2.2.2.2.2.2.2.2.2.2.2.2.2.2.1) := zB_in (i := 12) (by show 12 < 15; decide)
theorem pM_13 {x : zMS} {f : ZH} : pM x f 42 = .inl (0, 20, .inl x.2.2.2.2.2.2.2.2.2.2.2.2.2.2.2.2.2.2.1) := zB_in (i := 13) (by show 13 < 15; decide)
theorem pM_14 {x : zMS} {f : ZH} : pM x f 43 = .inl (0, 400, .inl x.2.2.2.2.2.2.2.2.2.2.2.2.2.2.2.2.2.2.2) := zB_in (i := 14) (by show 14 < 15; decide)
theorem pM_s0 {x : zMS} {f : ZH} {v : Int32} {u2 : Int32} (e2 : u2 = x.2.2.1) {u3 : Int32} (e3 : u3 = x.2.2.2.1) {u8 : Int32} (e8 : u8 = x.2.2.2.2.2.2.2.2.1) {u10 : Int32} (e10 : u10 = x.2.2.2.2.2.2.2.2.2.2.1) {u17 : Int32} (e17 : u17 = x.2.2.2.2.2.2.2.2.2.2.2.2.2.2.2.2.2.1) : zup (pM x f) 29 (.inr (6, [.int v, .ref 30, .int u2, .int u3, .ref 31, .ref 32, .ref 33, .ref 34, .int u8, .ref 35, .int u10, .ref 36, .ref 37, .ref 38, .ref 39, .ref 40, .ref 41, .int u17, .ref 42, .ref 43])) = pM (v, x.2.1, x.2.2.1, x.2.2.2.1, x.2.2.2.2.1, x.2.2.2.2.2.1, x.2.2.2.2.2.2.1, x.2.2.2.2.2.2.2.1, x.2.2.2.2.2.2.2.2.1, x.2.2.2.2.2.2.2.2.2.1, x.2.2.2.2.2.2.2.2.2.2.1, x.2.2.2.2.2.2.2.2.2.2.2.1, x.2.2.2.2.2.2.2.2.2.2.2.2.1, x.2.2.2.2.2.2.2.2.2.2.2.2.2.1, x.2.2.2.2.2.2.2.2.2.2.2.2.2.2.1, x.2.2.2.2.2.2.2.2.2.2.2.2.2.2.2.1, x.2.2.2.2.2.2.2.2.2.2.2.2.2.2.2.2.1, x.2.2.2.2.2.2.2.2.2.2.2.2.2.2.2.2.2.1, x.2.2.2.2.2.2.2.2.2.2.2.2.2.2.2.2.2.2.1, x.2.2.2.2.2.2.2.2.2.2.2.2.2.2.2.2.2.2.2) f := by subst e2; subst e3; subst e8; subst e10; subst e17; exact zB_set (i := 0) (by show 0 < 15; decide)
theorem pM_s1 {x : zMS} {f : ZH} {v : Nat → Int32} : zup (pM x f) 30 (.inl (1, 8, .inl v)) = pM (x.1, v, x.2.2.1, x.2.2.2.1, x.2.2.2.2.1, x.2.2.2.2.2.1, x.2.2.2.2.2.2.1, x.2.2.2.2.2.2.2.1, x.2.2.2.2.2.2.2.2.1, x.2.2.2.2.2.2.2.2.2.1, x.2.2.2.2.2.2.2.2.2.2.1, x.2.2.2.2.2.2.2.2.2.2.2.1, x.2.2.2.2.2.2.2.2.2.2.2.2.1, x.2.2.2.2.2.2.2.2.2.2.2.2.2.1, x.2.2.2.2.2.2.2.2.2.2.2.2.2.2.1, x.2.2.2.2.2.2.2.2.2.2.2.2.2.2.2.1, x.2.2.2.2.2.2.2.2.2.2.2.2.2.2.2.2.1, x.2.2.2.2.2.2.2.2.2.2.2.2.2.2.2.2.2.1, x.2.2.2.2.2.2.2.2.2.2.2.2.2.2.2.2.2.2.1, x.2.2.2.2.2.2.2.2.2.2.2.2.2.2.2.2.2.2.2) f := zB_set (i := 1) (by show 1 < 15; decide)
theorem pM_s2 {x : zMS} {f : ZH} {v : Int32} {u0 : Int32} (e0 : u0 = x.1) {u3 : Int32} (e3 : u3 = x.2.2.2.1) {u8 : Int32} (e8 : u8 = x.2.2.2.2.2.2.2.2.1) {u10 : Int32} (e10 : u10 = x.2.2.2.2.2.2.2.2.2.2.1) {u17 : Int32} (e17 : u17 = x.2.2.2.2.2.2.2.2.2.2.2.2.2.2.2.2.2.1) : zup (pM x f) 29 (.inr (6, [.int u0, .ref 30, .int v, .int u3, .ref 31, .ref 32, .ref 33, .ref 34, .int u8, .ref 35, .int u10, .ref 36, .ref 37, .ref 38, .ref 39, .ref 40, .ref 41, .int u17, .ref 42, .ref 43])) = pM (x.1, x.2.1, v, x.2.2.2.1, x.2.2.2.2.1, x.2.2.2.2.2.1, x.2.2.2.2.2.2.1, x.2.2.2.2.2.2.2.1, x.2.2.2.2.2.2.2.2.1, x.2.2.2.2.2.2.2.2.2.1, x.2.2.2.2.2.2.2.2.2.2.1, x.2.2.2.2.2.2.2.2.2.2.2.1, x.2.2.2.2.2.2.2.2.2.2.2.2.1, x.2.2.2.2.2.2.2.2.2.2.2.2.2.1, x.2.2.2.2.2.2.2.2.2.2.2.2.2.2.1, x.2.2.2.2.2.2.2.2.2.2.2.2.2.2.2.1, x.2.2.2.2.2.2.2.2.2.2.2.2.2.2.2.2.1, x.2.2.2.2.2.2.2.2.2.2.2.2.2.2.2.2.2.1, x.2.2.2.2.2.2.2.2.2.2.2.2.2.2.2.2.2.2.1, x.2.2.2.2.2.2.2.2.2.2.2.2.2.2.2.2.2.2.2) f := by subst e0; subst e3; subst e8; subst e10; subst e17; exact zB_set (i := 0) (by show 0 < 15; decide)
theorem pM_s3 {x : zMS} {f : ZH} {v : Int32} {u0 : Int32} (e0 : u0 = x.1) {u2 : Int32} (e2 : u2 = x.2.2.1) {u8 : Int32} (e8 : u8 = x.2.2.2.2.2.2.2.2.1) {u10 : Int32} (e10 : u10 = x.2.2.2.2.2.2.2.2.2.2.1) {u17 : Int32} (e17 : u17 = x.2.2.2.2.2.2.2.2.2.2.2.2.2.2.2.2.2.1) : zup (pM x f) 29 (.inr (6, [.int u0, .ref 30, .int u2, .int v, .ref 31, .ref 32, .ref 33, .ref 34, .int u8, .ref 35, .int u10, .ref 36, .ref 37, .ref 38, .ref 39, .ref 40, .ref 41, .int u17, .ref 42, .ref 43])) = pM (x.1, x.2.1, x.2.2.1, v, x.2.2.2.2.1, x.2.2.2.2.2.1, x.2.2.2.2.2.2.1, x.2.2.2.2.2.2.2.1, x.2.2.2.2.2.2.2.2.1, x.2.2.2.2.2.2.2.2.2.1, x.2.2.2.2.2.2.2.2.2.2.1, x.2.2.2.2.2.2.2.2.2.2.2.1, x.2.2.2.2.2.2.2.2.2.2.2.2.1, x.2.2.2.2.2.2.2.2.2.2.2.2.2.1, x.2.2.2.2.2.2.2.2.2.2.2.2.2.2.1, x.2.2.2.2.2.2.2.2.2.2.2.2.2.2.2.1, x.2.2.2.2.2.2.2.2.2.2.2.2.2.2.2.2.1, x.2.2.2.2.2.2.2.2.2.2.2.2.2.2.2.2.2.1, x.2.2.2.2.2.2.2.2.2.2.2.2.2.2.2.2.2.2.1, x.2.2.2.2.2.2.2.2.2.2.2.2.2.2.2.2.2.2.2) f := by subst e0; subst e2; subst e8; subst e10; subst e17; exact zB_set (i := 0) (by show 0 < 15; decide)
theorem pM_s4 {x : zMS} {f : ZH} {v : Nat → Int32} : zup (pM x f) 31 (.inl (1, 192, .inl v)) = pM (x.1, x.2.1, x.2.2.1, x.2.2.2.1, v, x.2.2.2.2.2.1, x.2.2.2.2.2.2.1, x.2.2.2.2.2.2.2.1, x.2.2.2.2.2.2.2.2.1, x.2.2.2.2.2.2.2.2.2.1, x.2.2.2.2.2.2.2.2.2.2.1, x.2.2.2.2.2.2.2.2.2.2.2.1, x.2.2.2.2.2.2.2.2.2.2.2.2.1, x.2.2.2.2.2.2.2.2.2.2.2.2.2.1, x.2.2.2.2.2.2.2.2.2.2.2.2.2.2.1, x.2.2.2.2.2.2.2.2.2.2.2.2.2.2.2.1, x.2.2.2.2.2.2.2.2.2.2.2.2.2.2.2.2.1, x.2.2.2.2.2.2.2.2.2.2.2.2.2.2.2.2.2.1, x.2.2.2.2.2.2.2.2.2.2.2.2.2.2.2.2.2.2.1, x.2.2.2.2.2.2.2.2.2.2.2.2.2.2.2.2.2.2.2) f := zB_set (i := 2) (by show 2 < 15; decide)
theorem pM_s5 {x : zMS} {f : ZH} {v : Nat → Int32} : zup (pM x f) 32 (.inl (0, 24, .inl v)) = pM (x.1, x.2.1, x.2.2.1, x.2.2.2.1, x.2.2.2.2.1, v, x.2.2.2.2.2.2.1, x.2.2.2.2.2.2.2.1, x.2.2.2.2.2.2.2.2.1, x.2.2.2.2.2.2.2.2.2.1, x.2.2.2.2.2.2.2.2.2.2.1, x.2.2.2.2.2.2.2.2.2.2.2.1, x.2.2.2.2.2.2.2.2.2.2.2.2.1, x.2.2.2.2.2.2.2.2.2.2.2.2.2.1, x.2.2.2.2.2.2.2.2.2.2.2.2.2.2.1, x.2.2.2.2.2.2.2.2.2.2.2.2.2.2.2.1, x.2.2.2.2.2.2.2.2.2.2.2.2.2.2.2.2.1, x.2.2.2.2.2.2.2.2.2.2.2.2.2.2.2.2.2.1, x.2.2.2.2.2.2.2.2.2.2.2.2.2.2.2.2.2.2.1, x.2.2.2.2.2.2.2.2.2.2.2.2.2.2.2.2.2.2.2) f := zB_set (i := 3) (by show 3 < 15; decide)
theorem pM_s6 {x : zMS} {f : ZH} {v : Nat → Int32} : zup (pM x f) 33 (.inl (0, 24, .inl v)) = pM (x.1, x.2.1, x.2.2.1, x.2.2.2.1, x.2.2.2.2.1, x.2.2.2.2.2.1, v, x.2.2.2.2.2.2.2.1, x.2.2.2.2.2.2.2.2.1, x.2.2.2.2.2.2.2.2.2.1, x.2.2.2.2.2.2.2.2.2.2.1, x.2.2.2.2.2.2.2.2.2.2.2.1, x.2.2.2.2.2.2.2.2.2.2.2.2.1, x.2.2.2.2.2.2.2.2.2.2.2.2.2.1, x.2.2.2.2.2.2.2.2.2.2.2.2.2.2.1, x.2.2.2.2.2.2.2.2.2.2.2.2.2.2.2.1, x.2.2.2.2.2.2.2.2.2.2.2.2.2.2.2.2.1, x.2.2.2.2.2.2.2.2.2.2.2.2.2.2.2.2.2.1, x.2.2.2.2.2.2.2.2.2.2.2.2.2.2.2.2.2.2.1, x.2.2.2.2.2.2.2.2.2.2.2.2.2.2.2.2.2.2.2) f := zB_set (i := 4) (by show 4 < 15; decide)
theorem pM_s7 {x : zMS} {f : ZH} {v : Nat → Int32} : zup (pM x f) 34 (.inl (0, 24, .inl v)) = pM (x.1, x.2.1, x.2.2.1, x.2.2.2.1, x.2.2.2.2.1, x.2.2.2.2.2.1, x.2.2.2.2.2.2.1, v, x.2.2.2.2.2.2.2.2.1, x.2.2.2.2.2.2.2.2.2.1, x.2.2.2.2.2.2.2.2.2.2.1, x.2.2.2.2.2.2.2.2.2.2.2.1, x.2.2.2.2.2.2.2.2.2.2.2.2.1, x.2.2.2.2.2.2.2.2.2.2.2.2.2.1, x.2.2.2.2.2.2.2.2.2.2.2.2.2.2.1, x.2.2.2.2.2.2.2.2.2.2.2.2.2.2.2.1, x.2.2.2.2.2.2.2.2.2.2.2.2.2.2.2.2.1, x.2.2.2.2.2.2.2.2.2.2.2.2.2.2.2.2.2.1, x.2.2.2.2.2.2.2.2.2.2.2.2.2.2.2.2.2.2.1, x.2.2.2.2.2.2.2.2.2.2.2.2.2.2.2.2.2.2.2) f := zB_set (i := 5) (by show 5 < 15; decide)
theorem pM_s8 {x : zMS} {f : ZH} {v : Int32} {u0 : Int32} (e0 : u0 = x.1) {u2 : Int32} (e2 : u2 = x.2.2.1) {u3 : Int32} (e3 : u3 = x.2.2.2.1) {u10 : Int32} (e10 : u10 = x.2.2.2.2.2.2.2.2.2.2.1) {u17 : Int32} (e17 : u17 = x.2.2.2.2.2.2.2.2.2.2.2.2.2.2.2.2.2.1) : zup (pM x f) 29 (.inr (6, [.int u0, .ref 30, .int u2, .int u3, .ref 31, .ref 32, .ref 33, .ref 34, .int v, .ref 35, .int u10, .ref 36, .ref 37, .ref 38, .ref 39, .ref 40, .ref 41, .int u17, .ref 42, .ref 43])) = pM (x.1, x.2.1, x.2.2.1, x.2.2.2.1, x.2.2.2.2.1, x.2.2.2.2.2.1, x.2.2.2.2.2.2.1, x.2.2.2.2.2.2.2.1, v, x.2.2.2.2.2.2.2.2.2.1, x.2.2.2.2.2.2.2.2.2.2.1, x.2.2.2.2.2.2.2.2.2.2.2.1, x.2.2.2.2.2.2.2.2.2.2.2.2.1, x.2.2.2.2.2.2.2.2.2.2.2.2.2.1, x.2.2.2.2.2.2.2.2.2.2.2.2.2.2.1, x.2.2.2.2.2.2.2.2.2.2.2.2.2.2.2.1, x.2.2.2.2.2.2.2.2.2.2.2.2.2.2.2.2.1, x.2.2.2.2.2.2.2.2.2.2.2.2.2.2.2.2.2.1, x.2.2.2.2.2.2.2.2.2.2.2.2.2.2.2.2.2.2.1, x.2.2.2.2.2.2.2.2.2.2.2.2.2.2.2.2.2.2.2) f := by subst e0; subst e2; subst e3; subst e10; subst e17; exact zB_set (i := 0) (by show 0 < 15; decide)
theorem pM_s9 {x : zMS} {f : ZH} {v : Nat → Int32} : zup (pM x f) 35 (.inl (0, 20, .inl v)) = pM (x.1, x.2.1, x.2.2.1, x.2.2.2.1, x.2.2.2.2.1, x.2.2.2.2.2.1, x.2.2.2.2.2.2.1, x.2.2.2.2.2.2.2.1, x.2.2.2.2.2.2.2.2.1, v, x.2.2.2.2.2.2.2.2.2.2.1, x.2.2.2.2.2.2.2.2.2.2.2.1, x.2.2.2.2.2.2.2.2.2.2.2.2.1, x.2.2.2.2.2.2.2.2.2.2.2.2.2.1, x.2.2.2.2.2.2.2.2.2.2.2.2.2.2.1, x.2.2.2.2.2.2.2.2.2.2.2.2.2.2.2.1, x.2.2.2.2.2.2.2.2.2.2.2.2.2.2.2.2.1, x.2.2.2.2.2.2.2.2.2.2.2.2.2.2.2.2.2.1, x.2.2.2.2.2.2.2.2.2.2.2.2.2.2.2.2.2.2.1, x.2.2.2.2.2.2.2.2.2.2.2.2.2.2.2.2.2.2.2) f := zB_set (i := 6) (by show 6 < 15; decide)
theorem pM_s10 {x : zMS} {f : ZH} {v : Int32} {u0 : Int32} (e0 : u0 = x.1) {u2 : Int32} (e2 : u2 = x.2.2.1) {u3 : Int32} (e3 : u3 = x.2.2.2.1) {u8 : Int32} (e8 : u8 = x.2.2.2.2.2.2.2.2.1) {u17 : Int32} (e17 : u17 = x.2.2.2.2.2.2.2.2.2.2.2.2.2.2.2.2.2.1) : zup (pM x f) 29 (.inr (6, [.int u0, .ref 30, .int u2, .int u3, .ref 31, .ref 32, .ref 33, .ref 34, .int u8, .ref 35, .int v, .ref 36, .ref 37, .ref 38, .ref 39, .ref 40, .ref 41, .int u17, .ref 42, .ref 43])) = pM (x.1, x.2.1, x.2.2.1, x.2.2.2.1, x.2.2.2.2.1, x.2.2.2.2.2.1, x.2.2.2.2.2.2.1, x.2.2.2.2.2.2.2.1, x.2.2.2.2.2.2.2.2.1, x.2.2.2.2.2.2.2.2.2.1, v, x.2.2.2.2.2.2.2.2.2.2.2.1, x.2.2.2.2.2.2.2.2.2.2.2.2.1, x.2.2.2.2.2.2.2.2.2.2.2.2.2.1, x.2.2.2.2.2.2.2.2.2.2.2.2.2.2.1, x.2.2.2.2.2.2.2.2.2.2.2.2.2.2.2.1, x.2.2.2.2.2.2.2.2.2.2.2.2.2.2.2.2.1, x.2.2.2.2.2.2.2.2.2.2.2.2.2.2.2.2.2.1, x.2.2.2.2.2.2.2.2.2.2.2.2.2.2.2.2.2.2.1, x.2.2.2.2.2.2.2.2.2.2.2.2.2.2.2.2.2.2.2) f := by subst e0; subst e2; subst e3; subst e8; subst e17; exact zB_set (i := 0) (by show 0 < 15; decide)
theorem pM_s11 {x : zMS} {f : ZH} {v : Nat → Int32} : zup (pM x f) 36 (.inl (0, 40, .inl v)) = pM (x.1, x.2.1, x.2.2.1, x.2.2.2.1, x.2.2.2.2.1, x.2.2.2.2.2.1, x.2.2.2.2.2.2.1, x.2.2.2.2.2.2.2.1, x.2.2.2.2.2.2.2.2.1, x.2.2.2.2.2.2.2.2.2.1, x.2.2.2.2.2.2.2.2.2.2.1, v, x.2.2.2.2.2.2.2.2.2.2.2.2.1, x.2.2.2.2.2.2.2.2.2.2.2.2.2.1, x.2.2.2.2.2.2.2.2.2.2.2.2.2.2.1, x.2.2.2.2.2.2.2.2.2.2.2.2.2.2.2.1, x.2.2.2.2.2.2.2.2.2.2.2.2.2.2.2.2.1, x.2.2.2.2.2.2.2.2.2.2.2.2.2.2.2.2.2.1, x.2.2.2.2.2.2.2.2.2.2.2.2.2.2.2.2.2.2.1, x.2.2.2.2.2.2.2.2.2.2.2.2.2.2.2.2.2.2.2) f := zB_set (i := 7) (by show 7 < 15; decide)
theorem pM_s12 {x : zMS} {f : ZH} {v : Nat → Int32} : zup (pM x f) 37 (.inl (0, 40, .inl v)) = pM (x.1, x.2.1, x.2.2.1, x.2.2.2.1, x.2.2.2.2.1, x.2.2.2.2.2.1, x.2.2.2.2.2.2.1, x.2.2.2.2.2.2.2.1, x.2.2.2.2.2.2.2.2.1, x.2.2.2.2.2.2.2.2.2.1, x.2.2.2.2.2.2.2.2.2.2.1, x.2.2.2.2.2.2.2.2.2.2.2.1, v, x.2.2.2.2.2.2.2.2.2.2.2.2.2.1, x.2.2.2.2.2.2.2.2.2.2.2.2.2.2.1, x.2.2.2.2.2.2.2.2.2.2.2.2.2.2.2.1, x.2.2.2.2.2.2.2.2.2.2.2.2.2.2.2.2.1, x.2.2.2.2.2.2.2.2.2.2.2.2.2.2.2.2.2.1, x.2.2.2.2.2.2.2.2.2.2.2.2.2.2.2.2.2.2.1, x.2.2.2.2.2.2.2.2.2.2.2.2.2.2.2.2.2.2.2) f := zB_set (i := 8) (by show 8 < 15; decide)
theorem pM_s13 {x : zMS} {f : ZH} {v : Nat → Int32} : zup (pM x f) 38 (.inl (0, 40, .inl v)) = pM (x.1, x.2.1, x.2.2.1, x.2.2.2.1, x.2.2.2.2.1, x.2.2.2.2.2.1, x.2.2.2.2.2.2.1, x.2.2.2.2.2.2.2.1, x.2.2.2.2.2.2.2.2.1, x.2.2.2.2.2.2.2.2.2.1, x.2.2.2.2.2.2.2.2.2.2.1, x.2.2.2.2.2.2.2.2.2.2.2.1, x.2.2.2.2.2.2.2.2.2.2.2.2.1, v, x.2.2.2.2.2.2.2.2.2.2.2.2.2.2.1, x.2.2.2.2.2.2.2.2.2.2.2.2.2.2.2.1, x.2.2.2.2.2.2.2.2.2.2.2.2.2.2.2.2.1, x.2.2.2.2.2.2.2.2.2.2.2.2.2.2.2.2.2.1, x.2.2.2.2.2.2.2.2.2.2.2.2.2.2.2.2.2.2.1, x.2.2.2.2.2.2.2.2.2.2.2.2.2.2.2.2.2.2.2) f := zB_set (i := 9) (by show 9 < 15; decide)
theorem pM_s14 {x : zMS} {f : ZH} {v : Nat → Int32} : zup (pM x f) 39 (.inl (0, 40, .inl v)) = pM (x.1, x.2.1, x.2.2.1, x.2.2.2.1, x.2.2.2.2.1, x.2.2.2.2.2.1, x.2.2.2.2.2.2.1, x.2.2.2.2.2.2.2.1, x.2.2.2.2.2.2.2.2.1, x.2.2.2.2.2.2.2.2.2.1, x.2.2.2.2.2.2.2.2.2.2.1, x.2.2.2.2.2.2.2.2.2.2.2.1, x.2.2.2.2.2.2.2.2.2.2.2.2.1, x.2.2.2.2.2.2.2.2.2.2.2.2.2.1, v, x.2.2.2.2.2.2.2.2.2.2.2.2.2.2.2.1, x.2.2.2.2.2.2.2.2.2.2.2.2.2.2.2.2.1, x.2.2.2.2.2.2.2.2.2.2.2.2.2.2.2.2.2.1, x.2.2.2.2.2.2.2.2.2.2.2.2.2.2.2.2.2.2.1, x.2.2.2.2.2.2.2.2.2.2.2.2.2.2.2.2.2.2.2) f := zB_set (i := 10) (by show 10 < 15; decide)
theorem pM_s15 {x : zMS} {f : ZH} {v : Nat → Int32} : zup (pM x f) 40 (.inl (0, 40, .inl v)) = pM (x.1, x.2.1, x.2.2.1, x.2.2.2.1, x.2.2.2.2.1, x.2.2.2.2.2.1, x.2.2.2.2.2.2.1, x.2.2.2.2.2.2.2.1, x.2.2.2.2.2.2.2.2.1, x.2.2.2.2.2.2.2.2.2.1, x.2.2.2.2.2.2.2.2.2.2.1, x.2.2.2.2.2.2.2.2.2.2.2.1, x.2.2.2.2.2.2.2.2.2.2.2.2.1, x.2.2.2.2.2.2.2.2.2.2.2.2.2.1, x.2.2.2.2.2.2.2.2.2.2.2.2.2.2.1, v, x.2.2.2.2.2.2.2.2.2.2.2.2.2.2.2.2.1, x.2.2.2.2.2.2.2.2.2.2.2.2.2.2.2.2.2.1, x.2.2.2.2.2.2.2.2.2.2.2.2.2.2.2.2.2.2.1, x.2.2.2.2.2.2.2.2.2.2.2.2.2.2.2.2.2.2.2) f := zB_set (i := 11) (by show 11 < 15; decide)
theorem pM_s16 {x : zMS} {f : ZH} {v : Nat → Int32} : zup (pM x f) 41 (.inl (0, 40, .inl v)) = pM (x.1, x.2.1, x.2.2.1, x.2.2.2.1, x.2.2.2.2.1, x.2.2.2.2.2.1, x.2.2.2.2.2.2.1, x.2.2.2.2.2.2.2.1, x.2.2.2.2.2.2.2.2.1, x.2.2.2.2.2.2.2.2.2.1, x.2.2.2.2.2.2.2.2.2.2.1, x.2.2.2.2.2.2.2.2.2.2.2.1, x.2.2.2.2.2.2.2.2.2.2.2.2.1, x.2.2.2.2.2.2.2.2.2.2.2.2.2.1, x.2.2.2.2.2.2.2.2.2.2.2.2.2.2.1, x.2.2.2.2.2.2.2.2.2.2.2.2.2.2.2.1, v, x.2.2.2.2.2.2.2.2.2.2.2.2.2.2.2.2.2.1, x.2.2.2.2.2.2.2.2.2.2.2.2.2.2.2.2.2.2.1, x.2.2.2.2.2.2.2.2.2.2.2.2.2.2.2.2.2.2.2) f := zB_set (i := 12) (by show 12 < 15; decide)
theorem pM_s17 {x : zMS} {f : ZH} {v : Int32} {u0 : Int32} (e0 : u0 = x.1) {u2 : Int32} (e2 : u2 = x.2.2.1) {u3 : Int32} (e3 : u3 = x.2.2.2.1) {u8 : Int32} (e8 : u8 = x.2.2.2.2.2.2.2.2.1) {u10 : Int32} (e10 : u10 = x.2.2.2.2.2.2.2.2.2.2.1) : zup (pM x f) 29 (.inr (6, [.int u0, .ref 30, .int u2, .int u3, .ref 31, .ref 32, .ref 33, .ref 34, .int u8, .ref 35, .int u10, .ref 36, .ref 37, .ref 38, .ref 39, .ref 40, .ref 41, .int v, .ref 42, .ref 43])) = pM (x.1, x.2.1, x.2.2.1, x.2.2.2.1, x.2.2.2.2.1, x.2.2.2.2.2.1, x.2.2.2.2.2.2.1, x.2.2.2.2.2.2.2.1, x.2.2.2.2.2.2.2.2.1, x.2.2.2.2.2.2.2.2.2.1, x.2.2.2.2.2.2.2.2.2.2.1, x.2.2.2.2.2.2.2.2.2.2.2.1, x.2.2.2.2.2.2.2.2.2.2.2.2.1, x.2.2.2.2.2.2.2.2.2.2.2.2.2.1, x.2.2.2.2.2.2.2.2.2.2.2.2.2.2.1, x.2.2.2.2.2.2.2.2.2.2.2.2.2.2.2.1, x.2.2.2.2.2.2.2.2.2.2.2.2.2.2.2.2.1, v, x.2.2.2.2.2.2.2.2.2.2.2.2.2.2.2.2.2.2.1, x.2.2.2.2.2.2.2.2.2.2.2.2.2.2.2.2.2.2.2) f := by subst e0; subst e2; subst e3; subst e8; subst e10; exact zB_set (i := 0) (by show 0 < 15; decide)
theorem pM_s18 {x : zMS} {f : ZH} {v : Nat → Int32} : zup (pM x f) 42 (.inl (0, 20, .inl v)) = pM (x.1, x.2.1, x.2.2.1, x.2.2.2.1, x.2.2.2.2.1, x.2.2.2.2.2.1, x.2.2.2.2.2.2.1, x.2.2.2.2.2.2.2.1, x.2.2.2.2.2.2.2.2.1, x.2.2.2.2.2.2.2.2.2.1, x.2.2.2.2.2.2.2.2.2.2.1, x.2.2.2.2.2.2.2.2.2.2.2.1, x.2.2.2.2.2.2.2.2.2.2.2.2.1, x.2.2.2.2.2.2.2.2.2.2.2.2.2.1, x.2.2.2.2.2.2.2.2.2.2.2.2.2.2.1, x.2.2.2.2.2.2.2.2.2.2.2.2.2.2.2.1, x.2.2.2.2.2.2.2.2.2.2.2.2.2.2.2.2.1, x.2.2.2.2.2.2.2.2.2.2.2.2.2.2.2.2.2.1, v, x.2.2.2.2.2.2.2.2.2.2.2.2.2.2.2.2.2.2.2) f := zB_set (i := 13) (by show 13 < 15; decide)
theorem pM_s19 {x : zMS} {f : ZH} {v : Nat → Int32} : zup (pM x f) 43 (.inl (0, 400, .inl v)) = pM (x.1, x.2.1, x.2.2.1, x.2.2.2.1, x.2.2.2.2.1, x.2.2.2.2.2.1, x.2.2.2.2.2.2.1, x.2.2.2.2.2.2.2.1, x.2.2.2.2.2.2.2.2.1, x.2.2.2.2.2.2.2.2.2.1, x.2.2.2.2.2.2.2.2.2.2.1, x.2.2.2.2.2.2.2.2.2.2.2.1, x.2.2.2.2.2.2.2.2.2.2.2.2.1, x.2.2.2.2.2.2.2.2.2.2.2.2.2.1, x.2.2.2.2.2.2.2.2.2.2.2.2.2.2.1, x.2.2.2.2.2.2.2.2.2.2.2.2.2.2.2.1, x.2.2.2.2.2.2.2.2.2.2.2.2.2.2.2.2.1, x.2.2.2.2.2.2.2.2.2.2.2.2.2.2.2.2.2.1, x.2.2.2.2.2.2.2.2.2.2.2.2.2.2.2.2.2.2.1, v) f := zB_set (i := 14) (by show 14 < 15; decide)
abbrev zTS : Type := zNS × zRS × zRS × zQS × zHS × zVS
def cT (x : zTS) : List va_E := [.inr (5, [.ref 1, .ref 5, .ref 10, .ref 15, .ref 22, .ref 27]), .inr (1, [.ref 2, .ref 3, .ref 4, .int x.1.2.2.2.1, .int x.1.2.2.2.2]), .inl (1, 192, .inl x.1.1), .inl (0, 24, .inl x.1.2.1), .inl (1, 8, .inl x.1.2.2.1), .inr (4, [.ref 6, .ref 7, .ref 8, .ref 9, .int x.2.1.2.2.2.2]), .inl (0, 24, .inl x.2.1.1), .inl (0, 24, .inl x.2.1.2.1), .inl (0, 24, .inl x.2.1.2.2.1), .inl (0, 24, .inl x.2.1.2.2.2.1), .inr (4, [.ref 11, .ref 12, .ref 13, .ref 14, .int x.2.2.1.2.2.2.2]), .inl (0, 24, .inl x.2.2.1.1), .inl (0, 24, .inl x.2.2.1.2.1), .inl (0, 24, .inl x.2.2.1.2.2.1), .inl (0, 24, .inl x.2.2.1.2.2.2.1), .inr (2, [.ref 16, .ref 17, .ref 18, .ref 19, .ref 20, .ref 21, .int x.2.2.2.1.2.2.2.2.2.2]), .inl (0, 40, .inl x.2.2.2.1.1), .inl (0, 40, .inl x.2.2.2.1.2.1), .inl (0, 40, .inl x.2.2.2.1.2.2.1), .inl (0, 40, .inl x.2.2.2.1.2.2.2.1), .inl (0, 40, .inl x.2.2.2.1.2.2.2.2.1), .inl (0, 40, .inl x.2.2.2.1.2.2.2.2.2.1), .inr (0, [.ref 23, .ref 24, .ref 25, .ref 26, .int x.2.2.2.2.1.2.2.2.2.1, .int x.2.2.2.2.1.2.2.2.2.2.1, .int x.2.2.2.2.1.2.2.2.2.2.2]), .inl (0, 20, .inl x.2.2.2.2.1.1), .inl (0, 20, .inl x.2.2.2.2.1.2.1), .inl (0, 20, .inl x.2.2.2.2.1.2.2.1), .inl (0, 400, .inl x.2.2.2.2.1.2.2.2.1), .inr (3, [.ref 28]), .inl (0, 24, .inl x.2.2.2.2.2)]
def pT (x : zTS) (f : ZH) : ZH := zB 0 (cT x) f
theorem pT_pT {x y : zTS} {f : ZH} : pT x (pT y f) = pT x f := zB_zB rfl
theorem pT_0 {x : zTS} {f : ZH} : pT x f 0 = .inr (5, [.ref 1, .ref 5, .ref 10, .ref 15, .ref 22, .ref 27]) := by
  have h := zB_in (bs := 0) (i := 0) (cells := cT x) (f := f) (by show 0 < 29; decide)
  rw [Nat.zero_add] at h
  exact h
theorem pT_1 {x : zTS} {f : ZH} : pT x f 1 = .inr (1, [.ref 2, .ref 3, .ref 4, .int x.1.2.2.2.1, .int x.1.2.2.2.2]) := by
  have h := zB_in (bs := 0) (i := 1) (cells := cT x) (f := f) (by show 1 < 29; decide)
  rw [Nat.zero_add] at h
  exact h
theorem pT_2 {x : zTS} {f : ZH} : pT x f 2 = .inl (1, 192, .inl x.1.1) := by
  have h := zB_in (bs := 0) (i := 2) (cells := cT x) (f := f) (by show 2 < 29; decide)
  rw [Nat.zero_add] at h
  exact h
theorem pT_3 {x : zTS} {f : ZH} : pT x f 3 = .inl (0, 24, .inl x.1.2.1) := by
  have h := zB_in (bs := 0) (i := 3) (cells := cT x) (f := f) (by show 3 < 29; decide)
  rw [Nat.zero_add] at h
  exact h
theorem pT_4 {x : zTS} {f : ZH} : pT x f 4 = .inl (1, 8, .inl x.1.2.2.1) := by
  have h := zB_in (bs := 0) (i := 4) (cells := cT x) (f := f) (by show 4 < 29; decide)
  rw [Nat.zero_add] at h
  exact h
theorem pT_5 {x : zTS} {f : ZH} : pT x f 5 = .inr (4, [.ref 6, .ref 7, .ref 8, .ref 9, .int x.2.1.2.2.2.2]) := by
  have h := zB_in (bs := 0) (i := 5) (cells := cT x) (f := f) (by show 5 < 29; decide)
  rw [Nat.zero_add] at h
  exact h
theorem pT_6 {x : zTS} {f : ZH} : pT x f 6 = .inl (0, 24, .inl x.2.1.1) := by
  have h := zB_in (bs := 0) (i := 6) (cells := cT x) (f := f) (by show 6 < 29; decide)
  rw [Nat.zero_add] at h
  exact h
theorem pT_7 {x : zTS} {f : ZH} : pT x f 7 = .inl (0, 24, .inl x.2.1.2.1) := by
  have h := zB_in (bs := 0) (i := 7) (cells := cT x) (f := f) (by show 7 < 29; decide)
  rw [Nat.zero_add] at h
  exact h
theorem pT_8 {x : zTS} {f : ZH} : pT x f 8 = .inl (0, 24, .inl x.2.1.2.2.1) := by
  have h := zB_in (bs := 0) (i := 8) (cells := cT x) (f := f) (by show 8 < 29; decide)
  rw [Nat.zero_add] at h
  exact h
theorem pT_9 {x : zTS} {f : ZH} : pT x f 9 = .inl (0, 24, .inl x.2.1.2.2.2.1) := by
  have h := zB_in (bs := 0) (i := 9) (cells := cT x) (f := f) (by show 9 < 29; decide)
  rw [Nat.zero_add] at h
  exact h
theorem pT_10 {x : zTS} {f : ZH} : pT x f 10 = .inr (4, [.ref 11, .ref 12, .ref 13, .ref 14, .int x.2.2.1.2.2.2.2]) := by
  have h := zB_in (bs := 0) (i := 10) (cells := cT x) (f := f) (by show 10 < 29; decide)
  rw [Nat.zero_add] at h
  exact h
theorem pT_11 {x : zTS} {f : ZH} : pT x f 11 = .inl (0, 24, .inl x.2.2.1.1) := by
  have h := zB_in (bs := 0) (i := 11) (cells := cT x) (f := f) (by show 11 < 29; decide)
  rw [Nat.zero_add] at h
  exact h
theorem pT_12 {x : zTS} {f : ZH} : pT x f 12 = .inl (0, 24, .inl x.2.2.1.2.1) := by
  have h := zB_in (bs := 0) (i := 12) (cells := cT x) (f := f) (by show 12 < 29; decide)
  rw [Nat.zero_add] at h
  exact h
theorem pT_13 {x : zTS} {f : ZH} : pT x f 13 = .inl (0, 24, .inl x.2.2.1.2.2.1) := by
  have h := zB_in (bs := 0) (i := 13) (cells := cT x) (f := f) (by show 13 < 29; decide)
  rw [Nat.zero_add] at h
  exact h
theorem pT_14 {x : zTS} {f : ZH} : pT x f 14 = .inl (0, 24, .inl x.2.2.1.2.2.2.1) := by
  have h := zB_in (bs := 0) (i := 14) (cells := cT x) (f := f) (by show 14 < 29; decide)
  rw [Nat.zero_add] at h
  exact h
theorem pT_15 {x : zTS} {f : ZH} : pT x f 15 = .inr (2, [.ref 16, .ref 17, .ref 18, .ref 19, .ref 20, .ref 21, .int x.2.2.2.1.2.2.2.2.2.2]) := by
  have h := zB_in (bs := 0) (i := 15) (cells := cT x) (f := f) (by show 15 < 29; decide)
  rw [Nat.zero_add] at h
  exact h
theorem pT_16 {x : zTS} {f : ZH} : pT x f 16 = .inl (0, 40, .inl x.2.2.2.1.1) := by
  have h := zB_in (bs := 0) (i := 16) (cells := cT x) (f := f) (by show 16 < 29; decide)
  rw [Nat.zero_add] at h
  exact h
theorem pT_17 {x : zTS} {f : ZH} : pT x f 17 = .inl (0, 40, .inl x.2.2.2.1.2.1) := by
  have h := zB_in (bs := 0) (i := 17) (cells := cT x) (f := f) (by show 17 < 29; decide)
  rw [Nat.zero_add] at h
  exact h
theorem pT_18 {x : zTS} {f : ZH} : pT x f 18 = .inl (0, 40, .inl x.2.2.2.1.2.2.1) := by
  have h := zB_in (bs := 0) (i := 18) (cells := cT x) (f := f) (by show 18 < 29; decide)
  rw [Nat.zero_add] at h
  exact h
theorem pT_19 {x : zTS} {f : ZH} : pT x f 19 = .inl (0, 40, .inl x.2.2.2.1.2.2.2.1) := by
  have h := zB_in (bs := 0) (i := 19) (cells := cT x) (f := f) (by show 19 < 29; decide)
  rw [Nat.zero_add] at h
  exact h
theorem pT_20 {x : zTS} {f : ZH} : pT x f 20 = .inl (0, 40, .inl x.2.2.2.1.2.2.2.2.1) := by
  have h := zB_in (bs := 0) (i := 20) (cells := cT x) (f := f) (by show 20 < 29; decide)
  rw [Nat.zero_add] at h
  exact h
theorem pT_21 {x : zTS} {f : ZH} : pT x f 21 = .inl (0, 40, .inl x.2.2.2.1.2.2.2.2.2.1) := by
  have h := zB_in (bs := 0) (i := 21) (cells := cT x) (f := f) (by show 21 < 29; decide)
  rw [Nat.zero_add] at h
  exact h
theorem pT_22 {x : zTS} {f : ZH} : pT x f 22 = .inr (0, [.ref 23, .ref 24, .ref 25, .ref 26, .int x.2.2.2.2.1.2.2.2.2.1, .int x.2.2.2.2.1.2.2.2.2.2.1, .int x.2.2.2.2.1.2.2.2.2.2.2]) := by
  have h := zB_in (bs := 0) (i := 22) (cells := cT x) (f := f) (by show 22 < 29; decide)
  rw [Nat.zero_add] at h
  exact h
theorem pT_23 {x : zTS} {f : ZH} : pT x f 23 = .inl (0, 20, .inl x.2.2.2.2.1.1) := by
  have h := zB_in (bs := 0) (i := 23) (cells := cT x) (f := f) (by show 23 < 29; decide)
  rw [Nat.zero_add] at h
  exact h
theorem pT_24 {x : zTS} {f : ZH} : pT x f 24 = .inl (0, 20, .inl x.2.2.2.2.1.2.1) := by
  have h := zB_in (bs := 0) (i := 24) (cells := cT x) (f := f) (by show 24 < 29; decide)
  rw [Nat.zero_add] at h
  exact h
theorem pT_25 {x : zTS} {f : ZH} : pT x f 25 = .inl (0, 20, .inl x.2.2.2.2.1.2.2.1) := by
  have h := zB_in (bs := 0) (i := 25) (cells := cT x) (f := f) (by show 25 < 29; decide)
  rw [Nat.zero_add] at h
  exact h
theorem pT_26 {x : zTS} {f : ZH} : pT x f 26 = .inl (0, 400, .inl x.2.2.2.2.1.2.2.2.1) := by
  have h := zB_in (bs := 0) (i := 26) (cells := cT x) (f := f) (by show 26 < 29; decide)
  rw [Nat.zero_add] at h
  exact h
theorem pT_27 {x : zTS} {f : ZH} : pT x f 27 = .inr (3, [.ref 28]) := by
  have h := zB_in (bs := 0) (i := 27) (cells := cT x) (f := f) (by show 27 < 29; decide)
  rw [Nat.zero_add] at h
  exact h
theorem pT_28 {x : zTS} {f : ZH} : pT x f 28 = .inl (0, 24, .inl x.2.2.2.2.2) := by
  have h := zB_in (bs := 0) (i := 28) (cells := cT x) (f := f) (by show 28 < 29; decide)
  rw [Nat.zero_add] at h
  exact h
theorem pT_N {x : zTS} {f : ZH} {y : zNS} : pN y (pT x f) = pT (y, x.2.1, x.2.2.1, x.2.2.2.1, x.2.2.2.2.1, x.2.2.2.2.2) f := zB_part (bs := 0) (A := [.inr (5, [.ref 1, .ref 5, .ref 10, .ref 15, .ref 22, .ref 27])]) (c := cN x.1) (c' := cN y) (B := [.inr (4, [.ref 6, .ref 7, .ref 8, .ref 9, .int x.2.1.2.2.2.2]), .inl (0, 24, .inl x.2.1.1), .inl (0, 24, .inl x.2.1.2.1), .inl (0, 24, .inl x.2.1.2.2.1), .inl (0, 24, .inl x.2.1.2.2.2.1), .inr (4, [.ref 11, .ref 12, .ref 13, .ref 14, .int x.2.2.1.2.2.2.2]), .inl (0, 24, .inl x.2.2.1.1), .inl (0, 24, .inl x.2.2.1.2.1), .inl (0, 24, .inl x.2.2.1.2.2.1), .inl (0, 24, .inl x.2.2.1.2.2.2.1), .inr (2, [.ref 16, .ref 17, .ref 18, .ref 19, .ref 20, .ref 21, .int x.2.2.2.1.2.2.2.2.2.2]), .inl (0, 40, .inl x.2.2.2.1.1), .inl (0, 40, .inl x.2.2.2.1.2.1), .inl (0, 40, .inl x.2.2.2.1.2.2.1), .inl (0, 40, .inl x.2.2.2.1.2.2.2.1), .inl (0, 40, .inl x.2.2.2.1.2.2.2.2.1), .inl (0, 40, .inl x.2.2.2.1.2.2.2.2.2.1), .inr (0, [.ref 23, .ref 24, .ref 25, .ref 26, .int x.2.2.2.2.1.2.2.2.2.1, .int x.2.2.2.2.1.2.2.2.2.2.1, .int x.2.2.2.2.1.2.2.2.2.2.2]), .inl (0, 20, .inl x.2.2.2.2.1.1), .inl (0, 20, .inl x.2.2.2.2.1.2.1), .inl (0, 20, .inl x.2.2.2.2.1.2.2.1), .inl (0, 400, .inl x.2.2.2.2.1.2.2.2.1), .inr (3, [.ref 28]), .inl (0, 24, .inl x.2.2.2.2.2)]) rfl rfl
theorem pT_Ns {x : zTS} {f : ZH} : pN x.1 (pT x f) = pT x f := zB_self (bs := 0) (A := [.inr (5, [.ref 1, .ref 5, .ref 10, .ref 15, .ref 22, .ref 27])]) (c := cN x.1) (B := [.inr (4, [.ref 6, .ref 7, .ref 8, .ref 9, .int x.2.1.2.2.2.2]), .inl (0, 24, .inl x.2.1.1), .inl (0, 24, .inl x.2.1.2.1), .inl (0, 24, .inl x.2.1.2.2.1), .inl (0, 24, .inl x.2.1.2.2.2.1), .inr (4, [.ref 11, .ref 12, .ref 13, .ref 14, .int x.2.2.1.2.2.2.2]), .inl (0, 24, .inl x.2.2.1.1), .inl (0, 24, .inl x.2.2.1.2.1), .inl (0, 24, .inl x.2.2.1.2.2.1), .inl (0, 24, .inl x.2.2.1.2.2.2.1), .inr (2, [.ref 16, .ref 17, .ref 18, .ref 19, .ref 20, .ref 21, .int x.2.2.2.1.2.2.2.2.2.2]), .inl (0, 40, .inl x.2.2.2.1.1), .inl (0, 40, .inl x.2.2.2.1.2.1), .inl (0, 40, .inl x.2.2.2.1.2.2.1), .inl (0, 40, .inl x.2.2.2.1.2.2.2.1), .inl (0, 40, .inl x.2.2.2.1.2.2.2.2.1), .inl (0, 40, .inl x.2.2.2.1.2.2.2.2.2.1), .inr (0, [.ref 23, .ref 24, .ref 25, .ref 26, .int x.2.2.2.2.1.2.2.2.2.1, .int x.2.2.2.2.1.2.2.2.2.2.1, .int x.2.2.2.2.1.2.2.2.2.2.2]), .inl (0, 20, .inl x.2.2.2.2.1.1), .inl (0, 20, .inl x.2.2.2.2.1.2.1), .inl (0, 20, .inl x.2.2.2.2.1.2.2.1), .inl (0, 400, .inl x.2.2.2.2.1.2.2.2.1), .inr (3, [.ref 28]), .inl (0, 24, .inl x.2.2.2.2.2)]) rfl
theorem pT_R {x : zTS} {f : ZH} {y : zRS} : pR 5 y (pT x f) = pT (x.1, y, x.2.2.1, x.2.2.2.1, x.2.2.2.2.1, x.2.2.2.2.2) f := zB_part (bs := 0) (A := [.inr (5, [.ref 1, .ref 5, .ref 10, .ref 15, .ref 22, .ref 27]), .inr (1, [.ref 2, .ref 3, .ref 4, .int x.1.2.2.2.1, .int x.1.2.2.2.2]), .inl (1, 192, .inl x.1.1), .inl (0, 24, .inl x.1.2.1), .inl (1, 8, .inl x.1.2.2.1)]) (c := cR 5 x.2.1) (c' := cR 5 y) (B := [.inr (4, [.ref 11, .ref 12, .ref 13, .ref 14, .int x.2.2.1.2.2.2.2]), .inl (0, 24, .inl x.2.2.1.1), .inl (0, 24, .inl x.2.2.1.2.1), .inl (0, 24, .inl x.2.2.1.2.2.1), .inl (0, 24, .inl x.2.2.1.2.2.2.1), .inr (2, [.ref 16, .ref 17, .ref 18, .ref 19, .ref 20, .ref 21, .int x.2.2.2.1.2.2.2.2.2.2]), .inl (0, 40, .inl x.2.2.2.1.1), .inl (0, 40, .inl x.2.2.2.1.2.1), .inl (0, 40, .inl x.2.2.2.1.2.2.1), .inl (0, 40, .inl x.2.2.2.1.2.2.2.1), .inl (0, 40, .inl x.2.2.2.1.2.2.2.2.1), .inl (0, 40, .inl x.2.2.2.1.2.2.2.2.2.1), .inr (0, [.ref 23, .ref 24, .ref 25, .ref 26, .int x.2.2.2.2.1.2.2.2.2.1, .int x.2.2.2.2.1.2.2.2.2.2.1, .int x.2.2.2.2.1.2.2.2.2.2.2]), .inl (0, 20, .inl x.2.2.2.2.1.1), .inl (0, 20, .inl x.2.2.2.2.1.2.1), .inl (0, 20, .inl x.2.2.2.2.1.2.2.1), .inl (0, 400, .inl x.2.2.2.2.1.2.2.2.1), .inr (3, [.ref 28]), .inl (0, 24, .inl x.2.2.2.2.2)]) rfl rfl
theorem pT_Rs {x : zTS} {f : ZH} : pR 5 x.2.1 (pT x f) = pT x f := zB_self (bs := 0) (A := [.inr (5, [.ref 1, .ref 5, .ref 10, .ref 15, .ref 22, .ref 27]), .inr (1, [.ref 2, .ref 3, .ref 4, .int x.1.2.2.2.1, .int x.1.2.2.2.2]), .inl (1, 192, .inl x.1.1), .inl (0, 24, .inl x.1.2.1), .inl (1, 8, .inl x.1.2.2.1)]) (c := cR 5 x.2.1) (B := [.inr (4, [.ref 11, .ref 12, .ref 13, .ref 14, .int x.2.2.1.2.2.2.2]), .inl (0, 24, .inl x.2.2.1.1), .inl (0, 24, .inl x.2.2.1.2.1), .inl (0, 24, .inl x.2.2.1.2.2.1), .inl (0, 24, .inl x.2.2.1.2.2.2.1), .inr (2, [.ref 16, .ref 17, .ref 18, .ref 19, .ref 20, .ref 21, .int x.2.2.2.1.2.2.2.2.2.2]), .inl (0, 40, .inl x.2.2.2.1.1), .inl (0, 40, .inl x.2.2.2.1.2.1), .inl (0, 40, .inl x.2.2.2.1.2.2.1), .inl (0, 40, .inl x.2.2.2.1.2.2.2.1), .inl (0, 40, .inl x.2.2.2.1.2.2.2.2.1), .inl (0, 40, .inl x.2.2.2.1.2.2.2.2.2.1), .inr (0, [.ref 23, .ref 24, .ref 25, .ref 26, .int x.2.2.2.2.1.2.2.2.2.1, .int x.2.2.2.2.1.2.2.2.2.2.1, .int x.2.2.2.2.1.2.2.2.2.2.2]), .inl (0, 20, .inl x.2.2.2.2.1.1), .inl (0, 20, .inl x.2.2.2.2.1.2.1), .inl (0, 20, .inl x.2.2.2.2.1.2.2.1), .inl (0, 400, .inl x.2.2.2.2.1.2.2.2.1), .inr (3, [.ref 28]), .inl (0, 24, .inl x.2.2.2.2.2)]) rfl
theorem pT_U {x : zTS} {f : ZH} {y : zRS} : pR 10 y (pT x f) = pT (x.1, x.2.1, y, x.2.2.2.1, x.2.2.2.2.1, x.2.2.2.2.2) f := zB_part (bs := 0) (A := [.inr (5, [.ref 1, .ref 5, .ref 10, .ref 15, .ref 22, .ref 27]), .inr (1, [.ref 2, .ref 3, .ref 4, .int x.1.2.2.2.1, .int x.1.2.2.2.2]), .inl (1, 192, .inl x.1.1), .inl (0, 24, .inl x.1.2.1), .inl (1, 8, .inl x.1.2.2.1), .inr (4, [.ref 6, .ref 7, .ref 8, .ref 9, .int x.2.1.2.2.2.2]), .inl (0, 24, .inl x.2.1.1), .inl (0, 24, .inl x.2.1.2.1), .inl (0, 24, .inl x.2.1.2.2.1), .inl (0, 24, .inl x.2.1.2.2.2.1)]) (c := cR 10 x.2.2.1) (c' := cR 10 y) (B := [.inr (2, [.ref 16, .ref 17, .ref 18, .ref 19, .ref 20, .ref 21, .int x.2.2.2.1.2.2.2.2.2.2]), .inl (0, 40, .inl x.2.2.2.1.1), .inl (0, 40, .inl x.2.2.2.1.2.1), .inl (0, 40, .inl x.2.2.2.1.2.2.1), .inl (0, 40, .inl x.2.2.2.1.2.2.2.1), .inl (0, 40, .inl x.2.2.2.1.2.2.2.2.1), .inl (0, 40, .inl x.2.2.2.1.2.2.2.2.2.1), .inr (0, [.ref 23, .ref 24, .ref 25, .ref 26, .int x.2.2.2.2.1.2.2.2.2.1, .int x.2.2.2.2.1.2.2.2.2.2.1, .int x.2.2.2.2.1.2.2.2.2.2.2]), .inl (0, 20, .inl x.2.2.2.2.1.1), .inl (0, 20, .inl x.2.2.2.2.1.2.1), .inl (0, 20, .inl x.2.2.2.2.1.2.2.1), .inl (0, 400, .inl x.2.2.2.2.1.2.2.2.1), .inr (3, [.ref 28]), .inl (0, 24, .inl x.2.2.2.2.2)]) rfl rfl
theorem pT_Us {x : zTS} {f : ZH} : pR 10 x.2.2.1 (pT x f) = pT x f := zB_self (bs := 0) (A := [.inr (5, [.ref 1, .ref 5, .ref 10, .ref 15, .ref 22, .ref 27]), .inr (1, [.ref 2, .ref 3, .ref 4, .int x.1.2.2.2.1, .int x.1.2.2.2.2]), .inl (1, 192, .inl x.1.1), .inl (0, 24, .inl x.1.2.1), .inl (1, 8, .inl x.1.2.2.1), .inr (4, [.ref 6, .ref 7, .ref 8, .ref 9, .int x.2.1.2.2.2.2]), .inl (0, 24, .inl x.2.1.1), .inl (0, 24, .inl x.2.1.2.1), .inl (0, 24, .inl x.2.1.2.2.1), .inl (0, 24, .inl x.2.1.2.2.2.1)]) (c := cR 10 x.2.2.1) (B := [.inr (2, [.ref 16, .ref 17, .ref 18, .ref 19, .ref 20, .ref 21, .int x.2.2.2.1.2.2.2.2.2.2]), .inl (0, 40, .inl x.2.2.2.1.1), .inl (0, 40, .inl x.2.2.2.1.2.1), .inl (0, 40, .inl x.2.2.2.1.2.2.1), .inl (0, 40, .inl x.2.2.2.1.2.2.2.1), .inl (0, 40, .inl x.2.2.2.1.2.2.2.2.1), .inl (0, 40, .inl x.2.2.2.1.2.2.2.2.2.1), .inr (0, [.ref 23, .ref 24, .ref 25, .ref 26, .int x.2.2.2.2.1.2.2.2.2.1, .int x.2.2.2.2.1.2.2.2.2.2.1, .int x.2.2.2.2.1.2.2.2.2.2.2]), .inl (0, 20, .inl x.2.2.2.2.1.1), .inl (0, 20, .inl x.2.2.2.2.1.2.1), .inl (0, 20, .inl x.2.2.2.2.1.2.2.1), .inl (0, 400, .inl x.2.2.2.2.1.2.2.2.1), .inr (3, [.ref 28]), .inl (0, 24, .inl x.2.2.2.2.2)]) rfl
theorem pT_Q {x : zTS} {f : ZH} {y : zQS} : pQ y (pT x f) = pT (x.1, x.2.1, x.2.2.1, y, x.2.2.2.2.1, x.2.2.2.2.2) f := zB_part (bs := 0) (A := [.inr (5, [.ref 1, .ref 5, .ref 10, .ref 15, .ref 22, .ref 27]), .inr (1, [.ref 2, .ref 3, .ref 4, .int x.1.2.2.2.1, .int x.1.2.2.2.2]), .inl (1, 192, .inl x.1.1), .inl (0, 24, .inl x.1.2.1), .inl (1, 8, .inl x.1.2.2.1), .inr (4, [.ref 6, .ref 7, .ref 8, .ref 9, .int x.2.1.2.2.2.2]), .inl (0, 24, .inl x.2.1.1), .inl (0, 24, .inl x.2.1.2.1), .inl (0, 24, .inl x.2.1.2.2.1), .inl (0, 24, .inl x.2.1.2.2.2.1), .inr (4, [.ref 11, .ref 12, .ref 13, .ref 14, .int x.2.2.1.2.2.2.2]), .inl (0, 24, .inl x.2.2.1.1), .inl (0, 24, .inl x.2.2.1.2.1), .inl (0, 24, .inl x.2.2.1.2.2.1), .inl (0, 24, .inl x.2.2.1.2.2.2.1)]) (c := cQ x.2.2.2.1) (c' := cQ y) (B := [.inr (0, [.ref 23, .ref 24, .ref 25, .ref 26, .int x.2.2.2.2.1.2.2.2.2.1, .int x.2.2.2.2.1.2.2.2.2.2.1, .int x.2.2.2.2.1.2.2.2.2.2.2]), .inl (0, 20, .inl x.2.2.2.2.1.1), .inl (0, 20, .inl x.2.2.2.2.1.2.1), .inl (0, 20, .inl x.2.2.2.2.1.2.2.1), .inl (0, 400, .inl x.2.2.2.2.1.2.2.2.1), .inr (3, [.ref 28]), .inl (0, 24, .inl x.2.2.2.2.2)]) rfl rfl
theorem pT_Qs {x : zTS} {f : ZH} : pQ x.2.2.2.1 (pT x f) = pT x f := zB_self (bs := 0) (A := [.inr (5, [.ref 1, .ref 5, .ref 10, .ref 15, .ref 22, .ref 27]), .inr (1, [.ref 2, .ref 3, .ref 4, .int x.1.2.2.2.1, .int x.1.2.2.2.2]), .inl (1, 192, .inl x.1.1), .inl (0, 24, .inl x.1.2.1), .inl (1, 8, .inl x.1.2.2.1), .inr (4, [.ref 6, .ref 7, .ref 8, .ref 9, .int x.2.1.2.2.2.2]), .inl (0, 24, .inl x.2.1.1), .inl (0, 24, .inl x.2.1.2.1), .inl (0, 24, .inl x.2.1.2.2.1), .inl (0, 24, .inl x.2.1.2.2.2.1), .inr (4, [.ref 11, .ref 12, .ref 13, .ref 14, .int x.2.2.1.2.2.2.2]), .inl (0, 24, .inl x.2.2.1.1), .inl (0, 24, .inl x.2.2.1.2.1), .inl (0, 24, .inl x.2.2.1.2.2.1), .inl (0, 24, .inl x.2.2.1.2.2.2.1)]) (c := cQ x.2.2.2.1) (B := [.inr (0, [.ref 23, .ref 24, .ref 25, .ref 26, .int x.2.2.2.2.1.2.2.2.2.1, .int x.2.2.2.2.1.2.2.2.2.2.1, .int x.2.2.2.2.1.2.2.2.2.2.2]), .inl (0, 20, .inl x.2.2.2.2.1.1), .inl (0, 20, .inl x.2.2.2.2.1.2.1), .inl (0, 20, .inl x.2.2.2.2.1.2.2.1), .inl (0, 400, .inl x.2.2.2.2.1.2.2.2.1), .inr (3, [.ref 28]), .inl (0, 24, .inl x.2.2.2.2.2)]) rfl
theorem pT_H {x : zTS} {f : ZH} {y : zHS} : pH y (pT x f) = pT (x.1, x.2.1, x.2.2.1, x.2.2.2.1, y, x.2.2.2.2.2) f := zB_part (bs := 0) (A := [.inr (5, [.ref 1, .ref 5, .ref 10, .ref 15, .ref 22, .ref 27]), .inr (1, [.ref 2, .ref 3, .ref 4, .int x.1.2.2.2.1, .int x.1.2.2.2.2]), .inl (1, 192, .inl x.1.1), .inl (0, 24, .inl x.1.2.1), .inl (1, 8, .inl x.1.2.2.1), .inr (4, [.ref 6, .ref 7, .ref 8, .ref 9, .int x.2.1.2.2.2.2]), .inl (0, 24, .inl x.2.1.1), .inl (0, 24, .inl x.2.1.2.1), .inl (0, 24, .inl x.2.1.2.2.1), .inl (0, 24, .inl x.2.1.2.2.2.1), .inr (4, [.ref 11, .ref 12, .ref 13, .ref 14, .int x.2.2.1.2.2.2.2]), .inl (0, 24, .inl x.2.2.1.1), .inl (0, 24, .inl x.2.2.1.2.1), .inl (0, 24, .inl x.2.2.1.2.2.1), .inl (0, 24, .inl x.2.2.1.2.2.2.1), .inr (2, [.ref 16, .ref 17, .ref 18, .ref 19, .ref 20, .ref 21, .int x.2.2.2.1.2.2.2.2.2.2]), .inl (0, 40, .inl x.2.2.2.1.1), .inl (0, 40, .inl x.2.2.2.1.2.1), .inl (0, 40, .inl x.2.2.2.1.2.2.1), .inl (0, 40, .inl x.2.2.2.1.2.2.2.1), .inl (0, 40, .inl x.2.2.2.1.2.2.2.2.1), .inl (0, 40, .inl x.2.2.2.1.2.2.2.2.2.1)]) (c := cH x.2.2.2.2.1) (c' := cH y) (B := [.inr (3, [.ref 28]), .inl (0, 24, .inl x.2.2.2.2.2)]) rfl rfl
theorem pT_Hs {x : zTS} {f : ZH} : pH x.2.2.2.2.1 (pT x f) = pT x f := zB_self (bs := 0) (A := [.inr (5, [.ref 1, .ref 5, .ref 10, .ref 15, .ref 22, .ref 27]), .inr (1, [.ref 2, .ref 3, .ref 4, .int x.1.2.2.2.1, .int x.1.2.2.2.2]), .inl (1, 192, .inl x.1.1), .inl (0, 24, .inl x.1.2.1), .inl (1, 8, .inl x.1.2.2.1), .inr (4, [.ref 6, .ref 7, .ref 8, .ref 9, .int x.2.1.2.2.2.2]), .inl (0, 24, .inl x.2.1.1), .inl (0, 24, .inl x.2.1.2.1), .inl (0, 24, .inl x.2.1.2.2.1), .inl (0, 24, .inl x.2.1.2.2.2.1), .inr (4, [.ref 11, .ref 12, .ref 13, .ref 14, .int x.2.2.1.2.2.2.2]), .inl (0, 24, .inl x.2.2.1.1), .inl (0, 24, .inl x.2.2.1.2.1), .inl (0, 24, .inl x.2.2.1.2.2.1), .inl (0, 24, .inl x.2.2.1.2.2.2.1), .inr (2, [.ref 16, .ref 17, .ref 18, .ref 19, .ref 20, .ref 21, .int x.2.2.2.1.2.2.2.2.2.2]), .inl (0, 40, .inl x.2.2.2.1.1), .inl (0, 40, .inl x.2.2.2.1.2.1), .inl (0, 40, .inl x.2.2.2.1.2.2.1), .inl (0, 40, .inl x.2.2.2.1.2.2.2.1), .inl (0, 40, .inl x.2.2.2.1.2.2.2.2.1), .inl (0, 40, .inl x.2.2.2.1.2.2.2.2.2.1)]) (c := cH x.2.2.2.2.1) (B := [.inr (3, [.ref 28]), .inl (0, 24, .inl x.2.2.2.2.2)]) rfl
theorem pT_V {x : zTS} {f : ZH} {y : zVS} : pV y (pT x f) = pT (x.1, x.2.1, x.2.2.1, x.2.2.2.1, x.2.2.2.2.1, y) f := zB_part (bs := 0) (A := [.inr (5, [.ref 1, .ref 5, .ref 10, .ref 15, .ref 22, .ref 27]), .inr (1, [.ref 2, .ref 3, .ref 4, .int x.1.2.2.2.1, .int x.1.2.2.2.2]), .inl (1, 192, .inl x.1.1), .inl (0, 24, .inl x.1.2.1), .inl (1, 8, .inl x.1.2.2.1), .inr (4, [.ref 6, .ref 7, .ref 8, .ref 9, .int x.2.1.2.2.2.2]), .inl (0, 24, .inl x.2.1.1), .inl (0, 24, .inl x.2.1.2.1), .inl (0, 24, .inl x.2.1.2.2.1), .inl (0, 24, .inl x.2.1.2.2.2.1), .inr (4, [.ref 11, .ref 12, .ref 13, .ref 14, .int x.2.2.1.2.2.2.2]), .inl (0, 24, .inl x.2.2.1.1), .inl (0, 24, .inl x.2.2.1.2.1), .inl (0, 24, .inl x.2.2.1.2.2.1), .inl (0, 24, .inl x.2.2.1.2.2.2.1), .inr (2, [.ref 16, .ref 17, .ref 18, .ref 19, .ref 20, .ref 21, .int x.2.2.2.1.2.2.2.2.2.2]), .inl (0, 40, .inl x.2.2.2.1.1), .inl (0, 40, .inl x.2.2.2.1.2.1), .inl (0, 40, .inl x.2.2.2.1.2.2.1), .inl (0, 40, .inl x.2.2.2.1.2.2.2.1), .inl (0, 40, .inl x.2.2.2.1.2.2.2.2.1), .inl (0, 40, .inl x.2.2.2.1.2.2.2.2.2.1), .inr (0, [.ref 23, .ref 24, .ref 25, .ref 26, .int x.2.2.2.2.1.2.2.2.2.1, .int x.2.2.2.2.1.2.2.2.2.2.1, .int x.2.2.2.2.1.2.2.2.2.2.2]), .inl (0, 20, .inl x.2.2.2.2.1.1), .inl (0, 20, .inl x.2.2.2.2.1.2.1), .inl (0, 20, .inl x.2.2.2.2.1.2.2.1), .inl (0, 400, .inl x.2.2.2.2.1.2.2.2.1)]) (c := cV x.2.2.2.2.2) (c' := cV y) (B := []) rfl rfl
theorem pT_Vs {x : zTS} {f : ZH} : pV x.2.2.2.2.2 (pT x f) = pT x f := zB_self (bs := 0) (A := [.inr (5, [.ref 1, .ref 5, .ref 10, .ref 15, .ref 22, .ref 27]), .inr (1, [.ref 2, .ref 3, .ref 4, .int x.1.2.2.2.1, .int x.1.2.2.2.2]), .inl (1, 192, .inl x.1.1), .inl (0, 24, .inl x.1.2.1), .inl (1, 8, .inl x.1.2.2.1), .inr (4, [.ref 6, .ref 7, .ref 8, .ref 9, .int x.2.1.2.2.2.2]), .inl (0, 24, .inl x.2.1.1), .inl (0, 24, .inl x.2.1.2.1), .inl (0, 24, .inl x.2.1.2.2.1), .inl (0, 24, .inl x.2.1.2.2.2.1), .inr (4, [.ref 11, .ref 12, .ref 13, .ref 14, .int x.2.2.1.2.2.2.2]), .inl (0, 24, .inl x.2.2.1.1), .inl (0, 24, .inl x.2.2.1.2.1), .inl (0, 24, .inl x.2.2.1.2.2.1), .inl (0, 24, .inl x.2.2.1.2.2.2.1), .inr (2, [.ref 16, .ref 17, .ref 18, .ref 19, .ref 20, .ref 21, .int x.2.2.2.1.2.2.2.2.2.2]), .inl (0, 40, .inl x.2.2.2.1.1), .inl (0, 40, .inl x.2.2.2.1.2.1), .inl (0, 40, .inl x.2.2.2.1.2.2.1), .inl (0, 40, .inl x.2.2.2.1.2.2.2.1), .inl (0, 40, .inl x.2.2.2.1.2.2.2.2.1), .inl (0, 40, .inl x.2.2.2.1.2.2.2.2.2.1), .inr (0, [.ref 23, .ref 24, .ref 25, .ref 26, .int x.2.2.2.2.1.2.2.2.2.1, .int x.2.2.2.2.1.2.2.2.2.2.1, .int x.2.2.2.2.1.2.2.2.2.2.2]), .inl (0, 20, .inl x.2.2.2.2.1.1), .inl (0, 20, .inl x.2.2.2.2.1.2.1), .inl (0, 20, .inl x.2.2.2.2.1.2.2.1), .inl (0, 400, .inl x.2.2.2.2.1.2.2.2.1)]) (c := cV x.2.2.2.2.2) (B := []) rfl
theorem pT_a0_0 {x : zTS} {f : ZH} {v : Nat → Int32} : zup (pT x f) 2 (.inl (1, 192, .inl v)) = pT ((v, x.1.2.1, x.1.2.2.1, x.1.2.2.2.1, x.1.2.2.2.2), x.2.1, x.2.2.1, x.2.2.2.1, x.2.2.2.2.1, x.2.2.2.2.2) f := by
  have h := zB_set (bs := 0) (i := 2) (cells := cT x) (f := f) (x := (.inl (1, 192, .inl v))) (by show 2 < 29; decide)
  rw [Nat.zero_add] at h
  exact h
theorem pT_a0_1 {x : zTS} {f : ZH} {v : Nat → Int32} : zup (pT x f) 3 (.inl (0, 24, .inl v)) = pT ((x.1.1, v, x.1.2.2.1, x.1.2.2.2.1, x.1.2.2.2.2), x.2.1, x.2.2.1, x.2.2.2.1, x.2.2.2.2.1, x.2.2.2.2.2) f := by
  have h := zB_set (bs := 0) (i := 3) (cells := cT x) (f := f) (x := (.inl (0, 24, .inl v))) (by show 3 < 29; decide)
  rw [Nat.zero_add] at h
  exact h
theorem pT_a0_2 {x : zTS} {f : ZH} {v : Nat → Int32} : zup (pT x f) 4 (.inl (1, 8, .inl v)) = pT ((x.1.1, x.1.2.1, v, x.1.2.2.2.1, x.1.2.2.2.2), x.2.1, x.2.2.1, x.2.2.2.1, x.2.2.2.2.1, x.2.2.2.2.2) f := by
  have h := zB_set (bs := 0) (i := 4) (cells := cT x) (f := f) (x := (.inl (1, 8, .inl v))) (by show 4 < 29; decide)
  rw [Nat.zero_add] at h
  exact h
theorem pT_a0_3 {x : zTS} {f : ZH} {v : Int32} {u4 : Int32} (e4 : u4 = x.1.2.2.2.2) : zup (pT x f) 1 (.inr (1, [.ref 2, .ref 3, .ref 4, .int v, .int u4])) = pT ((x.1.1, x.1.2.1, x.1.2.2.1, v, x.1.2.2.2.2), x.2.1, x.2.2.1, x.2.2.2.1, x.2.2.2.2.1, x.2.2.2.2.2) f := by
  have h := zB_set (bs := 0) (i := 1) (cells := cT x) (f := f) (x := (.inr (1, [.ref 2, .ref 3, .ref 4, .int v, .int u4]))) (by show 1 < 29; decide)
  rw [Nat.zero_add] at h
  subst e4; exact h
theorem pT_a0_4 {x : zTS} {f : ZH} {v : Int32} {u3 : Int32} (e3 : u3 = x.1.2.2.2.1) : zup (pT x f) 1 (.inr (1, [.ref 2, .ref 3, .ref 4, .int u3, .int v])) = pT ((x.1.1, x.1.2.1, x.1.2.2.1, x.1.2.2.2.1, v), x.2.1, x.2.2.1, x.2.2.2.1, x.2.2.2.2.1, x.2.2.2.2.2) f := by
  have h := zB_set (bs := 0) (i := 1) (cells := cT x) (f := f) (x := (.inr (1, [.ref 2, .ref 3, .ref 4, .int u3, .int v]))) (by show 1 < 29; decide)
  rw [Nat.zero_add] at h
  subst e3; exact h
theorem pT_a1_0 {x : zTS} {f : ZH} {v : Nat → Int32} : zup (pT x f) 6 (.inl (0, 24, .inl v)) = pT (x.1, (v, x.2.1.2.1, x.2.1.2.2.1, x.2.1.2.2.2.1, x.2.1.2.2.2.2), x.2.2.1, x.2.2.2.1, x.2.2.2.2.1, x.2.2.2.2.2) f := by
  have h := zB_set (bs := 0) (i := 6) (cells := cT x) (f := f) (x := (.inl (0, 24, .inl v))) (by show 6 < 29; decide)
  rw [Nat.zero_add] at h
  exact h
theorem pT_a1_1 {x : zTS} {f : ZH} {v : Nat → Int32} : zup (pT x f) 7 (.inl (0, 24, .inl v)) = pT (x.1, (x.2.1.1, v, x.2.1.2.2.1, x.2.1.2.2.2.1, x.2.1.2.2.2.2), x.2.2.1, x.2.2.2.1, x.2.2.2.2.1, x.2.2.2.2.2) f := by
  have h := zB_set (bs := 0) (i := 7) (cells := cT x) (f := f) (x := (.inl (0, 24, .inl v))) (by show 7 < 29; decide)
  rw [Nat.zero_add] at h
  exact h
theorem pT_a1_2 {x : zTS} {f : ZH} {v : Nat → Int32} : zup (pT x f) 8 (.inl (0, 24, .inl v)) = pT (x.1, (x.2.1.1, x.2.1.2.1, v, x.2.1.2.2.2.1, x.2.1.2.2.2.2), x.2.2.1, x.2.2.2.1, x.2.2.2.2.1, x.2.2.2.2.2) f := by
  have h := zB_set (bs := 0) (i := 8) (cells := cT x) (f := f) (x := (.inl (0, 24, .inl v))) (by show 8 < 29; decide)
  rw [Nat.zero_add] at h
  exact h
theorem pT_a1_3 {x : zTS} {f : ZH} {v : Nat → Int32} : zup (pT x f) 9 (.inl (0, 24, .inl v)) = pT (x.1, (x.2.1.1, x.2.1.2.1, x.2.1.2.2.1, v, x.2.1.2.2.2.2), x.2.2.1, x.2.2.2.1, x.2.2.2.2.1, x.2.2.2.2.2) f := by
  have h := zB_set (bs := 0) (i := 9) (cells := cT x) (f := f) (x := (.inl (0, 24, .inl v))) (by show 9 < 29; decide)
  rw [Nat.zero_add] at h
  exact h
theorem pT_a1_4 {x : zTS} {f : ZH} {v : Int32} : zup (pT x f) 5 (.inr (4, [.ref 6, .ref 7, .ref 8, .ref 9, .int v])) = pT (x.1, (x.2.1.1, x.2.1.2.1, x.2.1.2.2.1, x.2.1.2.2.2.1, v), x.2.2.1, x.2.2.2.1, x.2.2.2.2.1, x.2.2.2.2.2) f := by
  have h := zB_set (bs := 0) (i := 5) (cells := cT x) (f := f) (x := (.inr (4, [.ref 6, .ref 7, .ref 8, .ref 9, .int v]))) (by show 5 < 29; decide)
  rw [Nat.zero_add] at h
  exact h
theorem pT_a2_0 {x : zTS} {f : ZH} {v : Nat → Int32} : zup (pT x f) 11 (.inl (0, 24, .inl v)) = pT (x.1, x.2.1, (v, x.2.2.1.2.1, x.2.2.1.2.2.1, x.2.2.1.2.2.2.1, x.2.2.1.2.2.2.2), x.2.2.2.1, x.2.2.2.2.1, x.2.2.2.2.2) f := by
  have h := zB_set (bs := 0) (i := 11) (cells := cT x) (f := f) (x := (.inl (0, 24, .inl v))) (by show 11 < 29; decide)
  rw [Nat.zero_add] at h
  exact h
theorem pT_a2_1 {x : zTS} {f : ZH} {v : Nat → Int32} : zup (pT x f) 12 (.inl (0, 24, .inl v)) = pT (x.1, x.2.1, (x.2.2.1.1, v, x.2.2.1.2.2.1, x.2.2.1.2.2.2.1, x.2.2.1.2.2.2.2), x.2.2.2.1, x.2.2.2.2.1, x.2.2.2.2.2) f := by
  have h := zB_set (bs := 0) (i := 12) (cells := cT x) (f := f) (x := (.inl (0, 24, .inl v))) (by show 12 < 29; decide)
  rw [Nat.zero_add] at h
  exact h
theorem pT_a2_2 {x : zTS} {f : ZH} {v : Nat → Int32} : zup (pT x f) 13 (.inl (0, 24, .inl v)) = pT (x.1, x.2.1, (x.2.2.1.1, x.2.2.1.2.1, v, x.2.2.1.2.2.2.1, x.2.2.1.2.2.2.2), x.2.2.2.1, x.2.2.2.2.1, x.2.2.2.2.2) f := by
  have h := zB_set (bs := 0) (i := 13) (cells := cT x) (f := f) (x := (.inl (0, 24, .inl v))) (by show 13 < 29; decide)
  rw [Nat.zero_add] at h
  exact h
theorem pT_a2_3 {x : zTS} {f : ZH} {v : Nat → Int32} : zup (pT x f) 14 (.inl (0, 24, .inl v)) = pT (x.1, x.2.1, (x.2.2.1.1, x.2.2.1.2.1, x.2.2.1.2.2.1, v, x.2.2.1.2.2.2.2), x.2.2.2.1, x.2.2.2.2.1, x.2.2.2.2.2) f := by
  have h := zB_set (bs := 0) (i := 14) (cells := cT x) (f := f) (x := (.inl (0, 24, .inl v))) (by show 14 < 29; decide)
  rw [Nat.zero_add] at h
  exact h
theorem pT_a2_4 {x : zTS} {f : ZH} {v : Int32} : zup (pT x f) 10 (.inr (4, [.ref 11, .ref 12, .ref 13, .ref 14, .int v])) = pT (x.1, x.2.1, (x.2.2.1.1, x.2.2.1.2.1, x.2.2.1.2.2.1, x.2.2.1.2.2.2.1, v), x.2.2.2.1, x.2.2.2.2.1, x.2.2.2.2.2) f := by
  have h := zB_set (bs := 0) (i := 10) (cells := cT x) (f := f) (x := (.inr (4, [.ref 11, .ref 12, .ref 13, .ref 14, .int v]))) (by show 10 < 29; decide)
  rw [Nat.zero_add] at h
  exact h
theorem pT_a3_0 {x : zTS} {f : ZH} {v : Nat → Int32} : zup (pT x f) 16 (.inl (0, 40, .inl v)) = pT (x.1, x.2.1, x.2.2.1, (v, x.2.2.2.1.2.1, x.2.2.2.1.2.2.1, x.2.2.2.1.2.2.2.1, x.2.2.2.1.2.2.2.2.1, x.2.2.2.1.2.2.2.2.2.1, x.2.2.2.1.2.2.2.2.2.2), x.2.2.2.2.1, x.2.2.2.2.2) f := by
  have h := zB_set (bs := 0) (i := 16) (cells := cT x) (f := f) (x := (.inl (0, 40, .inl v))) (by show 16 < 29; decide)
  rw [Nat.zero_add] at h
  exact h
theorem pT_a3_1 {x : zTS} {f : ZH} {v : Nat → Int32} : zup (pT x f) 17 (.inl (0, 40, .inl v)) = pT (x.1, x.2.1, x.2.2.1, (x.2.2.2.1.1, v, x.2.2.2.1.2.2.1, x.2.2.2.1.2.2.2.1, x.2.2.2.1.2.2.2.2.1, x.2.2.2.1.2.2.2.2.2.1, x.2.2.2.1.2.2.2.2.2.2), x.2.2.2.2.1, x.2.2.2.2.2) f := by
  have h := zB_set (bs := 0) (i := 17) (cells := cT x) (f := f) (x := (.inl (0, 40, .inl v))) (by show 17 < 29; decide)
  rw [Nat.zero_add] at h
  exact h
theorem pT_a3_2 {x : zTS} {f : ZH} {v : Nat → Int32} : zup (pT x f) 18 (.inl (0, 40, .inl v)) = pT (x.1, x.2.1, x.2.2.1, (x.2.2.2.1.1, x.2.2.2.1.2.1, v, x.2.2.2.1.2.2.2.1, x.2.2.2.1.2.2.2.2.1, x.2.2.2.1.2.2.2.2.2.1, x.2.2.2.1.2.2.2.2.2.2), x.2.2.2.2.1, x.2.2.2.2.2) f := by
  have h := zB_set (bs := 0) (i := 18) (cells := cT x) (f := f) (x := (.inl (0, 40, .inl v))) (by show 18 < 29; decide)
  rw [Nat.zero_add] at h
  exact h
theorem pT_a3_3 {x : zTS} {f : ZH} {v : Nat → Int32} : zup (pT x f) 19 (.inl (0, 40, .inl v)) = pT (x.1, x.2.1, x.2.2.1, (x.2.2.2.1.1, x.2.2.2.1.2.1, x.2.2.2.1.2.2.1, v, x.2.2.2.1.2.2.2.2.1, x.2.2.2.1.2.2.2.2.2.1, x.2.2.2.1.2.2.2.2.2.2), x.2.2.2.2.1, x.2.2.2.2.2) f := by
  have h := zB_set (bs := 0) (i := 19) (cells := cT x) (f := f) (x := (.inl (0, 40, .inl v))) (by show 19 < 29; decide)
  rw [Nat.zero_add] at h
  exact h
theorem pT_a3_4 {x : zTS} {f : ZH} {v : Nat → Int32} : zup (pT x f) 20 (.inl (0, 40, .inl v)) = pT (x.1, x.2.1, x.2.2.1, (x.2.2.2.1.1, x.2.2.2.1.2.1, x.2.2.2.1.2.2.1, x.2.2.2.1.2.2.2.1, v, x.2.2.2.1.2.2.2.2.2.1, x.2.2.2.1.2.2.2.2.2.2), x.2.2.2.2.1, x.2.2.2.2.2) f := by
  have h := zB_set (bs := 0) (i := 20) (cells := cT x) (f := f) (x := (.inl (0, 40, .inl v))) (by show 20 < 29; decide)
  rw [Nat.zero_add] at h
  exact h
theorem pT_a3_5 {x : zTS} {f : ZH} {v : Nat → Int32} : zup (pT x f) 21 (.inl (0, 40, .inl v)) = pT (x.1, x.2.1, x.2.2.1, (x.2.2.2.1.1, x.2.2.2.1.2.1, x.2.2.2.1.2.2.1, x.2.2.2.1.2.2.2.1, x.2.2.2.1.2.2.2.2.1, v, x.2.2.2.1.2.2.2.2.2.2), x.2.2.2.2.1, x.2.2.2.2.2) f := by
  have h := zB_set (bs := 0) (i := 21) (cells := cT x) (f := f) (x := (.inl (0, 40, .inl v))) (by show 21 < 29; decide)
  rw [Nat.zero_add] at h
  exact h
theorem pT_a3_6 {x : zTS} {f : ZH} {v : Int32} : zup (pT x f) 15 (.inr (2, [.ref 16, .ref 17, .ref 18, .ref 19, .ref 20, .ref 21, .int v])) = pT (x.1, x.2.1, x.2.2.1, (x.2.2.2.1.1, x.2.2.2.1.2.1, x.2.2.2.1.2.2.1, x.2.2.2.1.2.2.2.1, x.2.2.2.1.2.2.2.2.1, x.2.2.2.1.2.2.2.2.2.1, v), x.2.2.2.2.1, x.2.2.2.2.2) f := by
  have h := zB_set (bs := 0) (i := 15) (cells := cT x) (f := f) (x := (.inr (2, [.ref 16, .ref 17, .ref 18, .ref 19, .ref 20, .ref 21, .int v]))) (by show 15 < 29; decide)
  rw [Nat.zero_add] at h
  exact h
theorem pT_a4_0 {x : zTS} {f : ZH} {v : Nat → Int32} : zup (pT x f) 23 (.inl (0, 20, .inl v)) = pT (x.1, x.2.1, x.2.2.1, x.2.2.2.1, (v, x.2.2.2.2.1.2.1, x.2.2.2.2.1.2.2.1, x.2.2.2.2.1.2.2.2.1, x.2.2.2.2.1.2.2.2.2.1, x.2.2.2.2.1.2.2.2.2.2.1, x.2.2.2.2.1.2.2.2.2.2.2), x.2.2.2.2.2) f := by
  have h := zB_set (bs := 0) (i := 23) (cells := cT x) (f := f) (x := (.inl (0, 20, .inl v))) (by show 23 < 29; decide)
  rw [Nat.zero_add] at h
  exact h
theorem pT_a4_1 {x : zTS} {f : ZH} {v : Nat → Int32} : zup (pT x f) 24 (.inl (0, 20, .inl v)) = pT (x.1, x.2.1, x.2.2.1, x.2.2.2.1, (x.2.2.2.2.1.1, v, x.2.2.2.2.1.2.2.1, x.2.2.2.2.1.2.2.2.1, x.2.2.2.2.1.2.2.2.2.1, x.2.2.2.2.1.2.2.2.2.2.1, x.2.2.2.2.1.2.2.2.2.2.2), x.2.2.2.2.2) f := by
  have h := zB_set (bs := 0) (i := 24) (cells := cT x) (f := f) (x := (.inl (0, 20, .inl v))) (by show 24 < 29; decide)
  rw [Nat.zero_add] at h
  exact h
theorem pT_a4_2 {x : zTS} {f : ZH} {v : Nat → Int32} : zup (pT x f) 25 (.inl (0, 20, .inl v)) = pT (x.1, x.2.1, x.2.2.1, x.2.2.2.1, (x.2.2.2.2.1.1, x.2.2.2.2.1.2.1, v, x.2.2.2.2.1.2.2.2.1, x.2.2.2.2.1.2.2.2.2.1, x.2.2.2.2.1.2.2.2.2.2.1, x.2.2.2.2.1.2.2.2.2.2.2), x.2.2.2.2.2) f := by
  have h := zB_set (bs := 0) (i := 25) (cells := cT x) (f := f) (x := (.inl (0, 20, .inl v))) (by show 25 < 29; decide)
  rw [Nat.zero_add] at h
  exact h
theorem pT_a4_3 {x : zTS} {f : ZH} {v : Nat → Int32} : zup (pT x f) 26 (.inl (0, 400, .inl v)) = pT (x.1, x.2.1, x.2.2.1, x.2.2.2.1, (x.2.2.2.2.1.1, x.2.2.2.2.1.2.1, x.2.2.2.2.1.2.2.1, v, x.2.2.2.2.1.2.2.2.2.1, x.2.2.2.2.1.2.2.2.2.2.1, x.2.2.2.2.1.2.2.2.2.2.2), x.2.2.2.2.2) f := by
  have h := zB_set (bs := 0) (i := 26) (cells := cT x) (f := f) (x := (.inl (0, 400, .inl v))) (by show 26 < 29; decide)
  rw [Nat.zero_add] at h
  exact h
theorem pT_a4_4 {x : zTS} {f : ZH} {v : Int32} {u5 : Int32} (e5 : u5 = x.2.2.2.2.1.2.2.2.2.2.1) {u6 : Int32} (e6 : u6 = x.2.2.2.2.1.2.2.2.2.2.2) : zup (pT x f) 22 (.inr (0, [.ref 23, .ref 24, .ref 25, .ref 26, .int v, .int u5, .int u6])) = pT (x.1, x.2.1, x.2.2.1, x.2.2.2.1, (x.2.2.2.2.1.1, x.2.2.2.2.1.2.1, x.2.2.2.2.1.2.2.1, x.2.2.2.2.1.2.2.2.1, v, x.2.2.2.2.1.2.2.2.2.2.1, x.2.2.2.2.1.2.2.2.2.2.2), x.2.2.2.2.2) f := by
  have h := zB_set (bs := 0) (i := 22) (cells := cT x) (f := f) (x := (.inr (0, [.ref 23, .ref 24, .ref 25, .ref 26, .int v, .int u5, .int u6]))) (by show 22 < 29; decide)
  rw [Nat.zero_add] at h
  subst e5; subst e6; exact h
theorem pT_a4_5 {x : zTS} {f : ZH} {v : Int32} {u4 : Int32} (e4 : u4 = x.2.2.2.2.1.2.2.2.2.1) {u6 : Int32} (e6 : u6 = x.2.2.2.2.1.2.2.2.2.2.2) : zup (pT x f) 22 (.inr (0, [.ref 23, .ref 24, .ref 25, .ref 26, .int u4, .int v, .int u6])) = pT (x.1, x.2.1, x.2.2.1, x.2.2.2.1, (x.2.2.2.2.1.1, x.2.2.2.2.1.2.1, x.2.2.2.2.1.2.2.1, x.2.2.2.2.1.2.2.2.1, x.2.2.2.2.1.2.2.2.2.1, v, x.2.2.2.2.1.2.2.2.2.2.2), x.2.2.2.2.2) f := by
  have h := zB_set (bs := 0) (i := 22) (cells := cT x) (f := f) (x := (.inr (0, [.ref 23, .ref 24, .ref 25, .ref 26, .int u4, .int v, .int u6]))) (by show 22 < 29; decide)
  rw [Nat.zero_add] at h
  subst e4; subst e6; exact h
theorem pT_a4_6 {x : zTS} {f : ZH} {v : Int32} {u4 : Int32} (e4 : u4 = x.2.2.2.2.1.2.2.2.2.1) {u5 : Int32} (e5 : u5 = x.2.2.2.2.1.2.2.2.2.2.1) : zup (pT x f) 22 (.inr (0, [.ref 23, .ref 24, .ref 25, .ref 26, .int u4, .int u5, .int v])) = pT (x.1, x.2.1, x.2.2.1, x.2.2.2.1, (x.2.2.2.2.1.1, x.2.2.2.2.1.2.1, x.2.2.2.2.1.2.2.1, x.2.2.2.2.1.2.2.2.1, x.2.2.2.2.1.2.2.2.2.1, x.2.2.2.2.1.2.2.2.2.2.1, v), x.2.2.2.2.2) f := by
  have h := zB_set (bs := 0) (i := 22) (cells := cT x) (f := f) (x := (.inr (0, [.ref 23, .ref 24, .ref 25, .ref 26, .int u4, .int u5, .int v]))) (by show 22 < 29; decide)
  rw [Nat.zero_add] at h
  subst e4; subst e5; exact h
theorem pT_a5_0 {x : zTS} {f : ZH} {v : Nat → Int32} : zup (pT x f) 28 (.inl (0, 24, .inl v)) = pT (x.1, x.2.1, x.2.2.1, x.2.2.2.1, x.2.2.2.2.1, v) f := by
  have h := zB_set (bs := 0) (i := 28) (cells := cT x) (f := f) (x := (.inl (0, 24, .inl v))) (by show 28 < 29; decide)
  rw [Nat.zero_add] at h
  exact h
theorem pT_pM {x : zTS} {y : zMS} {f : ZH} : pT x (pM y f) = pM y (pT x f) := zB_swap (Or.inl (by show 0 + 29 ≤ 29; decide))
def pO (x : Nat → Int64) (f : ZH) : ZH := zB 44 [.inl (2, 1, .inr (.inl x))] f
theorem pO_0 {x : Nat → Int64} {f : ZH} : pO x f 44 = .inl (2, 1, .inr (.inl x)) := zB_in (i := 0) (by show 0 < 1; decide)
theorem pO_s {x v : Nat → Int64} {f : ZH} : zup (pO x f) 44 (.inl (2, 1, .inr (.inl v))) = pO v f := zB_set (i := 0) (by show 0 < 1; decide)
theorem pO_pO {x y : Nat → Int64} {f : ZH} : pO x (pO y f) = pO x f := zB_zB rfl
theorem pT_pO {x : zTS} {y : Nat → Int64} {f : ZH} : pT x (pO y f) = pO y (pT x f) := zB_swap (Or.inl (by show 0 + 29 ≤ 44; decide))
theorem pM_pO {x : zMS} {y : Nat → Int64} {f : ZH} : pM x (pO y f) = pO y (pM x f) := zB_swap (Or.inl (by show 29 + 15 ≤ 44; decide))
