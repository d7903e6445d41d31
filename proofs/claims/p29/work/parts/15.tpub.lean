def fEntF (σ : zTS) : Option Nat := fFind (fIsD σ.1.1 σ.1.2.1 σ.1.2.2.1 (tn σ.1.2.2.2.2)) (tn (sTags σ)) (tn (sTags σ)) 0
def fNewT (σ : zTS) : zTS := ((((fun j => if tn (sTags σ) * 8 ≤ j ∧ j < tn (sTags σ) * 8 + tn σ.1.2.2.2.2 then σ.1.2.2.1 (j - tn (sTags σ) * 8) else σ.1.1 j), upd σ.1.2.1 (tn (sTags σ)) σ.1.2.2.2.2, σ.1.2.2.1, nI (tn (sTags σ) + 1), 0) : zNS), fWork (upd σ.2.1.1 (tn (sTags σ)) (-1), σ.2.1.2.1, σ.2.1.2.2.1, σ.2.1.2.2.2.1, nI (tn (sTags σ) + 1)) (tn (sTags σ) + 1), σ.2.2)
def fEnt (σ : zTS) : Int32 × zTS := match fEntF σ with
  | some t => (nI t, wN σ (σ.1.1, σ.1.2.1, σ.1.2.2.1, σ.1.2.2.2.1, 0))
  | none => (nI (tn (sTags σ)), fNewT σ)
def fTagS (σ : zTS) (x y : Int32) : zTS := fEd (fStart σ) (tn x) (sHand σ (tn x) ||| sh1 (tn y))
def fUntS (σ : zTS) (x y : Int32) : zTS := fEd (fStart σ) (tn x) (sHand σ (tn x) &&& (sh1 (tn y) ^^^ (-1)))
/-- the sets to come of an edit of many things, below the thing i -/
def fMsE (σ : zTS) (k : Int32) (t o : Nat) (w : Int32) (e0 : Nat → Int32) : Nat → Nat → Int32
  | 0 => e0
  | i + 1 => if (if k = 2 then bt (sHand σ i) t else bt w i) then upd (fMsE σ k t o w e0 i) i (fMe k (sHand σ i) t o) else fMsE σ k t o w e0 i
def fMasS (σ : zTS) (k x y : Int32) : zTS := wH σ ((sK σ).1, fMsE σ k (tn x) (tn y) (σ.2.2.2.2.2 (fE σ.2.1.1 (tn (sTags σ)) (tn (sTags σ)) (tn x))) (sK (fStart σ)).2.1 (tn (sThings σ)), (sK σ).2.2)
def fUnd (σ : zTS) : zTS := fRef (wH σ (fBack (sK σ) (tn (sThings σ)) (tn (sK σ).2.2.2.2.2.2) (tn (sK σ).2.2.2.2.2.1)))
def fAsk (σ : zTS) (k x y : Int32) : zTS := wQ σ (upd σ.2.2.2.1.1 (tn (sReqs σ)) k, upd σ.2.2.2.1.2.1 (tn (sReqs σ)) x, upd σ.2.2.2.1.2.2.1 (tn (sReqs σ)) y, upd σ.2.2.2.1.2.2.2.1 (tn (sReqs σ)) 0, σ.2.2.2.1.2.2.2.2.1, σ.2.2.2.1.2.2.2.2.2.1, nI (tn (sReqs σ) + 1))
def fSetV (σ : zTS) (i v : Nat) (x : Bool) : zTS := wQ σ (σ.2.2.2.1.1, σ.2.2.2.1.2.1, σ.2.2.2.1.2.2.1, σ.2.2.2.1.2.2.2.1, upd σ.2.2.2.1.2.2.2.2.1 i (if x then σ.2.2.2.1.2.2.2.2.1 i ||| sh1 v else σ.2.2.2.1.2.2.2.2.1 i &&& (sh1 v ^^^ (-1))), upd σ.2.2.2.1.2.2.2.2.2.1 i (if x then σ.2.2.2.1.2.2.2.2.2.1 i &&& (sh1 v ^^^ (-1)) else σ.2.2.2.1.2.2.2.2.2.1 i ||| sh1 v), σ.2.2.2.1.2.2.2.2.2.2)
def fLead (σ : zTS) (i : Nat) : Int32 := fBc (σ.2.2.2.1.2.2.2.2.1 i) - fBc (σ.2.2.2.1.2.2.2.2.2.1 i)
def fVot (σ : zTS) (i v : Nat) (x : Bool) : zTS := fDec (fSetV σ i v x) i (fLead (fSetV σ i v x) i)
/-- one of two requests can't pass behind the other -/
def fCl1 (σ : zTS) (τ : zRS) (i j : Nat) : Bool := !fAlw (fBeh (wU σ τ) i j) (tn (sTags σ)) σ.2.2.2.1 j
def eX5_type : List Value → ZH → Nat → Prop := fun a h k => zSh h ∧ ∃ x, a = [.ref 0, .int x] ∧ isCh x ∧ ((fSg x = false ∧ k = 0) ∨ (fSg x = true ∧ 8 ≤ (gT h).1.2.2.2.2 ∧ k = 1))
def tX5_type : List Value → ZH → (Option Value → ZH → Prop) → Prop := fun a h Kn => zSh h ∧ ∃ x, a = [.ref 0, .int x] ∧ isCh x ∧ Kn (some (.int ((gT h).1.2.2.2.2 + 1))) (pT (wN (gT h) ((gT h).1.1, (gT h).1.2.1, upd (gT h).1.2.2.1 (tn (gT h).1.2.2.2.2) x, (gT h).1.2.2.2.1, (gT h).1.2.2.2.2 + 1)) h)
def eX5_enter : List Value → ZH → Nat → Prop := fun a h k => zSh h ∧ a = [.ref 0] ∧ (k = 1 ∧ ((gT h).1.2.2.2.2 = 0 ∨ (fEntF (gT h) = none ∧ 24 ≤ sTags (gT h))))
def tX5_enter : List Value → ZH → (Option Value → ZH → Prop) → Prop := fun a h Kn => zSh h ∧ a = [.ref 0] ∧ Kn (some (.int ((fEnt (gT h)).1))) (pT ((fEnt (gT h)).2) h)
def tX5_tags : List Value → ZH → (Option Value → ZH → Prop) → Prop := fun a h Kn => zSh h ∧ a = [.ref 0] ∧ Kn (some (.int (sTags (gT h)))) h
def eX5_letter : List Value → ZH → Nat → Prop := fun a h k => zSh h ∧ ∃ x y, a = [.ref 0, .int x, .int y] ∧ (k = 2 ∧ (¬ okI x (sTags (gT h)) ∨ ¬ okI y ((gT h).1.2.1 (tn x))))
def tX5_letter : List Value → ZH → (Option Value → ZH → Prop) → Prop := fun a h Kn => zSh h ∧ ∃ x y, a = [.ref 0, .int x, .int y] ∧ Kn (some (.int ((gT h).1.1 (tn x * 8 + tn y)))) h
def eX5_addThing : List Value → ZH → Nat → Prop := fun a h k => zSh h ∧ a = [.ref 0] ∧ (k = 1 ∧ 20 ≤ sThings (gT h))
def tX5_addThing : List Value → ZH → (Option Value → ZH → Prop) → Prop := fun a h Kn => zSh h ∧ a = [.ref 0] ∧ Kn (some (.int (sThings (gT h)))) (pT (wH (gT h) ((sK (gT h)).1, (sK (gT h)).2.1, (sK (gT h)).2.2.1, (sK (gT h)).2.2.2.1, sThings (gT h) + 1, (sK (gT h)).2.2.2.2.2)) h)
def tX5_things : List Value → ZH → (Option Value → ZH → Prop) → Prop := fun a h Kn => zSh h ∧ a = [.ref 0] ∧ Kn (some (.int (sThings (gT h)))) h
def eX5_tag : List Value → ZH → Nat → Prop := fun a h k => zSh h ∧ ∃ x y, a = [.ref 0, .int x, .int y] ∧ (k = 2 ∧ (¬ okI x (sThings (gT h)) ∨ ¬ okI y (sTags (gT h))))
def tX5_tag : List Value → ZH → (Option Value → ZH → Prop) → Prop := fun a h Kn => zSh h ∧ ∃ x y, a = [.ref 0, .int x, .int y] ∧ Kn (some (.int (zb (!decide (fChT (fTagS (gT h) x y) = 0))))) (pT (fFin (fTagS (gT h) x y)) h)
def eX5_untag : List Value → ZH → Nat → Prop := fun a h k => zSh h ∧ ∃ x y, a = [.ref 0, .int x, .int y] ∧ (k = 2 ∧ (¬ okI x (sThings (gT h)) ∨ ¬ okI y (sTags (gT h))))
def tX5_untag : List Value → ZH → (Option Value → ZH → Prop) → Prop := fun a h Kn => zSh h ∧ ∃ x y, a = [.ref 0, .int x, .int y] ∧ Kn (some (.int (zb (!decide (fChT (fUntS (gT h) x y) = 0))))) (pT (fFin (fUntS (gT h) x y)) h)
def eX5_mass : List Value → ZH → Nat → Prop := fun a h k => zSh h ∧ ∃ k0 x y, a = [.ref 0, .int k0, .int x, .int y] ∧ (((¬ okI x (sTags (gT h)) ∨ ¬ okI y (sTags (gT h))) ∧ k = 2) ∨ (okI x (sTags (gT h)) ∧ okI y (sTags (gT h)) ∧ ¬ okI k0 3 ∧ k = 0))
def tX5_mass : List Value → ZH → (Option Value → ZH → Prop) → Prop := fun a h Kn => zSh h ∧ ∃ k0 x y, a = [.ref 0, .int k0, .int x, .int y] ∧ Kn (some (.int (fBc (fChT (fMasS (gT h) k0 x y))))) (pT (fFin (fMasS (gT h) k0 x y)) h)
def eX5_undo : List Value → ZH → Nat → Prop := fun a h k => zSh h ∧ a = [.ref 0] ∧ (k = 1 ∧ (sK (gT h)).2.2.2.2.2.1 = 0)
def tX5_undo : List Value → ZH → (Option Value → ZH → Prop) → Prop := fun a h Kn => zSh h ∧ a = [.ref 0] ∧ Kn (some (.int (fBc ((sK (gT h)).2.2.1 (fPrev (tn (sK (gT h)).2.2.2.2.2.2)))))) (pT (fUnd (gT h)) h)
def tX5_kept : List Value → ZH → (Option Value → ZH → Prop) → Prop := fun a h Kn => zSh h ∧ a = [.ref 0] ∧ Kn (some (.int ((sK (gT h)).2.2.2.2.2.1))) h
def eX5_hand : List Value → ZH → Nat → Prop := fun a h k => zSh h ∧ ∃ x, a = [.ref 0, .int x] ∧ (k = 2 ∧ ¬ okI x (sThings (gT h)))
def tX5_hand : List Value → ZH → (Option Value → ZH → Prop) → Prop := fun a h Kn => zSh h ∧ ∃ x, a = [.ref 0, .int x] ∧ Kn (some (.int (sHand (gT h) (tn x)))) h
def eX5_ask : List Value → ZH → Nat → Prop := fun a h k => zSh h ∧ ∃ k0 x y, a = [.ref 0, .int k0, .int x, .int y] ∧ (((¬ okI x (sTags (gT h)) ∨ ¬ okI y (sTags (gT h))) ∧ k = 2) ∨ (okI x (sTags (gT h)) ∧ okI y (sTags (gT h)) ∧ (¬ okI k0 4 ∨ x = y) ∧ k = 0) ∨ (okI x (sTags (gT h)) ∧ okI y (sTags (gT h)) ∧ okI k0 4 ∧ ¬ x = y ∧ 40 ≤ sReqs (gT h) ∧ k = 1))
def tX5_ask : List Value → ZH → (Option Value → ZH → Prop) → Prop := fun a h Kn => zSh h ∧ ∃ k0 x y, a = [.ref 0, .int k0, .int x, .int y] ∧ Kn (some (.int (sReqs (gT h)))) (pT (fAsk (gT h) k0 x y) h)
def eX5_vote : List Value → ZH → Nat → Prop := fun a h k => zSh h ∧ ∃ (x y : Int32) (z : Bool), a = [.ref 0, .int x, .int y, .int (zb z)] ∧ ((¬ okI x (sReqs (gT h)) ∧ k = 2) ∨ (okI x (sReqs (gT h)) ∧ ¬ okI y 10 ∧ k = 0) ∨ (okI x (sReqs (gT h)) ∧ okI y 10 ∧ ¬ qS (gT h).2.2.2.1 (tn x) = 0 ∧ k = 1))
def tX5_vote : List Value → ZH → (Option Value → ZH → Prop) → Prop := fun a h Kn => zSh h ∧ ∃ (x y : Int32) (z : Bool), a = [.ref 0, .int x, .int y, .int (zb z)] ∧ Kn (some (.int (qS (fVot (gT h) (tn x) (tn y) z).2.2.2.1 (tn x)))) (pT (fVot (gT h) (tn x) (tn y) z) h)
def eX5_standing : List Value → ZH → Nat → Prop := fun a h k => zSh h ∧ ∃ x, a = [.ref 0, .int x] ∧ (k = 2 ∧ ¬ okI x (sReqs (gT h)))
def tX5_standing : List Value → ZH → (Option Value → ZH → Prop) → Prop := fun a h Kn => zSh h ∧ ∃ x, a = [.ref 0, .int x] ∧ Kn (some (.int (qS (gT h).2.2.2.1 (tn x)))) h
def eX5_couldPass : List Value → ZH → Nat → Prop := fun a h k => zSh h ∧ ∃ x, a = [.ref 0, .int x] ∧ (k = 2 ∧ ¬ okI x (sReqs (gT h)))
def tX5_couldPass : List Value → ZH → (Option Value → ZH → Prop) → Prop := fun a h Kn => zSh h ∧ ∃ x, a = [.ref 0, .int x] ∧ Kn (some (.int (zb (fOa (gT h) (tn x))))) h
def eX5_alias : List Value → ZH → Nat → Prop := fun a h k => zSh h ∧ ∃ x, a = [.ref 0, .int x] ∧ (k = 2 ∧ ¬ okI x (sTags (gT h)))
def tX5_alias : List Value → ZH → (Option Value → ZH → Prop) → Prop := fun a h Kn => zSh h ∧ ∃ x, a = [.ref 0, .int x] ∧ Kn (some (.int ((gT h).2.1.1 (tn x)))) h
def eX5_end : List Value → ZH → Nat → Prop := fun a h k => zSh h ∧ ∃ x, a = [.ref 0, .int x] ∧ (k = 2 ∧ ¬ okI x (sTags (gT h)))
def tX5_end : List Value → ZH → (Option Value → ZH → Prop) → Prop := fun a h Kn => zSh h ∧ ∃ x, a = [.ref 0, .int x] ∧ Kn (some (.int (nI (fE (gT h).2.1.1 (tn (sTags (gT h))) (tn (sTags (gT h))) (tn x))))) h
def eX5_implies : List Value → ZH → Nat → Prop := fun a h k => zSh h ∧ ∃ x y, a = [.ref 0, .int x, .int y] ∧ (k = 2 ∧ (¬ okI x (sTags (gT h)) ∨ ¬ okI y (sTags (gT h))))
def tX5_implies : List Value → ZH → (Option Value → ZH → Prop) → Prop := fun a h Kn => zSh h ∧ ∃ x y, a = [.ref 0, .int x, .int y] ∧ Kn (some (.int (zb (bt ((gT h).2.1.2.1 (tn x)) (tn y))))) h
def eX5_shown : List Value → ZH → Nat → Prop := fun a h k => zSh h ∧ ∃ x, a = [.ref 0, .int x] ∧ (k = 2 ∧ ¬ okI x (sThings (gT h)))
def tX5_shown : List Value → ZH → (Option Value → ZH → Prop) → Prop := fun a h Kn => zSh h ∧ ∃ x, a = [.ref 0, .int x] ∧ Kn (some (.int (fCol (gT h).2.2.2.2.2 (tn x) (tn (sTags (gT h)))))) h
def eX5_shownByHand : List Value → ZH → Nat → Prop := fun a h k => zSh h ∧ ∃ x, a = [.ref 0, .int x] ∧ (k = 2 ∧ ¬ okI x (sThings (gT h)))
def tX5_shownByHand : List Value → ZH → (Option Value → ZH → Prop) → Prop := fun a h Kn => zSh h ∧ ∃ x, a = [.ref 0, .int x] ∧ Kn (some (.int (fSp (gT h).2.1.2.2.1 (tn (sTags (gT h))) (tn (sTags (gT h))) (fEnds (gT h).2.1.1 (tn (sTags (gT h))) (sHand (gT h) (tn x)) (tn (sTags (gT h))))))) h
def eX5_users : List Value → ZH → Nat → Prop := fun a h k => zSh h ∧ ∃ x, a = [.ref 0, .int x] ∧ (k = 2 ∧ ¬ okI x (sTags (gT h)))
def tX5_users : List Value → ZH → (Option Value → ZH → Prop) → Prop := fun a h Kn => zSh h ∧ ∃ x, a = [.ref 0, .int x] ∧ Kn (some (.int (fBc ((gT h).2.2.2.2.2 (tn x))))) h
def eX5_reason : List Value → ZH → Nat → Prop := fun a h k => zSh h ∧ ∃ x y, a = [.ref 0, .int x, .int y] ∧ (k = 2 ∧ (¬ okI x (sThings (gT h)) ∨ ¬ okI y (sTags (gT h))))
def tX5_reason : List Value → ZH → (Option Value → ZH → Prop) → Prop := fun a h Kn => zSh h ∧ ∃ x y, a = [.ref 0, .int x, .int y] ∧ Kn (some (.int (fNear (gT h).2.1.1 (gT h).2.1.2.2.1 (tn (sTags (gT h))) (sHand (gT h) (tn x)) (tn (sTags (gT h))) 0 (sh1 (tn y))))) h
def eX5_count : List Value → ZH → Nat → Prop := fun a h k => zSh h ∧ ∃ x y z, a = [.ref 0, .int x, .int y, .int z] ∧ (k = 0 ∧ fTs3 (sTags (gT h)) x y z = false)
def tX5_count : List Value → ZH → (Option Value → ZH → Prop) → Prop := fun a h Kn => zSh h ∧ ∃ x y z, a = [.ref 0, .int x, .int y, .int z] ∧ Kn (some (.int (fBc (fMt (gT h) x y z)))) h
def eX5_match : List Value → ZH → Nat → Prop := fun a h k => zSh h ∧ ∃ p x y z, a = [.ref 0, .int p, .int x, .int y, .int z] ∧ ((p < 0 ∧ k = 2) ∨ (¬ p < 0 ∧ fTs3 (sTags (gT h)) x y z = false ∧ k = 0) ∨ (¬ p < 0 ∧ fTs3 (sTags (gT h)) x y z = true ∧ fMem (fMt (gT h) x y z) p 20 0 0 = -1 ∧ k = 2))
def tX5_match : List Value → ZH → (Option Value → ZH → Prop) → Prop := fun a h Kn => zSh h ∧ ∃ p x y z, a = [.ref 0, .int p, .int x, .int y, .int z] ∧ Kn (some (.int (fMem (fMt (gT h) x y z) p 20 0 0))) h
/-- how many of the requests from i on clash with r; the trial object holds whatever -/
def fClP (σ : zTS) (r i : Nat) : Bool := decide (i ≠ r) && (fOa σ i && (!fAlw (fBeh σ r i) (tn (sTags σ)) σ.2.2.2.1 i || !fAlw (fBeh σ i r) (tn (sTags σ)) σ.2.2.2.1 r))
def fCla (σ : zTS) (r : Nat) : Int32 := if fOa σ r then nI (fb_ct (fClP σ r) (tn (sReqs σ))) else 0
def eX5_clashes : List Value → ZH → Nat → Prop := fun a h k => zSh h ∧ ∃ x, a = [.ref 0, .int x] ∧ (k = 2 ∧ ¬ okI x (sReqs (gT h)))
def tX5_clashes : List Value → ZH → (Option Value → ZH → Prop) → Prop := fun a h Kn => zSh h ∧ ∃ x, a = [.ref 0, .int x] ∧ ∀ τ, Kn (some (.int (fCla (gT h) (tn x)))) (pT (wU (gT h) τ) h)
