/-! the deriving object and the book in the store -/
abbrev DvS : Type := List En × List Nat × (Nat → Nat) × Nat × Bool × Nat
def nxt (Q : List Rl) (S : Nat → Nat) (sc : Int32) (E : List En) (Lt : List Nat) (v : Nat → Nat) (sa : Nat) (nw : Bool) (rc : Nat) : Int32 × DvS :=
  if sc = -3 then (-3, (E, Lt, v, sa, nw, rc)) else if nI sa < sc then
    (if tmc (cds E).length (nrF (cds E) Lt S sa nw Q 0 (v, [])).2 then (-5, (E, Lt, (nrF (cds E) Lt S sa nw Q 0 (v, [])).1, sa, nw, rc))
     else (nI (nrF (cds E) Lt S sa nw Q 0 (v, [])).2.length, (clE (rc + 1) E (nrF (cds E) Lt S sa nw Q 0 (v, [])).2, cds (nrF (cds E) Lt S sa nw Q 0 (v, [])).2, (nrF (cds E) Lt S sa nw Q 0 (v, [])).1, sa + (if (nrF (cds E) Lt S sa nw Q 0 (v, [])).2 = [] then 1 else 0), decide ((nrF (cds E) Lt S sa nw Q 0 (v, [])).2 = []), rc + 1)))
  else (-4, (E, Lt, v, sa, nw, rc))
def dvA (X : gs_X) (σ : gs_St) (dv bk tu ma la cm ac ai ab lc li lb mc mi mb va : Nat) (E : List En) (Lt : List Nat) (v : Nat → Nat) (sa : Nat) (nw : Bool) (rc : Nat) : Prop :=
  ∃ (cs ci cr ds vs a9 b9 c9 : Nat → Int32) (z9 : Int32), σ dv = some (gs_ob 1 [.ref bk, .ref tu, .ref ma, .ref la, .ref cm, .int (nI sa), .int (bI nw), .int (nI rc)]) ∧
    σ tu = some (gs_ob 6 [.ref ac, .ref ai, .ref ab, .int (nI E.length)]) ∧ σ ac = some (gs_ia X 301 cs) ∧ σ ai = some (gs_ia X 301 ci) ∧ σ ab = some (gs_ia X 301 cr) ∧
    σ la = some (gs_ob 6 [.ref lc, .ref li, .ref lb, .int (nI Lt.length)]) ∧ σ lc = some (gs_ia X 301 ds) ∧
    σ cm = some (gs_ob 6 [.ref mc, .ref mi, .ref mb, .int z9]) ∧ σ mc = some (gs_ia X 301 a9) ∧ σ mi = some (gs_ia X 301 b9) ∧ σ mb = some (gs_ia X 301 c9) ∧
    σ ma = some (gs_ob 3 [.ref tu, .ref va]) ∧ σ va = some (gs_ia X 8 vs) ∧
    tuB E ∧ tuR E cs ci cr ∧ E.length ≤ 300 ∧ Lt.Pairwise (· ≤ ·) ∧ Lt.length ≤ 301 ∧ (∀ j x, Lt[j]? = some x → ds j = nI x ∧ x < 2 ^ 30) ∧ vOK vs v
def bkA (X : gs_X) (σ : gs_St) (bk co ru sr nr : Nat) (sc : Int32) (Q : List Rl) (S : Nat → Nat) : Prop :=
  ∃ (fR : Nat → Option Nat) (sf : Nat → Int32), σ bk = some (gs_ob 5 [.ref co, .ref ru, .ref sr, .int (nI nr), .int (nI Q.length), .int sc]) ∧ σ ru = some (gs_qa X 2 24 fR) ∧ σ sr = some (gs_ia X 12 sf) ∧
    Q.length ≤ 24 ∧ sOK sf S 288 ∧ ∀ i R, Q[i]? = some R → ruB R ∧ rsv R ∧ ∃ a, fR i = some a ∧ ruAt X σ a R
theorem drop_cons9 {α : Type} {Q : List α} {i : Nat} {R : α} (h : Q[i]? = some R) : Q.drop i = R :: Q.drop (i + 1) := by
  obtain ⟨h1, h2⟩ := List.getElem?_eq_some_iff.mp h
  rw [List.drop_eq_getElem_cons h1, h2]
theorem tuB_nil : tuB [] := ⟨List.Pairwise.nil, by simp, fun x hx => by cases hx⟩
theorem tuR_nil {a b c : Nat → Int32} : tuR [] a b c := fun j x h => by simp at h
