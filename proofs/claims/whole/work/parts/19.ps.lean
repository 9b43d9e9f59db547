/-! ===== a formula's grammar, by functions ===== -/
/-- FAULT and its place, or where it stops and the steps -/
abbrev ps_R : Type := (Nat × Nat) ⊕ (Nat × List (Int32 × Int32))
/-- first x, then y from where x stopped -/
def ps_th (x : ps_R) (f : Nat → List (Int32 × Int32) → ps_R) : ps_R := match x with
  | .inl e => .inl e
  | .inr q => f q.1 q.2
def ps_sign (B : Nat → Int32) (z : Nat) (c : Int32) (a : Nat) (cs : List (Int32 × Int32)) : ps_R := if B (tx_sk B z a) = c then .inr (tx_sk B z a + 1, cs) else .inl (1, tx_sk B z a)
def ps_fu : Nat := 601
theorem ps_fu_eq : ps_fu = 601 := rfl
def ps_many (B : Nat → Int32) (z : Nat) (u : Nat → ps_R) (s1 s2 h1 h2 : Int32) : Nat → Nat → List (Int32 × Int32) → ps_R
  | 0, a, cs => .inr (a, cs)
  | n + 1, a, cs => if B (tx_sk B z a) = s1 then ps_th (u (tx_sk B z a + 1)) (fun b ds => ps_many B z u s1 s2 h1 h2 n b (cs ++ ds ++ [(h1, 0)])) else if B (tx_sk B z a) = s2 then ps_th (u (tx_sk B z a + 1)) (fun b ds => ps_many B z u s1 s2 h1 h2 n b (cs ++ ds ++ [(h2, 0)])) else .inr (tx_sk B z a, cs)
def ps_prod (B : Nat → Int32) (z : Nat) (u : Nat → ps_R) (a : Nat) : ps_R := ps_th (u a) (fun b cs => ps_many B z u 42 47 4 5 ps_fu b cs)
def ps_sum (B : Nat → Int32) (z : Nat) (u : Nat → ps_R) (a : Nat) : ps_R := ps_th (ps_prod B z u a) (fun b cs => ps_many B z (ps_prod B z u) 43 45 2 3 ps_fu b cs)
/-- one that opens nothing -/
def ps_atom (B : Nat → Int32) (z a1 : Nat) : ps_R :=
  if tx_wd B z a1 ∈ tx_knowns then .inr (a1 + (tx_wd B z a1).length, [(1, tx_ix (tx_wd B z a1) tx_knowns 0)])
  else if (tx_num B z 0 999 a1).2.1 = 0 then .inr ((tx_num B z 0 999 a1).1, [(0, nI (tx_num B z 0 999 a1).2.2.2)])
  else .inl ((tx_num B z 0 999 a1).2.1, (tx_num B z 0 999 a1).2.2.1)
def ps_least : List Nat := [12, 5, 1, 19, 20]
def ps_most : List Nat := [13, 15, 19, 20]
def ps_pair (B : Nat → Int32) (z : Nat) (sum : Nat → ps_R) (h : Int32) (a : Nat) : ps_R :=
  ps_th (ps_sign B z 91 a []) (fun b _ => ps_th (sum b) (fun c cs => ps_th (ps_sign B z 44 c cs) (fun e cs => ps_th (sum e) (fun f ds => ps_sign B z 93 f (cs ++ ds ++ [(h, 0)])))))
def ps_par (B : Nat → Int32) (z : Nat) (sum : Nat → ps_R) (a : Nat) : ps_R := ps_th (sum a) (fun b cs => ps_sign B z 41 b cs)
def ps_one (B : Nat → Int32) (z : Nat) : Nat → Nat → ps_R
  | 0, a => if tx_wd B z (tx_sk B z a) = ps_least ∨ tx_wd B z (tx_sk B z a) = ps_most ∨ B (tx_sk B z a) = 40 then .inl (3, tx_sk B z a) else ps_atom B z (tx_sk B z a)
  | r + 1, a => if tx_wd B z (tx_sk B z a) = ps_least then ps_pair B z (ps_sum B z (ps_one B z r)) 6 (tx_sk B z a + 5) else if tx_wd B z (tx_sk B z a) = ps_most then ps_pair B z (ps_sum B z (ps_one B z r)) 7 (tx_sk B z a + 4) else if B (tx_sk B z a) = 40 then ps_par B z (ps_sum B z (ps_one B z r)) (tx_sk B z a + 1) else ps_atom B z (tx_sk B z a)
/-- a reader that, without FAULT, goes on by at least one byte, and by no fewer than its steps, and stays in the text -/
def ps_gd (z : Nat) (u : Nat → ps_R) : Prop := ∀ a, a ≤ z → match u a with
  | .inl e => 1 ≤ e.1 ∧ e.1 ≤ 4 ∧ e.2 ≤ z
  | .inr q => a + q.2.length ≤ q.1 ∧ q.1 ≤ z ∧ a < q.1

