/-! THE LANGUAGE, by itself: a text is a row of signs s with a length n; an expression is the place where it begins -/
/-- the kind of a sign: 2 two operands, 1 not, 3 choice, 4 let, 5 call, 6 match, 7 digit, 8 name, 9 bound name -/
def kd (x : Int32) : Nat :=
  if x = 43 ∨ x = 45 ∨ x = 42 ∨ x = 47 ∨ x = 60 ∨ x = 61 ∨ x = 38 then 2 else if x = 126 then 1 else if x = 63 then 3 else if x = 36 then 4 else if x = 33 then 5 else if x = 35 then 6
  else if 48 ≤ x ∧ x ≤ 57 then 7 else if 97 ≤ x ∧ x ≤ 106 then 8 else if 107 ≤ x ∧ x ≤ 112 then 9 else 0
/-- which name, which bound name -/
def nmI (x : Int32) : Nat := (x - 97).toNatClampNeg
def lcI (x : Int32) : Nat := (x - 107).toNatClampNeg
/-- behind the expression at k -/
def EN (s : Nat → Int32) : Nat → Nat → Nat
  | 0, k => k
  | d + 1, k => match kd (s k) with
    | 2 => EN s d (EN s d (k + 1))
    | 1 => EN s d (k + 1)
    | 3 => EN s d (EN s d (EN s d (k + 1)))
    | 4 => EN s d (EN s d (k + 2))
    | 5 => EN s d (k + 2)
    | 6 => EN s d (EN s d (EN s d (k + 1) + 1) + 1)
    | _ => k + 1
def bSet (b : Nat → Bool) (i : Nat) : Nat → Bool := fun j => j == i || b j
/-- an expression of at most d levels begins at k, in a text of n signs, where b are bound -/
def OK (s : Nat → Int32) (n : Nat) : Nat → (Nat → Bool) → Nat → Bool
  | 0, _, _ => false
  | d + 1, b, k => decide (k < n) && match kd (s k) with
    | 2 => OK s n d b (k + 1) && OK s n d b (EN s d (k + 1))
    | 1 => OK s n d b (k + 1)
    | 3 => OK s n d b (k + 1) && (OK s n d b (EN s d (k + 1)) && OK s n d b (EN s d (EN s d (k + 1))))
    | 4 => (decide (k + 1 < n) && decide (kd (s (k + 1)) = 9)) && (OK s n d b (k + 2) && OK s n d (bSet b (lcI (s (k + 1)))) (EN s d (k + 2)))
    | 5 => (decide (k + 1 < n) && decide (kd (s (k + 1)) = 8)) && OK s n d b (k + 2)
    | 6 => OK s n d b (k + 1) && ((decide (EN s d (k + 1) < n) && decide (kd (s (EN s d (k + 1))) = 7)) && (OK s n d b (EN s d (k + 1) + 1) &&
        ((decide (EN s d (EN s d (k + 1) + 1) < n) && decide (kd (s (EN s d (EN s d (k + 1) + 1))) = 7)) && OK s n d b (EN s d (EN s d (k + 1) + 1) + 1))))
    | 7 => true
    | 8 => true
    | 9 => b (lcI (s k))
    | _ => false
/-- the names that it uses, as bits -/
def NM (s : Nat → Int32) : Nat → Nat → Int32
  | 0, _ => 0
  | d + 1, k => match kd (s k) with
    | 2 => NM s d (k + 1) ||| NM s d (EN s d (k + 1))
    | 1 => NM s d (k + 1)
    | 3 => NM s d (k + 1) ||| (NM s d (EN s d (k + 1)) ||| NM s d (EN s d (EN s d (k + 1))))
    | 4 => NM s d (k + 2) ||| NM s d (EN s d (k + 2))
    | 5 => (1 <<< (nI (nmI (s (k + 1))) &&& 31)) ||| NM s d (k + 2)
    | 6 => NM s d (k + 1) ||| (NM s d (EN s d (k + 1) + 1) ||| NM s d (EN s d (EN s d (k + 1) + 1) + 1))
    | 8 => 1 <<< (nI (nmI (s k)) &&& 31)
    | _ => 0
/-- e holds the ends of the expression at k and of all in it -/
def EO (s : Nat → Int32) (e : Nat → Int32) : Nat → Nat → Prop
  | 0, _ => True
  | d + 1, k => e k = nI (EN s (d + 1) k) ∧ match kd (s k) with
    | 2 => EO s e d (k + 1) ∧ EO s e d (EN s d (k + 1))
    | 1 => EO s e d (k + 1)
    | 3 => EO s e d (k + 1) ∧ EO s e d (EN s d (k + 1)) ∧ EO s e d (EN s d (EN s d (k + 1)))
    | 4 => EO s e d (k + 2) ∧ EO s e d (EN s d (k + 2))
    | 5 => EO s e d (k + 2)
    | 6 => EO s e d (k + 1) ∧ EO s e d (EN s d (k + 1) + 1) ∧ EO s e d (EN s d (EN s d (k + 1) + 1) + 1)
    | _ => True
