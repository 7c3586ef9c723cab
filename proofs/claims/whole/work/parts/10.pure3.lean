/-! TYPES AND MEANING -/
/-- the type of the expression at k: 1 INT, 2 BOOL, 0 none; tn: the type of a name's value, fn: which names are functions -/
def TY (s : Nat → Int32) (tn : Nat → Int32) (fn : Nat → Bool) : Nat → Nat → Int32
  | 0, _ => 0
  | d + 1, k => match kd (s k) with
    | 2 => if s k = 38 then (if TY s tn fn d (k + 1) = 2 ∧ TY s tn fn d (EN s d (k + 1)) = 2 then 2 else 0)
        else if TY s tn fn d (k + 1) = 1 ∧ TY s tn fn d (EN s d (k + 1)) = 1 then (if s k = 60 ∨ s k = 61 then 2 else 1) else 0
    | 1 => if TY s tn fn d (k + 1) = 2 then 2 else 0
    | 3 => if TY s tn fn d (k + 1) = 2 ∧ TY s tn fn d (EN s d (k + 1)) = TY s tn fn d (EN s d (EN s d (k + 1))) then TY s tn fn d (EN s d (k + 1)) else 0
    | 4 => if TY s tn fn d (k + 2) = 1 then TY s tn fn d (EN s d (k + 2)) else 0
    | 5 => if TY s tn fn d (k + 2) = 1 ∧ fn (nmI (s (k + 1))) = true then 1 else 0
    | 6 => if TY s tn fn d (k + 1) = 1 ∧ TY s tn fn d (EN s d (k + 1) + 1) = 1 ∧ TY s tn fn d (EN s d (EN s d (k + 1) + 1) + 1) = 1 then 1 else 0
    | 8 => tn (nmI (s k))
    | _ => 1
/-- what comes of an evaluation: the error (0: none), the value, the steps made -/
abbrev Rs : Type := Int32 × Int32 × Nat
def bd (r : Rs) (f : Int32 → Nat → Rs) : Rs := if r.1 = 0 then f r.2.1 r.2.2 else (r.1, 0, r.2.2)
def jn (x a b : Int32) (n : Nat) : Rs :=
  if x = 38 then (0, b, n) else if x = 47 then (if b = 0 then (7, 0, n) else (0, a / b, n)) else
  (0, if x = 43 then a + b else if x = 45 then a - b else if x = 42 then a * b else if x = 60 then (if a < b then 1 else 0) else (if a = b then 1 else 0), n)
/-- the expression at k of cell c's text, with these bound values, n steps made before -/
def EV (tx : Nat → Nat → Int32) (df : Nat → Nat) (am : Nat → Int32) (cl : Nat → Int32 → Nat → Rs) (c : Nat) : Nat → Nat → (Nat → Int32) → Nat → Rs
  | 0, _, _, n => (9, 0, n)
  | d + 1, k, lc, n => if 2000 ≤ n then (10, 0, n) else match kd (tx c k) with
    | 2 => bd (EV tx df am cl c d (k + 1) lc (n + 1)) fun v m => if tx c k = 38 ∧ v = 0 then (0, 0, m) else bd (EV tx df am cl c d (EN (tx c) d (k + 1)) lc m) fun w m' => jn (tx c k) v w m'
    | 1 => bd (EV tx df am cl c d (k + 1) lc (n + 1)) fun v m => (0, 1 - v, m)
    | 3 => bd (EV tx df am cl c d (k + 1) lc (n + 1)) fun v m => bd (EV tx df am cl c d (if v = 0 then EN (tx c) d (EN (tx c) d (k + 1)) else EN (tx c) d (k + 1)) lc m) fun w m' => (0, w, m')
    | 4 => bd (EV tx df am cl c d (k + 2) lc (n + 1)) fun v m => bd (EV tx df am cl c d (EN (tx c) d (k + 2)) (upd lc (lcI (tx c (k + 1))) v) m) fun w m' => (0, w, m')
    | 5 => bd (EV tx df am cl c d (k + 2) lc (n + 1)) fun v m => bd (cl (df (nmI (tx c (k + 1)))) v m) fun w m' => (0, w, m')
    | 6 => bd (EV tx df am cl c d (k + 1) lc (n + 1)) fun v m => if v = tx c (EN (tx c) d (k + 1)) - 48 then bd (EV tx df am cl c d (EN (tx c) d (k + 1) + 1) lc m) fun w m' => (0, w, m')
        else if v = tx c (EN (tx c) d (EN (tx c) d (k + 1) + 1)) - 48 then bd (EV tx df am cl c d (EN (tx c) d (EN (tx c) d (k + 1) + 1) + 1) lc m) fun w m' => (0, w, m') else (8, 0, m)
    | 7 => (0, tx c k - 48, n + 1)
    | 8 => (0, am (df (nmI (tx c k))), n + 1)
    | _ => (0, lc (lcI (tx c k)), n + 1)
/-- a call, with so many functions that may still be opened -/
def CL (tx : Nat → Nat → Int32) (df : Nat → Nat) (am : Nat → Int32) : Nat → Nat → Int32 → Nat → Rs
  | 0 => fun _ _ n => (9, 0, n)
  | o + 1 => fun c a n => EV tx df am (CL tx df am o) c 6 2 (fun j => if j = lcI (tx c 1) then a else 0) n
/-! THE BOOK, by itself: rows of Int32: 0 (0 how many signs are typed, 1 the steps), 1 the typed signs, 2 names, 3 lengths, 4 stale, 5 results, 6 values, 7 kinds, 8 runs; 20 + c the signs of cell c -/
def lenN (β : Me) (c : Nat) : Nat := (β 3 c).toNatClampNeg
def thB (β : Me) (c : Nat) : Bool := decide (0 ≤ β 2 c)
def nmN (β : Me) (c : Nat) : Nat := (β 2 c).toNatClampNeg
def hdB (β : Me) (c : Nat) : Bool := decide (β (20 + c) 0 = 92) && (decide (1 < lenN β c) && decide (kd (β (20 + c) 1) = 9))
def stN (β : Me) (c : Nat) : Nat := if hdB β c = true then 2 else 0
def b0 (β : Me) (c : Nat) : Nat → Bool := fun j => hdB β c && decide (j = lcI (β (20 + c) 1))
def wlB (β : Me) (c : Nat) : Bool := thB β c && (OK (β (20 + c)) (lenN β c) 6 (b0 β c) (stN β c) && decide (EN (β (20 + c)) 6 (stN β c) = lenN β c))
def usI (β : Me) (c : Nat) : Int32 := if wlB β c = true then NM (β (20 + c)) 6 (stN β c) else 0
def fnB (β : Me) (c : Nat) : Bool := wlB β c && hdB β c
/-- c uses the name of d -/
def ndB (β : Me) (c d : Nat) : Bool := thB β d && bt (usI β c) (nmN β d)
def egB (β : Me) (c d : Nat) : Bool := decide (d < 10) && (ndB β c d && !(decide (d = c) && fnB β c))
def cyB (β : Me) (c : Nat) : Bool := Wb (egB β) 10 c c
def dpB (β : Me) (c : Nat) : Bool := (List.range 10).any fun d => decide (d ≠ c) && decide (β 2 d = β 2 c)
/-- the last cell below n that defines j; n none -/
def dfL (β : Me) (j : Nat) : Nat → Int32
  | 0 => -1
  | n + 1 => if β 2 n = nI j then nI n else dfL β j n
def dfN (β : Me) (j : Nat) : Nat := (dfL β j 10).toNatClampNeg
def msB (β : Me) (c : Nat) : Bool := (List.range 10).any fun j => bt (usI β c) j && decide (dfL β j 10 < 0)
def ftI (β : Me) (c : Nat) : Int32 := if wlB β c = true then (if dpB β c = true then 2 else if msB β c = true then 3 else if cyB β c = true then 4 else 0) else 1
/-- who becomes stale when these names are touched -/
def nrB (β : Me) (nms : Int32) (d : Nat) : Bool := thB β d && (bt nms (nmN β d) || decide (usI β d &&& nms ≠ 0))
def ngB (β : Me) (c d : Nat) : Bool := decide (d < 10) && ndB β c d
def tcB (β : Me) (nms : Int32) (d : Nat) : Bool := thB β d && (nrB β nms d || (List.range 10).any fun x => nrB β nms x && Wb (ngB β) 10 d x)
/-- work -/
def rdB (β : Me) (c : Nat) : Bool := thB β c && (decide (β 4 c = 1) && (decide (ftI β c ≠ 0) || !((List.range 10).any fun d => decide (d ≠ c) && (ndB β c d && decide (β 4 d = 1)))))
def bkB (β : Me) (c : Nat) : Bool := (List.range 10).any fun d => decide (d ≠ c) && (ndB β c d && (decide (ftI β d ≠ 0) || (decide (β 5 d ≠ 14) && decide (β 5 d ≠ 13))))
def tnI (β : Me) (c j : Nat) : Int32 := if β 2 c = nI j then 0 else if β 5 (dfN β j) = 14 then β 7 (dfN β j) else 0
def fjB (β : Me) (c j : Nat) : Bool := if dfN β j = c then fnB β c else decide (β 5 (dfN β j) = 13)
def tyI (β : Me) (c : Nat) : Int32 := TY (β (20 + c)) (tnI β c) (fjB β c) 6 (stN β c)
def evR (β : Me) (c : Nat) : Rs := EV (fun d => β (20 + d)) (dfN β) (β 6) (CL (fun d => β (20 + d)) (dfN β) (β 6) 5) c 6 0 (fun _ => 0) 0
