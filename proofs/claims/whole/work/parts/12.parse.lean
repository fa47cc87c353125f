/-! reading a text as a pattern: the pattern or nothing, and the place behind it or where it is wrong -/
def p_is (tx : Nat → Int) (len : Nat) (c : Int) (at_ : Nat) : Bool := decide (at_ < len ∧ tx at_ = c)
def p_dig (tx : Nat → Int) (len : Nat) (low : Int) (at_ : Nat) : Option Int × Nat :=
  if at_ < len ∧ low ≤ tx at_ - 48 ∧ tx at_ - 48 ≤ 9 then (some (tx at_ - 48), at_ + 1) else (none, at_)
/-- k, n, r of an operator -/
def p_digs (tx : Nat → Int) (len : Nat) (kd : Int) (at_ : Nat) : Option (Int × Int × Int) × Nat :=
  if kd = 70 ∨ kd = 83 ∨ kd = 86 then
    match p_dig tx len 1 at_ with
    | (none, a) => (none, a)
    | (some k, a) => (some (k, 1, 0), a)
  else if kd = 76 then
    match p_dig tx len 1 at_ with
    | (none, a) => (none, a)
    | (some k, a) => match p_dig tx len 1 a with
      | (none, a) => (none, a)
      | (some n, a) => (some (k, n, 0), a)
  else if kd = 69 then
    match p_dig tx len 0 at_ with
    | (none, a) => (none, a)
    | (some k, a) => match p_dig tx len (max 1 k) a with
      | (none, a) => (none, a)
      | (some n, a) => match p_dig tx len 0 a with
        | (none, a) => (none, a)
        | (some r, a) => (some (k, n, r), a)
  else (some (1, 1, 0), at_)
/-- the patterns of a group; fuel: how many more it may have; the first one is wanted -/
def p_grp {d : Nat} (pr : Nat → Option (PT d) × Nat) (tx : Nat → Int) (len : Nat) (cl : Int) : Nat → List (PT d) → Nat → Option (List (PT d)) × Nat
  | 0, acc, at_ => (some acc, at_)
  | k + 1, acc, at_ =>
    if acc ≠ [] ∧ p_is tx len cl at_ = true then (some acc, at_)
    else match pr at_ with
      | (none, a) => (none, a)
      | (some t, a) => p_grp pr tx len cl k (acc ++ [t]) a
/-- so many patterns, one behind the other -/
def p_kids {d : Nat} (pr : Nat → Option (PT d) × Nat) : Nat → List (PT d) → Nat → Option (List (PT d)) × Nat
  | 0, acc, at_ => (some acc, at_)
  | k + 1, acc, at_ => match pr at_ with
    | (none, a) => (none, a)
    | (some t, a) => p_kids pr k (acc ++ [t]) a
def p_close (kd : Int) : Int := if kd = 91 then 93 else if kd = 60 then 62 else 125
def p_step {d : Nat} (pr : Nat → Option (PT d) × Nat) (tx : Nat → Int) (len : Nat) (at_ : Nat) : Option (PT (d + 1)) × Nat :=
  if len ≤ at_ then (none, at_)
  else if tx at_ = 91 ∨ tx at_ = 60 ∨ tx at_ = 123 then
    match p_grp pr tx len (p_close (tx at_)) 9 [] (at_ + 1) with
    | (none, a) => (none, a)
    | (some cs, a) => if p_is tx len (p_close (tx at_)) a = true then (some (tr_mk (tx at_) 1 (cs.length : Int) 0 cs), a + 1) else (none, a)
  else if tx at_ = 70 ∨ tx at_ = 83 ∨ tx at_ = 76 ∨ tx at_ = 82 ∨ tx at_ = 69 ∨ tx at_ = 86 then
    match p_digs tx len (tx at_) (at_ + 1) with
    | (none, a) => (none, a)
    | (some (k, n, r), a) => match p_kids pr (if tx at_ = 86 then 2 else 1) [] a with
      | (none, a) => (none, a)
      | (some cs, a) => (some (tr_mk (tx at_) k n r cs), a)
  else if tx at_ = 126 ∨ (97 ≤ tx at_ ∧ tx at_ ≤ 122) then (some (tr_mk (tx at_) 1 1 0 []), at_ + 1)
  else (none, at_)
def prs_ (tx : Nat → Int) (len : Nat) : (d : Nat) → Nat → Option (PT d) × Nat
  | 0 => fun at_ => (none, at_)
  | d + 1 => p_step (prs_ tx len d) tx len
theorem prs_s (tx : Nat → Int) (len d : Nat) : prs_ tx len (d + 1) = p_step (prs_ tx len d) tx len := rfl
