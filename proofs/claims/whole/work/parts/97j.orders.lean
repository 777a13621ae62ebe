/-! the next order by numbers -/
def oI (o : List Nat) : Nat → Nat
  | 0 => 0
  | m + 1 => if o.getD (m + 1) 0 < o.getD m 0 then oI o m else m + 1
def oJ (o : List Nat) (i : Nat) : Nat → Nat
  | 0 => 0
  | m + 1 => if o.getD (m + 1) 0 < o.getD i 0 then oJ o i m else m + 1
def oW (o : List Nat) (i j : Nat) : List Nat := (o.set i (o.getD j 0)).set j (o.getD i 0)
def oV : Nat → Nat → Nat → List Nat → List Nat
  | 0, _, _, o => o
  | f + 1, a, b, o => if a < b then oV f (a + 1) (b - 1) (oW o a b) else o
def oN (n : Nat) (o : List Nat) : Option (List Nat) := if n = 0 then none else if oI o (n - 1) = 0 then none else some (oV 3 (oI o (n - 1)) (n - 1) (oW o (oI o (n - 1) - 1) (oJ o (oI o (n - 1) - 1) (n - 1))))
def oG1 (n : Nat) : Nat → List Nat → List (List Nat)
  | 0, _ => []
  | f + 1, o => o :: (match oN n o with
    | none => []
    | some o' => oG1 n f o')
def oG2 (n : Nat) : Nat → List Nat → Bool
  | 0, _ => false
  | f + 1, o => match oN n o with
    | none => true
    | some o' => oG2 n f o'
/-- an order: its six numbers below six, those of the courts among them -/
def oOk (n : Nat) (o : List Nat) : Bool := decide (o.length = 6) && (List.range 6).all (fun k => decide (o.getD k 0 < 6)) && (List.range n).all (fun k => decide (o.getD k 0 < n)) && (decide (n = 0) || decide (oI o (n - 1) = 0) || (decide (oI o (n - 1) ≤ oJ o (oI o (n - 1) - 1) (n - 1)) && decide (oJ o (oI o (n - 1) - 1) (n - 1) < 6)))
theorem oAll : ∀ n, n < 7 → (oG1 n 721 [0, 1, 2, 3, 4, 5] = (pl n (2 ^ n - 1)).map (fun l => l ++ [0, 1, 2, 3, 4, 5].drop n) ∧ oG2 n 721 [0, 1, 2, 3, 4, 5] = true ∧ (oG1 n 721 [0, 1, 2, 3, 4, 5]).all (oOk n) = true) := by decide +kernel
