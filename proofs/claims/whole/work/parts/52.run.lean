/-! the abstract run. A state S: 0 heats, 1 where (0 rack, 1 + j place j, 10 + a anvil a), 2 steps done, 3 minutes worked at the step, 4 finished (0 not, t + 1 at the minute t), 5 stops by cold, 6 times heated -/
def dnA (F S : Fg) (k : Nat) : Bool := decide (S 2 k = F 4 k)
def ndA (F S : Fg) (k : Nat) : Nat := F 5 (5 * k + S 2 k)
def rdA (F S : Fg) (k : Nat) : Bool := !(dnA F S k) && decide (S 1 k < 10) && decide (ndA F S k + F 9 1 ≤ S 0 k)
def smA (F : Fg) (k : Nat) : Nat → Nat → Nat
  | _, 0 => 0
  | s, c + 1 => F 6 (5 * k + s) + smA F k (s + 1) c
def lfA (F S : Fg) (k : Nat) : Nat := smA F k (S 2 k) (F 4 k - S 2 k) - S 3 k
def btA (F S : Fg) (k b : Nat) : Bool := if F 9 2 = 1 then decide (S 0 b < S 0 k) else if F 9 2 = 2 then decide (lfA F S k < lfA F S b) else false
def pickA (F S : Fg) : List Nat → Option Nat → Option Nat
  | [], b => b
  | k :: r, none => pickA F S r (if rdA F S k = true then some k else none)
  | k :: r, some b => pickA F S r (if (rdA F S k && btA F S k b) = true then some k else some b)
def wtA (F S : Fg) (ord : List Nat) : Option Nat := ord.find? (fun k => !(dnA F S k) && decide (S 1 k = 0) && !(rdA F S k))
def tkA (S : Fg) (ord : List Nat) (v : Nat) : Bool := ord.any (fun k => decide (S 1 k = v))
def upA (S : Fg) (c k v : Nat) : Fg := fun c' k' => if c' = c ∧ k' = k then v else S c' k'
def anS (F : Fg) (ord : List Nat) (v : Nat) (S : Fg) : Fg := if tkA S ord (10 + v) = true then S else match pickA F S ord none with
  | none => S
  | some k => upA S 1 k (10 + v)
def anA (F : Fg) (ord : List Nat) : Nat → Nat → Fg → Fg
  | 0, _, S => S
  | c + 1, v, S => anA F ord c (v + 1) (anS F ord v S)
def plS (F : Fg) (ord : List Nat) (v : Nat) (S : Fg) : Fg := if tkA S ord (1 + v) = true then S else match wtA F S ord with
  | none => S
  | some k => upA (upA S 1 k (1 + v)) 6 k (S 6 k + 1)
def plA (F : Fg) (ord : List Nat) : Nat → Nat → Fg → Fg
  | 0, _, S => S
  | c + 1, v, S => plA F ord c (v + 1) (plS F ord v S)
