/-! ===== what the calls do, on the table ===== -/
abbrev reach (A : AT) (a b : Nat) : Prop := A 3 a = 1 ∧ A 3 b = 1 ∧ A 9 (a * 5 + b) = 1
def lastT (A : AT) (c : Nat) : Nat := if A 5 c = 0 then 0 else A 7 (c * 12 + (A 5 c - 1))
abbrev far (A : AT) (a b : Nat) : Prop := lastT A b < lastT A a ∨ (lastT A a = lastT A b ∧ A 5 b ≤ A 5 a)
abbrev likeP (A : AT) (a b p : Nat) : Prop := A 7 (a * 12 + p) = A 7 (b * 12 + p) ∧ A 8 (a * 12 + p) = A 8 (b * 12 + p)
def alikeL (A : AT) (a b : Nat) : Nat → Nat → Nat
  | 0, p => p
  | k + 1, p => if p < A 5 a ∧ p < A 5 b ∧ likeP A a b p then alikeL A a b k (p + 1) else p
def alike (A : AT) (a b : Nat) : Nat := alikeL A a b 12 0
def takeT (A : AT) (c t : Nat) : AT := aset (aset (aset A 0 c t) 1 c 0) 2 c 0
def askEnd (A : AT) (c v : Nat) : Nat × AT := if v < 3 then (v, A) else (v, aset (aset A 2 c 1) 10 1 (A 10 1 + 1))
def askVote (A : AT) (c b : Nat) : AT := aset (aset A 1 b (c + 1)) 4 b 0
def askTake (A : AT) (c b : Nat) : AT := if A 0 b < A 0 c then takeT A b (A 0 c) else A
def askL (c : Nat) : Nat → AT → Nat → Nat × AT
  | 0, A, v => askEnd A c v
  | k + 1, A, v =>
    if reach A c (4 - k) then
      if A 0 c < A 0 (4 - k) then (0, takeT A c (A 0 (4 - k)))
      else if (askTake A c (4 - k)) 1 (4 - k) = 0 ∧ far (askTake A c (4 - k)) c (4 - k) then askL c k (askVote (askTake A c (4 - k)) c (4 - k)) (v + 1)
      else askL c k (askTake A c (4 - k)) v
    else askL c k A v
def askStart (A : AT) (c : Nat) : AT := aset (aset (aset (aset A 10 0 (A 10 0 + 1)) 0 c (A 0 c + 1)) 1 c (c + 1)) 4 c 0
def ask (A : AT) (c : Nat) : Nat × AT := askL c 5 (askStart A c) 1
def copyL (a b : Nat) : Nat → AT → Nat → AT
  | 0, A, _ => A
  | k + 1, A, p => copyL a b k (aset (aset A 7 (b * 12 + p) (A 7 (a * 12 + p))) 8 (b * 12 + p) (A 8 (a * 12 + p))) (p + 1)
def copyS (A : AT) (a b : Nat) : AT := aset (copyL a b (A 5 a - A 5 b) A (A 5 b)) 5 b (max (A 5 b) (A 5 a))
def tearS (A : AT) (a b : Nat) : AT := if alike A a b < A 5 a ∧ alike A a b < A 5 b then aset (aset A 10 3 (A 10 3 + (A 5 b - alike A a b))) 5 b (alike A a b) else A
def visitT (A : AT) (a b : Nat) : AT := aset (aset (askTake A a b) 2 b 0) 4 b 0
def visitS (A : AT) (a b : Nat) : AT := copyS (tearS (visitT A a b) a b) a b
def goL (a : Nat) : Nat → AT → Bool × AT
  | 0, A => (true, A)
  | k + 1, A =>
    if reach A a (4 - k) then
      if A 0 a < A 0 (4 - k) then (false, takeT A a (A 0 (4 - k)))
      else goL a k (visitS A a (4 - k))
    else goL a k A
/-- how many camps of b, b + 1, .. 4 are reached -/
def reachN (A : AT) (a : Nat) : Nat → Nat
  | 0 => 0
  | k + 1 => reachN A a k + (if reach A a k then 1 else 0)
def spreadL (a : Nat) : Nat → AT → AT
  | 0, A => A
  | k + 1, A => spreadL a k (if reach A a (4 - k) then aset A 6 (4 - k) (max (A 6 (4 - k)) (A 6 a)) else A)
def settleC (A : AT) (a : Nat) : AT := spreadL a 5 (if 3 ≤ 1 + reachN A a 5 ∧ lastT A a = A 0 a then aset A 6 a (max (A 6 a) (A 5 a)) else A)
def goC (A : AT) (a : Nat) : AT := match goL a 5 (aset A 10 4 (A 10 4 + 1)) with
  | (false, B) => B
  | (true, B) => settleC B a
def haveN (A : AT) (a n : Nat) : Nat → Nat
  | 0 => 0
  | k + 1 => haveN A a n k + (if reach A a k ∧ n ≤ alike A a k then 1 else 0)
def settleL (a : Nat) : Nat → AT → Nat → AT
  | 0, A, _ => A
  | k + 1, A, n => if A 6 a < n then settleL a k (if 3 ≤ 1 + haveN A a n 5 ∧ A 7 (a * 12 + (n - 1)) = A 0 a then aset A 6 a n else A) (n - 1) else A
def settleR (A : AT) (a : Nat) : AT := spreadL a 5 (settleL a 12 A (A 5 a))
def goR (A : AT) (a : Nat) : AT := match goL a 5 (aset A 10 4 (A 10 4 + 1)) with
  | (false, B) => B
  | (true, B) => settleR B a
abbrev waits (A : AT) (c : Nat) : Prop := A 3 c = 1 ∧ A 2 c = 0
def marchL (go : AT → Nat → AT) : Nat → AT → AT
  | 0, A => A
  | k + 1, A => marchL go k (if A 3 (4 - k) = 1 ∧ A 2 (4 - k) = 1 then go A (4 - k) else A)
def silenceL : Nat → AT → AT
  | 0, A => A
  | k + 1, A => silenceL k (if waits A (4 - k) then aset A 4 (4 - k) (A 4 (4 - k) + 1) else A)
def duskL : Nat → AT → AT
  | 0, A => A
  | k + 1, A => duskL k (if waits A (4 - k) ∧ 3 + (4 - k) ≤ A 4 (4 - k) then (ask A (4 - k)).2 else A)
def hourB (go : AT → Nat → AT) (A : AT) : AT := duskL 5 (silenceL 5 (marchL go 5 A))
def hourC (A : AT) : AT := hourB goC (aset A 10 5 (A 10 5 + 1))
def hourR (A : AT) : AT := aset (hourB goR A) 10 5 (hourB goR A 10 5 + 1)
