def fX3_in_15 (N : Nat)  (y0 : Int32) : Option Int32 := gd (y0 = 0 ∨ y0 = 1) (some y0)
def fX3_in_14 (N : Nat)   : Option Int32 := fX3_in_15 N  0
def mX3_in (N : Nat) (p0 : Int32) (p1 : Int32) (p2 : Int32) : Option Int32 := (if p0 < p1 then fX3_in_14 N   else (if p2 < p0 then fX3_in_14 N   else fX3_in_15 N  1))
def fX3_tries_2 (N : Nat)  : Nat → KT → Int32 → Option (Int32 × KT)
  | 0, _, _ => none
  | n + 1, K, x1 => (if 186 ≤ x1 then some (0, K) else rdA (K 0) 186 x1 (fun v2 => wrA K 1 186 x1 v2 (fun K4 => (fX3_tries_2 N  n) K4 (x1 + 1))))
def mX3_tries (N : Nat) (K : KT)  : Option (Int32 × KT) := fX3_tries_2 N  N K 0
def fX3_ends_6 (N : Nat)  : Nat → KT → Int32 → Int32 → Option (Int32 × KT)
  | 0, _, _, _ => none
  | n + 1, K, x1, x2 => (if 186 ≤ x2 then some (x1, K) else rdA (K 1) 186 x2 (fun v2 => wrA K 0 186 x2 v2 (fun K4 => (fX3_ends_6 N  n) K4 x1 (x2 + 1))))
def fX3_ends_119 (N : Nat)  (K : KT) (x1 : Int32) : Option (Int32 × KT) := ptF K 8 0 ((K 8 0) + 1) (fun K6 => some (x1, K6))
def fX3_ends_85 (N : Nat)  : Nat → KT → Int32 → Int32 → Option (Int32 × KT)
  | 0, _, _, _ => none
  | n + 1, K, x1, x2 => (if 186 ≤ x2 then fX3_ends_119 N  K x1 else rdA (K 1) 186 x2 (fun v8 => wrA K 3 1488 ((186 * (K 8 0)) + x2) v8 (fun K10 => (fX3_ends_85 N  n) K10 x1 (x2 + 1))))
def fX3_ends_83 (N : Nat)  (K : KT) (x1 : Int32) : Option (Int32 × KT) := fX3_ends_85 N  N K x1 0
def fX3_ends_73 (N : Nat)  (K : KT) (x1 : Int32) : Option (Int32 × KT) := ptF K 8 0 ((K 8 0) - 1) (fun K12 => fX3_ends_83 N  K12 x1)
def fX3_ends_44 (N : Nat)  : Nat → KT → Int32 → Int32 → Option (Int32 × KT)
  | 0, _, _, _ => none
  | n + 1, K, x1, x2 => (if 1302 ≤ x2 then fX3_ends_73 N  K x1 else rdA (K 3) 1488 (186 + x2) (fun v14 => wrA K 3 1488 x2 v14 (fun K16 => (fX3_ends_44 N  n) K16 x1 (x2 + 1))))
def mX3_ends (N : Nat) (K : KT) (p0 : Int32) : Option (Int32 × KT) := (if 0 ≤ p0 then (if (K 8 0) = 8 then fX3_ends_44 N  N K p0 0 else fX3_ends_83 N  K p0) else fX3_ends_6 N  N K p0 0)
def mX3_refuses (N : Nat) (K : KT) (p0 : Int32) (p1 : Int32) : Option (Int32 × KT) := ptF K 8 6 p0 (fun K1 => ptF K1 8 7 p1 (fun K2 => ptF K2 8 8 ((-4)) (fun K3 => some ((-3), K3))))
def mX3_isCamp (N : Nat) (p0 : Int32) : Option Int32 := bdP (mX3_in N p0 0 4) (fun v1 => gd (v1 = 0 ∨ v1 = 1) (some v1))
def mX3_of (N : Nat) (K : KT) (p0 : Int32) (p1 : Int32) : Option Int32 := rdA (K 0) 186 ((31 + (31 * p0)) + p1) (fun v1 => some v1)
def mX3_sets (N : Nat) (K : KT) (p0 : Int32) (p1 : Int32) (p2 : Int32) : Option (Int32 × KT) := wrA K 0 186 ((31 + (31 * p0)) + p1) p2 (fun K1 => some (0, K1))
def mX3_page (N : Nat) (K : KT) (p0 : Int32) (p1 : Int32) (p2 : Int32) : Option Int32 := bdP (mX3_of N K p0 ((7 + (2 * p1)) + p2)) (fun v1 => some v1)
def fX3_isAwake_14 (N : Nat) (K : KT)  (y0 : Int32) : Option Int32 := gd (y0 = 0 ∨ y0 = 1) (some y0)
def mX3_isAwake (N : Nat) (K : KT) (p0 : Int32) : Option Int32 := bdP (mX3_of N K p0 3) (fun v1 => (if v1 = 0 then fX3_isAwake_14 N K  1 else fX3_isAwake_14 N K  0))
def mX3_road (N : Nat) (p0 : Int32) (p1 : Int32) : Option Int32 := some ((6 + (5 * ((if p1 < p0 then p1 else p0)))) + ((if p0 < p1 then p1 else p0)))
def fX3_isReached_39 (N : Nat) (K : KT)  (y0 : Int32) : Option Int32 := gd (y0 = 0 ∨ y0 = 1) (some y0)
def fX3_isReached_38 (N : Nat) (K : KT)   : Option Int32 := fX3_isReached_39 N K  0
def mX3_isReached (N : Nat) (K : KT) (p0 : Int32) (p1 : Int32) : Option Int32 := (if p0 = p1 then fX3_isReached_38 N K   else bdP (mX3_isAwake N K p0) (fun v2 => (if v2 = 0 then fX3_isReached_38 N K   else bdP (mX3_isAwake N K p1) (fun v4 => (if v4 = 0 then fX3_isReached_38 N K   else bdP (mX3_road N p0 p1) (fun v6 => rdA (K 0) 186 v6 (fun v7 => (if v7 = 0 then fX3_isReached_39 N K  1 else fX3_isReached_38 N K  ))))))))
def fX3_lastTerm_29 (N : Nat) (K : KT)  (y0 : Int32) : Option Int32 := some y0
def mX3_lastTerm (N : Nat) (K : KT) (p0 : Int32) : Option Int32 := bdP (mX3_of N K p0 6) (fun v1 => (if v1 = 0 then fX3_lastTerm_29 N K  0 else bdP (mX3_of N K p0 6) (fun v3 => bdP (mX3_page N K p0 (v3 - 1) 0) (fun v4 => fX3_lastTerm_29 N K  v4))))
