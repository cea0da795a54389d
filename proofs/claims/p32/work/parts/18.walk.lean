def fX3_pageOf_24 (N : Nat) (K : KT)   : Option Int32 := some ((-1))
def fX3_pageOf_47 (N : Nat) (K : KT)  (y0 : Int32) : Option Int32 := some y0
def mX3_pageOf (N : Nat) (K : KT) (p0 : Int32) (p1 : Int32) (p2 : Int32) : Option Int32 := bdP (mX3_isCamp N p0) (fun v1 => (if v1 = 0 then fX3_pageOf_24 N K   else bdP (mX3_of N K p0 6) (fun v3 => bdP (mX3_in N p1 0 (v3 - 1)) (fun v4 => (if v4 = 0 then fX3_pageOf_24 N K   else bdP (mX3_in N p2 0 1) (fun v6 => (if v6 = 0 then fX3_pageOf_47 N K  ((-2)) else bdP (mX3_page N K p0 p1 p2) (fun v8 => fX3_pageOf_47 N K  v8))))))))
def fX3_reaches_14 (N : Nat) (K : KT)   : Option Int32 := some ((-1))
def fX3_reaches_30 (N : Nat) (K : KT)  (y0 : Int32) : Option Int32 := some y0
def mX3_reaches (N : Nat) (K : KT) (p0 : Int32) (p1 : Int32) : Option Int32 := bdP (mX3_isCamp N p0) (fun v1 => (if v1 = 0 then fX3_reaches_14 N K   else bdP (mX3_isCamp N p1) (fun v3 => (if v3 = 0 then fX3_reaches_14 N K   else bdP (mX3_isReached N K p0 p1) (fun v5 => (if v5 = 0 then fX3_reaches_30 N K  0 else fX3_reaches_30 N K  1))))))
def fX3_matches_24 (N : Nat) (K : KT)  (y0 : Int32) : Option Int32 := some y0
def fX3_matches_23 (N : Nat) (K : KT)   : Option Int32 := fX3_matches_24 N K  ((-1))
def mX3_matches (N : Nat) (K : KT) (p0 : Int32) (p1 : Int32) : Option Int32 := bdP (mX3_isCamp N p0) (fun v1 => (if v1 = 0 then fX3_matches_23 N K   else bdP (mX3_isCamp N p1) (fun v3 => (if v3 = 0 then fX3_matches_23 N K   else bdP (mX3_alike N K p0 p1) (fun v5 => fX3_matches_24 N K  v5)))))
def mX3_matchesAgain (N : Nat) (K : KT) (p0 : Int32) (p1 : Int32) : Option Int32 := bdP (mX3_matches N K p0 p1) (fun v1 => some v1)
def fX3_captain_41 (N : Nat) (K : KT) (k5 : Int32 → Int32 → Option Int32) (x1 : Int32) (x2 : Int32) : Option Int32 := k5 x1 (x2 + 1)
def fX3_captain_39 (N : Nat) (K : KT) (k5 : Int32 → Int32 → Option Int32) (x2 : Int32) : Option Int32 := fX3_captain_41 N K k5 x2 x2
def fX3_captain_5 (N : Nat) (K : KT)  : Nat → Int32 → Int32 → Option Int32
  | 0, _, _ => none
  | n + 1, x1, x2 => (if 5 ≤ x2 then some x1 else bdP (mX3_of N K x2 2) (fun v2 => (if v2 = 1 then (if x1 < 0 then fX3_captain_39 N K (fX3_captain_5 N K  n) x2 else bdP (mX3_of N K x2 0) (fun v5 => bdP (mX3_of N K x1 0) (fun v6 => (if v5 ≤ v6 then fX3_captain_41 N K (fX3_captain_5 N K  n) x1 x2 else fX3_captain_39 N K (fX3_captain_5 N K  n) x2)))) else fX3_captain_41 N K (fX3_captain_5 N K  n) x1 x2)))
def mX3_captain (N : Nat) (K : KT)  : Option Int32 := fX3_captain_5 N K  N ((-4)) 0
def fX3_holders_24 (N : Nat) (K : KT)   : Option Int32 := some ((-1))
def fX3_holders_51 (N : Nat) (K : KT) (k31 : Int32 → Int32 → Int32 → Int32 → Option Int32) (x1 : Int32) (x2 : Int32) (x3 : Int32) (x4 : Int32) : Option Int32 := k31 x1 x2 x3 (x4 + 1)
def fX3_holders_31 (N : Nat) (K : KT)  : Nat → Int32 → Int32 → Int32 → Int32 → Option Int32
  | 0, _, _, _, _ => none
  | n + 1, x1, x2, x3, x4 => (if 5 ≤ x4 then some x3 else bdP (mX3_alike N K x1 x4) (fun v2 => (if v2 ≤ x2 then fX3_holders_51 N K (fX3_holders_31 N K  n) x1 x2 x3 x4 else fX3_holders_51 N K (fX3_holders_31 N K  n) x1 x2 (x3 + 1) x4)))
def mX3_holders (N : Nat) (K : KT) (p0 : Int32) (p1 : Int32) : Option Int32 := bdP (mX3_isCamp N p0) (fun v4 => (if v4 = 0 then fX3_holders_24 N K   else bdP (mX3_of N K p0 6) (fun v6 => bdP (mX3_in N p1 0 (v6 - 1)) (fun v7 => (if v7 = 0 then fX3_holders_24 N K   else fX3_holders_31 N K  N p0 p1 0 0)))))
def fX3_letters_37 (N : Nat) (K : KT) (k15 : Int32 → Int32 → Int32 → Option Int32) (x1 : Int32) (x2 : Int32) (x3 : Int32) : Option Int32 := k15 x1 x2 (x3 + 1)
def fX3_letters_74 (N : Nat) (K : KT) (k48 : Int32 → Int32 → Int32 → Int32 → Option Int32) (x1 : Int32) (x2 : Int32) (x3 : Int32) (x4 : Int32) : Option Int32 := k48 x1 x2 x3 (x4 + 1)
def fX3_letters_48 (N : Nat) (K : KT)  : Nat → Int32 → Int32 → Int32 → Int32 → Option Int32
  | 0, _, _, _, _ => none
  | n + 1, x1, x2, x3, x4 => bdP (mX3_of N K x2 5) (fun v1 => (if v1 ≤ x4 then some x3 else bdP (mX3_page N K x2 x4 1) (fun v3 => (if v3 = x1 then fX3_letters_74 N K (fX3_letters_48 N K  n) x1 x2 (x3 + 1) x4 else fX3_letters_74 N K (fX3_letters_48 N K  n) x1 x2 x3 x4))))
def fX3_letters_43 (N : Nat) (K : KT)  (x1 : Int32) (x2 : Int32) : Option Int32 := fX3_letters_48 N K  N x1 x2 0 0
def fX3_letters_15 (N : Nat) (K : KT)  : Nat → Int32 → Int32 → Int32 → Option Int32
  | 0, _, _, _ => none
  | n + 1, x1, x2, x3 => (if 5 ≤ x3 then fX3_letters_43 N K  x1 x2 else bdP (mX3_of N K x3 5) (fun v6 => bdP (mX3_of N K x2 5) (fun v7 => (if v6 ≤ v7 then fX3_letters_37 N K (fX3_letters_15 N K  n) x1 x2 x3 else fX3_letters_37 N K (fX3_letters_15 N K  n) x1 x3 x3))))
def mX3_letters (N : Nat) (K : KT) (p0 : Int32) : Option Int32 := bdP (mX3_in N p0 0 3) (fun v9 => (if v9 = 0 then some ((-1)) else fX3_letters_15 N K  N p0 0 1))
def fX3_remembers_2 (N : Nat)  : Nat → KT → Int32 → Option (Int32 × KT)
  | 0, _, _ => none
  | n + 1, K, x1 => (if 186 ≤ x1 then some (0, K) else rdA (K 0) 186 x1 (fun v2 => wrA K 2 186 x1 v2 (fun K4 => (fX3_remembers_2 N  n) K4 (x1 + 1))))
def mX3_remembers (N : Nat) (K : KT)  : Option (Int32 × KT) := fX3_remembers_2 N  N K 0
def fX3_forgets_2 (N : Nat)  : Nat → KT → Int32 → Option (Int32 × KT)
  | 0, _, _ => none
  | n + 1, K, x1 => (if 186 ≤ x1 then some (0, K) else rdA (K 2) 186 x1 (fun v2 => wrA K 0 186 x1 v2 (fun K4 => (fX3_forgets_2 N  n) K4 (x1 + 1))))
def mX3_forgets (N : Nat) (K : KT)  : Option (Int32 × KT) := fX3_forgets_2 N  N K 0
def fX3_would_27 (N : Nat)  (K : KT)  : Option (Int32 × KT) := some ((-4), K)
def mX3_would (N : Nat) (K : KT) (p0 : Int32) : Option (Int32 × KT) := bdP (mX3_isCamp N p0) (fun v1 => (if v1 = 0 then some ((-1), K) else bdP (mX3_isAwake N K p0) (fun v3 => (if v3 = 0 then fX3_would_27 N  K  else bdP (mX3_of N K p0 2) (fun v5 => (if v5 = 1 then fX3_would_27 N  K  else bdE (mX3_remembers N K ) (fun v7 K8 => bdE (mX3_asks N K8 p0) (fun v9 K10 => bdE (mX3_forgets N K10 ) (fun v11 K12 => some (v9, K12))))))))))
def fX3_hasCaptain_28 (N : Nat) (K : KT) (k4 : Int32 → Int32 → Option Int32) (x1 : Int32) (x2 : Int32) : Option Int32 := k4 x1 (x2 + 1)
def fX3_hasCaptain_63 (N : Nat) (K : KT) (k36 : Int32 → Int32 → Option Int32) (x1 : Int32) (x2 : Int32) : Option Int32 := k36 x1 (x2 + 1)
def fX3_hasCaptain_36 (N : Nat) (K : KT)  : Nat → Int32 → Int32 → Option Int32
  | 0, _, _ => none
  | n + 1, x1, x2 => (if 5 ≤ x2 then some 0 else bdP (mX3_of N K x2 2) (fun v2 => (if v2 = 1 then bdP (mX3_of N K x2 0) (fun v4 => (if v4 = x1 then some 1 else fX3_hasCaptain_63 N K (fX3_hasCaptain_36 N K  n) x1 x2)) else fX3_hasCaptain_63 N K (fX3_hasCaptain_36 N K  n) x1 x2)))
def fX3_hasCaptain_34 (N : Nat) (K : KT)  (x1 : Int32) : Option Int32 := fX3_hasCaptain_36 N K  N x1 0
def fX3_hasCaptain_4 (N : Nat) (K : KT)  : Nat → Int32 → Int32 → Option Int32
  | 0, _, _ => none
  | n + 1, x1, x2 => (if 5 ≤ x2 then fX3_hasCaptain_34 N K  x1 else bdP (mX3_isAwake N K x2) (fun v7 => (if v7 = 0 then fX3_hasCaptain_28 N K (fX3_hasCaptain_4 N K  n) x1 x2 else bdP (mX3_of N K x2 0) (fun v9 => fX3_hasCaptain_28 N K (fX3_hasCaptain_4 N K  n) ((if x1 < v9 then v9 else x1)) x2))))
def mX3_hasCaptain (N : Nat) (K : KT)  : Option Int32 := fX3_hasCaptain_4 N K  N 0 0
def fX3_captainIn_45 (N : Nat)  (K : KT) (y0 : Int32) : Option (Int32 × KT) := some (y0, K)
def fX3_captainIn_29 (N : Nat)  (K : KT) (x1 : Int32) : Option (Int32 × KT) := bdE (mX3_forgets N K ) (fun v1 K2 => (if x1 ≤ 60 then fX3_captainIn_45 N  K2 x1 else fX3_captainIn_45 N  K2 ((-4))))
def fX3_captainIn_6 (N : Nat)  : Nat → KT → Int32 → Option (Int32 × KT)
  | 0, _, _ => none
  | n + 1, K, x1 => bdP (mX3_hasCaptain N K ) (fun v4 => (if v4 = 0 then (if 61 ≤ x1 then fX3_captainIn_29 N  K x1 else bdE (mX3_hour N K ) (fun v7 K8 => (fX3_captainIn_6 N  n) K8 (x1 + 1))) else fX3_captainIn_29 N  K x1))
def mX3_captainIn (N : Nat) (K : KT)  : Option (Int32 × KT) := bdE (mX3_remembers N K ) (fun v9 K10 => fX3_captainIn_6 N  N K10 0)
