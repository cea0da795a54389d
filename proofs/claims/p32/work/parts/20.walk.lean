def fX3_read_50 (N : Nat) (k14 : KT → Int32 → Option (Int32 × KT)) (K : KT) (y0 : Int32) : Option (Int32 × KT) := k14 K y0
def fX3_read_49 (N : Nat) (k14 : KT → Int32 → Option (Int32 × KT)) (K : KT)  : Option (Int32 × KT) := fX3_read_50 N k14 K 0
def fX3_read_123 (N : Nat) (k83 : KT → Int32 → Int32 → Int32 → Option (Int32 × KT)) (K : KT) (x2 : Int32) (x3 : Int32) (y0 : Int32) : Option (Int32 × KT) := k83 K x2 x3 y0
def fX3_read_122 (N : Nat) (k83 : KT → Int32 → Int32 → Int32 → Option (Int32 × KT)) (K : KT) (x2 : Int32) (x3 : Int32) : Option (Int32 × KT) := fX3_read_123 N k83 K x2 x3 0
def fX3_read_105 (N : Nat) (k83 : KT → Int32 → Int32 → Int32 → Option (Int32 × KT)) (K : KT) (x2 : Int32) (x3 : Int32) : Option (Int32 × KT) := (if x3 < 0 then fX3_read_122 N k83 K x2 x3 else bdE (mX3_takes N K 59) (fun v2 K3 => (if v2 = 0 then fX3_read_122 N k83 K3 x2 x3 else fX3_read_123 N k83 K3 x2 x3 1)))
def fX3_read_168 (N : Nat)  (K : KT) (y1 : Int32) : Option (Int32 × KT) := bdE (mX3_ends N K y1) (fun v5 K6 => some (v5, K6))
def fX3_read_154 (N : Nat)  (K : KT) (x3 : Int32) : Option (Int32 × KT) := (if x3 = ((-3)) then fX3_read_168 N  K ((-3)) else fX3_read_168 N  K ((-2)))
def fX3_read_128 (N : Nat)  (K : KT) (x2 : Int32) (x3 : Int32) : Option (Int32 × KT) := ptF K 8 3 0 (fun K8 => (if x3 < 0 then (if x3 = ((-3)) then ptF K8 8 8 x2 (fun K11 => fX3_read_154 N  K11 x3) else fX3_read_154 N  K8 x3) else bdE (mX3_ends N K8 x2) (fun v12 K13 => some (v12, K13))))
def fX3_read_83 (N : Nat)  : Nat → KT → Int32 → Int32 → Int32 → Option (Int32 × KT)
  | 0, _, _, _, _ => none
  | n + 1, K, x2, x3, x4 => (if x4 = 0 then fX3_read_128 N  K x2 x3 else bdE (mX3_isCommand N K ) (fun v15 K16 => bdE (mX3_carries N K16 ) (fun v17 K18 => (if v17 < 0 then fX3_read_105 N (fX3_read_83 N  n) K18 x2 v17 else fX3_read_105 N (fX3_read_83 N  n) K18 (x2 + 1) v17))))
def fX3_read_54 (N : Nat)  (K : KT) (x1 : Int32) : Option (Int32 × KT) := (if x1 = 0 then ptF K 8 3 0 (fun K22 => some (((-100)) - (K22 8 4), K22)) else ptF K 8 4 0 (fun K21 => fX3_read_83 N  N K21 0 0 1))
def fX3_read_14 (N : Nat)  : Nat → KT → Int32 → Option (Int32 × KT)
  | 0, _, _ => none
  | n + 1, K, x1 => (if x1 = 0 then fX3_read_54 N  K x1 else (if (K 8 3) ≤ (K 8 4) then fX3_read_54 N  K x1 else bdE (mX3_takes N K 59) (fun v25 K26 => (if v25 = 0 then fX3_read_49 N (fX3_read_14 N  n) K26  else bdE (mX3_isCommand N K26 ) (fun v28 K29 => (if v28 = 0 then fX3_read_49 N (fX3_read_14 N  n) K29  else fX3_read_50 N (fX3_read_14 N  n) K29 1))))))
def mX3_read (N : Nat) (K : KT)  : Option (Int32 × KT) := bdE (mX3_tries N K ) (fun v31 K32 => ptF K32 8 4 0 (fun K33 => bdE (mX3_isCommand N K33 ) (fun v34 K35 => fX3_read_14 N  N K35 v34)))
def fX3_refusal_49 (N : Nat) (K : KT)  (y0 : Int32) : Option Int32 := some y0
def mX3_refusal (N : Nat) (K : KT) (p0 : Int32) : Option Int32 := bdP (mX3_in N p0 0 2) (fun v1 => (if v1 = 0 then some ((-2)) else (if (K 8 6) = 0 then some ((-4)) else (if p0 = 0 then fX3_refusal_49 N K  (K 8 6) else (if p0 = 1 then fX3_refusal_49 N K  (K 8 7) else fX3_refusal_49 N K  (K 8 8))))))
def fX3_account_70 (N : Nat) (K : KT)  : Nat → Int32 → Int32 → Option Int32
  | 0, _, _ => none
  | n + 1, x2, x3 => (if 5 ≤ x3 then some x2 else bdP (mX3_of N K x3 0) (fun v2 => (fX3_account_70 N K  n) ((if x2 < v2 then v2 else x2)) (x3 + 1)))
def fX3_account_96 (N : Nat) (K : KT)  : Nat → Int32 → Int32 → Option Int32
  | 0, _, _ => none
  | n + 1, x2, x3 => (if 5 ≤ x3 then some x2 else bdP (mX3_of N K x3 2) (fun v4 => (fX3_account_96 N K  n) (x2 + v4) (x3 + 1)))
def fX3_account_128 (N : Nat) (K : KT)  (x1 : Int32) : Option Int32 := rdA (K 0) 186 (x1 - 4) (fun v5 => some v5)
def fX3_account_139 (N : Nat) (K : KT)  : Nat → Int32 → Int32 → Option Int32
  | 0, _, _ => none
  | n + 1, x2, x3 => (if 5 ≤ x3 then some x2 else bdP (mX3_of N K x3 5) (fun v8 => (fX3_account_139 N K  n) ((if x2 < v8 then v8 else x2)) (x3 + 1)))
def mX3_account (N : Nat) (K : KT) (p0 : Int32) : Option Int32 := (if p0 = 0 then fX3_account_70 N K  N 0 0 else (if p0 = 1 then fX3_account_96 N K  N 0 0 else (if p0 = 2 then bdP (mX3_awake N K ) (fun v12 => some v12) else (if p0 = 3 then bdP (mX3_openRoads N K ) (fun v14 => some v14) else (if p0 = 4 then fX3_account_128 N K  p0 else (if p0 = 5 then fX3_account_128 N K  p0 else (if p0 = 6 then fX3_account_128 N K  p0 else (if p0 = 7 then fX3_account_128 N K  p0 else (if p0 = 8 then fX3_account_128 N K  p0 else (if p0 = 9 then fX3_account_139 N K  N 0 0 else (if p0 = 10 then rdA (K 0) 186 5 (fun v22 => some v22) else (if p0 = 11 then some (K 8 3) else (if p0 = 12 then some (K 8 0) else some ((-2)))))))))))))))
def mX3_isWell (N : Nat) (K : KT)  : Option Int32 := some 1
def fX3_undo_22 (N : Nat)  : Nat → KT → Int32 → Option (Int32 × KT)
  | 0, _, _ => none
  | n + 1, K, x1 => (if 186 ≤ x1 then some (K 8 0, K) else rdA (K 3) 1488 ((186 * (K 8 0)) + x1) (fun v2 => wrA K 0 186 x1 v2 (fun K4 => (fX3_undo_22 N  n) K4 (x1 + 1))))
def mX3_undo (N : Nat) (K : KT)  : Option (Int32 × KT) := (if (K 8 0) = 0 then some ((-4), K) else ptF K 8 0 ((K 8 0) - 1) (fun K7 => fX3_undo_22 N  N K7 0))
def fX3_save_32 (N : Nat)  (K : KT)  : Option (Int32 × KT) := rdA (K 0) 186 5 (fun v1 => some (v1, K))
def fX3_save_7 (N : Nat)  : Nat → KT → Int32 → Option (Int32 × KT)
  | 0, _, _ => none
  | n + 1, K, x1 => (if 186 ≤ x1 then fX3_save_32 N  K  else rdA (K 0) 186 x1 (fun v4 => wrA K 4 186 x1 v4 (fun K6 => (fX3_save_7 N  n) K6 (x1 + 1))))
def mX3_save (N : Nat) (K : KT)  : Option (Int32 × KT) := ptF K 8 1 1 (fun K8 => fX3_save_7 N  N K8 0)
def fX3_restore_37 (N : Nat)  (K : KT)  : Option (Int32 × KT) := ptF K 8 0 0 (fun K1 => rdA (K1 0) 186 5 (fun v2 => some (v2, K1)))
def fX3_restore_12 (N : Nat)  : Nat → KT → Int32 → Option (Int32 × KT)
  | 0, _, _ => none
  | n + 1, K, x1 => (if 186 ≤ x1 then fX3_restore_37 N  K  else rdA (K 4) 186 x1 (fun v5 => wrA K 0 186 x1 v5 (fun K7 => (fX3_restore_12 N  n) K7 (x1 + 1))))
def mX3_restore (N : Nat) (K : KT)  : Option (Int32 × KT) := (if (K 8 1) = 0 then some ((-4), K) else fX3_restore_12 N  N K 0)
