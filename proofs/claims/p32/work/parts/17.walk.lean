def fX3_marches_27 (N : Nat)  (K : KT) (y0 : Int32) : Option (Int32 × KT) := some (y0, K)
def mX3_marches (N : Nat) (K : KT) (p0 : Int32) : Option (Int32 × KT) := bdP (mX3_isCamp N p0) (fun v1 => (if v1 = 0 then some ((-1), K) else bdE (mX3_lacks N K p0) (fun v3 K4 => (if 0 ≤ v3 then bdE (mX3_goes N K4 p0) (fun v6 K7 => fX3_marches_27 N  K7 v6) else fX3_marches_27 N  K4 ((-3))))))
def mX3_march (N : Nat) (K : KT) (p0 : Int32) : Option (Int32 × KT) := bdE (mX3_tries N K ) (fun v1 K2 => bdE (mX3_marches N K2 p0) (fun v3 K4 => bdE (mX3_ends N K4 v3) (fun v5 K6 => some (v5, K6))))
def fX3_openRoads_5 (N : Nat) (K : KT)  : Nat → Int32 → Int32 → Option Int32
  | 0, _, _ => none
  | n + 1, x1, x2 => (if 25 ≤ x2 then some x1 else rdA (K 0) 186 (6 + x2) (fun v2 => (fX3_openRoads_5 N K  n) (x1 - v2) (x2 + 1)))
def mX3_openRoads (N : Nat) (K : KT)  : Option Int32 := fX3_openRoads_5 N K  N 10 0
def fX3_opens_14 (N : Nat)  (K : KT)  : Option (Int32 × KT) := some ((-1), K)
def mX3_opens (N : Nat) (K : KT) (p0 : Int32) (p1 : Int32) (p2 : Int32) : Option (Int32 × KT) := bdP (mX3_isCamp N p0) (fun v1 => (if v1 = 0 then fX3_opens_14 N  K  else bdP (mX3_isCamp N p1) (fun v3 => (if v3 = 0 then fX3_opens_14 N  K  else bdP (mX3_in N p2 0 1) (fun v5 => (if v5 = 0 then some ((-2), K) else (if p0 = p1 then bdE (mX3_refuses N K 4 p0) (fun v18 K19 => some (v18, K19)) else bdP (mX3_road N p0 p1) (fun v8 => rdA (K 0) 186 v8 (fun v9 => (if v9 = (1 - p2) then bdE (mX3_refuses N K 5 p2) (fun v16 K17 => some (v16, K17)) else bdP (mX3_road N p0 p1) (fun v12 => wrA K 0 186 v12 (1 - p2) (fun K13 => bdP (mX3_openRoads N K13 ) (fun v15 => some (v15, K13))))))))))))))
def mX3_road_ (N : Nat) (K : KT) (p0 : Int32) (p1 : Int32) (p2 : Int32) : Option (Int32 × KT) := bdE (mX3_tries N K ) (fun v1 K2 => bdE (mX3_opens N K2 p0 p1 p2) (fun v3 K4 => bdE (mX3_ends N K4 v3) (fun v5 K6 => some (v5, K6))))
def fX3_awake_20 (N : Nat) (K : KT) (k4 : Int32 → Int32 → Option Int32) (x1 : Int32) (x2 : Int32) : Option Int32 := k4 x1 (x2 + 1)
def fX3_awake_4 (N : Nat) (K : KT)  : Nat → Int32 → Int32 → Option Int32
  | 0, _, _ => none
  | n + 1, x1, x2 => (if 5 ≤ x2 then some x1 else bdP (mX3_isAwake N K x2) (fun v2 => (if v2 = 0 then fX3_awake_20 N K (fX3_awake_4 N K  n) x1 x2 else fX3_awake_20 N K (fX3_awake_4 N K  n) (x1 + 1) x2)))
def mX3_awake (N : Nat) (K : KT)  : Option Int32 := fX3_awake_4 N K  N 0 0
def mX3_sleeps (N : Nat) (K : KT) (p0 : Int32) (p1 : Int32) : Option (Int32 × KT) := bdP (mX3_isCamp N p0) (fun v1 => (if v1 = 0 then some ((-1), K) else bdP (mX3_in N p1 0 1) (fun v3 => (if v3 = 0 then some ((-2), K) else bdP (mX3_of N K p0 3) (fun v5 => (if v5 = (1 - p1) then bdE (mX3_refuses N K 5 p1) (fun v14 K15 => some (v14, K15)) else bdE (mX3_sets N K p0 3 (1 - p1)) (fun v7 K8 => bdE (mX3_sets N K8 p0 4 0) (fun v9 K10 => bdE (mX3_sets N K10 p0 2 0) (fun v11 K12 => bdP (mX3_awake N K12 ) (fun v13 => some (v13, K12)))))))))))
def mX3_sleep (N : Nat) (K : KT) (p0 : Int32) (p1 : Int32) : Option (Int32 × KT) := bdE (mX3_tries N K ) (fun v1 K2 => bdE (mX3_sleeps N K2 p0 p1) (fun v3 K4 => bdE (mX3_ends N K4 v3) (fun v5 K6 => some (v5, K6))))
def fX3_hour_31 (N : Nat) (k2 : KT → Int32 → Option (Int32 × KT)) (K : KT) (x1 : Int32) : Option (Int32 × KT) := k2 K (x1 + 1)
def fX3_hour_75 (N : Nat) (k39 : KT → Int32 → Option (Int32 × KT)) (K : KT) (x1 : Int32) : Option (Int32 × KT) := k39 K (x1 + 1)
def fX3_hour_123 (N : Nat) (k83 : KT → Int32 → Option (Int32 × KT)) (K : KT) (x1 : Int32) : Option (Int32 × KT) := k83 K (x1 + 1)
def fX3_hour_129 (N : Nat)  (K : KT)  : Option (Int32 × KT) := rdA (K 0) 186 5 (fun v1 => wrA K 0 186 5 (v1 + 1) (fun K3 => some (0, K3)))
def fX3_hour_83 (N : Nat)  : Nat → KT → Int32 → Option (Int32 × KT)
  | 0, _, _ => none
  | n + 1, K, x1 => (if 5 ≤ x1 then fX3_hour_129 N  K  else bdP (mX3_isAwake N K x1) (fun v6 => (if v6 = 0 then fX3_hour_123 N (fX3_hour_83 N  n) K x1 else bdP (mX3_of N K x1 2) (fun v8 => (if v8 = 0 then bdP (mX3_of N K x1 4) (fun v10 => (if v10 < (3 + x1) then fX3_hour_123 N (fX3_hour_83 N  n) K x1 else bdE (mX3_asks N K x1) (fun v12 K13 => fX3_hour_123 N (fX3_hour_83 N  n) K13 x1))) else fX3_hour_123 N (fX3_hour_83 N  n) K x1)))))
def fX3_hour_81 (N : Nat)  (K : KT)  : Option (Int32 × KT) := fX3_hour_83 N  N K 0
def fX3_hour_39 (N : Nat)  : Nat → KT → Int32 → Option (Int32 × KT)
  | 0, _, _ => none
  | n + 1, K, x1 => (if 5 ≤ x1 then fX3_hour_81 N  K  else bdP (mX3_isAwake N K x1) (fun v15 => (if v15 = 0 then fX3_hour_75 N (fX3_hour_39 N  n) K x1 else bdP (mX3_of N K x1 2) (fun v17 => (if v17 = 0 then bdP (mX3_of N K x1 4) (fun v19 => bdE (mX3_sets N K x1 4 (v19 + 1)) (fun v20 K21 => fX3_hour_75 N (fX3_hour_39 N  n) K21 x1)) else fX3_hour_75 N (fX3_hour_39 N  n) K x1)))))
def fX3_hour_37 (N : Nat)  (K : KT)  : Option (Int32 × KT) := fX3_hour_39 N  N K 0
def fX3_hour_2 (N : Nat)  : Nat → KT → Int32 → Option (Int32 × KT)
  | 0, _, _ => none
  | n + 1, K, x1 => (if 5 ≤ x1 then fX3_hour_37 N  K  else bdP (mX3_isAwake N K x1) (fun v23 => (if v23 = 0 then fX3_hour_31 N (fX3_hour_2 N  n) K x1 else bdP (mX3_of N K x1 2) (fun v25 => (if v25 = 1 then bdE (mX3_goes N K x1) (fun v27 K28 => fX3_hour_31 N (fX3_hour_2 N  n) K28 x1) else fX3_hour_31 N (fX3_hour_2 N  n) K x1)))))
def mX3_hour (N : Nat) (K : KT)  : Option (Int32 × KT) := fX3_hour_2 N  N K 0
def fX3_passes_37 (N : Nat)  (K : KT) (x2 : Int32) : Option (Int32 × KT) := rdA (K 0) 186 1 (fun v1 => some (v1 - x2, K))
def fX3_passes_22 (N : Nat)  : Nat → KT → Int32 → Int32 → Int32 → Option (Int32 × KT)
  | 0, _, _, _, _ => none
  | n + 1, K, x1, x2, x3 => (if x1 ≤ x3 then fX3_passes_37 N  K x2 else bdE (mX3_hour N K ) (fun v4 K5 => (fX3_passes_22 N  n) K5 x1 x2 (x3 + 1)))
def mX3_passes (N : Nat) (K : KT) (p0 : Int32) : Option (Int32 × KT) := bdP (mX3_in N p0 1 30) (fun v6 => (if v6 = 0 then some ((-2), K) else rdA (K 0) 186 1 (fun v8 => fX3_passes_22 N  N K p0 v8 0)))
def mX3_pass (N : Nat) (K : KT) (p0 : Int32) : Option (Int32 × KT) := bdE (mX3_tries N K ) (fun v1 K2 => bdE (mX3_passes N K2 p0) (fun v3 K4 => bdE (mX3_ends N K4 v3) (fun v5 K6 => some (v5, K6))))
def fX3_campOf_89 (N : Nat) (K : KT)  (y0 : Int32) : Option Int32 := some y0
def fX3_campOf_110 (N : Nat) (K : KT)  (y0 : Int32) : Option Int32 := some y0
def mX3_campOf (N : Nat) (K : KT) (p0 : Int32) (p1 : Int32) : Option Int32 := bdP (mX3_isCamp N p0) (fun v1 => (if v1 = 0 then some ((-1)) else (if p1 = 0 then bdP (mX3_of N K p0 0) (fun v4 => some v4) else (if p1 = 1 then bdP (mX3_of N K p0 1) (fun v6 => (if v6 = 0 then fX3_campOf_89 N K  ((-4)) else bdP (mX3_of N K p0 1) (fun v8 => fX3_campOf_89 N K  (v8 - 1)))) else (if p1 = 2 then bdP (mX3_of N K p0 2) (fun v10 => some v10) else (if p1 = 3 then bdP (mX3_isAwake N K p0) (fun v12 => (if v12 = 0 then fX3_campOf_110 N K  0 else fX3_campOf_110 N K  1)) else (if p1 = 4 then bdP (mX3_of N K p0 6) (fun v15 => some v15) else (if p1 = 5 then bdP (mX3_of N K p0 5) (fun v17 => some v17) else (if p1 = 6 then bdP (mX3_of N K p0 4) (fun v19 => some v19) else (if p1 = 7 then some (3 + p0) else (if p1 = 8 then bdP (mX3_lastTerm N K p0) (fun v22 => some v22) else some ((-2)))))))))))))
