def fL_refused_469 (N : Nat) (k214 : OT → Int64 → Int32 → Int32 → Option (Int32 × OT)) (K : OT) (x1 : Int64) (x3 : Int32) (x4 : Int32) : Option (Int32 × OT) := k214 K x1 x3 (x4 + 1)
def fL_refused_366 (N : Nat) (k214 : OT → Int64 → Int32 → Int32 → Option (Int32 × OT)) (K : OT) (x1 : Int64) (x4 : Int32) (y0 : Int32) : Option (Int32 × OT) := fL_refused_469 N k214 K x1 y0 x4
def fL_refused_365 (N : Nat) (k214 : OT → Int64 → Int32 → Int32 → Option (Int32 × OT)) (K : OT) (x1 : Int64) (x4 : Int32) : Option (Int32 × OT) := fL_refused_366 N k214 K x1 x4 0
def fL_refused_408 (N : Nat) (k214 : OT → Int64 → Int32 → Int32 → Option (Int32 × OT)) (K : OT) (x1 : Int64) (x4 : Int32) (y0 : Int32) : Option (Int32 × OT) := fL_refused_469 N k214 K x1 y0 x4
def fL_refused_407 (N : Nat) (k214 : OT → Int64 → Int32 → Int32 → Option (Int32 × OT)) (K : OT) (x1 : Int64) (x4 : Int32) : Option (Int32 × OT) := fL_refused_408 N k214 K x1 x4 0
def fL_refused_468 (N : Nat) (k214 : OT → Int64 → Int32 → Int32 → Option (Int32 × OT)) (K : OT) (x1 : Int64) (x4 : Int32) (y0 : Int32) : Option (Int32 × OT) := fL_refused_469 N k214 K x1 y0 x4
def fL_refused_467 (N : Nat) (k214 : OT → Int64 → Int32 → Int32 → Option (Int32 × OT)) (K : OT) (x1 : Int64) (x4 : Int32) : Option (Int32 × OT) := fL_refused_468 N k214 K x1 x4 0
def fL_refused_281 (N : Nat) (k214 : OT → Int64 → Int32 → Int32 → Option (Int32 × OT)) (K : OT) (x1 : Int64) (x4 : Int32) (x5 : Int32) (x6 : Int32) (x7 : Int32) (y0 : Int32) : Option (Int32 × OT) := (if x5 = 0 then (if y0 = 0 then fL_refused_365 N k214 K x1 x4 else bdO (mX2_dusk N K x4) (fun v21 O22 => (if v21 = ((-3)) then bdP (mL_is N O22 1 x4 ((-4))) (fun v24 => (if v24 = 0 then fL_refused_365 N k214 O22 x1 x4 else bdO (mX2_write N O22 x4 0) (fun v26 O27 => (if v26 = ((-3)) then bdP (mL_is N O27 1 x4 ((-4))) (fun v29 => (if v29 = 0 then fL_refused_365 N k214 O27 x1 x4 else bdO (mX2_march N O27 x4) (fun v31 O32 => (if v31 = ((-3)) then bdP (mL_is N O32 1 x4 ((-4))) (fun v34 => (if v34 = 0 then fL_refused_365 N k214 O32 x1 x4 else fL_refused_366 N k214 O32 x1 x4 1)) else fL_refused_365 N k214 O32 x1 x4)))) else fL_refused_365 N k214 O27 x1 x4)))) else fL_refused_365 N k214 O22 x1 x4))) else (if x6 = 1 then (if y0 = 0 then fL_refused_407 N k214 K x1 x4 else bdO (mX2_dusk N K x4) (fun v15 O16 => (if v15 = ((-3)) then bdP (mL_is N O16 2 x7 ((-4))) (fun v18 => (if v18 = 0 then fL_refused_407 N k214 O16 x1 x4 else fL_refused_408 N k214 O16 x1 x4 1)) else fL_refused_407 N k214 O16 x1 x4))) else (if y0 = 0 then fL_refused_467 N k214 K x1 x4 else bdO (mX2_write N K x4 0) (fun v4 O5 => (if v4 = ((-3)) then bdP (mL_is N O5 2 x7 ((-4))) (fun v7 => (if v7 = 0 then fL_refused_467 N k214 O5 x1 x4 else bdO (mX2_march N O5 x4) (fun v9 O10 => (if v9 = ((-3)) then bdP (mL_is N O10 2 x7 ((-4))) (fun v12 => (if v12 = 0 then fL_refused_467 N k214 O10 x1 x4 else fL_refused_468 N k214 O10 x1 x4 1)) else fL_refused_467 N k214 O10 x1 x4)))) else fL_refused_467 N k214 O5 x1 x4)))))
def fL_refused_280 (N : Nat) (k214 : OT → Int64 → Int32 → Int32 → Option (Int32 × OT)) (K : OT) (x1 : Int64) (x4 : Int32) (x5 : Int32) (x6 : Int32) (x7 : Int32) : Option (Int32 × OT) := fL_refused_281 N k214 K x1 x4 x5 x6 x7 0
def fL_refused_909 (N : Nat)  (K : OT) (y0 : Int32) : Option (Int32 × OT) := gd (y0 = 0 ∨ y0 = 1) (some (y0, K))
def fL_refused_908 (N : Nat)  (K : OT)  : Option (Int32 × OT) := fL_refused_909 N  K 0
def fL_refused_826 (N : Nat)  (K : OT) (x1 : Int64) (y0 : Int32) : Option (Int32 × OT) := (if y0 = 0 then fL_refused_908 N  K  else bdO (mL_reads N (lLen.getD 2 0) (lF 2) K ) (fun v37 O38 => (if v37 = ((-100)) then bdO (mL_reads N (lLen.getD 3 0) (lF 3) O38 ) (fun v40 O41 => (if v40 = ((-3)) then bdP (mL_is N O41 4 2 1) (fun v43 => (if v43 = 0 then fL_refused_908 N  O41  else bdO (mL_reads N (lLen.getD 4 0) (lF 4) O41 ) (fun v45 O46 => (if v45 = ((-2)) then bdP (mL_is N O46 4 2 1) (fun v48 => (if v48 = 0 then fL_refused_908 N  O46  else bdO (mL_reads N (lLen.getD 5 0) (lF 5) O46 ) (fun v50 O51 => (if v50 = ((-2)) then bdL (mL_asks N O51 ) (fun v53 O54 => (if (lg_cmp v53 x1) = 0 then fL_refused_909 N  O54 1 else fL_refused_908 N  O54 )) else fL_refused_908 N  O51 )))) else fL_refused_908 N  O46 )))) else fL_refused_908 N  O41 )) else fL_refused_908 N  O38 )))
def fL_refused_825 (N : Nat)  (K : OT) (x1 : Int64) : Option (Int32 × OT) := fL_refused_826 N  K x1 0
def fL_refused_604 (N : Nat)  (K : OT) (x1 : Int64) : Option (Int32 × OT) := bdP (mX2_reaches N K 5 0) (fun v56 => (if v56 = ((-1)) then bdP (mX2_reaches N K 0 ((-1))) (fun v58 => (if v58 = ((-1)) then bdP (mX2_matches N K 0 5) (fun v60 => (if v60 = ((-1)) then bdP (mX2_matchesAgain N K ((-1)) 0) (fun v62 => (if v62 = ((-1)) then bdP (mX2_holders N K 5 0) (fun v64 => (if v64 = ((-1)) then bdP (mX2_holders N K 0 ((-1))) (fun v66 => (if v66 = ((-1)) then bdP (mX2_letters N K 4) (fun v68 => (if v68 = ((-1)) then bdP (mX2_letters N K ((-1))) (fun v70 => (if v70 = ((-1)) then bdO (mX2_would N K 5) (fun v72 O73 => (if v72 = ((-1)) then bdP (mX2_ranked N O73 5) (fun v75 => (if v75 = ((-1)) then bdP (mX2_ranked N O73 ((-1))) (fun v77 => (if v77 = ((-1)) then bdO (mX2_describe N O73 5) (fun v79 O80 => (if v79 = ((-1)) then bdO (mX2_show 13 O80 ((-1))) (fun v82 O83 => (if v82 = ((-1)) then bdP (mX2_sign N O83 ((-1))) (fun v85 => (if v85 = ((-1)) then bdP (mX2_sign N O83 200) (fun v87 => (if v87 = ((-1)) then bdP (mX2_refusal N O83 3) (fun v89 => (if v89 = ((-2)) then bdP (mX2_refusal N O83 ((-1))) (fun v91 => (if v91 = ((-2)) then bdP (mX2_account N O83 13) (fun v93 => (if v93 = ((-2)) then bdP (mX2_account N O83 ((-1))) (fun v95 => (if v95 = ((-2)) then bdO (mX2_append N O83 31) (fun v97 O98 => (if v97 = ((-2)) then bdO (mX2_append N O98 127) (fun v100 O101 => (if v100 = ((-2)) then bdP (mL_is N O101 4 4 ((-4))) (fun v103 => (if v103 = 0 then fL_refused_825 N  O101 x1 else fL_refused_826 N  O101 x1 1)) else fL_refused_825 N  O101 x1)) else fL_refused_825 N  O98 x1)) else fL_refused_825 N  O83 x1)) else fL_refused_825 N  O83 x1)) else fL_refused_825 N  O83 x1)) else fL_refused_825 N  O83 x1)) else fL_refused_825 N  O83 x1)) else fL_refused_825 N  O83 x1)) else fL_refused_825 N  O83 x1)) else fL_refused_825 N  O80 x1)) else fL_refused_825 N  O73 x1)) else fL_refused_825 N  O73 x1)) else fL_refused_825 N  O73 x1)) else fL_refused_825 N  K x1)) else fL_refused_825 N  K x1)) else fL_refused_825 N  K x1)) else fL_refused_825 N  K x1)) else fL_refused_825 N  K x1)) else fL_refused_825 N  K x1)) else fL_refused_825 N  K x1)) else fL_refused_825 N  K x1))
def fL_refused_475 (N : Nat)  (K : OT) (x1 : Int64) (x3 : Int32) : Option (Int32 × OT) := (if x3 = 0 then fL_refused_825 N  K x1 else bdO (mX2_road N K 4 4 1) (fun v106 O107 => (if v106 = ((-3)) then bdP (mX2_campOf N O107 5 9) (fun v109 => (if v109 = ((-1)) then bdP (mX2_campOf N O107 ((-1)) 0) (fun v111 => (if v111 = ((-1)) then bdP (mX2_campOf N O107 0 9) (fun v113 => (if v113 = ((-2)) then bdP (mX2_campOf N O107 0 ((-1))) (fun v115 => (if v115 = ((-2)) then bdP (mX2_pageOf N O107 5 0 9) (fun v117 => (if v117 = ((-1)) then bdP (mX2_pageOf N O107 0 12 9) (fun v119 => (if v119 = ((-1)) then bdP (mX2_pageOf N O107 0 ((-1)) 0) (fun v121 => (if v121 = ((-1)) then bdP (mX2_campOf N O107 0 4) (fun v123 => (if v123 = 0 then fL_refused_604 N  O107 x1 else bdP (mX2_pageOf N O107 0 0 2) (fun v125 => (if v125 = ((-2)) then bdP (mX2_pageOf N O107 0 0 ((-1))) (fun v127 => (if v127 = ((-2)) then fL_refused_604 N  O107 x1 else fL_refused_825 N  O107 x1)) else fL_refused_825 N  O107 x1)))) else fL_refused_825 N  O107 x1)) else fL_refused_825 N  O107 x1)) else fL_refused_825 N  O107 x1)) else fL_refused_825 N  O107 x1)) else fL_refused_825 N  O107 x1)) else fL_refused_825 N  O107 x1)) else fL_refused_825 N  O107 x1)) else fL_refused_825 N  O107 x1)))
def fL_refused_214 (N : Nat)  : Nat → OT → Int64 → Int32 → Int32 → Option (Int32 × OT)
  | 0, _, _, _, _ => none
  | n + 1, K, x1, x3, x4 => (if 5 ≤ x4 then fL_refused_475 N  K x1 x3 else (if x3 = 0 then fL_refused_475 N  K x1 x3 else bdP (mX2_campOf N K x4 3) (fun v131 => bdP (mX2_campOf N K x4 2) (fun v132 => bdP (mX2_campOf N K x4 0) (fun v133 => bdO (mX2_sleep N K x4 v131) (fun v134 O135 => (if v134 = ((-3)) then bdP (mL_is N O135 5 v131 ((-4))) (fun v137 => (if v137 = 0 then fL_refused_280 N (fL_refused_214 N  n) O135 x1 x4 v131 v132 v133 else fL_refused_281 N (fL_refused_214 N  n) O135 x1 x4 v131 v132 v133 1)) else fL_refused_280 N (fL_refused_214 N  n) O135 x1 x4 v131 v132 v133)))))))
def fL_refused_210 (N : Nat)  (K : OT) (x1 : Int64) (y0 : Int32) : Option (Int32 × OT) := fL_refused_214 N  N K x1 y0 0
def fL_refused_209 (N : Nat)  (K : OT) (x1 : Int64) : Option (Int32 × OT) := fL_refused_210 N  K x1 0
def mL_refused (N : Nat) (K : OT)  : Option (Int32 × OT) := bdL (mL_asks N K ) (fun v139 O140 => bdO (mX2_dusk N O140 5) (fun v141 O142 => (if v141 = ((-1)) then bdO (mX2_dusk N O142 ((-1))) (fun v144 O145 => (if v144 = ((-1)) then bdO (mX2_write N O145 5 4) (fun v147 O148 => (if v147 = ((-1)) then bdO (mX2_write N O148 0 4) (fun v150 O151 => (if v150 = ((-1)) then bdO (mX2_write N O151 0 ((-1))) (fun v153 O154 => (if v153 = ((-1)) then bdO (mX2_march N O154 5) (fun v156 O157 => (if v156 = ((-1)) then bdO (mX2_march N O157 ((-1))) (fun v159 O160 => (if v159 = ((-1)) then bdO (mX2_road N O160 5 0 9) (fun v162 O163 => (if v162 = ((-1)) then bdO (mX2_road N O163 0 ((-1)) 0) (fun v165 O166 => (if v165 = ((-1)) then bdO (mX2_road N O166 0 0 2) (fun v168 O169 => (if v168 = ((-2)) then bdO (mX2_road N O169 0 1 ((-1))) (fun v171 O172 => (if v171 = ((-2)) then bdO (mX2_road N O172 3 3 0) (fun v174 O175 => (if v174 = ((-3)) then bdP (mL_is N O175 4 3 ((-4))) (fun v177 => (if v177 = 0 then fL_refused_209 N  O175 v139 else bdO (mX2_sleep N O175 5 9) (fun v179 O180 => (if v179 = ((-1)) then bdO (mX2_sleep N O180 ((-1)) 0) (fun v182 O183 => (if v182 = ((-1)) then bdO (mX2_sleep N O183 0 2) (fun v185 O186 => (if v185 = ((-2)) then bdO (mX2_sleep N O186 0 ((-1))) (fun v188 O189 => (if v188 = ((-2)) then bdO (mX2_pass N O189 0) (fun v191 O192 => (if v191 = ((-2)) then bdO (mX2_pass N O192 31) (fun v194 O195 => (if v194 = ((-2)) then fL_refused_210 N  O195 v139 1 else fL_refused_209 N  O195 v139)) else fL_refused_209 N  O192 v139)) else fL_refused_209 N  O189 v139)) else fL_refused_209 N  O186 v139)) else fL_refused_209 N  O183 v139)) else fL_refused_209 N  O180 v139)))) else fL_refused_209 N  O175 v139)) else fL_refused_209 N  O172 v139)) else fL_refused_209 N  O169 v139)) else fL_refused_209 N  O166 v139)) else fL_refused_209 N  O163 v139)) else fL_refused_209 N  O160 v139)) else fL_refused_209 N  O157 v139)) else fL_refused_209 N  O154 v139)) else fL_refused_209 N  O151 v139)) else fL_refused_209 N  O148 v139)) else fL_refused_209 N  O145 v139)) else fL_refused_209 N  O142 v139)))
def rmL_refused : Room := { frames := 13, cells := 900, slots := 256 * (900), locals := 400 }
def wsL_refused_q : List Cond := .code yL_refused cL_refused 8 (some .boolean) :: wsL_law
theorem gqL_refused {a : List Cond} (h : GoodIn wsL_law a) : GoodIn wsL_refused_q a := gM_in h
set_option maxHeartbeats 4000000 in
set_option maxRecDepth 100000 in
theorem tL_refused {l : Launch} {dC : Nat → ClassId} {dI : Nat → Nat → Nat} {cI cB cP : ClassId} {ad : Nat → Nat → Nat} {Z : Nat → Nat} {base b : Nat} {adK adV : Nat → Nat} {R : va_W} {L : Nat} {xs : Nat → Int32} {N : Nat} {K : OT}  {rr : Int32} {KK : OT} (hf : mL_refused N K  = some (rr, KK)) (hCF : OF Z K) : Met l yL_refused wsL_refused_q rmL_refused (cLp (dC, dI) vwCl [(cI, .int), (cB, .byte), (cP, .object RX0)] base b L xs adK adV (outW cI cB cP ad Z K ++ R) [.ref (ad 0 0)]) (cBe (dC, dI) vwCl base (some (.int rr)) (fun ws => ∃ Z : Nat → Nat, ws = (outW cI cB cP ad Z KK ++ R) ∧ OF Z KK)) (900) (256 * (900)) (aB base) := by
  refine Met.ofW (cc := cL_refused) (maxL := 8) (ret := (some .boolean)) (by decide) rfl ?_
  intro p e s m args below meth c s₁ B hml hv
  obtain ⟨rfl, hP, hK, hD, hbs, hEL⟩ := hv
  have hx := B.exec
  have hb := B.bytes
  have hr := B.returns
  have hts := atoms_spec (ws := wsL_refused_q) B.pre
  have hown : s.vm.findClass RL = some m.cls := findClass_of_methodNamed B.named
  have hlocks := B.notSynchronized
  have hE := hEL.1
  have hcn : 0 + (900) ≤ 900 ∧ 0 + 256 * (900) ≤ 256 * (900) := by omega
  have t_469 : ∀ {k214 : OT → Int64 → Int32 → Int32 → Option (Int32 × OT)} (hk214 : ∀ {K : OT} {x1 : Int64} {x3 : Int32} {x4 : Int32} {H : Heap} {locs : List Loc} {Z : Nat → Nat} {cells slots : Nat} {ls : Array Slot} (h : k214 K x1 x3 x4 = some (rr, KK)) (hl : lv_has ls 8 [(0, .ref (ad 0 0)), (1, .long x1), (3, .int x3), (4, .int x4)]) (hP : va_P (dC, dI) vwCl (outW cI cB cP ad Z K ++ R) H) (hD : va_D (aB base) (outW cI cB cP ad Z K ++ R)) (hS : va_S (aB base) s.heap H locs) (hCF : OF Z K) (hcn : cells + (490) ≤ 900 ∧ slots + 256 * (490) ≤ 256 * (900)), W p l e (headSpec wsL_refused_q rmL_refused).room s m ([.ref (ad 0 0)] : List Value).toArray below meth c H locs cells slots (MQ below (cBe (dC, dI) vwCl base (some (.int rr)) (fun ws => ∃ Z : Nat → Nat, ws = (outW cI cB cP ad Z KK ++ R) ∧ OF Z KK)) ([.ref (ad 0 0)] : List Value).toArray s (900) (256 * (900)) (aB base)) (F0 m 214 ls [])), ∀ {K : OT} {x1 : Int64} {x3 : Int32} {x4 : Int32} {H : Heap} {locs : List Loc} {Z : Nat → Nat} {cells slots : Nat} {ls : Array Slot} (h : fL_refused_469 N k214 K x1 x3 x4 = some (rr, KK)) (hl : lv_has ls 8 [(0, .ref (ad 0 0)), (1, .long x1), (3, .int x3), (4, .int x4)]) (hP : va_P (dC, dI) vwCl (outW cI cB cP ad Z K ++ R) H) (hD : va_D (aB base) (outW cI cB cP ad Z K ++ R)) (hS : va_S (aB base) s.heap H locs) (hCF : OF Z K) (hcn : cells + (490) ≤ 900 ∧ slots + 256 * (490) ≤ 256 * (900)), W p l e (headSpec wsL_refused_q rmL_refused).room s m ([.ref (ad 0 0)] : List Value).toArray below meth c H locs cells slots (MQ below (cBe (dC, dI) vwCl base (some (.int rr)) (fun ws => ∃ Z : Nat → Nat, ws = (outW cI cB cP ad Z KK ++ R) ∧ OF Z KK)) ([.ref (ad 0 0)] : List Value).toArray s (900) (256 * (900)) (aB base)) (F0 m 469 ls []) := by
    intro k214 hk214 K x1 x3 x4 H locs Z cells slots ls h hl hP hD hS hCF hcn
    unfold fL_refused_469 at h
    refine lv_iinc (v := x4 + 1) (lv' := [(4, .int (x4 + 1)), (0, .ref (ad 0 0)), (1, .long x1), (3, .int x3)]) hx hb dL_refused_469 hl (k := 3) rfl rfl (by decide) rfl (fun ls hl => ?_)
    refine lv_goto (tgt := 214) hx hb dL_refused_472 (by decide) ?_
    exact hk214 h (lv_sub hl [1, 2, 3, 0] rfl) hP hD hS hCF (by omega)
  have t_366 : ∀ {k214 : OT → Int64 → Int32 → Int32 → Option (Int32 × OT)} (hk214 : ∀ {K : OT} {x1 : Int64} {x3 : Int32} {x4 : Int32} {H : Heap} {locs : List Loc} {Z : Nat → Nat} {cells slots : Nat} {ls : Array Slot} (h : k214 K x1 x3 x4 = some (rr, KK)) (hl : lv_has ls 8 [(0, .ref (ad 0 0)), (1, .long x1), (3, .int x3), (4, .int x4)]) (hP : va_P (dC, dI) vwCl (outW cI cB cP ad Z K ++ R) H) (hD : va_D (aB base) (outW cI cB cP ad Z K ++ R)) (hS : va_S (aB base) s.heap H locs) (hCF : OF Z K) (hcn : cells + (490) ≤ 900 ∧ slots + 256 * (490) ≤ 256 * (900)), W p l e (headSpec wsL_refused_q rmL_refused).room s m ([.ref (ad 0 0)] : List Value).toArray below meth c H locs cells slots (MQ below (cBe (dC, dI) vwCl base (some (.int rr)) (fun ws => ∃ Z : Nat → Nat, ws = (outW cI cB cP ad Z KK ++ R) ∧ OF Z KK)) ([.ref (ad 0 0)] : List Value).toArray s (900) (256 * (900)) (aB base)) (F0 m 214 ls [])), ∀ {K : OT} {x1 : Int64} {x4 : Int32} {y0 : Int32} {H : Heap} {locs : List Loc} {Z : Nat → Nat} {cells slots : Nat} {ls : Array Slot} (h : fL_refused_366 N k214 K x1 x4 y0 = some (rr, KK)) (hl : lv_has ls 8 [(0, .ref (ad 0 0)), (1, .long x1), (4, .int x4)]) (hP : va_P (dC, dI) vwCl (outW cI cB cP ad Z K ++ R) H) (hD : va_D (aB base) (outW cI cB cP ad Z K ++ R)) (hS : va_S (aB base) s.heap H locs) (hCF : OF Z K) (hcn : cells + (490) ≤ 900 ∧ slots + 256 * (490) ≤ 256 * (900)), W p l e (headSpec wsL_refused_q rmL_refused).room s m ([.ref (ad 0 0)] : List Value).toArray below meth c H locs cells slots (MQ below (cBe (dC, dI) vwCl base (some (.int rr)) (fun ws => ∃ Z : Nat → Nat, ws = (outW cI cB cP ad Z KK ++ R) ∧ OF Z KK)) ([.ref (ad 0 0)] : List Value).toArray s (900) (256 * (900)) (aB base)) (F0 m 366 ls [.int y0]) := by
    intro k214 hk214 K x1 x4 y0 H locs Z cells slots ls h hl hP hD hS hCF hcn
    unfold fL_refused_366 at h
    refine lv_istore_n (lv' := [(3, .int y0), (0, .ref (ad 0 0)), (1, .long x1), (4, .int x4)]) hx hb dL_refused_366 rfl hl (by decide) rfl (fun ls hl => ?_)
    refine lv_goto (tgt := 469) hx hb dL_refused_367 (by decide) ?_
    exact t_469 @hk214 h (lv_sub hl [1, 2, 0, 3] rfl) hP hD hS hCF (by omega)
  have t_365 : ∀ {k214 : OT → Int64 → Int32 → Int32 → Option (Int32 × OT)} (hk214 : ∀ {K : OT} {x1 : Int64} {x3 : Int32} {x4 : Int32} {H : Heap} {locs : List Loc} {Z : Nat → Nat} {cells slots : Nat} {ls : Array Slot} (h : k214 K x1 x3 x4 = some (rr, KK)) (hl : lv_has ls 8 [(0, .ref (ad 0 0)), (1, .long x1), (3, .int x3), (4, .int x4)]) (hP : va_P (dC, dI) vwCl (outW cI cB cP ad Z K ++ R) H) (hD : va_D (aB base) (outW cI cB cP ad Z K ++ R)) (hS : va_S (aB base) s.heap H locs) (hCF : OF Z K) (hcn : cells + (490) ≤ 900 ∧ slots + 256 * (490) ≤ 256 * (900)), W p l e (headSpec wsL_refused_q rmL_refused).room s m ([.ref (ad 0 0)] : List Value).toArray below meth c H locs cells slots (MQ below (cBe (dC, dI) vwCl base (some (.int rr)) (fun ws => ∃ Z : Nat → Nat, ws = (outW cI cB cP ad Z KK ++ R) ∧ OF Z KK)) ([.ref (ad 0 0)] : List Value).toArray s (900) (256 * (900)) (aB base)) (F0 m 214 ls [])), ∀ {K : OT} {x1 : Int64} {x4 : Int32} {H : Heap} {locs : List Loc} {Z : Nat → Nat} {cells slots : Nat} {ls : Array Slot} (h : fL_refused_365 N k214 K x1 x4 = some (rr, KK)) (hl : lv_has ls 8 [(0, .ref (ad 0 0)), (1, .long x1), (4, .int x4)]) (hP : va_P (dC, dI) vwCl (outW cI cB cP ad Z K ++ R) H) (hD : va_D (aB base) (outW cI cB cP ad Z K ++ R)) (hS : va_S (aB base) s.heap H locs) (hCF : OF Z K) (hcn : cells + (490) ≤ 900 ∧ slots + 256 * (490) ≤ 256 * (900)), W p l e (headSpec wsL_refused_q rmL_refused).room s m ([.ref (ad 0 0)] : List Value).toArray below meth c H locs cells slots (MQ below (cBe (dC, dI) vwCl base (some (.int rr)) (fun ws => ∃ Z : Nat → Nat, ws = (outW cI cB cP ad Z KK ++ R) ∧ OF Z KK)) ([.ref (ad 0 0)] : List Value).toArray s (900) (256 * (900)) (aB base)) (F0 m 365 ls []) := by
    intro k214 hk214 K x1 x4 H locs Z cells slots ls h hl hP hD hS hCF hcn
    unfold fL_refused_365 at h
    refine lv_iconst (v := 0) hx hb dL_refused_365 (by decide) ?_
    exact t_366 @hk214 h (lv_sub hl [0, 1, 2] rfl) hP hD hS hCF (by omega)
  have t_408 : ∀ {k214 : OT → Int64 → Int32 → Int32 → Option (Int32 × OT)} (hk214 : ∀ {K : OT} {x1 : Int64} {x3 : Int32} {x4 : Int32} {H : Heap} {locs : List Loc} {Z : Nat → Nat} {cells slots : Nat} {ls : Array Slot} (h : k214 K x1 x3 x4 = some (rr, KK)) (hl : lv_has ls 8 [(0, .ref (ad 0 0)), (1, .long x1), (3, .int x3), (4, .int x4)]) (hP : va_P (dC, dI) vwCl (outW cI cB cP ad Z K ++ R) H) (hD : va_D (aB base) (outW cI cB cP ad Z K ++ R)) (hS : va_S (aB base) s.heap H locs) (hCF : OF Z K) (hcn : cells + (490) ≤ 900 ∧ slots + 256 * (490) ≤ 256 * (900)), W p l e (headSpec wsL_refused_q rmL_refused).room s m ([.ref (ad 0 0)] : List Value).toArray below meth c H locs cells slots (MQ below (cBe (dC, dI) vwCl base (some (.int rr)) (fun ws => ∃ Z : Nat → Nat, ws = (outW cI cB cP ad Z KK ++ R) ∧ OF Z KK)) ([.ref (ad 0 0)] : List Value).toArray s (900) (256 * (900)) (aB base)) (F0 m 214 ls [])), ∀ {K : OT} {x1 : Int64} {x4 : Int32} {y0 : Int32} {H : Heap} {locs : List Loc} {Z : Nat → Nat} {cells slots : Nat} {ls : Array Slot} (h : fL_refused_408 N k214 K x1 x4 y0 = some (rr, KK)) (hl : lv_has ls 8 [(0, .ref (ad 0 0)), (1, .long x1), (4, .int x4)]) (hP : va_P (dC, dI) vwCl (outW cI cB cP ad Z K ++ R) H) (hD : va_D (aB base) (outW cI cB cP ad Z K ++ R)) (hS : va_S (aB base) s.heap H locs) (hCF : OF Z K) (hcn : cells + (490) ≤ 900 ∧ slots + 256 * (490) ≤ 256 * (900)), W p l e (headSpec wsL_refused_q rmL_refused).room s m ([.ref (ad 0 0)] : List Value).toArray below meth c H locs cells slots (MQ below (cBe (dC, dI) vwCl base (some (.int rr)) (fun ws => ∃ Z : Nat → Nat, ws = (outW cI cB cP ad Z KK ++ R) ∧ OF Z KK)) ([.ref (ad 0 0)] : List Value).toArray s (900) (256 * (900)) (aB base)) (F0 m 408 ls [.int y0]) := by
    intro k214 hk214 K x1 x4 y0 H locs Z cells slots ls h hl hP hD hS hCF hcn
    unfold fL_refused_408 at h
    refine lv_istore_n (lv' := [(3, .int y0), (0, .ref (ad 0 0)), (1, .long x1), (4, .int x4)]) hx hb dL_refused_408 rfl hl (by decide) rfl (fun ls hl => ?_)
    refine lv_goto (tgt := 469) hx hb dL_refused_409 (by decide) ?_
    exact t_469 @hk214 h (lv_sub hl [1, 2, 0, 3] rfl) hP hD hS hCF (by omega)
  have t_407 : ∀ {k214 : OT → Int64 → Int32 → Int32 → Option (Int32 × OT)} (hk214 : ∀ {K : OT} {x1 : Int64} {x3 : Int32} {x4 : Int32} {H : Heap} {locs : List Loc} {Z : Nat → Nat} {cells slots : Nat} {ls : Array Slot} (h : k214 K x1 x3 x4 = some (rr, KK)) (hl : lv_has ls 8 [(0, .ref (ad 0 0)), (1, .long x1), (3, .int x3), (4, .int x4)]) (hP : va_P (dC, dI) vwCl (outW cI cB cP ad Z K ++ R) H) (hD : va_D (aB base) (outW cI cB cP ad Z K ++ R)) (hS : va_S (aB base) s.heap H locs) (hCF : OF Z K) (hcn : cells + (490) ≤ 900 ∧ slots + 256 * (490) ≤ 256 * (900)), W p l e (headSpec wsL_refused_q rmL_refused).room s m ([.ref (ad 0 0)] : List Value).toArray below meth c H locs cells slots (MQ below (cBe (dC, dI) vwCl base (some (.int rr)) (fun ws => ∃ Z : Nat → Nat, ws = (outW cI cB cP ad Z KK ++ R) ∧ OF Z KK)) ([.ref (ad 0 0)] : List Value).toArray s (900) (256 * (900)) (aB base)) (F0 m 214 ls [])), ∀ {K : OT} {x1 : Int64} {x4 : Int32} {H : Heap} {locs : List Loc} {Z : Nat → Nat} {cells slots : Nat} {ls : Array Slot} (h : fL_refused_407 N k214 K x1 x4 = some (rr, KK)) (hl : lv_has ls 8 [(0, .ref (ad 0 0)), (1, .long x1), (4, .int x4)]) (hP : va_P (dC, dI) vwCl (outW cI cB cP ad Z K ++ R) H) (hD : va_D (aB base) (outW cI cB cP ad Z K ++ R)) (hS : va_S (aB base) s.heap H locs) (hCF : OF Z K) (hcn : cells + (490) ≤ 900 ∧ slots + 256 * (490) ≤ 256 * (900)), W p l e (headSpec wsL_refused_q rmL_refused).room s m ([.ref (ad 0 0)] : List Value).toArray below meth c H locs cells slots (MQ below (cBe (dC, dI) vwCl base (some (.int rr)) (fun ws => ∃ Z : Nat → Nat, ws = (outW cI cB cP ad Z KK ++ R) ∧ OF Z KK)) ([.ref (ad 0 0)] : List Value).toArray s (900) (256 * (900)) (aB base)) (F0 m 407 ls []) := by
    intro k214 hk214 K x1 x4 H locs Z cells slots ls h hl hP hD hS hCF hcn
    unfold fL_refused_407 at h
    refine lv_iconst (v := 0) hx hb dL_refused_407 (by decide) ?_
    exact t_408 @hk214 h (lv_sub hl [0, 1, 2] rfl) hP hD hS hCF (by omega)
  have t_468 : ∀ {k214 : OT → Int64 → Int32 → Int32 → Option (Int32 × OT)} (hk214 : ∀ {K : OT} {x1 : Int64} {x3 : Int32} {x4 : Int32} {H : Heap} {locs : List Loc} {Z : Nat → Nat} {cells slots : Nat} {ls : Array Slot} (h : k214 K x1 x3 x4 = some (rr, KK)) (hl : lv_has ls 8 [(0, .ref (ad 0 0)), (1, .long x1), (3, .int x3), (4, .int x4)]) (hP : va_P (dC, dI) vwCl (outW cI cB cP ad Z K ++ R) H) (hD : va_D (aB base) (outW cI cB cP ad Z K ++ R)) (hS : va_S (aB base) s.heap H locs) (hCF : OF Z K) (hcn : cells + (490) ≤ 900 ∧ slots + 256 * (490) ≤ 256 * (900)), W p l e (headSpec wsL_refused_q rmL_refused).room s m ([.ref (ad 0 0)] : List Value).toArray below meth c H locs cells slots (MQ below (cBe (dC, dI) vwCl base (some (.int rr)) (fun ws => ∃ Z : Nat → Nat, ws = (outW cI cB cP ad Z KK ++ R) ∧ OF Z KK)) ([.ref (ad 0 0)] : List Value).toArray s (900) (256 * (900)) (aB base)) (F0 m 214 ls [])), ∀ {K : OT} {x1 : Int64} {x4 : Int32} {y0 : Int32} {H : Heap} {locs : List Loc} {Z : Nat → Nat} {cells slots : Nat} {ls : Array Slot} (h : fL_refused_468 N k214 K x1 x4 y0 = some (rr, KK)) (hl : lv_has ls 8 [(0, .ref (ad 0 0)), (1, .long x1), (4, .int x4)]) (hP : va_P (dC, dI) vwCl (outW cI cB cP ad Z K ++ R) H) (hD : va_D (aB base) (outW cI cB cP ad Z K ++ R)) (hS : va_S (aB base) s.heap H locs) (hCF : OF Z K) (hcn : cells + (490) ≤ 900 ∧ slots + 256 * (490) ≤ 256 * (900)), W p l e (headSpec wsL_refused_q rmL_refused).room s m ([.ref (ad 0 0)] : List Value).toArray below meth c H locs cells slots (MQ below (cBe (dC, dI) vwCl base (some (.int rr)) (fun ws => ∃ Z : Nat → Nat, ws = (outW cI cB cP ad Z KK ++ R) ∧ OF Z KK)) ([.ref (ad 0 0)] : List Value).toArray s (900) (256 * (900)) (aB base)) (F0 m 468 ls [.int y0]) := by
    intro k214 hk214 K x1 x4 y0 H locs Z cells slots ls h hl hP hD hS hCF hcn
    unfold fL_refused_468 at h
    refine lv_istore_n (lv' := [(3, .int y0), (0, .ref (ad 0 0)), (1, .long x1), (4, .int x4)]) hx hb dL_refused_468 rfl hl (by decide) rfl (fun ls hl => ?_)
    exact t_469 @hk214 h (lv_sub hl [1, 2, 0, 3] rfl) hP hD hS hCF (by omega)
  have t_467 : ∀ {k214 : OT → Int64 → Int32 → Int32 → Option (Int32 × OT)} (hk214 : ∀ {K : OT} {x1 : Int64} {x3 : Int32} {x4 : Int32} {H : Heap} {locs : List Loc} {Z : Nat → Nat} {cells slots : Nat} {ls : Array Slot} (h : k214 K x1 x3 x4 = some (rr, KK)) (hl : lv_has ls 8 [(0, .ref (ad 0 0)), (1, .long x1), (3, .int x3), (4, .int x4)]) (hP : va_P (dC, dI) vwCl (outW cI cB cP ad Z K ++ R) H) (hD : va_D (aB base) (outW cI cB cP ad Z K ++ R)) (hS : va_S (aB base) s.heap H locs) (hCF : OF Z K) (hcn : cells + (490) ≤ 900 ∧ slots + 256 * (490) ≤ 256 * (900)), W p l e (headSpec wsL_refused_q rmL_refused).room s m ([.ref (ad 0 0)] : List Value).toArray below meth c H locs cells slots (MQ below (cBe (dC, dI) vwCl base (some (.int rr)) (fun ws => ∃ Z : Nat → Nat, ws = (outW cI cB cP ad Z KK ++ R) ∧ OF Z KK)) ([.ref (ad 0 0)] : List Value).toArray s (900) (256 * (900)) (aB base)) (F0 m 214 ls [])), ∀ {K : OT} {x1 : Int64} {x4 : Int32} {H : Heap} {locs : List Loc} {Z : Nat → Nat} {cells slots : Nat} {ls : Array Slot} (h : fL_refused_467 N k214 K x1 x4 = some (rr, KK)) (hl : lv_has ls 8 [(0, .ref (ad 0 0)), (1, .long x1), (4, .int x4)]) (hP : va_P (dC, dI) vwCl (outW cI cB cP ad Z K ++ R) H) (hD : va_D (aB base) (outW cI cB cP ad Z K ++ R)) (hS : va_S (aB base) s.heap H locs) (hCF : OF Z K) (hcn : cells + (490) ≤ 900 ∧ slots + 256 * (490) ≤ 256 * (900)), W p l e (headSpec wsL_refused_q rmL_refused).room s m ([.ref (ad 0 0)] : List Value).toArray below meth c H locs cells slots (MQ below (cBe (dC, dI) vwCl base (some (.int rr)) (fun ws => ∃ Z : Nat → Nat, ws = (outW cI cB cP ad Z KK ++ R) ∧ OF Z KK)) ([.ref (ad 0 0)] : List Value).toArray s (900) (256 * (900)) (aB base)) (F0 m 467 ls []) := by
    intro k214 hk214 K x1 x4 H locs Z cells slots ls h hl hP hD hS hCF hcn
    unfold fL_refused_467 at h
    refine lv_iconst (v := 0) hx hb dL_refused_467 (by decide) ?_
    exact t_468 @hk214 h (lv_sub hl [0, 1, 2] rfl) hP hD hS hCF (by omega)
  have t_281 : ∀ {k214 : OT → Int64 → Int32 → Int32 → Option (Int32 × OT)} (hk214 : ∀ {K : OT} {x1 : Int64} {x3 : Int32} {x4 : Int32} {H : Heap} {locs : List Loc} {Z : Nat → Nat} {cells slots : Nat} {ls : Array Slot} (h : k214 K x1 x3 x4 = some (rr, KK)) (hl : lv_has ls 8 [(0, .ref (ad 0 0)), (1, .long x1), (3, .int x3), (4, .int x4)]) (hP : va_P (dC, dI) vwCl (outW cI cB cP ad Z K ++ R) H) (hD : va_D (aB base) (outW cI cB cP ad Z K ++ R)) (hS : va_S (aB base) s.heap H locs) (hCF : OF Z K) (hcn : cells + (490) ≤ 900 ∧ slots + 256 * (490) ≤ 256 * (900)), W p l e (headSpec wsL_refused_q rmL_refused).room s m ([.ref (ad 0 0)] : List Value).toArray below meth c H locs cells slots (MQ below (cBe (dC, dI) vwCl base (some (.int rr)) (fun ws => ∃ Z : Nat → Nat, ws = (outW cI cB cP ad Z KK ++ R) ∧ OF Z KK)) ([.ref (ad 0 0)] : List Value).toArray s (900) (256 * (900)) (aB base)) (F0 m 214 ls [])), ∀ {K : OT} {x1 : Int64} {x4 : Int32} {x5 : Int32} {x6 : Int32} {x7 : Int32} {y0 : Int32} {H : Heap} {locs : List Loc} {Z : Nat → Nat} {cells slots : Nat} {ls : Array Slot} (h : fL_refused_281 N k214 K x1 x4 x5 x6 x7 y0 = some (rr, KK)) (hl : lv_has ls 8 [(0, .ref (ad 0 0)), (1, .long x1), (4, .int x4), (5, .int x5), (6, .int x6), (7, .int x7)]) (hP : va_P (dC, dI) vwCl (outW cI cB cP ad Z K ++ R) H) (hD : va_D (aB base) (outW cI cB cP ad Z K ++ R)) (hS : va_S (aB base) s.heap H locs) (hCF : OF Z K) (hcn : cells + (490) ≤ 900 ∧ slots + 256 * (490) ≤ 256 * (900)), W p l e (headSpec wsL_refused_q rmL_refused).room s m ([.ref (ad 0 0)] : List Value).toArray below meth c H locs cells slots (MQ below (cBe (dC, dI) vwCl base (some (.int rr)) (fun ws => ∃ Z : Nat → Nat, ws = (outW cI cB cP ad Z KK ++ R) ∧ OF Z KK)) ([.ref (ad 0 0)] : List Value).toArray s (900) (256 * (900)) (aB base)) (F0 m 281 ls [.int y0]) := by
    intro k214 hk214 K x1 x4 x5 x6 x7 y0 H locs Z cells slots ls h hl hP hD hS hCF hcn
    unfold fL_refused_281 at h
    refine lv_istore_n (lv' := [(3, .int y0), (0, .ref (ad 0 0)), (1, .long x1), (4, .int x4), (5, .int x5), (6, .int x6), (7, .int x7)]) hx hb dL_refused_281 rfl hl (by decide) rfl (fun ls hl => ?_)
    refine lv_iload hx hb dL_refused_282 (lv_at hl 4 rfl) ?_
    refine lv_if_ne (tgt := 370) hx hb dL_refused_284 (by decide) (fun c1 => ?_) (fun c1 => ?_)
    · replace h := if_n c1 h
      refine lv_iload hx hb dL_refused_370 (lv_at hl 5 rfl) ?_
      refine lv_iconst (v := 1) hx hb dL_refused_372 (by decide) ?_
      refine lv_icmp_ne (tgt := 412) hx hb dL_refused_373 (by decide) (fun c2 => ?_) (fun c2 => ?_)
      · replace h := if_n c2 h
        refine lv_iload_n hx hb dL_refused_412 rfl (lv_at hl 0 rfl) ?_
        refine lv_if_eq (tgt := 467) hx hb dL_refused_413 (by decide) (fun c3 => ?_) (fun c3 => ?_)
        · replace h := if_p c3 h
          exact t_467 @hk214 h (lv_sub hl [1, 2, 3] rfl) hP hD hS hCF (by omega)
        · replace h := if_n c3 h
          refine lv_aload_n hx hb dL_refused_416 rfl (lv_at hl 1 rfl) ?_
          refine lv_iload hx hb dL_refused_417 (lv_at hl 3 rfl) ?_
          refine lv_iconst (v := 0) hx hb dL_refused_419 (by decide) ?_
          obtain ⟨v4, O5, hv4, h⟩ := bdO_some h
          refine call_BVE (As := [.int x4, .int 0]) (rest := []) ⟨hx, hb, hml, hown, hts⟩ (tX2_write (l := l) (dC := dC) (dI := dI) (cI := cI) (cB := cB) (cP := cP) (ad := ad) (base := base) (R := R) hv4 hCF) (cwV 2 hts (gqL_refused gQ_X2_write) rfl rfl rfl (by decide +kernel) ⟨Nat.le_of_ble_eq_true rfl, Nat.le_of_ble_eq_true rfl⟩) hK hP hD hS (Nat.le_trans hbs hS.1) (fun U hU hW => Env_step rfl rfl hE hS hU hW) 0 rfl rfl (by rfl) hl.1 rfl (Nat.le_of_ble_eq_true rfl) dL_refused_420 ⟨by show _ ≤ 900; omega, by show _ ≤ 256 * (900); omega⟩ (fun H locs ws9 hW9 hP hD _ hS => ?_)
          obtain ⟨Z, rfl, hCF⟩ := hW9
          refine lv_bipush (v := (-3)) hx hb dL_refused_423 (by decide) ?_
          refine lv_icmp_ne (tgt := 467) hx hb dL_refused_425 (by decide) (fun c6 => ?_) (fun c6 => ?_)
          · replace h := if_n c6 h
            exact t_467 @hk214 h (lv_sub hl [1, 2, 3] rfl) hP hD hS hCF (by omega)
          · replace h := if_p c6 h
            refine lv_aload_n hx hb dL_refused_428 rfl (lv_at hl 1 rfl) ?_
            refine lv_iconst (v := 2) hx hb dL_refused_429 (by decide) ?_
            refine lv_iload hx hb dL_refused_430 (lv_at hl 6 rfl) ?_
            refine lv_bipush (v := (-4)) hx hb dL_refused_432 (by decide) ?_
            obtain ⟨v7, hv7, h⟩ := bdP_some h
            refine call_LSP (As := [.ref (ad 0 0), .int 2, .int x7, .int ((-4))]) (rest := []) ⟨hx, hb, hml, hown, hts⟩ (tL_is (l := l) (dC := dC) (dI := dI) (cI := cI) (cB := cB) (cP := cP) (ad := ad) (base := base) (b := b) (L := L) (xs := xs) (adK := adK) (adV := adV) (R := R) hv7 hCF) (va_cwS 4 hts (gqL_refused gQ_L_is) rfl rfl rfl (by decide +kernel) ⟨Nat.le_of_ble_eq_true rfl, Nat.le_of_ble_eq_true rfl⟩) hK hP hD (Nat.le_trans hbs hS.1) (fun U hU hW => EnvL_step hEL hS hU hW) (by rfl) hl.1 rfl (Nat.le_of_ble_eq_true rfl) dL_refused_434 ⟨by show _ ≤ 900; omega, by show _ ≤ 256 * (900); omega⟩ ?_
            refine lv_if_eq (tgt := 467) hx hb dL_refused_437 (by decide) (fun c8 => ?_) (fun c8 => ?_)
            · replace h := if_p c8 h
              exact t_467 @hk214 h (lv_sub hl [1, 2, 3] rfl) hP hD hS hCF (by omega)
            · replace h := if_n c8 h
              refine lv_aload_n hx hb dL_refused_440 rfl (lv_at hl 1 rfl) ?_
              refine lv_iload hx hb dL_refused_441 (lv_at hl 3 rfl) ?_
              obtain ⟨v9, O10, hv9, h⟩ := bdO_some h
              refine call_BVE (As := [.int x4]) (rest := []) ⟨hx, hb, hml, hown, hts⟩ (tX2_march (l := l) (dC := dC) (dI := dI) (cI := cI) (cB := cB) (cP := cP) (ad := ad) (base := base) (R := R) hv9 hCF) (cwV 1 hts (gqL_refused gQ_X2_march) rfl rfl rfl (by decide +kernel) ⟨Nat.le_of_ble_eq_true rfl, Nat.le_of_ble_eq_true rfl⟩) hK hP hD hS (Nat.le_trans hbs hS.1) (fun U hU hW => Env_step rfl rfl hE hS hU hW) 0 rfl rfl (by rfl) hl.1 rfl (Nat.le_of_ble_eq_true rfl) dL_refused_443 ⟨by show _ ≤ 900; omega, by show _ ≤ 256 * (900); omega⟩ (fun H locs ws9 hW9 hP hD _ hS => ?_)
              obtain ⟨Z, rfl, hCF⟩ := hW9
              refine lv_bipush (v := (-3)) hx hb dL_refused_446 (by decide) ?_
              refine lv_icmp_ne (tgt := 467) hx hb dL_refused_448 (by decide) (fun c11 => ?_) (fun c11 => ?_)
              · replace h := if_n c11 h
                exact t_467 @hk214 h (lv_sub hl [1, 2, 3] rfl) hP hD hS hCF (by omega)
              · replace h := if_p c11 h
                refine lv_aload_n hx hb dL_refused_451 rfl (lv_at hl 1 rfl) ?_
                refine lv_iconst (v := 2) hx hb dL_refused_452 (by decide) ?_
                refine lv_iload hx hb dL_refused_453 (lv_at hl 6 rfl) ?_
                refine lv_bipush (v := (-4)) hx hb dL_refused_455 (by decide) ?_
                obtain ⟨v12, hv12, h⟩ := bdP_some h
                refine call_LSP (As := [.ref (ad 0 0), .int 2, .int x7, .int ((-4))]) (rest := []) ⟨hx, hb, hml, hown, hts⟩ (tL_is (l := l) (dC := dC) (dI := dI) (cI := cI) (cB := cB) (cP := cP) (ad := ad) (base := base) (b := b) (L := L) (xs := xs) (adK := adK) (adV := adV) (R := R) hv12 hCF) (va_cwS 4 hts (gqL_refused gQ_L_is) rfl rfl rfl (by decide +kernel) ⟨Nat.le_of_ble_eq_true rfl, Nat.le_of_ble_eq_true rfl⟩) hK hP hD (Nat.le_trans hbs hS.1) (fun U hU hW => EnvL_step hEL hS hU hW) (by rfl) hl.1 rfl (Nat.le_of_ble_eq_true rfl) dL_refused_457 ⟨by show _ ≤ 900; omega, by show _ ≤ 256 * (900); omega⟩ ?_
                refine lv_if_eq (tgt := 467) hx hb dL_refused_460 (by decide) (fun c13 => ?_) (fun c13 => ?_)
                · replace h := if_p c13 h
                  exact t_467 @hk214 h (lv_sub hl [1, 2, 3] rfl) hP hD hS hCF (by omega)
                · replace h := if_n c13 h
                  refine lv_iconst (v := 1) hx hb dL_refused_463 (by decide) ?_
                  refine lv_goto (tgt := 468) hx hb dL_refused_464 (by decide) ?_
                  exact t_468 @hk214 h (lv_sub hl [1, 2, 3] rfl) hP hD hS hCF (by omega)
      · replace h := if_p c2 h
        refine lv_iload_n hx hb dL_refused_376 rfl (lv_at hl 0 rfl) ?_
        refine lv_if_eq (tgt := 407) hx hb dL_refused_377 (by decide) (fun c14 => ?_) (fun c14 => ?_)
        · replace h := if_p c14 h
          exact t_407 @hk214 h (lv_sub hl [1, 2, 3] rfl) hP hD hS hCF (by omega)
        · replace h := if_n c14 h
          refine lv_aload_n hx hb dL_refused_380 rfl (lv_at hl 1 rfl) ?_
          refine lv_iload hx hb dL_refused_381 (lv_at hl 3 rfl) ?_
          obtain ⟨v15, O16, hv15, h⟩ := bdO_some h
          refine call_BVE (As := [.int x4]) (rest := []) ⟨hx, hb, hml, hown, hts⟩ (tX2_dusk (l := l) (dC := dC) (dI := dI) (cI := cI) (cB := cB) (cP := cP) (ad := ad) (base := base) (R := R) hv15 hCF) (cwV 1 hts (gqL_refused gQ_X2_dusk) rfl rfl rfl (by decide +kernel) ⟨Nat.le_of_ble_eq_true rfl, Nat.le_of_ble_eq_true rfl⟩) hK hP hD hS (Nat.le_trans hbs hS.1) (fun U hU hW => Env_step rfl rfl hE hS hU hW) 0 rfl rfl (by rfl) hl.1 rfl (Nat.le_of_ble_eq_true rfl) dL_refused_383 ⟨by show _ ≤ 900; omega, by show _ ≤ 256 * (900); omega⟩ (fun H locs ws9 hW9 hP hD _ hS => ?_)
          obtain ⟨Z, rfl, hCF⟩ := hW9
          refine lv_bipush (v := (-3)) hx hb dL_refused_386 (by decide) ?_
          refine lv_icmp_ne (tgt := 407) hx hb dL_refused_388 (by decide) (fun c17 => ?_) (fun c17 => ?_)
          · replace h := if_n c17 h
            exact t_407 @hk214 h (lv_sub hl [1, 2, 3] rfl) hP hD hS hCF (by omega)
          · replace h := if_p c17 h
            refine lv_aload_n hx hb dL_refused_391 rfl (lv_at hl 1 rfl) ?_
            refine lv_iconst (v := 2) hx hb dL_refused_392 (by decide) ?_
            refine lv_iload hx hb dL_refused_393 (lv_at hl 6 rfl) ?_
            refine lv_bipush (v := (-4)) hx hb dL_refused_395 (by decide) ?_
            obtain ⟨v18, hv18, h⟩ := bdP_some h
            refine call_LSP (As := [.ref (ad 0 0), .int 2, .int x7, .int ((-4))]) (rest := []) ⟨hx, hb, hml, hown, hts⟩ (tL_is (l := l) (dC := dC) (dI := dI) (cI := cI) (cB := cB) (cP := cP) (ad := ad) (base := base) (b := b) (L := L) (xs := xs) (adK := adK) (adV := adV) (R := R) hv18 hCF) (va_cwS 4 hts (gqL_refused gQ_L_is) rfl rfl rfl (by decide +kernel) ⟨Nat.le_of_ble_eq_true rfl, Nat.le_of_ble_eq_true rfl⟩) hK hP hD (Nat.le_trans hbs hS.1) (fun U hU hW => EnvL_step hEL hS hU hW) (by rfl) hl.1 rfl (Nat.le_of_ble_eq_true rfl) dL_refused_397 ⟨by show _ ≤ 900; omega, by show _ ≤ 256 * (900); omega⟩ ?_
            refine lv_if_eq (tgt := 407) hx hb dL_refused_400 (by decide) (fun c19 => ?_) (fun c19 => ?_)
            · replace h := if_p c19 h
              exact t_407 @hk214 h (lv_sub hl [1, 2, 3] rfl) hP hD hS hCF (by omega)
            · replace h := if_n c19 h
              refine lv_iconst (v := 1) hx hb dL_refused_403 (by decide) ?_
              refine lv_goto (tgt := 408) hx hb dL_refused_404 (by decide) ?_
              exact t_408 @hk214 h (lv_sub hl [1, 2, 3] rfl) hP hD hS hCF (by omega)
    · replace h := if_p c1 h
      refine lv_iload_n hx hb dL_refused_287 rfl (lv_at hl 0 rfl) ?_
      refine lv_if_eq (tgt := 365) hx hb dL_refused_288 (by decide) (fun c20 => ?_) (fun c20 => ?_)
      · replace h := if_p c20 h
        exact t_365 @hk214 h (lv_sub hl [1, 2, 3] rfl) hP hD hS hCF (by omega)
      · replace h := if_n c20 h
        refine lv_aload_n hx hb dL_refused_291 rfl (lv_at hl 1 rfl) ?_
        refine lv_iload hx hb dL_refused_292 (lv_at hl 3 rfl) ?_
        obtain ⟨v21, O22, hv21, h⟩ := bdO_some h
        refine call_BVE (As := [.int x4]) (rest := []) ⟨hx, hb, hml, hown, hts⟩ (tX2_dusk (l := l) (dC := dC) (dI := dI) (cI := cI) (cB := cB) (cP := cP) (ad := ad) (base := base) (R := R) hv21 hCF) (cwV 1 hts (gqL_refused gQ_X2_dusk) rfl rfl rfl (by decide +kernel) ⟨Nat.le_of_ble_eq_true rfl, Nat.le_of_ble_eq_true rfl⟩) hK hP hD hS (Nat.le_trans hbs hS.1) (fun U hU hW => Env_step rfl rfl hE hS hU hW) 0 rfl rfl (by rfl) hl.1 rfl (Nat.le_of_ble_eq_true rfl) dL_refused_294 ⟨by show _ ≤ 900; omega, by show _ ≤ 256 * (900); omega⟩ (fun H locs ws9 hW9 hP hD _ hS => ?_)
        obtain ⟨Z, rfl, hCF⟩ := hW9
        refine lv_bipush (v := (-3)) hx hb dL_refused_297 (by decide) ?_
        refine lv_icmp_ne (tgt := 365) hx hb dL_refused_299 (by decide) (fun c23 => ?_) (fun c23 => ?_)
        · replace h := if_n c23 h
          exact t_365 @hk214 h (lv_sub hl [1, 2, 3] rfl) hP hD hS hCF (by omega)
        · replace h := if_p c23 h
          refine lv_aload_n hx hb dL_refused_302 rfl (lv_at hl 1 rfl) ?_
          refine lv_iconst (v := 1) hx hb dL_refused_303 (by decide) ?_
          refine lv_iload hx hb dL_refused_304 (lv_at hl 3 rfl) ?_
          refine lv_bipush (v := (-4)) hx hb dL_refused_306 (by decide) ?_
          obtain ⟨v24, hv24, h⟩ := bdP_some h
          refine call_LSP (As := [.ref (ad 0 0), .int 1, .int x4, .int ((-4))]) (rest := []) ⟨hx, hb, hml, hown, hts⟩ (tL_is (l := l) (dC := dC) (dI := dI) (cI := cI) (cB := cB) (cP := cP) (ad := ad) (base := base) (b := b) (L := L) (xs := xs) (adK := adK) (adV := adV) (R := R) hv24 hCF) (va_cwS 4 hts (gqL_refused gQ_L_is) rfl rfl rfl (by decide +kernel) ⟨Nat.le_of_ble_eq_true rfl, Nat.le_of_ble_eq_true rfl⟩) hK hP hD (Nat.le_trans hbs hS.1) (fun U hU hW => EnvL_step hEL hS hU hW) (by rfl) hl.1 rfl (Nat.le_of_ble_eq_true rfl) dL_refused_308 ⟨by show _ ≤ 900; omega, by show _ ≤ 256 * (900); omega⟩ ?_
          refine lv_if_eq (tgt := 365) hx hb dL_refused_311 (by decide) (fun c25 => ?_) (fun c25 => ?_)
          · replace h := if_p c25 h
            exact t_365 @hk214 h (lv_sub hl [1, 2, 3] rfl) hP hD hS hCF (by omega)
          · replace h := if_n c25 h
            refine lv_aload_n hx hb dL_refused_314 rfl (lv_at hl 1 rfl) ?_
            refine lv_iload hx hb dL_refused_315 (lv_at hl 3 rfl) ?_
            refine lv_iconst (v := 0) hx hb dL_refused_317 (by decide) ?_
            obtain ⟨v26, O27, hv26, h⟩ := bdO_some h
            refine call_BVE (As := [.int x4, .int 0]) (rest := []) ⟨hx, hb, hml, hown, hts⟩ (tX2_write (l := l) (dC := dC) (dI := dI) (cI := cI) (cB := cB) (cP := cP) (ad := ad) (base := base) (R := R) hv26 hCF) (cwV 2 hts (gqL_refused gQ_X2_write) rfl rfl rfl (by decide +kernel) ⟨Nat.le_of_ble_eq_true rfl, Nat.le_of_ble_eq_true rfl⟩) hK hP hD hS (Nat.le_trans hbs hS.1) (fun U hU hW => Env_step rfl rfl hE hS hU hW) 0 rfl rfl (by rfl) hl.1 rfl (Nat.le_of_ble_eq_true rfl) dL_refused_318 ⟨by show _ ≤ 900; omega, by show _ ≤ 256 * (900); omega⟩ (fun H locs ws9 hW9 hP hD _ hS => ?_)
            obtain ⟨Z, rfl, hCF⟩ := hW9
            refine lv_bipush (v := (-3)) hx hb dL_refused_321 (by decide) ?_
            refine lv_icmp_ne (tgt := 365) hx hb dL_refused_323 (by decide) (fun c28 => ?_) (fun c28 => ?_)
            · replace h := if_n c28 h
              exact t_365 @hk214 h (lv_sub hl [1, 2, 3] rfl) hP hD hS hCF (by omega)
            · replace h := if_p c28 h
              refine lv_aload_n hx hb dL_refused_326 rfl (lv_at hl 1 rfl) ?_
              refine lv_iconst (v := 1) hx hb dL_refused_327 (by decide) ?_
              refine lv_iload hx hb dL_refused_328 (lv_at hl 3 rfl) ?_
              refine lv_bipush (v := (-4)) hx hb dL_refused_330 (by decide) ?_
              obtain ⟨v29, hv29, h⟩ := bdP_some h
              refine call_LSP (As := [.ref (ad 0 0), .int 1, .int x4, .int ((-4))]) (rest := []) ⟨hx, hb, hml, hown, hts⟩ (tL_is (l := l) (dC := dC) (dI := dI) (cI := cI) (cB := cB) (cP := cP) (ad := ad) (base := base) (b := b) (L := L) (xs := xs) (adK := adK) (adV := adV) (R := R) hv29 hCF) (va_cwS 4 hts (gqL_refused gQ_L_is) rfl rfl rfl (by decide +kernel) ⟨Nat.le_of_ble_eq_true rfl, Nat.le_of_ble_eq_true rfl⟩) hK hP hD (Nat.le_trans hbs hS.1) (fun U hU hW => EnvL_step hEL hS hU hW) (by rfl) hl.1 rfl (Nat.le_of_ble_eq_true rfl) dL_refused_332 ⟨by show _ ≤ 900; omega, by show _ ≤ 256 * (900); omega⟩ ?_
              refine lv_if_eq (tgt := 365) hx hb dL_refused_335 (by decide) (fun c30 => ?_) (fun c30 => ?_)
              · replace h := if_p c30 h
                exact t_365 @hk214 h (lv_sub hl [1, 2, 3] rfl) hP hD hS hCF (by omega)
              · replace h := if_n c30 h
                refine lv_aload_n hx hb dL_refused_338 rfl (lv_at hl 1 rfl) ?_
                refine lv_iload hx hb dL_refused_339 (lv_at hl 3 rfl) ?_
                obtain ⟨v31, O32, hv31, h⟩ := bdO_some h
                refine call_BVE (As := [.int x4]) (rest := []) ⟨hx, hb, hml, hown, hts⟩ (tX2_march (l := l) (dC := dC) (dI := dI) (cI := cI) (cB := cB) (cP := cP) (ad := ad) (base := base) (R := R) hv31 hCF) (cwV 1 hts (gqL_refused gQ_X2_march) rfl rfl rfl (by decide +kernel) ⟨Nat.le_of_ble_eq_true rfl, Nat.le_of_ble_eq_true rfl⟩) hK hP hD hS (Nat.le_trans hbs hS.1) (fun U hU hW => Env_step rfl rfl hE hS hU hW) 0 rfl rfl (by rfl) hl.1 rfl (Nat.le_of_ble_eq_true rfl) dL_refused_341 ⟨by show _ ≤ 900; omega, by show _ ≤ 256 * (900); omega⟩ (fun H locs ws9 hW9 hP hD _ hS => ?_)
                obtain ⟨Z, rfl, hCF⟩ := hW9
                refine lv_bipush (v := (-3)) hx hb dL_refused_344 (by decide) ?_
                refine lv_icmp_ne (tgt := 365) hx hb dL_refused_346 (by decide) (fun c33 => ?_) (fun c33 => ?_)
                · replace h := if_n c33 h
                  exact t_365 @hk214 h (lv_sub hl [1, 2, 3] rfl) hP hD hS hCF (by omega)
                · replace h := if_p c33 h
                  refine lv_aload_n hx hb dL_refused_349 rfl (lv_at hl 1 rfl) ?_
                  refine lv_iconst (v := 1) hx hb dL_refused_350 (by decide) ?_
                  refine lv_iload hx hb dL_refused_351 (lv_at hl 3 rfl) ?_
                  refine lv_bipush (v := (-4)) hx hb dL_refused_353 (by decide) ?_
                  obtain ⟨v34, hv34, h⟩ := bdP_some h
                  refine call_LSP (As := [.ref (ad 0 0), .int 1, .int x4, .int ((-4))]) (rest := []) ⟨hx, hb, hml, hown, hts⟩ (tL_is (l := l) (dC := dC) (dI := dI) (cI := cI) (cB := cB) (cP := cP) (ad := ad) (base := base) (b := b) (L := L) (xs := xs) (adK := adK) (adV := adV) (R := R) hv34 hCF) (va_cwS 4 hts (gqL_refused gQ_L_is) rfl rfl rfl (by decide +kernel) ⟨Nat.le_of_ble_eq_true rfl, Nat.le_of_ble_eq_true rfl⟩) hK hP hD (Nat.le_trans hbs hS.1) (fun U hU hW => EnvL_step hEL hS hU hW) (by rfl) hl.1 rfl (Nat.le_of_ble_eq_true rfl) dL_refused_355 ⟨by show _ ≤ 900; omega, by show _ ≤ 256 * (900); omega⟩ ?_
                  refine lv_if_eq (tgt := 365) hx hb dL_refused_358 (by decide) (fun c35 => ?_) (fun c35 => ?_)
                  · replace h := if_p c35 h
                    exact t_365 @hk214 h (lv_sub hl [1, 2, 3] rfl) hP hD hS hCF (by omega)
                  · replace h := if_n c35 h
                    refine lv_iconst (v := 1) hx hb dL_refused_361 (by decide) ?_
                    refine lv_goto (tgt := 366) hx hb dL_refused_362 (by decide) ?_
                    exact t_366 @hk214 h (lv_sub hl [1, 2, 3] rfl) hP hD hS hCF (by omega)
  have t_280 : ∀ {k214 : OT → Int64 → Int32 → Int32 → Option (Int32 × OT)} (hk214 : ∀ {K : OT} {x1 : Int64} {x3 : Int32} {x4 : Int32} {H : Heap} {locs : List Loc} {Z : Nat → Nat} {cells slots : Nat} {ls : Array Slot} (h : k214 K x1 x3 x4 = some (rr, KK)) (hl : lv_has ls 8 [(0, .ref (ad 0 0)), (1, .long x1), (3, .int x3), (4, .int x4)]) (hP : va_P (dC, dI) vwCl (outW cI cB cP ad Z K ++ R) H) (hD : va_D (aB base) (outW cI cB cP ad Z K ++ R)) (hS : va_S (aB base) s.heap H locs) (hCF : OF Z K) (hcn : cells + (490) ≤ 900 ∧ slots + 256 * (490) ≤ 256 * (900)), W p l e (headSpec wsL_refused_q rmL_refused).room s m ([.ref (ad 0 0)] : List Value).toArray below meth c H locs cells slots (MQ below (cBe (dC, dI) vwCl base (some (.int rr)) (fun ws => ∃ Z : Nat → Nat, ws = (outW cI cB cP ad Z KK ++ R) ∧ OF Z KK)) ([.ref (ad 0 0)] : List Value).toArray s (900) (256 * (900)) (aB base)) (F0 m 214 ls [])), ∀ {K : OT} {x1 : Int64} {x4 : Int32} {x5 : Int32} {x6 : Int32} {x7 : Int32} {H : Heap} {locs : List Loc} {Z : Nat → Nat} {cells slots : Nat} {ls : Array Slot} (h : fL_refused_280 N k214 K x1 x4 x5 x6 x7 = some (rr, KK)) (hl : lv_has ls 8 [(0, .ref (ad 0 0)), (1, .long x1), (4, .int x4), (5, .int x5), (6, .int x6), (7, .int x7)]) (hP : va_P (dC, dI) vwCl (outW cI cB cP ad Z K ++ R) H) (hD : va_D (aB base) (outW cI cB cP ad Z K ++ R)) (hS : va_S (aB base) s.heap H locs) (hCF : OF Z K) (hcn : cells + (490) ≤ 900 ∧ slots + 256 * (490) ≤ 256 * (900)), W p l e (headSpec wsL_refused_q rmL_refused).room s m ([.ref (ad 0 0)] : List Value).toArray below meth c H locs cells slots (MQ below (cBe (dC, dI) vwCl base (some (.int rr)) (fun ws => ∃ Z : Nat → Nat, ws = (outW cI cB cP ad Z KK ++ R) ∧ OF Z KK)) ([.ref (ad 0 0)] : List Value).toArray s (900) (256 * (900)) (aB base)) (F0 m 280 ls []) := by
    intro k214 hk214 K x1 x4 x5 x6 x7 H locs Z cells slots ls h hl hP hD hS hCF hcn
    unfold fL_refused_280 at h
    refine lv_iconst (v := 0) hx hb dL_refused_280 (by decide) ?_
    exact t_281 @hk214 h (lv_sub hl [0, 1, 2, 3, 4, 5] rfl) hP hD hS hCF (by omega)
  have t_909 : ∀ {K : OT} {y0 : Int32} {H : Heap} {locs : List Loc} {Z : Nat → Nat} {cells slots : Nat} {ls : Array Slot} (h : fL_refused_909 N  K y0 = some (rr, KK)) (hl : lv_has ls 8 []) (hP : va_P (dC, dI) vwCl (outW cI cB cP ad Z K ++ R) H) (hD : va_D (aB base) (outW cI cB cP ad Z K ++ R)) (hS : va_S (aB base) s.heap H locs) (hCF : OF Z K) (hcn : cells + (0) ≤ 900 ∧ slots + 256 * (0) ≤ 256 * (900)), W p l e (headSpec wsL_refused_q rmL_refused).room s m ([.ref (ad 0 0)] : List Value).toArray below meth c H locs cells slots (MQ below (cBe (dC, dI) vwCl base (some (.int rr)) (fun ws => ∃ Z : Nat → Nat, ws = (outW cI cB cP ad Z KK ++ R) ∧ OF Z KK)) ([.ref (ad 0 0)] : List Value).toArray s (900) (256 * (900)) (aB base)) (F0 m 909 ls [.int y0]) := by
    intro  K y0 H locs Z cells slots ls h hl hP hD hS hCF hcn
    unfold fL_refused_909 at h
    obtain ⟨hz, h⟩ := gd_some h
    exact W_le (by omega) (by omega) (W.zret hx hb hr (zb_ok hz) (fun t ht _ => retO h hCF hP hD hS ht) hS.2.2 dL_refused_909)
  have t_908 : ∀ {K : OT}  {H : Heap} {locs : List Loc} {Z : Nat → Nat} {cells slots : Nat} {ls : Array Slot} (h : fL_refused_908 N  K  = some (rr, KK)) (hl : lv_has ls 8 []) (hP : va_P (dC, dI) vwCl (outW cI cB cP ad Z K ++ R) H) (hD : va_D (aB base) (outW cI cB cP ad Z K ++ R)) (hS : va_S (aB base) s.heap H locs) (hCF : OF Z K) (hcn : cells + (0) ≤ 900 ∧ slots + 256 * (0) ≤ 256 * (900)), W p l e (headSpec wsL_refused_q rmL_refused).room s m ([.ref (ad 0 0)] : List Value).toArray below meth c H locs cells slots (MQ below (cBe (dC, dI) vwCl base (some (.int rr)) (fun ws => ∃ Z : Nat → Nat, ws = (outW cI cB cP ad Z KK ++ R) ∧ OF Z KK)) ([.ref (ad 0 0)] : List Value).toArray s (900) (256 * (900)) (aB base)) (F0 m 908 ls []) := by
    intro  K H locs Z cells slots ls h hl hP hD hS hCF hcn
    unfold fL_refused_908 at h
    refine lv_iconst (v := 0) hx hb dL_refused_908 (by decide) ?_
    exact t_909  h (lv_sub hl [] rfl) hP hD hS hCF (by omega)
  have t_826 : ∀ {K : OT} {x1 : Int64} {y0 : Int32} {H : Heap} {locs : List Loc} {Z : Nat → Nat} {cells slots : Nat} {ls : Array Slot} (h : fL_refused_826 N  K x1 y0 = some (rr, KK)) (hl : lv_has ls 8 [(0, .ref (ad 0 0)), (1, .long x1)]) (hP : va_P (dC, dI) vwCl (outW cI cB cP ad Z K ++ R) H) (hD : va_D (aB base) (outW cI cB cP ad Z K ++ R)) (hS : va_S (aB base) s.heap H locs) (hCF : OF Z K) (hcn : cells + (424) ≤ 900 ∧ slots + 256 * (424) ≤ 256 * (900)), W p l e (headSpec wsL_refused_q rmL_refused).room s m ([.ref (ad 0 0)] : List Value).toArray below meth c H locs cells slots (MQ below (cBe (dC, dI) vwCl base (some (.int rr)) (fun ws => ∃ Z : Nat → Nat, ws = (outW cI cB cP ad Z KK ++ R) ∧ OF Z KK)) ([.ref (ad 0 0)] : List Value).toArray s (900) (256 * (900)) (aB base)) (F0 m 826 ls [.int y0]) := by
    intro  K x1 y0 H locs Z cells slots ls h hl hP hD hS hCF hcn
    unfold fL_refused_826 at h
    refine lv_istore_n (lv' := [(3, .int y0), (0, .ref (ad 0 0)), (1, .long x1)]) hx hb dL_refused_826 rfl hl (by decide) rfl (fun ls hl => ?_)
    refine lv_iload_n hx hb dL_refused_827 rfl (lv_at hl 0 rfl) ?_
    refine lv_if_eq (tgt := 908) hx hb dL_refused_828 (by decide) (fun c36 => ?_) (fun c36 => ?_)
    · replace h := if_p c36 h
      exact t_908  h (lv_sub hl [] rfl) hP hD hS hCF (by omega)
    · replace h := if_n c36 h
      refine lv_aload_n hx hb dL_refused_831 rfl (lv_at hl 1 rfl) ?_
      refine va_ldcS hx hb hown (hEL.2.2.2 2 (by decide)) dL_refused_832 ?_
      obtain ⟨v37, O38, hv37, h⟩ := bdO_some h
      refine call_LRE (As := [.ref (ad 0 0), .ref (adK 2)]) (rest := []) ⟨hx, hb, hml, hown, hts⟩ (tL_reads (l := l) (dC := dC) (dI := dI) (cI := cI) (cB := cB) (cP := cP) (ad := ad) (base := base) (b := b) (L := L) (xs := xs) (adK := adK) (adV := adV) (R := R) (sa := adK 2) hv37 hCF) (va_cwS 2 hts (gqL_refused gQ_L_reads) rfl rfl rfl (by decide +kernel) ⟨Nat.le_of_ble_eq_true rfl, Nat.le_of_ble_eq_true rfl⟩) hK hP hD hS (Nat.le_trans hbs hS.1) (fun U hU hW => EnvL_step hEL hS hU hW) (StrF_lit hEL hS (k := 2) (by decide)) (by rfl) hl.1 rfl (Nat.le_of_ble_eq_true rfl) dL_refused_834 ⟨by show _ ≤ 900; omega, by show _ ≤ 256 * (900); omega⟩ (fun H locs ws9 hW9 hP hD _ hS => ?_)
      obtain ⟨Z, rfl, hCF⟩ := hW9
      refine lv_bipush (v := (-100)) hx hb dL_refused_837 (by decide) ?_
      refine lv_icmp_ne (tgt := 908) hx hb dL_refused_839 (by decide) (fun c39 => ?_) (fun c39 => ?_)
      · replace h := if_n c39 h
        exact t_908  h (lv_sub hl [] rfl) hP hD hS hCF (by omega)
      · replace h := if_p c39 h
        refine lv_aload_n hx hb dL_refused_842 rfl (lv_at hl 1 rfl) ?_
        refine va_ldcS hx hb hown (hEL.2.2.2 3 (by decide)) dL_refused_843 ?_
        obtain ⟨v40, O41, hv40, h⟩ := bdO_some h
        refine call_LRE (As := [.ref (ad 0 0), .ref (adK 3)]) (rest := []) ⟨hx, hb, hml, hown, hts⟩ (tL_reads (l := l) (dC := dC) (dI := dI) (cI := cI) (cB := cB) (cP := cP) (ad := ad) (base := base) (b := b) (L := L) (xs := xs) (adK := adK) (adV := adV) (R := R) (sa := adK 3) hv40 hCF) (va_cwS 2 hts (gqL_refused gQ_L_reads) rfl rfl rfl (by decide +kernel) ⟨Nat.le_of_ble_eq_true rfl, Nat.le_of_ble_eq_true rfl⟩) hK hP hD hS (Nat.le_trans hbs hS.1) (fun U hU hW => EnvL_step hEL hS hU hW) (StrF_lit hEL hS (k := 3) (by decide)) (by rfl) hl.1 rfl (Nat.le_of_ble_eq_true rfl) dL_refused_845 ⟨by show _ ≤ 900; omega, by show _ ≤ 256 * (900); omega⟩ (fun H locs ws9 hW9 hP hD _ hS => ?_)
        obtain ⟨Z, rfl, hCF⟩ := hW9
        refine lv_bipush (v := (-3)) hx hb dL_refused_848 (by decide) ?_
        refine lv_icmp_ne (tgt := 908) hx hb dL_refused_850 (by decide) (fun c42 => ?_) (fun c42 => ?_)
        · replace h := if_n c42 h
          exact t_908  h (lv_sub hl [] rfl) hP hD hS hCF (by omega)
        · replace h := if_p c42 h
          refine lv_aload_n hx hb dL_refused_853 rfl (lv_at hl 1 rfl) ?_
          refine lv_iconst (v := 4) hx hb dL_refused_854 (by decide) ?_
          refine lv_iconst (v := 2) hx hb dL_refused_855 (by decide) ?_
          refine lv_iconst (v := 1) hx hb dL_refused_856 (by decide) ?_
          obtain ⟨v43, hv43, h⟩ := bdP_some h
          refine call_LSP (As := [.ref (ad 0 0), .int 4, .int 2, .int 1]) (rest := []) ⟨hx, hb, hml, hown, hts⟩ (tL_is (l := l) (dC := dC) (dI := dI) (cI := cI) (cB := cB) (cP := cP) (ad := ad) (base := base) (b := b) (L := L) (xs := xs) (adK := adK) (adV := adV) (R := R) hv43 hCF) (va_cwS 4 hts (gqL_refused gQ_L_is) rfl rfl rfl (by decide +kernel) ⟨Nat.le_of_ble_eq_true rfl, Nat.le_of_ble_eq_true rfl⟩) hK hP hD (Nat.le_trans hbs hS.1) (fun U hU hW => EnvL_step hEL hS hU hW) (by rfl) hl.1 rfl (Nat.le_of_ble_eq_true rfl) dL_refused_857 ⟨by show _ ≤ 900; omega, by show _ ≤ 256 * (900); omega⟩ ?_
          refine lv_if_eq (tgt := 908) hx hb dL_refused_860 (by decide) (fun c44 => ?_) (fun c44 => ?_)
          · replace h := if_p c44 h
            exact t_908  h (lv_sub hl [] rfl) hP hD hS hCF (by omega)
          · replace h := if_n c44 h
            refine lv_aload_n hx hb dL_refused_863 rfl (lv_at hl 1 rfl) ?_
            refine va_ldcS hx hb hown (hEL.2.2.2 4 (by decide)) dL_refused_864 ?_
            obtain ⟨v45, O46, hv45, h⟩ := bdO_some h
            refine call_LRE (As := [.ref (ad 0 0), .ref (adK 4)]) (rest := []) ⟨hx, hb, hml, hown, hts⟩ (tL_reads (l := l) (dC := dC) (dI := dI) (cI := cI) (cB := cB) (cP := cP) (ad := ad) (base := base) (b := b) (L := L) (xs := xs) (adK := adK) (adV := adV) (R := R) (sa := adK 4) hv45 hCF) (va_cwS 2 hts (gqL_refused gQ_L_reads) rfl rfl rfl (by decide +kernel) ⟨Nat.le_of_ble_eq_true rfl, Nat.le_of_ble_eq_true rfl⟩) hK hP hD hS (Nat.le_trans hbs hS.1) (fun U hU hW => EnvL_step hEL hS hU hW) (StrF_lit hEL hS (k := 4) (by decide)) (by rfl) hl.1 rfl (Nat.le_of_ble_eq_true rfl) dL_refused_866 ⟨by show _ ≤ 900; omega, by show _ ≤ 256 * (900); omega⟩ (fun H locs ws9 hW9 hP hD _ hS => ?_)
            obtain ⟨Z, rfl, hCF⟩ := hW9
            refine lv_bipush (v := (-2)) hx hb dL_refused_869 (by decide) ?_
            refine lv_icmp_ne (tgt := 908) hx hb dL_refused_871 (by decide) (fun c47 => ?_) (fun c47 => ?_)
            · replace h := if_n c47 h
              exact t_908  h (lv_sub hl [] rfl) hP hD hS hCF (by omega)
            · replace h := if_p c47 h
              refine lv_aload_n hx hb dL_refused_874 rfl (lv_at hl 1 rfl) ?_
              refine lv_iconst (v := 4) hx hb dL_refused_875 (by decide) ?_
              refine lv_iconst (v := 2) hx hb dL_refused_876 (by decide) ?_
              refine lv_iconst (v := 1) hx hb dL_refused_877 (by decide) ?_
              obtain ⟨v48, hv48, h⟩ := bdP_some h
              refine call_LSP (As := [.ref (ad 0 0), .int 4, .int 2, .int 1]) (rest := []) ⟨hx, hb, hml, hown, hts⟩ (tL_is (l := l) (dC := dC) (dI := dI) (cI := cI) (cB := cB) (cP := cP) (ad := ad) (base := base) (b := b) (L := L) (xs := xs) (adK := adK) (adV := adV) (R := R) hv48 hCF) (va_cwS 4 hts (gqL_refused gQ_L_is) rfl rfl rfl (by decide +kernel) ⟨Nat.le_of_ble_eq_true rfl, Nat.le_of_ble_eq_true rfl⟩) hK hP hD (Nat.le_trans hbs hS.1) (fun U hU hW => EnvL_step hEL hS hU hW) (by rfl) hl.1 rfl (Nat.le_of_ble_eq_true rfl) dL_refused_878 ⟨by show _ ≤ 900; omega, by show _ ≤ 256 * (900); omega⟩ ?_
              refine lv_if_eq (tgt := 908) hx hb dL_refused_881 (by decide) (fun c49 => ?_) (fun c49 => ?_)
              · replace h := if_p c49 h
                exact t_908  h (lv_sub hl [] rfl) hP hD hS hCF (by omega)
              · replace h := if_n c49 h
                refine lv_aload_n hx hb dL_refused_884 rfl (lv_at hl 1 rfl) ?_
                refine va_ldcS hx hb hown (hEL.2.2.2 5 (by decide)) dL_refused_885 ?_
                obtain ⟨v50, O51, hv50, h⟩ := bdO_some h
                refine call_LRE (As := [.ref (ad 0 0), .ref (adK 5)]) (rest := []) ⟨hx, hb, hml, hown, hts⟩ (tL_reads (l := l) (dC := dC) (dI := dI) (cI := cI) (cB := cB) (cP := cP) (ad := ad) (base := base) (b := b) (L := L) (xs := xs) (adK := adK) (adV := adV) (R := R) (sa := adK 5) hv50 hCF) (va_cwS 2 hts (gqL_refused gQ_L_reads) rfl rfl rfl (by decide +kernel) ⟨Nat.le_of_ble_eq_true rfl, Nat.le_of_ble_eq_true rfl⟩) hK hP hD hS (Nat.le_trans hbs hS.1) (fun U hU hW => EnvL_step hEL hS hU hW) (StrF_lit hEL hS (k := 5) (by decide)) (by rfl) hl.1 rfl (Nat.le_of_ble_eq_true rfl) dL_refused_887 ⟨by show _ ≤ 900; omega, by show _ ≤ 256 * (900); omega⟩ (fun H locs ws9 hW9 hP hD _ hS => ?_)
                obtain ⟨Z, rfl, hCF⟩ := hW9
                refine lv_bipush (v := (-2)) hx hb dL_refused_890 (by decide) ?_
                refine lv_icmp_ne (tgt := 908) hx hb dL_refused_892 (by decide) (fun c52 => ?_) (fun c52 => ?_)
                · replace h := if_n c52 h
                  exact t_908  h (lv_sub hl [] rfl) hP hD hS hCF (by omega)
                · replace h := if_p c52 h
                  refine lv_aload_n hx hb dL_refused_895 rfl (lv_at hl 1 rfl) ?_
                  obtain ⟨v53, O54, hv53, h⟩ := bdL_some h
                  refine call_LSE (As := [.ref (ad 0 0)]) (rest := []) ⟨hx, hb, hml, hown, hts⟩ (tL_asks (l := l) (dC := dC) (dI := dI) (cI := cI) (cB := cB) (cP := cP) (ad := ad) (base := base) (b := b) (L := L) (xs := xs) (adK := adK) (adV := adV) (R := R) hv53 hCF) (va_cwS 1 hts (gqL_refused gQ_L_asks) rfl rfl rfl (by decide +kernel) ⟨Nat.le_of_ble_eq_true rfl, Nat.le_of_ble_eq_true rfl⟩) hK hP hD hS (Nat.le_trans hbs hS.1) (fun U hU hW => EnvL_step hEL hS hU hW) (by rfl) hl.1 rfl (Nat.le_of_ble_eq_true rfl) dL_refused_896 ⟨by show _ ≤ 900; omega, by show _ ≤ 256 * (900); omega⟩ (fun H locs ws9 hW9 hP hD _ hS => ?_)
                  obtain ⟨Z, rfl, hCF⟩ := hW9
                  refine lv_lload_n hx hb dL_refused_899 rfl (lv_at hl 2 rfl) ?_
                  refine W.lcmp hx hb dL_refused_900 ?_
                  refine lv_if_ne (tgt := 908) hx hb dL_refused_901 (by decide) (fun c55 => ?_) (fun c55 => ?_)
                  · replace h := if_n c55 h
                    exact t_908  h (lv_sub hl [] rfl) hP hD hS hCF (by omega)
                  · replace h := if_p c55 h
                    refine lv_iconst (v := 1) hx hb dL_refused_904 (by decide) ?_
                    refine lv_goto (tgt := 909) hx hb dL_refused_905 (by decide) ?_
                    exact t_909  h (lv_sub hl [] rfl) hP hD hS hCF (by omega)
  have t_825 : ∀ {K : OT} {x1 : Int64} {H : Heap} {locs : List Loc} {Z : Nat → Nat} {cells slots : Nat} {ls : Array Slot} (h : fL_refused_825 N  K x1 = some (rr, KK)) (hl : lv_has ls 8 [(0, .ref (ad 0 0)), (1, .long x1)]) (hP : va_P (dC, dI) vwCl (outW cI cB cP ad Z K ++ R) H) (hD : va_D (aB base) (outW cI cB cP ad Z K ++ R)) (hS : va_S (aB base) s.heap H locs) (hCF : OF Z K) (hcn : cells + (424) ≤ 900 ∧ slots + 256 * (424) ≤ 256 * (900)), W p l e (headSpec wsL_refused_q rmL_refused).room s m ([.ref (ad 0 0)] : List Value).toArray below meth c H locs cells slots (MQ below (cBe (dC, dI) vwCl base (some (.int rr)) (fun ws => ∃ Z : Nat → Nat, ws = (outW cI cB cP ad Z KK ++ R) ∧ OF Z KK)) ([.ref (ad 0 0)] : List Value).toArray s (900) (256 * (900)) (aB base)) (F0 m 825 ls []) := by
    intro  K x1 H locs Z cells slots ls h hl hP hD hS hCF hcn
    unfold fL_refused_825 at h
    refine lv_iconst (v := 0) hx hb dL_refused_825 (by decide) ?_
    exact t_826  h (lv_sub hl [0, 1] rfl) hP hD hS hCF (by omega)
  have t_604 : ∀ {K : OT} {x1 : Int64} {H : Heap} {locs : List Loc} {Z : Nat → Nat} {cells slots : Nat} {ls : Array Slot} (h : fL_refused_604 N  K x1 = some (rr, KK)) (hl : lv_has ls 8 [(0, .ref (ad 0 0)), (1, .long x1)]) (hP : va_P (dC, dI) vwCl (outW cI cB cP ad Z K ++ R) H) (hD : va_D (aB base) (outW cI cB cP ad Z K ++ R)) (hS : va_S (aB base) s.heap H locs) (hCF : OF Z K) (hcn : cells + (490) ≤ 900 ∧ slots + 256 * (490) ≤ 256 * (900)), W p l e (headSpec wsL_refused_q rmL_refused).room s m ([.ref (ad 0 0)] : List Value).toArray below meth c H locs cells slots (MQ below (cBe (dC, dI) vwCl base (some (.int rr)) (fun ws => ∃ Z : Nat → Nat, ws = (outW cI cB cP ad Z KK ++ R) ∧ OF Z KK)) ([.ref (ad 0 0)] : List Value).toArray s (900) (256 * (900)) (aB base)) (F0 m 604 ls []) := by
    intro  K x1 H locs Z cells slots ls h hl hP hD hS hCF hcn
    unfold fL_refused_604 at h
    refine lv_aload_n hx hb dL_refused_604 rfl (lv_at hl 0 rfl) ?_
    refine lv_iconst (v := 5) hx hb dL_refused_605 (by decide) ?_
    refine lv_iconst (v := 0) hx hb dL_refused_606 (by decide) ?_
    obtain ⟨v56, hv56, h⟩ := bdP_some h
    refine call_BVP (As := [.int 5, .int 0]) (rest := []) ⟨hx, hb, hml, hown, hts⟩ (tX2_reaches (l := l) (dC := dC) (dI := dI) (cI := cI) (cB := cB) (cP := cP) (ad := ad) (base := base) (R := R) hv56 hCF) (cwV 2 hts (gqL_refused gQ_X2_reaches) rfl rfl rfl (by decide +kernel) ⟨Nat.le_of_ble_eq_true rfl, Nat.le_of_ble_eq_true rfl⟩) hK hP hD (Nat.le_trans hbs hS.1) (fun U hU hW => Env_step rfl rfl hE hS hU hW) 0 rfl rfl (by rfl) hl.1 rfl (Nat.le_of_ble_eq_true rfl) dL_refused_607 ⟨by show _ ≤ 900; omega, by show _ ≤ 256 * (900); omega⟩ ?_
    refine lv_iconst (v := (-1)) hx hb dL_refused_610 (by decide) ?_
    refine lv_icmp_ne (tgt := 825) hx hb dL_refused_611 (by decide) (fun c57 => ?_) (fun c57 => ?_)
    · replace h := if_n c57 h
      exact t_825  h (lv_sub hl [0, 1] rfl) hP hD hS hCF (by omega)
    · replace h := if_p c57 h
      refine lv_aload_n hx hb dL_refused_614 rfl (lv_at hl 0 rfl) ?_
      refine lv_iconst (v := 0) hx hb dL_refused_615 (by decide) ?_
      refine lv_iconst (v := (-1)) hx hb dL_refused_616 (by decide) ?_
      obtain ⟨v58, hv58, h⟩ := bdP_some h
      refine call_BVP (As := [.int 0, .int ((-1))]) (rest := []) ⟨hx, hb, hml, hown, hts⟩ (tX2_reaches (l := l) (dC := dC) (dI := dI) (cI := cI) (cB := cB) (cP := cP) (ad := ad) (base := base) (R := R) hv58 hCF) (cwV 2 hts (gqL_refused gQ_X2_reaches) rfl rfl rfl (by decide +kernel) ⟨Nat.le_of_ble_eq_true rfl, Nat.le_of_ble_eq_true rfl⟩) hK hP hD (Nat.le_trans hbs hS.1) (fun U hU hW => Env_step rfl rfl hE hS hU hW) 0 rfl rfl (by rfl) hl.1 rfl (Nat.le_of_ble_eq_true rfl) dL_refused_617 ⟨by show _ ≤ 900; omega, by show _ ≤ 256 * (900); omega⟩ ?_
      refine lv_iconst (v := (-1)) hx hb dL_refused_620 (by decide) ?_
      refine lv_icmp_ne (tgt := 825) hx hb dL_refused_621 (by decide) (fun c59 => ?_) (fun c59 => ?_)
      · replace h := if_n c59 h
        exact t_825  h (lv_sub hl [0, 1] rfl) hP hD hS hCF (by omega)
      · replace h := if_p c59 h
        refine lv_aload_n hx hb dL_refused_624 rfl (lv_at hl 0 rfl) ?_
        refine lv_iconst (v := 0) hx hb dL_refused_625 (by decide) ?_
        refine lv_iconst (v := 5) hx hb dL_refused_626 (by decide) ?_
        obtain ⟨v60, hv60, h⟩ := bdP_some h
        refine call_BVP (As := [.int 0, .int 5]) (rest := []) ⟨hx, hb, hml, hown, hts⟩ (tX2_matches (l := l) (dC := dC) (dI := dI) (cI := cI) (cB := cB) (cP := cP) (ad := ad) (base := base) (R := R) hv60 hCF) (cwV 2 hts (gqL_refused gQ_X2_matches) rfl rfl rfl (by decide +kernel) ⟨Nat.le_of_ble_eq_true rfl, Nat.le_of_ble_eq_true rfl⟩) hK hP hD (Nat.le_trans hbs hS.1) (fun U hU hW => Env_step rfl rfl hE hS hU hW) 0 rfl rfl (by rfl) hl.1 rfl (Nat.le_of_ble_eq_true rfl) dL_refused_627 ⟨by show _ ≤ 900; omega, by show _ ≤ 256 * (900); omega⟩ ?_
        refine lv_iconst (v := (-1)) hx hb dL_refused_630 (by decide) ?_
        refine lv_icmp_ne (tgt := 825) hx hb dL_refused_631 (by decide) (fun c61 => ?_) (fun c61 => ?_)
        · replace h := if_n c61 h
          exact t_825  h (lv_sub hl [0, 1] rfl) hP hD hS hCF (by omega)
        · replace h := if_p c61 h
          refine lv_aload_n hx hb dL_refused_634 rfl (lv_at hl 0 rfl) ?_
          refine lv_iconst (v := (-1)) hx hb dL_refused_635 (by decide) ?_
          refine lv_iconst (v := 0) hx hb dL_refused_636 (by decide) ?_
          obtain ⟨v62, hv62, h⟩ := bdP_some h
          refine call_BVP (As := [.int ((-1)), .int 0]) (rest := []) ⟨hx, hb, hml, hown, hts⟩ (tX2_matchesAgain (l := l) (dC := dC) (dI := dI) (cI := cI) (cB := cB) (cP := cP) (ad := ad) (base := base) (R := R) hv62 hCF) (cwV 2 hts (gqL_refused gQ_X2_matchesAgain) rfl rfl rfl (by decide +kernel) ⟨Nat.le_of_ble_eq_true rfl, Nat.le_of_ble_eq_true rfl⟩) hK hP hD (Nat.le_trans hbs hS.1) (fun U hU hW => Env_step rfl rfl hE hS hU hW) 0 rfl rfl (by rfl) hl.1 rfl (Nat.le_of_ble_eq_true rfl) dL_refused_637 ⟨by show _ ≤ 900; omega, by show _ ≤ 256 * (900); omega⟩ ?_
          refine lv_iconst (v := (-1)) hx hb dL_refused_640 (by decide) ?_
          refine lv_icmp_ne (tgt := 825) hx hb dL_refused_641 (by decide) (fun c63 => ?_) (fun c63 => ?_)
          · replace h := if_n c63 h
            exact t_825  h (lv_sub hl [0, 1] rfl) hP hD hS hCF (by omega)
          · replace h := if_p c63 h
            refine lv_aload_n hx hb dL_refused_644 rfl (lv_at hl 0 rfl) ?_
            refine lv_iconst (v := 5) hx hb dL_refused_645 (by decide) ?_
            refine lv_iconst (v := 0) hx hb dL_refused_646 (by decide) ?_
            obtain ⟨v64, hv64, h⟩ := bdP_some h
            refine call_BVP (As := [.int 5, .int 0]) (rest := []) ⟨hx, hb, hml, hown, hts⟩ (tX2_holders (l := l) (dC := dC) (dI := dI) (cI := cI) (cB := cB) (cP := cP) (ad := ad) (base := base) (R := R) hv64 hCF) (cwV 2 hts (gqL_refused gQ_X2_holders) rfl rfl rfl (by decide +kernel) ⟨Nat.le_of_ble_eq_true rfl, Nat.le_of_ble_eq_true rfl⟩) hK hP hD (Nat.le_trans hbs hS.1) (fun U hU hW => Env_step rfl rfl hE hS hU hW) 0 rfl rfl (by rfl) hl.1 rfl (Nat.le_of_ble_eq_true rfl) dL_refused_647 ⟨by show _ ≤ 900; omega, by show _ ≤ 256 * (900); omega⟩ ?_
            refine lv_iconst (v := (-1)) hx hb dL_refused_650 (by decide) ?_
            refine lv_icmp_ne (tgt := 825) hx hb dL_refused_651 (by decide) (fun c65 => ?_) (fun c65 => ?_)
            · replace h := if_n c65 h
              exact t_825  h (lv_sub hl [0, 1] rfl) hP hD hS hCF (by omega)
            · replace h := if_p c65 h
              refine lv_aload_n hx hb dL_refused_654 rfl (lv_at hl 0 rfl) ?_
              refine lv_iconst (v := 0) hx hb dL_refused_655 (by decide) ?_
              refine lv_iconst (v := (-1)) hx hb dL_refused_656 (by decide) ?_
              obtain ⟨v66, hv66, h⟩ := bdP_some h
              refine call_BVP (As := [.int 0, .int ((-1))]) (rest := []) ⟨hx, hb, hml, hown, hts⟩ (tX2_holders (l := l) (dC := dC) (dI := dI) (cI := cI) (cB := cB) (cP := cP) (ad := ad) (base := base) (R := R) hv66 hCF) (cwV 2 hts (gqL_refused gQ_X2_holders) rfl rfl rfl (by decide +kernel) ⟨Nat.le_of_ble_eq_true rfl, Nat.le_of_ble_eq_true rfl⟩) hK hP hD (Nat.le_trans hbs hS.1) (fun U hU hW => Env_step rfl rfl hE hS hU hW) 0 rfl rfl (by rfl) hl.1 rfl (Nat.le_of_ble_eq_true rfl) dL_refused_657 ⟨by show _ ≤ 900; omega, by show _ ≤ 256 * (900); omega⟩ ?_
              refine lv_iconst (v := (-1)) hx hb dL_refused_660 (by decide) ?_
              refine lv_icmp_ne (tgt := 825) hx hb dL_refused_661 (by decide) (fun c67 => ?_) (fun c67 => ?_)
              · replace h := if_n c67 h
                exact t_825  h (lv_sub hl [0, 1] rfl) hP hD hS hCF (by omega)
              · replace h := if_p c67 h
                refine lv_aload_n hx hb dL_refused_664 rfl (lv_at hl 0 rfl) ?_
                refine lv_iconst (v := 4) hx hb dL_refused_665 (by decide) ?_
                obtain ⟨v68, hv68, h⟩ := bdP_some h
                refine call_BVP (As := [.int 4]) (rest := []) ⟨hx, hb, hml, hown, hts⟩ (tX2_letters (l := l) (dC := dC) (dI := dI) (cI := cI) (cB := cB) (cP := cP) (ad := ad) (base := base) (R := R) hv68 hCF) (cwV 1 hts (gqL_refused gQ_X2_letters) rfl rfl rfl (by decide +kernel) ⟨Nat.le_of_ble_eq_true rfl, Nat.le_of_ble_eq_true rfl⟩) hK hP hD (Nat.le_trans hbs hS.1) (fun U hU hW => Env_step rfl rfl hE hS hU hW) 0 rfl rfl (by rfl) hl.1 rfl (Nat.le_of_ble_eq_true rfl) dL_refused_666 ⟨by show _ ≤ 900; omega, by show _ ≤ 256 * (900); omega⟩ ?_
                refine lv_iconst (v := (-1)) hx hb dL_refused_669 (by decide) ?_
                refine lv_icmp_ne (tgt := 825) hx hb dL_refused_670 (by decide) (fun c69 => ?_) (fun c69 => ?_)
                · replace h := if_n c69 h
                  exact t_825  h (lv_sub hl [0, 1] rfl) hP hD hS hCF (by omega)
                · replace h := if_p c69 h
                  refine lv_aload_n hx hb dL_refused_673 rfl (lv_at hl 0 rfl) ?_
                  refine lv_iconst (v := (-1)) hx hb dL_refused_674 (by decide) ?_
                  obtain ⟨v70, hv70, h⟩ := bdP_some h
                  refine call_BVP (As := [.int ((-1))]) (rest := []) ⟨hx, hb, hml, hown, hts⟩ (tX2_letters (l := l) (dC := dC) (dI := dI) (cI := cI) (cB := cB) (cP := cP) (ad := ad) (base := base) (R := R) hv70 hCF) (cwV 1 hts (gqL_refused gQ_X2_letters) rfl rfl rfl (by decide +kernel) ⟨Nat.le_of_ble_eq_true rfl, Nat.le_of_ble_eq_true rfl⟩) hK hP hD (Nat.le_trans hbs hS.1) (fun U hU hW => Env_step rfl rfl hE hS hU hW) 0 rfl rfl (by rfl) hl.1 rfl (Nat.le_of_ble_eq_true rfl) dL_refused_675 ⟨by show _ ≤ 900; omega, by show _ ≤ 256 * (900); omega⟩ ?_
                  refine lv_iconst (v := (-1)) hx hb dL_refused_678 (by decide) ?_
                  refine lv_icmp_ne (tgt := 825) hx hb dL_refused_679 (by decide) (fun c71 => ?_) (fun c71 => ?_)
                  · replace h := if_n c71 h
                    exact t_825  h (lv_sub hl [0, 1] rfl) hP hD hS hCF (by omega)
                  · replace h := if_p c71 h
                    refine lv_aload_n hx hb dL_refused_682 rfl (lv_at hl 0 rfl) ?_
                    refine lv_iconst (v := 5) hx hb dL_refused_683 (by decide) ?_
                    obtain ⟨v72, O73, hv72, h⟩ := bdO_some h
                    refine call_BVE (As := [.int 5]) (rest := []) ⟨hx, hb, hml, hown, hts⟩ (tX2_would (l := l) (dC := dC) (dI := dI) (cI := cI) (cB := cB) (cP := cP) (ad := ad) (base := base) (R := R) hv72 hCF) (cwV 1 hts (gqL_refused gQ_X2_would) rfl rfl rfl (by decide +kernel) ⟨Nat.le_of_ble_eq_true rfl, Nat.le_of_ble_eq_true rfl⟩) hK hP hD hS (Nat.le_trans hbs hS.1) (fun U hU hW => Env_step rfl rfl hE hS hU hW) 0 rfl rfl (by rfl) hl.1 rfl (Nat.le_of_ble_eq_true rfl) dL_refused_684 ⟨by show _ ≤ 900; omega, by show _ ≤ 256 * (900); omega⟩ (fun H locs ws9 hW9 hP hD _ hS => ?_)
                    obtain ⟨Z, rfl, hCF⟩ := hW9
                    refine lv_iconst (v := (-1)) hx hb dL_refused_687 (by decide) ?_
                    refine lv_icmp_ne (tgt := 825) hx hb dL_refused_688 (by decide) (fun c74 => ?_) (fun c74 => ?_)
                    · replace h := if_n c74 h
                      exact t_825  h (lv_sub hl [0, 1] rfl) hP hD hS hCF (by omega)
                    · replace h := if_p c74 h
                      refine lv_aload_n hx hb dL_refused_691 rfl (lv_at hl 0 rfl) ?_
                      refine lv_iconst (v := 5) hx hb dL_refused_692 (by decide) ?_
                      obtain ⟨v75, hv75, h⟩ := bdP_some h
                      refine call_BVP (As := [.int 5]) (rest := []) ⟨hx, hb, hml, hown, hts⟩ (tX2_ranked (l := l) (dC := dC) (dI := dI) (cI := cI) (cB := cB) (cP := cP) (ad := ad) (base := base) (R := R) hv75 hCF) (cwV 1 hts (gqL_refused gQ_X2_ranked) rfl rfl rfl (by decide +kernel) ⟨Nat.le_of_ble_eq_true rfl, Nat.le_of_ble_eq_true rfl⟩) hK hP hD (Nat.le_trans hbs hS.1) (fun U hU hW => Env_step rfl rfl hE hS hU hW) 0 rfl rfl (by rfl) hl.1 rfl (Nat.le_of_ble_eq_true rfl) dL_refused_693 ⟨by show _ ≤ 900; omega, by show _ ≤ 256 * (900); omega⟩ ?_
                      refine lv_iconst (v := (-1)) hx hb dL_refused_696 (by decide) ?_
                      refine lv_icmp_ne (tgt := 825) hx hb dL_refused_697 (by decide) (fun c76 => ?_) (fun c76 => ?_)
                      · replace h := if_n c76 h
                        exact t_825  h (lv_sub hl [0, 1] rfl) hP hD hS hCF (by omega)
                      · replace h := if_p c76 h
                        refine lv_aload_n hx hb dL_refused_700 rfl (lv_at hl 0 rfl) ?_
                        refine lv_iconst (v := (-1)) hx hb dL_refused_701 (by decide) ?_
                        obtain ⟨v77, hv77, h⟩ := bdP_some h
                        refine call_BVP (As := [.int ((-1))]) (rest := []) ⟨hx, hb, hml, hown, hts⟩ (tX2_ranked (l := l) (dC := dC) (dI := dI) (cI := cI) (cB := cB) (cP := cP) (ad := ad) (base := base) (R := R) hv77 hCF) (cwV 1 hts (gqL_refused gQ_X2_ranked) rfl rfl rfl (by decide +kernel) ⟨Nat.le_of_ble_eq_true rfl, Nat.le_of_ble_eq_true rfl⟩) hK hP hD (Nat.le_trans hbs hS.1) (fun U hU hW => Env_step rfl rfl hE hS hU hW) 0 rfl rfl (by rfl) hl.1 rfl (Nat.le_of_ble_eq_true rfl) dL_refused_702 ⟨by show _ ≤ 900; omega, by show _ ≤ 256 * (900); omega⟩ ?_
                        refine lv_iconst (v := (-1)) hx hb dL_refused_705 (by decide) ?_
                        refine lv_icmp_ne (tgt := 825) hx hb dL_refused_706 (by decide) (fun c78 => ?_) (fun c78 => ?_)
                        · replace h := if_n c78 h
                          exact t_825  h (lv_sub hl [0, 1] rfl) hP hD hS hCF (by omega)
                        · replace h := if_p c78 h
                          refine lv_aload_n hx hb dL_refused_709 rfl (lv_at hl 0 rfl) ?_
                          refine lv_iconst (v := 5) hx hb dL_refused_710 (by decide) ?_
                          obtain ⟨v79, O80, hv79, h⟩ := bdO_some h
                          refine call_BVE (As := [.int 5]) (rest := []) ⟨hx, hb, hml, hown, hts⟩ (tX2_describe (l := l) (dC := dC) (dI := dI) (cI := cI) (cB := cB) (cP := cP) (ad := ad) (base := base) (R := R) hv79 hCF) (cwV 1 hts (gqL_refused gQ_X2_describe) rfl rfl rfl (by decide +kernel) ⟨Nat.le_of_ble_eq_true rfl, Nat.le_of_ble_eq_true rfl⟩) hK hP hD hS (Nat.le_trans hbs hS.1) (fun U hU hW => Env_step rfl rfl hE hS hU hW) 0 rfl rfl (by rfl) hl.1 rfl (Nat.le_of_ble_eq_true rfl) dL_refused_711 ⟨by show _ ≤ 900; omega, by show _ ≤ 256 * (900); omega⟩ (fun H locs ws9 hW9 hP hD _ hS => ?_)
                          obtain ⟨Z, rfl, hCF⟩ := hW9
                          refine lv_iconst (v := (-1)) hx hb dL_refused_714 (by decide) ?_
                          refine lv_icmp_ne (tgt := 825) hx hb dL_refused_715 (by decide) (fun c81 => ?_) (fun c81 => ?_)
                          · replace h := if_n c81 h
                            exact t_825  h (lv_sub hl [0, 1] rfl) hP hD hS hCF (by omega)
                          · replace h := if_p c81 h
                            refine lv_aload_n hx hb dL_refused_718 rfl (lv_at hl 0 rfl) ?_
                            refine lv_iconst (v := (-1)) hx hb dL_refused_719 (by decide) ?_
                            obtain ⟨v82, O83, hv82, h⟩ := bdO_some h
                            refine call_BVE (As := [.int ((-1))]) (rest := []) ⟨hx, hb, hml, hown, hts⟩ (tX2_show (l := l) (dC := dC) (dI := dI) (cI := cI) (cB := cB) (cP := cP) (ad := ad) (base := base) (R := R) hv82 hCF) (cwV 1 hts (gqL_refused gQ_X2_show) rfl rfl rfl (by decide +kernel) ⟨Nat.le_of_ble_eq_true rfl, Nat.le_of_ble_eq_true rfl⟩) hK hP hD hS (Nat.le_trans hbs hS.1) (fun U hU hW => Env_step rfl rfl hE hS hU hW) 0 rfl rfl (by rfl) hl.1 rfl (Nat.le_of_ble_eq_true rfl) dL_refused_720 ⟨by show _ ≤ 900; omega, by show _ ≤ 256 * (900); omega⟩ (fun H locs ws9 hW9 hP hD _ hS => ?_)
                            obtain ⟨Z, rfl, hCF⟩ := hW9
                            refine lv_iconst (v := (-1)) hx hb dL_refused_723 (by decide) ?_
                            refine lv_icmp_ne (tgt := 825) hx hb dL_refused_724 (by decide) (fun c84 => ?_) (fun c84 => ?_)
                            · replace h := if_n c84 h
                              exact t_825  h (lv_sub hl [0, 1] rfl) hP hD hS hCF (by omega)
                            · replace h := if_p c84 h
                              refine lv_aload_n hx hb dL_refused_727 rfl (lv_at hl 0 rfl) ?_
                              refine lv_iconst (v := (-1)) hx hb dL_refused_728 (by decide) ?_
                              obtain ⟨v85, hv85, h⟩ := bdP_some h
                              refine call_BVP (As := [.int ((-1))]) (rest := []) ⟨hx, hb, hml, hown, hts⟩ (tX2_sign (l := l) (dC := dC) (dI := dI) (cI := cI) (cB := cB) (cP := cP) (ad := ad) (base := base) (R := R) hv85 hCF) (cwV 1 hts (gqL_refused gQ_X2_sign) rfl rfl rfl (by decide +kernel) ⟨Nat.le_of_ble_eq_true rfl, Nat.le_of_ble_eq_true rfl⟩) hK hP hD (Nat.le_trans hbs hS.1) (fun U hU hW => Env_step rfl rfl hE hS hU hW) 0 rfl rfl (by rfl) hl.1 rfl (Nat.le_of_ble_eq_true rfl) dL_refused_729 ⟨by show _ ≤ 900; omega, by show _ ≤ 256 * (900); omega⟩ ?_
                              refine lv_iconst (v := (-1)) hx hb dL_refused_732 (by decide) ?_
                              refine lv_icmp_ne (tgt := 825) hx hb dL_refused_733 (by decide) (fun c86 => ?_) (fun c86 => ?_)
                              · replace h := if_n c86 h
                                exact t_825  h (lv_sub hl [0, 1] rfl) hP hD hS hCF (by omega)
                              · replace h := if_p c86 h
                                refine lv_aload_n hx hb dL_refused_736 rfl (lv_at hl 0 rfl) ?_
                                refine lv_sipush (v := 200) hx hb dL_refused_737 (by decide) ?_
                                obtain ⟨v87, hv87, h⟩ := bdP_some h
                                refine call_BVP (As := [.int 200]) (rest := []) ⟨hx, hb, hml, hown, hts⟩ (tX2_sign (l := l) (dC := dC) (dI := dI) (cI := cI) (cB := cB) (cP := cP) (ad := ad) (base := base) (R := R) hv87 hCF) (cwV 1 hts (gqL_refused gQ_X2_sign) rfl rfl rfl (by decide +kernel) ⟨Nat.le_of_ble_eq_true rfl, Nat.le_of_ble_eq_true rfl⟩) hK hP hD (Nat.le_trans hbs hS.1) (fun U hU hW => Env_step rfl rfl hE hS hU hW) 0 rfl rfl (by rfl) hl.1 rfl (Nat.le_of_ble_eq_true rfl) dL_refused_740 ⟨by show _ ≤ 900; omega, by show _ ≤ 256 * (900); omega⟩ ?_
                                refine lv_iconst (v := (-1)) hx hb dL_refused_743 (by decide) ?_
                                refine lv_icmp_ne (tgt := 825) hx hb dL_refused_744 (by decide) (fun c88 => ?_) (fun c88 => ?_)
                                · replace h := if_n c88 h
                                  exact t_825  h (lv_sub hl [0, 1] rfl) hP hD hS hCF (by omega)
                                · replace h := if_p c88 h
                                  refine lv_aload_n hx hb dL_refused_747 rfl (lv_at hl 0 rfl) ?_
                                  refine lv_iconst (v := 3) hx hb dL_refused_748 (by decide) ?_
                                  obtain ⟨v89, hv89, h⟩ := bdP_some h
                                  refine call_BVP (As := [.int 3]) (rest := []) ⟨hx, hb, hml, hown, hts⟩ (tX2_refusal (l := l) (dC := dC) (dI := dI) (cI := cI) (cB := cB) (cP := cP) (ad := ad) (base := base) (R := R) hv89 hCF) (cwV 1 hts (gqL_refused gQ_X2_refusal) rfl rfl rfl (by decide +kernel) ⟨Nat.le_of_ble_eq_true rfl, Nat.le_of_ble_eq_true rfl⟩) hK hP hD (Nat.le_trans hbs hS.1) (fun U hU hW => Env_step rfl rfl hE hS hU hW) 0 rfl rfl (by rfl) hl.1 rfl (Nat.le_of_ble_eq_true rfl) dL_refused_749 ⟨by show _ ≤ 900; omega, by show _ ≤ 256 * (900); omega⟩ ?_
                                  refine lv_bipush (v := (-2)) hx hb dL_refused_752 (by decide) ?_
                                  refine lv_icmp_ne (tgt := 825) hx hb dL_refused_754 (by decide) (fun c90 => ?_) (fun c90 => ?_)
                                  · replace h := if_n c90 h
                                    exact t_825  h (lv_sub hl [0, 1] rfl) hP hD hS hCF (by omega)
                                  · replace h := if_p c90 h
                                    refine lv_aload_n hx hb dL_refused_757 rfl (lv_at hl 0 rfl) ?_
                                    refine lv_iconst (v := (-1)) hx hb dL_refused_758 (by decide) ?_
                                    obtain ⟨v91, hv91, h⟩ := bdP_some h
                                    refine call_BVP (As := [.int ((-1))]) (rest := []) ⟨hx, hb, hml, hown, hts⟩ (tX2_refusal (l := l) (dC := dC) (dI := dI) (cI := cI) (cB := cB) (cP := cP) (ad := ad) (base := base) (R := R) hv91 hCF) (cwV 1 hts (gqL_refused gQ_X2_refusal) rfl rfl rfl (by decide +kernel) ⟨Nat.le_of_ble_eq_true rfl, Nat.le_of_ble_eq_true rfl⟩) hK hP hD (Nat.le_trans hbs hS.1) (fun U hU hW => Env_step rfl rfl hE hS hU hW) 0 rfl rfl (by rfl) hl.1 rfl (Nat.le_of_ble_eq_true rfl) dL_refused_759 ⟨by show _ ≤ 900; omega, by show _ ≤ 256 * (900); omega⟩ ?_
                                    refine lv_bipush (v := (-2)) hx hb dL_refused_762 (by decide) ?_
                                    refine lv_icmp_ne (tgt := 825) hx hb dL_refused_764 (by decide) (fun c92 => ?_) (fun c92 => ?_)
                                    · replace h := if_n c92 h
                                      exact t_825  h (lv_sub hl [0, 1] rfl) hP hD hS hCF (by omega)
                                    · replace h := if_p c92 h
                                      refine lv_aload_n hx hb dL_refused_767 rfl (lv_at hl 0 rfl) ?_
                                      refine lv_bipush (v := 13) hx hb dL_refused_768 (by decide) ?_
                                      obtain ⟨v93, hv93, h⟩ := bdP_some h
                                      refine call_BVP (As := [.int 13]) (rest := []) ⟨hx, hb, hml, hown, hts⟩ (tX2_account (l := l) (dC := dC) (dI := dI) (cI := cI) (cB := cB) (cP := cP) (ad := ad) (base := base) (R := R) hv93 hCF) (cwV 1 hts (gqL_refused gQ_X2_account) rfl rfl rfl (by decide +kernel) ⟨Nat.le_of_ble_eq_true rfl, Nat.le_of_ble_eq_true rfl⟩) hK hP hD (Nat.le_trans hbs hS.1) (fun U hU hW => Env_step rfl rfl hE hS hU hW) 0 rfl rfl (by rfl) hl.1 rfl (Nat.le_of_ble_eq_true rfl) dL_refused_770 ⟨by show _ ≤ 900; omega, by show _ ≤ 256 * (900); omega⟩ ?_
                                      refine lv_bipush (v := (-2)) hx hb dL_refused_773 (by decide) ?_
                                      refine lv_icmp_ne (tgt := 825) hx hb dL_refused_775 (by decide) (fun c94 => ?_) (fun c94 => ?_)
                                      · replace h := if_n c94 h
                                        exact t_825  h (lv_sub hl [0, 1] rfl) hP hD hS hCF (by omega)
                                      · replace h := if_p c94 h
                                        refine lv_aload_n hx hb dL_refused_778 rfl (lv_at hl 0 rfl) ?_
                                        refine lv_iconst (v := (-1)) hx hb dL_refused_779 (by decide) ?_
                                        obtain ⟨v95, hv95, h⟩ := bdP_some h
                                        refine call_BVP (As := [.int ((-1))]) (rest := []) ⟨hx, hb, hml, hown, hts⟩ (tX2_account (l := l) (dC := dC) (dI := dI) (cI := cI) (cB := cB) (cP := cP) (ad := ad) (base := base) (R := R) hv95 hCF) (cwV 1 hts (gqL_refused gQ_X2_account) rfl rfl rfl (by decide +kernel) ⟨Nat.le_of_ble_eq_true rfl, Nat.le_of_ble_eq_true rfl⟩) hK hP hD (Nat.le_trans hbs hS.1) (fun U hU hW => Env_step rfl rfl hE hS hU hW) 0 rfl rfl (by rfl) hl.1 rfl (Nat.le_of_ble_eq_true rfl) dL_refused_780 ⟨by show _ ≤ 900; omega, by show _ ≤ 256 * (900); omega⟩ ?_
                                        refine lv_bipush (v := (-2)) hx hb dL_refused_783 (by decide) ?_
                                        refine lv_icmp_ne (tgt := 825) hx hb dL_refused_785 (by decide) (fun c96 => ?_) (fun c96 => ?_)
                                        · replace h := if_n c96 h
                                          exact t_825  h (lv_sub hl [0, 1] rfl) hP hD hS hCF (by omega)
                                        · replace h := if_p c96 h
                                          refine lv_aload_n hx hb dL_refused_788 rfl (lv_at hl 0 rfl) ?_
                                          refine lv_bipush (v := 31) hx hb dL_refused_789 (by decide) ?_
                                          obtain ⟨v97, O98, hv97, h⟩ := bdO_some h
                                          refine call_BVE (As := [.int 31]) (rest := []) ⟨hx, hb, hml, hown, hts⟩ (tX2_append (l := l) (dC := dC) (dI := dI) (cI := cI) (cB := cB) (cP := cP) (ad := ad) (base := base) (R := R) hv97 hCF) (cwV 1 hts (gqL_refused gQ_X2_append) rfl rfl rfl (by decide +kernel) ⟨Nat.le_of_ble_eq_true rfl, Nat.le_of_ble_eq_true rfl⟩) hK hP hD hS (Nat.le_trans hbs hS.1) (fun U hU hW => Env_step rfl rfl hE hS hU hW) 0 rfl rfl (by rfl) hl.1 rfl (Nat.le_of_ble_eq_true rfl) dL_refused_791 ⟨by show _ ≤ 900; omega, by show _ ≤ 256 * (900); omega⟩ (fun H locs ws9 hW9 hP hD _ hS => ?_)
                                          obtain ⟨Z, rfl, hCF⟩ := hW9
                                          refine lv_bipush (v := (-2)) hx hb dL_refused_794 (by decide) ?_
                                          refine lv_icmp_ne (tgt := 825) hx hb dL_refused_796 (by decide) (fun c99 => ?_) (fun c99 => ?_)
                                          · replace h := if_n c99 h
                                            exact t_825  h (lv_sub hl [0, 1] rfl) hP hD hS hCF (by omega)
                                          · replace h := if_p c99 h
                                            refine lv_aload_n hx hb dL_refused_799 rfl (lv_at hl 0 rfl) ?_
                                            refine lv_bipush (v := 127) hx hb dL_refused_800 (by decide) ?_
                                            obtain ⟨v100, O101, hv100, h⟩ := bdO_some h
                                            refine call_BVE (As := [.int 127]) (rest := []) ⟨hx, hb, hml, hown, hts⟩ (tX2_append (l := l) (dC := dC) (dI := dI) (cI := cI) (cB := cB) (cP := cP) (ad := ad) (base := base) (R := R) hv100 hCF) (cwV 1 hts (gqL_refused gQ_X2_append) rfl rfl rfl (by decide +kernel) ⟨Nat.le_of_ble_eq_true rfl, Nat.le_of_ble_eq_true rfl⟩) hK hP hD hS (Nat.le_trans hbs hS.1) (fun U hU hW => Env_step rfl rfl hE hS hU hW) 0 rfl rfl (by rfl) hl.1 rfl (Nat.le_of_ble_eq_true rfl) dL_refused_802 ⟨by show _ ≤ 900; omega, by show _ ≤ 256 * (900); omega⟩ (fun H locs ws9 hW9 hP hD _ hS => ?_)
                                            obtain ⟨Z, rfl, hCF⟩ := hW9
                                            refine lv_bipush (v := (-2)) hx hb dL_refused_805 (by decide) ?_
                                            refine lv_icmp_ne (tgt := 825) hx hb dL_refused_807 (by decide) (fun c102 => ?_) (fun c102 => ?_)
                                            · replace h := if_n c102 h
                                              exact t_825  h (lv_sub hl [0, 1] rfl) hP hD hS hCF (by omega)
                                            · replace h := if_p c102 h
                                              refine lv_aload_n hx hb dL_refused_810 rfl (lv_at hl 0 rfl) ?_
                                              refine lv_iconst (v := 4) hx hb dL_refused_811 (by decide) ?_
                                              refine lv_iconst (v := 4) hx hb dL_refused_812 (by decide) ?_
                                              refine lv_bipush (v := (-4)) hx hb dL_refused_813 (by decide) ?_
                                              obtain ⟨v103, hv103, h⟩ := bdP_some h
                                              refine call_LSP (As := [.ref (ad 0 0), .int 4, .int 4, .int ((-4))]) (rest := []) ⟨hx, hb, hml, hown, hts⟩ (tL_is (l := l) (dC := dC) (dI := dI) (cI := cI) (cB := cB) (cP := cP) (ad := ad) (base := base) (b := b) (L := L) (xs := xs) (adK := adK) (adV := adV) (R := R) hv103 hCF) (va_cwS 4 hts (gqL_refused gQ_L_is) rfl rfl rfl (by decide +kernel) ⟨Nat.le_of_ble_eq_true rfl, Nat.le_of_ble_eq_true rfl⟩) hK hP hD (Nat.le_trans hbs hS.1) (fun U hU hW => EnvL_step hEL hS hU hW) (by rfl) hl.1 rfl (Nat.le_of_ble_eq_true rfl) dL_refused_815 ⟨by show _ ≤ 900; omega, by show _ ≤ 256 * (900); omega⟩ ?_
                                              refine lv_if_eq (tgt := 825) hx hb dL_refused_818 (by decide) (fun c104 => ?_) (fun c104 => ?_)
                                              · replace h := if_p c104 h
                                                exact t_825  h (lv_sub hl [0, 1] rfl) hP hD hS hCF (by omega)
                                              · replace h := if_n c104 h
                                                refine lv_iconst (v := 1) hx hb dL_refused_821 (by decide) ?_
                                                refine lv_goto (tgt := 826) hx hb dL_refused_822 (by decide) ?_
                                                exact t_826  h (lv_sub hl [0, 1] rfl) hP hD hS hCF (by omega)
  have t_475 : ∀ {K : OT} {x1 : Int64} {x3 : Int32} {H : Heap} {locs : List Loc} {Z : Nat → Nat} {cells slots : Nat} {ls : Array Slot} (h : fL_refused_475 N  K x1 x3 = some (rr, KK)) (hl : lv_has ls 8 [(0, .ref (ad 0 0)), (1, .long x1), (3, .int x3)]) (hP : va_P (dC, dI) vwCl (outW cI cB cP ad Z K ++ R) H) (hD : va_D (aB base) (outW cI cB cP ad Z K ++ R)) (hS : va_S (aB base) s.heap H locs) (hCF : OF Z K) (hcn : cells + (490) ≤ 900 ∧ slots + 256 * (490) ≤ 256 * (900)), W p l e (headSpec wsL_refused_q rmL_refused).room s m ([.ref (ad 0 0)] : List Value).toArray below meth c H locs cells slots (MQ below (cBe (dC, dI) vwCl base (some (.int rr)) (fun ws => ∃ Z : Nat → Nat, ws = (outW cI cB cP ad Z KK ++ R) ∧ OF Z KK)) ([.ref (ad 0 0)] : List Value).toArray s (900) (256 * (900)) (aB base)) (F0 m 475 ls []) := by
    intro  K x1 x3 H locs Z cells slots ls h hl hP hD hS hCF hcn
    unfold fL_refused_475 at h
    refine lv_iload_n hx hb dL_refused_475 rfl (lv_at hl 2 rfl) ?_
    refine lv_if_eq (tgt := 825) hx hb dL_refused_476 (by decide) (fun c105 => ?_) (fun c105 => ?_)
    · replace h := if_p c105 h
      exact t_825  h (lv_sub hl [0, 1] rfl) hP hD hS hCF (by omega)
    · replace h := if_n c105 h
      refine lv_aload_n hx hb dL_refused_479 rfl (lv_at hl 0 rfl) ?_
      refine lv_iconst (v := 4) hx hb dL_refused_480 (by decide) ?_
      refine lv_iconst (v := 4) hx hb dL_refused_481 (by decide) ?_
      refine lv_iconst (v := 1) hx hb dL_refused_482 (by decide) ?_
      obtain ⟨v106, O107, hv106, h⟩ := bdO_some h
      refine call_BVE (As := [.int 4, .int 4, .int 1]) (rest := []) ⟨hx, hb, hml, hown, hts⟩ (tX2_road (l := l) (dC := dC) (dI := dI) (cI := cI) (cB := cB) (cP := cP) (ad := ad) (base := base) (R := R) hv106 hCF) (cwV 3 hts (gqL_refused gQ_X2_road) rfl rfl rfl (by decide +kernel) ⟨Nat.le_of_ble_eq_true rfl, Nat.le_of_ble_eq_true rfl⟩) hK hP hD hS (Nat.le_trans hbs hS.1) (fun U hU hW => Env_step rfl rfl hE hS hU hW) 0 rfl rfl (by rfl) hl.1 rfl (Nat.le_of_ble_eq_true rfl) dL_refused_483 ⟨by show _ ≤ 900; omega, by show _ ≤ 256 * (900); omega⟩ (fun H locs ws9 hW9 hP hD _ hS => ?_)
      obtain ⟨Z, rfl, hCF⟩ := hW9
      refine lv_bipush (v := (-3)) hx hb dL_refused_486 (by decide) ?_
      refine lv_icmp_ne (tgt := 825) hx hb dL_refused_488 (by decide) (fun c108 => ?_) (fun c108 => ?_)
      · replace h := if_n c108 h
        exact t_825  h (lv_sub hl [0, 1] rfl) hP hD hS hCF (by omega)
      · replace h := if_p c108 h
        refine lv_aload_n hx hb dL_refused_491 rfl (lv_at hl 0 rfl) ?_
        refine lv_iconst (v := 5) hx hb dL_refused_492 (by decide) ?_
        refine lv_bipush (v := 9) hx hb dL_refused_493 (by decide) ?_
        obtain ⟨v109, hv109, h⟩ := bdP_some h
        refine call_BVP (As := [.int 5, .int 9]) (rest := []) ⟨hx, hb, hml, hown, hts⟩ (tX2_campOf (l := l) (dC := dC) (dI := dI) (cI := cI) (cB := cB) (cP := cP) (ad := ad) (base := base) (R := R) hv109 hCF) (cwV 2 hts (gqL_refused gQ_X2_campOf) rfl rfl rfl (by decide +kernel) ⟨Nat.le_of_ble_eq_true rfl, Nat.le_of_ble_eq_true rfl⟩) hK hP hD (Nat.le_trans hbs hS.1) (fun U hU hW => Env_step rfl rfl hE hS hU hW) 0 rfl rfl (by rfl) hl.1 rfl (Nat.le_of_ble_eq_true rfl) dL_refused_495 ⟨by show _ ≤ 900; omega, by show _ ≤ 256 * (900); omega⟩ ?_
        refine lv_iconst (v := (-1)) hx hb dL_refused_498 (by decide) ?_
        refine lv_icmp_ne (tgt := 825) hx hb dL_refused_499 (by decide) (fun c110 => ?_) (fun c110 => ?_)
        · replace h := if_n c110 h
          exact t_825  h (lv_sub hl [0, 1] rfl) hP hD hS hCF (by omega)
        · replace h := if_p c110 h
          refine lv_aload_n hx hb dL_refused_502 rfl (lv_at hl 0 rfl) ?_
          refine lv_iconst (v := (-1)) hx hb dL_refused_503 (by decide) ?_
          refine lv_iconst (v := 0) hx hb dL_refused_504 (by decide) ?_
          obtain ⟨v111, hv111, h⟩ := bdP_some h
          refine call_BVP (As := [.int ((-1)), .int 0]) (rest := []) ⟨hx, hb, hml, hown, hts⟩ (tX2_campOf (l := l) (dC := dC) (dI := dI) (cI := cI) (cB := cB) (cP := cP) (ad := ad) (base := base) (R := R) hv111 hCF) (cwV 2 hts (gqL_refused gQ_X2_campOf) rfl rfl rfl (by decide +kernel) ⟨Nat.le_of_ble_eq_true rfl, Nat.le_of_ble_eq_true rfl⟩) hK hP hD (Nat.le_trans hbs hS.1) (fun U hU hW => Env_step rfl rfl hE hS hU hW) 0 rfl rfl (by rfl) hl.1 rfl (Nat.le_of_ble_eq_true rfl) dL_refused_505 ⟨by show _ ≤ 900; omega, by show _ ≤ 256 * (900); omega⟩ ?_
          refine lv_iconst (v := (-1)) hx hb dL_refused_508 (by decide) ?_
          refine lv_icmp_ne (tgt := 825) hx hb dL_refused_509 (by decide) (fun c112 => ?_) (fun c112 => ?_)
          · replace h := if_n c112 h
            exact t_825  h (lv_sub hl [0, 1] rfl) hP hD hS hCF (by omega)
          · replace h := if_p c112 h
            refine lv_aload_n hx hb dL_refused_512 rfl (lv_at hl 0 rfl) ?_
            refine lv_iconst (v := 0) hx hb dL_refused_513 (by decide) ?_
            refine lv_bipush (v := 9) hx hb dL_refused_514 (by decide) ?_
            obtain ⟨v113, hv113, h⟩ := bdP_some h
            refine call_BVP (As := [.int 0, .int 9]) (rest := []) ⟨hx, hb, hml, hown, hts⟩ (tX2_campOf (l := l) (dC := dC) (dI := dI) (cI := cI) (cB := cB) (cP := cP) (ad := ad) (base := base) (R := R) hv113 hCF) (cwV 2 hts (gqL_refused gQ_X2_campOf) rfl rfl rfl (by decide +kernel) ⟨Nat.le_of_ble_eq_true rfl, Nat.le_of_ble_eq_true rfl⟩) hK hP hD (Nat.le_trans hbs hS.1) (fun U hU hW => Env_step rfl rfl hE hS hU hW) 0 rfl rfl (by rfl) hl.1 rfl (Nat.le_of_ble_eq_true rfl) dL_refused_516 ⟨by show _ ≤ 900; omega, by show _ ≤ 256 * (900); omega⟩ ?_
            refine lv_bipush (v := (-2)) hx hb dL_refused_519 (by decide) ?_
            refine lv_icmp_ne (tgt := 825) hx hb dL_refused_521 (by decide) (fun c114 => ?_) (fun c114 => ?_)
            · replace h := if_n c114 h
              exact t_825  h (lv_sub hl [0, 1] rfl) hP hD hS hCF (by omega)
            · replace h := if_p c114 h
              refine lv_aload_n hx hb dL_refused_524 rfl (lv_at hl 0 rfl) ?_
              refine lv_iconst (v := 0) hx hb dL_refused_525 (by decide) ?_
              refine lv_iconst (v := (-1)) hx hb dL_refused_526 (by decide) ?_
              obtain ⟨v115, hv115, h⟩ := bdP_some h
              refine call_BVP (As := [.int 0, .int ((-1))]) (rest := []) ⟨hx, hb, hml, hown, hts⟩ (tX2_campOf (l := l) (dC := dC) (dI := dI) (cI := cI) (cB := cB) (cP := cP) (ad := ad) (base := base) (R := R) hv115 hCF) (cwV 2 hts (gqL_refused gQ_X2_campOf) rfl rfl rfl (by decide +kernel) ⟨Nat.le_of_ble_eq_true rfl, Nat.le_of_ble_eq_true rfl⟩) hK hP hD (Nat.le_trans hbs hS.1) (fun U hU hW => Env_step rfl rfl hE hS hU hW) 0 rfl rfl (by rfl) hl.1 rfl (Nat.le_of_ble_eq_true rfl) dL_refused_527 ⟨by show _ ≤ 900; omega, by show _ ≤ 256 * (900); omega⟩ ?_
              refine lv_bipush (v := (-2)) hx hb dL_refused_530 (by decide) ?_
              refine lv_icmp_ne (tgt := 825) hx hb dL_refused_532 (by decide) (fun c116 => ?_) (fun c116 => ?_)
              · replace h := if_n c116 h
                exact t_825  h (lv_sub hl [0, 1] rfl) hP hD hS hCF (by omega)
              · replace h := if_p c116 h
                refine lv_aload_n hx hb dL_refused_535 rfl (lv_at hl 0 rfl) ?_
                refine lv_iconst (v := 5) hx hb dL_refused_536 (by decide) ?_
                refine lv_iconst (v := 0) hx hb dL_refused_537 (by decide) ?_
                refine lv_bipush (v := 9) hx hb dL_refused_538 (by decide) ?_
                obtain ⟨v117, hv117, h⟩ := bdP_some h
                refine call_BVP (As := [.int 5, .int 0, .int 9]) (rest := []) ⟨hx, hb, hml, hown, hts⟩ (tX2_pageOf (l := l) (dC := dC) (dI := dI) (cI := cI) (cB := cB) (cP := cP) (ad := ad) (base := base) (R := R) hv117 hCF) (cwV 3 hts (gqL_refused gQ_X2_pageOf) rfl rfl rfl (by decide +kernel) ⟨Nat.le_of_ble_eq_true rfl, Nat.le_of_ble_eq_true rfl⟩) hK hP hD (Nat.le_trans hbs hS.1) (fun U hU hW => Env_step rfl rfl hE hS hU hW) 0 rfl rfl (by rfl) hl.1 rfl (Nat.le_of_ble_eq_true rfl) dL_refused_540 ⟨by show _ ≤ 900; omega, by show _ ≤ 256 * (900); omega⟩ ?_
                refine lv_iconst (v := (-1)) hx hb dL_refused_543 (by decide) ?_
                refine lv_icmp_ne (tgt := 825) hx hb dL_refused_544 (by decide) (fun c118 => ?_) (fun c118 => ?_)
                · replace h := if_n c118 h
                  exact t_825  h (lv_sub hl [0, 1] rfl) hP hD hS hCF (by omega)
                · replace h := if_p c118 h
                  refine lv_aload_n hx hb dL_refused_547 rfl (lv_at hl 0 rfl) ?_
                  refine lv_iconst (v := 0) hx hb dL_refused_548 (by decide) ?_
                  refine lv_bipush (v := 12) hx hb dL_refused_549 (by decide) ?_
                  refine lv_bipush (v := 9) hx hb dL_refused_551 (by decide) ?_
                  obtain ⟨v119, hv119, h⟩ := bdP_some h
                  refine call_BVP (As := [.int 0, .int 12, .int 9]) (rest := []) ⟨hx, hb, hml, hown, hts⟩ (tX2_pageOf (l := l) (dC := dC) (dI := dI) (cI := cI) (cB := cB) (cP := cP) (ad := ad) (base := base) (R := R) hv119 hCF) (cwV 3 hts (gqL_refused gQ_X2_pageOf) rfl rfl rfl (by decide +kernel) ⟨Nat.le_of_ble_eq_true rfl, Nat.le_of_ble_eq_true rfl⟩) hK hP hD (Nat.le_trans hbs hS.1) (fun U hU hW => Env_step rfl rfl hE hS hU hW) 0 rfl rfl (by rfl) hl.1 rfl (Nat.le_of_ble_eq_true rfl) dL_refused_553 ⟨by show _ ≤ 900; omega, by show _ ≤ 256 * (900); omega⟩ ?_
                  refine lv_iconst (v := (-1)) hx hb dL_refused_556 (by decide) ?_
                  refine lv_icmp_ne (tgt := 825) hx hb dL_refused_557 (by decide) (fun c120 => ?_) (fun c120 => ?_)
                  · replace h := if_n c120 h
                    exact t_825  h (lv_sub hl [0, 1] rfl) hP hD hS hCF (by omega)
                  · replace h := if_p c120 h
                    refine lv_aload_n hx hb dL_refused_560 rfl (lv_at hl 0 rfl) ?_
                    refine lv_iconst (v := 0) hx hb dL_refused_561 (by decide) ?_
                    refine lv_iconst (v := (-1)) hx hb dL_refused_562 (by decide) ?_
                    refine lv_iconst (v := 0) hx hb dL_refused_563 (by decide) ?_
                    obtain ⟨v121, hv121, h⟩ := bdP_some h
                    refine call_BVP (As := [.int 0, .int ((-1)), .int 0]) (rest := []) ⟨hx, hb, hml, hown, hts⟩ (tX2_pageOf (l := l) (dC := dC) (dI := dI) (cI := cI) (cB := cB) (cP := cP) (ad := ad) (base := base) (R := R) hv121 hCF) (cwV 3 hts (gqL_refused gQ_X2_pageOf) rfl rfl rfl (by decide +kernel) ⟨Nat.le_of_ble_eq_true rfl, Nat.le_of_ble_eq_true rfl⟩) hK hP hD (Nat.le_trans hbs hS.1) (fun U hU hW => Env_step rfl rfl hE hS hU hW) 0 rfl rfl (by rfl) hl.1 rfl (Nat.le_of_ble_eq_true rfl) dL_refused_564 ⟨by show _ ≤ 900; omega, by show _ ≤ 256 * (900); omega⟩ ?_
                    refine lv_iconst (v := (-1)) hx hb dL_refused_567 (by decide) ?_
                    refine lv_icmp_ne (tgt := 825) hx hb dL_refused_568 (by decide) (fun c122 => ?_) (fun c122 => ?_)
                    · replace h := if_n c122 h
                      exact t_825  h (lv_sub hl [0, 1] rfl) hP hD hS hCF (by omega)
                    · replace h := if_p c122 h
                      refine lv_aload_n hx hb dL_refused_571 rfl (lv_at hl 0 rfl) ?_
                      refine lv_iconst (v := 0) hx hb dL_refused_572 (by decide) ?_
                      refine lv_iconst (v := 4) hx hb dL_refused_573 (by decide) ?_
                      obtain ⟨v123, hv123, h⟩ := bdP_some h
                      refine call_BVP (As := [.int 0, .int 4]) (rest := []) ⟨hx, hb, hml, hown, hts⟩ (tX2_campOf (l := l) (dC := dC) (dI := dI) (cI := cI) (cB := cB) (cP := cP) (ad := ad) (base := base) (R := R) hv123 hCF) (cwV 2 hts (gqL_refused gQ_X2_campOf) rfl rfl rfl (by decide +kernel) ⟨Nat.le_of_ble_eq_true rfl, Nat.le_of_ble_eq_true rfl⟩) hK hP hD (Nat.le_trans hbs hS.1) (fun U hU hW => Env_step rfl rfl hE hS hU hW) 0 rfl rfl (by rfl) hl.1 rfl (Nat.le_of_ble_eq_true rfl) dL_refused_574 ⟨by show _ ≤ 900; omega, by show _ ≤ 256 * (900); omega⟩ ?_
                      refine lv_if_eq (tgt := 604) hx hb dL_refused_577 (by decide) (fun c124 => ?_) (fun c124 => ?_)
                      · replace h := if_p c124 h
                        exact t_604  h (lv_sub hl [0, 1] rfl) hP hD hS hCF (by omega)
                      · replace h := if_n c124 h
                        refine lv_aload_n hx hb dL_refused_580 rfl (lv_at hl 0 rfl) ?_
                        refine lv_iconst (v := 0) hx hb dL_refused_581 (by decide) ?_
                        refine lv_iconst (v := 0) hx hb dL_refused_582 (by decide) ?_
                        refine lv_iconst (v := 2) hx hb dL_refused_583 (by decide) ?_
                        obtain ⟨v125, hv125, h⟩ := bdP_some h
                        refine call_BVP (As := [.int 0, .int 0, .int 2]) (rest := []) ⟨hx, hb, hml, hown, hts⟩ (tX2_pageOf (l := l) (dC := dC) (dI := dI) (cI := cI) (cB := cB) (cP := cP) (ad := ad) (base := base) (R := R) hv125 hCF) (cwV 3 hts (gqL_refused gQ_X2_pageOf) rfl rfl rfl (by decide +kernel) ⟨Nat.le_of_ble_eq_true rfl, Nat.le_of_ble_eq_true rfl⟩) hK hP hD (Nat.le_trans hbs hS.1) (fun U hU hW => Env_step rfl rfl hE hS hU hW) 0 rfl rfl (by rfl) hl.1 rfl (Nat.le_of_ble_eq_true rfl) dL_refused_584 ⟨by show _ ≤ 900; omega, by show _ ≤ 256 * (900); omega⟩ ?_
                        refine lv_bipush (v := (-2)) hx hb dL_refused_587 (by decide) ?_
                        refine lv_icmp_ne (tgt := 825) hx hb dL_refused_589 (by decide) (fun c126 => ?_) (fun c126 => ?_)
                        · replace h := if_n c126 h
                          exact t_825  h (lv_sub hl [0, 1] rfl) hP hD hS hCF (by omega)
                        · replace h := if_p c126 h
                          refine lv_aload_n hx hb dL_refused_592 rfl (lv_at hl 0 rfl) ?_
                          refine lv_iconst (v := 0) hx hb dL_refused_593 (by decide) ?_
                          refine lv_iconst (v := 0) hx hb dL_refused_594 (by decide) ?_
                          refine lv_iconst (v := (-1)) hx hb dL_refused_595 (by decide) ?_
                          obtain ⟨v127, hv127, h⟩ := bdP_some h
                          refine call_BVP (As := [.int 0, .int 0, .int ((-1))]) (rest := []) ⟨hx, hb, hml, hown, hts⟩ (tX2_pageOf (l := l) (dC := dC) (dI := dI) (cI := cI) (cB := cB) (cP := cP) (ad := ad) (base := base) (R := R) hv127 hCF) (cwV 3 hts (gqL_refused gQ_X2_pageOf) rfl rfl rfl (by decide +kernel) ⟨Nat.le_of_ble_eq_true rfl, Nat.le_of_ble_eq_true rfl⟩) hK hP hD (Nat.le_trans hbs hS.1) (fun U hU hW => Env_step rfl rfl hE hS hU hW) 0 rfl rfl (by rfl) hl.1 rfl (Nat.le_of_ble_eq_true rfl) dL_refused_596 ⟨by show _ ≤ 900; omega, by show _ ≤ 256 * (900); omega⟩ ?_
                          refine lv_bipush (v := (-2)) hx hb dL_refused_599 (by decide) ?_
                          refine lv_icmp_ne (tgt := 825) hx hb dL_refused_601 (by decide) (fun c128 => ?_) (fun c128 => ?_)
                          · replace h := if_n c128 h
                            exact t_825  h (lv_sub hl [0, 1] rfl) hP hD hS hCF (by omega)
                          · replace h := if_p c128 h
                            exact t_604  h (lv_sub hl [0, 1] rfl) hP hD hS hCF (by omega)
  have t_214 : ∀ {n : Nat}, ∀ {K : OT} {x1 : Int64} {x3 : Int32} {x4 : Int32} {H : Heap} {locs : List Loc} {Z : Nat → Nat} {cells slots : Nat} {ls : Array Slot} (h : fL_refused_214 N  n K x1 x3 x4 = some (rr, KK)) (hl : lv_has ls 8 [(0, .ref (ad 0 0)), (1, .long x1), (3, .int x3), (4, .int x4)]) (hP : va_P (dC, dI) vwCl (outW cI cB cP ad Z K ++ R) H) (hD : va_D (aB base) (outW cI cB cP ad Z K ++ R)) (hS : va_S (aB base) s.heap H locs) (hCF : OF Z K) (hcn : cells + (490) ≤ 900 ∧ slots + 256 * (490) ≤ 256 * (900)), W p l e (headSpec wsL_refused_q rmL_refused).room s m ([.ref (ad 0 0)] : List Value).toArray below meth c H locs cells slots (MQ below (cBe (dC, dI) vwCl base (some (.int rr)) (fun ws => ∃ Z : Nat → Nat, ws = (outW cI cB cP ad Z KK ++ R) ∧ OF Z KK)) ([.ref (ad 0 0)] : List Value).toArray s (900) (256 * (900)) (aB base)) (F0 m 214 ls []) := by
    intro  n
    induction n with
    | zero =>
      intro K x1 x3 x4 H locs Z cells slots ls h hl hP hD hS hCF hcn
      unfold fL_refused_214 at h
      cases h
    | succ n ih =>
      intro K x1 x3 x4 H locs Z cells slots ls h hl hP hD hS hCF hcn
      unfold fL_refused_214 at h
      refine lv_iload hx hb dL_refused_214 (lv_at hl 3 rfl) ?_
      refine lv_iconst (v := 5) hx hb dL_refused_216 (by decide) ?_
      refine lv_icmp_ge (tgt := 475) hx hb dL_refused_217 (by decide) (fun c129 => ?_) (fun c129 => ?_)
      · replace h := if_p c129 h
        exact t_475  h (lv_sub hl [0, 1, 2] rfl) hP hD hS hCF (by omega)
      · replace h := if_n c129 h
        refine lv_iload_n hx hb dL_refused_220 rfl (lv_at hl 2 rfl) ?_
        refine lv_if_eq (tgt := 475) hx hb dL_refused_221 (by decide) (fun c130 => ?_) (fun c130 => ?_)
        · replace h := if_p c130 h
          exact t_475  h (lv_sub hl [0, 1, 2] rfl) hP hD hS hCF (by omega)
        · replace h := if_n c130 h
          refine lv_aload_n hx hb dL_refused_224 rfl (lv_at hl 0 rfl) ?_
          refine lv_iload hx hb dL_refused_225 (lv_at hl 3 rfl) ?_
          refine lv_iconst (v := 3) hx hb dL_refused_227 (by decide) ?_
          obtain ⟨v131, hv131, h⟩ := bdP_some h
          refine call_BVP (As := [.int x4, .int 3]) (rest := []) ⟨hx, hb, hml, hown, hts⟩ (tX2_campOf (l := l) (dC := dC) (dI := dI) (cI := cI) (cB := cB) (cP := cP) (ad := ad) (base := base) (R := R) hv131 hCF) (cwV 2 hts (gqL_refused gQ_X2_campOf) rfl rfl rfl (by decide +kernel) ⟨Nat.le_of_ble_eq_true rfl, Nat.le_of_ble_eq_true rfl⟩) hK hP hD (Nat.le_trans hbs hS.1) (fun U hU hW => Env_step rfl rfl hE hS hU hW) 0 rfl rfl (by rfl) hl.1 rfl (Nat.le_of_ble_eq_true rfl) dL_refused_228 ⟨by show _ ≤ 900; omega, by show _ ≤ 256 * (900); omega⟩ ?_
          refine lv_istore (lv' := [(5, .int v131), (0, .ref (ad 0 0)), (1, .long x1), (3, .int x3), (4, .int x4)]) hx hb dL_refused_231 hl (by decide) rfl (fun ls hl => ?_)
          refine lv_aload_n hx hb dL_refused_233 rfl (lv_at hl 1 rfl) ?_
          refine lv_iload hx hb dL_refused_234 (lv_at hl 4 rfl) ?_
          refine lv_iconst (v := 2) hx hb dL_refused_236 (by decide) ?_
          obtain ⟨v132, hv132, h⟩ := bdP_some h
          refine call_BVP (As := [.int x4, .int 2]) (rest := []) ⟨hx, hb, hml, hown, hts⟩ (tX2_campOf (l := l) (dC := dC) (dI := dI) (cI := cI) (cB := cB) (cP := cP) (ad := ad) (base := base) (R := R) hv132 hCF) (cwV 2 hts (gqL_refused gQ_X2_campOf) rfl rfl rfl (by decide +kernel) ⟨Nat.le_of_ble_eq_true rfl, Nat.le_of_ble_eq_true rfl⟩) hK hP hD (Nat.le_trans hbs hS.1) (fun U hU hW => Env_step rfl rfl hE hS hU hW) 0 rfl rfl (by rfl) hl.1 rfl (Nat.le_of_ble_eq_true rfl) dL_refused_237 ⟨by show _ ≤ 900; omega, by show _ ≤ 256 * (900); omega⟩ ?_
          refine lv_istore (lv' := [(6, .int v132), (5, .int v131), (0, .ref (ad 0 0)), (1, .long x1), (3, .int x3), (4, .int x4)]) hx hb dL_refused_240 hl (by decide) rfl (fun ls hl => ?_)
          refine lv_aload_n hx hb dL_refused_242 rfl (lv_at hl 2 rfl) ?_
          refine lv_iload hx hb dL_refused_243 (lv_at hl 5 rfl) ?_
          refine lv_iconst (v := 0) hx hb dL_refused_245 (by decide) ?_
          obtain ⟨v133, hv133, h⟩ := bdP_some h
          refine call_BVP (As := [.int x4, .int 0]) (rest := []) ⟨hx, hb, hml, hown, hts⟩ (tX2_campOf (l := l) (dC := dC) (dI := dI) (cI := cI) (cB := cB) (cP := cP) (ad := ad) (base := base) (R := R) hv133 hCF) (cwV 2 hts (gqL_refused gQ_X2_campOf) rfl rfl rfl (by decide +kernel) ⟨Nat.le_of_ble_eq_true rfl, Nat.le_of_ble_eq_true rfl⟩) hK hP hD (Nat.le_trans hbs hS.1) (fun U hU hW => Env_step rfl rfl hE hS hU hW) 0 rfl rfl (by rfl) hl.1 rfl (Nat.le_of_ble_eq_true rfl) dL_refused_246 ⟨by show _ ≤ 900; omega, by show _ ≤ 256 * (900); omega⟩ ?_
          refine lv_istore (lv' := [(7, .int v133), (6, .int v132), (5, .int v131), (0, .ref (ad 0 0)), (1, .long x1), (3, .int x3), (4, .int x4)]) hx hb dL_refused_249 hl (by decide) rfl (fun ls hl => ?_)
          refine lv_aload_n hx hb dL_refused_251 rfl (lv_at hl 3 rfl) ?_
          refine lv_iload hx hb dL_refused_252 (lv_at hl 6 rfl) ?_
          refine lv_iload hx hb dL_refused_254 (lv_at hl 2 rfl) ?_
          obtain ⟨v134, O135, hv134, h⟩ := bdO_some h
          refine call_BVE (As := [.int x4, .int v131]) (rest := []) ⟨hx, hb, hml, hown, hts⟩ (tX2_sleep (l := l) (dC := dC) (dI := dI) (cI := cI) (cB := cB) (cP := cP) (ad := ad) (base := base) (R := R) hv134 hCF) (cwV 2 hts (gqL_refused gQ_X2_sleep) rfl rfl rfl (by decide +kernel) ⟨Nat.le_of_ble_eq_true rfl, Nat.le_of_ble_eq_true rfl⟩) hK hP hD hS (Nat.le_trans hbs hS.1) (fun U hU hW => Env_step rfl rfl hE hS hU hW) 0 rfl rfl (by rfl) hl.1 rfl (Nat.le_of_ble_eq_true rfl) dL_refused_256 ⟨by show _ ≤ 900; omega, by show _ ≤ 256 * (900); omega⟩ (fun H locs ws9 hW9 hP hD _ hS => ?_)
          obtain ⟨Z, rfl, hCF⟩ := hW9
          refine lv_bipush (v := (-3)) hx hb dL_refused_259 (by decide) ?_
          refine lv_icmp_ne (tgt := 280) hx hb dL_refused_261 (by decide) (fun c136 => ?_) (fun c136 => ?_)
          · replace h := if_n c136 h
            exact t_280 @ih h (lv_sub hl [3, 4, 6, 2, 1, 0] rfl) hP hD hS hCF (by omega)
          · replace h := if_p c136 h
            refine lv_aload_n hx hb dL_refused_264 rfl (lv_at hl 3 rfl) ?_
            refine lv_iconst (v := 5) hx hb dL_refused_265 (by decide) ?_
            refine lv_iload hx hb dL_refused_266 (lv_at hl 2 rfl) ?_
            refine lv_bipush (v := (-4)) hx hb dL_refused_268 (by decide) ?_
            obtain ⟨v137, hv137, h⟩ := bdP_some h
            refine call_LSP (As := [.ref (ad 0 0), .int 5, .int v131, .int ((-4))]) (rest := []) ⟨hx, hb, hml, hown, hts⟩ (tL_is (l := l) (dC := dC) (dI := dI) (cI := cI) (cB := cB) (cP := cP) (ad := ad) (base := base) (b := b) (L := L) (xs := xs) (adK := adK) (adV := adV) (R := R) hv137 hCF) (va_cwS 4 hts (gqL_refused gQ_L_is) rfl rfl rfl (by decide +kernel) ⟨Nat.le_of_ble_eq_true rfl, Nat.le_of_ble_eq_true rfl⟩) hK hP hD (Nat.le_trans hbs hS.1) (fun U hU hW => EnvL_step hEL hS hU hW) (by rfl) hl.1 rfl (Nat.le_of_ble_eq_true rfl) dL_refused_270 ⟨by show _ ≤ 900; omega, by show _ ≤ 256 * (900); omega⟩ ?_
            refine lv_if_eq (tgt := 280) hx hb dL_refused_273 (by decide) (fun c138 => ?_) (fun c138 => ?_)
            · replace h := if_p c138 h
              exact t_280 @ih h (lv_sub hl [3, 4, 6, 2, 1, 0] rfl) hP hD hS hCF (by omega)
            · replace h := if_n c138 h
              refine lv_iconst (v := 1) hx hb dL_refused_276 (by decide) ?_
              refine lv_goto (tgt := 281) hx hb dL_refused_277 (by decide) ?_
              exact t_281 @ih h (lv_sub hl [3, 4, 6, 2, 1, 0] rfl) hP hD hS hCF (by omega)
  have t_210 : ∀ {K : OT} {x1 : Int64} {y0 : Int32} {H : Heap} {locs : List Loc} {Z : Nat → Nat} {cells slots : Nat} {ls : Array Slot} (h : fL_refused_210 N  K x1 y0 = some (rr, KK)) (hl : lv_has ls 8 [(0, .ref (ad 0 0)), (1, .long x1)]) (hP : va_P (dC, dI) vwCl (outW cI cB cP ad Z K ++ R) H) (hD : va_D (aB base) (outW cI cB cP ad Z K ++ R)) (hS : va_S (aB base) s.heap H locs) (hCF : OF Z K) (hcn : cells + (490) ≤ 900 ∧ slots + 256 * (490) ≤ 256 * (900)), W p l e (headSpec wsL_refused_q rmL_refused).room s m ([.ref (ad 0 0)] : List Value).toArray below meth c H locs cells slots (MQ below (cBe (dC, dI) vwCl base (some (.int rr)) (fun ws => ∃ Z : Nat → Nat, ws = (outW cI cB cP ad Z KK ++ R) ∧ OF Z KK)) ([.ref (ad 0 0)] : List Value).toArray s (900) (256 * (900)) (aB base)) (F0 m 210 ls [.int y0]) := by
    intro  K x1 y0 H locs Z cells slots ls h hl hP hD hS hCF hcn
    unfold fL_refused_210 at h
    refine lv_istore_n (lv' := [(3, .int y0), (0, .ref (ad 0 0)), (1, .long x1)]) hx hb dL_refused_210 rfl hl (by decide) rfl (fun ls hl => ?_)
    refine lv_iconst (v := 0) hx hb dL_refused_211 (by decide) ?_
    refine lv_istore (lv' := [(4, .int 0), (3, .int y0), (0, .ref (ad 0 0)), (1, .long x1)]) hx hb dL_refused_212 hl (by decide) rfl (fun ls hl => ?_)
    exact t_214  h (lv_sub hl [2, 3, 1, 0] rfl) hP hD hS hCF (by omega)
  have t_209 : ∀ {K : OT} {x1 : Int64} {H : Heap} {locs : List Loc} {Z : Nat → Nat} {cells slots : Nat} {ls : Array Slot} (h : fL_refused_209 N  K x1 = some (rr, KK)) (hl : lv_has ls 8 [(0, .ref (ad 0 0)), (1, .long x1)]) (hP : va_P (dC, dI) vwCl (outW cI cB cP ad Z K ++ R) H) (hD : va_D (aB base) (outW cI cB cP ad Z K ++ R)) (hS : va_S (aB base) s.heap H locs) (hCF : OF Z K) (hcn : cells + (490) ≤ 900 ∧ slots + 256 * (490) ≤ 256 * (900)), W p l e (headSpec wsL_refused_q rmL_refused).room s m ([.ref (ad 0 0)] : List Value).toArray below meth c H locs cells slots (MQ below (cBe (dC, dI) vwCl base (some (.int rr)) (fun ws => ∃ Z : Nat → Nat, ws = (outW cI cB cP ad Z KK ++ R) ∧ OF Z KK)) ([.ref (ad 0 0)] : List Value).toArray s (900) (256 * (900)) (aB base)) (F0 m 209 ls []) := by
    intro  K x1 H locs Z cells slots ls h hl hP hD hS hCF hcn
    unfold fL_refused_209 at h
    refine lv_iconst (v := 0) hx hb dL_refused_209 (by decide) ?_
    exact t_210  h (lv_sub hl [0, 1] rfl) hP hD hS hCF (by omega)
  have hS : va_S (aB base) s.heap s.heap [] := va_S.rf
  have hl := lv_entry ([.ref (ad 0 0)]) (n := 8) (Nat.le_of_ble_eq_true rfl)
  rw [lg_entry_eq]
  generalize (lg_sl ([.ref (ad 0 0)]) ++ List.replicate (8 - (lg_sl ([.ref (ad 0 0)])).length) Slot.unset).toArray = ls at hl ⊢
  have hl : lv_has ls 8 [(0, .ref (ad 0 0))] := hl
  have h := hf
  unfold mL_refused at h
  refine lv_aload_n hx hb dL_refused_0 rfl (lv_at hl 0 rfl) ?_
  obtain ⟨v139, O140, hv139, h⟩ := bdL_some h
  refine call_LSE (As := [.ref (ad 0 0)]) (rest := []) ⟨hx, hb, hml, hown, hts⟩ (tL_asks (l := l) (dC := dC) (dI := dI) (cI := cI) (cB := cB) (cP := cP) (ad := ad) (base := base) (b := b) (L := L) (xs := xs) (adK := adK) (adV := adV) (R := R) hv139 hCF) (va_cwS 1 hts (gqL_refused gQ_L_asks) rfl rfl rfl (by decide +kernel) ⟨Nat.le_of_ble_eq_true rfl, Nat.le_of_ble_eq_true rfl⟩) hK hP hD hS (Nat.le_trans hbs hS.1) (fun U hU hW => EnvL_step hEL hS hU hW) (by rfl) hl.1 rfl (Nat.le_of_ble_eq_true rfl) dL_refused_1 ⟨by show _ ≤ 900; omega, by show _ ≤ 256 * (900); omega⟩ (fun H locs ws9 hW9 hP hD _ hS => ?_)
  obtain ⟨Z, rfl, hCF⟩ := hW9
  refine lv_lstore_n (lv' := [(1, .long v139), (0, .ref (ad 0 0))]) hx hb dL_refused_4 rfl hl (by decide) rfl (fun ls hl => ?_)
  refine lv_aload_n hx hb dL_refused_5 rfl (lv_at hl 1 rfl) ?_
  refine lv_iconst (v := 5) hx hb dL_refused_6 (by decide) ?_
  obtain ⟨v141, O142, hv141, h⟩ := bdO_some h
  refine call_BVE (As := [.int 5]) (rest := []) ⟨hx, hb, hml, hown, hts⟩ (tX2_dusk (l := l) (dC := dC) (dI := dI) (cI := cI) (cB := cB) (cP := cP) (ad := ad) (base := base) (R := R) hv141 hCF) (cwV 1 hts (gqL_refused gQ_X2_dusk) rfl rfl rfl (by decide +kernel) ⟨Nat.le_of_ble_eq_true rfl, Nat.le_of_ble_eq_true rfl⟩) hK hP hD hS (Nat.le_trans hbs hS.1) (fun U hU hW => Env_step rfl rfl hE hS hU hW) 0 rfl rfl (by rfl) hl.1 rfl (Nat.le_of_ble_eq_true rfl) dL_refused_7 ⟨by show _ ≤ 900; omega, by show _ ≤ 256 * (900); omega⟩ (fun H locs ws9 hW9 hP hD _ hS => ?_)
  obtain ⟨Z, rfl, hCF⟩ := hW9
  refine lv_iconst (v := (-1)) hx hb dL_refused_10 (by decide) ?_
  refine lv_icmp_ne (tgt := 209) hx hb dL_refused_11 (by decide) (fun c143 => ?_) (fun c143 => ?_)
  · replace h := if_n c143 h
    exact t_209  h (lv_sub hl [1, 0] rfl) hP hD hS hCF (by omega)
  · replace h := if_p c143 h
    refine lv_aload_n hx hb dL_refused_14 rfl (lv_at hl 1 rfl) ?_
    refine lv_iconst (v := (-1)) hx hb dL_refused_15 (by decide) ?_
    obtain ⟨v144, O145, hv144, h⟩ := bdO_some h
    refine call_BVE (As := [.int ((-1))]) (rest := []) ⟨hx, hb, hml, hown, hts⟩ (tX2_dusk (l := l) (dC := dC) (dI := dI) (cI := cI) (cB := cB) (cP := cP) (ad := ad) (base := base) (R := R) hv144 hCF) (cwV 1 hts (gqL_refused gQ_X2_dusk) rfl rfl rfl (by decide +kernel) ⟨Nat.le_of_ble_eq_true rfl, Nat.le_of_ble_eq_true rfl⟩) hK hP hD hS (Nat.le_trans hbs hS.1) (fun U hU hW => Env_step rfl rfl hE hS hU hW) 0 rfl rfl (by rfl) hl.1 rfl (Nat.le_of_ble_eq_true rfl) dL_refused_16 ⟨by show _ ≤ 900; omega, by show _ ≤ 256 * (900); omega⟩ (fun H locs ws9 hW9 hP hD _ hS => ?_)
    obtain ⟨Z, rfl, hCF⟩ := hW9
    refine lv_iconst (v := (-1)) hx hb dL_refused_19 (by decide) ?_
    refine lv_icmp_ne (tgt := 209) hx hb dL_refused_20 (by decide) (fun c146 => ?_) (fun c146 => ?_)
    · replace h := if_n c146 h
      exact t_209  h (lv_sub hl [1, 0] rfl) hP hD hS hCF (by omega)
    · replace h := if_p c146 h
      refine lv_aload_n hx hb dL_refused_23 rfl (lv_at hl 1 rfl) ?_
      refine lv_iconst (v := 5) hx hb dL_refused_24 (by decide) ?_
      refine lv_iconst (v := 4) hx hb dL_refused_25 (by decide) ?_
      obtain ⟨v147, O148, hv147, h⟩ := bdO_some h
      refine call_BVE (As := [.int 5, .int 4]) (rest := []) ⟨hx, hb, hml, hown, hts⟩ (tX2_write (l := l) (dC := dC) (dI := dI) (cI := cI) (cB := cB) (cP := cP) (ad := ad) (base := base) (R := R) hv147 hCF) (cwV 2 hts (gqL_refused gQ_X2_write) rfl rfl rfl (by decide +kernel) ⟨Nat.le_of_ble_eq_true rfl, Nat.le_of_ble_eq_true rfl⟩) hK hP hD hS (Nat.le_trans hbs hS.1) (fun U hU hW => Env_step rfl rfl hE hS hU hW) 0 rfl rfl (by rfl) hl.1 rfl (Nat.le_of_ble_eq_true rfl) dL_refused_26 ⟨by show _ ≤ 900; omega, by show _ ≤ 256 * (900); omega⟩ (fun H locs ws9 hW9 hP hD _ hS => ?_)
      obtain ⟨Z, rfl, hCF⟩ := hW9
      refine lv_iconst (v := (-1)) hx hb dL_refused_29 (by decide) ?_
      refine lv_icmp_ne (tgt := 209) hx hb dL_refused_30 (by decide) (fun c149 => ?_) (fun c149 => ?_)
      · replace h := if_n c149 h
        exact t_209  h (lv_sub hl [1, 0] rfl) hP hD hS hCF (by omega)
      · replace h := if_p c149 h
        refine lv_aload_n hx hb dL_refused_33 rfl (lv_at hl 1 rfl) ?_
        refine lv_iconst (v := 0) hx hb dL_refused_34 (by decide) ?_
        refine lv_iconst (v := 4) hx hb dL_refused_35 (by decide) ?_
        obtain ⟨v150, O151, hv150, h⟩ := bdO_some h
        refine call_BVE (As := [.int 0, .int 4]) (rest := []) ⟨hx, hb, hml, hown, hts⟩ (tX2_write (l := l) (dC := dC) (dI := dI) (cI := cI) (cB := cB) (cP := cP) (ad := ad) (base := base) (R := R) hv150 hCF) (cwV 2 hts (gqL_refused gQ_X2_write) rfl rfl rfl (by decide +kernel) ⟨Nat.le_of_ble_eq_true rfl, Nat.le_of_ble_eq_true rfl⟩) hK hP hD hS (Nat.le_trans hbs hS.1) (fun U hU hW => Env_step rfl rfl hE hS hU hW) 0 rfl rfl (by rfl) hl.1 rfl (Nat.le_of_ble_eq_true rfl) dL_refused_36 ⟨by show _ ≤ 900; omega, by show _ ≤ 256 * (900); omega⟩ (fun H locs ws9 hW9 hP hD _ hS => ?_)
        obtain ⟨Z, rfl, hCF⟩ := hW9
        refine lv_iconst (v := (-1)) hx hb dL_refused_39 (by decide) ?_
        refine lv_icmp_ne (tgt := 209) hx hb dL_refused_40 (by decide) (fun c152 => ?_) (fun c152 => ?_)
        · replace h := if_n c152 h
          exact t_209  h (lv_sub hl [1, 0] rfl) hP hD hS hCF (by omega)
        · replace h := if_p c152 h
          refine lv_aload_n hx hb dL_refused_43 rfl (lv_at hl 1 rfl) ?_
          refine lv_iconst (v := 0) hx hb dL_refused_44 (by decide) ?_
          refine lv_iconst (v := (-1)) hx hb dL_refused_45 (by decide) ?_
          obtain ⟨v153, O154, hv153, h⟩ := bdO_some h
          refine call_BVE (As := [.int 0, .int ((-1))]) (rest := []) ⟨hx, hb, hml, hown, hts⟩ (tX2_write (l := l) (dC := dC) (dI := dI) (cI := cI) (cB := cB) (cP := cP) (ad := ad) (base := base) (R := R) hv153 hCF) (cwV 2 hts (gqL_refused gQ_X2_write) rfl rfl rfl (by decide +kernel) ⟨Nat.le_of_ble_eq_true rfl, Nat.le_of_ble_eq_true rfl⟩) hK hP hD hS (Nat.le_trans hbs hS.1) (fun U hU hW => Env_step rfl rfl hE hS hU hW) 0 rfl rfl (by rfl) hl.1 rfl (Nat.le_of_ble_eq_true rfl) dL_refused_46 ⟨by show _ ≤ 900; omega, by show _ ≤ 256 * (900); omega⟩ (fun H locs ws9 hW9 hP hD _ hS => ?_)
          obtain ⟨Z, rfl, hCF⟩ := hW9
          refine lv_iconst (v := (-1)) hx hb dL_refused_49 (by decide) ?_
          refine lv_icmp_ne (tgt := 209) hx hb dL_refused_50 (by decide) (fun c155 => ?_) (fun c155 => ?_)
          · replace h := if_n c155 h
            exact t_209  h (lv_sub hl [1, 0] rfl) hP hD hS hCF (by omega)
          · replace h := if_p c155 h
            refine lv_aload_n hx hb dL_refused_53 rfl (lv_at hl 1 rfl) ?_
            refine lv_iconst (v := 5) hx hb dL_refused_54 (by decide) ?_
            obtain ⟨v156, O157, hv156, h⟩ := bdO_some h
            refine call_BVE (As := [.int 5]) (rest := []) ⟨hx, hb, hml, hown, hts⟩ (tX2_march (l := l) (dC := dC) (dI := dI) (cI := cI) (cB := cB) (cP := cP) (ad := ad) (base := base) (R := R) hv156 hCF) (cwV 1 hts (gqL_refused gQ_X2_march) rfl rfl rfl (by decide +kernel) ⟨Nat.le_of_ble_eq_true rfl, Nat.le_of_ble_eq_true rfl⟩) hK hP hD hS (Nat.le_trans hbs hS.1) (fun U hU hW => Env_step rfl rfl hE hS hU hW) 0 rfl rfl (by rfl) hl.1 rfl (Nat.le_of_ble_eq_true rfl) dL_refused_55 ⟨by show _ ≤ 900; omega, by show _ ≤ 256 * (900); omega⟩ (fun H locs ws9 hW9 hP hD _ hS => ?_)
            obtain ⟨Z, rfl, hCF⟩ := hW9
            refine lv_iconst (v := (-1)) hx hb dL_refused_58 (by decide) ?_
            refine lv_icmp_ne (tgt := 209) hx hb dL_refused_59 (by decide) (fun c158 => ?_) (fun c158 => ?_)
            · replace h := if_n c158 h
              exact t_209  h (lv_sub hl [1, 0] rfl) hP hD hS hCF (by omega)
            · replace h := if_p c158 h
              refine lv_aload_n hx hb dL_refused_62 rfl (lv_at hl 1 rfl) ?_
              refine lv_iconst (v := (-1)) hx hb dL_refused_63 (by decide) ?_
              obtain ⟨v159, O160, hv159, h⟩ := bdO_some h
              refine call_BVE (As := [.int ((-1))]) (rest := []) ⟨hx, hb, hml, hown, hts⟩ (tX2_march (l := l) (dC := dC) (dI := dI) (cI := cI) (cB := cB) (cP := cP) (ad := ad) (base := base) (R := R) hv159 hCF) (cwV 1 hts (gqL_refused gQ_X2_march) rfl rfl rfl (by decide +kernel) ⟨Nat.le_of_ble_eq_true rfl, Nat.le_of_ble_eq_true rfl⟩) hK hP hD hS (Nat.le_trans hbs hS.1) (fun U hU hW => Env_step rfl rfl hE hS hU hW) 0 rfl rfl (by rfl) hl.1 rfl (Nat.le_of_ble_eq_true rfl) dL_refused_64 ⟨by show _ ≤ 900; omega, by show _ ≤ 256 * (900); omega⟩ (fun H locs ws9 hW9 hP hD _ hS => ?_)
              obtain ⟨Z, rfl, hCF⟩ := hW9
              refine lv_iconst (v := (-1)) hx hb dL_refused_67 (by decide) ?_
              refine lv_icmp_ne (tgt := 209) hx hb dL_refused_68 (by decide) (fun c161 => ?_) (fun c161 => ?_)
              · replace h := if_n c161 h
                exact t_209  h (lv_sub hl [1, 0] rfl) hP hD hS hCF (by omega)
              · replace h := if_p c161 h
                refine lv_aload_n hx hb dL_refused_71 rfl (lv_at hl 1 rfl) ?_
                refine lv_iconst (v := 5) hx hb dL_refused_72 (by decide) ?_
                refine lv_iconst (v := 0) hx hb dL_refused_73 (by decide) ?_
                refine lv_bipush (v := 9) hx hb dL_refused_74 (by decide) ?_
                obtain ⟨v162, O163, hv162, h⟩ := bdO_some h
                refine call_BVE (As := [.int 5, .int 0, .int 9]) (rest := []) ⟨hx, hb, hml, hown, hts⟩ (tX2_road (l := l) (dC := dC) (dI := dI) (cI := cI) (cB := cB) (cP := cP) (ad := ad) (base := base) (R := R) hv162 hCF) (cwV 3 hts (gqL_refused gQ_X2_road) rfl rfl rfl (by decide +kernel) ⟨Nat.le_of_ble_eq_true rfl, Nat.le_of_ble_eq_true rfl⟩) hK hP hD hS (Nat.le_trans hbs hS.1) (fun U hU hW => Env_step rfl rfl hE hS hU hW) 0 rfl rfl (by rfl) hl.1 rfl (Nat.le_of_ble_eq_true rfl) dL_refused_76 ⟨by show _ ≤ 900; omega, by show _ ≤ 256 * (900); omega⟩ (fun H locs ws9 hW9 hP hD _ hS => ?_)
                obtain ⟨Z, rfl, hCF⟩ := hW9
                refine lv_iconst (v := (-1)) hx hb dL_refused_79 (by decide) ?_
                refine lv_icmp_ne (tgt := 209) hx hb dL_refused_80 (by decide) (fun c164 => ?_) (fun c164 => ?_)
                · replace h := if_n c164 h
                  exact t_209  h (lv_sub hl [1, 0] rfl) hP hD hS hCF (by omega)
                · replace h := if_p c164 h
                  refine lv_aload_n hx hb dL_refused_83 rfl (lv_at hl 1 rfl) ?_
                  refine lv_iconst (v := 0) hx hb dL_refused_84 (by decide) ?_
                  refine lv_iconst (v := (-1)) hx hb dL_refused_85 (by decide) ?_
                  refine lv_iconst (v := 0) hx hb dL_refused_86 (by decide) ?_
                  obtain ⟨v165, O166, hv165, h⟩ := bdO_some h
                  refine call_BVE (As := [.int 0, .int ((-1)), .int 0]) (rest := []) ⟨hx, hb, hml, hown, hts⟩ (tX2_road (l := l) (dC := dC) (dI := dI) (cI := cI) (cB := cB) (cP := cP) (ad := ad) (base := base) (R := R) hv165 hCF) (cwV 3 hts (gqL_refused gQ_X2_road) rfl rfl rfl (by decide +kernel) ⟨Nat.le_of_ble_eq_true rfl, Nat.le_of_ble_eq_true rfl⟩) hK hP hD hS (Nat.le_trans hbs hS.1) (fun U hU hW => Env_step rfl rfl hE hS hU hW) 0 rfl rfl (by rfl) hl.1 rfl (Nat.le_of_ble_eq_true rfl) dL_refused_87 ⟨by show _ ≤ 900; omega, by show _ ≤ 256 * (900); omega⟩ (fun H locs ws9 hW9 hP hD _ hS => ?_)
                  obtain ⟨Z, rfl, hCF⟩ := hW9
                  refine lv_iconst (v := (-1)) hx hb dL_refused_90 (by decide) ?_
                  refine lv_icmp_ne (tgt := 209) hx hb dL_refused_91 (by decide) (fun c167 => ?_) (fun c167 => ?_)
                  · replace h := if_n c167 h
                    exact t_209  h (lv_sub hl [1, 0] rfl) hP hD hS hCF (by omega)
                  · replace h := if_p c167 h
                    refine lv_aload_n hx hb dL_refused_94 rfl (lv_at hl 1 rfl) ?_
                    refine lv_iconst (v := 0) hx hb dL_refused_95 (by decide) ?_
                    refine lv_iconst (v := 0) hx hb dL_refused_96 (by decide) ?_
                    refine lv_iconst (v := 2) hx hb dL_refused_97 (by decide) ?_
                    obtain ⟨v168, O169, hv168, h⟩ := bdO_some h
                    refine call_BVE (As := [.int 0, .int 0, .int 2]) (rest := []) ⟨hx, hb, hml, hown, hts⟩ (tX2_road (l := l) (dC := dC) (dI := dI) (cI := cI) (cB := cB) (cP := cP) (ad := ad) (base := base) (R := R) hv168 hCF) (cwV 3 hts (gqL_refused gQ_X2_road) rfl rfl rfl (by decide +kernel) ⟨Nat.le_of_ble_eq_true rfl, Nat.le_of_ble_eq_true rfl⟩) hK hP hD hS (Nat.le_trans hbs hS.1) (fun U hU hW => Env_step rfl rfl hE hS hU hW) 0 rfl rfl (by rfl) hl.1 rfl (Nat.le_of_ble_eq_true rfl) dL_refused_98 ⟨by show _ ≤ 900; omega, by show _ ≤ 256 * (900); omega⟩ (fun H locs ws9 hW9 hP hD _ hS => ?_)
                    obtain ⟨Z, rfl, hCF⟩ := hW9
                    refine lv_bipush (v := (-2)) hx hb dL_refused_101 (by decide) ?_
                    refine lv_icmp_ne (tgt := 209) hx hb dL_refused_103 (by decide) (fun c170 => ?_) (fun c170 => ?_)
                    · replace h := if_n c170 h
                      exact t_209  h (lv_sub hl [1, 0] rfl) hP hD hS hCF (by omega)
                    · replace h := if_p c170 h
                      refine lv_aload_n hx hb dL_refused_106 rfl (lv_at hl 1 rfl) ?_
                      refine lv_iconst (v := 0) hx hb dL_refused_107 (by decide) ?_
                      refine lv_iconst (v := 1) hx hb dL_refused_108 (by decide) ?_
                      refine lv_iconst (v := (-1)) hx hb dL_refused_109 (by decide) ?_
                      obtain ⟨v171, O172, hv171, h⟩ := bdO_some h
                      refine call_BVE (As := [.int 0, .int 1, .int ((-1))]) (rest := []) ⟨hx, hb, hml, hown, hts⟩ (tX2_road (l := l) (dC := dC) (dI := dI) (cI := cI) (cB := cB) (cP := cP) (ad := ad) (base := base) (R := R) hv171 hCF) (cwV 3 hts (gqL_refused gQ_X2_road) rfl rfl rfl (by decide +kernel) ⟨Nat.le_of_ble_eq_true rfl, Nat.le_of_ble_eq_true rfl⟩) hK hP hD hS (Nat.le_trans hbs hS.1) (fun U hU hW => Env_step rfl rfl hE hS hU hW) 0 rfl rfl (by rfl) hl.1 rfl (Nat.le_of_ble_eq_true rfl) dL_refused_110 ⟨by show _ ≤ 900; omega, by show _ ≤ 256 * (900); omega⟩ (fun H locs ws9 hW9 hP hD _ hS => ?_)
                      obtain ⟨Z, rfl, hCF⟩ := hW9
                      refine lv_bipush (v := (-2)) hx hb dL_refused_113 (by decide) ?_
                      refine lv_icmp_ne (tgt := 209) hx hb dL_refused_115 (by decide) (fun c173 => ?_) (fun c173 => ?_)
                      · replace h := if_n c173 h
                        exact t_209  h (lv_sub hl [1, 0] rfl) hP hD hS hCF (by omega)
                      · replace h := if_p c173 h
                        refine lv_aload_n hx hb dL_refused_118 rfl (lv_at hl 1 rfl) ?_
                        refine lv_iconst (v := 3) hx hb dL_refused_119 (by decide) ?_
                        refine lv_iconst (v := 3) hx hb dL_refused_120 (by decide) ?_
                        refine lv_iconst (v := 0) hx hb dL_refused_121 (by decide) ?_
                        obtain ⟨v174, O175, hv174, h⟩ := bdO_some h
                        refine call_BVE (As := [.int 3, .int 3, .int 0]) (rest := []) ⟨hx, hb, hml, hown, hts⟩ (tX2_road (l := l) (dC := dC) (dI := dI) (cI := cI) (cB := cB) (cP := cP) (ad := ad) (base := base) (R := R) hv174 hCF) (cwV 3 hts (gqL_refused gQ_X2_road) rfl rfl rfl (by decide +kernel) ⟨Nat.le_of_ble_eq_true rfl, Nat.le_of_ble_eq_true rfl⟩) hK hP hD hS (Nat.le_trans hbs hS.1) (fun U hU hW => Env_step rfl rfl hE hS hU hW) 0 rfl rfl (by rfl) hl.1 rfl (Nat.le_of_ble_eq_true rfl) dL_refused_122 ⟨by show _ ≤ 900; omega, by show _ ≤ 256 * (900); omega⟩ (fun H locs ws9 hW9 hP hD _ hS => ?_)
                        obtain ⟨Z, rfl, hCF⟩ := hW9
                        refine lv_bipush (v := (-3)) hx hb dL_refused_125 (by decide) ?_
                        refine lv_icmp_ne (tgt := 209) hx hb dL_refused_127 (by decide) (fun c176 => ?_) (fun c176 => ?_)
                        · replace h := if_n c176 h
                          exact t_209  h (lv_sub hl [1, 0] rfl) hP hD hS hCF (by omega)
                        · replace h := if_p c176 h
                          refine lv_aload_n hx hb dL_refused_130 rfl (lv_at hl 1 rfl) ?_
                          refine lv_iconst (v := 4) hx hb dL_refused_131 (by decide) ?_
                          refine lv_iconst (v := 3) hx hb dL_refused_132 (by decide) ?_
                          refine lv_bipush (v := (-4)) hx hb dL_refused_133 (by decide) ?_
                          obtain ⟨v177, hv177, h⟩ := bdP_some h
                          refine call_LSP (As := [.ref (ad 0 0), .int 4, .int 3, .int ((-4))]) (rest := []) ⟨hx, hb, hml, hown, hts⟩ (tL_is (l := l) (dC := dC) (dI := dI) (cI := cI) (cB := cB) (cP := cP) (ad := ad) (base := base) (b := b) (L := L) (xs := xs) (adK := adK) (adV := adV) (R := R) hv177 hCF) (va_cwS 4 hts (gqL_refused gQ_L_is) rfl rfl rfl (by decide +kernel) ⟨Nat.le_of_ble_eq_true rfl, Nat.le_of_ble_eq_true rfl⟩) hK hP hD (Nat.le_trans hbs hS.1) (fun U hU hW => EnvL_step hEL hS hU hW) (by rfl) hl.1 rfl (Nat.le_of_ble_eq_true rfl) dL_refused_135 ⟨by show _ ≤ 900; omega, by show _ ≤ 256 * (900); omega⟩ ?_
                          refine lv_if_eq (tgt := 209) hx hb dL_refused_138 (by decide) (fun c178 => ?_) (fun c178 => ?_)
                          · replace h := if_p c178 h
                            exact t_209  h (lv_sub hl [1, 0] rfl) hP hD hS hCF (by omega)
                          · replace h := if_n c178 h
                            refine lv_aload_n hx hb dL_refused_141 rfl (lv_at hl 1 rfl) ?_
                            refine lv_iconst (v := 5) hx hb dL_refused_142 (by decide) ?_
                            refine lv_bipush (v := 9) hx hb dL_refused_143 (by decide) ?_
                            obtain ⟨v179, O180, hv179, h⟩ := bdO_some h
                            refine call_BVE (As := [.int 5, .int 9]) (rest := []) ⟨hx, hb, hml, hown, hts⟩ (tX2_sleep (l := l) (dC := dC) (dI := dI) (cI := cI) (cB := cB) (cP := cP) (ad := ad) (base := base) (R := R) hv179 hCF) (cwV 2 hts (gqL_refused gQ_X2_sleep) rfl rfl rfl (by decide +kernel) ⟨Nat.le_of_ble_eq_true rfl, Nat.le_of_ble_eq_true rfl⟩) hK hP hD hS (Nat.le_trans hbs hS.1) (fun U hU hW => Env_step rfl rfl hE hS hU hW) 0 rfl rfl (by rfl) hl.1 rfl (Nat.le_of_ble_eq_true rfl) dL_refused_145 ⟨by show _ ≤ 900; omega, by show _ ≤ 256 * (900); omega⟩ (fun H locs ws9 hW9 hP hD _ hS => ?_)
                            obtain ⟨Z, rfl, hCF⟩ := hW9
                            refine lv_iconst (v := (-1)) hx hb dL_refused_148 (by decide) ?_
                            refine lv_icmp_ne (tgt := 209) hx hb dL_refused_149 (by decide) (fun c181 => ?_) (fun c181 => ?_)
                            · replace h := if_n c181 h
                              exact t_209  h (lv_sub hl [1, 0] rfl) hP hD hS hCF (by omega)
                            · replace h := if_p c181 h
                              refine lv_aload_n hx hb dL_refused_152 rfl (lv_at hl 1 rfl) ?_
                              refine lv_iconst (v := (-1)) hx hb dL_refused_153 (by decide) ?_
                              refine lv_iconst (v := 0) hx hb dL_refused_154 (by decide) ?_
                              obtain ⟨v182, O183, hv182, h⟩ := bdO_some h
                              refine call_BVE (As := [.int ((-1)), .int 0]) (rest := []) ⟨hx, hb, hml, hown, hts⟩ (tX2_sleep (l := l) (dC := dC) (dI := dI) (cI := cI) (cB := cB) (cP := cP) (ad := ad) (base := base) (R := R) hv182 hCF) (cwV 2 hts (gqL_refused gQ_X2_sleep) rfl rfl rfl (by decide +kernel) ⟨Nat.le_of_ble_eq_true rfl, Nat.le_of_ble_eq_true rfl⟩) hK hP hD hS (Nat.le_trans hbs hS.1) (fun U hU hW => Env_step rfl rfl hE hS hU hW) 0 rfl rfl (by rfl) hl.1 rfl (Nat.le_of_ble_eq_true rfl) dL_refused_155 ⟨by show _ ≤ 900; omega, by show _ ≤ 256 * (900); omega⟩ (fun H locs ws9 hW9 hP hD _ hS => ?_)
                              obtain ⟨Z, rfl, hCF⟩ := hW9
                              refine lv_iconst (v := (-1)) hx hb dL_refused_158 (by decide) ?_
                              refine lv_icmp_ne (tgt := 209) hx hb dL_refused_159 (by decide) (fun c184 => ?_) (fun c184 => ?_)
                              · replace h := if_n c184 h
                                exact t_209  h (lv_sub hl [1, 0] rfl) hP hD hS hCF (by omega)
                              · replace h := if_p c184 h
                                refine lv_aload_n hx hb dL_refused_162 rfl (lv_at hl 1 rfl) ?_
                                refine lv_iconst (v := 0) hx hb dL_refused_163 (by decide) ?_
                                refine lv_iconst (v := 2) hx hb dL_refused_164 (by decide) ?_
                                obtain ⟨v185, O186, hv185, h⟩ := bdO_some h
                                refine call_BVE (As := [.int 0, .int 2]) (rest := []) ⟨hx, hb, hml, hown, hts⟩ (tX2_sleep (l := l) (dC := dC) (dI := dI) (cI := cI) (cB := cB) (cP := cP) (ad := ad) (base := base) (R := R) hv185 hCF) (cwV 2 hts (gqL_refused gQ_X2_sleep) rfl rfl rfl (by decide +kernel) ⟨Nat.le_of_ble_eq_true rfl, Nat.le_of_ble_eq_true rfl⟩) hK hP hD hS (Nat.le_trans hbs hS.1) (fun U hU hW => Env_step rfl rfl hE hS hU hW) 0 rfl rfl (by rfl) hl.1 rfl (Nat.le_of_ble_eq_true rfl) dL_refused_165 ⟨by show _ ≤ 900; omega, by show _ ≤ 256 * (900); omega⟩ (fun H locs ws9 hW9 hP hD _ hS => ?_)
                                obtain ⟨Z, rfl, hCF⟩ := hW9
                                refine lv_bipush (v := (-2)) hx hb dL_refused_168 (by decide) ?_
                                refine lv_icmp_ne (tgt := 209) hx hb dL_refused_170 (by decide) (fun c187 => ?_) (fun c187 => ?_)
                                · replace h := if_n c187 h
                                  exact t_209  h (lv_sub hl [1, 0] rfl) hP hD hS hCF (by omega)
                                · replace h := if_p c187 h
                                  refine lv_aload_n hx hb dL_refused_173 rfl (lv_at hl 1 rfl) ?_
                                  refine lv_iconst (v := 0) hx hb dL_refused_174 (by decide) ?_
                                  refine lv_iconst (v := (-1)) hx hb dL_refused_175 (by decide) ?_
                                  obtain ⟨v188, O189, hv188, h⟩ := bdO_some h
                                  refine call_BVE (As := [.int 0, .int ((-1))]) (rest := []) ⟨hx, hb, hml, hown, hts⟩ (tX2_sleep (l := l) (dC := dC) (dI := dI) (cI := cI) (cB := cB) (cP := cP) (ad := ad) (base := base) (R := R) hv188 hCF) (cwV 2 hts (gqL_refused gQ_X2_sleep) rfl rfl rfl (by decide +kernel) ⟨Nat.le_of_ble_eq_true rfl, Nat.le_of_ble_eq_true rfl⟩) hK hP hD hS (Nat.le_trans hbs hS.1) (fun U hU hW => Env_step rfl rfl hE hS hU hW) 0 rfl rfl (by rfl) hl.1 rfl (Nat.le_of_ble_eq_true rfl) dL_refused_176 ⟨by show _ ≤ 900; omega, by show _ ≤ 256 * (900); omega⟩ (fun H locs ws9 hW9 hP hD _ hS => ?_)
                                  obtain ⟨Z, rfl, hCF⟩ := hW9
                                  refine lv_bipush (v := (-2)) hx hb dL_refused_179 (by decide) ?_
                                  refine lv_icmp_ne (tgt := 209) hx hb dL_refused_181 (by decide) (fun c190 => ?_) (fun c190 => ?_)
                                  · replace h := if_n c190 h
                                    exact t_209  h (lv_sub hl [1, 0] rfl) hP hD hS hCF (by omega)
                                  · replace h := if_p c190 h
                                    refine lv_aload_n hx hb dL_refused_184 rfl (lv_at hl 1 rfl) ?_
                                    refine lv_iconst (v := 0) hx hb dL_refused_185 (by decide) ?_
                                    obtain ⟨v191, O192, hv191, h⟩ := bdO_some h
                                    refine call_BVE (As := [.int 0]) (rest := []) ⟨hx, hb, hml, hown, hts⟩ (tX2_pass (l := l) (dC := dC) (dI := dI) (cI := cI) (cB := cB) (cP := cP) (ad := ad) (base := base) (R := R) hv191 hCF) (cwV 1 hts (gqL_refused gQ_X2_pass) rfl rfl rfl (by decide +kernel) ⟨Nat.le_of_ble_eq_true rfl, Nat.le_of_ble_eq_true rfl⟩) hK hP hD hS (Nat.le_trans hbs hS.1) (fun U hU hW => Env_step rfl rfl hE hS hU hW) 0 rfl rfl (by rfl) hl.1 rfl (Nat.le_of_ble_eq_true rfl) dL_refused_186 ⟨by show _ ≤ 900; omega, by show _ ≤ 256 * (900); omega⟩ (fun H locs ws9 hW9 hP hD _ hS => ?_)
                                    obtain ⟨Z, rfl, hCF⟩ := hW9
                                    refine lv_bipush (v := (-2)) hx hb dL_refused_189 (by decide) ?_
                                    refine lv_icmp_ne (tgt := 209) hx hb dL_refused_191 (by decide) (fun c193 => ?_) (fun c193 => ?_)
                                    · replace h := if_n c193 h
                                      exact t_209  h (lv_sub hl [1, 0] rfl) hP hD hS hCF (by omega)
                                    · replace h := if_p c193 h
                                      refine lv_aload_n hx hb dL_refused_194 rfl (lv_at hl 1 rfl) ?_
                                      refine lv_bipush (v := 31) hx hb dL_refused_195 (by decide) ?_
                                      obtain ⟨v194, O195, hv194, h⟩ := bdO_some h
                                      refine call_BVE (As := [.int 31]) (rest := []) ⟨hx, hb, hml, hown, hts⟩ (tX2_pass (l := l) (dC := dC) (dI := dI) (cI := cI) (cB := cB) (cP := cP) (ad := ad) (base := base) (R := R) hv194 hCF) (cwV 1 hts (gqL_refused gQ_X2_pass) rfl rfl rfl (by decide +kernel) ⟨Nat.le_of_ble_eq_true rfl, Nat.le_of_ble_eq_true rfl⟩) hK hP hD hS (Nat.le_trans hbs hS.1) (fun U hU hW => Env_step rfl rfl hE hS hU hW) 0 rfl rfl (by rfl) hl.1 rfl (Nat.le_of_ble_eq_true rfl) dL_refused_197 ⟨by show _ ≤ 900; omega, by show _ ≤ 256 * (900); omega⟩ (fun H locs ws9 hW9 hP hD _ hS => ?_)
                                      obtain ⟨Z, rfl, hCF⟩ := hW9
                                      refine lv_bipush (v := (-2)) hx hb dL_refused_200 (by decide) ?_
                                      refine lv_icmp_ne (tgt := 209) hx hb dL_refused_202 (by decide) (fun c196 => ?_) (fun c196 => ?_)
                                      · replace h := if_n c196 h
                                        exact t_209  h (lv_sub hl [1, 0] rfl) hP hD hS hCF (by omega)
                                      · replace h := if_p c196 h
                                        refine lv_iconst (v := 1) hx hb dL_refused_205 (by decide) ?_
                                        refine lv_goto (tgt := 210) hx hb dL_refused_206 (by decide) ?_
                                        exact t_210  h (lv_sub hl [1, 0] rfl) hP hD hS hCF (by omega)
