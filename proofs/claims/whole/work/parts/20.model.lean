/-! ===== THE CLASS AS FUNCTIONS. sh_K: half, k, limit, last, allowed; sh_C: touched, steady, cells, pages made; sh_M: made, begun, base, free, lowestMade, scan, tracedEnd, nextHead, registers ===== -/
abbrev sh_K : Type := Int32 × Int32 × Int32 × Int32 × Int32
abbrev kHalf (κ : sh_K) : Int32 := κ.1
abbrev kK (κ : sh_K) : Int32 := κ.2.1
abbrev kLim (κ : sh_K) : Int32 := κ.2.2.1
abbrev kLast (κ : sh_K) : Int32 := κ.2.2.2.1
abbrev kAl (κ : sh_K) : Int32 := κ.2.2.2.2
abbrev sh_C : Type := Int32 × Int32 × (Nat → Int32) × List Nat
abbrev sh_M : Type := Int32 × Int32 × Int32 × Int32 × Int32 × Int32 × Int32 × Int32 × (Nat → Int32)
abbrev sh_S : Type := sh_C × sh_M
abbrev sTou (σ : sh_S) : Int32 := σ.1.1
abbrev sSte (σ : sh_S) : Int32 := σ.1.2.1
abbrev sMem (σ : sh_S) : Nat → Int32 := σ.1.2.2.1
abbrev sPgs (σ : sh_S) : List Nat := σ.1.2.2.2
abbrev sMade (σ : sh_S) : Int32 := σ.2.1
abbrev sBeg (σ : sh_S) : Int32 := σ.2.2.1
abbrev sBase (σ : sh_S) : Int32 := σ.2.2.2.1
abbrev sFree (σ : sh_S) : Int32 := σ.2.2.2.2.1
abbrev sLow (σ : sh_S) : Int32 := σ.2.2.2.2.2.1
abbrev sScan (σ : sh_S) : Int32 := σ.2.2.2.2.2.2.1
abbrev sTend (σ : sh_S) : Int32 := σ.2.2.2.2.2.2.2.1
abbrev sNh (σ : sh_S) : Int32 := σ.2.2.2.2.2.2.2.2.1
abbrev sReg (σ : sh_S) : Nat → Int32 := σ.2.2.2.2.2.2.2.2.2
abbrev uMade (σ : sh_S) (v : Int32) : sh_S := (σ.1, v, σ.2.2)
abbrev uBeg (σ : sh_S) (v : Int32) : sh_S := (σ.1, σ.2.1, v, σ.2.2.2)
abbrev uBase (σ : sh_S) (v : Int32) : sh_S := (σ.1, σ.2.1, σ.2.2.1, v, σ.2.2.2.2)
abbrev uFree (σ : sh_S) (v : Int32) : sh_S := (σ.1, σ.2.1, σ.2.2.1, σ.2.2.2.1, v, σ.2.2.2.2.2)
abbrev uLow (σ : sh_S) (v : Int32) : sh_S := (σ.1, σ.2.1, σ.2.2.1, σ.2.2.2.1, σ.2.2.2.2.1, v, σ.2.2.2.2.2.2)
abbrev uScan (σ : sh_S) (v : Int32) : sh_S := (σ.1, σ.2.1, σ.2.2.1, σ.2.2.2.1, σ.2.2.2.2.1, σ.2.2.2.2.2.1, v, σ.2.2.2.2.2.2.2)
abbrev uTend (σ : sh_S) (v : Int32) : sh_S := (σ.1, σ.2.1, σ.2.2.1, σ.2.2.2.1, σ.2.2.2.2.1, σ.2.2.2.2.2.1, σ.2.2.2.2.2.2.1, v, σ.2.2.2.2.2.2.2.2)
abbrev uNh (σ : sh_S) (v : Int32) : sh_S := (σ.1, σ.2.1, σ.2.2.1, σ.2.2.2.1, σ.2.2.2.2.1, σ.2.2.2.2.2.1, σ.2.2.2.2.2.2.1, σ.2.2.2.2.2.2.2.1, v, σ.2.2.2.2.2.2.2.2.2)
abbrev uReg (σ : sh_S) (f : Nat → Int32) : sh_S := (σ.1, σ.2.1, σ.2.2.1, σ.2.2.2.1, σ.2.2.2.2.1, σ.2.2.2.2.2.1, σ.2.2.2.2.2.2.1, σ.2.2.2.2.2.2.2.1, σ.2.2.2.2.2.2.2.2.1, f)
abbrev uC (σ : sh_S) (c : sh_C) : sh_S := (c, σ.2)
-- Head
def hd_traced (h : Int32) : Int32 := (h >>> ((1 : Int32) &&& 31)) &&& 15
def hd_plain (h : Int32) : Int32 := (h >>> ((5 : Int32) &&& 31)) &&& 15
def hd_cells (h : Int32) : Int32 := 1 + hd_traced h + hd_plain h
def hd_isArr (h : Int32) : Int32 := if h &&& 512 = 0 then 0 else 1
def hd_refIt (h : Int32) : Int32 := if h &&& 1024 = 0 then 0 else 1
def hd_refs (h : Int32) : Int32 := if hd_isArr h = 0 then hd_traced h else 0
def hd_ints (h : Int32) : Int32 := if hd_isArr h = 0 then hd_plain h else 0
def hd_len (h : Int32) : Int32 := h >>> ((11 : Int32) &&& 31)
def hd_items (h r : Int32) : Int32 := if hd_isArr h = 0 then 0 else if hd_refIt h = r then hd_len h else 0
def hd_height (h : Int32) : Int32 := if hd_len h ≤ 225 then (if hd_len h ≤ 15 then 0 else 1) else 2
def hd_obj (r i : Int32) : Int32 := 1 ||| (r <<< ((1 : Int32) &&& 31)) ||| (i <<< ((5 : Int32) &&& 31))
def hd_node (t : Int32) : Int32 := if t = 0 then hd_obj 0 15 else hd_obj 15 0
def hd_arr (len r : Int32) : Int32 := hd_node (if r = 0 then (if len ≤ 15 then 0 else 1) else 1) ||| 512 ||| (if r = 0 then 0 else 1024) ||| (len <<< ((11 : Int32) &&& 31))
-- Cells
def sh_touch (κ : sh_K) (c : sh_C) : sh_C := (c.1 + 1, if c.1 + 1 ≤ kAl κ then c.2.1 else 0, c.2.2)
def sh_start (c : sh_C) : sh_C := (0, c.2)
def sh_val (κ : sh_K) (c : sh_C) (cell : Int32) : Int32 := if cell < 1 then 0 else if cell ≤ kLast κ then c.2.2.1 cell.toNatClampNeg else 0
def sh_pg (ps : List Nat) (i : Nat) : List Nat := if i ∈ ps then ps else ps ++ [i]
def sh_put (κ : sh_K) (c : sh_C) (cell v : Int32) : sh_C := if cell < 1 then c else if cell ≤ kLast κ then (c.1, c.2.1, upd c.2.2.1 cell.toNatClampNeg v, sh_pg c.2.2.2 (cell.toNatClampNeg / 1024)) else c
def sh_write (κ : sh_K) (c : sh_C) (cell v : Int32) : sh_C := sh_put κ (sh_touch κ c) cell v
-- Mover
def sh_below (x b : Int32) : Int32 := if x < 0 then 0 else if b ≤ x then 0 else 1
def sh_isReg (r : Int32) : Int32 := sh_below r 8
def sh_reg (σ : sh_S) (r : Int32) : Int32 := if sh_isReg r = 0 then 0 else sReg σ r.toNatClampNeg
def sh_setReg (σ : sh_S) (r v : Int32) : sh_S := if sh_isReg r = 0 then σ else uReg σ (upd (sReg σ) r.toNatClampNeg v)
def sh_moved (σ : sh_S) : Int32 := sFree σ - sBase σ
def sh_done (κ : sh_K) (σ : sh_S) : Int32 := if sScan σ = sFree σ then (if kK κ * sMade σ < sh_moved σ then 0 else 1) else 0
def sh_old (κ : sh_K) (σ : sh_S) (a : Int32) : Int32 := if a = 0 then 0 else if a < sBase σ then 1 else if a < sBase σ + kHalf κ then 0 else 1
def sh_copyN (κ : sh_K) (c : sh_C) (from' to' i : Int32) : Nat → sh_C
  | 0 => c
  | n + 1 => sh_copyN κ (sh_write κ (sh_touch κ c) (to' + i) (sh_val κ c (from' + i))) from' to' (i + 1) n
def sh_piu (κ : sh_K) (σ : sh_S) (a : Int32) : Int32 × sh_S :=
  if sh_old κ σ a = 0 then (a, σ) else
  let h := sh_val κ σ.1 a
  if h < 0 then (-h, uC σ (sh_touch κ σ.1)) else
  (sFree σ, uFree (uC σ (sh_write κ (sh_copyN κ (sh_write κ (sh_touch κ σ.1) (sFree σ) h) a (sFree σ) 1 ((hd_cells h).toNatClampNeg - 1)) a (-(sFree σ)))) (sFree σ + hd_cells h))
def sh_follow (κ : sh_K) (σ : sh_S) (cell : Int32) : Int32 × sh_S := sh_piu κ (uC σ (sh_touch κ σ.1)) (sh_val κ σ.1 cell)
def sh_link (κ : sh_K) (σ : sh_S) (cell v : Int32) : sh_S := let σ1 := (sh_follow κ σ cell).2; uC σ1 (sh_write κ σ1.1 cell v)
def sh_useHalf (κ : sh_K) (σ : sh_S) (f : Int32) : sh_S := (σ.1, sMade σ, sBeg σ, f, f, f + kHalf κ, f, f, f, sReg σ)
def sh_regsN (κ : sh_K) (σ : sh_S) (i : Nat) : Nat → sh_S
  | 0 => σ
  | n + 1 => let q := sh_piu κ σ (sReg σ i); sh_regsN κ (uReg q.2 (upd (sReg q.2) i q.1)) (i + 1) n
def sh_begin (κ : sh_K) (σ : sh_S) : sh_S :=
  let σ1 := sh_useHalf κ σ (if sBase σ = 1 then 1 + kHalf κ else 1)
  sh_regsN κ (uBeg (uMade σ1 0) (sBeg σ1 + 1)) 0 8
def sh_room (κ : sh_K) (σ : sh_S) (n : Int32) : Int32 × sh_S :=
  if sh_done κ σ = 0 then (1, σ) else
  if sh_moved σ ≤ kLim κ then (if sh_moved σ + sMade σ + n ≤ kLim κ then (1, σ) else (1, sh_begin κ σ)) else (0, σ)
def sh_zeroN (κ : sh_K) (c : sh_C) (low i : Int32) : Nat → sh_C
  | 0 => c
  | n + 1 => sh_zeroN κ (sh_write κ c (low + i) 0) low (i + 1) n
def sh_ws1 (κ : sh_K) (σ : sh_S) (w : Int32) : sh_S :=
  if sScan σ = sNh σ then uNh (uTend σ (sScan σ + 1 + hd_traced w)) (sScan σ + hd_cells w)
  else if (sh_piu κ σ w).1 = w then (sh_piu κ σ w).2 else uC (sh_piu κ σ w).2 (sh_write κ (sh_piu κ σ w).2.1 (sScan (sh_piu κ σ w).2) (sh_piu κ σ w).1)
def sh_ws2 (σ : sh_S) : sh_S := if sScan σ + 1 = sTend σ then uScan σ (sNh σ) else uScan σ (sScan σ + 1)
def sh_workStep (κ : sh_K) (σ : sh_S) : sh_S := sh_ws2 (sh_ws1 κ (uC σ (sh_touch κ σ.1)) (sh_val κ σ.1 (sScan σ)))
def sh_workN (κ : sh_K) (goal : Int32) (σ : sh_S) : Nat → sh_S
  | 0 => σ
  | n + 1 => if sScan σ < sFree σ then (if sScan σ < goal then sh_workN κ goal (sh_workStep κ σ) n else σ) else σ
def sh_work (κ : sh_K) (σ : sh_S) : sh_S := sh_workN κ (sBase σ + kK κ * sMade σ) σ (kK κ * 16).toNatClampNeg
def sh_place (κ : sh_K) (σ : sh_S) (h : Int32) : Int32 × sh_S :=
  let n := hd_cells h
  let σ1 := uLow σ (sLow σ - n)
  let σ2 := uC σ1 (sh_zeroN κ (sh_write κ σ1.1 (sLow σ1) h) (sLow σ1) 1 (n.toNatClampNeg - 1))
  let σ3 := sh_work κ (uMade σ2 (sMade σ2 + n))
  (sLow σ3, σ3)
-- StepHeap
def sh_slot (i lv : Int32) : Int32 := let c := if lv = 0 then i else if lv = 1 then i / 15 else i / 225; c - c / 15 * 15
def sh_head (κ : sh_K) (σ : sh_S) (r : Int32) : Int32 × sh_S :=
  let σ1 := uC σ (sh_start σ.1)
  let a := sh_reg σ1 r
  if a = 0 then (0, σ1) else (sh_val κ σ1.1 a, uC σ1 (sh_touch κ σ1.1))
def sh_gapN (κ : sh_K) (σ : sh_S) (i nd lv : Int32) : Nat → Int32 × sh_S
  | 0 => (0, σ)
  | n + 1 => if lv ≤ 0 then (0, σ) else
    let q := sh_follow κ σ (nd + 1 + sh_slot i lv)
    if q.1 = 0 then (lv, q.2) else sh_gapN κ q.2 i q.1 (lv + (-1)) n
def sh_gap (κ : sh_K) (σ : sh_S) (o h i : Int32) : Int32 × sh_S := sh_gapN κ σ i (sh_reg σ o) (hd_height h) 3
def sh_wayN (κ : sh_K) (σ : sh_S) (i lv nd ab : Int32) : Nat → Int32 × sh_S
  | 0 => (nd, σ)
  | n + 1 => if ab ≤ lv then (nd, σ) else
    let q := sh_follow κ σ (nd + 1 + sh_slot i ab)
    sh_wayN κ q.2 i lv q.1 (ab + (-1)) n
def sh_way (κ : sh_K) (σ : sh_S) (o h i lv : Int32) : Int32 × sh_S := let q := sh_wayN κ σ i lv (sh_reg σ o) (hd_height h) 3; (q.1 + 1 + sh_slot i lv, q.2)
def sh_open (κ : sh_K) (σ : sh_S) (o h i : Int32) : Int32 × sh_S :=
  let g := sh_gap κ σ o h i
  if g.1 = 0 then (1, g.2) else
  let rm := sh_room κ g.2 16
  if rm.1 = 0 then (0, rm.2) else
  let ch := sh_place κ rm.2 (hd_node (if g.1 ≤ 1 then hd_refIt h else 1))
  let w := sh_way κ ch.2 o h i g.1
  (2, sh_link κ w.2 w.1 ch.1)
def sh_fill (κ : sh_K) (σ : sh_S) (r h : Int32) : Int32 × sh_S :=
  let σ1 := uC σ (sh_start σ.1)
  let rm := sh_room κ σ1 (hd_cells h)
  if rm.1 = 0 then (0, rm.2) else
  let p := sh_place κ rm.2 h
  (1, sh_setReg p.2 r p.1)
