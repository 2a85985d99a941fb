section
/-! ===== THE CLASS AS FUNCTIONS. sh_K: half, k, limit, last, allowed; sh_C: touched, steady, cells, pages made; sh_M: made, begun, base, free, lowestMade, scan, tracedEnd, nextHead, registers ===== -/
abbrev sh_K : Type := Int32 × Int32 × Int32 × Int32 × Int32
abbrev kHalf (κ : sh_K) : Int32 := κ.1
abbrev kK (κ : sh_K) : Int32 := κ.2.1
abbrev kLim (κ : sh_K) : Int32 := κ.2.2.1
abbrev kLast (κ : sh_K) : Int32 := κ.2.2.2.1
abbrev kAl (κ : sh_K) : Int32 := κ.2.2.2.2
abbrev sh_C : Type := Int32 × Int32 × (Nat → Int32) × List Nat
abbrev sh_M : Type := Int32 × Int32 × Int32 × Int32 × Int32 × Int32 × Int32 × Int32 × (Nat → Int32)
abbrev sh_S : Type := sh_C × sh_M
abbrev sTou (σ : sh_S) : Int32 := σ.1.1
abbrev sSte (σ : sh_S) : Int32 := σ.1.2.1
abbrev sMem (σ : sh_S) : Nat → Int32 := σ.1.2.2.1
abbrev sPgs (σ : sh_S) : List Nat := σ.1.2.2.2
abbrev sMade (σ : sh_S) : Int32 := σ.2.1
abbrev sBeg (σ : sh_S) : Int32 := σ.2.2.1
abbrev sBase (σ : sh_S) : Int32 := σ.2.2.2.1
abbrev sFree (σ : sh_S) : Int32 := σ.2.2.2.2.1
abbrev sLow (σ : sh_S) : Int32 := σ.2.2.2.2.2.1
abbrev sScan (σ : sh_S) : Int32 := σ.2.2.2.2.2.2.1
abbrev sTend (σ : sh_S) : Int32 := σ.2.2.2.2.2.2.2.1
abbrev sNh (σ : sh_S) : Int32 := σ.2.2.2.2.2.2.2.2.1
abbrev sReg (σ : sh_S) : Nat → Int32 := σ.2.2.2.2.2.2.2.2.2
abbrev uMade (σ : sh_S) (v : Int32) : sh_S := (σ.1, v, σ.2.2)
abbrev uBeg (σ : sh_S) (v : Int32) : sh_S := (σ.1, σ.2.1, v, σ.2.2.2)
abbrev uBase (σ : sh_S) (v : Int32) : sh_S := (σ.1, σ.2.1, σ.2.2.1, v, σ.2.2.2.2)
abbrev uFree (σ : sh_S) (v : Int32) : sh_S := (σ.1, σ.2.1, σ.2.2.1, σ.2.2.2.1, v, σ.2.2.2.2.2)
abbrev uLow (σ : sh_S) (v : Int32) : sh_S := (σ.1, σ.2.1, σ.2.2.1, σ.2.2.2.1, σ.2.2.2.2.1, v, σ.2.2.2.2.2.2)
abbrev uScan (σ : sh_S) (v : Int32) : sh_S := (σ.1, σ.2.1, σ.2.2.1, σ.2.2.2.1, σ.2.2.2.2.1, σ.2.2.2.2.2.1, v, σ.2.2.2.2.2.2.2)
abbrev uTend (σ : sh_S) (v : Int32) : sh_S := (σ.1, σ.2.1, σ.2.2.1, σ.2.2.2.1, σ.2.2.2.2.1, σ.2.2.2.2.2.1, σ.2.2.2.2.2.2.1, v, σ.2.2.2.2.2.2.2.2)
abbrev uNh (σ : sh_S) (v : Int32) : sh_S := (σ.1, σ.2.1, σ.2.2.1, σ.2.2.2.1, σ.2.2.2.2.1, σ.2.2.2.2.2.1, σ.2.2.2.2.2.2.1, σ.2.2.2.2.2.2.2.1, v, σ.2.2.2.2.2.2.2.2.2)
abbrev uReg (σ : sh_S) (f : Nat → Int32) : sh_S := (σ.1, σ.2.1, σ.2.2.1, σ.2.2.2.1, σ.2.2.2.2.1, σ.2.2.2.2.2.1, σ.2.2.2.2.2.2.1, σ.2.2.2.2.2.2.2.1, σ.2.2.2.2.2.2.2.2.1, f)
abbrev uC (σ : sh_S) (c : sh_C) : sh_S := (c, σ.2)
-- Head
def hd_traced (h : Int32) : Int32 := (h >>> ((1 : Int32) &&& 31)) &&& 15
def hd_plain (h : Int32) : Int32 := (h >>> ((5 : Int32) &&& 31)) &&& 15
def hd_cells (h : Int32) : Int32 := 1 + hd_traced h + hd_plain h
def hd_isArr (h : Int32) : Int32 := if h &&& 512 = 0 then 0 else 1
def hd_refIt (h : Int32) : Int32 := if h &&& 1024 = 0 then 0 else 1
def hd_refs (h : Int32) : Int32 := if hd_isArr h = 0 then hd_traced h else 0
def hd_ints (h : Int32) : Int32 := if hd_isArr h = 0 then hd_plain h else 0
def hd_len (h : Int32) : Int32 := h >>> ((11 : Int32) &&& 31)
def hd_items (h r : Int32) : Int32 := if hd_isArr h = 0 then 0 else if hd_refIt h = r then hd_len h else 0
def hd_height (h : Int32) : Int32 := if hd_len h ≤ 225 then (if hd_len h ≤ 15 then 0 else 1) else 2
def hd_obj (r i : Int32) : Int32 := 1 ||| (r <<< ((1 : Int32) &&& 31)) ||| (i <<< ((5 : Int32) &&& 31))
def hd_node (t : Int32) : Int32 := if t = 0 then hd_obj 0 15 else hd_obj 15 0
def hd_arr (len r : Int32) : Int32 := hd_node (if r = 0 then (if len ≤ 15 then 0 else 1) else 1) ||| 512 ||| (if r = 0 then 0 else 1024) ||| (len <<< ((11 : Int32) &&& 31))
-- Cells
def sh_touch (κ : sh_K) (c : sh_C) : sh_C := (c.1 + 1, if c.1 + 1 ≤ kAl κ then c.2.1 else 0, c.2.2)
def sh_start (c : sh_C) : sh_C := (0, c.2)
def sh_val (κ : sh_K) (c : sh_C) (cell : Int32) : Int32 := if cell < 1 then 0 else if cell ≤ kLast κ then c.2.2.1 cell.toNatClampNeg else 0
def sh_pg (ps : List Nat) (i : Nat) : List Nat := if i ∈ ps then ps else ps ++ [i]
def sh_put (κ : sh_K) (c : sh_C) (cell v : Int32) : sh_C := if cell < 1 then c else if cell ≤ kLast κ then (c.1, c.2.1, upd c.2.2.1 cell.toNatClampNeg v, sh_pg c.2.2.2 (cell.toNatClampNeg / 1024)) else c
def sh_write (κ : sh_K) (c : sh_C) (cell v : Int32) : sh_C := sh_put κ (sh_touch κ c) cell v
-- Mover
def sh_isReg (r : Int32) : Int32 := if r < 0 then 0 else if r < 8 then 1 else 0
def sh_below (x b : Int32) : Int32 := if x < 0 then 0 else if x < b then 1 else 0
def sh_reg (σ : sh_S) (r : Int32) : Int32 := if r < 0 then 0 else if r < 8 then sReg σ r.toNatClampNeg else 0
def sh_setReg (σ : sh_S) (r v : Int32) : sh_S := if r < 0 then σ else if r < 8 then uReg σ (upd (sReg σ) r.toNatClampNeg v) else σ
def sh_moved (σ : sh_S) : Int32 := sFree σ - sBase σ
def sh_done (κ : sh_K) (σ : sh_S) : Int32 := if sScan σ = sFree σ then (if kK κ * sMade σ < sh_moved σ then 0 else 1) else 0
def sh_old (κ : sh_K) (σ : sh_S) (a : Int32) : Int32 := if a = 0 then 0 else if a < sBase σ then 1 else if a < sBase σ + kHalf κ then 0 else 1
def sh_copyN (κ : sh_K) (c : sh_C) (from' to' i : Int32) : Nat → sh_C
  | 0 => c
  | n + 1 => sh_copyN κ (sh_write κ (sh_touch κ c) (to' + i) (sh_val κ c (from' + i))) from' to' (i + 1) n
def sh_piu (κ : sh_K) (σ : sh_S) (a : Int32) : Int32 × sh_S :=
  if sh_old κ σ a = 0 then (a, σ) else
  let h := sh_val κ σ.1 a
  if h < 0 then (-h, uC σ (sh_touch κ σ.1)) else
  (sFree σ, uFree (uC σ (sh_write κ (sh_copyN κ (sh_write κ (sh_touch κ σ.1) (sFree σ) h) a (sFree σ) 1 ((hd_cells h).toNatClampNeg - 1)) a (-(sFree σ)))) (sFree σ + hd_cells h))
def sh_follow (κ : sh_K) (σ : sh_S) (cell : Int32) : Int32 × sh_S := sh_piu κ (uC σ (sh_touch κ σ.1)) (sh_val κ σ.1 cell)
def sh_link (κ : sh_K) (σ : sh_S) (cell v : Int32) : sh_S := let σ1 := (sh_follow κ σ cell).2; uC σ1 (sh_write κ σ1.1 cell v)
def sh_useHalf (κ : sh_K) (σ : sh_S) (f : Int32) : sh_S := (σ.1, sMade σ, sBeg σ, f, f, f + kHalf κ, f, f, f, sReg σ)
def sh_regsN (κ : sh_K) (σ : sh_S) (i : Nat) : Nat → sh_S
  | 0 => σ
  | n + 1 => let q := sh_piu κ σ (sReg σ i); sh_regsN κ (uReg q.2 (upd (sReg q.2) i q.1)) (i + 1) n
def sh_begin (κ : sh_K) (σ : sh_S) : sh_S :=
  let σ1 := sh_useHalf κ σ (if sBase σ = 1 then 1 + kHalf κ else 1)
  sh_regsN κ (uBeg (uMade σ1 0) (sBeg σ1 + 1)) 0 8
def sh_room (κ : sh_K) (σ : sh_S) (n : Int32) : Int32 × sh_S :=
  if sh_done κ σ = 0 then (1, σ) else
  if sh_moved σ ≤ kLim κ then (if sh_moved σ + sMade σ + n ≤ kLim κ then (1, σ) else (1, sh_begin κ σ)) else (0, σ)
def sh_zeroN (κ : sh_K) (c : sh_C) (low i : Int32) : Nat → sh_C
  | 0 => c
  | n + 1 => sh_zeroN κ (sh_write κ c (low + i) 0) low (i + 1) n
def sh_ws1 (κ : sh_K) (σ : sh_S) (w : Int32) : sh_S :=
  if sScan σ = sNh σ then uNh (uTend σ (sScan σ + 1 + hd_traced w)) (sScan σ + hd_cells w)
  else if (sh_piu κ σ w).1 = w then (sh_piu κ σ w).2 else uC (sh_piu κ σ w).2 (sh_write κ (sh_piu κ σ w).2.1 (sScan (sh_piu κ σ w).2) (sh_piu κ σ w).1)
def sh_ws2 (σ : sh_S) : sh_S := if sScan σ + 1 = sTend σ then uScan σ (sNh σ) else uScan σ (sScan σ + 1)
def sh_workStep (κ : sh_K) (σ : sh_S) : sh_S := sh_ws2 (sh_ws1 κ (uC σ (sh_touch κ σ.1)) (sh_val κ σ.1 (sScan σ)))
def sh_workN (κ : sh_K) (goal : Int32) (σ : sh_S) : Nat → sh_S
  | 0 => σ
  | n + 1 => if sScan σ < sFree σ then (if sScan σ < goal then sh_workN κ goal (sh_workStep κ σ) n else σ) else σ
def sh_work (κ : sh_K) (σ : sh_S) : sh_S := sh_workN κ (sBase σ + kK κ * sMade σ) σ (kK κ * 16).toNatClampNeg
def sh_place (κ : sh_K) (σ : sh_S) (h : Int32) : Int32 × sh_S :=
  let n := hd_cells h
  let σ1 := uLow σ (sLow σ - n)
  let σ2 := uC σ1 (sh_zeroN κ (sh_write κ σ1.1 (sLow σ1) h) (sLow σ1) 1 (n.toNatClampNeg - 1))
  let σ3 := sh_work κ (uMade σ2 (sMade σ2 + n))
  (sLow σ3, σ3)
-- StepHeap
def sh_slot (i lv : Int32) : Int32 := let c := if lv = 0 then i else if lv = 1 then i / 15 else i / 225; c - c / 15 * 15
def sh_head (κ : sh_K) (σ : sh_S) (r : Int32) : Int32 × sh_S :=
  let σ1 := uC σ (sh_start σ.1)
  let a := sh_reg σ1 r
  if a = 0 then (0, σ1) else (sh_val κ σ1.1 a, uC σ1 (sh_touch κ σ1.1))
def sh_gapN (κ : sh_K) (σ : sh_S) (i nd lv : Int32) : Nat → Int32 × sh_S
  | 0 => (0, σ)
  | n + 1 => if lv ≤ 0 then (0, σ) else
    let q := sh_follow κ σ (nd + 1 + sh_slot i lv)
    if q.1 = 0 then (lv, q.2) else sh_gapN κ q.2 i q.1 (lv + (-1)) n
def sh_gap (κ : sh_K) (σ : sh_S) (o h i : Int32) : Int32 × sh_S := sh_gapN κ σ i (sh_reg σ o) (hd_height h) 3
def sh_wayN (κ : sh_K) (σ : sh_S) (i lv nd ab : Int32) : Nat → Int32 × sh_S
  | 0 => (nd, σ)
  | n + 1 => if ab ≤ lv then (nd, σ) else
    let q := sh_follow κ σ (nd + 1 + sh_slot i ab)
    sh_wayN κ q.2 i lv q.1 (ab + (-1)) n
def sh_way (κ : sh_K) (σ : sh_S) (o h i lv : Int32) : Int32 × sh_S := let q := sh_wayN κ σ i lv (sh_reg σ o) (hd_height h) 3; (q.1 + 1 + sh_slot i lv, q.2)
def sh_open (κ : sh_K) (σ : sh_S) (o h i : Int32) : Int32 × sh_S :=
  let g := sh_gap κ σ o h i
  if g.1 = 0 then (1, g.2) else
  let rm := sh_room κ g.2 16
  if rm.1 = 0 then (0, rm.2) else
  let ch := sh_place κ rm.2 (hd_node (if g.1 ≤ 1 then hd_refIt h else 1))
  let w := sh_way κ ch.2 o h i g.1
  (2, sh_link κ w.2 w.1 ch.1)
def sh_fill (κ : sh_K) (σ : sh_S) (r h : Int32) : Int32 × sh_S :=
  let σ1 := uC σ (sh_start σ.1)
  let rm := sh_room κ σ1 (hd_cells h)
  if rm.1 = 0 then (0, rm.2) else
  let p := sh_place κ rm.2 h
  (1, sh_setReg p.2 r p.1)
end
section
/-! ===== CHAINS OF BLOCKS: ad: where a thing stands, cz: how many cells it has ===== -/
def gc_sum (cz : Nat → Nat) : List Nat → Nat
  | [] => 0
  | o :: l => cz o + gc_sum cz l
def gc_chain (ad cz : Nat → Nat) : Nat → List Nat → Nat → Prop
  | b, [], e => b = e
  | b, o :: l, e => ad o = b ∧ gc_chain ad cz (b + cz o) l e
theorem gc_sum_app {cz : Nat → Nat} : ∀ (l1 l2 : List Nat), gc_sum cz (l1 ++ l2) = gc_sum cz l1 + gc_sum cz l2
  | [], l2 => by simp [gc_sum]
  | o :: l1, l2 => by
    show cz o + gc_sum cz (l1 ++ l2) = cz o + gc_sum cz l1 + gc_sum cz l2
    rw [gc_sum_app l1 l2]
    omega
theorem gc_sum_le {cz : Nat → Nat} : ∀ (l1 l2 : List Nat), l1.Nodup → (∀ o, o ∈ l1 → o ∈ l2) → gc_sum cz l1 ≤ gc_sum cz l2
  | [], l2, _, _ => Nat.zero_le _
  | o :: l1, l2, hn, hs => by
    obtain ⟨s, t, rfl⟩ := List.append_of_mem (hs o List.mem_cons_self)
    have hn2 := List.nodup_cons.mp hn
    have h := gc_sum_le (cz := cz) l1 (s ++ t) hn2.2 (fun q hq => by
      have h1 := hs q (List.mem_cons_of_mem _ hq)
      have hne : q ≠ o := fun z => hn2.1 (z ▸ hq)
      simp only [List.mem_append, List.mem_cons] at h1 ⊢
      rcases h1 with h1 | h1 | h1
      · exact Or.inl h1
      · exact absurd h1 hne
      · exact Or.inr h1)
    rw [gc_sum_app] at h
    rw [gc_sum_app]
    simp only [gc_sum]
    omega
theorem gc_sum_eq {cz : Nat → Nat} {l1 l2 : List Nat} (h1 : l1.Nodup) (h2 : l2.Nodup) (h : ∀ o, o ∈ l1 ↔ o ∈ l2) : gc_sum cz l1 = gc_sum cz l2 :=
  Nat.le_antisymm (gc_sum_le l1 l2 h1 (fun o => (h o).mp)) (gc_sum_le l2 l1 h2 (fun o => (h o).mpr))
theorem gc_sum_congr {cz cz' : Nat → Nat} : ∀ (l : List Nat), (∀ o, o ∈ l → cz o = cz' o) → gc_sum cz l = gc_sum cz' l
  | [], _ => rfl
  | o :: l, h => by
    show cz o + _ = cz' o + _
    rw [h o List.mem_cons_self, gc_sum_congr l (fun q hq => h q (List.mem_cons_of_mem _ hq))]
theorem gc_chain_app {ad cz : Nat → Nat} : ∀ (l1 : List Nat) {l2 : List Nat} {b e : Nat}, gc_chain ad cz b (l1 ++ l2) e ↔ ∃ m, gc_chain ad cz b l1 m ∧ gc_chain ad cz m l2 e
  | [], l2, b, e => by
    constructor
    · intro h; exact ⟨b, rfl, h⟩
    · rintro ⟨m, h1, h2⟩
      have h1 : b = m := h1
      subst h1; exact h2
  | o :: l1, l2, b, e => by
    constructor
    · rintro ⟨h, h1⟩
      obtain ⟨m, h2, h3⟩ := (gc_chain_app l1).mp h1
      exact ⟨m, ⟨h, h2⟩, h3⟩
    · rintro ⟨m, ⟨h, h1⟩, h2⟩
      exact ⟨h, (gc_chain_app l1).mpr ⟨m, h1, h2⟩⟩
theorem gc_chain_sum {ad cz : Nat → Nat} : ∀ {l : List Nat} {b e : Nat}, gc_chain ad cz b l e → e = b + gc_sum cz l
  | [], b, e, h => by
    have h : b = e := h
    simp [gc_sum, h]
  | o :: l, b, e, h => by
    have h2 := gc_chain_sum h.2
    simp only [gc_sum]
    omega
theorem gc_chain_in {ad cz : Nat → Nat} : ∀ {l : List Nat} {b e : Nat}, gc_chain ad cz b l e → ∀ {o : Nat}, o ∈ l → b ≤ ad o ∧ ad o + cz o ≤ e
  | [], _, _, _, _, ho => by cases ho
  | q :: l, b, e, h, o, ho => by
    have hs := gc_chain_sum h.2
    rcases List.mem_cons.mp ho with h1 | h1
    · subst h1
      have := h.1
      omega
    · have := gc_chain_in h.2 h1
      omega
theorem gc_chain_dis {ad cz : Nat → Nat} : ∀ {l : List Nat} {b e : Nat}, gc_chain ad cz b l e → ∀ {o q : Nat}, o ∈ l → q ∈ l → o ≠ q → ad o + cz o ≤ ad q ∨ ad q + cz q ≤ ad o
  | [], _, _, _, _, _, ho, _, _ => by cases ho
  | r :: l, b, e, h, o, q, ho, hq, hne => by
    have hr := h.1
    rcases List.mem_cons.mp ho with h1 | h1
    · subst h1
      rcases List.mem_cons.mp hq with h2 | h2
      · exact absurd h2.symm hne
      · have := gc_chain_in h.2 h2
        left; omega
    · rcases List.mem_cons.mp hq with h2 | h2
      · subst h2
        have := gc_chain_in h.2 h1
        right; omega
      · exact gc_chain_dis h.2 h1 h2 hne
theorem gc_chain_congr {ad cz ad' cz' : Nat → Nat} : ∀ {l : List Nat} {b e : Nat}, (∀ o, o ∈ l → ad' o = ad o ∧ cz' o = cz o) → gc_chain ad cz b l e → gc_chain ad' cz' b l e
  | [], _, _, _, h => h
  | o :: l, b, e, hc, h => by
    obtain ⟨h1, h2⟩ := hc o List.mem_cons_self
    refine ⟨h1.trans h.1, ?_⟩
    rw [h2]
    exact gc_chain_congr (fun q hq => hc q (List.mem_cons_of_mem _ hq)) h.2
end
section
/-! ===== THE ABSTRACT HEAP (heads, references, ints, registers; thing 0 is nothing) AND HOW THE CELLS HOLD IT ===== -/
abbrev ab_A : Type := (Nat → Int32) × (Nat → Nat → Nat) × (Nat → Nat → Int32) × (Nat → Nat)
abbrev aH (α : ab_A) : Nat → Int32 := α.1
abbrev aF (α : ab_A) : Nat → Nat → Nat := α.2.1
abbrev aI (α : ab_A) : Nat → Nat → Int32 := α.2.2.1
abbrev aR (α : ab_A) : Nat → Nat := α.2.2.2
def hT (h : Int32) : Nat := (hd_traced h).toNatClampNeg
def hP (h : Int32) : Nat := (hd_plain h).toNatClampNeg
def hC (h : Int32) : Nat := 1 + hT h + hP h
abbrev aT (α : ab_A) (o : Nat) : Nat := hT (aH α o)
abbrev aP (α : ab_A) (o : Nat) : Nat := hP (aH α o)
abbrev aC (α : ab_A) (o : Nat) : Nat := hC (aH α o)
def gc_ok (h : Int32) : Prop := 0 < h ∧ hC h ≤ 16
/-- a word that leads to r in the half in use -/
def gc_bw (ad : Nat → Nat) (Mv Mk : List Nat) (r : Nat) (w : Int32) : Prop := w = nI (ad r) ∧ (r = 0 ∨ r ∈ Mv ∨ r ∈ Mk)
/-- a word that leads to r, perhaps still in the old half -/
def gc_gw (ad od : Nat → Nat) (Mv Mk Sn : List Nat) (r : Nat) (w : Int32) : Prop := gc_bw ad Mv Mk r w ∨ (w = nI (od r) ∧ r ∈ Sn)
def gc_sc (ad : Nat → Nat) (α : ab_A) (Mv : List Nat) (base scan tend nh : Nat) : Prop :=
  ∃ L1 L2 : List Nat, Mv = L1 ++ L2 ∧ gc_chain ad (aC α) base L1 nh ∧ (scan = nh ∨ ∃ (L0 : List Nat) (cur : Nat), L1 = L0 ++ [cur] ∧ ad cur < scan ∧ scan < tend ∧ tend = ad cur + 1 + aT α cur)
def gc_old (mem : Nat → Int32) (α : ab_A) (ob hf : Nat) (ad od : Nat → Nat) (Mv Sn : List Nat) (brf : Nat → Nat → Nat) : Prop :=
  (∀ o, o ∈ Sn → ob ≤ od o ∧ od o + aC α o ≤ ob + hf) ∧ (∀ o q, o ∈ Sn → q ∈ Sn → o ≠ q → od o + aC α o ≤ od q ∨ od q + aC α q ≤ od o) ∧
  (∀ o, o ∈ Mv → mem (od o) = -(nI (ad o))) ∧
  (∀ o, o ∈ Sn → o ∉ Mv → mem (od o) = aH α o ∧ (∀ j, j < aT α o → mem (od o + 1 + j) = nI (od (brf o j)) ∧ aF α o j = brf o j) ∧ ∀ j, j < aP α o → mem (od o + 1 + aT α o + j) = aI α o j) ∧
  (∀ o j, o ∈ Sn → j < aT α o → brf o j = 0 ∨ brf o j ∈ Sn)
def gc_new (mem : Nat → Int32) (α : ab_A) (scan : Nat) (ad od : Nat → Nat) (Mv Mk Sn : List Nat) (brf : Nat → Nat → Nat) : Prop :=
  (∀ o, o ∈ Mv ∨ o ∈ Mk → mem (ad o) = aH α o ∧ ∀ j, j < aP α o → mem (ad o + 1 + aT α o + j) = aI α o j) ∧
  (∀ o j, o ∈ Mk → j < aT α o → gc_bw ad Mv Mk (aF α o j) (mem (ad o + 1 + j))) ∧
  (∀ o j, o ∈ Mv → j < aT α o → ad o + 1 + j < scan → gc_bw ad Mv Mk (aF α o j) (mem (ad o + 1 + j))) ∧
  (∀ o j, o ∈ Mv → j < aT α o → gc_gw ad od Mv Mk Sn (aF α o j) (mem (ad o + 1 + j))) ∧
  (∀ o j, o ∈ Mv → j < aT α o → brf o j ≠ 0 → brf o j ∈ Mv ∨ (scan ≤ ad o + 1 + j ∧ mem (ad o + 1 + j) = nI (od (brf o j))))
def gc_set (α : ab_A) (ad od : Nat → Nat) (Mv Mk Sn : List Nat) : Prop :=
  ad 0 = 0 ∧ od 0 = 0 ∧ 0 ∉ Sn ∧ 0 ∉ Mk ∧ Mv.Nodup ∧ Mk.Nodup ∧ Sn.Nodup ∧ (∀ o, o ∈ Mv → o ∈ Sn) ∧ (∀ o, o ∈ Mk → o ∉ Sn) ∧ (∀ o, o ∈ Sn ∨ o ∈ Mk → gc_ok (aH α o))
def gc_I (mem : Nat → Int32) (hf base ob free low scan tend nh : Nat) (α : ab_A) (ad od : Nat → Nat) (Mv Mk Sn : List Nat) (brf : Nat → Nat → Nat) : Prop :=
  (hf < 2 ^ 20 ∧ (base = 1 ∧ ob = 1 + hf ∨ base = 1 + hf ∧ ob = 1) ∧ gc_sum (aC α) Sn + gc_sum (aC α) Mk ≤ hf) ∧ gc_set α ad od Mv Mk Sn ∧
  gc_chain ad (aC α) base Mv free ∧ gc_chain ad (aC α) low Mk (base + hf) ∧ gc_sc ad α Mv base scan tend nh ∧
  gc_old mem α ob hf ad od Mv Sn brf ∧ gc_new mem α scan ad od Mv Mk Sn brf
theorem hT_lt (h : Int32) : hT h < 16 ∧ hd_traced h = nI (hT h) := by
  unfold hT hd_traced
  obtain ⟨j, hj, e⟩ := pk_andE (h >>> ((1 : Int32) &&& 31)) (m := 15) 4 (by decide)
  rw [e, nI_clamp (by omega)]
  exact ⟨hj, rfl⟩
theorem hP_lt (h : Int32) : hP h < 16 ∧ hd_plain h = nI (hP h) := by
  unfold hP hd_plain
  obtain ⟨j, hj, e⟩ := pk_andE (h >>> ((5 : Int32) &&& 31)) (m := 15) 4 (by decide)
  rw [e, nI_clamp (by omega)]
  exact ⟨hj, rfl⟩
theorem hC_eq (h : Int32) : hd_cells h = nI (hC h) := by
  unfold hd_cells hC
  rw [(hT_lt h).2, (hP_lt h).2, show (1 : Int32) = nI 1 from rfl, nI_add, nI_add]
theorem gc_free_le {mem : Nat → Int32} {hf base ob free low scan tend nh : Nat} {α : ab_A} {ad od : Nat → Nat} {Mv Mk Sn : List Nat} {brf : Nat → Nat → Nat} (I : gc_I mem hf base ob free low scan tend nh α ad od Mv Mk Sn brf) : base ≤ scan ∧ scan ≤ nh ∧ nh ≤ free ∧ free ≤ low ∧ low ≤ base + hf ∧ free = base + gc_sum (aC α) Mv ∧ base + hf = low + gc_sum (aC α) Mk ∧ gc_sum (aC α) Mv ≤ gc_sum (aC α) Sn := by
  obtain ⟨⟨h1, h2, h3⟩, ⟨-, -, -, -, n1, -, -, s1, -⟩, c1, c2, ⟨L1, L2, rfl, k1, k2⟩, -⟩ := I
  have e1 := gc_chain_sum c1
  have e2 := gc_chain_sum c2
  have e3 := gc_chain_sum k1
  have e4 := gc_sum_app (cz := aC α) L1 L2
  have e5 := gc_sum_le (cz := aC α) _ _ n1 s1
  have e6 : base ≤ scan ∧ scan ≤ nh := by
    rcases k2 with k2 | ⟨L0, cur, k2, k3, k4, k5⟩
    · omega
    · subst k2
      have hi := gc_chain_in k1 (o := cur) (by simp)
      have : aC α cur = 1 + aT α cur + aP α cur := rfl
      omega
  omega
/-- one thing is moved -/
def gc_mm (mem : Nat → Int32) (a b n : Nat) : Nat → Int32 := fun x => if x = a then -(nI b) else if b ≤ x ∧ x < b + n then mem (a + (x - b)) else mem x
theorem gc_move {mem : Nat → Int32} {hf base ob free low scan tend nh : Nat} {α : ab_A} {ad od : Nat → Nat} {Mv Mk Sn : List Nat} {brf : Nat → Nat → Nat} (I : gc_I mem hf base ob free low scan tend nh α ad od Mv Mk Sn brf) {r : Nat} (hr : r ∈ Sn) (hm : r ∉ Mv) :
    free + aC α r ≤ low ∧ gc_I (gc_mm mem (od r) free (aC α r)) hf base ob (free + aC α r) low scan tend nh α (va_up ad r free) od (Mv ++ [r]) Mk Sn brf := by
  have F := gc_free_le I
  obtain ⟨⟨h1, h2, h3⟩, ⟨z1, z2, z3, z4, n1, n2, n3, s1, s2, s3⟩, c1, c2, sc, ⟨o1, o2, o3, o4, o5⟩, w1, w2, w3, w4, w5⟩ := I
  have hr0 : r ≠ 0 := fun z => z3 (z ▸ hr)
  have hrk : r ∉ Mk := fun z => s2 r z hr
  have nd : (Mv ++ [r]).Nodup := by
    rw [List.nodup_append]
    exact ⟨n1, by simp, fun a ha b hb z => by
      rw [List.mem_singleton] at hb
      subst hb; subst z; exact hm ha⟩
  have sub : ∀ o, o ∈ Mv ++ [r] → o ∈ Sn := fun o ho => by
    rcases List.mem_append.mp ho with h | h
    · exact s1 o h
    · rw [List.mem_singleton] at h; subst h; exact hr
  have hsum := gc_sum_le (cz := aC α) _ _ nd sub
  rw [gc_sum_app] at hsum
  have hone : gc_sum (aC α) [r] = aC α r := by simp [gc_sum]
  rw [hone] at hsum
  have hroom : free + aC α r ≤ low := by omega
  obtain ⟨b1, b2⟩ := o1 r hr
  have hC1 : aC α r = 1 + aT α r + aP α r := rfl
  have up : ∀ o, o ≠ r → va_up ad r free o = ad o := fun o h => by simp [va_up, h]
  have upr : va_up ad r free r = free := by simp [va_up]
  have ne1 : ∀ o, o = 0 ∨ o ∈ Mv ∨ o ∈ Mk → o ≠ r := by
    intro o h z
    subst z
    rcases h with h | h | h
    · exact hr0 h
    · exact hm h
    · exact hrk h
  have bw : ∀ (q : Nat) (w : Int32), gc_bw ad Mv Mk q w → gc_bw (va_up ad r free) (Mv ++ [r]) Mk q w := by
    rintro q w ⟨e, h⟩
    refine ⟨by rw [up q (ne1 q h)]; exact e, ?_⟩
    rcases h with h | h | h
    · exact Or.inl h
    · exact Or.inr (Or.inl (List.mem_append_left _ h))
    · exact Or.inr (Or.inr h)
  have gw : ∀ (q : Nat) (w : Int32), gc_gw ad od Mv Mk Sn q w → gc_gw (va_up ad r free) od (Mv ++ [r]) Mk Sn q w := by
    rintro q w (h | h)
    · exact Or.inl (bw q w h)
    · exact Or.inr h
  -- cells of the half in use that were there stay
  have keep : ∀ x, (base ≤ x ∧ x < free) ∨ (low ≤ x ∧ x < base + hf) → gc_mm mem (od r) free (aC α r) x = mem x := by
    intro x hx
    unfold gc_mm
    rw [if_neg (by omega), if_neg (by omega)]
  have keepO : ∀ x, ob ≤ x → x < ob + hf → x ≠ od r → gc_mm mem (od r) free (aC α r) x = mem x := by
    intro x h4 h5 h6
    unfold gc_mm
    rw [if_neg h6, if_neg (by omega)]
  have blk : ∀ o, o ∈ Mv ∨ o ∈ Mk → (∀ i, i < aC α o → (base ≤ ad o + i ∧ ad o + i < free) ∨ (low ≤ ad o + i ∧ ad o + i < base + hf)) := by
    intro o ho i hi
    rcases ho with ho | ho
    · have := gc_chain_in c1 ho
      omega
    · have := gc_chain_in c2 ho
      omega
  have kb : ∀ o, o ∈ Mv ∨ o ∈ Mk → ∀ i, i < aC α o → gc_mm mem (od r) free (aC α r) (ad o + i) = mem (ad o + i) := fun o ho i hi => keep _ (blk o ho i hi)
  have nw : ∀ i, i < aC α r → gc_mm mem (od r) free (aC α r) (free + i) = mem (od r + i) := by
    intro i hi
    unfold gc_mm
    rw [if_neg (by omega), if_pos (by omega)]
    congr 1
    omega
  obtain ⟨q1, q2, q3⟩ := o4 r hr hm
  refine ⟨hroom, ⟨h1, h2, h3⟩, ⟨by rw [up 0 (Ne.symm hr0)]; exact z1, z2, z3, z4, nd, n2, n3, sub, s2, s3⟩, ?_, ?_, ?_, ⟨o1, o2, ?_, ?_, o5⟩, ?_, ?_, ?_, ?_, ?_⟩
  · refine (gc_chain_app Mv).mpr ⟨free, gc_chain_congr (fun o ho => ⟨up o (ne1 o (Or.inr (Or.inl ho))), rfl⟩) c1, upr, rfl⟩
  · exact gc_chain_congr (fun o ho => ⟨up o (ne1 o (Or.inr (Or.inr ho))), rfl⟩) c2
  · obtain ⟨L1, L2, e1, k1, k2⟩ := sc
    refine ⟨L1, L2 ++ [r], by rw [e1, List.append_assoc], gc_chain_congr (fun o ho => ⟨up o (ne1 o (Or.inr (Or.inl (by rw [e1]; exact List.mem_append_left _ ho)))), rfl⟩) k1, ?_⟩
    rcases k2 with k2 | ⟨L0, cur, k2, k3, k4, k5⟩
    · exact Or.inl k2
    · have hc : cur ∈ Mv := by rw [e1, k2]; simp
      have hu := up cur (ne1 cur (Or.inr (Or.inl hc)))
      exact Or.inr ⟨L0, cur, k2, by rw [hu]; exact k3, k4, by rw [hu]; exact k5⟩
  · intro o ho
    rcases List.mem_append.mp ho with h | h
    · have hne := ne1 o (Or.inr (Or.inl h))
      rw [up o hne, keepO _ (o1 o (s1 o h)).1 (by have := o1 o (s1 o h); have : aC α o = 1 + aT α o + aP α o := rfl; omega) (fun z => by
        have hd := o2 o r (s1 o h) hr hne
        have : aC α o = 1 + aT α o + aP α o := rfl
        omega)]
      exact o3 o h
    · rw [List.mem_singleton] at h
      subst h
      rw [upr]
      unfold gc_mm
      rw [if_pos rfl]
  · intro o ho hn
    have hnm : o ∉ Mv := fun z => hn (List.mem_append_left _ z)
    have hne : o ≠ r := fun z => hn (by rw [z]; simp)
    obtain ⟨a1, a2, a3⟩ := o4 o ho hnm
    have hb := o1 o ho
    have hd := o2 o r ho hr hne
    have hCo : aC α o = 1 + aT α o + aP α o := rfl
    refine ⟨by rw [keepO _ (by omega) (by omega) (by omega)]; exact a1, fun j hj => ?_, fun j hj => ?_⟩
    · rw [keepO _ (by omega) (by omega) (by omega)]; exact a2 j hj
    · rw [keepO _ (by omega) (by omega) (by omega)]; exact a3 j hj
  · intro o ho
    have ho' : o = r ∨ (o ≠ r ∧ (o ∈ Mv ∨ o ∈ Mk)) := by
      by_cases hz : o = r
      · exact Or.inl hz
      · refine Or.inr ⟨hz, ?_⟩
        rcases ho with h | h
        · rcases List.mem_append.mp h with h | h
          · exact Or.inl h
          · exact absurd (List.mem_singleton.mp h) hz
        · exact Or.inr h
    rcases ho' with rfl | ⟨hne, ho'⟩
    · rw [upr]
      refine ⟨(nw 0 (by omega)).trans q1, fun j hj => ?_⟩
      rw [show free + 1 + aT α o + j = free + (1 + aT α o + j) by omega, nw _ (by omega), show od o + (1 + aT α o + j) = od o + 1 + aT α o + j by omega]
      exact q3 j hj
    · rw [up o hne]
      obtain ⟨a1, a2⟩ := w1 o ho'
      have hCo : aC α o = 1 + aT α o + aP α o := rfl
      refine ⟨by rw [show ad o = ad o + 0 from rfl, kb o ho' 0 (by omega)]; exact a1, fun j hj => ?_⟩
      rw [show ad o + 1 + aT α o + j = ad o + (1 + aT α o + j) by omega, kb o ho' _ (by omega), show ad o + (1 + aT α o + j) = ad o + 1 + aT α o + j by omega]
      exact a2 j hj
  · intro o j ho hj
    have hne := ne1 o (Or.inr (Or.inr ho))
    have hCo : aC α o = 1 + aT α o + aP α o := rfl
    rw [up o hne, show ad o + 1 + j = ad o + (1 + j) by omega, kb o (Or.inr ho) _ (by omega), show ad o + (1 + j) = ad o + 1 + j by omega]
    exact bw _ _ (w2 o j ho hj)
  · intro o j ho hj hs
    rcases List.mem_append.mp ho with h | h
    · have hne := ne1 o (Or.inr (Or.inl h))
      have hCo : aC α o = 1 + aT α o + aP α o := rfl
      rw [up o hne] at hs ⊢
      rw [show ad o + 1 + j = ad o + (1 + j) by omega, kb o (Or.inl h) _ (by omega), show ad o + (1 + j) = ad o + 1 + j by omega]
      exact bw _ _ (w3 o j h hj hs)
    · rw [List.mem_singleton] at h
      subst h
      rw [upr] at hs
      omega
  · intro o j ho hj
    rcases List.mem_append.mp ho with h | h
    · have hne := ne1 o (Or.inr (Or.inl h))
      have hCo : aC α o = 1 + aT α o + aP α o := rfl
      rw [up o hne, show ad o + 1 + j = ad o + (1 + j) by omega, kb o (Or.inl h) _ (by omega), show ad o + (1 + j) = ad o + 1 + j by omega]
      exact gw _ _ (w4 o j h hj)
    · rw [List.mem_singleton] at h
      subst h
      rw [upr, show free + 1 + j = free + (1 + j) by omega, nw _ (by omega), show od o + (1 + j) = od o + 1 + j by omega, (q2 j hj).2]
      rcases o5 o j hr hj with h0 | h0
      · rw [(q2 j hj).1, h0]
        exact Or.inl ⟨by rw [up 0 (Ne.symm hr0), z1, z2], Or.inl rfl⟩
      · exact Or.inr ⟨(q2 j hj).1, h0⟩
  · intro o j ho hj hb
    rcases List.mem_append.mp ho with h | h
    · have hne := ne1 o (Or.inr (Or.inl h))
      have hCo : aC α o = 1 + aT α o + aP α o := rfl
      rw [up o hne]
      rcases w5 o j h hj hb with h5 | ⟨h5, h6⟩
      · exact Or.inl (List.mem_append_left _ h5)
      · refine Or.inr ⟨h5, ?_⟩
        rw [show ad o + 1 + j = ad o + (1 + j) by omega, kb o (Or.inl h) _ (by omega), show ad o + (1 + j) = ad o + 1 + j by omega]
        exact h6
    · rw [List.mem_singleton] at h
      subst h
      refine Or.inr ⟨by rw [upr]; omega, ?_⟩
      rw [upr, show free + 1 + j = free + (1 + j) by omega, nw _ (by omega), show od o + (1 + j) = od o + 1 + j by omega]
      exact (q2 j hj).1
end
section
/-! ===== THE CELLS' FUNCTIONS, WHERE THE ADDRESSES ARE IN RANGE; placeInUse ===== -/
theorem gc_valI {κ : sh_K} {c : sh_C} {la x : Nat} (hl : kLast κ = nI la) (hb : la < 2 ^ 31) (h1 : 1 ≤ x) (h2 : x ≤ la) : sh_val κ c (nI x) = c.2.2.1 x := by
  unfold sh_val
  rw [if_neg (by rw [show (1 : Int32) = nI 1 from rfl]; exact nI_nlt h1 (by omega)), if_pos (by rw [hl]; exact nI_le h2 hb), nI_clamp (by omega)]
theorem gc_writeI {κ : sh_K} {c : sh_C} {la x : Nat} {v : Int32} (hl : kLast κ = nI la) (hb : la < 2 ^ 31) (h1 : 1 ≤ x) (h2 : x ≤ la) : (sh_write κ c (nI x) v).2.2.1 = upd c.2.2.1 x v := by
  unfold sh_write sh_put
  rw [if_neg (by rw [show (1 : Int32) = nI 1 from rfl]; exact nI_nlt h1 (by omega)), if_pos (by rw [hl]; exact nI_le h2 hb), nI_clamp (by omega)]
  rfl
theorem gc_touchM {κ : sh_K} {c : sh_C} : (sh_touch κ c).2.2 = c.2.2 := rfl
theorem gc_copyN {κ : sh_K} {la a b : Nat} (hl : kLast κ = nI la) (hb : la < 2 ^ 31) : ∀ (n i : Nat) (c : sh_C), 1 ≤ a + i → 1 ≤ b + i → a + i + n ≤ la + 1 → b + i + n ≤ la + 1 → (a + n ≤ b ∨ b + n ≤ a) →
    (sh_copyN κ c (nI a) (nI b) (nI i) n).2.2.1 = fun x => if b + i ≤ x ∧ x < b + i + n then c.2.2.1 (a + (x - b)) else c.2.2.1 x
  | 0, i, c, _, _, _, _, _ => by
    funext x
    rw [if_neg (by omega)]
    rfl
  | n + 1, i, c, h1, h2, h3, h4, h5 => by
    show (sh_copyN κ (sh_write κ (sh_touch κ c) (nI b + nI i) (sh_val κ c (nI a + nI i))) (nI a) (nI b) (nI i + 1) n).2.2.1 = _
    rw [nI_add, nI_add, nI_1, gc_valI hl hb h1 (by omega), gc_copyN hl hb n (i + 1) _ (by omega) (by omega) (by omega) (by omega) (by omega), gc_writeI hl hb h2 (by omega), gc_touchM]
    funext x
    by_cases hx : b + (i + 1) ≤ x ∧ x < b + (i + 1) + n
    · rw [if_pos hx, if_pos (by omega), pk_un (by omega)]
    · rw [if_neg hx]
      by_cases hy : x = b + i
      · subst hy
        rw [if_pos (by omega), pk_us, show b + i - b = i by omega]
      · rw [if_neg (by omega), pk_un hy]
theorem gc_neg {a : Nat} (h0 : 1 ≤ a) (h : a < 2 ^ 31) : -(nI a) < 0 := by
  rw [Int32.lt_iff_toInt_lt, sb_negT h, Int32.toInt_zero]
  omega
theorem gc_oldNo {κ : sh_K} {σ : sh_S} {hf base x : Nat} (hk : kHalf κ = nI hf) (hB : sBase σ = nI base) (hb : base + hf < 2 ^ 31) (h : x = 0 ∨ base ≤ x ∧ x < base + hf) : sh_old κ σ (nI x) = 0 := by
  unfold sh_old
  rcases h with h | ⟨h1, h2⟩
  · subst h
    rw [if_pos nI_0]
  · by_cases h0 : nI x = 0
    · rw [if_pos h0]
    · rw [if_neg h0, hB, hk, nI_add, if_neg (nI_nlt h1 (by omega)), if_pos (nI_lt h2 hb)]
theorem gc_oldYes {κ : sh_K} {σ : sh_S} {hf base x : Nat} (hk : kHalf κ = nI hf) (hB : sBase σ = nI base) (hb : base + hf < 2 ^ 31) (h0 : 1 ≤ x) (h2 : x < 2 ^ 31) (h : x < base ∨ base + hf ≤ x) : ¬ sh_old κ σ (nI x) = 0 := by
  unfold sh_old
  rw [if_neg (nI_ne0 h0 h2), hB, hk, nI_add]
  rcases h with h | h
  · rw [if_pos (nI_lt h (by omega))]; decide
  · by_cases h5 : nI x < nI base
    · rw [if_pos h5]; decide
    · rw [if_neg h5, if_neg (nI_nlt h h2)]; decide
/-- what moves keep: who stands in the half in use stays there -/
def gc_ext (ad ad' : Nat → Nat) (Mv Mv' Mk : List Nat) : Prop := (∀ o, o = 0 ∨ o ∈ Mv ∨ o ∈ Mk → ad' o = ad o) ∧ ∀ o, o ∈ Mv → o ∈ Mv'
theorem gc_ext.rf {ad : Nat → Nat} {Mv Mk : List Nat} : gc_ext ad ad Mv Mv Mk := ⟨fun _ _ => rfl, fun _ h => h⟩
theorem gc_ext.tr {ad ad' ad'' : Nat → Nat} {Mv Mv' Mv'' Mk : List Nat} (h : gc_ext ad ad' Mv Mv' Mk) (h2 : gc_ext ad' ad'' Mv' Mv'' Mk) : gc_ext ad ad'' Mv Mv'' Mk :=
  ⟨fun o ho => (h2.1 o (ho.imp id (Or.imp (h.2 o) id))).trans (h.1 o ho), fun o ho => h2.2 o (h.2 o ho)⟩
theorem gc_ext.bw {ad ad' : Nat → Nat} {Mv Mv' Mk : List Nat} (h : gc_ext ad ad' Mv Mv' Mk) {r : Nat} {w : Int32} (hw : gc_bw ad Mv Mk r w) : gc_bw ad' Mv' Mk r w :=
  ⟨by rw [h.1 r hw.2]; exact hw.1, hw.2.imp id (Or.imp (h.2 r) id)⟩
theorem gc_ext.gw {ad ad' od : Nat → Nat} {Mv Mv' Mk Sn : List Nat} (h : gc_ext ad ad' Mv Mv' Mk) {r : Nat} {w : Int32} (hw : gc_gw ad od Mv Mk Sn r w) : gc_gw ad' od Mv' Mk Sn r w := by
  rcases hw with hw | hw
  · exact Or.inl (h.bw hw)
  · exact Or.inr hw
theorem gc_piu {κ : sh_K} {σ : sh_S} {hf base ob free low scan tend nh : Nat} {α : ab_A} {ad od : Nat → Nat} {Mv Mk Sn : List Nat} {brf : Nat → Nat → Nat}
    (k1 : kHalf κ = nI hf) (k2 : kLast κ = nI (2 * hf)) (I : gc_I (sMem σ) hf base ob free low scan tend nh α ad od Mv Mk Sn brf) (hB : sBase σ = nI base) (hF : sFree σ = nI free) {r : Nat} {w : Int32} (hw : gc_gw ad od Mv Mk Sn r w) :
    ∃ (ad' : Nat → Nat) (Mv' : List Nat) (free' : Nat), gc_I (sMem (sh_piu κ σ w).2) hf base ob free' low scan tend nh α ad' od Mv' Mk Sn brf ∧ gc_bw ad' Mv' Mk r (sh_piu κ σ w).1 ∧ (sh_piu κ σ w).2.2 = (uFree σ (nI free')).2 ∧ gc_ext ad ad' Mv Mv' Mk := by
  have F := gc_free_le I
  have I0 := I
  obtain ⟨⟨h1, h2, h3⟩, ⟨z1, z2, z3, z4, n1, n2, n3, s1, s2, s3⟩, c1, c2, -, ⟨o1, o2, o3, o4, o5⟩, w1, -⟩ := I
  have same : sh_old κ σ w = 0 → gc_bw ad Mv Mk r w → ∃ (ad' : Nat → Nat) (Mv' : List Nat) (free' : Nat), gc_I (sMem (sh_piu κ σ w).2) hf base ob free' low scan tend nh α ad' od Mv' Mk Sn brf ∧ gc_bw ad' Mv' Mk r (sh_piu κ σ w).1 ∧ (sh_piu κ σ w).2.2 = (uFree σ (nI free')).2 ∧ gc_ext ad ad' Mv Mv' Mk := by
    intro ho hb
    have e : sh_piu κ σ w = (w, σ) := by unfold sh_piu; rw [if_pos ho]
    rw [e]
    exact ⟨ad, Mv, free, I0, hb, by rw [← hF], gc_ext.rf⟩
  rcases hw with hb | ⟨e, hr⟩
  · refine same ?_ hb
    rw [hb.1]
    refine gc_oldNo k1 hB (by omega) ?_
    rcases hb.2 with h | h | h
    · subst h; exact Or.inl z1
    · have hi := gc_chain_in c1 h
      have : aC α r = 1 + aT α r + aP α r := rfl
      right; omega
    · have hi := gc_chain_in c2 h
      have : aC α r = 1 + aT α r + aP α r := rfl
      right; omega
  · have b := o1 r hr
    have hCr : aC α r = 1 + aT α r + aP α r := rfl
    have ho : ¬ sh_old κ σ w = 0 := by
      rw [e]
      exact gc_oldYes k1 hB (by omega) (by omega) (by omega) (by omega)
    have hv : sh_val κ σ.1 w = sMem σ (od r) := by rw [e]; exact gc_valI k2 (by omega) (by omega) (by omega)
    by_cases hm : r ∈ Mv
    · have hi := gc_chain_in c1 hm
      have ev : sh_val κ σ.1 w = -(nI (ad r)) := by rw [hv]; exact o3 r hm
      have eq : sh_piu κ σ w = (nI (ad r), uC σ (sh_touch κ σ.1)) := by
        unfold sh_piu
        rw [if_neg ho]
        show (if sh_val κ σ.1 w < 0 then _ else _) = _
        rw [ev, if_pos (gc_neg (by omega) (by omega)), Int32.neg_neg]
      rw [eq]
      exact ⟨ad, Mv, free, I0, ⟨rfl, Or.inr (Or.inl hm)⟩, by rw [← hF], gc_ext.rf⟩
    · obtain ⟨hroom, I'⟩ := gc_move I0 hr hm
      obtain ⟨q1, -, -⟩ := o4 r hr hm
      have hok := s3 r (Or.inl hr)
      have ev : sh_val κ σ.1 w = aH α r := by rw [hv]; exact q1
      have eq : sh_piu κ σ w = (nI free, uFree (uC σ (sh_write κ (sh_copyN κ (sh_write κ (sh_touch κ σ.1) (nI free) (aH α r)) (nI (od r)) (nI free) (nI 1) (aC α r - 1)) (nI (od r)) (-(nI free)))) (nI (free + aC α r))) := by
        unfold sh_piu
        rw [if_neg ho]
        show (if sh_val κ σ.1 w < 0 then _ else _) = _
        rw [ev, if_neg (by have := hok.1; rw [Int32.lt_iff_toInt_lt] at this ⊢; omega)]
        rw [hC_eq, nI_clamp (by have := hok.2; omega), hF, nI_add, e]
        rfl
      have em : sMem (sh_piu κ σ w).2 = gc_mm (sMem σ) (od r) free (aC α r) := by
        rw [eq]
        show (sh_write κ (sh_copyN κ (sh_write κ (sh_touch κ σ.1) (nI free) (aH α r)) (nI (od r)) (nI free) (nI 1) (aC α r - 1)) (nI (od r)) (-(nI free))).2.2.1 = _
        rw [gc_writeI k2 (by omega) (by omega) (by omega), gc_copyN k2 (by omega) _ _ _ (by omega) (by omega) (by omega) (by omega) (by omega), gc_writeI k2 (by omega) (by omega) (by omega), gc_touchM]
        funext x
        unfold gc_mm
        by_cases hx : x = od r
        · subst hx
          rw [pk_us, if_pos rfl]
        · rw [pk_un hx, if_neg hx]
          by_cases hy : free + 1 ≤ x ∧ x < free + 1 + (aC α r - 1)
          · rw [if_pos hy, if_pos (by omega), pk_un (by omega)]
          · rw [if_neg hy]
            by_cases hz : x = free
            · subst hz
              rw [pk_us, if_pos (by omega), Nat.sub_self, Nat.add_zero]
              exact q1.symm
            · rw [pk_un hz, if_neg (by omega)]
      refine ⟨va_up ad r free, Mv ++ [r], free + aC α r, by rw [em]; exact I', ?_, ?_, ?_⟩
      · rw [eq]
        exact ⟨by simp [va_up], Or.inr (Or.inl (by simp))⟩
      · rw [eq]
      · refine ⟨fun o h => ?_, fun o h => List.mem_append_left _ h⟩
        have hne : o ≠ r := by
          intro z
          subst z
          rcases h with h | h | h
          · subst h; exact z3 hr
          · exact hm h
          · exact s2 o h hr
        simp [va_up, hne]
end
section
/-! ===== WRITING A REFERENCE, GOING ON, follow, link, work ===== -/
def abF (α : ab_A) (o j r : Nat) : ab_A := (α.1, fun p i => if p = o ∧ i = j then r else aF α p i, α.2.2)
theorem gc_inj {mem : Nat → Int32} {hf base ob free low scan tend nh : Nat} {α : ab_A} {ad od : Nat → Nat} {Mv Mk Sn : List Nat} {brf : Nat → Nat → Nat} (I : gc_I mem hf base ob free low scan tend nh α ad od Mv Mk Sn brf)
    {p q i i' : Nat} (hp : p ∈ Mv ∨ p ∈ Mk) (hq : q ∈ Mv ∨ q ∈ Mk) (hi : i < aC α p) (hi' : i' < aC α q) (h : ad p + i = ad q + i') : p = q ∧ i = i' := by
  have F := gc_free_le I
  obtain ⟨-, -, c1, c2, -⟩ := I
  by_cases hpq : p = q
  · subst hpq; exact ⟨rfl, by omega⟩
  · exfalso
    rcases hp with hp | hp <;> rcases hq with hq | hq
    · have := gc_chain_dis c1 hp hq hpq; omega
    · have a1 := gc_chain_in c1 hp; have a2 := gc_chain_in c2 hq; omega
    · have a1 := gc_chain_in c2 hp; have a2 := gc_chain_in c1 hq; omega
    · have := gc_chain_dis c2 hp hq hpq; omega
theorem gc_half {mem : Nat → Int32} {hf base ob free low scan tend nh : Nat} {α : ab_A} {ad od : Nat → Nat} {Mv Mk Sn : List Nat} {brf : Nat → Nat → Nat} (I : gc_I mem hf base ob free low scan tend nh α ad od Mv Mk Sn brf)
    {p i : Nat} (hp : p ∈ Mv ∨ p ∈ Mk) (hi : i < aC α p) : base ≤ ad p + i ∧ ad p + i < base + hf ∧ 1 ≤ ad p ∧ ad p + i ≤ 2 * hf ∧ ad p + i < 2 ^ 31 := by
  have F := gc_free_le I
  obtain ⟨⟨h1, h2, -⟩, -, c1, c2, -⟩ := I
  rcases hp with hp | hp
  · have := gc_chain_in c1 hp; omega
  · have := gc_chain_in c2 hp; omega
theorem gc_wr {mem : Nat → Int32} {hf base ob free low scan tend nh : Nat} {α : ab_A} {ad od : Nat → Nat} {Mv Mk Sn : List Nat} {brf : Nat → Nat → Nat} (I : gc_I mem hf base ob free low scan tend nh α ad od Mv Mk Sn brf)
    {o j r : Nat} {v : Int32} (ho : o ∈ Mv ∨ o ∈ Mk) (hj : j < aT α o) (hb : gc_bw ad Mv Mk r v) (hg : o ∈ Mv → brf o j = 0 ∨ brf o j ∈ Mv) :
    gc_I (upd mem (ad o + 1 + j) v) hf base ob free low scan tend nh (abF α o j r) ad od Mv Mk Sn brf := by
  have F := gc_free_le I
  have inj := fun {p i : Nat} (hp : p ∈ Mv ∨ p ∈ Mk) (hi : i < aC α p) (h : ad p + i = ad o + (1 + j)) => gc_inj I hp ho hi (show 1 + j < aC α o by have : aC α o = 1 + aT α o + aP α o := rfl; omega) h
  have hx := gc_half I ho (i := 1 + j) (by have : aC α o = 1 + aT α o + aP α o := rfl; omega)
  obtain ⟨⟨h1, h2, h3⟩, ⟨z1, z2, z3, z4, n1, n2, n3, s1, s2, s3⟩, c1, c2, sc, ⟨o1, o2, o3, o4, o5⟩, w1, w2, w3, w4, w5⟩ := I
  have hso : ∀ p, p ∈ Sn → p ∉ Mv → p ≠ o := by
    intro p h4 h5 z
    subst z
    rcases ho with ho | ho
    · exact h5 ho
    · exact s2 p ho h4
  have kO : ∀ x, ob ≤ x → x < ob + hf → upd mem (ad o + 1 + j) v x = mem x := fun x h4 h5 => pk_un (by omega)
  have eqF : ∀ p i, ¬ (p = o ∧ i = j) → aF (abF α o j r) p i = aF α p i := fun p i h => by
    show (if p = o ∧ i = j then r else aF α p i) = _
    rw [if_neg h]
  have eqS : aF (abF α o j r) o j = r := by
    show (if o = o ∧ j = j then r else aF α o j) = _
    rw [if_pos ⟨rfl, rfl⟩]
  have kN : ∀ p i, p ∈ Mv ∨ p ∈ Mk → i < aC α p → ¬ (p = o ∧ i = 1 + j) → upd mem (ad o + 1 + j) v (ad p + i) = mem (ad p + i) := fun p i hp hi hne => pk_un (fun z => hne (inj hp hi (by omega)))
  refine ⟨⟨h1, h2, h3⟩, ⟨z1, z2, z3, z4, n1, n2, n3, s1, s2, s3⟩, c1, c2, sc, ⟨o1, o2, ?_, ?_, o5⟩, ?_, ?_, ?_, ?_, ?_⟩
  · intro p hp
    have b := o1 p (s1 p hp)
    have : aC α p = 1 + aT α p + aP α p := rfl
    rw [kO _ (by omega) (by omega)]
    exact o3 p hp
  · intro p hp hn
    have b := o1 p hp
    have hC : aC α p = 1 + aT α p + aP α p := rfl
    obtain ⟨a1, a2, a3⟩ := o4 p hp hn
    refine ⟨by rw [kO _ (by omega) (by omega)]; exact a1, fun i hi => ?_, fun i hi => ?_⟩
    · have hi : i < aT α p := hi
      rw [kO _ (by omega) (by omega), eqF p i (fun z => hso p hp hn z.1)]
      exact a2 i hi
    · have hi : i < aP α p := hi
      show upd mem (ad o + 1 + j) v (od p + 1 + aT α p + i) = aI α p i
      rw [kO _ (by omega) (by omega)]
      exact a3 i hi
  · intro p hp
    have hC : aC α p = 1 + aT α p + aP α p := rfl
    obtain ⟨a1, a2⟩ := w1 p hp
    refine ⟨?_, fun i hi => ?_⟩
    · rw [show ad p = ad p + 0 from rfl, kN p 0 hp (by omega) (by omega)]
      exact a1
    · have hi : i < aP α p := hi
      show upd mem (ad o + 1 + j) v (ad p + 1 + aT α p + i) = aI α p i
      rw [show ad p + 1 + aT α p + i = ad p + (1 + aT α p + i) by omega, kN p _ hp (by omega) (fun z => by obtain ⟨rfl, z⟩ := z; omega), show ad p + (1 + aT α p + i) = ad p + 1 + aT α p + i by omega]
      exact a2 i hi
  · intro p i hp hi
    have hi : i < aT α p := hi
    have hC : aC α p = 1 + aT α p + aP α p := rfl
    by_cases hz : p = o ∧ i = j
    · obtain ⟨rfl, rfl⟩ := hz
      rw [eqS, pk_us]; exact hb
    · rw [eqF p i hz, show ad p + 1 + i = ad p + (1 + i) by omega, kN p _ (Or.inr hp) (by omega) (fun z => hz ⟨z.1, by omega⟩), show ad p + (1 + i) = ad p + 1 + i by omega]
      exact w2 p i hp hi
  · intro p i hp hi hs
    have hi : i < aT α p := hi
    have hC : aC α p = 1 + aT α p + aP α p := rfl
    by_cases hz : p = o ∧ i = j
    · obtain ⟨rfl, rfl⟩ := hz
      rw [eqS, pk_us]; exact hb
    · rw [eqF p i hz, show ad p + 1 + i = ad p + (1 + i) by omega, kN p _ (Or.inl hp) (by omega) (fun z => hz ⟨z.1, by omega⟩), show ad p + (1 + i) = ad p + 1 + i by omega]
      exact w3 p i hp hi hs
  · intro p i hp hi
    have hi : i < aT α p := hi
    have hC : aC α p = 1 + aT α p + aP α p := rfl
    by_cases hz : p = o ∧ i = j
    · obtain ⟨rfl, rfl⟩ := hz
      rw [eqS, pk_us]; exact Or.inl hb
    · rw [eqF p i hz, show ad p + 1 + i = ad p + (1 + i) by omega, kN p _ (Or.inl hp) (by omega) (fun z => hz ⟨z.1, by omega⟩), show ad p + (1 + i) = ad p + 1 + i by omega]
      exact w4 p i hp hi
  · intro p i hp hi hne
    have hi : i < aT α p := hi
    have hC : aC α p = 1 + aT α p + aP α p := rfl
    by_cases hz : p = o ∧ i = j
    · obtain ⟨rfl, rfl⟩ := hz
      rcases hg hp with h | h
      · exact absurd h hne
      · exact Or.inl h
    · rcases w5 p i hp hi hne with h | ⟨h, h'⟩
      · exact Or.inl h
      · refine Or.inr ⟨h, ?_⟩
        rw [show ad p + 1 + i = ad p + (1 + i) by omega, kN p _ (Or.inl hp) (by omega) (fun z => hz ⟨z.1, by omega⟩), show ad p + (1 + i) = ad p + 1 + i by omega]
        exact h'
theorem gc_adv {mem : Nat → Int32} {hf base ob free low scan tend nh scan' tend' nh' : Nat} {α : ab_A} {ad od : Nat → Nat} {Mv Mk Sn : List Nat} {brf : Nat → Nat → Nat} (I : gc_I mem hf base ob free low scan tend nh α ad od Mv Mk Sn brf)
    (sc : gc_sc ad α Mv base scan' tend' nh') (h : ∀ o j, o ∈ Mv → j < aT α o → scan ≤ ad o + 1 + j → ad o + 1 + j < scan' → gc_bw ad Mv Mk (aF α o j) (mem (ad o + 1 + j)) ∧ (brf o j = 0 ∨ brf o j ∈ Mv)) :
    gc_I mem hf base ob free low scan' tend' nh' α ad od Mv Mk Sn brf := by
  obtain ⟨h0, st, c1, c2, -, od', w1, w2, w3, w4, w5⟩ := I
  refine ⟨h0, st, c1, c2, sc, od', w1, w2, ?_, w4, ?_⟩
  · intro o j ho hj hs
    by_cases hz : ad o + 1 + j < scan
    · exact w3 o j ho hj hz
    · exact (h o j ho hj (by omega) hs).1
  · intro o j ho hj hne
    rcases w5 o j ho hj hne with h5 | ⟨h5, h6⟩
    · exact Or.inl h5
    · by_cases hz : ad o + 1 + j < scan'
      · rcases (h o j ho hj h5 hz).2 with h7 | h7
        · exact absurd h7 hne
        · exact Or.inl h7
      · exact Or.inr ⟨by omega, h6⟩
theorem gc_follow {κ : sh_K} {σ : sh_S} {hf base ob free low scan tend nh : Nat} {α : ab_A} {ad od : Nat → Nat} {Mv Mk Sn : List Nat} {brf : Nat → Nat → Nat}
    (k1 : kHalf κ = nI hf) (k2 : kLast κ = nI (2 * hf)) (I : gc_I (sMem σ) hf base ob free low scan tend nh α ad od Mv Mk Sn brf) (hB : sBase σ = nI base) (hF : sFree σ = nI free) {o j : Nat} (ho : o ∈ Mv ∨ o ∈ Mk) (hj : j < aT α o) :
    ∃ (ad' : Nat → Nat) (Mv' : List Nat) (free' : Nat), gc_I (sMem (sh_follow κ σ (nI (ad o + 1 + j))).2) hf base ob free' low scan tend nh α ad' od Mv' Mk Sn brf ∧ gc_bw ad' Mv' Mk (aF α o j) (sh_follow κ σ (nI (ad o + 1 + j))).1 ∧ (sh_follow κ σ (nI (ad o + 1 + j))).2.2 = (uFree σ (nI free')).2 ∧ gc_ext ad ad' Mv Mv' Mk ∧ (o ∈ Mv → brf o j = 0 ∨ brf o j ∈ Mv') := by
  have hx := gc_half I ho (i := 1 + j) (by have : aC α o = 1 + aT α o + aP α o := rfl; omega)
  have hv : sh_val κ σ.1 (nI (ad o + 1 + j)) = sMem σ (ad o + 1 + j) := gc_valI k2 (by have := I.1.1; omega) (by omega) (by omega)
  have hw : gc_gw ad od Mv Mk Sn (aF α o j) (sMem σ (ad o + 1 + j)) := by
    obtain ⟨-, -, -, -, -, -, -, w2, -, w4, -⟩ := I
    rcases ho with ho | ho
    · exact w4 o j ho hj
    · exact Or.inl (w2 o j ho hj)
  obtain ⟨ad', Mv', free', I', b', e', x'⟩ := gc_piu (σ := uC σ (sh_touch κ σ.1)) k1 k2 I hB hF hw
  have eq : sh_follow κ σ (nI (ad o + 1 + j)) = sh_piu κ (uC σ (sh_touch κ σ.1)) (sMem σ (ad o + 1 + j)) := by unfold sh_follow; rw [hv]
  rw [eq]
  refine ⟨ad', Mv', free', I', b', e', x', fun hm => ?_⟩
  obtain ⟨⟨h1, h2, h3⟩, ⟨z1, z2, z3, z4, n1, n2, n3, s1, s2, s3⟩, c1, c2, sc, ⟨o1, o2, o3, o4, o5⟩, w1, w2, w3, w4, w5⟩ := id I
  by_cases h0 : brf o j = 0
  · exact Or.inl h0
  refine Or.inr ?_
  rcases w5 o j hm hj h0 with h5 | ⟨-, h5⟩
  · exact x'.2 _ h5
  have ht : brf o j ∈ Sn := (o5 o j (s1 o hm) hj).resolve_left h0
  have bt := o1 _ ht
  have hCt : aC α (brf o j) = 1 + aT α (brf o j) + aP α (brf o j) := rfl
  rw [h5] at hw
  rcases hw with ⟨e1, hr⟩ | ⟨e1, hr⟩
  · exfalso
    rcases hr with hr | hr
    · rw [hr, z1] at e1
      have := (nI_eq (by omega) (by omega)).mp e1
      omega
    · have hy := gc_half I hr (i := 0) (by have : aC α (aF α o j) = 1 + aT α (aF α o j) + aP α (aF α o j) := rfl; omega)
      have := (nI_eq (by omega) (by omega)).mp e1
      omega
  · have br := o1 _ hr
    have hCr : aC α (aF α o j) = 1 + aT α (aF α o j) + aP α (aF α o j) := rfl
    have e2 := (nI_eq (by omega) (by omega)).mp e1
    have e3 : brf o j = aF α o j := by
      by_cases hz : brf o j = aF α o j
      · exact hz
      · have := o2 _ _ ht hr hz
        omega
    rw [e3]
    rcases b'.2 with h6 | h6 | h6
    · exact absurd (e3.trans h6) h0
    · exact h6
    · exact absurd hr (s2 _ h6)
theorem gc_link {κ : sh_K} {σ : sh_S} {hf base ob free low scan tend nh : Nat} {α : ab_A} {ad od : Nat → Nat} {Mv Mk Sn : List Nat} {brf : Nat → Nat → Nat}
    (k1 : kHalf κ = nI hf) (k2 : kLast κ = nI (2 * hf)) (I : gc_I (sMem σ) hf base ob free low scan tend nh α ad od Mv Mk Sn brf) (hB : sBase σ = nI base) (hF : sFree σ = nI free) {o j r : Nat} {v : Int32} (ho : o ∈ Mv ∨ o ∈ Mk) (hj : j < aT α o) (hb : gc_bw ad Mv Mk r v) :
    ∃ (ad' : Nat → Nat) (Mv' : List Nat) (free' : Nat), gc_I (sMem (sh_link κ σ (nI (ad o + 1 + j)) v)) hf base ob free' low scan tend nh (abF α o j r) ad' od Mv' Mk Sn brf ∧ (sh_link κ σ (nI (ad o + 1 + j)) v).2 = (uFree σ (nI free')).2 ∧ gc_ext ad ad' Mv Mv' Mk := by
  obtain ⟨ad', Mv', free', I', -, e', x', g'⟩ := gc_follow k1 k2 I hB hF ho hj
  have hx := gc_half I ho (i := 1 + j) (by have : aC α o = 1 + aT α o + aP α o := rfl; omega)
  have ho' : o ∈ Mv' ∨ o ∈ Mk := by
    rcases ho with h | h
    · exact Or.inl (x'.2 o h)
    · exact Or.inr h
  have ea : ad' o = ad o := x'.1 o (Or.inr ho)
  have I2 := gc_wr I' ho' hj (x'.bw hb) (fun hm => by
    by_cases h : o ∈ Mv
    · exact g' h
    · rcases ho with h9 | h9
      · exact absurd h9 h
      · exfalso
        obtain ⟨-, ⟨-, -, -, -, -, -, -, s1, s2, -⟩, -⟩ := I'
        exact s2 o h9 (s1 o hm))
  rw [ea] at I2
  refine ⟨ad', Mv', free', ?_, e', x'⟩
  have em : sMem (sh_link κ σ (nI (ad o + 1 + j)) v) = upd (sMem (sh_follow κ σ (nI (ad o + 1 + j))).2) (ad o + 1 + j) v := gc_writeI k2 (by have := I.1.1; omega) (by omega) (by omega)
  rw [em]
  exact I2
end
section
/-! ===== GOING ON THROUGH THE MOVED CELLS ===== -/
def gc_N (σ : sh_S) (base free low scan tend nh made beg : Nat) : Prop := sMade σ = nI made ∧ sBeg σ = nI beg ∧ sBase σ = nI base ∧ sFree σ = nI free ∧ sLow σ = nI low ∧ sScan σ = nI scan ∧ sTend σ = nI tend ∧ sNh σ = nI nh
theorem gc_N.free {σ σ' : sh_S} {base free low scan tend nh made beg free' : Nat} (h : gc_N σ base free low scan tend nh made beg) (e : σ'.2 = (uFree σ (nI free')).2) : gc_N σ' base free' low scan tend nh made beg ∧ sReg σ' = sReg σ := by
  obtain ⟨a1, a2, a3, a4, a5, a6, a7, a8⟩ := h
  obtain ⟨c, m⟩ := σ'
  have e : m = (uFree σ (nI free')).2 := e
  subst e
  exact ⟨⟨a1, a2, a3, rfl, a5, a6, a7, a8⟩, rfl⟩
theorem abF_id (α : ab_A) (o j : Nat) : abF α o j (aF α o j) = α := by
  obtain ⟨a, b, c⟩ := α
  show (a, (fun p i => if p = o ∧ i = j then b o j else b p i), c) = (a, b, c)
  congr 2
  funext p i
  by_cases h : p = o ∧ i = j
  · obtain ⟨rfl, rfl⟩ := h
    rw [if_pos ⟨rfl, rfl⟩]
  · rw [if_neg h]
theorem gc_ws1 {κ : sh_K} {σ : sh_S} {hf base ob free low scan tend nh made beg : Nat} {α : ab_A} {ad od : Nat → Nat} {Mv Mk Sn : List Nat} {brf : Nat → Nat → Nat}
    (k1 : kHalf κ = nI hf) (k2 : kLast κ = nI (2 * hf)) (N : gc_N σ base free low scan tend nh made beg) (I : gc_I (sMem σ) hf base ob free low scan tend nh α ad od Mv Mk Sn brf) (hs : scan < free) :
    ∃ (ad' : Nat → Nat) (Mv' : List Nat) (free' tend' nh' : Nat), gc_N (sh_ws1 κ σ (sMem σ scan)) base free' low scan tend' nh' made beg ∧ sReg (sh_ws1 κ σ (sMem σ scan)) = sReg σ ∧ gc_ext ad ad' Mv Mv' Mk ∧ free ≤ free' ∧ scan < tend' ∧ tend' < 2 ^ 31 ∧ tend' ≤ nh' ∧
      gc_I (sMem (sh_ws1 κ σ (sMem σ scan))) hf base ob free' low (if scan + 1 = tend' then nh' else scan + 1) tend' nh' α ad' od Mv' Mk Sn brf := by
  have F := gc_free_le I
  obtain ⟨⟨h1, h2, h3⟩, ⟨z1, z2, z3, z4, n1, n2, n3, s1, s2, s3⟩, c1, c2, ⟨L1, L2, e1, e2, e3⟩, ⟨o1, o2, o3, o4, o5⟩, w1, w2, w3, w4, w5⟩ := id I
  obtain ⟨a1, a2, a3, a4, a5, a6, a7, a8⟩ := id N
  by_cases hz : scan = nh
  · -- a head
    have hne : L2 ≠ [] := by
      intro z
      subst z
      rw [List.append_nil] at e1
      subst e1
      have q1 := gc_chain_sum c1
      have q2 := gc_chain_sum e2
      omega
    obtain ⟨cur, L3, rfl⟩ := List.exists_cons_of_ne_nil hne
    have hcur : cur ∈ Mv := by rw [e1]; simp
    have c1' := c1
    rw [e1] at c1'
    obtain ⟨mm, q1, q2, q3⟩ := (gc_chain_app L1).mp c1'
    have hmm : mm = nh := by
      have p1 := gc_chain_sum q1
      have p2 := gc_chain_sum e2
      omega
    subst hmm
    have hC : aC α cur = 1 + aT α cur + aP α cur := rfl
    have hok : aC α cur ≤ 16 := (s3 cur (Or.inl (s1 cur hcur))).2
    have hw : sMem σ scan = aH α cur := by rw [hz, ← q2]; exact (w1 cur (Or.inl hcur)).1
    have eq : sh_ws1 κ σ (sMem σ scan) = uNh (uTend σ (nI (scan + 1 + aT α cur))) (nI (scan + aC α cur)) := by
      unfold sh_ws1
      rw [if_pos (by rw [a6, a8, hz]), hw, hC_eq, (hT_lt (aH α cur)).2, a6, show (1 : Int32) = nI 1 from rfl, nI_add, nI_add, nI_add]
    rw [eq]
    refine ⟨ad, Mv, free, scan + 1 + aT α cur, scan + aC α cur, ⟨a1, a2, a3, a4, a5, a6, rfl, rfl⟩, rfl, gc_ext.rf, Nat.le_refl _, by omega, by omega, by omega, ?_⟩
    have hch : gc_chain ad (aC α) base (L1 ++ [cur]) (scan + aC α cur) := (gc_chain_app L1).mpr ⟨mm, e2, q2, by show mm + aC α cur = scan + aC α cur; rw [hz]⟩
    refine gc_adv I ⟨L1 ++ [cur], L3, by rw [e1]; simp, hch, ?_⟩ ?_
    · by_cases hT : scan + 1 = scan + 1 + aT α cur
      · rw [if_pos hT]; exact Or.inl rfl
      · rw [if_neg hT]
        exact Or.inr ⟨L1, cur, rfl, by omega, by omega, by omega⟩
    · intro o j ho hj g1 g2
      exfalso
      have hCo : aC α o = 1 + aT α o + aP α o := rfl
      have hin : ad o + 1 + j < scan + aC α cur := by
        by_cases hT : scan + 1 = scan + 1 + aT α cur
        · rw [if_pos hT] at g2; omega
        · rw [if_neg hT] at g2; omega
      have hz2 := gc_inj I (p := o) (q := cur) (i := 1 + j) (i' := ad o + 1 + j - scan) (Or.inl ho) (Or.inl hcur) (by omega) (by omega) (by omega)
      obtain ⟨rfl, hz3⟩ := hz2
      by_cases hT : scan + 1 = scan + 1 + aT α o
      · omega
      · rw [if_neg hT] at g2; omega
  · -- a reference
    rcases e3 with e3 | ⟨L0, cur, e3, e4, e5, e6⟩
    · exact absurd e3 hz
    subst e3
    have hcur : cur ∈ Mv := by rw [e1]; simp
    have hC : aC α cur = 1 + aT α cur + aP α cur := rfl
    obtain ⟨j, hj⟩ : ∃ j, scan = ad cur + 1 + j := ⟨scan - (ad cur + 1), by omega⟩
    have hjT : j < aT α cur := by omega
    have hin := gc_chain_in e2 (o := cur) (by simp)
    have hend : ad cur + aC α cur = nh := by
      obtain ⟨mm, q1, q2, q3⟩ := (gc_chain_app L0).mp e2
      have q3 : mm + aC α cur = nh := q3
      omega
    have hw : gc_gw ad od Mv Mk Sn (aF α cur j) (sMem σ scan) := by rw [hj]; exact w4 cur j hcur hjT
    obtain ⟨ad', Mv', free', I', b', e', x'⟩ := gc_piu k1 k2 I a3 a4 hw
    obtain ⟨N', r'⟩ := N.free e'
    have ea : ad' cur = ad cur := x'.1 cur (Or.inr (Or.inl hcur))
    have hcur' := x'.2 cur hcur
    have hgr : brf cur j = 0 ∨ brf cur j ∈ Mv' := by
      by_cases h0 : brf cur j = 0
      · exact Or.inl h0
      refine Or.inr ?_
      rcases w5 cur j hcur hjT h0 with h5 | ⟨-, h5⟩
      · exact x'.2 _ h5
      have ht : brf cur j ∈ Sn := (o5 cur j (s1 cur hcur) hjT).resolve_left h0
      have bt := o1 _ ht
      have hCt : aC α (brf cur j) = 1 + aT α (brf cur j) + aP α (brf cur j) := rfl
      rw [hj, h5] at hw
      rcases hw with ⟨g1, hr⟩ | ⟨g1, hr⟩
      · exfalso
        rcases hr with hr | hr
        · rw [hr, z1] at g1
          have := (nI_eq (by omega) (by omega)).mp g1
          omega
        · have hy := gc_half I hr (i := 0) (by have : aC α (aF α cur j) = 1 + aT α (aF α cur j) + aP α (aF α cur j) := rfl; omega)
          have := (nI_eq (by omega) (by omega)).mp g1
          omega
      · have br := o1 _ hr
        have hCr : aC α (aF α cur j) = 1 + aT α (aF α cur j) + aP α (aF α cur j) := rfl
        have g2 := (nI_eq (by omega) (by omega)).mp g1
        have g3 : brf cur j = aF α cur j := by
          by_cases hq : brf cur j = aF α cur j
          · exact hq
          · have := o2 _ _ ht hr hq
            omega
        rw [g3]
        rcases b'.2 with h6 | h6 | h6
        · exact absurd (g3.trans h6) h0
        · exact h6
        · exact absurd hr (s2 _ h6)
    have I2 := gc_wr I' (Or.inl hcur') hjT b' (fun _ => hgr)
    rw [abF_id, ea, ← hj] at I2
    obtain ⟨d1, d2, d3, d4, d5, d6, d7, d8⟩ := id N'
    have F' := gc_free_le I'
    have fin : ∀ σ2 : sh_S, σ2.2 = (sh_piu κ σ (sMem σ scan)).2.2 → sMem σ2 = upd (sMem (sh_piu κ σ (sMem σ scan)).2) scan (sh_piu κ σ (sMem σ scan)).1 → sh_ws1 κ σ (sMem σ scan) = σ2 → ∃ (ad' : Nat → Nat) (Mv' : List Nat) (free' tend' nh' : Nat), gc_N (sh_ws1 κ σ (sMem σ scan)) base free' low scan tend' nh' made beg ∧ sReg (sh_ws1 κ σ (sMem σ scan)) = sReg σ ∧ gc_ext ad ad' Mv Mv' Mk ∧ free ≤ free' ∧ scan < tend' ∧ tend' < 2 ^ 31 ∧ tend' ≤ nh' ∧
      gc_I (sMem (sh_ws1 κ σ (sMem σ scan))) hf base ob free' low (if scan + 1 = tend' then nh' else scan + 1) tend' nh' α ad' od Mv' Mk Sn brf := by
      intro σ2 g1 g2 g3
      rw [g3]
      have N2 := N.free (σ' := σ2) (g1.trans e')
      have hle : free ≤ free' := by
        have p1 := gc_sum_le (cz := aC α) _ _ n1 x'.2
        omega
      refine ⟨ad', Mv', free', tend, nh, N2.1, N2.2, x', hle, by omega, by omega, by omega, ?_⟩
      rw [g2]
      obtain ⟨L1', L2', p1, p2, p3⟩ := id I2.2.2.2.2.1
      refine gc_adv I2 ?_ ?_
      · rcases p3 with p3 | ⟨L0', cur', p4, p5, p6, p7⟩
        · exact absurd p3 hz
        · have hcc : cur' ∈ Mv' := by rw [p1, p4]; simp
          have hCc : aC α cur' = 1 + aT α cur' + aP α cur' := rfl
          refine ⟨L1', L2', p1, p2, ?_⟩
          by_cases hT : scan + 1 = tend
          · rw [if_pos hT]; exact Or.inl rfl
          · rw [if_neg hT]; exact Or.inr ⟨L0', cur', p4, by omega, by omega, p7⟩
      · intro o i ho hi g4 g5
        have hCo : aC α o = 1 + aT α o + aP α o := rfl
        have hin2 : ad' o + 1 + i < ad' cur + aC α cur := by
          by_cases hT : scan + 1 = tend
          · rw [if_pos hT] at g5; omega
          · rw [if_neg hT] at g5; omega
        obtain ⟨rfl, hz3⟩ := gc_inj I2 (p := o) (q := cur) (i := 1 + i) (i' := ad' o + 1 + i - ad' cur) (Or.inl ho) (Or.inl hcur') (by omega) (by omega) (by omega)
        have hij : i = j := by
          by_cases hT : scan + 1 = tend
          · omega
          · rw [if_neg hT] at g5; omega
        subst hij
        rw [ea, ← hj, pk_us]
        exact ⟨b', hgr⟩
    by_cases hq : (sh_piu κ σ (sMem σ scan)).1 = sMem σ scan
    · refine fin (sh_piu κ σ (sMem σ scan)).2 rfl ?_ ?_
      · have hx := gc_half I (Or.inl hcur) (i := 1 + j) (by omega)
        have hmem : sMem (sh_piu κ σ (sMem σ scan)).2 scan = sMem σ scan := by
          have h7 := b'
          rw [hq] at h7
          -- the word led to the half in use already: nothing has moved
          have ho : sh_old κ σ (sMem σ scan) = 0 := by
            rw [h7.1]
            refine gc_oldNo k1 a3 (by omega) ?_
            rcases h7.2 with h | h
            · rw [h]; exact Or.inl I'.2.1.1
            · have hy := gc_half I' h (i := 0) (by have : aC α (aF α cur j) = 1 + aT α (aF α cur j) + aP α (aF α cur j) := rfl; omega)
              right; omega
          unfold sh_piu
          rw [if_pos ho]
        funext y
        by_cases hy : y = scan
        · subst hy; rw [pk_us, hmem, hq]
        · rw [pk_un hy]
      · unfold sh_ws1
        rw [if_neg (by rw [a6, a8]; intro z; exact hz ((nI_eq (by omega) (by omega)).mp z)), if_pos hq]
    · refine fin (uC (sh_piu κ σ (sMem σ scan)).2 (sh_write κ (sh_piu κ σ (sMem σ scan)).2.1 (sScan (sh_piu κ σ (sMem σ scan)).2) (sh_piu κ σ (sMem σ scan)).1)) rfl ?_ ?_
      · show (sh_write κ (sh_piu κ σ (sMem σ scan)).2.1 (sScan (sh_piu κ σ (sMem σ scan)).2) (sh_piu κ σ (sMem σ scan)).1).2.2.1 = _
        rw [d6, gc_writeI k2 (by omega) (by omega) (by omega)]
      · unfold sh_ws1
        rw [if_neg (by rw [a6, a8]; intro z; exact hz ((nI_eq (by omega) (by omega)).mp z)), if_neg hq]
theorem gc_work1 {κ : sh_K} {σ : sh_S} {hf base ob free low scan tend nh made beg : Nat} {α : ab_A} {ad od : Nat → Nat} {Mv Mk Sn : List Nat} {brf : Nat → Nat → Nat}
    (k1 : kHalf κ = nI hf) (k2 : kLast κ = nI (2 * hf)) (N : gc_N σ base free low scan tend nh made beg) (I : gc_I (sMem σ) hf base ob free low scan tend nh α ad od Mv Mk Sn brf) (hs : scan < free) :
    ∃ (ad' : Nat → Nat) (Mv' : List Nat) (free' scan' tend' nh' : Nat), gc_N (sh_workStep κ σ) base free' low scan' tend' nh' made beg ∧ sReg (sh_workStep κ σ) = sReg σ ∧ gc_ext ad ad' Mv Mv' Mk ∧ scan < scan' ∧
      gc_I (sMem (sh_workStep κ σ)) hf base ob free' low scan' tend' nh' α ad' od Mv' Mk Sn brf := by
  have F := gc_free_le I
  obtain ⟨h1, h2, -⟩ := I.1
  have hv : sh_val κ σ.1 (sScan σ) = sMem σ scan := by rw [N.2.2.2.2.2.1]; exact gc_valI k2 (by omega) (by omega) (by omega)
  obtain ⟨ad', Mv', free', tend', nh', N', r', x', l1, l2, l3, l4, I'⟩ := gc_ws1 (σ := uC σ (sh_touch κ σ.1)) k1 k2 N I hs
  have N' : gc_N (sh_ws1 κ (uC σ (sh_touch κ σ.1)) (sMem σ scan)) base free' low scan tend' nh' made beg := N'
  have r' : sReg (sh_ws1 κ (uC σ (sh_touch κ σ.1)) (sMem σ scan)) = sReg σ := r'
  refine ⟨ad', Mv', free', (if scan + 1 = tend' then nh' else scan + 1), tend', nh', ?_, ?_, x', by split <;> omega, ?_⟩
  · unfold sh_workStep
    rw [hv]
    obtain ⟨a1, a2, a3, a4, a5, a6, a7, a8⟩ := id N'
    unfold sh_ws2
    by_cases hT : scan + 1 = tend'
    · rw [if_pos (by rw [a6, a7, nI_1, hT]), if_pos hT]
      exact ⟨a1, a2, a3, a4, a5, a8, a7, a8⟩
    · rw [if_neg (by rw [a6, a7, nI_1]; intro z; exact hT ((nI_eq (by omega) (by omega)).mp z)), if_neg hT]
      exact ⟨a1, a2, a3, a4, a5, by rw [← nI_1]; exact congrArg (· + 1) a6, a7, a8⟩
  · unfold sh_workStep
    rw [hv, ← r']
    unfold sh_ws2
    split <;> rfl
  · unfold sh_workStep
    rw [hv]
    have : sMem (sh_ws2 (sh_ws1 κ (uC σ (sh_touch κ σ.1)) (sMem σ scan))) = sMem (sh_ws1 κ (uC σ (sh_touch κ σ.1)) (sMem σ scan)) := by
      unfold sh_ws2
      split <;> rfl
    rw [this]
    exact I'
theorem gc_workN {κ : sh_K} {hf base ob low made beg goal : Nat} {α : ab_A} {od : Nat → Nat} {Mk Sn : List Nat} {brf : Nat → Nat → Nat} (k1 : kHalf κ = nI hf) (k2 : kLast κ = nI (2 * hf)) (hg : goal < 2 ^ 31) :
    ∀ (n : Nat) (σ : sh_S) (free scan tend nh : Nat) (ad : Nat → Nat) (Mv : List Nat), gc_N σ base free low scan tend nh made beg → gc_I (sMem σ) hf base ob free low scan tend nh α ad od Mv Mk Sn brf →
    ∃ (ad' : Nat → Nat) (Mv' : List Nat) (free' scan' tend' nh' : Nat), gc_N (sh_workN κ (nI goal) σ n) base free' low scan' tend' nh' made beg ∧ sReg (sh_workN κ (nI goal) σ n) = sReg σ ∧ gc_ext ad ad' Mv Mv' Mk ∧
      gc_I (sMem (sh_workN κ (nI goal) σ n)) hf base ob free' low scan' tend' nh' α ad' od Mv' Mk Sn brf ∧ (scan' = free' ∨ goal ≤ scan' ∨ (scan < free ∧ scan + n ≤ scan'))
  | 0, σ, free, scan, tend, nh, ad, Mv, N, I => ⟨ad, Mv, free, scan, tend, nh, N, rfl, gc_ext.rf, I, by have F := gc_free_le I; omega⟩
  | n + 1, σ, free, scan, tend, nh, ad, Mv, N, I => by
    have F := gc_free_le I
    obtain ⟨h1, h2, -⟩ := I.1
    obtain ⟨a1, a2, a3, a4, a5, a6, a7, a8⟩ := id N
    by_cases hs : scan < free
    · by_cases hq : scan < goal
      · have eq : sh_workN κ (nI goal) σ (n + 1) = sh_workN κ (nI goal) (sh_workStep κ σ) n := by
          show (if sScan σ < sFree σ then (if sScan σ < nI goal then _ else _) else _) = _
          rw [a6, a4, if_pos (nI_lt hs (by omega)), if_pos (nI_lt hq (by omega))]
        rw [eq]
        obtain ⟨ad', Mv', free', scan', tend', nh', N', r', x', l1, I'⟩ := gc_work1 k1 k2 N I hs
        obtain ⟨ad2, Mv2, free2, scan2, tend2, nh2, N2, r2, x2, I2, l2⟩ := gc_workN k1 k2 hg n _ _ _ _ _ _ _ N' I'
        exact ⟨ad2, Mv2, free2, scan2, tend2, nh2, N2, r2.trans r', x'.tr x2, I2, by omega⟩
      · have eq : sh_workN κ (nI goal) σ (n + 1) = σ := by
          show (if sScan σ < sFree σ then (if sScan σ < nI goal then _ else _) else _) = _
          rw [a6, a4, if_pos (nI_lt hs (by omega)), if_neg (nI_nlt (by omega) (by omega))]
        rw [eq]
        exact ⟨ad, Mv, free, scan, tend, nh, N, rfl, gc_ext.rf, I, Or.inr (Or.inl (by omega))⟩
    · have eq : sh_workN κ (nI goal) σ (n + 1) = σ := by
        show (if sScan σ < sFree σ then (if sScan σ < nI goal then _ else _) else _) = _
        rw [a6, a4, if_neg (nI_nlt (by omega) (by omega))]
      rw [eq]
      exact ⟨ad, Mv, free, scan, tend, nh, N, rfl, gc_ext.rf, I, Or.inl (by omega)⟩
end
section
/-! ===== A NEW CYCLE ===== -/
def gc_rs (Sn : List Nat) (ad : Nat → Nat) (o : Nat) : Nat := if o ∈ Sn then ad o else 0
theorem gc_rs_in {Sn : List Nat} {ad : Nat → Nat} {o : Nat} (h : o ∈ Sn) : gc_rs Sn ad o = ad o := if_pos h
theorem gc_rs_out {Sn : List Nat} {ad : Nat → Nat} {o : Nat} (h : o ∉ Sn) : gc_rs Sn ad o = 0 := if_neg h
theorem gc_beg0 {mem : Nat → Int32} {hf base ob free low scan tend nh : Nat} {α : ab_A} {ad od : Nat → Nat} {Mv Mk Sn Sn' : List Nat} {brf : Nat → Nat → Nat} (I : gc_I mem hf base ob free low scan tend nh α ad od Mv Mk Sn brf) (hs : scan = free)
    (d1 : Sn'.Nodup) (d2 : ∀ o, o ∈ Sn' → o ∈ Mv ∨ o ∈ Mk) (d3 : ∀ o j, o ∈ Sn' → j < aT α o → aF α o j = 0 ∨ aF α o j ∈ Sn') (d4 : gc_sum (aC α) Sn' ≤ hf) :
    gc_I mem hf ob base ob (ob + hf) ob ob ob α (fun _ => 0) (gc_rs Sn' ad) [] [] Sn' (aF α) := by
  have F := gc_free_le I
  have bl := fun {p : Nat} (hp : p ∈ Mv ∨ p ∈ Mk) => gc_half I hp (i := 0) (by have : aC α p = 1 + aT α p + aP α p := rfl; omega)
  obtain ⟨⟨h1, h2, h3⟩, ⟨z1, z2, z3, z4, n1, n2, n3, s1, s2, s3⟩, c1, c2, -, -, w1, w2, w3, -, -⟩ := I
  have z0 : 0 ∉ Sn' := by
    intro z
    rcases d2 0 z with h | h
    · exact z3 (s1 0 h)
    · exact z4 h
  have inn : ∀ o, o ∈ Sn' → gc_rs Sn' ad o = ad o := fun o h => gc_rs_in h
  refine ⟨⟨h1, by omega, by show gc_sum (aC α) Sn' + 0 ≤ hf; omega⟩, ⟨rfl, gc_rs_out z0, z0, List.not_mem_nil, List.nodup_nil, List.nodup_nil, d1, fun o h => absurd h List.not_mem_nil, fun o h => absurd h List.not_mem_nil, ?_⟩, rfl, rfl, ⟨[], [], rfl, rfl, Or.inl rfl⟩, ⟨?_, ?_, fun o h => absurd h List.not_mem_nil, ?_, d3⟩, ?_, fun o j h => absurd h List.not_mem_nil, fun o j h => absurd h List.not_mem_nil, fun o j h => absurd h List.not_mem_nil, fun o j h => absurd h List.not_mem_nil⟩
  · intro o h
    rcases h with h | h
    · rcases d2 o h with h | h
      · exact s3 o (Or.inl (s1 o h))
      · exact s3 o (Or.inr h)
    · exact absurd h List.not_mem_nil
  · intro o h
    rw [inn o h]
    rcases d2 o h with h | h
    · have := gc_chain_in c1 h; omega
    · have := gc_chain_in c2 h; omega
  · intro o q ho hq hne
    rw [inn o ho, inn q hq]
    rcases d2 o ho with h | h <;> rcases d2 q hq with h' | h'
    · exact gc_chain_dis c1 h h' hne
    · have p1 := gc_chain_in c1 h; have p2 := gc_chain_in c2 h'; left; omega
    · have p1 := gc_chain_in c2 h; have p2 := gc_chain_in c1 h'; right; omega
    · exact gc_chain_dis c2 h h' hne
  · intro o ho _
    rw [inn o ho]
    obtain ⟨a1, a2⟩ := w1 o (d2 o ho)
    refine ⟨a1, fun j hj => ⟨?_, rfl⟩, a2⟩
    have hb : gc_bw ad Mv Mk (aF α o j) (mem (ad o + 1 + j)) := by
      rcases d2 o ho with h | h
      · refine w3 o j h hj ?_
        have p1 := gc_chain_in c1 h
        have : aC α o = 1 + aT α o + aP α o := rfl
        omega
      · exact w2 o j h hj
    rw [hb.1]
    congr 1
    rcases d3 o j ho hj with h | h
    · rw [h, gc_rs_out z0, z1]
    · rw [gc_rs_in h]
  · intro o h
    rcases h with h | h <;> exact absurd h List.not_mem_nil
theorem gc_regsN {κ : sh_K} {hf base ob low scan tend nh made beg : Nat} {α : ab_A} {od : Nat → Nat} {Mk Sn : List Nat} {brf : Nat → Nat → Nat} (k1 : kHalf κ = nI hf) (k2 : kLast κ = nI (2 * hf)) :
    ∀ (n i : Nat) (σ : sh_S) (free : Nat) (ad : Nat → Nat) (Mv : List Nat), i + n = 8 → gc_N σ base free low scan tend nh made beg → gc_I (sMem σ) hf base ob free low scan tend nh α ad od Mv Mk Sn brf →
    (∀ t, t < i → gc_bw ad Mv Mk (aR α t) (sReg σ t)) → (∀ t, i ≤ t → t < 8 → gc_gw ad od Mv Mk Sn (aR α t) (sReg σ t)) →
    ∃ (ad' : Nat → Nat) (Mv' : List Nat) (free' : Nat), gc_N (sh_regsN κ σ i n) base free' low scan tend nh made beg ∧ gc_I (sMem (sh_regsN κ σ i n)) hf base ob free' low scan tend nh α ad' od Mv' Mk Sn brf ∧
      (∀ t, t < 8 → gc_bw ad' Mv' Mk (aR α t) (sReg (sh_regsN κ σ i n) t))
  | 0, i, σ, free, ad, Mv, hi, N, I, r1, _ => ⟨ad, Mv, free, N, I, fun t ht => r1 t (by omega)⟩
  | n + 1, i, σ, free, ad, Mv, hi, N, I, r1, r2 => by
    obtain ⟨a1, a2, a3, a4, a5, a6, a7, a8⟩ := id N
    obtain ⟨ad', Mv', free', I', b', e', x'⟩ := gc_piu k1 k2 I a3 a4 (r2 i (Nat.le_refl _) (by omega))
    obtain ⟨N', er⟩ := N.free e'
    have N2 : gc_N (uReg (sh_piu κ σ (sReg σ i)).2 (upd (sReg (sh_piu κ σ (sReg σ i)).2) i (sh_piu κ σ (sReg σ i)).1)) base free' low scan tend nh made beg := N'
    refine gc_regsN k1 k2 n (i + 1) (uReg (sh_piu κ σ (sReg σ i)).2 (upd (sReg (sh_piu κ σ (sReg σ i)).2) i (sh_piu κ σ (sReg σ i)).1)) free' ad' Mv' (by omega) N2 I' ?_ ?_
    · intro t ht
      show gc_bw ad' Mv' Mk (aR α t) (upd (sReg (sh_piu κ σ (sReg σ i)).2) i (sh_piu κ σ (sReg σ i)).1 t)
      by_cases hz : t = i
      · subst hz; rw [pk_us]; exact b'
      · rw [pk_un hz, er]
        exact x'.bw (r1 t (by omega))
    · intro t h1 h2
      show gc_gw ad' od Mv' Mk Sn (aR α t) (upd (sReg (sh_piu κ σ (sReg σ i)).2) i (sh_piu κ σ (sReg σ i)).1 t)
      rw [pk_un (by omega), er]
      exact x'.gw (r2 t (by omega) h2)
theorem gc_begin {κ : sh_K} {σ : sh_S} {hf base ob free low scan tend nh made beg : Nat} {α : ab_A} {ad od : Nat → Nat} {Mv Mk Sn Sn' : List Nat} {brf : Nat → Nat → Nat} (k1 : kHalf κ = nI hf) (k2 : kLast κ = nI (2 * hf))
    (N : gc_N σ base free low scan tend nh made beg) (I : gc_I (sMem σ) hf base ob free low scan tend nh α ad od Mv Mk Sn brf) (hs : scan = free) (hr : ∀ t, t < 8 → gc_bw ad Mv Mk (aR α t) (sReg σ t))
    (d1 : Sn'.Nodup) (d2 : ∀ o, o ∈ Sn' → o ∈ Mv ∨ o ∈ Mk) (d3 : ∀ o j, o ∈ Sn' → j < aT α o → aF α o j = 0 ∨ aF α o j ∈ Sn') (d4 : gc_sum (aC α) Sn' ≤ hf) (d5 : ∀ t, t < 8 → aR α t = 0 ∨ aR α t ∈ Sn') :
    ∃ (ad' od' : Nat → Nat) (Mv' : List Nat) (free' : Nat), gc_N (sh_begin κ σ) ob free' (ob + hf) ob ob ob 0 (beg + 1) ∧ gc_I (sMem (sh_begin κ σ)) hf ob base free' (ob + hf) ob ob ob α ad' od' Mv' [] Sn' (aF α) ∧
      (∀ t, t < 8 → gc_bw ad' Mv' [] (aR α t) (sReg (sh_begin κ σ) t)) ∧ (∀ t, t < 8 → aR α t ≠ 0 → aR α t ∈ Mv') := by
  have I0 := gc_beg0 I hs d1 d2 d3 d4
  obtain ⟨a1, a2, a3, a4, a5, a6, a7, a8⟩ := id N
  obtain ⟨h1, h2, -⟩ := I.1
  have hob : (if sBase σ = 1 then 1 + kHalf κ else 1) = nI ob := by
    rw [a3, k1, show (1 : Int32) = nI 1 from rfl, nI_add]
    rcases h2 with ⟨h3, h4⟩ | ⟨h3, h4⟩
    · rw [if_pos (by rw [h3]), h4]
    · by_cases hz : nI base = nI 1
      · have := (nI_eq (by omega) (by omega)).mp hz
        rw [if_pos hz]
        congr 1
        omega
      · rw [if_neg hz, h4]
  have z0 : 0 ∉ Sn' := I0.2.1.2.2.1
  obtain ⟨ad', Mv', free', N', I', r'⟩ := gc_regsN (κ := κ) (base := ob) (ob := base) (low := ob + hf) (scan := ob) (tend := ob) (nh := ob) (made := 0) (beg := beg + 1) (α := α) k1 k2 8 0 (uBeg (uMade (sh_useHalf κ σ (nI ob)) 0) (sBeg (sh_useHalf κ σ (nI ob)) + 1)) ob (fun _ => 0) [] rfl
    ⟨rfl, by show sBeg σ + 1 = _; rw [a2, nI_1], rfl, rfl, by show nI ob + kHalf κ = _; rw [k1, nI_add], rfl, rfl, rfl⟩ I0 (fun t ht => by omega) (fun t _ ht => by
      show gc_gw (fun _ => 0) (gc_rs Sn' ad) [] [] Sn' (aR α t) (sReg σ t)
      rcases d5 t ht with h | h
      · refine Or.inl ⟨?_, Or.inl h⟩
        rw [(hr t ht).1, h, I.2.1.1]
      · refine Or.inr ⟨?_, h⟩
        rw [(hr t ht).1, gc_rs_in h])
  have eq : sh_begin κ σ = sh_regsN κ (uBeg (uMade (sh_useHalf κ σ (nI ob)) 0) (sBeg (sh_useHalf κ σ (nI ob)) + 1)) 0 8 := by
    unfold sh_begin
    rw [hob]
  rw [eq]
  refine ⟨ad', _, Mv', free', N', I', r', fun t ht hne => ?_⟩
  rcases (r' t ht).2 with h | h | h
  · exact absurd h hne
  · exact h
  · exact absurd h List.not_mem_nil
end
section
/-! ===== A NEW THING ===== -/
def abN (α : ab_A) (o : Nat) (h : Int32) : ab_A := (va_up (aH α) o h, fun p i => if p = o then 0 else aF α p i, fun p i => if p = o then 0 else aI α p i, α.2.2.2)
def gc_pm (mem : Nat → Int32) (lo n : Nat) (h : Int32) : Nat → Int32 := fun x => if x = lo then h else if lo < x ∧ x < lo + n then 0 else mem x
theorem abN_H {α : ab_A} {o p : Nat} {h : Int32} (hp : p ≠ o) : aH (abN α o h) p = aH α p := by
  show va_up (aH α) o h p = _
  simp [va_up, hp]
theorem abN_F {α : ab_A} {o p j : Nat} {h : Int32} (hp : p ≠ o) : aF (abN α o h) p j = aF α p j := by
  show (if p = o then 0 else aF α p j) = _
  rw [if_neg hp]
theorem abN_I {α : ab_A} {o p j : Nat} {h : Int32} (hp : p ≠ o) : aI (abN α o h) p j = aI α p j := by
  show (if p = o then 0 else aI α p j) = _
  rw [if_neg hp]
theorem abN_Ho {α : ab_A} {o : Nat} {h : Int32} : aH (abN α o h) o = h := by
  show va_up (aH α) o h o = _
  simp [va_up]
theorem abN_Fo {α : ab_A} {o j : Nat} {h : Int32} : aF (abN α o h) o j = 0 := by
  show (if o = o then 0 else aF α o j) = _
  rw [if_pos rfl]
theorem abN_Io {α : ab_A} {o j : Nat} {h : Int32} : aI (abN α o h) o j = 0 := by
  show (if o = o then 0 else aI α o j) = _
  rw [if_pos rfl]
theorem gc_place0 {mem : Nat → Int32} {hf base ob free low scan tend nh : Nat} {α : ab_A} {ad od : Nat → Nat} {Mv Mk Sn : List Nat} {brf : Nat → Nat → Nat} (I : gc_I mem hf base ob free low scan tend nh α ad od Mv Mk Sn brf)
    {o : Nat} {h : Int32} (f0 : o ≠ 0) (f1 : o ∉ Sn) (f2 : o ∉ Mk) (hok : gc_ok h) (hr : gc_sum (aC α) Sn + gc_sum (aC α) Mk + hC h ≤ hf) :
    free + hC h ≤ low ∧ gc_I (gc_pm mem (low - hC h) (hC h) h) hf base ob free (low - hC h) scan tend nh (abN α o h) (va_up ad o (low - hC h)) od Mv (o :: Mk) Sn brf := by
  have F := gc_free_le I
  have hh := fun {p i : Nat} (hp : p ∈ Mv ∨ p ∈ Mk) (hi : i < aC α p) => gc_half I hp hi
  obtain ⟨⟨h1, h2, h3⟩, ⟨z1, z2, z3, z4, n1, n2, n3, s1, s2, s3⟩, c1, c2, ⟨L1, L2, e1, k1, k2⟩, ⟨o1, o2, o3, o4, o5⟩, w1, w2, w3, w4, w5⟩ := I
  have hCh : hC h = 1 + hT h + hP h := rfl
  have hl : free + hC h ≤ low := by omega
  have nS : ∀ p, p ∈ Sn → p ≠ o := fun p hp z => f1 (z ▸ hp)
  have nM : ∀ p, p ∈ Mv → p ≠ o := fun p hp => nS p (s1 p hp)
  have nK : ∀ p, p ∈ Mk → p ≠ o := fun p hp z => f2 (z ▸ hp)
  have cC : ∀ p, p ≠ o → aC (abN α o h) p = aC α p := fun p hp => by show hC _ = hC _; rw [abN_H hp]
  have cT : ∀ p, p ≠ o → aT (abN α o h) p = aT α p := fun p hp => by show hT _ = hT _; rw [abN_H hp]
  have cP : ∀ p, p ≠ o → aP (abN α o h) p = aP α p := fun p hp => by show hP _ = hP _; rw [abN_H hp]
  have up : ∀ p, p ≠ o → va_up ad o (low - hC h) p = ad p := fun p hp => by simp [va_up, hp]
  have upo : va_up ad o (low - hC h) o = low - hC h := by simp [va_up]
  have eS : gc_sum (aC (abN α o h)) Sn = gc_sum (aC α) Sn := gc_sum_congr _ (fun p hp => cC p (nS p hp))
  have eK : gc_sum (aC (abN α o h)) Mk = gc_sum (aC α) Mk := gc_sum_congr _ (fun p hp => cC p (nK p hp))
  have eo : aC (abN α o h) o = hC h := by show hC _ = hC _; rw [abN_Ho]
  have keep : ∀ x, x < low - hC h ∨ low ≤ x → gc_pm mem (low - hC h) (hC h) h x = mem x := by
    intro x hx
    unfold gc_pm
    rw [if_neg (by omega), if_neg (by omega)]
  have kO : ∀ x, ob ≤ x → x < ob + hf → gc_pm mem (low - hC h) (hC h) h x = mem x := fun x h4 h5 => keep x (by omega)
  have kN : ∀ p i, p ∈ Mv ∨ p ∈ Mk → i < aC α p → gc_pm mem (low - hC h) (hC h) h (ad p + i) = mem (ad p + i) := by
    intro p i hp hi
    refine keep _ ?_
    rcases hp with hp | hp
    · have := gc_chain_in c1 hp; omega
    · have := gc_chain_in c2 hp; omega
  have bw : ∀ q w, gc_bw ad Mv Mk q w → gc_bw (va_up ad o (low - hC h)) Mv (o :: Mk) q w := by
    rintro q w ⟨e, hq⟩
    have hne : q ≠ o := by
      rcases hq with hq | hq | hq
      · rw [hq]; exact Ne.symm f0
      · exact nM q hq
      · exact nK q hq
    refine ⟨by rw [up q hne]; exact e, ?_⟩
    rcases hq with hq | hq | hq
    · exact Or.inl hq
    · exact Or.inr (Or.inl hq)
    · exact Or.inr (Or.inr (List.mem_cons_of_mem _ hq))
  have gw : ∀ q w, gc_gw ad od Mv Mk Sn q w → gc_gw (va_up ad o (low - hC h)) od Mv (o :: Mk) Sn q w := by
    rintro q w (hq | hq)
    · exact Or.inl (bw q w hq)
    · exact Or.inr hq
  refine ⟨hl, ⟨h1, h2, ?_⟩, ⟨by rw [up 0 (Ne.symm f0)]; exact z1, z2, z3, ?_, n1, List.nodup_cons.mpr ⟨f2, n2⟩, n3, s1, ?_, ?_⟩, ?_, ?_, ⟨L1, L2, e1, ?_, ?_⟩, ⟨?_, ?_, ?_, ?_, ?_⟩, ?_, ?_, ?_, ?_, ?_⟩
  · show gc_sum (aC (abN α o h)) Sn + (aC (abN α o h) o + gc_sum (aC (abN α o h)) Mk) ≤ hf
    rw [eS, eK, eo]; omega
  · intro z
    rcases List.mem_cons.mp z with z | z
    · exact f0 z.symm
    · exact z4 z
  · intro p hp
    rcases List.mem_cons.mp hp with z | z
    · rw [z]; exact f1
    · exact s2 p z
  · intro p hp
    by_cases hz : p = o
    · rw [hz, abN_Ho]; exact hok
    · rw [abN_H hz]
      rcases hp with hp | hp
      · exact s3 p (Or.inl hp)
      · exact s3 p (Or.inr ((List.mem_cons.mp hp).resolve_left hz))
  · exact gc_chain_congr (fun p hp => ⟨up p (nM p hp), cC p (nM p hp)⟩) c1
  · refine ⟨upo, ?_⟩
    rw [eo, show low - hC h + hC h = low by omega]
    exact gc_chain_congr (fun p hp => ⟨up p (nK p hp), cC p (nK p hp)⟩) c2
  · exact gc_chain_congr (fun p hp => by
      have hp' : p ∈ Mv := by rw [e1]; exact List.mem_append_left _ hp
      exact ⟨up p (nM p hp'), cC p (nM p hp')⟩) k1
  · rcases k2 with k2 | ⟨L0, cur, k2, k3, k4, k5⟩
    · exact Or.inl k2
    · have hc : cur ∈ Mv := by rw [e1, k2]; simp
      exact Or.inr ⟨L0, cur, k2, by rw [up cur (nM cur hc)]; exact k3, k4, by rw [up cur (nM cur hc), cT cur (nM cur hc)]; exact k5⟩
  · intro p hp
    rw [cC p (nS p hp)]; exact o1 p hp
  · intro p q hp hq hne
    rw [cC p (nS p hp), cC q (nS q hq)]; exact o2 p q hp hq hne
  · intro p hp
    have b := o1 p (s1 p hp)
    have : aC α p = 1 + aT α p + aP α p := rfl
    rw [kO _ (by omega) (by omega), up p (nM p hp)]
    exact o3 p hp
  · intro p hp hn
    have hne := nS p hp
    have b := o1 p hp
    have hCp : aC α p = 1 + aT α p + aP α p := rfl
    obtain ⟨a1, a2, a3⟩ := o4 p hp hn
    rw [cT p hne, cP p hne, abN_H hne]
    refine ⟨by rw [kO _ (by omega) (by omega)]; exact a1, fun j hj => ?_, fun j hj => ?_⟩
    · rw [kO _ (by omega) (by omega), abN_F hne]; exact a2 j hj
    · rw [kO _ (by omega) (by omega), abN_I hne]; exact a3 j hj
  · intro p j hp hj
    rw [cT p (nS p hp)] at hj
    exact o5 p j hp hj
  · intro p hp
    by_cases hz : p = o
    · subst hz
      rw [upo, abN_Ho]
      refine ⟨by unfold gc_pm; rw [if_pos rfl], fun j hj => ?_⟩
      have hj : j < hP h := by
        have : aP (abN α p h) p = hP h := by show hP _ = hP _; rw [abN_Ho]
        omega
      have hTo : aT (abN α p h) p = hT h := by show hT _ = hT _; rw [abN_Ho]
      rw [hTo, abN_Io]
      unfold gc_pm
      rw [if_neg (by omega), if_pos (by omega)]
    · have hp' : p ∈ Mv ∨ p ∈ Mk := by
        rcases hp with hp | hp
        · exact Or.inl hp
        · exact Or.inr ((List.mem_cons.mp hp).resolve_left hz)
      have hCp : aC α p = 1 + aT α p + aP α p := rfl
      obtain ⟨a1, a2⟩ := w1 p hp'
      rw [up p hz, abN_H hz, cP p hz, cT p hz]
      refine ⟨by rw [show ad p = ad p + 0 from rfl, kN p 0 hp' (by omega)]; exact a1, fun j hj => ?_⟩
      rw [show ad p + 1 + aT α p + j = ad p + (1 + aT α p + j) by omega, kN p _ hp' (by omega), show ad p + (1 + aT α p + j) = ad p + 1 + aT α p + j by omega, abN_I hz]
      exact a2 j hj
  · intro p j hp hj
    by_cases hz : p = o
    · subst hz
      have hTo : aT (abN α p h) p = hT h := by show hT _ = hT _; rw [abN_Ho]
      rw [hTo] at hj
      rw [upo, abN_Fo]
      refine ⟨?_, Or.inl rfl⟩
      rw [up 0 (Ne.symm f0), z1, nI_0]
      unfold gc_pm
      rw [if_neg (by omega), if_pos (by omega)]
    · have hp' := (List.mem_cons.mp hp).resolve_left hz
      have hCp : aC α p = 1 + aT α p + aP α p := rfl
      rw [cT p hz] at hj
      rw [up p hz, abN_F hz, show ad p + 1 + j = ad p + (1 + j) by omega, kN p _ (Or.inr hp') (by omega), show ad p + (1 + j) = ad p + 1 + j by omega]
      exact bw _ _ (w2 p j hp' hj)
  · intro p j hp hj hs
    have hz := nM p hp
    have hCp : aC α p = 1 + aT α p + aP α p := rfl
    rw [cT p hz] at hj
    rw [up p hz] at hs ⊢
    rw [abN_F hz, show ad p + 1 + j = ad p + (1 + j) by omega, kN p _ (Or.inl hp) (by omega), show ad p + (1 + j) = ad p + 1 + j by omega]
    exact bw _ _ (w3 p j hp hj hs)
  · intro p j hp hj
    have hz := nM p hp
    have hCp : aC α p = 1 + aT α p + aP α p := rfl
    rw [cT p hz] at hj
    rw [up p hz, abN_F hz, show ad p + 1 + j = ad p + (1 + j) by omega, kN p _ (Or.inl hp) (by omega), show ad p + (1 + j) = ad p + 1 + j by omega]
    exact gw _ _ (w4 p j hp hj)
  · intro p j hp hj hne
    have hz := nM p hp
    have hCp : aC α p = 1 + aT α p + aP α p := rfl
    rw [cT p hz] at hj
    rw [up p hz]
    rcases w5 p j hp hj hne with h5 | ⟨h5, h6⟩
    · exact Or.inl h5
    · refine Or.inr ⟨h5, ?_⟩
      rw [show ad p + 1 + j = ad p + (1 + j) by omega, kN p _ (Or.inl hp) (by omega), show ad p + (1 + j) = ad p + 1 + j by omega]
      exact h6
theorem gc_zeroN {κ : sh_K} {la lo : Nat} (hl : kLast κ = nI la) (hb : la < 2 ^ 31) (h0 : 1 ≤ lo) : ∀ (n i : Nat) (c : sh_C), lo + i + n ≤ la + 1 →
    (sh_zeroN κ c (nI lo) (nI i) n).2.2.1 = fun x => if lo + i ≤ x ∧ x < lo + i + n then 0 else c.2.2.1 x
  | 0, i, c, _ => by
    funext x
    rw [if_neg (by omega)]
    rfl
  | n + 1, i, c, h => by
    show (sh_zeroN κ (sh_write κ c (nI lo + nI i) 0) (nI lo) (nI i + 1) n).2.2.1 = _
    rw [nI_add, nI_1, gc_zeroN hl hb h0 n (i + 1) _ (by omega), gc_writeI hl hb (by omega) (by omega)]
    funext x
    by_cases hx : lo + (i + 1) ≤ x ∧ x < lo + (i + 1) + n
    · rw [if_pos hx, if_pos (by omega)]
    · rw [if_neg hx]
      by_cases hy : x = lo + i
      · subst hy
        rw [if_pos (by omega), pk_us]
      · rw [if_neg (by omega), pk_un hy]
theorem gc_place {κ : sh_K} {σ : sh_S} {hf k base ob free low scan tend nh made beg : Nat} {α : ab_A} {ad od : Nat → Nat} {Mv Mk Sn : List Nat} {brf : Nat → Nat → Nat} (k1 : kHalf κ = nI hf) (k2 : kLast κ = nI (2 * hf)) (k3 : kK κ = nI k) (hk : k ≤ 64)
    (N : gc_N σ base free low scan tend nh made beg) (I : gc_I (sMem σ) hf base ob free low scan tend nh α ad od Mv Mk Sn brf) (hm : made = gc_sum (aC α) Mk) (hp : scan = free ∨ base + k * made ≤ scan)
    {o : Nat} {h : Int32} (f0 : o ≠ 0) (f1 : o ∉ Sn) (f2 : o ∉ Mk) (hok : gc_ok h) (hr : gc_sum (aC α) Sn + gc_sum (aC α) Mk + hC h ≤ hf) :
    ∃ (ad' : Nat → Nat) (Mv' : List Nat) (free' scan' tend' nh' : Nat), gc_N (sh_place κ σ h).2 base free' (low - hC h) scan' tend' nh' (made + hC h) beg ∧ sReg (sh_place κ σ h).2 = sReg σ ∧ gc_ext ad ad' Mv Mv' Mk ∧
      gc_I (sMem (sh_place κ σ h).2) hf base ob free' (low - hC h) scan' tend' nh' (abN α o h) ad' od Mv' (o :: Mk) Sn brf ∧ (scan' = free' ∨ base + k * (made + hC h) ≤ scan') ∧ (sh_place κ σ h).1 = nI (ad' o) := by
  obtain ⟨hl, I1⟩ := gc_place0 I f0 f1 f2 hok hr
  have F := gc_free_le I
  obtain ⟨h1, h2, -⟩ := I.1
  obtain ⟨a1, a2, a3, a4, a5, a6, a7, a8⟩ := id N
  have hC0 : hC h = 1 + hT h + hP h := rfl
  have hC16 := hok.2
  -- the state ahead of work
  have eq : sh_place κ σ h = (sLow (sh_work κ (uMade (uC (uLow σ (nI (low - hC h))) (sh_zeroN κ (sh_write κ σ.1 (nI (low - hC h)) h) (nI (low - hC h)) (nI 1) (hC h - 1))) (nI (made + hC h)))), sh_work κ (uMade (uC (uLow σ (nI (low - hC h))) (sh_zeroN κ (sh_write κ σ.1 (nI (low - hC h)) h) (nI (low - hC h)) (nI 1) (hC h - 1))) (nI (made + hC h)))) := by
    have e1 : sLow σ - hd_cells h = nI (low - hC h) := by rw [a5, hC_eq, pk_sub (by omega)]
    have e2 : sMade σ + hd_cells h = nI (made + hC h) := by rw [a1, hC_eq, nI_add]
    have e3 : (hd_cells h).toNatClampNeg - 1 = hC h - 1 := by rw [hC_eq, nI_clamp (by omega)]
    unfold sh_place
    show (sLow (sh_work κ (uMade (uC (uLow σ (sLow σ - hd_cells h)) (sh_zeroN κ (sh_write κ σ.1 (sLow σ - hd_cells h) h) (sLow σ - hd_cells h) 1 ((hd_cells h).toNatClampNeg - 1))) (sMade σ + hd_cells h))), sh_work κ (uMade (uC (uLow σ (sLow σ - hd_cells h)) (sh_zeroN κ (sh_write κ σ.1 (sLow σ - hd_cells h) h) (sLow σ - hd_cells h) 1 ((hd_cells h).toNatClampNeg - 1))) (sMade σ + hd_cells h))) = _
    rw [e1, e2, e3]
    rfl
  have N1 : gc_N (uMade (uC (uLow σ (nI (low - hC h))) (sh_zeroN κ (sh_write κ σ.1 (nI (low - hC h)) h) (nI (low - hC h)) (nI 1) (hC h - 1))) (nI (made + hC h))) base free (low - hC h) scan tend nh (made + hC h) beg := ⟨rfl, a2, a3, a4, rfl, a6, a7, a8⟩
  have em : sMem (uMade (uC (uLow σ (nI (low - hC h))) (sh_zeroN κ (sh_write κ σ.1 (nI (low - hC h)) h) (nI (low - hC h)) (nI 1) (hC h - 1))) (nI (made + hC h))) = gc_pm (sMem σ) (low - hC h) (hC h) h := by
    show (sh_zeroN κ (sh_write κ σ.1 (nI (low - hC h)) h) (nI (low - hC h)) (nI 1) (hC h - 1)).2.2.1 = _
    rw [gc_zeroN k2 (by omega) (by omega) _ _ _ (by omega), gc_writeI k2 (by omega) (by omega) (by omega)]
    funext x
    unfold gc_pm
    by_cases hx : low - hC h + 1 ≤ x ∧ x < low - hC h + 1 + (hC h - 1)
    · rw [if_pos hx, if_neg (by omega), if_pos (by omega)]
    · rw [if_neg hx]
      by_cases hy : x = low - hC h
      · rw [if_pos hy, hy, pk_us]
      · rw [if_neg hy, if_neg (by omega), pk_un hy]
  have hkm : k * (made + hC h) ≤ 64 * (hf + 16) := Nat.mul_le_mul hk (by omega)
  rw [← em] at I1
  obtain ⟨ad', Mv', free', scan', tend', nh', N', r', x', I', l'⟩ := gc_workN (κ := κ) (goal := base + k * (made + hC h)) k1 k2 (by omega) (16 * k) _ _ _ _ _ _ _ N1 I1
  have ew : sh_work κ (uMade (uC (uLow σ (nI (low - hC h))) (sh_zeroN κ (sh_write κ σ.1 (nI (low - hC h)) h) (nI (low - hC h)) (nI 1) (hC h - 1))) (nI (made + hC h))) = sh_workN κ (nI (base + k * (made + hC h))) (uMade (uC (uLow σ (nI (low - hC h))) (sh_zeroN κ (sh_write κ σ.1 (nI (low - hC h)) h) (nI (low - hC h)) (nI 1) (hC h - 1))) (nI (made + hC h))) (16 * k) := by
    have e4 : kK κ * 16 = nI (16 * k) := by rw [k3, show (16 : Int32) = nI 16 from rfl, pk_mul, Nat.mul_comm]
    unfold sh_work
    show sh_workN κ (sBase σ + kK κ * nI (made + hC h)) _ (kK κ * 16).toNatClampNeg = _
    rw [e4, nI_clamp (by omega), a3, k3, pk_mul, nI_add]
  rw [eq, ew]
  have ha : ad' o = low - hC h := by
    rw [x'.1 o (Or.inr (Or.inr List.mem_cons_self))]
    simp [va_up]
  refine ⟨ad', Mv', free', scan', tend', nh', N', r', ⟨fun p hp => ?_, x'.2⟩, I', ?_, ?_⟩
  · have hne : p ≠ o := by
      intro z
      subst z
      rcases hp with hp | hp | hp
      · exact f0 hp
      · exact f1 (I.2.1.2.2.2.2.2.2.2.1 p hp)
      · exact f2 hp
    rw [x'.1 p (hp.imp id (Or.imp id (List.mem_cons_of_mem _)))]
    simp [va_up, hne]
  · rcases l' with l' | l' | l'
    · exact Or.inl l'
    · exact Or.inr l'
    · have F' := gc_free_le I'
      rcases hp with hp | hp
      · omega
      · right
        have : k * (made + hC h) = k * made + k * hC h := Nat.mul_add _ _ _
        have : k * hC h ≤ k * 16 := Nat.mul_le_mul_left _ hC16
        omega
  · show sLow _ = _
    rw [N'.2.2.2.2.1, ha]
end
section
/-! ===== REACHED; THE INVARIANT BETWEEN CALLS; THE RULE OF MAKING ===== -/
def ab_cl (α : ab_A) (P : Nat → Prop) : Prop := (∀ t, t < 8 → aR α t ≠ 0 → P (aR α t)) ∧ ∀ o j, P o → j < aT α o → aF α o j ≠ 0 → P (aF α o j)
def ab_reach (α : ab_A) (o : Nat) : Prop := ∀ P : Nat → Prop, ab_cl α P → P o
def ab_R (α : ab_A) (Sn : List Nat) : Prop := Sn.Nodup ∧ ∀ o, o ∈ Sn ↔ ab_reach α o
theorem ab_reach_cl (α : ab_A) : ab_cl α (ab_reach α) := ⟨fun t ht hne P hP => hP.1 t ht hne, fun o j ho hj hne P hP => hP.2 o j (ho P hP) hj hne⟩
/-- every thing of the cycle was reached from what has been moved already -/
def gc_B (α : ab_A) (Mv Sn : List Nat) (brf : Nat → Nat → Nat) : Prop := ∀ P : Nat → Prop, (∀ o, o ∈ Mv → P o) → (∀ o j, P o → o ∈ Sn → j < aT α o → brf o j ≠ 0 → P (brf o j)) → ∀ o, o ∈ Sn → P o
theorem gc_B.mono {α α' : ab_A} {Mv Mv' Sn : List Nat} {brf : Nat → Nat → Nat} (h : gc_B α Mv Sn brf) (hM : ∀ o, o ∈ Mv → o ∈ Mv') (hT : ∀ o, o ∈ Sn → aT α' o = aT α o) : gc_B α' Mv' Sn brf :=
  fun P h1 h2 o ho => h P (fun q hq => h1 q (hM q hq)) (fun q j hq hs hj hne => h2 q j hq hs (by rw [hT q hs]; exact hj) hne) o ho
/-- all has been gone through: all is moved -/
theorem gc_all {mem : Nat → Int32} {hf base ob free low scan tend nh : Nat} {α : ab_A} {ad od : Nat → Nat} {Mv Mk Sn : List Nat} {brf : Nat → Nat → Nat} (I : gc_I mem hf base ob free low scan tend nh α ad od Mv Mk Sn brf) (hB : gc_B α Mv Sn brf) (hs : scan = free) : ∀ o, o ∈ Sn → o ∈ Mv := by
  have F := gc_free_le I
  obtain ⟨-, ⟨-, -, -, -, -, -, -, s1, -⟩, c1, -, -, -, -, -, -, -, w5⟩ := I
  refine hB (· ∈ Mv) (fun o h => h) (fun o j ho _ hj hne => ?_)
  rcases w5 o j ho hj hne with h | ⟨h, -⟩
  · exact h
  · have := gc_chain_in c1 ho
    have hC : aC α o = 1 + aT α o + aP α o := rfl
    omega
/-- the class between two calls: h is H, k is k; made, beg and R as the document has them -/
def gc_G (κ : sh_K) (σ : sh_S) (α : ab_A) (h k made beg R : Nat) : Prop :=
  (1024 ≤ h ∧ h ≤ 60000 ∧ 1 ≤ k ∧ k ≤ 64 ∧ kHalf κ = nI (2 * h + 64) ∧ kK κ = nI k ∧ kLim κ = nI (h * k / (k + 1)) ∧ kLast κ = nI (2 * (2 * h + 64)) ∧ kAl κ = nI (700 * k + 200)) ∧
  ∃ (base ob free low scan tend nh : Nat) (ad od : Nat → Nat) (Mv Mk Sn : List Nat) (brf : Nat → Nat → Nat),
    gc_N σ base free low scan tend nh made beg ∧ gc_I (sMem σ) (2 * h + 64) base ob free low scan tend nh α ad od Mv Mk Sn brf ∧ (∀ t, t < 8 → gc_bw ad Mv Mk (aR α t) (sReg σ t)) ∧ gc_B α Mv Sn brf ∧
    made = gc_sum (aC α) Mk ∧ R = gc_sum (aC α) Sn ∧ (scan = free ∨ base + k * made ≤ scan) ∧ R < h + 16 ∧ (k * made < R + 16 * k ∨ R + made ≤ h * k / (k + 1))
theorem gc_doneI {κ : sh_K} {σ : sh_S} {α : ab_A} {h k made beg R : Nat} (G : gc_G κ σ α h k made beg R) : sh_done κ σ = (if R ≤ k * made then 1 else 0) ∧ (R ≤ k * made → sh_moved σ = nI R ∧ sScan σ = sFree σ) := by
  obtain ⟨⟨h1, h2, h3, h4, k1, k2, k3, k4, k5⟩, base, ob, free, low, scan, tend, nh, ad, od, Mv, Mk, Sn, brf, N, I, hr, hB, e1, e2, hp, hR, hq⟩ := G
  have F := gc_free_le I
  obtain ⟨b1, b2, b3⟩ := I.1
  obtain ⟨a1, a2, a3, a4, a5, a6, a7, a8⟩ := id N
  have em : sh_moved σ = nI (free - base) := by unfold sh_moved; rw [a4, a3, pk_sub (by omega)]
  have hkm : k * made ≤ 64 * (2 * h + 64) := Nat.mul_le_mul h4 (by omega)
  have hall : scan = free → free - base = R := by
    intro hs
    have q := gc_all I hB hs
    have := gc_sum_eq (cz := aC α) I.2.1.2.2.2.2.1 I.2.1.2.2.2.2.2.2.1 (fun o => ⟨I.2.1.2.2.2.2.2.2.2.1 o, q o⟩)
    omega
  unfold sh_done
  rw [a6, a4, em, k2, a1, pk_mul]
  by_cases hs : scan = free
  · have hm := hall hs
    rw [if_pos (by rw [hs]), hm]
    by_cases hd : R ≤ k * made
    · rw [if_neg (nI_nlt hd (by omega)), if_pos hd]
      exact ⟨rfl, fun _ => ⟨by rw [hm], by rw [hs]⟩⟩
    · rw [if_pos (nI_lt (by omega) (by omega)), if_neg hd]
      exact ⟨rfl, fun z => absurd z hd⟩
  · rw [if_neg (fun z => hs ((nI_eq (by omega) (by omega)).mp z))]
    have hd : ¬ R ≤ k * made := by omega
    rw [if_neg hd]
    exact ⟨rfl, fun z => absurd z hd⟩
theorem gc_arith {h k R made : Nat} (hk : 1 ≤ k) (h1 : R ≤ h * k / (k + 1)) (h2 : k * made < R + 16 * k ∨ R + made ≤ h * k / (k + 1)) : R + made < h + 16 := by
  have hl : h * k / (k + 1) ≤ h := by
    have : h * k / (k + 1) * (k + 1) ≤ h * k := Nat.div_mul_le_self _ _
    have q : h * k / (k + 1) * k ≤ h * k / (k + 1) * (k + 1) := Nat.mul_le_mul_left _ (by omega)
    exact Nat.le_of_mul_le_mul_right (Nat.le_trans q this) (by omega)
  rcases h2 with h2 | h2
  · have a : R * (k + 1) ≤ h * k := Nat.le_trans (Nat.mul_le_mul_right _ h1) (Nat.div_mul_le_self _ _)
    have b : k * (R + made) < k * (h + 16) := by
      rw [Nat.mul_add, Nat.mul_add]
      have e : R * (k + 1) = k * R + R := by rw [Nat.mul_add, Nat.mul_comm R k]; omega
      have e2 : h * k = k * h := Nat.mul_comm _ _
      omega
    exact Nat.lt_of_mul_lt_mul_left b
  · omega
end
