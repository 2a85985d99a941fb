/-! ===== THE REFERENCE: make, array, item, fill and the calls on items, as functions ===== -/
def rm_make (k lim : Int32) (ρ : rm_S) (g r i : Int32) : Int32 × rm_S :=
  if sh_isReg g = 0 then (-1, ρ) else if r < 0 then (-1, ρ) else if i < 0 then (-1, ρ) else if 15 < r then (-1, ρ) else if i ≤ 15 - r then
    (if (rm_room k lim ρ (1 + r + i)).1 = 0 then (0, (rm_room k lim ρ (1 + r + i)).2) else
      (1, vReg (rm_add (rm_room k lim ρ (1 + r + i)).2 1 r i).2 (upd (rReg (rm_add (rm_room k lim ρ (1 + r + i)).2 1 r i).2) g.toNatClampNeg ((rm_add (rm_room k lim ρ (1 + r + i)).2 1 r i).1 + 1)))) else (-1, ρ)
def rm_arrFin (g n x : Int32) (a : Int32 × rm_S) : rm_S :=
  vReg (vOfr (vLen a.2 (upd (rLen a.2) a.1.toNatClampNeg (vp_nar .short n.toInt16.toInt32))) (upd (rOfr a.2) a.1.toNatClampNeg (vp_nar .boolean x))) (upd (rReg a.2) g.toNatClampNeg (a.1 + 1))
def rm_array (k lim : Int32) (ρ : rm_S) (g n x : Int32) : Int32 × rm_S :=
  if sh_isReg g = 0 then (-1, ρ) else if n < 0 then (-1, ρ) else if n ≤ 3375 then
    (if (rm_room k lim ρ 16).1 = 0 then (0, (rm_room k lim ρ 16).2) else
     if x = 0 then (if rm_levels n ≤ 1 then (1, rm_arrFin g n x (rm_add (rm_room k lim ρ 16).2 2 0 15)) else (1, rm_arrFin g n x (rm_add (rm_room k lim ρ 16).2 2 15 0)))
     else (1, rm_arrFin g n x (rm_add (rm_room k lim ρ 16).2 2 15 0))) else (-1, ρ)
def rm_itemN (ρ : rm_S) (o left each : Int32) : Nat → Int32 × rm_S
  | 0 => (o * 16 + left, ρ)
  | c + 1 => if each ≤ 1 then (o * 16 + left, ρ) else if rRow ρ (o * 16 + left / each).toNatClampNeg = 0 then (-1, vGil (vGap ρ (o * 16 + left / each)) (if each / 15 = 1 then 1 else 0)) else rm_itemN ρ (rRow ρ (o * 16 + left / each).toNatClampNeg - 1) (left - left / each * each) (each / 15) c
def rs_itemN (ρ : rm_S) (o left each : Int32) : Nat → Prop
  | 0 => each ≤ 1
  | c + 1 => each ≤ 1 ∨ (vp_in (o * 16 + left / each) 1921024 ∧ (rRow ρ (o * 16 + left / each).toNatClampNeg = 0 ∨ rs_itemN ρ (rRow ρ (o * 16 + left / each).toNatClampNeg - 1) (left - left / each * each) (each / 15) c))
def rm_each (d : Int32) : Int32 := if d = 3 then 225 else if d = 2 then 15 else 1
def rm_item (ρ : rm_S) (r i : Int32) : Int32 × rm_S := rm_itemN ρ (rm_o ρ r) i (rm_each (rm_levels (rLen ρ (rm_o ρ r).toNatClampNeg))) 3
def rs_item (ρ : rm_S) (r i : Int32) : Prop := vp_in r 8 ∧ vp_in (rm_o ρ r) 120064 ∧ rs_itemN ρ (rm_o ρ r) i (rm_each (rm_levels (rLen ρ (rm_o ρ r).toNatClampNeg))) 3
def rm_filFin (at' : Int32) (a : Int32 × rm_S) : rm_S := vRow a.2 (upd (rRow a.2) at'.toNatClampNeg (a.1 + 1))
def rm_fill (k lim : Int32) (ρ : rm_S) (x : Int32) : Int32 × rm_S :=
  if (rm_room k lim ρ 16).1 = 0 then (0, (rm_room k lim ρ 16).2) else
  if x = 0 then (if rGil (rm_room k lim ρ 16).2 = 0 then (2, rm_filFin (rGap (rm_room k lim ρ 16).2) (rm_add (rm_room k lim ρ 16).2 3 15 0)) else (2, rm_filFin (rGap (rm_room k lim ρ 16).2) (rm_add (rm_room k lim ρ 16).2 3 0 15)))
  else (2, rm_filFin (rGap (rm_room k lim ρ 16).2) (rm_add (rm_room k lim ρ 16).2 3 15 0))
def rs_make (k lim : Int32) (ρ : rm_S) : Prop := rs_room ρ ∧ ∀ n, rs_add (rm_room k lim ρ n).2
def rs_fill (k lim : Int32) (ρ : rm_S) : Prop := rs_make k lim ρ ∧ vp_in (rGap (rm_room k lim ρ 16).2) 1921024
def rs_it (ρ : rm_S) (o i : Int32) : Prop := ∀ x, ¬ rm_hasItem ρ o i x = 0 → rs_item ρ o i ∧ (¬ (rm_item ρ o i).1 = -1 → vp_in (rm_item ρ o i).1 1921024)
def rm_getItem (ρ : rm_S) (t o i : Int32) : Int32 × rm_S :=
  if sh_isReg t = 0 then (0, ρ) else if rm_hasItem ρ o i 1 = 0 then (0, ρ) else
  if (rm_item ρ o i).1 = -1 then (1, vReg (rm_item ρ o i).2 (upd (rReg (rm_item ρ o i).2) t.toNatClampNeg 0)) else (1, vReg (rm_item ρ o i).2 (upd (rReg (rm_item ρ o i).2) t.toNatClampNeg (rRow (rm_item ρ o i).2 (rm_item ρ o i).1.toNatClampNeg)))
def rm_putItem (k lim : Int32) (ρ : rm_S) (o i r : Int32) : Int32 × rm_S :=
  if sh_isReg r = 0 then (-1, ρ) else if rm_hasItem ρ o i 1 = 0 then (-1, ρ) else
  if (rm_item ρ o i).1 = -1 then rm_fill k lim (rm_item ρ o i).2 1 else (1, vRow (rm_item ρ o i).2 (upd (rRow (rm_item ρ o i).2) (rm_item ρ o i).1.toNatClampNeg (rReg (rm_item ρ o i).2 r.toNatClampNeg)))
def rm_lookItem (ρ : rm_S) (o i : Int32) : Int64 × rm_S :=
  if rm_hasItem ρ o i 0 = 0 then (-9223372036854775808, ρ) else
  if (rm_item ρ o i).1 = -1 then (0, (rm_item ρ o i).2) else ((rRow (rm_item ρ o i).2 (rm_item ρ o i).1.toNatClampNeg).toInt64, (rm_item ρ o i).2)
def rm_setItem (k lim : Int32) (ρ : rm_S) (o i v : Int32) : Int32 × rm_S :=
  if rm_hasItem ρ o i 0 = 0 then (-1, ρ) else
  if (rm_item ρ o i).1 = -1 then rm_fill k lim (rm_item ρ o i).2 0 else (1, vRow (rm_item ρ o i).2 (upd (rRow (rm_item ρ o i).2) (rm_item ρ o i).1.toNatClampNeg v))
theorem rp_itemObj : ∀ (c : Nat) (ρ : rm_S) (o left each : Int32), rObj (rm_itemN ρ o left each c).2 = rObj ρ
  | 0, _, _, _, _ => rfl
  | c + 1, ρ, o, left, each => by
    rw [rm_itemN]
    split
    · rfl
    · split
      · rfl
      · exact rp_itemObj c _ _ _ _
