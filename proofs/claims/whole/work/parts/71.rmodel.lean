/-! ===== THE REFERENCE AS FUNCTIONS (its small methods), and what keeps its indices in range ===== -/
def rm_levels (n : Int32) : Int32 := if 15 < n then (if 225 < n then 3 else 2) else 1
abbrev rm_o (ρ : rm_S) (r : Int32) : Int32 := rReg ρ r.toNatClampNeg - 1
def rm_cells (ρ : rm_S) (o : Int32) : Int32 := if rKind ρ o.toNatClampNeg = 1 then 1 + rRefs ρ o.toNatClampNeg + rInts ρ o.toNatClampNeg else 16
def rm_field (ρ : rm_S) (r f b : Int32) : Int32 :=
  if sh_isReg r = 0 then -1 else if rReg ρ r.toNatClampNeg = 0 then -1 else if rKind ρ (rm_o ρ r).toNatClampNeg = 1 then
    (if f < 0 then -1 else if f < (if b = 0 then rInts ρ (rm_o ρ r).toNatClampNeg else rRefs ρ (rm_o ρ r).toNatClampNeg) then rm_o ρ r * 16 + (if b = 0 then rRefs ρ (rm_o ρ r).toNatClampNeg + f else f) else -1) else -1
def rm_hasItem (ρ : rm_S) (r i b : Int32) : Int32 :=
  if sh_isReg r = 0 then 0 else if rReg ρ r.toNatClampNeg = 0 then 0 else if rKind ρ (rm_o ρ r).toNatClampNeg = 2 then
    (if rOfr ρ (rm_o ρ r).toNatClampNeg = b then (if i < 0 then 0 else if rLen ρ (rm_o ρ r).toNatClampNeg ≤ i then 0 else 1) else 0) else 0
def rm_done (k : Int32) (ρ : rm_S) : Int32 := if lg_cmp (k.toInt64 * rMade ρ) (rRea ρ).toInt64 < 0 then 0 else 1
def rm_get (ρ : rm_S) (t o f : Int32) : Int32 × rm_S := if sh_isReg t = 0 then (0, ρ) else if rm_field ρ o f 1 = -1 then (0, ρ) else (1, vReg ρ (upd (rReg ρ) t.toNatClampNeg (rRow ρ (rm_field ρ o f 1).toNatClampNeg)))
def rm_put (ρ : rm_S) (o f r : Int32) : Int32 × rm_S := if sh_isReg r = 0 then (0, ρ) else if rm_field ρ o f 1 = -1 then (0, ρ) else (1, vRow ρ (upd (rRow ρ) (rm_field ρ o f 1).toNatClampNeg (rReg ρ r.toNatClampNeg)))
def rm_look (ρ : rm_S) (o f : Int32) : Int64 := if rm_field ρ o f 0 = -1 then -9223372036854775808 else (rRow ρ (rm_field ρ o f 0).toNatClampNeg).toInt64
def rm_set (ρ : rm_S) (o f v : Int32) : Int32 × rm_S := if rm_field ρ o f 0 = -1 then (0, ρ) else (1, vRow ρ (upd (rRow ρ) (rm_field ρ o f 0).toNatClampNeg v))
def rm_copy (ρ : rm_S) (t r : Int32) : Int32 × rm_S := if sh_isReg t = 0 then (0, ρ) else if sh_isReg r = 0 then (0, ρ) else (1, vReg ρ (upd (rReg ρ) t.toNatClampNeg (rReg ρ r.toNatClampNeg)))
def rm_drop (ρ : rm_S) (r : Int32) : Int32 × rm_S := if sh_isReg r = 0 then (0, ρ) else if rReg ρ r.toNatClampNeg = 0 then (0, ρ) else (1, vReg ρ (upd (rReg ρ) r.toNatClampNeg 0))
def rm_same (ρ : rm_S) (x y : Int32) : Int32 := if sh_isReg x = 0 then 0 else if sh_isReg y = 0 then 0 else if rReg ρ x.toNatClampNeg = rReg ρ y.toNatClampNeg then 1 else 0
def rm_size (ρ : rm_S) (r w : Int32) : Int32 :=
  if sh_isReg r = 0 then -1 else if rReg ρ r.toNatClampNeg = 0 then -1 else
  if w = 0 then (if rKind ρ (rm_o ρ r).toNatClampNeg = 1 then rRefs ρ (rm_o ρ r).toNatClampNeg else -1) else
  if w = 1 then (if rKind ρ (rm_o ρ r).toNatClampNeg = 1 then rInts ρ (rm_o ρ r).toNatClampNeg else -1) else
  if w = 2 then (if rKind ρ (rm_o ρ r).toNatClampNeg = 1 then -1 else rLen ρ (rm_o ρ r).toNatClampNeg) else
  if w = 3 then rm_cells ρ (rm_o ρ r) else -1
def rm_told (k lim : Int32) (ρ : rm_S) (w : Int32) : Int32 :=
  if w = 0 then rCyc ρ else if w = 1 then (if rm_done k ρ = 0 then 0 else 1) else if w = 2 then (if rm_done k ρ = 0 then -1 else rRea ρ) else
  if w = 3 then (if 0 ≤ lg_cmp (rMade ρ) 2147483647 then (2147483647 : Int64).toInt32 else (rMade ρ).toInt32) else if w = 4 then lim else -1
/-- ob things so far; registers, references and counts in range -/
def rm_ok (ρ : rm_S) (ob : Nat) : Prop := rObj ρ = nI ob ∧ ob < 100000 ∧ (∀ t, t < 8 → ∃ x, x ≤ ob ∧ rReg ρ t = nI x) ∧ (∀ o, o < ob → ∃ r i, r + i ≤ 15 ∧ rRefs ρ o = nI r ∧ rInts ρ o = nI i) ∧ (∀ o f r, o < ob → rRefs ρ o = nI r → f < r → r ≤ 15 → ∃ x, x ≤ ob ∧ rRow ρ (o * 16 + f) = nI x)
theorem ri_isReg {r : Int32} (h : ¬ sh_isReg r = 0) : ∃ t, t < 8 ∧ r = nI t := vp_in_of (in8 h) (by decide)
theorem ri_reg {ρ : rm_S} {ob : Nat} (h : rm_ok ρ ob) {r : Int32} (c1 : ¬ sh_isReg r = 0) (c2 : ¬ rReg ρ r.toNatClampNeg = 0) : ∃ o, o < ob ∧ rm_o ρ r = nI o := by
  obtain ⟨t, ht, rfl⟩ := ri_isReg c1
  rw [nI_clamp (by omega)] at c2
  obtain ⟨x, hx, e⟩ := h.2.2.1 t ht
  unfold rm_o
  rw [nI_clamp (by omega), e]
  rw [e] at c2
  have : x ≠ 0 := fun z => c2 (by rw [z]; rfl)
  exact ⟨x - 1, by omega, by rw [show (1 : Int32) = nI 1 from rfl, pk_sub (by omega)]⟩
theorem ri_in {ρ : rm_S} {ob : Nat} (h : rm_ok ρ ob) {r : Int32} (c1 : ¬ sh_isReg r = 0) (c2 : ¬ rReg ρ r.toNatClampNeg = 0) : vp_in (rm_o ρ r) 120064 := by
  obtain ⟨o, ho, e⟩ := ri_reg h c1 c2
  rw [e]
  exact vp_in_nI (by have := h.2.1; omega) (by decide)
theorem ri_lt {f : Int32} {r : Nat} (hr : r ≤ 15) (h0 : ¬ f < 0) (h : f < nI r) : ∃ j, j < r ∧ f = nI j := by
  obtain ⟨j, hj, rfl⟩ := nI_of h0
  exact ⟨j, (nI_ltI hj (by omega)).mp h, rfl⟩
theorem ri_field {ρ : rm_S} {ob : Nat} (h : rm_ok ρ ob) {r f b : Int32} (hq : ¬ rm_field ρ r f b = -1) : vp_in (rm_field ρ r f b) 1921024 := by
  by_cases c1 : sh_isReg r = 0
  · exact absurd (by unfold rm_field; simp only [if_pos c1]) hq
  by_cases c2 : rReg ρ r.toNatClampNeg = 0
  · exact absurd (by unfold rm_field; simp only [if_neg c1, if_pos c2]) hq
  by_cases c3 : rKind ρ (rm_o ρ r).toNatClampNeg = 1
  · by_cases c4 : f < 0
    · exact absurd (by unfold rm_field; simp only [if_neg c1, if_neg c2, if_pos c3, if_pos c4]) hq
    by_cases c5 : f < (if b = 0 then rInts ρ (rm_o ρ r).toNatClampNeg else rRefs ρ (rm_o ρ r).toNatClampNeg)
    · have e : rm_field ρ r f b = rm_o ρ r * 16 + (if b = 0 then rRefs ρ (rm_o ρ r).toNatClampNeg + f else f) := by unfold rm_field; simp only [if_neg c1, if_neg c2, if_pos c3, if_neg c4, if_pos c5]
      rw [e]
      obtain ⟨o, ho, eo⟩ := ri_reg h c1 c2
      have hob := h.2.1
      rw [eo, nI_clamp (by omega)] at c5 ⊢
      obtain ⟨x, y, hxy, ex, ey⟩ := h.2.2.2.1 o ho
      rw [ex, ey] at c5
      rw [ex]
      by_cases cb : b = 0
      · rw [if_pos cb] at c5 ⊢
        obtain ⟨j, hj, rfl⟩ := ri_lt (by omega) c4 c5
        rw [show (16 : Int32) = nI 16 from rfl, pk_mul, nI_add, nI_add]
        exact vp_in_nI (by omega) (by decide)
      · rw [if_neg cb] at c5 ⊢
        obtain ⟨j, hj, rfl⟩ := ri_lt (by omega) c4 c5
        rw [show (16 : Int32) = nI 16 from rfl, pk_mul, nI_add]
        exact vp_in_nI (by omega) (by decide)
    · exact absurd (by unfold rm_field; simp only [if_neg c1, if_neg c2, if_pos c3, if_neg c4, if_neg c5]) hq
  · exact absurd (by unfold rm_field; simp only [if_neg c1, if_neg c2, if_neg c3]) hq
