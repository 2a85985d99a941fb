/-! ===== THE REFERENCE: reach, goOver, add, hasRoom as functions; rs_..: their indices are in range ===== -/
def rm_reach (ρ : rm_S) (f : Int32) : rm_S :=
  if f = 0 then ρ else if rMark ρ (f - 1).toNatClampNeg = 0 then vPus (vPile (vMark ρ (upd (rMark ρ) (f - 1).toNatClampNeg (vp_nar .boolean 1))) (upd (rPile ρ) (rPus ρ).toNatClampNeg (f - 1))) (rPus ρ + 1) else ρ
def rs_reach (ρ : rm_S) (f : Int32) : Prop := (¬ f = 0 → vp_in (f - 1) 120064) ∧ vp_in (rPus ρ) 120064
def rm_regsN (ρ : rm_S) (i : Nat) : Nat → rm_S
  | 0 => ρ
  | n + 1 => rm_regsN (rm_reach ρ (rReg ρ i)) (i + 1) n
def rs_regsN (ρ : rm_S) (i : Nat) : Nat → Prop
  | 0 => True
  | n + 1 => rs_reach ρ (rReg ρ i) ∧ rs_regsN (rm_reach ρ (rReg ρ i)) (i + 1) n
def rm_rowN (ρ : rm_S) (o f : Int32) : Nat → rm_S
  | 0 => ρ
  | n + 1 => rm_rowN (rm_reach ρ (rRow ρ (o * 16 + f).toNatClampNeg)) o (f + 1) n
def rs_rowN (ρ : rm_S) (o f : Int32) : Nat → Prop
  | 0 => True
  | n + 1 => vp_in (o * 16 + f) 1921024 ∧ rs_reach ρ (rRow ρ (o * 16 + f).toNatClampNeg) ∧ rs_rowN (rm_reach ρ (rRow ρ (o * 16 + f).toNatClampNeg)) o (f + 1) n
def rm_pileN (ρ : rm_S) (sm n : Int32) : Nat → Int32 × rm_S
  | 0 => (sm, ρ)
  | c + 1 => if rPus ρ ≤ n then (sm, ρ) else rm_pileN (rm_rowN ρ (rPile ρ n.toNatClampNeg) 0 (rRefs ρ (rPile ρ n.toNatClampNeg).toNatClampNeg).toNatClampNeg) (sm + rm_cells ρ (rPile ρ n.toNatClampNeg)) (n + 1) c
def rs_pileN (ρ : rm_S) (n : Int32) : Nat → Prop
  | 0 => rPus ρ ≤ n
  | c + 1 => rPus ρ ≤ n ∨ (vp_in n 120064 ∧ vp_in (rPile ρ n.toNatClampNeg) 120064 ∧ (∃ N, N ≤ 15 ∧ rRefs ρ (rPile ρ n.toNatClampNeg).toNatClampNeg = nI N ∧ rs_rowN ρ (rPile ρ n.toNatClampNeg) 0 N) ∧
      rs_pileN (rm_rowN ρ (rPile ρ n.toNatClampNeg) 0 (rRefs ρ (rPile ρ n.toNatClampNeg).toNatClampNeg).toNatClampNeg) (n + 1) c)
def rm_clr1 (ρ : rm_S) (o : Int32) : rm_S :=
  if rMark ρ o.toNatClampNeg = 0 then (if rKind ρ o.toNatClampNeg = 0 then vMark ρ (upd (rMark ρ) o.toNatClampNeg (vp_nar .boolean 0)) else
    vMark (vGiv (vBack (vKind ρ (upd (rKind ρ) o.toNatClampNeg (vp_nar .byte 0))) (upd (rBack ρ) (rGiv ρ).toNatClampNeg o)) (rGiv ρ + 1)) (upd (rMark ρ) o.toNatClampNeg (vp_nar .boolean 0)))
  else vMark ρ (upd (rMark ρ) o.toNatClampNeg (vp_nar .boolean 0))
def rm_clrN (ρ : rm_S) (o : Int32) : Nat → rm_S
  | 0 => ρ
  | n + 1 => rm_clrN (rm_clr1 ρ o) (o + 1) n
def rs_clrN (ρ : rm_S) (o : Int32) : Nat → Prop
  | 0 => True
  | n + 1 => vp_in o 120064 ∧ vp_in (rGiv ρ) 120064 ∧ rs_clrN (rm_clr1 ρ o) (o + 1) n
def rm_go1 (ρ : rm_S) : rm_S := rm_regsN (vPus ρ 0) 0 8
def rm_go2 (ρ : rm_S) : Int32 × rm_S := rm_pileN (rm_go1 ρ) 0 0 (rObj ρ).toNatClampNeg
def rm_go (ρ : rm_S) : Int32 × rm_S := ((rm_go2 ρ).1, rm_clrN (rm_go2 ρ).2 0 (rObj ρ).toNatClampNeg)
def rs_go (ρ : rm_S) : Prop := rs_regsN (vPus ρ 0) 0 8 ∧ rs_pileN (rm_go1 ρ) 0 (rObj ρ).toNatClampNeg ∧ rs_clrN (rm_go2 ρ).2 0 (rObj ρ).toNatClampNeg
theorem rp_reach (ρ : rm_S) (f : Int32) : rRefs (rm_reach ρ f) = rRefs ρ ∧ rObj (rm_reach ρ f) = rObj ρ ∧ rReg (rm_reach ρ f) = rReg ρ ∧ rRow (rm_reach ρ f) = rRow ρ ∧ rKind (rm_reach ρ f) = rKind ρ ∧ rInts (rm_reach ρ f) = rInts ρ ∧ rGiv (rm_reach ρ f) = rGiv ρ ∧ rBack (rm_reach ρ f) = rBack ρ := by
  unfold rm_reach
  split
  · exact ⟨rfl, rfl, rfl, rfl, rfl, rfl, rfl, rfl⟩
  · split <;> exact ⟨rfl, rfl, rfl, rfl, rfl, rfl, rfl, rfl⟩
theorem rp_clr1 (ρ : rm_S) (o : Int32) : rObj (rm_clr1 ρ o) = rObj ρ := by
  unfold rm_clr1
  split
  · split <;> rfl
  · rfl
theorem rp_regsN : ∀ (n i : Nat) (ρ : rm_S), rObj (rm_regsN ρ i n) = rObj ρ
  | 0, _, _ => rfl
  | n + 1, i, ρ => by rw [rm_regsN, rp_regsN n, (rp_reach ρ _).2.1]
theorem rp_rowN (o : Int32) : ∀ (n : Nat) (f : Int32) (ρ : rm_S), rObj (rm_rowN ρ o f n) = rObj ρ
  | 0, _, _ => rfl
  | n + 1, f, ρ => by rw [rm_rowN, rp_rowN o n, (rp_reach ρ _).2.1]
theorem rp_pileN : ∀ (c : Nat) (sm n : Int32) (ρ : rm_S), rObj (rm_pileN ρ sm n c).2 = rObj ρ
  | 0, _, _, _ => rfl
  | c + 1, sm, n, ρ => by
    rw [rm_pileN]
    split
    · rfl
    · rw [rp_pileN c, rp_rowN]
theorem rp_go2 (ρ : rm_S) : rObj (rm_go2 ρ).2 = rObj ρ := by
  unfold rm_go2 rm_go1
  rw [rp_pileN, rp_regsN]
/-- a new thing of what kind w, r references, i ints -/
def rm_zeroN (row : Nat → Int32) (o f : Int32) : Nat → (Nat → Int32)
  | 0 => row
  | n + 1 => rm_zeroN (upd row (o * 16 + f).toNatClampNeg 0) o (f + 1) n
def rs_zeroN (o f : Int32) : Nat → Prop
  | 0 => True
  | n + 1 => vp_in (o * 16 + f) 1921024 ∧ rs_zeroN o (f + 1) n
def rm_add1 (ρ : rm_S) (o w r i : Int32) : rm_S := vInts (vRefs (vKind ρ (upd (rKind ρ) o.toNatClampNeg (vp_nar .byte w.toInt8.toInt32))) (upd (rRefs ρ) o.toNatClampNeg (vp_nar .byte r.toInt8.toInt32))) (upd (rInts ρ) o.toNatClampNeg (vp_nar .byte i.toInt8.toInt32))
def rm_new (ρ : rm_S) : Int32 := if rGiv ρ ≤ 0 then rObj ρ else rBack ρ (rGiv ρ - 1).toNatClampNeg
def rm_tk (ρ : rm_S) : rm_S := if rGiv ρ ≤ 0 then vObj ρ (rObj ρ + 1) else vGiv ρ (rGiv ρ - 1)
def rm_add (ρ : rm_S) (w r i : Int32) : Int32 × rm_S := (rm_new ρ, vRow (rm_add1 (rm_tk ρ) (rm_new ρ) w r i) (rm_zeroN (rRow ρ) (rm_new ρ) 0 16))
def rs_add (ρ : rm_S) : Prop := (¬ rGiv ρ ≤ 0 → vp_in (rGiv ρ - 1) 120064) ∧ vp_in (rm_new ρ) 120064 ∧ rs_zeroN (rm_new ρ) 0 16
def rm_room (k lim : Int32) (ρ : rm_S) (n : Int32) : Int32 × rm_S :=
  if rm_done k ρ = 0 then (1, vMade ρ (rMade ρ + n.toInt64)) else if rRea ρ ≤ lim then
    (if lg_cmp ((rRea ρ).toInt64 + rMade ρ + n.toInt64) lim.toInt64 ≤ 0 then (1, vMade ρ (rMade ρ + n.toInt64)) else
      (1, vMade (vRea (rm_go (vCyc ρ (rCyc ρ + 1))).2 (rm_go (vCyc ρ (rCyc ρ + 1))).1) (0 + n.toInt64))) else (0, ρ)
def rs_room (ρ : rm_S) : Prop := rs_go (vCyc ρ (rCyc ρ + 1))
