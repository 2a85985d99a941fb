/-! ===== THE TIE: the reference's things are the abstract heap's ===== -/
/-- thing q is there -/
def jr_L (ρ : rm_S) (ob q : Nat) : Prop := q < ob ∧ rKind ρ q ≠ 0
def jr_U (ρ : rm_S) (ob p : Nat) : Prop := ∃ q, p = q + 1 ∧ jr_L ρ ob q
/-- what a field may hold: w is its holder's level (0: a plain thing; 1 + 2 d + x: d levels of nodes below, x 1 for references) -/
def jr_v (ρ : rm_S) (ow : Nat → Nat) (ob w x : Nat) : Prop := x = 0 ∨ ∃ q, x = q + 1 ∧ jr_L ρ ob q ∧ (w ≤ 2 → rKind ρ q ≠ 3) ∧ (2 < w → rKind ρ q = 3 ∧ ow x + 2 = w)
def jr_h (n : Nat) : Nat := if n ≤ 15 then 0 else if n ≤ 225 then 1 else 2
def jr_s (ρ : rm_S) (ow : Nat → Nat) (hd : Int32) (o : Nat) : Prop :=
  (rKind ρ o = 1 ∧ ow (o + 1) = 0 ∧ ∃ r i, r + i ≤ 15 ∧ hd = hd_obj (nI r) (nI i)) ∨
  (rKind ρ o = 2 ∧ ∃ n x, n ≤ 3375 ∧ x < 2 ∧ hd = hd_arr (nI n) (nI x) ∧ ow (o + 1) = 1 + 2 * jr_h n + x ∧ rLen ρ o = nI n ∧ rOfr ρ o = nI x) ∨
  (rKind ρ o = 3 ∧ ∃ d x, d < 2 ∧ x < 2 ∧ ow (o + 1) = 1 + 2 * d + x ∧ hd = hd_obj (nI (if d + x = 0 then 0 else 15)) (nI (if d + x = 0 then 15 else 0)))
def jr_o (ρ : rm_S) (α : ab_A) (ow : Nat → Nat) (ob o : Nat) : Prop :=
  rRefs ρ o = nI (aT α (o + 1)) ∧ rInts ρ o = nI (aP α (o + 1)) ∧ jr_s ρ ow (aH α (o + 1)) o ∧
  (∀ j, j < aT α (o + 1) → rRow ρ (o * 16 + j) = nI (aF α (o + 1) j) ∧ jr_v ρ ow ob (ow (o + 1)) (aF α (o + 1) j)) ∧
  (∀ j, j < aP α (o + 1) → rRow ρ (o * 16 + aT α (o + 1) + j) = aI α (o + 1) j)
def jr (ρ : rm_S) (α : ab_A) (ow : Nat → Nat) (ob : Nat) : Prop :=
  rm_ok ρ ob ∧ (∀ t, t < 8 → rReg ρ t = nI (aR α t) ∧ jr_v ρ ow ob 0 (aR α t)) ∧ ∀ o, jr_L ρ ob o → jr_o ρ α ow ob o
theorem jr_h_le (n : Nat) : jr_h n ≤ 2 := by
  unfold jr_h
  split
  · omega
  · split <;> omega
theorem jr_sz {ρ : rm_S} {ow : Nat → Nat} {hd : Int32} {o : Nat} (h : jr_s ρ ow hd o) : gc_ok hd ∧ hT hd + hP hd ≤ 15 ∧ (ow (o + 1) = 0 ↔ rKind ρ o = 1) ∧ (ow (o + 1) ≠ 0 → hT hd = (if ow (o + 1) = 1 then 0 else 15) ∧ hP hd = (if ow (o + 1) = 1 then 15 else 0)) ∧ (rKind ρ o = 3 → ow (o + 1) ≤ 4) ∧ ow (o + 1) ≤ 6 := by
  rcases h with ⟨k1, w1, r, i, hri, rfl⟩ | ⟨k1, n, x, hn, hx, rfl, hw, -, -⟩ | ⟨k1, d, x, hd1, hx, hw, rfl⟩
  · obtain ⟨t1, t2, -, -⟩ := ho_T (r := r) (i := i) (by omega) (by omega)
    refine ⟨ho_ok hri, by omega, ⟨fun _ => k1, fun _ => w1⟩, fun z => absurd w1 z, fun _ => by omega, by omega⟩
  · obtain ⟨-, -, -, t1, t2, t3, -⟩ := ha_T hn hx
    have e1 : hT (hd_arr (nI n) (nI x)) = (if ow (o + 1) = 1 then 0 else 15) := by
      rw [t1, hw]
      unfold jr_h
      repeat' split
      all_goals omega
    have e2 : hP (hd_arr (nI n) (nI x)) = (if ow (o + 1) = 1 then 15 else 0) := by
      rw [t2, hw]
      unfold jr_h
      repeat' split
      all_goals omega
    have := jr_h_le n
    refine ⟨t3, by rw [e1, e2]; split <;> omega, ⟨fun z => by omega, fun z => ?_⟩, fun _ => ⟨e1, e2⟩, fun z => ?_, by omega⟩
    · rw [k1] at z; exact absurd z (by decide)
    · rw [k1] at z; exact absurd z (by decide)
  · have q : (if d + x = 0 then 0 else 15) + (if d + x = 0 then 15 else 0) = 15 := by split <;> rfl
    have q1 : (if d + x = 0 then 0 else 15) < 16 := by split <;> omega
    have q2 : (if d + x = 0 then 15 else 0) < 16 := by split <;> omega
    obtain ⟨t1, t2, -, -⟩ := ho_T q1 q2
    refine ⟨ho_ok (by omega), by omega, ⟨fun z => by omega, fun z => ?_⟩, fun _ => ⟨?_, ?_⟩, fun _ => by omega, by omega⟩
    · rw [k1] at z; exact absurd z (by decide)
    · rw [t1]
      by_cases h : d + x = 0
      · rw [if_pos h, if_pos (by omega)]
      · rw [if_neg h, if_neg (by omega)]
    · rw [t2]
      by_cases h : d + x = 0
      · rw [if_pos h, if_pos (by omega)]
      · rw [if_neg h, if_neg (by omega)]
theorem jr_v.le {ρ : rm_S} {ow : Nat → Nat} {ob w x : Nat} (h : jr_v ρ ow ob w x) : x ≤ ob := by
  rcases h with rfl | ⟨q, rfl, h, -⟩
  · omega
  · have := h.1; omega
theorem jr_v.U {ρ : rm_S} {ow : Nat → Nat} {ob w x : Nat} (h : jr_v ρ ow ob w x) (hz : x ≠ 0) : jr_U ρ ob x := by
  rcases h with rfl | ⟨q, rfl, h, -⟩
  · exact absurd rfl hz
  · exact ⟨q, rfl, h⟩
theorem jr_v.low {ρ : rm_S} {ow : Nat → Nat} {ob w v x : Nat} (h : jr_v ρ ow ob w x) (h1 : w ≤ 2) (h2 : v ≤ 2) : jr_v ρ ow ob v x := by
  rcases h with rfl | ⟨q, rfl, h, h3, -⟩
  · exact Or.inl rfl
  · exact Or.inr ⟨q, rfl, h, fun _ => h3 h1, fun z => by omega⟩
theorem jr_cells {ρ : rm_S} {α : ab_A} {ow : Nat → Nat} {ob o : Nat} (ho : o < 2 ^ 31) (h : jr_o ρ α ow ob o) : rm_cells ρ (nI o) = nI (aC α (o + 1)) := by
  obtain ⟨e1, e2, hs, -⟩ := h
  obtain ⟨-, hle, hk, hw, -⟩ := jr_sz hs
  unfold rm_cells
  rw [nI_clamp ho, e1, e2]
  by_cases hz : rKind ρ o = 1
  · rw [if_pos hz, show (1 : Int32) = nI 1 from rfl, nI_add, nI_add]
    rfl
  · rw [if_neg hz]
    obtain ⟨t1, t2⟩ := hw (fun z => hz (hk.mp z))
    have : aC α (o + 1) = 1 + hT (aH α (o + 1)) + hP (aH α (o + 1)) := rfl
    rw [this, t1, t2]
    split <;> rfl
theorem jr.H {ρ : rm_S} {α : ab_A} {ow : Nat → Nat} {ob : Nat} (h : jr ρ α ow ob) : rg_H ρ α ob (jr_U ρ ob) := by
  obtain ⟨ok, hr, ho⟩ := h
  have hb := ok.2.1
  refine ⟨hb, fun t ht => (hr t ht).1, fun o hU => ?_, fun hU => ?_, fun t ht hz => (hr t ht).2.U hz, fun p j hU hj hz => ?_⟩
  · obtain ⟨q, hq, hL⟩ := hU
    have : o = q := by omega
    subst this
    have h1 := ho o hL
    exact ⟨hL.1, h1.1, jr_cells (by have := hL.1; omega) h1, fun j hj => (h1.2.2.2.1 j hj).1⟩
  · obtain ⟨q, hq, -⟩ := hU
    omega
  · obtain ⟨q, rfl, hL⟩ := hU
    exact ((ho q hL).2.2.2.1 j hj).2.U hz
theorem jr_setReg {ρ : rm_S} {α : ab_A} {ow : Nat → Nat} {ob t r : Nat} (h : jr ρ α ow ob) (hr : jr_v ρ ow ob 0 r) : jr (vReg ρ (upd (rReg ρ) t (nI r))) (abR α t r) ow ob := by
  obtain ⟨⟨k1, k2, k3, k4, k5⟩, hg, ho⟩ := h
  refine ⟨⟨k1, k2, fun u hu => ?_, k4, k5⟩, fun u hu => ?_, ho⟩
  · show ∃ x, x ≤ ob ∧ upd (rReg ρ) t (nI r) u = nI x
    by_cases hz : u = t
    · rw [hz, pk_us]; exact ⟨r, hr.le, rfl⟩
    · rw [pk_un hz]; exact k3 u hu
  · show upd (rReg ρ) t (nI r) u = nI (if u = t then r else aR α u) ∧ jr_v ρ ow ob 0 (if u = t then r else aR α u)
    by_cases hz : u = t
    · rw [hz, pk_us, if_pos rfl]; exact ⟨rfl, hr⟩
    · rw [pk_un hz, if_neg hz]; exact hg u hu
theorem jr_F {ρ : rm_S} {α : ab_A} {ow : Nat → Nat} {ob z j r : Nat} (h : jr ρ α ow ob) (hz : jr_L ρ ob z) (hj : j < aT α (z + 1)) (hr : jr_v ρ ow ob (ow (z + 1)) r) : jr (vRow ρ (upd (rRow ρ) (z * 16 + j) (nI r))) (abF α (z + 1) j r) ow ob := by
  obtain ⟨⟨k1, k2, k3, k4, k5⟩, hg, ho⟩ := h
  have hj16 : aT α (z + 1) < 16 := (hT_lt (aH α (z + 1))).1
  refine ⟨⟨k1, k2, k3, k4, fun o f r1 h1 h2 h3 h4 => ?_⟩, hg, fun o hL => ?_⟩
  · show ∃ x, x ≤ ob ∧ upd (rRow ρ) (z * 16 + j) (nI r) (o * 16 + f) = nI x
    by_cases e : o * 16 + f = z * 16 + j
    · rw [e, pk_us]; exact ⟨r, hr.le, rfl⟩
    · rw [pk_un e]; exact k5 o f r1 h1 h2 h3 h4
  · obtain ⟨e1, e2, e3, e4, e5⟩ := ho o hL
    have ho16 : aT α (o + 1) < 16 := (hT_lt (aH α (o + 1))).1
    have hs := (jr_sz e3).2.1
    have hs : aT α (o + 1) + aP α (o + 1) ≤ 15 := hs
    refine ⟨e1, e2, e3, fun i hi => ?_, fun i hi => ?_⟩
    · have hi : i < aT α (o + 1) := hi
      show upd (rRow ρ) (z * 16 + j) (nI r) (o * 16 + i) = nI (if o + 1 = z + 1 ∧ i = j then r else aF α (o + 1) i) ∧ jr_v ρ ow ob (ow (o + 1)) (if o + 1 = z + 1 ∧ i = j then r else aF α (o + 1) i)
      by_cases e : o = z ∧ i = j
      · obtain ⟨rfl, rfl⟩ := e
        rw [pk_us, if_pos ⟨rfl, rfl⟩]; exact ⟨rfl, hr⟩
      · rw [pk_un (by omega), if_neg (by omega)]; exact e4 i hi
    · have hi : i < aP α (o + 1) := hi
      show upd (rRow ρ) (z * 16 + j) (nI r) (o * 16 + aT α (o + 1) + i) = aI α (o + 1) i
      by_cases e : o = z
      · subst e
        rw [pk_un (by omega)]; exact e5 i hi
      · rw [pk_un (by omega)]; exact e5 i hi
theorem jr_I {ρ : rm_S} {α : ab_A} {ow : Nat → Nat} {ob z j : Nat} {v : Int32} (h : jr ρ α ow ob) (hz : jr_L ρ ob z) (hj : j < aP α (z + 1)) : jr (vRow ρ (upd (rRow ρ) (z * 16 + aT α (z + 1) + j) v)) (abI α (z + 1) j v) ow ob := by
  obtain ⟨⟨k1, k2, k3, k4, k5⟩, hg, ho⟩ := h
  have hz3 := ho z hz
  have hzs : aT α (z + 1) + aP α (z + 1) ≤ 15 := (jr_sz hz3.2.2.1).2.1
  refine ⟨⟨k1, k2, k3, k4, fun o f r1 h1 h2 h3 h4 => ?_⟩, hg, fun o hL => ?_⟩
  · show ∃ x, x ≤ ob ∧ upd (rRow ρ) (z * 16 + aT α (z + 1) + j) v (o * 16 + f) = nI x
    by_cases e : o * 16 + f = z * 16 + aT α (z + 1) + j
    · exfalso
      have e1 : o = z := by omega
      subst e1
      have h2 : rRefs ρ o = nI r1 := h2
      rw [hz3.1] at h2
      have := (nI_eq (by omega) (by omega)).mp h2
      omega
    · rw [pk_un e]; exact k5 o f r1 h1 h2 h3 h4
  · obtain ⟨e1, e2, e3, e4, e5⟩ := ho o hL
    have hs : aT α (o + 1) + aP α (o + 1) ≤ 15 := (jr_sz e3).2.1
    refine ⟨e1, e2, e3, fun i hi => ?_, fun i hi => ?_⟩
    · have hi : i < aT α (o + 1) := hi
      show upd (rRow ρ) (z * 16 + aT α (z + 1) + j) v (o * 16 + i) = nI (aF α (o + 1) i) ∧ jr_v ρ ow ob (ow (o + 1)) (aF α (o + 1) i)
      by_cases e : o = z
      · subst e
        rw [pk_un (by omega)]; exact e4 i hi
      · rw [pk_un (by omega)]; exact e4 i hi
    · have hi : i < aP α (o + 1) := hi
      show upd (rRow ρ) (z * 16 + aT α (z + 1) + j) v (o * 16 + aT α (o + 1) + i) = (if o + 1 = z + 1 ∧ i = j then v else aI α (o + 1) i)
      by_cases e : o = z ∧ i = j
      · obtain ⟨rfl, rfl⟩ := e
        rw [pk_us, if_pos ⟨rfl, rfl⟩]
      · rw [if_neg (by omega)]
        by_cases e9 : o = z
        · subst e9
          rw [pk_un (by omega)]; exact e5 i hi
        · rw [pk_un (by omega)]; exact e5 i hi
/-- a new thing -/
def jr_f (ρ : rm_S) (ob ob' o : Nat) : Prop := (o < ob ∧ ob' = ob ∧ rKind ρ o = 0) ∨ (o = ob ∧ ob' = ob + 1)
theorem jr_f.nL {ρ : rm_S} {ob ob' o : Nat} (h : jr_f ρ ob ob' o) : ¬ jr_L ρ ob o := by
  intro z
  rcases h with ⟨h1, -, h3⟩ | ⟨h1, -⟩
  · exact z.2 h3
  · have := z.1; omega
theorem jr_N {ρ ρ' : rm_S} {α : ab_A} {ow : Nat → Nat} {ob ob' o w : Nat} {hd kk : Int32} (h : jr ρ α ow ob) (hf : jr_f ρ ob ob' o) (hb : ob' < 100000) (h0 : kk ≠ 0)
    (e1 : rKind ρ' = upd (rKind ρ) o kk) (e2 : rRefs ρ' = upd (rRefs ρ) o (nI (hT hd))) (e3 : rInts ρ' = upd (rInts ρ) o (nI (hP hd))) (e4 : ∀ q, q ≠ o → rLen ρ' q = rLen ρ q ∧ rOfr ρ' q = rOfr ρ q)
    (e5 : ∀ p, rRow ρ' p = (if p / 16 = o then 0 else rRow ρ p)) (e6 : rReg ρ' = rReg ρ) (e7 : rObj ρ' = nI ob') (hs : jr_s ρ' (fun p => if p = o + 1 then w else ow p) hd o) :
    jr ρ' (abN α (o + 1) hd) (fun p => if p = o + 1 then w else ow p) ob' ∧ (∀ q, jr_L ρ ob q → jr_L ρ' ob' q) ∧ jr_L ρ' ob' o ∧ ∀ q, jr_L ρ' ob' q → q = o ∨ jr_L ρ ob q := by
  have hn := hf.nL
  have hle : ob ≤ ob' ∧ o < ob' := by rcases hf with ⟨h1, h2, -⟩ | ⟨h1, h2⟩ <;> omega
  have hL : ∀ q, jr_L ρ ob q → jr_L ρ' ob' q ∧ rKind ρ' q = rKind ρ q ∧ q ≠ o := by
    intro q hq
    have hne : q ≠ o := fun z => hn (z ▸ hq)
    have ek : rKind ρ' q = rKind ρ q := by rw [e1, pk_un hne]
    exact ⟨⟨by have := hq.1; omega, by rw [ek]; exact hq.2⟩, ek, hne⟩
  have hv : ∀ w' x, jr_v ρ ow ob w' x → jr_v ρ' (fun p => if p = o + 1 then w else ow p) ob' w' x := by
    intro w' x hx
    rcases hx with rfl | ⟨q, rfl, h1, h2, h3⟩
    · exact Or.inl rfl
    · obtain ⟨a1, a2, a3⟩ := hL q h1
      refine Or.inr ⟨q, rfl, a1, by rw [a2]; exact h2, ?_⟩
      rw [a2]
      show 2 < w' → rKind ρ q = 3 ∧ (if q + 1 = o + 1 then w else ow (q + 1)) + 2 = w'
      rw [if_neg (by omega)]
      exact h3
  have hLi : ∀ q, jr_L ρ' ob' q → q = o ∨ jr_L ρ ob q := by
    intro q hq
    by_cases hne : q = o
    · exact Or.inl hne
    · refine Or.inr ⟨?_, ?_⟩
      · have := hq.1
        rcases hf with ⟨h1, h2, -⟩ | ⟨h1, h2⟩ <;> omega
      · have := hq.2
        rw [e1, pk_un hne] at this
        exact this
  have hsz := (jr_sz hs).2.1
  obtain ⟨⟨k1, k2, k3, k4, k5⟩, hg, ho⟩ := h
  refine ⟨⟨⟨e7, hb, fun t ht => ?_, fun q hq => ?_, fun q f r1 h1 h2 h3 h4 => ?_⟩, fun t ht => ?_, fun q hq => ?_⟩, fun q hq => (hL q hq).1, ⟨hle.2, by rw [e1, pk_us]; exact h0⟩, hLi⟩
  · rw [e6]
    obtain ⟨x, hx, ex⟩ := k3 t ht
    exact ⟨x, by omega, ex⟩
  · rw [e2, e3]
    by_cases hne : q = o
    · rw [hne, pk_us, pk_us]; exact ⟨_, _, hsz, rfl, rfl⟩
    · rw [pk_un hne, pk_un hne]
      exact k4 q (by rcases hf with ⟨h1, h2, -⟩ | ⟨h1, h2⟩ <;> omega)
  · rw [e5]
    by_cases hne : q = o
    · rw [if_pos (by omega)]; exact ⟨0, by omega, nI_0.symm⟩
    · rw [if_neg (by omega)]
      rw [e2, pk_un hne] at h2
      obtain ⟨x, hx, ex⟩ := k5 q f r1 (by rcases hf with ⟨h1, h2, -⟩ | ⟨h1, h2⟩ <;> omega) h2 h3 h4
      exact ⟨x, by omega, ex⟩
  · rw [e6]
    exact ⟨(hg t ht).1, hv 0 _ (hg t ht).2⟩
  · rcases hLi q hq with rfl | hq1
    · have eH : aH (abN α (q + 1) hd) (q + 1) = hd := abN_Ho
      refine ⟨?_, ?_, ?_, fun j hj => ?_, fun j hj => ?_⟩
      · rw [e2, pk_us]; show nI (hT hd) = nI (hT (aH (abN α (q + 1) hd) (q + 1))); rw [eH]
      · rw [e3, pk_us]; show nI (hP hd) = nI (hP (aH (abN α (q + 1) hd) (q + 1))); rw [eH]
      · rw [eH]; exact hs
      · have hj : j < hT (aH (abN α (q + 1) hd) (q + 1)) := hj
        rw [eH] at hj
        have eF : aF (abN α (q + 1) hd) (q + 1) j = 0 := by show (if q + 1 = q + 1 then 0 else _) = 0; rw [if_pos rfl]
        rw [eF, e5, if_pos (by omega)]
        exact ⟨nI_0.symm, Or.inl rfl⟩
      · have hj : j < hP (aH (abN α (q + 1) hd) (q + 1)) := hj
        show rRow ρ' (q * 16 + hT (aH (abN α (q + 1) hd) (q + 1)) + j) = _
        rw [eH] at hj ⊢
        have eI : aI (abN α (q + 1) hd) (q + 1) j = 0 := by show (if q + 1 = q + 1 then 0 else _) = 0; rw [if_pos rfl]
        rw [eI, e5, if_pos (by omega)]
    · obtain ⟨a1, a2, a3⟩ := hL q hq1
      obtain ⟨f1, f2, f3, f4, f5⟩ := ho q hq1
      have eH : aH (abN α (o + 1) hd) (q + 1) = aH α (q + 1) := abN_H (by omega)
      have hs2 := (jr_sz f3).2.1
      have ew : (if q + 1 = o + 1 then w else ow (q + 1)) = ow (q + 1) := if_neg (by omega)
      refine ⟨?_, ?_, ?_, fun j hj => ?_, fun j hj => ?_⟩
      · rw [e2, pk_un a3, f1]; show _ = nI (hT (aH (abN α (o + 1) hd) (q + 1))); rw [eH]
      · rw [e3, pk_un a3, f2]; show _ = nI (hP (aH (abN α (o + 1) hd) (q + 1))); rw [eH]
      · rw [eH]
        unfold jr_s
        rw [a2, (e4 q a3).1, (e4 q a3).2]
        show (_ ∧ (if q + 1 = o + 1 then w else ow (q + 1)) = _ ∧ _) ∨ (_ ∧ ∃ n x, _ ∧ _ ∧ _ ∧ (if q + 1 = o + 1 then w else ow (q + 1)) = _ ∧ _) ∨ (_ ∧ ∃ d x, _ ∧ _ ∧ (if q + 1 = o + 1 then w else ow (q + 1)) = _ ∧ _)
        rw [ew]
        exact f3
      · have hj : j < hT (aH (abN α (o + 1) hd) (q + 1)) := hj
        rw [eH] at hj
        rw [abN_F (by omega), e5, if_neg (by omega)]
        refine ⟨(f4 j hj).1, ?_⟩
        show jr_v ρ' _ ob' (if q + 1 = o + 1 then w else ow (q + 1)) _
        rw [ew]
        exact hv _ _ (f4 j hj).2
      · have hj : j < hP (aH (abN α (o + 1) hd) (q + 1)) := hj
        show rRow ρ' (q * 16 + hT (aH (abN α (o + 1) hd) (q + 1)) + j) = _
        rw [eH] at hj ⊢
        rw [abN_I (by omega), e5, if_neg (by omega)]
        exact f5 j hj
