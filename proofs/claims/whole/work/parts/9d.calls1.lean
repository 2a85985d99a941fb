/-! ===== THE CALLS, side by side: fields, registers, what is told ===== -/
def jj (κ : sh_K) (σ : sh_S) (ρ : rm_S) (h k N : Nat) : Prop :=
  ∃ (α : ab_A) (ow : Nat → Nat) (made beg R ob : Nat) (F : List Nat), gc_X κ σ α h k made beg R (jr_U ρ ob) (fun _ _ => False) (700 * k + 200) ∧ jr ρ α ow ob ∧ jn ρ made R beg ob F ∧ ob ≤ N ∧ beg ≤ N
/-- the head that a register leads to -/
def jr_hd (α : ab_A) (o : Int32) : Int32 := if sh_isReg o = 0 then 0 else if aR α o.toNatClampNeg = 0 then 0 else aH α (aR α o.toNatClampNeg)
theorem cx_head {κ : sh_K} {σ : sh_S} {α : ab_A} {h k made beg R c : Nat} {U : Nat → Prop} {W : Nat → Int32 → Prop} (X : gc_X κ σ α h k made beg R U W c) (o : Int32) : (sh_head κ σ o).1 = jr_hd α o ∧ gc_X κ (sh_head κ σ o).2 α h k made beg R U W 1 := by
  unfold jr_hd
  by_cases ho : sh_isReg o = 0
  · rw [if_pos ho]
    have er : sh_reg (uC σ (sh_start σ.1)) o = 0 := by unfold sh_reg; rw [if_pos ho]
    have e : sh_head κ σ o = (0, uC σ (sh_start σ.1)) := by
      unfold sh_head
      dsimp only
      rw [if_pos er]
    rw [e]
    exact ⟨rfl, gx_mono (gx_start X) (fun _ _ z => z) (by omega) (fun _ z => z)⟩
  · rw [if_neg ho]
    obtain ⟨t, ht, rfl⟩ := ri_isReg ho
    rw [nI_clamp (by omega)]
    exact gx_head X ht
theorem sb_cases (f : Int32) {n : Nat} (hn : n < 2 ^ 31) : (sh_below f (nI n) = 0 ∧ (f < 0 ∨ (¬ f < 0 ∧ nI n ≤ f))) ∨ ∃ j, j < n ∧ f = nI j ∧ sh_below f (nI n) = 1 := by
  unfold sh_below
  by_cases h1 : f < 0
  · rw [if_pos h1]; exact Or.inl ⟨rfl, Or.inl h1⟩
  · rw [if_neg h1]
    by_cases h2 : nI n ≤ f
    · rw [if_pos h2]; exact Or.inl ⟨rfl, Or.inr ⟨h1, h2⟩⟩
    · rw [if_neg h2]
      rcases pk_ix f hn with h | h | ⟨j, hj, e⟩
      · exact absurd h h1
      · exact absurd h h2
      · exact Or.inr ⟨j, hj, e, rfl⟩
/-- a register holds nothing, a plain thing or an array -/
theorem jr_at {ρ : rm_S} {α : ab_A} {ow : Nat → Nat} {ob t : Nat} (J : jr ρ α ow ob) (ht : t < 8) : (aR α t = 0 ∧ rReg ρ t = 0) ∨ ∃ q, aR α t = q + 1 ∧ ¬ rReg ρ t = 0 ∧ rm_o ρ (nI t) = nI q ∧ q < 100000 ∧ jr_L ρ ob q ∧ jr_o ρ α ow ob q ∧
    ((rKind ρ q = 1 ∧ hd_isArr (aH α (q + 1)) = 0) ∨ (rKind ρ q = 2 ∧ ∃ n x, n ≤ 3375 ∧ x < 2 ∧ aH α (q + 1) = hd_arr (nI n) (nI x) ∧ ow (q + 1) = 1 + 2 * jr_h n + x ∧ rLen ρ q = nI n ∧ rOfr ρ q = nI x)) := by
  obtain ⟨e, hv⟩ := J.2.1 t ht
  have hob := J.1.2.1
  rcases hv with h | ⟨q, hq, hL, h3, -⟩
  · exact Or.inl ⟨h, by rw [e, h, nI_0]⟩
  · have hql := hL.1
    have ho := J.2.2 q hL
    refine Or.inr ⟨q, hq, by rw [e, hq]; exact nI_ne0 (by omega) (by omega), ?_, by omega, hL, ho, ?_⟩
    · unfold rm_o
      rw [nI_clamp (by omega), e, hq, nI_pred]
    · rcases ho.2.2.1 with ⟨k1, -, r, i, hri, eh⟩ | ⟨k1, hh⟩ | ⟨k1, -⟩
      · exact Or.inl ⟨k1, by rw [eh]; exact (ho_T (by omega) (by omega)).2.2.1⟩
      · exact Or.inr ⟨k1, hh⟩
      · exact absurd k1 (h3 (by omega))
theorem hd_0 : hd_refs 0 = nI 0 ∧ hd_ints 0 = nI 0 ∧ ∀ b, hd_items 0 b = nI 0 := ⟨by decide, by decide, fun b => by unfold hd_items; rw [if_pos (by decide)]; rfl⟩
theorem hd_pl {h : Int32} (e : hd_isArr h = 0) : hd_refs h = nI (hT h) ∧ hd_ints h = nI (hP h) ∧ ∀ b, hd_items h b = nI 0 := by
  refine ⟨?_, ?_, fun b => ?_⟩
  · unfold hd_refs; rw [if_pos e]; exact (hT_lt h).2
  · unfold hd_ints; rw [if_pos e]; exact (hP_lt h).2
  · unfold hd_items; rw [if_pos e]; rfl
theorem hd_ar {n x : Nat} (hn : n ≤ 3375) (hx : x < 2) : hd_refs (hd_arr (nI n) (nI x)) = nI 0 ∧ hd_ints (hd_arr (nI n) (nI x)) = nI 0 ∧ ∀ b, hd_items (hd_arr (nI n) (nI x)) b = (if nI x = b then nI n else nI 0) := by
  obtain ⟨t1, t2, t3, -⟩ := ha_T hn hx
  have hne : ¬ hd_isArr (hd_arr (nI n) (nI x)) = 0 := by rw [t1]; decide
  refine ⟨?_, ?_, fun b => ?_⟩
  · unfold hd_refs; rw [if_neg hne]; rfl
  · unfold hd_ints; rw [if_neg hne]; rfl
  · unfold hd_items; rw [if_neg hne, t2, t3]; rfl
/-- a field by register and number: both sides find it, or neither does -/
theorem jr_field {ρ : rm_S} {α : ab_A} {ow : Nat → Nat} {ob : Nat} (J : jr ρ α ow ob) (o f : Int32) :
    ((sh_below f (hd_refs (jr_hd α o)) = 0 ∧ rm_field ρ o f 1 = -1) ∨ ∃ t q j, t < 8 ∧ o = nI t ∧ aR α t = q + 1 ∧ jr_L ρ ob q ∧ q < 100000 ∧ ow (q + 1) = 0 ∧ j < aT α (q + 1) ∧ f = nI j ∧ ¬ sh_below f (hd_refs (jr_hd α o)) = 0 ∧ rm_field ρ o f 1 = nI (q * 16 + j)) ∧
    ((sh_below f (hd_ints (jr_hd α o)) = 0 ∧ rm_field ρ o f 0 = -1) ∨ ∃ t q j, t < 8 ∧ o = nI t ∧ aR α t = q + 1 ∧ jr_L ρ ob q ∧ q < 100000 ∧ j < aP α (q + 1) ∧ f = nI j ∧ ¬ sh_below f (hd_ints (jr_hd α o)) = 0 ∧ hd_refs (jr_hd α o) = nI (aT α (q + 1)) ∧ rm_field ρ o f 0 = nI (q * 16 + aT α (q + 1) + j)) := by
  have b0 : ∀ f, sh_below f (nI 0) = 0 := fun f => by
    rcases sb_cases f (n := 0) (by decide) with h | ⟨j, hj, -⟩
    · exact h.1
    · omega
  by_cases c1 : sh_isReg o = 0
  · have e1 : jr_hd α o = 0 := by unfold jr_hd; rw [if_pos c1]
    have e2 : ∀ b, rm_field ρ o f b = -1 := fun b => by unfold rm_field; rw [if_pos c1]
    rw [e1, hd_0.1, hd_0.2.1]
    exact ⟨Or.inl ⟨b0 f, e2 1⟩, Or.inl ⟨b0 f, e2 0⟩⟩
  obtain ⟨t, ht, rfl⟩ := ri_isReg c1
  have et : (nI t).toNatClampNeg = t := nI_clamp (by omega)
  rcases jr_at J ht with ⟨c2, c3⟩ | ⟨q, hq, c3, eo, hq5, hL, ho, hk⟩
  · have e1 : jr_hd α (nI t) = 0 := by unfold jr_hd; rw [if_neg c1, et, if_pos c2]
    have e2 : ∀ b, rm_field ρ (nI t) f b = -1 := fun b => by unfold rm_field; rw [if_neg c1, et, if_pos c3]
    rw [e1, hd_0.1, hd_0.2.1]
    exact ⟨Or.inl ⟨b0 f, e2 1⟩, Or.inl ⟨b0 f, e2 0⟩⟩
  have e1 : jr_hd α (nI t) = aH α (q + 1) := by unfold jr_hd; rw [if_neg c1, et, if_neg (by omega), hq]
  rw [e1]
  rcases hk with ⟨k1, ha⟩ | ⟨k1, n, x, hn, hx, eh, -⟩
  · obtain ⟨p1, p2, -⟩ := hd_pl ha
    have hw0 : ow (q + 1) = 0 := (jr_sz ho.2.2.1).2.2.1.mpr k1
    have hsz : aT α (q + 1) + aP α (q + 1) ≤ 15 := (jr_sz ho.2.2.1).2.1
    rw [p1, p2]
    have e2 : ∀ b, rm_field ρ (nI t) f b = (if f < 0 then -1 else if f < (if b = 0 then nI (aP α (q + 1)) else nI (aT α (q + 1))) then nI q * 16 + (if b = 0 then nI (aT α (q + 1)) + f else f) else -1) := fun b => by
      unfold rm_field
      rw [if_neg c1, et, if_neg c3, eo, nI_clamp (by omega), if_pos k1, ho.1, ho.2.1]
    refine ⟨?_, ?_⟩
    · rw [e2 1, if_neg (show ¬ (1 : Int32) = 0 by decide), if_neg (show ¬ (1 : Int32) = 0 by decide)]
      rcases sb_cases f (n := hT (aH α (q + 1))) (by have := (hT_lt (aH α (q + 1))).1; omega) with ⟨h1, h2 | ⟨h2, h3⟩⟩ | ⟨j, hj, rfl, hs⟩
      · exact Or.inl ⟨h1, if_pos h2⟩
      · exact Or.inl ⟨h1, by rw [if_neg h2, if_neg (Int32.not_lt.mpr h3)]⟩
      · refine Or.inr ⟨t, q, j, ht, rfl, hq, hL, hq5, hw0, hj, rfl, by rw [hs]; decide, ?_⟩
        have hj' : j < aT α (q + 1) := hj
        rw [if_neg (nI_pos (by omega)), if_pos (nI_lt hj' (by omega)), show (16 : Int32) = nI 16 from rfl, pk_mul, nI_add]
    · rw [e2 0, if_pos rfl, if_pos rfl]
      rcases sb_cases f (n := hP (aH α (q + 1))) (by have := (hP_lt (aH α (q + 1))).1; omega) with ⟨h1, h2 | ⟨h2, h3⟩⟩ | ⟨j, hj, rfl, hs⟩
      · exact Or.inl ⟨h1, if_pos h2⟩
      · exact Or.inl ⟨h1, by rw [if_neg h2, if_neg (Int32.not_lt.mpr h3)]⟩
      · refine Or.inr ⟨t, q, j, ht, rfl, hq, hL, hq5, hj, rfl, by rw [hs]; decide, rfl, ?_⟩
        have hj' : j < aP α (q + 1) := hj
        rw [if_neg (nI_pos (by omega)), if_pos (nI_lt hj' (by omega)), show (16 : Int32) = nI 16 from rfl, pk_mul, nI_add, nI_add, Nat.add_assoc]
  · obtain ⟨p1, p2, -⟩ := hd_ar hn hx
    have e2 : ∀ b, rm_field ρ (nI t) f b = -1 := fun b => by
      unfold rm_field
      rw [if_neg c1, et, if_neg c3, eo, nI_clamp (by omega), k1, if_neg (by decide)]
    rw [eh, p1, p2]
    exact ⟨Or.inl ⟨b0 f, e2 1⟩, Or.inl ⟨b0 f, e2 0⟩⟩
theorem nI_nm1 {n : Nat} (hn : n < 2 ^ 31) : ¬ nI n = -1 := fun z => nI_pos hn (by rw [z]; decide)
section CALLS1
variable {κ : sh_K} {σ : sh_S} {ρ : rm_S} {h k N : Nat}
theorem jc_get (jx : jj κ σ ρ h k N) (t o f : Int32) : (sh_get κ σ t o f).1 = (rm_get ρ t o f).1 ∧ jj κ (sh_get κ σ t o f).2 (rm_get ρ t o f).2 h k (N + 1) := by
  obtain ⟨α, ow, made, beg, R, ob, F, X, J, nn, l1, l2⟩ := jx
  have hk := X.1.2.2.1
  obtain ⟨eh, X1⟩ := cx_head X o
  unfold sh_get rm_get
  dsimp only
  generalize sh_head κ σ o = hq at eh X1 ⊢
  rw [eh]
  have same : jj κ hq.2 ρ h k (N + 1) := ⟨α, ow, made, beg, R, ob, F, gx_mono X1 (fun _ _ z => z) (by omega) (fun _ z => z), J, nn, by omega, by omega⟩
  by_cases c1 : sh_isReg t = 0
  · rw [if_pos c1, if_pos c1]; exact ⟨rfl, same⟩
  rw [if_neg c1, if_neg c1]
  rcases (jr_field J o f).1 with ⟨b1, b2⟩ | ⟨u, q, j, hu, rfl, hq1, hL, hq5, hw, hj, rfl, b1, b2⟩
  · rw [if_pos b1, if_pos b2]; exact ⟨rfl, same⟩
  have hj16 : aT α (q + 1) < 16 := (hT_lt (aH α (q + 1))).1
  rw [if_neg b1, b2, if_neg (nI_nm1 (by omega)), nI_clamp (by omega)]
  obtain ⟨t, ht, rfl⟩ := ri_isReg c1
  have X2 := gx_follow (gx_reg X1 hu) (e := 34) (j := j) (Or.inr ⟨rfl, rfl⟩) (by omega) (by rw [hq1]; exact hj) (Or.inl rfl) (by omega)
  rw [hq1] at X2
  generalize sh_follow κ hq.2 (sh_reg hq.2 (nI u) + 1 + nI j) = w at X2 ⊢
  have X3 := gx_setReg X2 ht (Or.inr ⟨rfl, rfl⟩)
  obtain ⟨er, ev⟩ := (J.2.2 q hL).2.2.2.1 j hj
  refine ⟨rfl, abR α t (aF α (q + 1) j), ow, made, beg, R, ob, F, gx_mono X3 (fun _ _ z => z.elim) (by omega) (fun _ z => z), ?_, nn, by omega, by omega⟩
  rw [er, nI_clamp (by omega)]
  exact jr_setReg J (ev.low (by omega) (by omega))
theorem jc_put (jx : jj κ σ ρ h k N) (o f r : Int32) : (sh_putF κ σ o f r).1 = (rm_put ρ o f r).1 ∧ jj κ (sh_putF κ σ o f r).2 (rm_put ρ o f r).2 h k (N + 1) := by
  obtain ⟨α, ow, made, beg, R, ob, F, X, J, nn, l1, l2⟩ := jx
  have hk := X.1.2.2.1
  obtain ⟨eh, X1⟩ := cx_head X o
  unfold sh_putF rm_put
  dsimp only
  generalize sh_head κ σ o = hq at eh X1 ⊢
  rw [eh]
  have same : jj κ hq.2 ρ h k (N + 1) := ⟨α, ow, made, beg, R, ob, F, gx_mono X1 (fun _ _ z => z) (by omega) (fun _ z => z), J, nn, by omega, by omega⟩
  by_cases c1 : sh_isReg r = 0
  · rw [if_pos c1, if_pos c1]; exact ⟨rfl, same⟩
  rw [if_neg c1, if_neg c1]
  rcases (jr_field J o f).1 with ⟨b1, b2⟩ | ⟨u, q, j, hu, rfl, hq1, hL, hq5, hw, hj, rfl, b1, b2⟩
  · rw [if_pos b1, if_pos b2]; exact ⟨rfl, same⟩
  have hj16 : aT α (q + 1) < 16 := (hT_lt (aH α (q + 1))).1
  rw [if_neg b1, b2, if_neg (nI_nm1 (by omega)), nI_clamp (by omega)]
  obtain ⟨t, ht, rfl⟩ := ri_isReg c1
  have X2 := gx_link (gx_reg (gx_reg X1 hu) ht) (e := 34) (j := j) (r := aR α t) (v := sh_reg hq.2 (nI t)) (Or.inl (Or.inr ⟨rfl, rfl⟩)) (by omega) (by rw [hq1]; exact hj) (Or.inr ⟨rfl, rfl⟩) (Or.inl rfl) (by omega)
  rw [hq1] at X2
  obtain ⟨er, ev⟩ := J.2.1 t ht
  refine ⟨rfl, abF α (q + 1) j (aR α t), ow, made, beg, R, ob, F, gx_mono X2 (fun _ _ z => z.elim) (by omega) (fun _ z => z), ?_, nn, by omega, by omega⟩
  rw [nI_clamp (by omega), er]
  exact jr_F J hL hj (ev.low (by omega) (by omega))
theorem jc_look (jx : jj κ σ ρ h k N) (o f : Int32) : (sh_look κ σ o f).1 = rm_look ρ o f ∧ jj κ (sh_look κ σ o f).2 ρ h k (N + 1) := by
  obtain ⟨α, ow, made, beg, R, ob, F, X, J, nn, l1, l2⟩ := jx
  have hk := X.1.2.2.1
  obtain ⟨eh, X1⟩ := cx_head X o
  unfold sh_look rm_look
  dsimp only
  generalize sh_head κ σ o = hq at eh X1 ⊢
  rw [eh]
  have same : jj κ hq.2 ρ h k (N + 1) := ⟨α, ow, made, beg, R, ob, F, gx_mono X1 (fun _ _ z => z) (by omega) (fun _ z => z), J, nn, by omega, by omega⟩
  rcases (jr_field J o f).2 with ⟨b1, b2⟩ | ⟨u, q, j, hu, rfl, hq1, hL, hq5, hj, rfl, b1, b3, b2⟩
  · rw [if_pos b1, if_pos b2]; exact ⟨rfl, same⟩
  have hsz : aT α (q + 1) + aP α (q + 1) ≤ 15 := (jr_sz (J.2.2 q hL).2.2.1).2.1
  rw [if_neg b1, b2, if_neg (nI_nm1 (by omega)), nI_clamp (by omega), b3]
  have ev := gx_val (gx_reg X1 hu) (z := aR α u) (j := j) (w := sh_reg hq.2 (nI u)) (Or.inr ⟨rfl, rfl⟩) (by omega) (by rw [hq1]; exact hj)
  rw [hq1] at ev
  rw [show sh_reg hq.2 (nI u) + 1 + nI (aT α (q + 1)) + nI j = sh_reg hq.2 (nI u) + 1 + nI (aT α (q + 1) + j) by rw [Int32.add_assoc _ (nI _) (nI j), nI_add], ev, (J.2.2 q hL).2.2.2.2 j hj]
  exact ⟨rfl, α, ow, made, beg, R, ob, F, gx_mono (gx_touch X1 (by omega)) (fun _ _ z => z) (by omega) (fun _ z => z), J, nn, by omega, by omega⟩
theorem jc_set (jx : jj κ σ ρ h k N) (o f v : Int32) : (sh_set κ σ o f v).1 = (rm_set ρ o f v).1 ∧ jj κ (sh_set κ σ o f v).2 (rm_set ρ o f v).2 h k (N + 1) := by
  obtain ⟨α, ow, made, beg, R, ob, F, X, J, nn, l1, l2⟩ := jx
  have hk := X.1.2.2.1
  obtain ⟨eh, X1⟩ := cx_head X o
  unfold sh_set rm_set
  dsimp only
  generalize sh_head κ σ o = hq at eh X1 ⊢
  rw [eh]
  have same : jj κ hq.2 ρ h k (N + 1) := ⟨α, ow, made, beg, R, ob, F, gx_mono X1 (fun _ _ z => z) (by omega) (fun _ z => z), J, nn, by omega, by omega⟩
  rcases (jr_field J o f).2 with ⟨b1, b2⟩ | ⟨u, q, j, hu, rfl, hq1, hL, hq5, hj, rfl, b1, b3, b2⟩
  · rw [if_pos b1, if_pos b2]; exact ⟨rfl, same⟩
  have hsz : aT α (q + 1) + aP α (q + 1) ≤ 15 := (jr_sz (J.2.2 q hL).2.2.1).2.1
  rw [if_neg b1, b2, if_neg (nI_nm1 (by omega)), nI_clamp (by omega), b3]
  have ev := gx_write (gx_reg X1 hu) (z := aR α u) (j := j) (w := sh_reg hq.2 (nI u)) (v := v) (Or.inr ⟨rfl, rfl⟩) (by omega) (by rw [hq1]; exact hj) (by omega)
  rw [hq1] at ev
  rw [show sh_reg hq.2 (nI u) + 1 + nI (aT α (q + 1)) + nI j = sh_reg hq.2 (nI u) + 1 + nI (aT α (q + 1) + j) by rw [Int32.add_assoc _ (nI _) (nI j), nI_add]]
  exact ⟨rfl, abI α (q + 1) j v, ow, made, beg, R, ob, F, gx_mono ev (fun _ _ z => z.elim) (by omega) (fun _ z => z), jr_I J hL hj, nn, by omega, by omega⟩
theorem jc_copy (jx : jj κ σ ρ h k N) (t r : Int32) : (sh_copy σ t r).1 = (rm_copy ρ t r).1 ∧ jj κ (sh_copy σ t r).2 (rm_copy ρ t r).2 h k (N + 1) := by
  obtain ⟨α, ow, made, beg, R, ob, F, X, J, nn, l1, l2⟩ := jx
  have same : jj κ σ ρ h k (N + 1) := ⟨α, ow, made, beg, R, ob, F, X, J, nn, by omega, by omega⟩
  unfold sh_copy rm_copy
  by_cases c1 : sh_isReg t = 0
  · rw [if_pos c1, if_pos c1]; exact ⟨rfl, same⟩
  rw [if_neg c1, if_neg c1]
  by_cases c2 : sh_isReg r = 0
  · rw [if_pos c2, if_pos c2]; exact ⟨rfl, same⟩
  rw [if_neg c2, if_neg c2]
  obtain ⟨t, ht, rfl⟩ := ri_isReg c1
  obtain ⟨r, hr, rfl⟩ := ri_isReg c2
  have X1 := gx_setReg (gx_reg X hr) ht (Or.inr ⟨rfl, rfl⟩)
  obtain ⟨er, ev⟩ := J.2.1 r hr
  refine ⟨rfl, abR α t (aR α r), ow, made, beg, R, ob, F, gx_mono X1 (fun _ _ z => z.elim) (by omega) (fun _ z => z), ?_, nn, by omega, by omega⟩
  rw [nI_clamp (by omega), nI_clamp (by omega), er]
  exact jr_setReg J ev
theorem jc_drop (jx : jj κ σ ρ h k N) (r : Int32) : (sh_drop σ r).1 = (rm_drop ρ r).1 ∧ jj κ (sh_drop σ r).2 (rm_drop ρ r).2 h k (N + 1) := by
  obtain ⟨α, ow, made, beg, R, ob, F, X, J, nn, l1, l2⟩ := jx
  unfold sh_drop rm_drop
  by_cases c1 : sh_isReg r = 0
  · have e1 : sh_reg σ r = 0 := by unfold sh_reg; rw [if_pos c1]
    have e2 : sh_setReg σ r 0 = σ := by unfold sh_setReg; rw [if_pos c1]
    rw [if_pos e1, if_pos c1, e2]
    exact ⟨rfl, α, ow, made, beg, R, ob, F, X, J, nn, by omega, by omega⟩
  rw [if_neg c1]
  obtain ⟨t, ht, rfl⟩ := ri_isReg c1
  have X1 := gx_setReg (gx_zero X) ht (Or.inr ⟨rfl, rfl⟩)
  have g0 := gm_reg0 X.U ht
  rw [gm_regI ht, nI_clamp (by omega)]
  rcases jr_at J ht with ⟨c2, c3⟩ | ⟨q, hq, c3, -⟩
  · have e : abR α t 0 = α := by
      have e : (fun u => if u = t then 0 else aR α u) = aR α := by
        funext u
        by_cases hu : u = t
        · rw [if_pos hu, hu, c2]
        · rw [if_neg hu]
      unfold abR
      rw [e]
    rw [e] at X1
    rw [if_pos (g0.mpr c2), if_pos c3]
    exact ⟨rfl, α, ow, made, beg, R, ob, F, gx_mono X1 (fun _ _ z => z.elim) (by omega) (fun _ z => z), J, nn, by omega, by omega⟩
  · rw [if_neg (fun z => absurd (g0.mp z) (by omega)), if_neg c3, ← nI_0]
    exact ⟨rfl, abR α t 0, ow, made, beg, R, ob, F, gx_mono X1 (fun _ _ z => z.elim) (by omega) (fun _ z => z), jr_setReg J (Or.inl rfl), nn, by omega, by omega⟩
theorem jc_same (jx : jj κ σ ρ h k N) (x y : Int32) : sh_same σ x y = rm_same ρ x y := by
  obtain ⟨α, ow, made, beg, R, ob, F, X, J, nn, l1, l2⟩ := jx
  unfold sh_same rm_same
  by_cases c1 : sh_isReg x = 0
  · rw [if_pos c1, if_pos c1]
  rw [if_neg c1, if_neg c1]
  by_cases c2 : sh_isReg y = 0
  · rw [if_pos c2, if_pos c2]
  rw [if_neg c2, if_neg c2]
  obtain ⟨t, ht, rfl⟩ := ri_isReg c1
  obtain ⟨r, hr, rfl⟩ := ri_isReg c2
  have hs := gm_same X.U ht hr
  have hob := J.1.2.1
  obtain ⟨e1, v1⟩ := J.2.1 t ht
  obtain ⟨e2, v2⟩ := J.2.1 r hr
  have h1 := v1.le
  have h2 := v2.le
  rw [gm_regI ht, gm_regI hr, nI_clamp (by omega), nI_clamp (by omega), e1, e2]
  by_cases c : aR α t = aR α r
  · rw [if_pos (hs.mpr c), if_pos (by rw [c])]
  · rw [if_neg (fun z => c (hs.mp z)), if_neg (fun z => c ((nI_eq (by omega) (by omega)).mp z))]
theorem jc_size (jx : jj κ σ ρ h k N) (r w : Int32) : (sh_size κ σ r w).1 = rm_size ρ r w ∧ jj κ (sh_size κ σ r w).2 ρ h k (N + 1) := by
  obtain ⟨α, ow, made, beg, R, ob, F, X, J, nn, l1, l2⟩ := jx
  have hk := X.1.2.2.1
  obtain ⟨eh, X1⟩ := cx_head X r
  have same : jj κ (sh_head κ σ r).2 ρ h k (N + 1) := ⟨α, ow, made, beg, R, ob, F, gx_mono X1 (fun _ _ z => z) (by omega) (fun _ z => z), J, nn, by omega, by omega⟩
  have e2 : (sh_size κ σ r w).2 = (sh_head κ σ r).2 := by
    unfold sh_size
    dsimp only
    repeat' split
    all_goals rfl
  rw [e2]
  refine ⟨?_, same⟩
  unfold sh_size rm_size
  dsimp only
  rw [eh]
  unfold jr_hd
  by_cases c1 : sh_isReg r = 0
  · rw [if_pos c1, if_pos rfl, if_pos c1]
  rw [if_neg c1, if_neg c1]
  obtain ⟨t, ht, rfl⟩ := ri_isReg c1
  rw [nI_clamp (show t < 2 ^ 31 by omega)]
  rcases jr_at J ht with ⟨c2, c3⟩ | ⟨q, hq, c3, eo, hq5, hL, ho, hk⟩
  · rw [if_pos c2, if_pos rfl, if_pos c3]
  rw [if_neg (show ¬ aR α t = 0 by omega), if_neg c3, hq, eo, nI_clamp (show q < 2 ^ 31 by omega), jr_cells (by omega) ho]
  have hpos := (jr_sz ho.2.2.1).1.1
  have hne : ¬ aH α (q + 1) = 0 := fun z => absurd (z ▸ hpos) (by decide)
  rw [if_neg hne]
  rcases hk with ⟨k1, ha⟩ | ⟨k1, n, x, hn, hx, ehd, -, eln, -⟩
  · obtain ⟨p1, p2, -⟩ := hd_pl ha
    rw [if_pos ha, if_pos ha, if_pos ha, if_pos k1, if_pos k1, if_pos k1, p1, p2, ho.1, ho.2.1, hC_eq]
    by_cases w0 : w = 0
    · rw [if_pos w0, if_pos w0]
    rw [if_neg w0, if_neg w0]
    by_cases w1 : w = 1
    · rw [if_pos w1, if_pos w1]
    rw [if_neg w1, if_neg w1]
    by_cases w2 : w = 2
    · rw [if_pos w2, if_pos w2]
    rw [if_neg w2, if_neg w2]
    by_cases w3 : w = 3
    · rw [if_pos w3, if_pos w3]
    rw [if_neg w3, if_neg w3]
  · obtain ⟨t1, t2, t3, -⟩ := ha_T hn hx
    have ha : ¬ hd_isArr (aH α (q + 1)) = 0 := by rw [ehd, t1]; decide
    have k2 : ¬ rKind ρ q = 1 := by rw [k1]; decide
    rw [if_neg ha, if_neg ha, if_neg ha, if_neg k2, if_neg k2, if_neg k2, hC_eq]
    have e3 : hd_len (aH α (q + 1)) = rLen ρ q := by rw [ehd, t3, eln]
    by_cases w0 : w = 0
    · rw [if_pos w0, if_pos w0]
    rw [if_neg w0, if_neg w0]
    by_cases w1 : w = 1
    · rw [if_pos w1, if_pos w1]
    rw [if_neg w1, if_neg w1]
    by_cases w2 : w = 2
    · rw [if_pos w2, if_pos w2, e3]
    rw [if_neg w2, if_neg w2]
    by_cases w3 : w = 3
    · rw [if_pos w3, if_pos w3]
    rw [if_neg w3, if_neg w3]
theorem jc_told (jx : jj κ σ ρ h k N) (w : Int32) : sh_told κ σ w = rm_told (nI k) (nI (h * k / (k + 1))) ρ w := by
  obtain ⟨α, ow, made, beg, R, ob, F, X, J, nn, l1, l2⟩ := jx
  obtain ⟨hd1, hd2⟩ := gc_doneI X.U.G
  obtain ⟨g1, eM, eB, hR, hm, hkm, hl, -⟩ := gx_num X
  obtain ⟨n1, n2, n3, -⟩ := nn
  obtain ⟨h1, h2, h3, h4, -, -, k3, -⟩ := g1
  have hd := jr_done (k := k) n1 n2 (by omega) (by omega) (by omega)
  unfold sh_told rm_told
  rw [hd1, hd, eB, n3, n2, eM, n1, k3, if_neg (show ¬ 0 ≤ lg_cmp (lN made) 2147483647 by rw [lg_cmp_ge, show (2147483647 : Int64) = lN 2147483647 from rfl, lN_le (by omega) (by omega)]; omega), lN_i]
  by_cases w0 : w = 0
  · rw [if_pos w0, if_pos w0]
  rw [if_neg w0, if_neg w0]
  by_cases w1 : w = 1
  · rw [if_pos w1, if_pos w1]
  rw [if_neg w1, if_neg w1]
  by_cases w2 : w = 2
  · rw [if_pos w2, if_pos w2]
    by_cases c : R ≤ k * made
    · rw [if_pos c, if_neg (by decide), if_neg (by decide), (hd2 c).1]
    · rw [if_neg c, if_pos rfl, if_pos rfl]
  rw [if_neg w2, if_neg w2]
theorem jc_steady (jx : jj κ σ ρ h k N) : sSte σ = 1 := by
  obtain ⟨α, ow, made, beg, R, ob, F, X, J, nn, l1, l2⟩ := jx
  exact (gx_num X).2.2.2.2.2.2.2
theorem jc_mono (jx : jj κ σ ρ h k N) : jj κ σ ρ h k (N + 1) := by
  obtain ⟨α, ow, made, beg, R, ob, F, X, J, nn, l1, l2⟩ := jx
  exact ⟨α, ow, made, beg, R, ob, F, X, J, nn, by omega, by omega⟩
theorem jc_ok (jx : jj κ σ ρ h k N) : ∃ ob, ob ≤ N ∧ rm_ok ρ ob := by
  obtain ⟨α, ow, made, beg, R, ob, F, X, J, nn, l1, l2⟩ := jx
  exact ⟨ob, l1, J.1⟩
end CALLS1
