/-! ===== A NEW THING ===== -/
def abN (α : ab_A) (o : Nat) (h : Int32) : ab_A := (va_up (aH α) o h, fun p i => if p = o then 0 else aF α p i, fun p i => if p = o then 0 else aI α p i, α.2.2.2)
def gc_pm (mem : Nat → Int32) (lo n : Nat) (h : Int32) : Nat → Int32 := fun x => if x = lo then h else if lo < x ∧ x < lo + n then 0 else mem x
theorem abN_H {α : ab_A} {o p : Nat} {h : Int32} (hp : p ≠ o) : aH (abN α o h) p = aH α p := by
  show va_up (aH α) o h p = _
  simp [va_up, hp]
theorem abN_F {α : ab_A} {o p j : Nat} {h : Int32} (hp : p ≠ o) : aF (abN α o h) p j = aF α p j := by
  show (if p = o then 0 else aF α p j) = _
  rw [if_neg hp]
theorem abN_I {α : ab_A} {o p j : Nat} {h : Int32} (hp : p ≠ o) : aI (abN α o h) p j = aI α p j := by
  show (if p = o then 0 else aI α p j) = _
  rw [if_neg hp]
theorem abN_Ho {α : ab_A} {o : Nat} {h : Int32} : aH (abN α o h) o = h := by
  show va_up (aH α) o h o = _
  simp [va_up]
theorem abN_Fo {α : ab_A} {o j : Nat} {h : Int32} : aF (abN α o h) o j = 0 := by
  show (if o = o then 0 else aF α o j) = _
  rw [if_pos rfl]
theorem abN_Io {α : ab_A} {o j : Nat} {h : Int32} : aI (abN α o h) o j = 0 := by
  show (if o = o then 0 else aI α o j) = _
  rw [if_pos rfl]
theorem gc_place0 {mem : Nat → Int32} {hf base ob free low scan tend nh : Nat} {α : ab_A} {ad od : Nat → Nat} {Mv Mk Sn : List Nat} {brf : Nat → Nat → Nat} (I : gc_I mem hf base ob free low scan tend nh α ad od Mv Mk Sn brf)
    {o : Nat} {h : Int32} (f0 : o ≠ 0) (f1 : o ∉ Sn) (f2 : o ∉ Mk) (hok : gc_ok h) (hr : gc_sum (aC α) Sn + gc_sum (aC α) Mk + hC h ≤ hf) :
    free + hC h ≤ low ∧ gc_I (gc_pm mem (low - hC h) (hC h) h) hf base ob free (low - hC h) scan tend nh (abN α o h) (va_up ad o (low - hC h)) od Mv (o :: Mk) Sn brf := by
  have F := gc_free_le I
  have hh := fun {p i : Nat} (hp : p ∈ Mv ∨ p ∈ Mk) (hi : i < aC α p) => gc_half I hp hi
  obtain ⟨⟨h1, h2, h3⟩, ⟨z1, z2, z3, z4, n1, n2, n3, s1, s2, s3⟩, c1, c2, ⟨L1, L2, e1, k1, k2⟩, ⟨o1, o2, o3, o4, o5⟩, w1, w2, w3, w4, w5⟩ := I
  have hCh : hC h = 1 + hT h + hP h := rfl
  have hl : free + hC h ≤ low := by omega
  have nS : ∀ p, p ∈ Sn → p ≠ o := fun p hp z => f1 (z ▸ hp)
  have nM : ∀ p, p ∈ Mv → p ≠ o := fun p hp => nS p (s1 p hp)
  have nK : ∀ p, p ∈ Mk → p ≠ o := fun p hp z => f2 (z ▸ hp)
  have cC : ∀ p, p ≠ o → aC (abN α o h) p = aC α p := fun p hp => by show hC _ = hC _; rw [abN_H hp]
  have cT : ∀ p, p ≠ o → aT (abN α o h) p = aT α p := fun p hp => by show hT _ = hT _; rw [abN_H hp]
  have cP : ∀ p, p ≠ o → aP (abN α o h) p = aP α p := fun p hp => by show hP _ = hP _; rw [abN_H hp]
  have up : ∀ p, p ≠ o → va_up ad o (low - hC h) p = ad p := fun p hp => by simp [va_up, hp]
  have upo : va_up ad o (low - hC h) o = low - hC h := by simp [va_up]
  have eS : gc_sum (aC (abN α o h)) Sn = gc_sum (aC α) Sn := gc_sum_congr _ (fun p hp => cC p (nS p hp))
  have eK : gc_sum (aC (abN α o h)) Mk = gc_sum (aC α) Mk := gc_sum_congr _ (fun p hp => cC p (nK p hp))
  have eo : aC (abN α o h) o = hC h := by show hC _ = hC _; rw [abN_Ho]
  have keep : ∀ x, x < low - hC h ∨ low ≤ x → gc_pm mem (low - hC h) (hC h) h x = mem x := by
    intro x hx
    unfold gc_pm
    rw [if_neg (by omega), if_neg (by omega)]
  have kO : ∀ x, ob ≤ x → x < ob + hf → gc_pm mem (low - hC h) (hC h) h x = mem x := fun x h4 h5 => keep x (by omega)
  have kN : ∀ p i, p ∈ Mv ∨ p ∈ Mk → i < aC α p → gc_pm mem (low - hC h) (hC h) h (ad p + i) = mem (ad p + i) := by
    intro p i hp hi
    refine keep _ ?_
    rcases hp with hp | hp
    · have := gc_chain_in c1 hp; omega
    · have := gc_chain_in c2 hp; omega
  have bw : ∀ q w, gc_bw ad Mv Mk q w → gc_bw (va_up ad o (low - hC h)) Mv (o :: Mk) q w := by
    rintro q w ⟨e, hq⟩
    have hne : q ≠ o := by
      rcases hq with hq | hq | hq
      · rw [hq]; exact Ne.symm f0
      · exact nM q hq
      · exact nK q hq
    refine ⟨by rw [up q hne]; exact e, ?_⟩
    rcases hq with hq | hq | hq
    · exact Or.inl hq
    · exact Or.inr (Or.inl hq)
    · exact Or.inr (Or.inr (List.mem_cons_of_mem _ hq))
  have gw : ∀ q w, gc_gw ad od Mv Mk Sn q w → gc_gw (va_up ad o (low - hC h)) od Mv (o :: Mk) Sn q w := by
    rintro q w (hq | hq)
    · exact Or.inl (bw q w hq)
    · exact Or.inr hq
  refine ⟨hl, ⟨h1, h2, ?_⟩, ⟨by rw [up 0 (Ne.symm f0)]; exact z1, z2, z3, ?_, n1, List.nodup_cons.mpr ⟨f2, n2⟩, n3, s1, ?_, ?_⟩, ?_, ?_, ⟨L1, L2, e1, ?_, ?_⟩, ⟨?_, ?_, ?_, ?_, ?_⟩, ?_, ?_, ?_, ?_, ?_⟩
  · show gc_sum (aC (abN α o h)) Sn + (aC (abN α o h) o + gc_sum (aC (abN α o h)) Mk) ≤ hf
    rw [eS, eK, eo]; omega
  · intro z
    rcases List.mem_cons.mp z with z | z
    · exact f0 z.symm
    · exact z4 z
  · intro p hp
    rcases List.mem_cons.mp hp with z | z
    · rw [z]; exact f1
    · exact s2 p z
  · intro p hp
    by_cases hz : p = o
    · rw [hz, abN_Ho]; exact hok
    · rw [abN_H hz]
      rcases hp with hp | hp
      · exact s3 p (Or.inl hp)
      · exact s3 p (Or.inr ((List.mem_cons.mp hp).resolve_left hz))
  · exact gc_chain_congr (fun p hp => ⟨up p (nM p hp), cC p (nM p hp)⟩) c1
  · refine ⟨upo, ?_⟩
    rw [eo, show low - hC h + hC h = low by omega]
    exact gc_chain_congr (fun p hp => ⟨up p (nK p hp), cC p (nK p hp)⟩) c2
  · exact gc_chain_congr (fun p hp => by
      have hp' : p ∈ Mv := by rw [e1]; exact List.mem_append_left _ hp
      exact ⟨up p (nM p hp'), cC p (nM p hp')⟩) k1
  · rcases k2 with k2 | ⟨L0, cur, k2, k3, k4, k5⟩
    · exact Or.inl k2
    · have hc : cur ∈ Mv := by rw [e1, k2]; simp
      exact Or.inr ⟨L0, cur, k2, by rw [up cur (nM cur hc)]; exact k3, k4, by rw [up cur (nM cur hc), cT cur (nM cur hc)]; exact k5⟩
  · intro p hp
    rw [cC p (nS p hp)]; exact o1 p hp
  · intro p q hp hq hne
    rw [cC p (nS p hp), cC q (nS q hq)]; exact o2 p q hp hq hne
  · intro p hp
    have b := o1 p (s1 p hp)
    have : aC α p = 1 + aT α p + aP α p := rfl
    rw [kO _ (by omega) (by omega), up p (nM p hp)]
    exact o3 p hp
  · intro p hp hn
    have hne := nS p hp
    have b := o1 p hp
    have hCp : aC α p = 1 + aT α p + aP α p := rfl
    obtain ⟨a1, a2, a3⟩ := o4 p hp hn
    rw [cT p hne, cP p hne, abN_H hne]
    refine ⟨by rw [kO _ (by omega) (by omega)]; exact a1, fun j hj => ?_, fun j hj => ?_⟩
    · rw [kO _ (by omega) (by omega), abN_F hne]; exact a2 j hj
    · rw [kO _ (by omega) (by omega), abN_I hne]; exact a3 j hj
  · intro p j hp hj
    rw [cT p (nS p hp)] at hj
    exact o5 p j hp hj
  · intro p hp
    by_cases hz : p = o
    · subst hz
      rw [upo, abN_Ho]
      refine ⟨by unfold gc_pm; rw [if_pos rfl], fun j hj => ?_⟩
      have hj : j < hP h := by
        have : aP (abN α p h) p = hP h := by show hP _ = hP _; rw [abN_Ho]
        omega
      have hTo : aT (abN α p h) p = hT h := by show hT _ = hT _; rw [abN_Ho]
      rw [hTo, abN_Io]
      unfold gc_pm
      rw [if_neg (by omega), if_pos (by omega)]
    · have hp' : p ∈ Mv ∨ p ∈ Mk := by
        rcases hp with hp | hp
        · exact Or.inl hp
        · exact Or.inr ((List.mem_cons.mp hp).resolve_left hz)
      have hCp : aC α p = 1 + aT α p + aP α p := rfl
      obtain ⟨a1, a2⟩ := w1 p hp'
      rw [up p hz, abN_H hz, cP p hz, cT p hz]
      refine ⟨by rw [show ad p = ad p + 0 from rfl, kN p 0 hp' (by omega)]; exact a1, fun j hj => ?_⟩
      rw [show ad p + 1 + aT α p + j = ad p + (1 + aT α p + j) by omega, kN p _ hp' (by omega), show ad p + (1 + aT α p + j) = ad p + 1 + aT α p + j by omega, abN_I hz]
      exact a2 j hj
  · intro p j hp hj
    by_cases hz : p = o
    · subst hz
      have hTo : aT (abN α p h) p = hT h := by show hT _ = hT _; rw [abN_Ho]
      rw [hTo] at hj
      rw [upo, abN_Fo]
      refine ⟨?_, Or.inl rfl⟩
      rw [up 0 (Ne.symm f0), z1, nI_0]
      unfold gc_pm
      rw [if_neg (by omega), if_pos (by omega)]
    · have hp' := (List.mem_cons.mp hp).resolve_left hz
      have hCp : aC α p = 1 + aT α p + aP α p := rfl
      rw [cT p hz] at hj
      rw [up p hz, abN_F hz, show ad p + 1 + j = ad p + (1 + j) by omega, kN p _ (Or.inr hp') (by omega), show ad p + (1 + j) = ad p + 1 + j by omega]
      exact bw _ _ (w2 p j hp' hj)
  · intro p j hp hj hs
    have hz := nM p hp
    have hCp : aC α p = 1 + aT α p + aP α p := rfl
    rw [cT p hz] at hj
    rw [up p hz] at hs ⊢
    rw [abN_F hz, show ad p + 1 + j = ad p + (1 + j) by omega, kN p _ (Or.inl hp) (by omega), show ad p + (1 + j) = ad p + 1 + j by omega]
    exact bw _ _ (w3 p j hp hj hs)
  · intro p j hp hj
    have hz := nM p hp
    have hCp : aC α p = 1 + aT α p + aP α p := rfl
    rw [cT p hz] at hj
    rw [up p hz, abN_F hz, show ad p + 1 + j = ad p + (1 + j) by omega, kN p _ (Or.inl hp) (by omega), show ad p + (1 + j) = ad p + 1 + j by omega]
    exact gw _ _ (w4 p j hp hj)
  · intro p j hp hj hne
    have hz := nM p hp
    have hCp : aC α p = 1 + aT α p + aP α p := rfl
    rw [cT p hz] at hj
    rw [up p hz]
    rcases w5 p j hp hj hne with h5 | ⟨h5, h6⟩
    · exact Or.inl h5
    · refine Or.inr ⟨h5, ?_⟩
      rw [show ad p + 1 + j = ad p + (1 + j) by omega, kN p _ (Or.inl hp) (by omega), show ad p + (1 + j) = ad p + 1 + j by omega]
      exact h6
theorem gc_zeroN {κ : sh_K} {la lo : Nat} (hl : kLast κ = nI la) (hb : la < 2 ^ 31) (h0 : 1 ≤ lo) : ∀ (n i : Nat) (c : sh_C), lo + i + n ≤ la + 1 →
    (sh_zeroN κ c (nI lo) (nI i) n).2.2.1 = fun x => if lo + i ≤ x ∧ x < lo + i + n then 0 else c.2.2.1 x
  | 0, i, c, _ => by
    funext x
    rw [if_neg (by omega)]
    rfl
  | n + 1, i, c, h => by
    show (sh_zeroN κ (sh_write κ c (nI lo + nI i) 0) (nI lo) (nI i + 1) n).2.2.1 = _
    rw [nI_add, nI_1, gc_zeroN hl hb h0 n (i + 1) _ (by omega), gc_writeI hl hb (by omega) (by omega)]
    funext x
    by_cases hx : lo + (i + 1) ≤ x ∧ x < lo + (i + 1) + n
    · rw [if_pos hx, if_pos (by omega)]
    · rw [if_neg hx]
      by_cases hy : x = lo + i
      · subst hy
        rw [if_pos (by omega), pk_us]
      · rw [if_neg (by omega), pk_un hy]
theorem gc_place {κ : sh_K} {σ : sh_S} {hf k base ob free low scan tend nh made beg : Nat} {α : ab_A} {ad od : Nat → Nat} {Mv Mk Sn : List Nat} {brf : Nat → Nat → Nat} (k1 : kHalf κ = nI hf) (k2 : kLast κ = nI (2 * hf)) (k3 : kK κ = nI k) (hk : k ≤ 64)
    (N : gc_N σ base free low scan tend nh made beg) (I : gc_I (sMem σ) hf base ob free low scan tend nh α ad od Mv Mk Sn brf) (hm : made = gc_sum (aC α) Mk) (hp : scan = free ∨ base + k * made ≤ scan)
    {o : Nat} {h : Int32} (f0 : o ≠ 0) (f1 : o ∉ Sn) (f2 : o ∉ Mk) (hok : gc_ok h) (hr : gc_sum (aC α) Sn + gc_sum (aC α) Mk + hC h ≤ hf) :
    ∃ (ad' : Nat → Nat) (Mv' : List Nat) (free' scan' tend' nh' : Nat), gc_N (sh_place κ σ h).2 base free' (low - hC h) scan' tend' nh' (made + hC h) beg ∧ sReg (sh_place κ σ h).2 = sReg σ ∧ gc_ext ad ad' Mv Mv' Mk ∧
      gc_I (sMem (sh_place κ σ h).2) hf base ob free' (low - hC h) scan' tend' nh' (abN α o h) ad' od Mv' (o :: Mk) Sn brf ∧ (scan' = free' ∨ base + k * (made + hC h) ≤ scan') ∧ (sh_place κ σ h).1 = nI (ad' o) := by
  obtain ⟨hl, I1⟩ := gc_place0 I f0 f1 f2 hok hr
  have F := gc_free_le I
  obtain ⟨h1, h2, -⟩ := I.1
  obtain ⟨a1, a2, a3, a4, a5, a6, a7, a8⟩ := id N
  have hC0 : hC h = 1 + hT h + hP h := rfl
  have hC16 := hok.2
  -- the state ahead of work
  have eq : sh_place κ σ h = (sLow (sh_work κ (uMade (uC (uLow σ (nI (low - hC h))) (sh_zeroN κ (sh_write κ σ.1 (nI (low - hC h)) h) (nI (low - hC h)) (nI 1) (hC h - 1))) (nI (made + hC h)))), sh_work κ (uMade (uC (uLow σ (nI (low - hC h))) (sh_zeroN κ (sh_write κ σ.1 (nI (low - hC h)) h) (nI (low - hC h)) (nI 1) (hC h - 1))) (nI (made + hC h)))) := by
    have e1 : sLow σ - hd_cells h = nI (low - hC h) := by rw [a5, hC_eq, pk_sub (by omega)]
    have e2 : sMade σ + hd_cells h = nI (made + hC h) := by rw [a1, hC_eq, nI_add]
    have e3 : (hd_cells h).toNatClampNeg - 1 = hC h - 1 := by rw [hC_eq, nI_clamp (by omega)]
    unfold sh_place
    show (sLow (sh_work κ (uMade (uC (uLow σ (sLow σ - hd_cells h)) (sh_zeroN κ (sh_write κ σ.1 (sLow σ - hd_cells h) h) (sLow σ - hd_cells h) 1 ((hd_cells h).toNatClampNeg - 1))) (sMade σ + hd_cells h))), sh_work κ (uMade (uC (uLow σ (sLow σ - hd_cells h)) (sh_zeroN κ (sh_write κ σ.1 (sLow σ - hd_cells h) h) (sLow σ - hd_cells h) 1 ((hd_cells h).toNatClampNeg - 1))) (sMade σ + hd_cells h))) = _
    rw [e1, e2, e3]
    rfl
  have N1 : gc_N (uMade (uC (uLow σ (nI (low - hC h))) (sh_zeroN κ (sh_write κ σ.1 (nI (low - hC h)) h) (nI (low - hC h)) (nI 1) (hC h - 1))) (nI (made + hC h))) base free (low - hC h) scan tend nh (made + hC h) beg := ⟨rfl, a2, a3, a4, rfl, a6, a7, a8⟩
  have em : sMem (uMade (uC (uLow σ (nI (low - hC h))) (sh_zeroN κ (sh_write κ σ.1 (nI (low - hC h)) h) (nI (low - hC h)) (nI 1) (hC h - 1))) (nI (made + hC h))) = gc_pm (sMem σ) (low - hC h) (hC h) h := by
    show (sh_zeroN κ (sh_write κ σ.1 (nI (low - hC h)) h) (nI (low - hC h)) (nI 1) (hC h - 1)).2.2.1 = _
    rw [gc_zeroN k2 (by omega) (by omega) _ _ _ (by omega), gc_writeI k2 (by omega) (by omega) (by omega)]
    funext x
    unfold gc_pm
    by_cases hx : low - hC h + 1 ≤ x ∧ x < low - hC h + 1 + (hC h - 1)
    · rw [if_pos hx, if_neg (by omega), if_pos (by omega)]
    · rw [if_neg hx]
      by_cases hy : x = low - hC h
      · rw [if_pos hy, hy, pk_us]
      · rw [if_neg hy, if_neg (by omega), pk_un hy]
  have hkm : k * (made + hC h) ≤ 64 * (hf + 16) := Nat.mul_le_mul hk (by omega)
  rw [← em] at I1
  obtain ⟨ad', Mv', free', scan', tend', nh', N', r', x', I', l'⟩ := gc_workN (κ := κ) (goal := base + k * (made + hC h)) k1 k2 (by omega) (16 * k) _ _ _ _ _ _ _ N1 I1
  have ew : sh_work κ (uMade (uC (uLow σ (nI (low - hC h))) (sh_zeroN κ (sh_write κ σ.1 (nI (low - hC h)) h) (nI (low - hC h)) (nI 1) (hC h - 1))) (nI (made + hC h))) = sh_workN κ (nI (base + k * (made + hC h))) (uMade (uC (uLow σ (nI (low - hC h))) (sh_zeroN κ (sh_write κ σ.1 (nI (low - hC h)) h) (nI (low - hC h)) (nI 1) (hC h - 1))) (nI (made + hC h))) (16 * k) := by
    have e4 : kK κ * 16 = nI (16 * k) := by rw [k3, show (16 : Int32) = nI 16 from rfl, pk_mul, Nat.mul_comm]
    unfold sh_work
    show sh_workN κ (sBase σ + kK κ * nI (made + hC h)) _ (kK κ * 16).toNatClampNeg = _
    rw [e4, nI_clamp (by omega), a3, k3, pk_mul, nI_add]
  rw [eq, ew]
  have ha : ad' o = low - hC h := by
    rw [x'.1 o (Or.inr (Or.inr List.mem_cons_self))]
    simp [va_up]
  refine ⟨ad', Mv', free', scan', tend', nh', N', r', ⟨fun p hp => ?_, x'.2⟩, I', ?_, ?_⟩
  · have hne : p ≠ o := by
      intro z
      subst z
      rcases hp with hp | hp | hp
      · exact f0 hp
      · exact f1 (I.2.1.2.2.2.2.2.2.2.1 p hp)
      · exact f2 hp
    rw [x'.1 p (hp.imp id (Or.imp id (List.mem_cons_of_mem _)))]
    simp [va_up, hne]
  · rcases l' with l' | l' | l'
    · exact Or.inl l'
    · exact Or.inr l'
    · have F' := gc_free_le I'
      rcases hp with hp | hp
      · omega
      · right
        have : k * (made + hC h) = k * made + k * hC h := Nat.mul_add _ _ _
        have : k * hC h ≤ k * 16 := Nat.mul_le_mul_left _ hC16
        omega
  · show sLow _ = _
    rw [N'.2.2.2.2.1, ha]
