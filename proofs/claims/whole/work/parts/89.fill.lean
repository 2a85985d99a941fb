/-! ===== A NEW THING IN A REGISTER, over the invariant between calls; U: the things that are in use ===== -/
def abR (α : ab_A) (t o : Nat) : ab_A := (α.1, α.2.1, α.2.2.1, fun u => if u = t then o else aR α u)
def gc_U (κ : sh_K) (σ : sh_S) (α : ab_A) (h k made beg R : Nat) (U : Nat → Prop) : Prop :=
  (1024 ≤ h ∧ h ≤ 60000 ∧ 1 ≤ k ∧ k ≤ 64 ∧ kHalf κ = nI (2 * h + 64) ∧ kK κ = nI k ∧ kLim κ = nI (h * k / (k + 1)) ∧ kLast κ = nI (2 * (2 * h + 64)) ∧ kAl κ = nI (700 * k + 200)) ∧
  ∃ (base ob free low scan tend nh : Nat) (ad od : Nat → Nat) (Mv Mk Sn : List Nat) (brf : Nat → Nat → Nat),
    gc_N σ base free low scan tend nh made beg ∧ gc_I (sMem σ) (2 * h + 64) base ob free low scan tend nh α ad od Mv Mk Sn brf ∧ (∀ t, t < 8 → gc_bw ad Mv Mk (aR α t) (sReg σ t)) ∧ gc_B α Mv Sn brf ∧
    made = gc_sum (aC α) Mk ∧ R = gc_sum (aC α) Sn ∧ (scan = free ∨ base + k * made ≤ scan) ∧ R < h + 16 ∧ (k * made < R + 16 * k ∨ R + made ≤ h * k / (k + 1)) ∧ (∀ o, o ∈ Sn ∨ o ∈ Mk → U o)
theorem gc_U.G {κ : sh_K} {σ : sh_S} {α : ab_A} {h k made beg R : Nat} {U : Nat → Prop} (g : gc_U κ σ α h k made beg R U) : gc_G κ σ α h k made beg R := by
  obtain ⟨g1, base, ob, free, low, scan, tend, nh, ad, od, Mv, Mk, Sn, brf, N, I, hr, hB, e1, e2, hp, hR, hq, hU⟩ := g
  exact ⟨g1, base, ob, free, low, scan, tend, nh, ad, od, Mv, Mk, Sn, brf, N, I, hr, hB, e1, e2, hp, hR, hq⟩
theorem gm_lim {h k : Nat} (h1 : 1024 ≤ h) (hk : 1 ≤ k) : 16 ≤ h * k / (k + 1) := by
  rw [Nat.le_div_iff_mul_le (by omega)]
  have : 1024 * k ≤ h * k := Nat.mul_le_mul_right _ h1
  omega
theorem gm_fill {κ : sh_K} {σ : sh_S} {α : ab_A} {h k made beg R : Nat} {U : Nat → Prop} (G : gc_U κ σ α h k made beg R U) {o t : Nat} {hd : Int32} (f0 : o ≠ 0) (fU : ¬ U o) (ht : t < 8) (hok : gc_ok hd) (hroom : R + made + hC hd ≤ 2 * h + 64) (hc : (¬ R ≤ k * made) ∨ R + made + hC hd ≤ h * k / (k + 1) ∨ made = 0) :
    gc_U κ (sh_setReg (sh_place κ σ hd).2 (nI t) (sh_place κ σ hd).1) (abR (abN α o hd) t o) h k (made + hC hd) beg R (fun q => U q ∨ q = o) := by
  obtain ⟨⟨h1, h2, h3, h4, k1, k2, k3, k4, k5⟩, base, ob, free, low, scan, tend, nh, ad, od, Mv, Mk, Sn, brf, N, I, hr, hB, e1, e2, hp, hR, hq, hU⟩ := G
  have nS : ∀ q, q ∈ Sn → q ≠ o := fun q hq z => fU (z ▸ hU q (Or.inl hq))
  have nK : ∀ q, q ∈ Mk → q ≠ o := fun q hq z => fU (z ▸ hU q (Or.inr hq))
  obtain ⟨ad', Mv', free', scan', tend', nh', N', er, x', I', p', w'⟩ := gc_place k1 k4 k2 h4 N I e1 hp f0 (fun z => nS o z rfl) (fun z => nK o z rfl) hok (by omega)
  generalize sh_place κ σ hd = q at N' er I' w' ⊢
  have hset : sh_setReg q.2 (nI t) q.1 = uReg q.2 (upd (sReg q.2) t q.1) := by
    unfold sh_setReg
    have : ¬ sh_isReg (nI t) = 0 := by
      unfold sh_isReg sh_below
      rw [if_neg (nI_pos (by omega)), if_neg (show ¬ (8 : Int32) ≤ nI t from nI_ge (a := t) (b := 8) ht (by decide))]
      decide
    rw [if_neg this, nI_clamp (by omega)]
  rw [hset]
  have cC : ∀ q, q ≠ o → aC (abR (abN α o hd) t o) q = aC α q := fun q hq => by show hC (aH (abN α o hd) q) = hC _; rw [abN_H hq]
  have eo : aC (abR (abN α o hd) t o) o = hC hd := by show hC (aH (abN α o hd) o) = hC _; rw [abN_Ho]
  have hC16 := hok.2
  have hlim := gm_lim (k := k) h1 h3
  refine ⟨⟨h1, h2, h3, h4, k1, k2, k3, k4, k5⟩, base, ob, free', _, scan', tend', nh', ad', od, Mv', o :: Mk, Sn, brf, N', I', ?_, ?_, ?_, ?_, p', hR, ?_, ?_⟩
  · intro u hu
    show gc_bw ad' Mv' (o :: Mk) (if u = t then o else aR α u) (upd (sReg q.2) t q.1 u)
    by_cases hz : u = t
    · rw [if_pos hz, hz, pk_us, w']
      exact ⟨rfl, Or.inr (Or.inr List.mem_cons_self)⟩
    · rw [if_neg hz, pk_un hz, er]
      have hb := x'.bw (hr u hu)
      exact ⟨hb.1, hb.2.imp id (Or.imp id (List.mem_cons_of_mem _))⟩
  · refine hB.mono x'.2 (fun q hq => ?_)
    show hT (aH (abN α o hd) q) = _
    rw [abN_H (nS q hq)]
  · show made + hC hd = aC (abR (abN α o hd) t o) o + gc_sum (aC (abR (abN α o hd) t o)) Mk
    rw [eo, gc_sum_congr Mk (fun q hq => cC q (nK q hq)), ← e1]
    omega
  · rw [e2]
    exact (gc_sum_congr Sn (fun q hq => cC q (nS q hq))).symm
  · have hm : k * (made + hC hd) = k * made + k * hC hd := Nat.mul_add _ _ _
    have hm2 : k * hC hd ≤ k * 16 := Nat.mul_le_mul_left _ hC16
    rcases hc with hc | hc | hc
    · left; omega
    · right; omega
    · subst hc
      by_cases hz : R = 0
      · right; omega
      · left
        rw [hm, Nat.mul_zero]
        omega
  · intro q hq
    rcases hq with hq | hq
    · exact Or.inl (hU q (Or.inl hq))
    · rcases List.mem_cons.mp hq with hq | hq
      · exact Or.inr hq
      · exact Or.inl (hU q (Or.inr hq))
