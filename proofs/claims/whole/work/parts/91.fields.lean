/-! ===== REFERENCES AND INTS OF A THING, over the invariant between calls ===== -/
theorem gm_pack {κ : sh_K} {σ σ' : sh_S} {α α' : ab_A} {h k made beg R base ob free low scan tend nh free' : Nat} {ad od ad' : Nat → Nat} {Mv Mk Sn Mv' : List Nat} {brf : Nat → Nat → Nat} {U : Nat → Prop}
    (g1 : 1024 ≤ h ∧ h ≤ 60000 ∧ 1 ≤ k ∧ k ≤ 64 ∧ kHalf κ = nI (2 * h + 64) ∧ kK κ = nI k ∧ kLim κ = nI (h * k / (k + 1)) ∧ kLast κ = nI (2 * (2 * h + 64)) ∧ kAl κ = nI (700 * k + 200))
    (I : gc_I (sMem σ) (2 * h + 64) base ob free low scan tend nh α ad od Mv Mk Sn brf) (hB : gc_B α Mv Sn brf) (e1 : made = gc_sum (aC α) Mk) (e2 : R = gc_sum (aC α) Sn) (hp : scan = free ∨ base + k * made ≤ scan) (hR : R < h + 16) (hq : k * made < R + 16 * k ∨ R + made ≤ h * k / (k + 1)) (hU : ∀ o, o ∈ Sn ∨ o ∈ Mk → U o)
    (N' : gc_N σ' base free' low scan tend nh made beg) (I' : gc_I (sMem σ') (2 * h + 64) base ob free' low scan tend nh α' ad' od Mv' Mk Sn brf) (x' : gc_ext ad ad' Mv Mv' Mk) (hH : aH α' = aH α) (hr' : ∀ t, t < 8 → gc_bw ad' Mv' Mk (aR α' t) (sReg σ' t)) : gc_U κ σ' α' h k made beg R U := by
  have eC : aC α' = aC α := by funext q; show hC (aH α' q) = hC (aH α q); rw [hH]
  have F := gc_free_le I
  have F' := gc_free_le I'
  rw [eC] at F'
  refine ⟨g1, base, ob, free', low, scan, tend, nh, ad', od, Mv', Mk, Sn, brf, N', I', hr', hB.mono x'.2 (fun q _ => by show hT (aH α' q) = hT (aH α q); rw [hH]), by rw [eC]; exact e1, by rw [eC]; exact e2, ?_, hR, hq, hU⟩
  rcases hp with hp | hp
  · left
    have q := gc_all I hB hp
    have := gc_sum_eq (cz := aC α) I.2.1.2.2.2.2.1 I.2.1.2.2.2.2.2.2.1 (fun o => ⟨I.2.1.2.2.2.2.2.2.2.1 o, q o⟩)
    omega
  · exact Or.inr hp
/-- where a thing of a register stands: the cell of its field j -/
theorem gm_cell {κ : sh_K} {σ : sh_S} {α : ab_A} {h base ob free low scan tend nh : Nat} {ad od : Nat → Nat} {Mv Mk Sn : List Nat} {brf : Nat → Nat → Nat} (I : gc_I (sMem σ) (2 * h + 64) base ob free low scan tend nh α ad od Mv Mk Sn brf) (hr : ∀ t, t < 8 → gc_bw ad Mv Mk (aR α t) (sReg σ t)) {o j : Nat} (ho : o < 8) : sh_reg σ (nI o) + 1 + nI j = nI (ad (aR α o) + 1 + j) := by
  rw [gm_regI ho, (hr o ho).1, nI_1, nI_add]
theorem gm_get {κ : sh_K} {σ : sh_S} {α : ab_A} {h k made beg R : Nat} {U : Nat → Prop} (G : gc_U κ σ α h k made beg R U) {t o j : Nat} (ht : t < 8) (ho : o < 8) (hx : aR α o ≠ 0) (hj : j < aT α (aR α o)) :
    gc_U κ (sh_setReg (sh_follow κ σ (sh_reg σ (nI o) + 1 + nI j)).2 (nI t) (sh_follow κ σ (sh_reg σ (nI o) + 1 + nI j)).1) (abR α t (aF α (aR α o) j)) h k made beg R U := by
  obtain ⟨g1, base, ob, free, low, scan, tend, nh, ad, od, Mv, Mk, Sn, brf, N, I, hr, hB, e1, e2, hp, hR, hq, hU⟩ := G
  obtain ⟨-, -, -, -, k1, -, -, k4, -⟩ := id g1
  rw [gm_cell (κ := κ) I hr ho]
  obtain ⟨ad', Mv', free', I', b', e', x', -⟩ := gc_follow k1 k4 I N.2.2.1 N.2.2.2.1 ((hr o ho).2.resolve_left hx) hj
  generalize sh_follow κ σ (nI (ad (aR α o) + 1 + j)) = q at I' b' e' ⊢
  obtain ⟨N', er⟩ := N.free e'
  rw [gm_setI ht]
  refine gm_pack (σ' := uReg q.2 (upd (sReg q.2) t q.1)) g1 I hB e1 e2 hp hR hq hU N' I' x' rfl (fun u hu => ?_)
  show gc_bw ad' Mv' Mk (if u = t then aF α (aR α o) j else aR α u) (upd (sReg q.2) t q.1 u)
  by_cases hz : u = t
  · rw [if_pos hz, hz, pk_us]; exact b'
  · rw [if_neg hz, pk_un hz, er]; exact x'.bw (hr u hu)
theorem gm_put {κ : sh_K} {σ : sh_S} {α : ab_A} {h k made beg R : Nat} {U : Nat → Prop} (G : gc_U κ σ α h k made beg R U) {u o j : Nat} (hu : u < 8) (ho : o < 8) (hx : aR α o ≠ 0) (hj : j < aT α (aR α o)) :
    gc_U κ (sh_link κ σ (sh_reg σ (nI o) + 1 + nI j) (sh_reg σ (nI u))) (abF α (aR α o) j (aR α u)) h k made beg R U := by
  obtain ⟨g1, base, ob, free, low, scan, tend, nh, ad, od, Mv, Mk, Sn, brf, N, I, hr, hB, e1, e2, hp, hR, hq, hU⟩ := G
  obtain ⟨-, -, -, -, k1, -, -, k4, -⟩ := id g1
  rw [gm_cell (κ := κ) I hr ho, gm_regI hu]
  obtain ⟨ad', Mv', free', I', e', x'⟩ := gc_link k1 k4 I N.2.2.1 N.2.2.2.1 ((hr o ho).2.resolve_left hx) hj (hr u hu)
  generalize sh_link κ σ (nI (ad (aR α o) + 1 + j)) (sReg σ u) = q at I' e' ⊢
  obtain ⟨N', er⟩ := N.free e'
  exact gm_pack g1 I hB e1 e2 hp hR hq hU N' I' x' rfl (fun v hv => by rw [er]; exact x'.bw (hr v hv))
theorem gm_look {κ : sh_K} {σ : sh_S} {α : ab_A} {h k made beg R : Nat} {U : Nat → Prop} (G : gc_U κ σ α h k made beg R U) {o j : Nat} (ho : o < 8) (hx : aR α o ≠ 0) (hj : j < aP α (aR α o)) :
    sh_val κ σ.1 (sh_reg σ (nI o) + 1 + nI (aT α (aR α o)) + nI j) = aI α (aR α o) j := by
  obtain ⟨g1, base, ob, free, low, scan, tend, nh, ad, od, Mv, Mk, Sn, brf, N, I, hr, -⟩ := G
  obtain ⟨-, -, -, -, k1, -, -, k4, -⟩ := id g1
  have hm := (hr o ho).2.resolve_left hx
  have hy := gc_half I hm (i := 1 + aT α (aR α o) + j) (by have : aC α (aR α o) = 1 + aT α (aR α o) + aP α (aR α o) := rfl; omega)
  have h20 := I.1.1
  rw [gm_cell (κ := κ) I hr ho, nI_add, gc_valI k4 (by omega) (by omega) (by omega)]
  obtain ⟨-, -, -, -, -, -, w1, -⟩ := I
  exact (w1 _ hm).2 j hj
