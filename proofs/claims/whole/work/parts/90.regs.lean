/-! ===== A NEW CYCLE WITH U; registers; heads ===== -/
theorem gm_begin {κ : sh_K} {σ : sh_S} {α : ab_A} {h k made beg R : Nat} {U U' : Nat → Prop} (G : gc_U κ σ α h k made beg R U) {Sn' : List Nat} (hS : ab_R α Sn') (hU' : ∀ o, o ∈ Sn' → U' o) (c1 : R ≤ k * made) (c2 : R ≤ h * k / (k + 1)) :
    gc_U κ (sh_begin κ σ) α h k 0 (beg + 1) (gc_sum (aC α) Sn') U' ∧ gc_sum (aC α) Sn' + 16 ≤ 2 * h + 64 := by
  obtain ⟨hd1, hd2⟩ := gc_doneI G.G
  obtain ⟨⟨h1, h2, h3, h4, k1, k2, k3, k4, k5⟩, base, ob, free, low, scan, tend, nh, ad, od, Mv, Mk, Sn, brf, N, I, hr, hB, e1, e2, hp, hR, hq, hU⟩ := G
  have F := gc_free_le I
  obtain ⟨b1, b2, b3⟩ := I.1
  obtain ⟨a1, a2, a3, a4, a5, a6, a7, a8⟩ := id N
  have hsf : scan = free := by
    have := (hd2 c1).2
    rw [a6, a4] at this
    exact (nI_eq (by omega) (by omega)).mp this
  have d2 : ∀ o, o ∈ Sn' → o ∈ Mv ∨ o ∈ Mk := fun o ho => gr_sub I hsf hr ((hS.2 o).mp ho)
  have hcl := ab_reach_cl α
  have d3 : ∀ o j, o ∈ Sn' → j < aT α o → aF α o j = 0 ∨ aF α o j ∈ Sn' := fun o j ho hj => by
    by_cases hz : aF α o j = 0
    · exact Or.inl hz
    · exact Or.inr ((hS.2 _).mpr (hcl.2 o j ((hS.2 o).mp ho) hj hz))
  have d5 : ∀ t, t < 8 → aR α t = 0 ∨ aR α t ∈ Sn' := fun t ht => by
    by_cases hz : aR α t = 0
    · exact Or.inl hz
    · exact Or.inr ((hS.2 _).mpr (hcl.1 t ht hz))
  have hsum := gr_sum I hS.1 d2
  have har : R + made < h + 16 := gc_arith h3 c2 hq
  obtain ⟨ad', od', Mv', free', N', I', r', hm'⟩ := gc_begin k1 k4 N I hsf hr hS.1 d2 d3 (by omega) d5
  have F' := gc_free_le I'
  refine ⟨⟨⟨h1, h2, h3, h4, k1, k2, k3, k4, k5⟩, ob, base, free', _, ob, ob, ob, ad', od', Mv', [], Sn', aF α, N', I', r', ?_, rfl, rfl, Or.inr (by omega), by omega, Or.inl (by omega), fun o ho => ?_⟩, by omega⟩
  · intro P p1 p2 o ho
    have := (hS.2 o).mp ho (fun q => q ∈ Sn' ∧ P q) ⟨fun t ht hne => ⟨(d5 t ht).resolve_left hne, p1 _ (hm' t ht hne)⟩, fun q j hq2 hj hne => ⟨(d3 q j hq2.1 hj).resolve_left hne, p2 q j hq2.2 hq2.1 hj hne⟩⟩
    exact this.2
  · rcases ho with ho | ho
    · exact hU' o ho
    · exact absurd ho List.not_mem_nil
theorem gm_isReg {t : Nat} (ht : t < 8) : ¬ sh_isReg (nI t) = 0 := by
  unfold sh_isReg sh_below
  rw [if_neg (nI_pos (by omega)), if_neg (show ¬ (8 : Int32) ≤ nI t from nI_ge (a := t) (b := 8) ht (by decide))]
  decide
theorem gm_setI {σ : sh_S} {t : Nat} {v : Int32} (ht : t < 8) : sh_setReg σ (nI t) v = uReg σ (upd (sReg σ) t v) := by
  unfold sh_setReg
  rw [if_neg (gm_isReg ht), nI_clamp (by omega)]
theorem gm_regI {σ : sh_S} {t : Nat} (ht : t < 8) : sh_reg σ (nI t) = sReg σ t := by
  unfold sh_reg
  rw [if_neg (gm_isReg ht), nI_clamp (by omega)]
/-- a register becomes what another one is -/
theorem gm_copy {κ : sh_K} {σ : sh_S} {α : ab_A} {h k made beg R : Nat} {U : Nat → Prop} (G : gc_U κ σ α h k made beg R U) {t u : Nat} (ht : t < 8) (hu : u < 8) : gc_U κ (sh_setReg σ (nI t) (sh_reg σ (nI u))) (abR α t (aR α u)) h k made beg R U := by
  obtain ⟨g1, base, ob, free, low, scan, tend, nh, ad, od, Mv, Mk, Sn, brf, N, I, hr, hB, e1, e2, hp, hR, hq, hU⟩ := G
  rw [gm_setI ht, gm_regI hu]
  refine ⟨g1, base, ob, free, low, scan, tend, nh, ad, od, Mv, Mk, Sn, brf, N, I, ?_, hB, e1, e2, hp, hR, hq, hU⟩
  intro x hx
  show gc_bw ad Mv Mk (if x = t then aR α u else aR α x) (upd (sReg σ) t (sReg σ u) x)
  by_cases hz : x = t
  · rw [if_pos hz, hz, pk_us]; exact hr u hu
  · rw [if_neg hz, pk_un hz]; exact hr x hx
theorem gm_drop {κ : sh_K} {σ : sh_S} {α : ab_A} {h k made beg R : Nat} {U : Nat → Prop} (G : gc_U κ σ α h k made beg R U) {t : Nat} (ht : t < 8) : gc_U κ (sh_setReg σ (nI t) 0) (abR α t 0) h k made beg R U := by
  obtain ⟨g1, base, ob, free, low, scan, tend, nh, ad, od, Mv, Mk, Sn, brf, N, I, hr, hB, e1, e2, hp, hR, hq, hU⟩ := G
  rw [gm_setI ht]
  refine ⟨g1, base, ob, free, low, scan, tend, nh, ad, od, Mv, Mk, Sn, brf, N, I, ?_, hB, e1, e2, hp, hR, hq, hU⟩
  intro x hx
  show gc_bw ad Mv Mk (if x = t then 0 else aR α x) (upd (sReg σ) t 0 x)
  by_cases hz : x = t
  · rw [if_pos hz, hz, pk_us]
    exact ⟨by rw [I.2.1.1, nI_0], Or.inl rfl⟩
  · rw [if_neg hz, pk_un hz]; exact hr x hx
/-- a register is nothing, or the same as another one, where the heap says so -/
theorem gm_reg0 {κ : sh_K} {σ : sh_S} {α : ab_A} {h k made beg R : Nat} {U : Nat → Prop} (G : gc_U κ σ α h k made beg R U) {t : Nat} (ht : t < 8) : sReg σ t = 0 ↔ aR α t = 0 := by
  obtain ⟨g1, base, ob, free, low, scan, tend, nh, ad, od, Mv, Mk, Sn, brf, N, I, hr, -⟩ := G
  have h20 := I.1.1
  constructor
  · intro z
    rcases (hr t ht).2 with h | h
    · exact h
    · exfalso
      have hy := gc_half I h (i := 0) (by have : aC α (aR α t) = 1 + aT α (aR α t) + aP α (aR α t) := rfl; omega)
      rw [(hr t ht).1] at z
      exact nI_ne0 (by omega) (by omega) z
  · intro z
    rw [(hr t ht).1, z, I.2.1.1, nI_0]
theorem gm_same {κ : sh_K} {σ : sh_S} {α : ab_A} {h k made beg R : Nat} {U : Nat → Prop} (G : gc_U κ σ α h k made beg R U) {t u : Nat} (ht : t < 8) (hu : u < 8) : sReg σ t = sReg σ u ↔ aR α t = aR α u := by
  obtain ⟨g1, base, ob, free, low, scan, tend, nh, ad, od, Mv, Mk, Sn, brf, N, I, hr, -⟩ := G
  have h20 := I.1.1
  have hb := fun {x : Nat} (hx : x ∈ Mv ∨ x ∈ Mk) => gc_half I hx (i := 0) (by have : aC α x = 1 + aT α x + aP α x := rfl; omega)
  constructor
  · intro z
    rw [(hr t ht).1, (hr u hu).1] at z
    rcases (hr t ht).2 with h | h <;> rcases (hr u hu).2 with h' | h'
    · rw [h, h']
    · exfalso
      have hy := hb h'
      rw [h, I.2.1.1] at z
      have := (nI_eq (by omega) (by omega)).mp z
      omega
    · exfalso
      have hy := hb h
      rw [h', I.2.1.1] at z
      have := (nI_eq (by omega) (by omega)).mp z
      omega
    · have y1 := hb h
      have y2 := hb h'
      have := (nI_eq (by omega) (by omega)).mp z
      exact (gc_inj I (i := 0) (i' := 0) h h' (by have : aC α (aR α t) = 1 + aT α (aR α t) + aP α (aR α t) := rfl; omega) (by have : aC α (aR α u) = 1 + aT α (aR α u) + aP α (aR α u) := rfl; omega) (by omega)).1
  · intro z
    rw [(hr t ht).1, (hr u hu).1, z]
/-- the head that a call begins with -/
theorem gm_head {κ : sh_K} {σ : sh_S} {α : ab_A} {h k made beg R : Nat} {U : Nat → Prop} (G : gc_U κ σ α h k made beg R U) {t : Nat} (ht : t < 8) : (sh_head κ σ (nI t)).1 = (if aR α t = 0 then 0 else aH α (aR α t)) ∧ gc_U κ (sh_head κ σ (nI t)).2 α h k made beg R U := by
  have g0 := gm_reg0 G ht
  obtain ⟨g1, base, ob, free, low, scan, tend, nh, ad, od, Mv, Mk, Sn, brf, N, I, hr, hrest⟩ := id G
  have h20 := I.1.1
  obtain ⟨-, -, -, -, -, -, -, k4, -⟩ := g1
  have er : sh_reg (uC σ (sh_start σ.1)) (nI t) = sReg σ t := gm_regI (σ := uC σ (sh_start σ.1)) ht
  unfold sh_head
  dsimp only
  rw [er]
  by_cases hz : aR α t = 0
  · rw [if_pos (g0.mpr hz), if_pos hz]
    exact ⟨rfl, G⟩
  · rw [if_neg (fun q => hz (g0.mp q)), if_neg hz]
    refine ⟨?_, G⟩
    have hm := (hr t ht).2.resolve_left hz
    have hy := gc_half I hm (i := 0) (by have : aC α (aR α t) = 1 + aT α (aR α t) + aP α (aR α t) := rfl; omega)
    rw [(hr t ht).1]
    show sh_val κ (sh_start σ.1) (nI (ad (aR α t))) = _
    rw [gc_valI k4 (by omega) (by omega) (by omega)]
    obtain ⟨-, -, -, -, -, -, w1, -⟩ := I
    exact (w1 _ hm).1
