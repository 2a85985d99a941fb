/-! ===== GOING ON THROUGH THE MOVED CELLS ===== -/
def gc_N (σ : sh_S) (base free low scan tend nh made beg : Nat) : Prop := sMade σ = nI made ∧ sBeg σ = nI beg ∧ sBase σ = nI base ∧ sFree σ = nI free ∧ sLow σ = nI low ∧ sScan σ = nI scan ∧ sTend σ = nI tend ∧ sNh σ = nI nh
theorem gc_N.free {σ σ' : sh_S} {base free low scan tend nh made beg free' : Nat} (h : gc_N σ base free low scan tend nh made beg) (e : σ'.2 = (uFree σ (nI free')).2) : gc_N σ' base free' low scan tend nh made beg ∧ sReg σ' = sReg σ := by
  obtain ⟨a1, a2, a3, a4, a5, a6, a7, a8⟩ := h
  obtain ⟨c, m⟩ := σ'
  have e : m = (uFree σ (nI free')).2 := e
  subst e
  exact ⟨⟨a1, a2, a3, rfl, a5, a6, a7, a8⟩, rfl⟩
theorem abF_id (α : ab_A) (o j : Nat) : abF α o j (aF α o j) = α := by
  obtain ⟨a, b, c⟩ := α
  show (a, (fun p i => if p = o ∧ i = j then b o j else b p i), c) = (a, b, c)
  congr 2
  funext p i
  by_cases h : p = o ∧ i = j
  · obtain ⟨rfl, rfl⟩ := h
    rw [if_pos ⟨rfl, rfl⟩]
  · rw [if_neg h]
theorem gc_ws1 {κ : sh_K} {σ : sh_S} {hf base ob free low scan tend nh made beg : Nat} {α : ab_A} {ad od : Nat → Nat} {Mv Mk Sn : List Nat} {brf : Nat → Nat → Nat}
    (k1 : kHalf κ = nI hf) (k2 : kLast κ = nI (2 * hf)) (N : gc_N σ base free low scan tend nh made beg) (I : gc_I (sMem σ) hf base ob free low scan tend nh α ad od Mv Mk Sn brf) (hs : scan < free) :
    ∃ (ad' : Nat → Nat) (Mv' : List Nat) (free' tend' nh' : Nat), gc_N (sh_ws1 κ σ (sMem σ scan)) base free' low scan tend' nh' made beg ∧ sReg (sh_ws1 κ σ (sMem σ scan)) = sReg σ ∧ gc_ext ad ad' Mv Mv' Mk ∧ free ≤ free' ∧ scan < tend' ∧ tend' < 2 ^ 31 ∧ tend' ≤ nh' ∧
      gc_I (sMem (sh_ws1 κ σ (sMem σ scan))) hf base ob free' low (if scan + 1 = tend' then nh' else scan + 1) tend' nh' α ad' od Mv' Mk Sn brf := by
  have F := gc_free_le I
  obtain ⟨⟨h1, h2, h3⟩, ⟨z1, z2, z3, z4, n1, n2, n3, s1, s2, s3⟩, c1, c2, ⟨L1, L2, e1, e2, e3⟩, ⟨o1, o2, o3, o4, o5⟩, w1, w2, w3, w4, w5⟩ := id I
  obtain ⟨a1, a2, a3, a4, a5, a6, a7, a8⟩ := id N
  by_cases hz : scan = nh
  · -- a head
    have hne : L2 ≠ [] := by
      intro z
      subst z
      rw [List.append_nil] at e1
      subst e1
      have q1 := gc_chain_sum c1
      have q2 := gc_chain_sum e2
      omega
    obtain ⟨cur, L3, rfl⟩ := List.exists_cons_of_ne_nil hne
    have hcur : cur ∈ Mv := by rw [e1]; simp
    have c1' := c1
    rw [e1] at c1'
    obtain ⟨mm, q1, q2, q3⟩ := (gc_chain_app L1).mp c1'
    have hmm : mm = nh := by
      have p1 := gc_chain_sum q1
      have p2 := gc_chain_sum e2
      omega
    subst hmm
    have hC : aC α cur = 1 + aT α cur + aP α cur := rfl
    have hok : aC α cur ≤ 16 := (s3 cur (Or.inl (s1 cur hcur))).2
    have hw : sMem σ scan = aH α cur := by rw [hz, ← q2]; exact (w1 cur (Or.inl hcur)).1
    have eq : sh_ws1 κ σ (sMem σ scan) = uNh (uTend σ (nI (scan + 1 + aT α cur))) (nI (scan + aC α cur)) := by
      unfold sh_ws1
      rw [if_pos (by rw [a6, a8, hz]), hw, hC_eq, (hT_lt (aH α cur)).2, a6, show (1 : Int32) = nI 1 from rfl, nI_add, nI_add, nI_add]
    rw [eq]
    refine ⟨ad, Mv, free, scan + 1 + aT α cur, scan + aC α cur, ⟨a1, a2, a3, a4, a5, a6, rfl, rfl⟩, rfl, gc_ext.rf, Nat.le_refl _, by omega, by omega, by omega, ?_⟩
    have hch : gc_chain ad (aC α) base (L1 ++ [cur]) (scan + aC α cur) := (gc_chain_app L1).mpr ⟨mm, e2, q2, by show mm + aC α cur = scan + aC α cur; rw [hz]⟩
    refine gc_adv I ⟨L1 ++ [cur], L3, by rw [e1]; simp, hch, ?_⟩ ?_
    · by_cases hT : scan + 1 = scan + 1 + aT α cur
      · rw [if_pos hT]; exact Or.inl rfl
      · rw [if_neg hT]
        exact Or.inr ⟨L1, cur, rfl, by omega, by omega, by omega⟩
    · intro o j ho hj g1 g2
      exfalso
      have hCo : aC α o = 1 + aT α o + aP α o := rfl
      have hin : ad o + 1 + j < scan + aC α cur := by
        by_cases hT : scan + 1 = scan + 1 + aT α cur
        · rw [if_pos hT] at g2; omega
        · rw [if_neg hT] at g2; omega
      have hz2 := gc_inj I (p := o) (q := cur) (i := 1 + j) (i' := ad o + 1 + j - scan) (Or.inl ho) (Or.inl hcur) (by omega) (by omega) (by omega)
      obtain ⟨rfl, hz3⟩ := hz2
      by_cases hT : scan + 1 = scan + 1 + aT α o
      · omega
      · rw [if_neg hT] at g2; omega
  · -- a reference
    rcases e3 with e3 | ⟨L0, cur, e3, e4, e5, e6⟩
    · exact absurd e3 hz
    subst e3
    have hcur : cur ∈ Mv := by rw [e1]; simp
    have hC : aC α cur = 1 + aT α cur + aP α cur := rfl
    obtain ⟨j, hj⟩ : ∃ j, scan = ad cur + 1 + j := ⟨scan - (ad cur + 1), by omega⟩
    have hjT : j < aT α cur := by omega
    have hin := gc_chain_in e2 (o := cur) (by simp)
    have hend : ad cur + aC α cur = nh := by
      obtain ⟨mm, q1, q2, q3⟩ := (gc_chain_app L0).mp e2
      have q3 : mm + aC α cur = nh := q3
      omega
    have hw : gc_gw ad od Mv Mk Sn (aF α cur j) (sMem σ scan) := by rw [hj]; exact w4 cur j hcur hjT
    obtain ⟨ad', Mv', free', I', b', e', x'⟩ := gc_piu k1 k2 I a3 a4 hw
    obtain ⟨N', r'⟩ := N.free e'
    have ea : ad' cur = ad cur := x'.1 cur (Or.inr (Or.inl hcur))
    have hcur' := x'.2 cur hcur
    have hgr : brf cur j = 0 ∨ brf cur j ∈ Mv' := by
      by_cases h0 : brf cur j = 0
      · exact Or.inl h0
      refine Or.inr ?_
      rcases w5 cur j hcur hjT h0 with h5 | ⟨-, h5⟩
      · exact x'.2 _ h5
      have ht : brf cur j ∈ Sn := (o5 cur j (s1 cur hcur) hjT).resolve_left h0
      have bt := o1 _ ht
      have hCt : aC α (brf cur j) = 1 + aT α (brf cur j) + aP α (brf cur j) := rfl
      rw [hj, h5] at hw
      rcases hw with ⟨g1, hr⟩ | ⟨g1, hr⟩
      · exfalso
        rcases hr with hr | hr
        · rw [hr, z1] at g1
          have := (nI_eq (by omega) (by omega)).mp g1
          omega
        · have hy := gc_half I hr (i := 0) (by have : aC α (aF α cur j) = 1 + aT α (aF α cur j) + aP α (aF α cur j) := rfl; omega)
          have := (nI_eq (by omega) (by omega)).mp g1
          omega
      · have br := o1 _ hr
        have hCr : aC α (aF α cur j) = 1 + aT α (aF α cur j) + aP α (aF α cur j) := rfl
        have g2 := (nI_eq (by omega) (by omega)).mp g1
        have g3 : brf cur j = aF α cur j := by
          by_cases hq : brf cur j = aF α cur j
          · exact hq
          · have := o2 _ _ ht hr hq
            omega
        rw [g3]
        rcases b'.2 with h6 | h6 | h6
        · exact absurd (g3.trans h6) h0
        · exact h6
        · exact absurd hr (s2 _ h6)
    have I2 := gc_wr I' (Or.inl hcur') hjT b' (fun _ => hgr)
    rw [abF_id, ea, ← hj] at I2
    obtain ⟨d1, d2, d3, d4, d5, d6, d7, d8⟩ := id N'
    have F' := gc_free_le I'
    have fin : ∀ σ2 : sh_S, σ2.2 = (sh_piu κ σ (sMem σ scan)).2.2 → sMem σ2 = upd (sMem (sh_piu κ σ (sMem σ scan)).2) scan (sh_piu κ σ (sMem σ scan)).1 → sh_ws1 κ σ (sMem σ scan) = σ2 → ∃ (ad' : Nat → Nat) (Mv' : List Nat) (free' tend' nh' : Nat), gc_N (sh_ws1 κ σ (sMem σ scan)) base free' low scan tend' nh' made beg ∧ sReg (sh_ws1 κ σ (sMem σ scan)) = sReg σ ∧ gc_ext ad ad' Mv Mv' Mk ∧ free ≤ free' ∧ scan < tend' ∧ tend' < 2 ^ 31 ∧ tend' ≤ nh' ∧
      gc_I (sMem (sh_ws1 κ σ (sMem σ scan))) hf base ob free' low (if scan + 1 = tend' then nh' else scan + 1) tend' nh' α ad' od Mv' Mk Sn brf := by
      intro σ2 g1 g2 g3
      rw [g3]
      have N2 := N.free (σ' := σ2) (g1.trans e')
      have hle : free ≤ free' := by
        have p1 := gc_sum_le (cz := aC α) _ _ n1 x'.2
        omega
      refine ⟨ad', Mv', free', tend, nh, N2.1, N2.2, x', hle, by omega, by omega, by omega, ?_⟩
      rw [g2]
      obtain ⟨L1', L2', p1, p2, p3⟩ := id I2.2.2.2.2.1
      refine gc_adv I2 ?_ ?_
      · rcases p3 with p3 | ⟨L0', cur', p4, p5, p6, p7⟩
        · exact absurd p3 hz
        · have hcc : cur' ∈ Mv' := by rw [p1, p4]; simp
          have hCc : aC α cur' = 1 + aT α cur' + aP α cur' := rfl
          refine ⟨L1', L2', p1, p2, ?_⟩
          by_cases hT : scan + 1 = tend
          · rw [if_pos hT]; exact Or.inl rfl
          · rw [if_neg hT]; exact Or.inr ⟨L0', cur', p4, by omega, by omega, p7⟩
      · intro o i ho hi g4 g5
        have hCo : aC α o = 1 + aT α o + aP α o := rfl
        have hin2 : ad' o + 1 + i < ad' cur + aC α cur := by
          by_cases hT : scan + 1 = tend
          · rw [if_pos hT] at g5; omega
          · rw [if_neg hT] at g5; omega
        obtain ⟨rfl, hz3⟩ := gc_inj I2 (p := o) (q := cur) (i := 1 + i) (i' := ad' o + 1 + i - ad' cur) (Or.inl ho) (Or.inl hcur') (by omega) (by omega) (by omega)
        have hij : i = j := by
          by_cases hT : scan + 1 = tend
          · omega
          · rw [if_neg hT] at g5; omega
        subst hij
        rw [ea, ← hj, pk_us]
        exact ⟨b', hgr⟩
    by_cases hq : (sh_piu κ σ (sMem σ scan)).1 = sMem σ scan
    · refine fin (sh_piu κ σ (sMem σ scan)).2 rfl ?_ ?_
      · have hx := gc_half I (Or.inl hcur) (i := 1 + j) (by omega)
        have hmem : sMem (sh_piu κ σ (sMem σ scan)).2 scan = sMem σ scan := by
          have h7 := b'
          rw [hq] at h7
          -- the word led to the half in use already: nothing has moved
          have ho : sh_old κ σ (sMem σ scan) = 0 := by
            rw [h7.1]
            refine gc_oldNo k1 a3 (by omega) ?_
            rcases h7.2 with h | h
            · rw [h]; exact Or.inl I'.2.1.1
            · have hy := gc_half I' h (i := 0) (by have : aC α (aF α cur j) = 1 + aT α (aF α cur j) + aP α (aF α cur j) := rfl; omega)
              right; omega
          unfold sh_piu
          rw [if_pos ho]
        funext y
        by_cases hy : y = scan
        · subst hy; rw [pk_us, hmem, hq]
        · rw [pk_un hy]
      · unfold sh_ws1
        rw [if_neg (by rw [a6, a8]; intro z; exact hz ((nI_eq (by omega) (by omega)).mp z)), if_pos hq]
    · refine fin (uC (sh_piu κ σ (sMem σ scan)).2 (sh_write κ (sh_piu κ σ (sMem σ scan)).2.1 (sScan (sh_piu κ σ (sMem σ scan)).2) (sh_piu κ σ (sMem σ scan)).1)) rfl ?_ ?_
      · show (sh_write κ (sh_piu κ σ (sMem σ scan)).2.1 (sScan (sh_piu κ σ (sMem σ scan)).2) (sh_piu κ σ (sMem σ scan)).1).2.2.1 = _
        rw [d6, gc_writeI k2 (by omega) (by omega) (by omega)]
      · unfold sh_ws1
        rw [if_neg (by rw [a6, a8]; intro z; exact hz ((nI_eq (by omega) (by omega)).mp z)), if_neg hq]
theorem gc_work1 {κ : sh_K} {σ : sh_S} {hf base ob free low scan tend nh made beg : Nat} {α : ab_A} {ad od : Nat → Nat} {Mv Mk Sn : List Nat} {brf : Nat → Nat → Nat}
    (k1 : kHalf κ = nI hf) (k2 : kLast κ = nI (2 * hf)) (N : gc_N σ base free low scan tend nh made beg) (I : gc_I (sMem σ) hf base ob free low scan tend nh α ad od Mv Mk Sn brf) (hs : scan < free) :
    ∃ (ad' : Nat → Nat) (Mv' : List Nat) (free' scan' tend' nh' : Nat), gc_N (sh_workStep κ σ) base free' low scan' tend' nh' made beg ∧ sReg (sh_workStep κ σ) = sReg σ ∧ gc_ext ad ad' Mv Mv' Mk ∧ scan < scan' ∧
      gc_I (sMem (sh_workStep κ σ)) hf base ob free' low scan' tend' nh' α ad' od Mv' Mk Sn brf := by
  have F := gc_free_le I
  obtain ⟨h1, h2, -⟩ := I.1
  have hv : sh_val κ σ.1 (sScan σ) = sMem σ scan := by rw [N.2.2.2.2.2.1]; exact gc_valI k2 (by omega) (by omega) (by omega)
  obtain ⟨ad', Mv', free', tend', nh', N', r', x', l1, l2, l3, l4, I'⟩ := gc_ws1 (σ := uC σ (sh_touch κ σ.1)) k1 k2 N I hs
  have N' : gc_N (sh_ws1 κ (uC σ (sh_touch κ σ.1)) (sMem σ scan)) base free' low scan tend' nh' made beg := N'
  have r' : sReg (sh_ws1 κ (uC σ (sh_touch κ σ.1)) (sMem σ scan)) = sReg σ := r'
  refine ⟨ad', Mv', free', (if scan + 1 = tend' then nh' else scan + 1), tend', nh', ?_, ?_, x', by split <;> omega, ?_⟩
  · unfold sh_workStep
    rw [hv]
    obtain ⟨a1, a2, a3, a4, a5, a6, a7, a8⟩ := id N'
    unfold sh_ws2
    by_cases hT : scan + 1 = tend'
    · rw [if_pos (by rw [a6, a7, nI_1, hT]), if_pos hT]
      exact ⟨a1, a2, a3, a4, a5, a8, a7, a8⟩
    · rw [if_neg (by rw [a6, a7, nI_1]; intro z; exact hT ((nI_eq (by omega) (by omega)).mp z)), if_neg hT]
      exact ⟨a1, a2, a3, a4, a5, by rw [← nI_1]; exact congrArg (· + 1) a6, a7, a8⟩
  · unfold sh_workStep
    rw [hv, ← r']
    unfold sh_ws2
    split <;> rfl
  · unfold sh_workStep
    rw [hv]
    have : sMem (sh_ws2 (sh_ws1 κ (uC σ (sh_touch κ σ.1)) (sMem σ scan))) = sMem (sh_ws1 κ (uC σ (sh_touch κ σ.1)) (sMem σ scan)) := by
      unfold sh_ws2
      split <;> rfl
    rw [this]
    exact I'
theorem gc_workN {κ : sh_K} {hf base ob low made beg goal : Nat} {α : ab_A} {od : Nat → Nat} {Mk Sn : List Nat} {brf : Nat → Nat → Nat} (k1 : kHalf κ = nI hf) (k2 : kLast κ = nI (2 * hf)) (hg : goal < 2 ^ 31) :
    ∀ (n : Nat) (σ : sh_S) (free scan tend nh : Nat) (ad : Nat → Nat) (Mv : List Nat), gc_N σ base free low scan tend nh made beg → gc_I (sMem σ) hf base ob free low scan tend nh α ad od Mv Mk Sn brf →
    ∃ (ad' : Nat → Nat) (Mv' : List Nat) (free' scan' tend' nh' : Nat), gc_N (sh_workN κ (nI goal) σ n) base free' low scan' tend' nh' made beg ∧ sReg (sh_workN κ (nI goal) σ n) = sReg σ ∧ gc_ext ad ad' Mv Mv' Mk ∧
      gc_I (sMem (sh_workN κ (nI goal) σ n)) hf base ob free' low scan' tend' nh' α ad' od Mv' Mk Sn brf ∧ (scan' = free' ∨ goal ≤ scan' ∨ (scan < free ∧ scan + n ≤ scan'))
  | 0, σ, free, scan, tend, nh, ad, Mv, N, I => ⟨ad, Mv, free, scan, tend, nh, N, rfl, gc_ext.rf, I, by have F := gc_free_le I; omega⟩
  | n + 1, σ, free, scan, tend, nh, ad, Mv, N, I => by
    have F := gc_free_le I
    obtain ⟨h1, h2, -⟩ := I.1
    obtain ⟨a1, a2, a3, a4, a5, a6, a7, a8⟩ := id N
    by_cases hs : scan < free
    · by_cases hq : scan < goal
      · have eq : sh_workN κ (nI goal) σ (n + 1) = sh_workN κ (nI goal) (sh_workStep κ σ) n := by
          show (if sScan σ < sFree σ then (if sScan σ < nI goal then _ else _) else _) = _
          rw [a6, a4, if_pos (nI_lt hs (by omega)), if_pos (nI_lt hq (by omega))]
        rw [eq]
        obtain ⟨ad', Mv', free', scan', tend', nh', N', r', x', l1, I'⟩ := gc_work1 k1 k2 N I hs
        obtain ⟨ad2, Mv2, free2, scan2, tend2, nh2, N2, r2, x2, I2, l2⟩ := gc_workN k1 k2 hg n _ _ _ _ _ _ _ N' I'
        exact ⟨ad2, Mv2, free2, scan2, tend2, nh2, N2, r2.trans r', x'.tr x2, I2, by omega⟩
      · have eq : sh_workN κ (nI goal) σ (n + 1) = σ := by
          show (if sScan σ < sFree σ then (if sScan σ < nI goal then _ else _) else _) = _
          rw [a6, a4, if_pos (nI_lt hs (by omega)), if_neg (nI_nlt (by omega) (by omega))]
        rw [eq]
        exact ⟨ad, Mv, free, scan, tend, nh, N, rfl, gc_ext.rf, I, Or.inr (Or.inl (by omega))⟩
    · have eq : sh_workN κ (nI goal) σ (n + 1) = σ := by
        show (if sScan σ < sFree σ then (if sScan σ < nI goal then _ else _) else _) = _
        rw [a6, a4, if_neg (nI_nlt (by omega) (by omega))]
      rw [eq]
      exact ⟨ad, Mv, free, scan, tend, nh, N, rfl, gc_ext.rf, I, Or.inl (by omega)⟩
