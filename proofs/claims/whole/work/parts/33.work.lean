/-! ===== WRITING A REFERENCE, GOING ON, follow, link, work ===== -/
def abF (α : ab_A) (o j r : Nat) : ab_A := (α.1, fun p i => if p = o ∧ i = j then r else aF α p i, α.2.2)
theorem gc_inj {mem : Nat → Int32} {hf base ob free low scan tend nh : Nat} {α : ab_A} {ad od : Nat → Nat} {Mv Mk Sn : List Nat} {brf : Nat → Nat → Nat} (I : gc_I mem hf base ob free low scan tend nh α ad od Mv Mk Sn brf)
    {p q i i' : Nat} (hp : p ∈ Mv ∨ p ∈ Mk) (hq : q ∈ Mv ∨ q ∈ Mk) (hi : i < aC α p) (hi' : i' < aC α q) (h : ad p + i = ad q + i') : p = q ∧ i = i' := by
  have F := gc_free_le I
  obtain ⟨-, -, c1, c2, -⟩ := I
  by_cases hpq : p = q
  · subst hpq; exact ⟨rfl, by omega⟩
  · exfalso
    rcases hp with hp | hp <;> rcases hq with hq | hq
    · have := gc_chain_dis c1 hp hq hpq; omega
    · have a1 := gc_chain_in c1 hp; have a2 := gc_chain_in c2 hq; omega
    · have a1 := gc_chain_in c2 hp; have a2 := gc_chain_in c1 hq; omega
    · have := gc_chain_dis c2 hp hq hpq; omega
theorem gc_half {mem : Nat → Int32} {hf base ob free low scan tend nh : Nat} {α : ab_A} {ad od : Nat → Nat} {Mv Mk Sn : List Nat} {brf : Nat → Nat → Nat} (I : gc_I mem hf base ob free low scan tend nh α ad od Mv Mk Sn brf)
    {p i : Nat} (hp : p ∈ Mv ∨ p ∈ Mk) (hi : i < aC α p) : base ≤ ad p + i ∧ ad p + i < base + hf ∧ 1 ≤ ad p ∧ ad p + i ≤ 2 * hf ∧ ad p + i < 2 ^ 31 := by
  have F := gc_free_le I
  obtain ⟨⟨h1, h2, -⟩, -, c1, c2, -⟩ := I
  rcases hp with hp | hp
  · have := gc_chain_in c1 hp; omega
  · have := gc_chain_in c2 hp; omega
theorem gc_wr {mem : Nat → Int32} {hf base ob free low scan tend nh : Nat} {α : ab_A} {ad od : Nat → Nat} {Mv Mk Sn : List Nat} {brf : Nat → Nat → Nat} (I : gc_I mem hf base ob free low scan tend nh α ad od Mv Mk Sn brf)
    {o j r : Nat} {v : Int32} (ho : o ∈ Mv ∨ o ∈ Mk) (hj : j < aT α o) (hb : gc_bw ad Mv Mk r v) (hg : o ∈ Mv → brf o j = 0 ∨ brf o j ∈ Mv) :
    gc_I (upd mem (ad o + 1 + j) v) hf base ob free low scan tend nh (abF α o j r) ad od Mv Mk Sn brf := by
  have F := gc_free_le I
  have inj := fun {p i : Nat} (hp : p ∈ Mv ∨ p ∈ Mk) (hi : i < aC α p) (h : ad p + i = ad o + (1 + j)) => gc_inj I hp ho hi (show 1 + j < aC α o by have : aC α o = 1 + aT α o + aP α o := rfl; omega) h
  have hx := gc_half I ho (i := 1 + j) (by have : aC α o = 1 + aT α o + aP α o := rfl; omega)
  obtain ⟨⟨h1, h2, h3⟩, ⟨z1, z2, z3, z4, n1, n2, n3, s1, s2, s3⟩, c1, c2, sc, ⟨o1, o2, o3, o4, o5⟩, w1, w2, w3, w4, w5⟩ := I
  have hso : ∀ p, p ∈ Sn → p ∉ Mv → p ≠ o := by
    intro p h4 h5 z
    subst z
    rcases ho with ho | ho
    · exact h5 ho
    · exact s2 p ho h4
  have kO : ∀ x, ob ≤ x → x < ob + hf → upd mem (ad o + 1 + j) v x = mem x := fun x h4 h5 => pk_un (by omega)
  have eqF : ∀ p i, ¬ (p = o ∧ i = j) → aF (abF α o j r) p i = aF α p i := fun p i h => by
    show (if p = o ∧ i = j then r else aF α p i) = _
    rw [if_neg h]
  have eqS : aF (abF α o j r) o j = r := by
    show (if o = o ∧ j = j then r else aF α o j) = _
    rw [if_pos ⟨rfl, rfl⟩]
  have kN : ∀ p i, p ∈ Mv ∨ p ∈ Mk → i < aC α p → ¬ (p = o ∧ i = 1 + j) → upd mem (ad o + 1 + j) v (ad p + i) = mem (ad p + i) := fun p i hp hi hne => pk_un (fun z => hne (inj hp hi (by omega)))
  refine ⟨⟨h1, h2, h3⟩, ⟨z1, z2, z3, z4, n1, n2, n3, s1, s2, s3⟩, c1, c2, sc, ⟨o1, o2, ?_, ?_, o5⟩, ?_, ?_, ?_, ?_, ?_⟩
  · intro p hp
    have b := o1 p (s1 p hp)
    have : aC α p = 1 + aT α p + aP α p := rfl
    rw [kO _ (by omega) (by omega)]
    exact o3 p hp
  · intro p hp hn
    have b := o1 p hp
    have hC : aC α p = 1 + aT α p + aP α p := rfl
    obtain ⟨a1, a2, a3⟩ := o4 p hp hn
    refine ⟨by rw [kO _ (by omega) (by omega)]; exact a1, fun i hi => ?_, fun i hi => ?_⟩
    · have hi : i < aT α p := hi
      rw [kO _ (by omega) (by omega), eqF p i (fun z => hso p hp hn z.1)]
      exact a2 i hi
    · have hi : i < aP α p := hi
      show upd mem (ad o + 1 + j) v (od p + 1 + aT α p + i) = aI α p i
      rw [kO _ (by omega) (by omega)]
      exact a3 i hi
  · intro p hp
    have hC : aC α p = 1 + aT α p + aP α p := rfl
    obtain ⟨a1, a2⟩ := w1 p hp
    refine ⟨?_, fun i hi => ?_⟩
    · rw [show ad p = ad p + 0 from rfl, kN p 0 hp (by omega) (by omega)]
      exact a1
    · have hi : i < aP α p := hi
      show upd mem (ad o + 1 + j) v (ad p + 1 + aT α p + i) = aI α p i
      rw [show ad p + 1 + aT α p + i = ad p + (1 + aT α p + i) by omega, kN p _ hp (by omega) (fun z => by obtain ⟨rfl, z⟩ := z; omega), show ad p + (1 + aT α p + i) = ad p + 1 + aT α p + i by omega]
      exact a2 i hi
  · intro p i hp hi
    have hi : i < aT α p := hi
    have hC : aC α p = 1 + aT α p + aP α p := rfl
    by_cases hz : p = o ∧ i = j
    · obtain ⟨rfl, rfl⟩ := hz
      rw [eqS, pk_us]; exact hb
    · rw [eqF p i hz, show ad p + 1 + i = ad p + (1 + i) by omega, kN p _ (Or.inr hp) (by omega) (fun z => hz ⟨z.1, by omega⟩), show ad p + (1 + i) = ad p + 1 + i by omega]
      exact w2 p i hp hi
  · intro p i hp hi hs
    have hi : i < aT α p := hi
    have hC : aC α p = 1 + aT α p + aP α p := rfl
    by_cases hz : p = o ∧ i = j
    · obtain ⟨rfl, rfl⟩ := hz
      rw [eqS, pk_us]; exact hb
    · rw [eqF p i hz, show ad p + 1 + i = ad p + (1 + i) by omega, kN p _ (Or.inl hp) (by omega) (fun z => hz ⟨z.1, by omega⟩), show ad p + (1 + i) = ad p + 1 + i by omega]
      exact w3 p i hp hi hs
  · intro p i hp hi
    have hi : i < aT α p := hi
    have hC : aC α p = 1 + aT α p + aP α p := rfl
    by_cases hz : p = o ∧ i = j
    · obtain ⟨rfl, rfl⟩ := hz
      rw [eqS, pk_us]; exact Or.inl hb
    · rw [eqF p i hz, show ad p + 1 + i = ad p + (1 + i) by omega, kN p _ (Or.inl hp) (by omega) (fun z => hz ⟨z.1, by omega⟩), show ad p + (1 + i) = ad p + 1 + i by omega]
      exact w4 p i hp hi
  · intro p i hp hi hne
    have hi : i < aT α p := hi
    have hC : aC α p = 1 + aT α p + aP α p := rfl
    by_cases hz : p = o ∧ i = j
    · obtain ⟨rfl, rfl⟩ := hz
      rcases hg hp with h | h
      · exact absurd h hne
      · exact Or.inl h
    · rcases w5 p i hp hi hne with h | ⟨h, h'⟩
      · exact Or.inl h
      · refine Or.inr ⟨h, ?_⟩
        rw [show ad p + 1 + i = ad p + (1 + i) by omega, kN p _ (Or.inl hp) (by omega) (fun z => hz ⟨z.1, by omega⟩), show ad p + (1 + i) = ad p + 1 + i by omega]
        exact h'
theorem gc_adv {mem : Nat → Int32} {hf base ob free low scan tend nh scan' tend' nh' : Nat} {α : ab_A} {ad od : Nat → Nat} {Mv Mk Sn : List Nat} {brf : Nat → Nat → Nat} (I : gc_I mem hf base ob free low scan tend nh α ad od Mv Mk Sn brf)
    (sc : gc_sc ad α Mv base scan' tend' nh') (h : ∀ o j, o ∈ Mv → j < aT α o → scan ≤ ad o + 1 + j → ad o + 1 + j < scan' → gc_bw ad Mv Mk (aF α o j) (mem (ad o + 1 + j)) ∧ (brf o j = 0 ∨ brf o j ∈ Mv)) :
    gc_I mem hf base ob free low scan' tend' nh' α ad od Mv Mk Sn brf := by
  obtain ⟨h0, st, c1, c2, -, od', w1, w2, w3, w4, w5⟩ := I
  refine ⟨h0, st, c1, c2, sc, od', w1, w2, ?_, w4, ?_⟩
  · intro o j ho hj hs
    by_cases hz : ad o + 1 + j < scan
    · exact w3 o j ho hj hz
    · exact (h o j ho hj (by omega) hs).1
  · intro o j ho hj hne
    rcases w5 o j ho hj hne with h5 | ⟨h5, h6⟩
    · exact Or.inl h5
    · by_cases hz : ad o + 1 + j < scan'
      · rcases (h o j ho hj h5 hz).2 with h7 | h7
        · exact absurd h7 hne
        · exact Or.inl h7
      · exact Or.inr ⟨by omega, h6⟩
theorem gc_follow {κ : sh_K} {σ : sh_S} {hf base ob free low scan tend nh : Nat} {α : ab_A} {ad od : Nat → Nat} {Mv Mk Sn : List Nat} {brf : Nat → Nat → Nat}
    (k1 : kHalf κ = nI hf) (k2 : kLast κ = nI (2 * hf)) (I : gc_I (sMem σ) hf base ob free low scan tend nh α ad od Mv Mk Sn brf) (hB : sBase σ = nI base) (hF : sFree σ = nI free) {o j : Nat} (ho : o ∈ Mv ∨ o ∈ Mk) (hj : j < aT α o) :
    ∃ (ad' : Nat → Nat) (Mv' : List Nat) (free' : Nat), gc_I (sMem (sh_follow κ σ (nI (ad o + 1 + j))).2) hf base ob free' low scan tend nh α ad' od Mv' Mk Sn brf ∧ gc_bw ad' Mv' Mk (aF α o j) (sh_follow κ σ (nI (ad o + 1 + j))).1 ∧ (sh_follow κ σ (nI (ad o + 1 + j))).2.2 = (uFree σ (nI free')).2 ∧ gc_ext ad ad' Mv Mv' Mk ∧ (o ∈ Mv → brf o j = 0 ∨ brf o j ∈ Mv') := by
  have hx := gc_half I ho (i := 1 + j) (by have : aC α o = 1 + aT α o + aP α o := rfl; omega)
  have hv : sh_val κ σ.1 (nI (ad o + 1 + j)) = sMem σ (ad o + 1 + j) := gc_valI k2 (by have := I.1.1; omega) (by omega) (by omega)
  have hw : gc_gw ad od Mv Mk Sn (aF α o j) (sMem σ (ad o + 1 + j)) := by
    obtain ⟨-, -, -, -, -, -, -, w2, -, w4, -⟩ := I
    rcases ho with ho | ho
    · exact w4 o j ho hj
    · exact Or.inl (w2 o j ho hj)
  obtain ⟨ad', Mv', free', I', b', e', x'⟩ := gc_piu (σ := uC σ (sh_touch κ σ.1)) k1 k2 I hB hF hw
  have eq : sh_follow κ σ (nI (ad o + 1 + j)) = sh_piu κ (uC σ (sh_touch κ σ.1)) (sMem σ (ad o + 1 + j)) := by unfold sh_follow; rw [hv]
  rw [eq]
  refine ⟨ad', Mv', free', I', b', e', x', fun hm => ?_⟩
  obtain ⟨⟨h1, h2, h3⟩, ⟨z1, z2, z3, z4, n1, n2, n3, s1, s2, s3⟩, c1, c2, sc, ⟨o1, o2, o3, o4, o5⟩, w1, w2, w3, w4, w5⟩ := id I
  by_cases h0 : brf o j = 0
  · exact Or.inl h0
  refine Or.inr ?_
  rcases w5 o j hm hj h0 with h5 | ⟨-, h5⟩
  · exact x'.2 _ h5
  have ht : brf o j ∈ Sn := (o5 o j (s1 o hm) hj).resolve_left h0
  have bt := o1 _ ht
  have hCt : aC α (brf o j) = 1 + aT α (brf o j) + aP α (brf o j) := rfl
  rw [h5] at hw
  rcases hw with ⟨e1, hr⟩ | ⟨e1, hr⟩
  · exfalso
    rcases hr with hr | hr
    · rw [hr, z1] at e1
      have := (nI_eq (by omega) (by omega)).mp e1
      omega
    · have hy := gc_half I hr (i := 0) (by have : aC α (aF α o j) = 1 + aT α (aF α o j) + aP α (aF α o j) := rfl; omega)
      have := (nI_eq (by omega) (by omega)).mp e1
      omega
  · have br := o1 _ hr
    have hCr : aC α (aF α o j) = 1 + aT α (aF α o j) + aP α (aF α o j) := rfl
    have e2 := (nI_eq (by omega) (by omega)).mp e1
    have e3 : brf o j = aF α o j := by
      by_cases hz : brf o j = aF α o j
      · exact hz
      · have := o2 _ _ ht hr hz
        omega
    rw [e3]
    rcases b'.2 with h6 | h6 | h6
    · exact absurd (e3.trans h6) h0
    · exact h6
    · exact absurd hr (s2 _ h6)
theorem gc_link {κ : sh_K} {σ : sh_S} {hf base ob free low scan tend nh : Nat} {α : ab_A} {ad od : Nat → Nat} {Mv Mk Sn : List Nat} {brf : Nat → Nat → Nat}
    (k1 : kHalf κ = nI hf) (k2 : kLast κ = nI (2 * hf)) (I : gc_I (sMem σ) hf base ob free low scan tend nh α ad od Mv Mk Sn brf) (hB : sBase σ = nI base) (hF : sFree σ = nI free) {o j r : Nat} {v : Int32} (ho : o ∈ Mv ∨ o ∈ Mk) (hj : j < aT α o) (hb : gc_bw ad Mv Mk r v) :
    ∃ (ad' : Nat → Nat) (Mv' : List Nat) (free' : Nat), gc_I (sMem (sh_link κ σ (nI (ad o + 1 + j)) v)) hf base ob free' low scan tend nh (abF α o j r) ad' od Mv' Mk Sn brf ∧ (sh_link κ σ (nI (ad o + 1 + j)) v).2 = (uFree σ (nI free')).2 ∧ gc_ext ad ad' Mv Mv' Mk := by
  obtain ⟨ad', Mv', free', I', -, e', x', g'⟩ := gc_follow k1 k2 I hB hF ho hj
  have hx := gc_half I ho (i := 1 + j) (by have : aC α o = 1 + aT α o + aP α o := rfl; omega)
  have ho' : o ∈ Mv' ∨ o ∈ Mk := by
    rcases ho with h | h
    · exact Or.inl (x'.2 o h)
    · exact Or.inr h
  have ea : ad' o = ad o := x'.1 o (Or.inr ho)
  have I2 := gc_wr I' ho' hj (x'.bw hb) (fun hm => by
    by_cases h : o ∈ Mv
    · exact g' h
    · rcases ho with h9 | h9
      · exact absurd h9 h
      · exfalso
        obtain ⟨-, ⟨-, -, -, -, -, -, -, s1, s2, -⟩, -⟩ := I'
        exact s2 o h9 (s1 o hm))
  rw [ea] at I2
  refine ⟨ad', Mv', free', ?_, e', x'⟩
  have em : sMem (sh_link κ σ (nI (ad o + 1 + j)) v) = upd (sMem (sh_follow κ σ (nI (ad o + 1 + j))).2) (ad o + 1 + j) v := gc_writeI k2 (by have := I.1.1; omega) (by omega) (by omega)
  rw [em]
  exact I2
