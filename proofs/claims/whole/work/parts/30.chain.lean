/-! ===== CHAINS OF BLOCKS: ad: where a thing stands, cz: how many cells it has ===== -/
def gc_sum (cz : Nat → Nat) : List Nat → Nat
  | [] => 0
  | o :: l => cz o + gc_sum cz l
def gc_chain (ad cz : Nat → Nat) : Nat → List Nat → Nat → Prop
  | b, [], e => b = e
  | b, o :: l, e => ad o = b ∧ gc_chain ad cz (b + cz o) l e
theorem gc_sum_app {cz : Nat → Nat} : ∀ (l1 l2 : List Nat), gc_sum cz (l1 ++ l2) = gc_sum cz l1 + gc_sum cz l2
  | [], l2 => by simp [gc_sum]
  | o :: l1, l2 => by
    show cz o + gc_sum cz (l1 ++ l2) = cz o + gc_sum cz l1 + gc_sum cz l2
    rw [gc_sum_app l1 l2]
    omega
theorem gc_sum_le {cz : Nat → Nat} : ∀ (l1 l2 : List Nat), l1.Nodup → (∀ o, o ∈ l1 → o ∈ l2) → gc_sum cz l1 ≤ gc_sum cz l2
  | [], l2, _, _ => Nat.zero_le _
  | o :: l1, l2, hn, hs => by
    obtain ⟨s, t, rfl⟩ := List.append_of_mem (hs o List.mem_cons_self)
    have hn2 := List.nodup_cons.mp hn
    have h := gc_sum_le (cz := cz) l1 (s ++ t) hn2.2 (fun q hq => by
      have h1 := hs q (List.mem_cons_of_mem _ hq)
      have hne : q ≠ o := fun z => hn2.1 (z ▸ hq)
      simp only [List.mem_append, List.mem_cons] at h1 ⊢
      rcases h1 with h1 | h1 | h1
      · exact Or.inl h1
      · exact absurd h1 hne
      · exact Or.inr h1)
    rw [gc_sum_app] at h
    rw [gc_sum_app]
    simp only [gc_sum]
    omega
theorem gc_sum_eq {cz : Nat → Nat} {l1 l2 : List Nat} (h1 : l1.Nodup) (h2 : l2.Nodup) (h : ∀ o, o ∈ l1 ↔ o ∈ l2) : gc_sum cz l1 = gc_sum cz l2 :=
  Nat.le_antisymm (gc_sum_le l1 l2 h1 (fun o => (h o).mp)) (gc_sum_le l2 l1 h2 (fun o => (h o).mpr))
theorem gc_sum_congr {cz cz' : Nat → Nat} : ∀ (l : List Nat), (∀ o, o ∈ l → cz o = cz' o) → gc_sum cz l = gc_sum cz' l
  | [], _ => rfl
  | o :: l, h => by
    show cz o + _ = cz' o + _
    rw [h o List.mem_cons_self, gc_sum_congr l (fun q hq => h q (List.mem_cons_of_mem _ hq))]
theorem gc_chain_app {ad cz : Nat → Nat} : ∀ (l1 : List Nat) {l2 : List Nat} {b e : Nat}, gc_chain ad cz b (l1 ++ l2) e ↔ ∃ m, gc_chain ad cz b l1 m ∧ gc_chain ad cz m l2 e
  | [], l2, b, e => by
    constructor
    · intro h; exact ⟨b, rfl, h⟩
    · rintro ⟨m, h1, h2⟩
      have h1 : b = m := h1
      subst h1; exact h2
  | o :: l1, l2, b, e => by
    constructor
    · rintro ⟨h, h1⟩
      obtain ⟨m, h2, h3⟩ := (gc_chain_app l1).mp h1
      exact ⟨m, ⟨h, h2⟩, h3⟩
    · rintro ⟨m, ⟨h, h1⟩, h2⟩
      exact ⟨h, (gc_chain_app l1).mpr ⟨m, h1, h2⟩⟩
theorem gc_chain_sum {ad cz : Nat → Nat} : ∀ {l : List Nat} {b e : Nat}, gc_chain ad cz b l e → e = b + gc_sum cz l
  | [], b, e, h => by
    have h : b = e := h
    simp [gc_sum, h]
  | o :: l, b, e, h => by
    have h2 := gc_chain_sum h.2
    simp only [gc_sum]
    omega
theorem gc_chain_in {ad cz : Nat → Nat} : ∀ {l : List Nat} {b e : Nat}, gc_chain ad cz b l e → ∀ {o : Nat}, o ∈ l → b ≤ ad o ∧ ad o + cz o ≤ e
  | [], _, _, _, _, ho => by cases ho
  | q :: l, b, e, h, o, ho => by
    have hs := gc_chain_sum h.2
    rcases List.mem_cons.mp ho with h1 | h1
    · subst h1
      have := h.1
      omega
    · have := gc_chain_in h.2 h1
      omega
theorem gc_chain_dis {ad cz : Nat → Nat} : ∀ {l : List Nat} {b e : Nat}, gc_chain ad cz b l e → ∀ {o q : Nat}, o ∈ l → q ∈ l → o ≠ q → ad o + cz o ≤ ad q ∨ ad q + cz q ≤ ad o
  | [], _, _, _, _, _, ho, _, _ => by cases ho
  | r :: l, b, e, h, o, q, ho, hq, hne => by
    have hr := h.1
    rcases List.mem_cons.mp ho with h1 | h1
    · subst h1
      rcases List.mem_cons.mp hq with h2 | h2
      · exact absurd h2.symm hne
      · have := gc_chain_in h.2 h2
        left; omega
    · rcases List.mem_cons.mp hq with h2 | h2
      · subst h2
        have := gc_chain_in h.2 h1
        right; omega
      · exact gc_chain_dis h.2 h1 h2 hne
theorem gc_chain_congr {ad cz ad' cz' : Nat → Nat} : ∀ {l : List Nat} {b e : Nat}, (∀ o, o ∈ l → ad' o = ad o ∧ cz' o = cz o) → gc_chain ad cz b l e → gc_chain ad' cz' b l e
  | [], _, _, _, h => h
  | o :: l, b, e, hc, h => by
    obtain ⟨h1, h2⟩ := hc o List.mem_cons_self
    refine ⟨h1.trans h.1, ?_⟩
    rw [h2]
    exact gc_chain_congr (fun q hq => hc q (List.mem_cons_of_mem _ hq)) h.2
