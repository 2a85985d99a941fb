/-! ===== THE ABSTRACT HEAP (heads, references, ints, registers; thing 0 is nothing) AND HOW THE CELLS HOLD IT ===== -/
abbrev ab_A : Type := (Nat → Int32) × (Nat → Nat → Nat) × (Nat → Nat → Int32) × (Nat → Nat)
abbrev aH (α : ab_A) : Nat → Int32 := α.1
abbrev aF (α : ab_A) : Nat → Nat → Nat := α.2.1
abbrev aI (α : ab_A) : Nat → Nat → Int32 := α.2.2.1
abbrev aR (α : ab_A) : Nat → Nat := α.2.2.2
def hT (h : Int32) : Nat := (hd_traced h).toNatClampNeg
def hP (h : Int32) : Nat := (hd_plain h).toNatClampNeg
def hC (h : Int32) : Nat := 1 + hT h + hP h
abbrev aT (α : ab_A) (o : Nat) : Nat := hT (aH α o)
abbrev aP (α : ab_A) (o : Nat) : Nat := hP (aH α o)
abbrev aC (α : ab_A) (o : Nat) : Nat := hC (aH α o)
def gc_ok (h : Int32) : Prop := 0 < h ∧ hC h ≤ 16
/-- a word that leads to r in the half in use -/
def gc_bw (ad : Nat → Nat) (Mv Mk : List Nat) (r : Nat) (w : Int32) : Prop := w = nI (ad r) ∧ (r = 0 ∨ r ∈ Mv ∨ r ∈ Mk)
/-- a word that leads to r, perhaps still in the old half -/
def gc_gw (ad od : Nat → Nat) (Mv Mk Sn : List Nat) (r : Nat) (w : Int32) : Prop := gc_bw ad Mv Mk r w ∨ (w = nI (od r) ∧ r ∈ Sn)
def gc_sc (ad : Nat → Nat) (α : ab_A) (Mv : List Nat) (base scan tend nh : Nat) : Prop :=
  ∃ L1 L2 : List Nat, Mv = L1 ++ L2 ∧ gc_chain ad (aC α) base L1 nh ∧ (scan = nh ∨ ∃ (L0 : List Nat) (cur : Nat), L1 = L0 ++ [cur] ∧ ad cur < scan ∧ scan < tend ∧ tend = ad cur + 1 + aT α cur)
def gc_old (mem : Nat → Int32) (α : ab_A) (ob hf : Nat) (ad od : Nat → Nat) (Mv Sn : List Nat) (brf : Nat → Nat → Nat) : Prop :=
  (∀ o, o ∈ Sn → ob ≤ od o ∧ od o + aC α o ≤ ob + hf) ∧ (∀ o q, o ∈ Sn → q ∈ Sn → o ≠ q → od o + aC α o ≤ od q ∨ od q + aC α q ≤ od o) ∧
  (∀ o, o ∈ Mv → mem (od o) = -(nI (ad o))) ∧
  (∀ o, o ∈ Sn → o ∉ Mv → mem (od o) = aH α o ∧ (∀ j, j < aT α o → mem (od o + 1 + j) = nI (od (brf o j)) ∧ aF α o j = brf o j) ∧ ∀ j, j < aP α o → mem (od o + 1 + aT α o + j) = aI α o j) ∧
  (∀ o j, o ∈ Sn → j < aT α o → brf o j = 0 ∨ brf o j ∈ Sn)
def gc_new (mem : Nat → Int32) (α : ab_A) (scan : Nat) (ad od : Nat → Nat) (Mv Mk Sn : List Nat) (brf : Nat → Nat → Nat) : Prop :=
  (∀ o, o ∈ Mv ∨ o ∈ Mk → mem (ad o) = aH α o ∧ ∀ j, j < aP α o → mem (ad o + 1 + aT α o + j) = aI α o j) ∧
  (∀ o j, o ∈ Mk → j < aT α o → gc_bw ad Mv Mk (aF α o j) (mem (ad o + 1 + j))) ∧
  (∀ o j, o ∈ Mv → j < aT α o → ad o + 1 + j < scan → gc_bw ad Mv Mk (aF α o j) (mem (ad o + 1 + j))) ∧
  (∀ o j, o ∈ Mv → j < aT α o → gc_gw ad od Mv Mk Sn (aF α o j) (mem (ad o + 1 + j))) ∧
  (∀ o j, o ∈ Mv → j < aT α o → brf o j ≠ 0 → brf o j ∈ Mv ∨ (scan ≤ ad o + 1 + j ∧ mem (ad o + 1 + j) = nI (od (brf o j))))
def gc_set (α : ab_A) (ad od : Nat → Nat) (Mv Mk Sn : List Nat) : Prop :=
  ad 0 = 0 ∧ od 0 = 0 ∧ 0 ∉ Sn ∧ 0 ∉ Mk ∧ Mv.Nodup ∧ Mk.Nodup ∧ Sn.Nodup ∧ (∀ o, o ∈ Mv → o ∈ Sn) ∧ (∀ o, o ∈ Mk → o ∉ Sn) ∧ (∀ o, o ∈ Sn ∨ o ∈ Mk → gc_ok (aH α o))
def gc_I (mem : Nat → Int32) (hf base ob free low scan tend nh : Nat) (α : ab_A) (ad od : Nat → Nat) (Mv Mk Sn : List Nat) (brf : Nat → Nat → Nat) : Prop :=
  (hf < 2 ^ 20 ∧ (base = 1 ∧ ob = 1 + hf ∨ base = 1 + hf ∧ ob = 1) ∧ gc_sum (aC α) Sn + gc_sum (aC α) Mk ≤ hf) ∧ gc_set α ad od Mv Mk Sn ∧
  gc_chain ad (aC α) base Mv free ∧ gc_chain ad (aC α) low Mk (base + hf) ∧ gc_sc ad α Mv base scan tend nh ∧
  gc_old mem α ob hf ad od Mv Sn brf ∧ gc_new mem α scan ad od Mv Mk Sn brf
theorem hT_lt (h : Int32) : hT h < 16 ∧ hd_traced h = nI (hT h) := by
  unfold hT hd_traced
  obtain ⟨j, hj, e⟩ := pk_andE (h >>> ((1 : Int32) &&& 31)) (m := 15) 4 (by decide)
  rw [e, nI_clamp (by omega)]
  exact ⟨hj, rfl⟩
theorem hP_lt (h : Int32) : hP h < 16 ∧ hd_plain h = nI (hP h) := by
  unfold hP hd_plain
  obtain ⟨j, hj, e⟩ := pk_andE (h >>> ((5 : Int32) &&& 31)) (m := 15) 4 (by decide)
  rw [e, nI_clamp (by omega)]
  exact ⟨hj, rfl⟩
theorem hC_eq (h : Int32) : hd_cells h = nI (hC h) := by
  unfold hd_cells hC
  rw [(hT_lt h).2, (hP_lt h).2, show (1 : Int32) = nI 1 from rfl, nI_add, nI_add]
theorem gc_free_le {mem : Nat → Int32} {hf base ob free low scan tend nh : Nat} {α : ab_A} {ad od : Nat → Nat} {Mv Mk Sn : List Nat} {brf : Nat → Nat → Nat} (I : gc_I mem hf base ob free low scan tend nh α ad od Mv Mk Sn brf) : base ≤ scan ∧ scan ≤ nh ∧ nh ≤ free ∧ free ≤ low ∧ low ≤ base + hf ∧ free = base + gc_sum (aC α) Mv ∧ base + hf = low + gc_sum (aC α) Mk ∧ gc_sum (aC α) Mv ≤ gc_sum (aC α) Sn := by
  obtain ⟨⟨h1, h2, h3⟩, ⟨-, -, -, -, n1, -, -, s1, -⟩, c1, c2, ⟨L1, L2, rfl, k1, k2⟩, -⟩ := I
  have e1 := gc_chain_sum c1
  have e2 := gc_chain_sum c2
  have e3 := gc_chain_sum k1
  have e4 := gc_sum_app (cz := aC α) L1 L2
  have e5 := gc_sum_le (cz := aC α) _ _ n1 s1
  have e6 : base ≤ scan ∧ scan ≤ nh := by
    rcases k2 with k2 | ⟨L0, cur, k2, k3, k4, k5⟩
    · omega
    · subst k2
      have hi := gc_chain_in k1 (o := cur) (by simp)
      have : aC α cur = 1 + aT α cur + aP α cur := rfl
      omega
  omega
/-- one thing is moved -/
def gc_mm (mem : Nat → Int32) (a b n : Nat) : Nat → Int32 := fun x => if x = a then -(nI b) else if b ≤ x ∧ x < b + n then mem (a + (x - b)) else mem x
theorem gc_move {mem : Nat → Int32} {hf base ob free low scan tend nh : Nat} {α : ab_A} {ad od : Nat → Nat} {Mv Mk Sn : List Nat} {brf : Nat → Nat → Nat} (I : gc_I mem hf base ob free low scan tend nh α ad od Mv Mk Sn brf) {r : Nat} (hr : r ∈ Sn) (hm : r ∉ Mv) :
    free + aC α r ≤ low ∧ gc_I (gc_mm mem (od r) free (aC α r)) hf base ob (free + aC α r) low scan tend nh α (va_up ad r free) od (Mv ++ [r]) Mk Sn brf := by
  have F := gc_free_le I
  obtain ⟨⟨h1, h2, h3⟩, ⟨z1, z2, z3, z4, n1, n2, n3, s1, s2, s3⟩, c1, c2, sc, ⟨o1, o2, o3, o4, o5⟩, w1, w2, w3, w4, w5⟩ := I
  have hr0 : r ≠ 0 := fun z => z3 (z ▸ hr)
  have hrk : r ∉ Mk := fun z => s2 r z hr
  have nd : (Mv ++ [r]).Nodup := by
    rw [List.nodup_append]
    exact ⟨n1, by simp, fun a ha b hb z => by
      rw [List.mem_singleton] at hb
      subst hb; subst z; exact hm ha⟩
  have sub : ∀ o, o ∈ Mv ++ [r] → o ∈ Sn := fun o ho => by
    rcases List.mem_append.mp ho with h | h
    · exact s1 o h
    · rw [List.mem_singleton] at h; subst h; exact hr
  have hsum := gc_sum_le (cz := aC α) _ _ nd sub
  rw [gc_sum_app] at hsum
  have hone : gc_sum (aC α) [r] = aC α r := by simp [gc_sum]
  rw [hone] at hsum
  have hroom : free + aC α r ≤ low := by omega
  obtain ⟨b1, b2⟩ := o1 r hr
  have hC1 : aC α r = 1 + aT α r + aP α r := rfl
  have up : ∀ o, o ≠ r → va_up ad r free o = ad o := fun o h => by simp [va_up, h]
  have upr : va_up ad r free r = free := by simp [va_up]
  have ne1 : ∀ o, o = 0 ∨ o ∈ Mv ∨ o ∈ Mk → o ≠ r := by
    intro o h z
    subst z
    rcases h with h | h | h
    · exact hr0 h
    · exact hm h
    · exact hrk h
  have bw : ∀ (q : Nat) (w : Int32), gc_bw ad Mv Mk q w → gc_bw (va_up ad r free) (Mv ++ [r]) Mk q w := by
    rintro q w ⟨e, h⟩
    refine ⟨by rw [up q (ne1 q h)]; exact e, ?_⟩
    rcases h with h | h | h
    · exact Or.inl h
    · exact Or.inr (Or.inl (List.mem_append_left _ h))
    · exact Or.inr (Or.inr h)
  have gw : ∀ (q : Nat) (w : Int32), gc_gw ad od Mv Mk Sn q w → gc_gw (va_up ad r free) od (Mv ++ [r]) Mk Sn q w := by
    rintro q w (h | h)
    · exact Or.inl (bw q w h)
    · exact Or.inr h
  -- cells of the half in use that were there stay
  have keep : ∀ x, (base ≤ x ∧ x < free) ∨ (low ≤ x ∧ x < base + hf) → gc_mm mem (od r) free (aC α r) x = mem x := by
    intro x hx
    unfold gc_mm
    rw [if_neg (by omega), if_neg (by omega)]
  have keepO : ∀ x, ob ≤ x → x < ob + hf → x ≠ od r → gc_mm mem (od r) free (aC α r) x = mem x := by
    intro x h4 h5 h6
    unfold gc_mm
    rw [if_neg h6, if_neg (by omega)]
  have blk : ∀ o, o ∈ Mv ∨ o ∈ Mk → (∀ i, i < aC α o → (base ≤ ad o + i ∧ ad o + i < free) ∨ (low ≤ ad o + i ∧ ad o + i < base + hf)) := by
    intro o ho i hi
    rcases ho with ho | ho
    · have := gc_chain_in c1 ho
      omega
    · have := gc_chain_in c2 ho
      omega
  have kb : ∀ o, o ∈ Mv ∨ o ∈ Mk → ∀ i, i < aC α o → gc_mm mem (od r) free (aC α r) (ad o + i) = mem (ad o + i) := fun o ho i hi => keep _ (blk o ho i hi)
  have nw : ∀ i, i < aC α r → gc_mm mem (od r) free (aC α r) (free + i) = mem (od r + i) := by
    intro i hi
    unfold gc_mm
    rw [if_neg (by omega), if_pos (by omega)]
    congr 1
    omega
  obtain ⟨q1, q2, q3⟩ := o4 r hr hm
  refine ⟨hroom, ⟨h1, h2, h3⟩, ⟨by rw [up 0 (Ne.symm hr0)]; exact z1, z2, z3, z4, nd, n2, n3, sub, s2, s3⟩, ?_, ?_, ?_, ⟨o1, o2, ?_, ?_, o5⟩, ?_, ?_, ?_, ?_, ?_⟩
  · refine (gc_chain_app Mv).mpr ⟨free, gc_chain_congr (fun o ho => ⟨up o (ne1 o (Or.inr (Or.inl ho))), rfl⟩) c1, upr, rfl⟩
  · exact gc_chain_congr (fun o ho => ⟨up o (ne1 o (Or.inr (Or.inr ho))), rfl⟩) c2
  · obtain ⟨L1, L2, e1, k1, k2⟩ := sc
    refine ⟨L1, L2 ++ [r], by rw [e1, List.append_assoc], gc_chain_congr (fun o ho => ⟨up o (ne1 o (Or.inr (Or.inl (by rw [e1]; exact List.mem_append_left _ ho)))), rfl⟩) k1, ?_⟩
    rcases k2 with k2 | ⟨L0, cur, k2, k3, k4, k5⟩
    · exact Or.inl k2
    · have hc : cur ∈ Mv := by rw [e1, k2]; simp
      have hu := up cur (ne1 cur (Or.inr (Or.inl hc)))
      exact Or.inr ⟨L0, cur, k2, by rw [hu]; exact k3, k4, by rw [hu]; exact k5⟩
  · intro o ho
    rcases List.mem_append.mp ho with h | h
    · have hne := ne1 o (Or.inr (Or.inl h))
      rw [up o hne, keepO _ (o1 o (s1 o h)).1 (by have := o1 o (s1 o h); have : aC α o = 1 + aT α o + aP α o := rfl; omega) (fun z => by
        have hd := o2 o r (s1 o h) hr hne
        have : aC α o = 1 + aT α o + aP α o := rfl
        omega)]
      exact o3 o h
    · rw [List.mem_singleton] at h
      subst h
      rw [upr]
      unfold gc_mm
      rw [if_pos rfl]
  · intro o ho hn
    have hnm : o ∉ Mv := fun z => hn (List.mem_append_left _ z)
    have hne : o ≠ r := fun z => hn (by rw [z]; simp)
    obtain ⟨a1, a2, a3⟩ := o4 o ho hnm
    have hb := o1 o ho
    have hd := o2 o r ho hr hne
    have hCo : aC α o = 1 + aT α o + aP α o := rfl
    refine ⟨by rw [keepO _ (by omega) (by omega) (by omega)]; exact a1, fun j hj => ?_, fun j hj => ?_⟩
    · rw [keepO _ (by omega) (by omega) (by omega)]; exact a2 j hj
    · rw [keepO _ (by omega) (by omega) (by omega)]; exact a3 j hj
  · intro o ho
    have ho' : o = r ∨ (o ≠ r ∧ (o ∈ Mv ∨ o ∈ Mk)) := by
      by_cases hz : o = r
      · exact Or.inl hz
      · refine Or.inr ⟨hz, ?_⟩
        rcases ho with h | h
        · rcases List.mem_append.mp h with h | h
          · exact Or.inl h
          · exact absurd (List.mem_singleton.mp h) hz
        · exact Or.inr h
    rcases ho' with rfl | ⟨hne, ho'⟩
    · rw [upr]
      refine ⟨(nw 0 (by omega)).trans q1, fun j hj => ?_⟩
      rw [show free + 1 + aT α o + j = free + (1 + aT α o + j) by omega, nw _ (by omega), show od o + (1 + aT α o + j) = od o + 1 + aT α o + j by omega]
      exact q3 j hj
    · rw [up o hne]
      obtain ⟨a1, a2⟩ := w1 o ho'
      have hCo : aC α o = 1 + aT α o + aP α o := rfl
      refine ⟨by rw [show ad o = ad o + 0 from rfl, kb o ho' 0 (by omega)]; exact a1, fun j hj => ?_⟩
      rw [show ad o + 1 + aT α o + j = ad o + (1 + aT α o + j) by omega, kb o ho' _ (by omega), show ad o + (1 + aT α o + j) = ad o + 1 + aT α o + j by omega]
      exact a2 j hj
  · intro o j ho hj
    have hne := ne1 o (Or.inr (Or.inr ho))
    have hCo : aC α o = 1 + aT α o + aP α o := rfl
    rw [up o hne, show ad o + 1 + j = ad o + (1 + j) by omega, kb o (Or.inr ho) _ (by omega), show ad o + (1 + j) = ad o + 1 + j by omega]
    exact bw _ _ (w2 o j ho hj)
  · intro o j ho hj hs
    rcases List.mem_append.mp ho with h | h
    · have hne := ne1 o (Or.inr (Or.inl h))
      have hCo : aC α o = 1 + aT α o + aP α o := rfl
      rw [up o hne] at hs ⊢
      rw [show ad o + 1 + j = ad o + (1 + j) by omega, kb o (Or.inl h) _ (by omega), show ad o + (1 + j) = ad o + 1 + j by omega]
      exact bw _ _ (w3 o j h hj hs)
    · rw [List.mem_singleton] at h
      subst h
      rw [upr] at hs
      omega
  · intro o j ho hj
    rcases List.mem_append.mp ho with h | h
    · have hne := ne1 o (Or.inr (Or.inl h))
      have hCo : aC α o = 1 + aT α o + aP α o := rfl
      rw [up o hne, show ad o + 1 + j = ad o + (1 + j) by omega, kb o (Or.inl h) _ (by omega), show ad o + (1 + j) = ad o + 1 + j by omega]
      exact gw _ _ (w4 o j h hj)
    · rw [List.mem_singleton] at h
      subst h
      rw [upr, show free + 1 + j = free + (1 + j) by omega, nw _ (by omega), show od o + (1 + j) = od o + 1 + j by omega, (q2 j hj).2]
      rcases o5 o j hr hj with h0 | h0
      · rw [(q2 j hj).1, h0]
        exact Or.inl ⟨by rw [up 0 (Ne.symm hr0), z1, z2], Or.inl rfl⟩
      · exact Or.inr ⟨(q2 j hj).1, h0⟩
  · intro o j ho hj hb
    rcases List.mem_append.mp ho with h | h
    · have hne := ne1 o (Or.inr (Or.inl h))
      have hCo : aC α o = 1 + aT α o + aP α o := rfl
      rw [up o hne]
      rcases w5 o j h hj hb with h5 | ⟨h5, h6⟩
      · exact Or.inl (List.mem_append_left _ h5)
      · refine Or.inr ⟨h5, ?_⟩
        rw [show ad o + 1 + j = ad o + (1 + j) by omega, kb o (Or.inl h) _ (by omega), show ad o + (1 + j) = ad o + 1 + j by omega]
        exact h6
    · rw [List.mem_singleton] at h
      subst h
      refine Or.inr ⟨by rw [upr]; omega, ?_⟩
      rw [upr, show free + 1 + j = free + (1 + j) by omega, nw _ (by omega), show od o + (1 + j) = od o + 1 + j by omega]
      exact (q2 j hj).1
