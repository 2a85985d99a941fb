/-! ===== THE RULE OF MAKING, over the invariant between calls ===== -/
theorem gr_black {mem : Nat → Int32} {hf base ob free low scan tend nh : Nat} {α : ab_A} {ad od : Nat → Nat} {Mv Mk Sn : List Nat} {brf : Nat → Nat → Nat} (I : gc_I mem hf base ob free low scan tend nh α ad od Mv Mk Sn brf) (hs : scan = free) {o j : Nat} (ho : o ∈ Mv ∨ o ∈ Mk) (hj : j < aT α o) : gc_bw ad Mv Mk (aF α o j) (mem (ad o + 1 + j)) := by
  obtain ⟨-, -, c1, -, -, -, -, w2, w3, -, -⟩ := I
  rcases ho with h | h
  · refine w3 o j h hj ?_
    have p1 := gc_chain_in c1 h
    have : aC α o = 1 + aT α o + aP α o := rfl
    omega
  · exact w2 o j h hj
theorem gr_sub {mem : Nat → Int32} {hf base ob free low scan tend nh : Nat} {α : ab_A} {ad od : Nat → Nat} {Mv Mk Sn : List Nat} {brf : Nat → Nat → Nat} {reg : Nat → Int32} (I : gc_I mem hf base ob free low scan tend nh α ad od Mv Mk Sn brf) (hs : scan = free) (hr : ∀ t, t < 8 → gc_bw ad Mv Mk (aR α t) (reg t)) {o : Nat} (ho : ab_reach α o) : o ∈ Mv ∨ o ∈ Mk := by
  refine ho (fun q => q ∈ Mv ∨ q ∈ Mk) ⟨fun t ht hne => (hr t ht).2.resolve_left hne, fun q j hq hj hne => (gr_black I hs hq hj).2.resolve_left hne⟩
theorem gr_sum {mem : Nat → Int32} {hf base ob free low scan tend nh : Nat} {α : ab_A} {ad od : Nat → Nat} {Mv Mk Sn Sn' : List Nat} {brf : Nat → Nat → Nat} (I : gc_I mem hf base ob free low scan tend nh α ad od Mv Mk Sn brf) (hn : Sn'.Nodup) (hs : ∀ o, o ∈ Sn' → o ∈ Mv ∨ o ∈ Mk) : gc_sum (aC α) Sn' ≤ gc_sum (aC α) Sn + gc_sum (aC α) Mk := by
  have F := gc_free_le I
  have h := gc_sum_le (cz := aC α) Sn' (Mv ++ Mk) hn (fun o ho => List.mem_append.mpr (hs o ho))
  rw [gc_sum_app] at h
  omega
theorem gm_room {κ : sh_K} {σ : sh_S} {α : ab_A} {h k made beg R : Nat} (G : gc_G κ σ α h k made beg R) {n : Nat} (hn : n ≤ 16) {Sn' : List Nat} (hS : ab_R α Sn') :
    (R ≤ k * made → h * k / (k + 1) < R → sh_room κ σ (nI n) = (0, σ)) ∧
    ((¬ R ≤ k * made) ∨ (R ≤ h * k / (k + 1) ∧ R + made + n ≤ h * k / (k + 1)) → sh_room κ σ (nI n) = (1, σ) ∧ R + made + n ≤ 2 * h + 64) ∧
    (R ≤ k * made → R ≤ h * k / (k + 1) → h * k / (k + 1) < R + made + n → sh_room κ σ (nI n) = (1, sh_begin κ σ) ∧ gc_G κ (sh_begin κ σ) α h k 0 (beg + 1) (gc_sum (aC α) Sn') ∧ gc_sum (aC α) Sn' + n ≤ 2 * h + 64) := by
  obtain ⟨hd1, hd2⟩ := gc_doneI G
  obtain ⟨⟨h1, h2, h3, h4, k1, k2, k3, k4, k5⟩, base, ob, free, low, scan, tend, nh, ad, od, Mv, Mk, Sn, brf, N, I, hr, hB, e1, e2, hp, hR, hq⟩ := id G
  have F := gc_free_le I
  obtain ⟨b1, b2, b3⟩ := I.1
  obtain ⟨a1, a2, a3, a4, a5, a6, a7, a8⟩ := id N
  have hl : h * k / (k + 1) ≤ h := by
    have q1 : h * k / (k + 1) * (k + 1) ≤ h * k := Nat.div_mul_le_self _ _
    have q2 : h * k / (k + 1) * k ≤ h * k / (k + 1) * (k + 1) := Nat.mul_le_mul_left _ (by omega)
    exact Nat.le_of_mul_le_mul_right (Nat.le_trans q2 q1) (by omega)
  generalize hlim : h * k / (k + 1) = lim at *
  refine ⟨fun c1 c2 => ?_, fun c1 => ?_, fun c1 c2 c3 => ?_⟩
  · unfold sh_room
    rw [hd1, if_pos c1, if_neg (by decide), (hd2 c1).1, k3, if_neg (nI_ge (by omega) (by omega))]
  · refine ⟨?_, ?_⟩
    · unfold sh_room
      rw [hd1]
      by_cases c2 : R ≤ k * made
      · rw [if_pos c2, if_neg (by decide), (hd2 c2).1, k3, a1]
        have c3 := c1.resolve_left (fun z => z c2)
        rw [if_pos (nI_le c3.1 (by omega)), nI_add, nI_add, if_pos (nI_le c3.2 (by omega))]
      · rw [if_neg c2, if_pos rfl]
    · rcases c1 with c1 | c1
      · have : made ≤ k * made := Nat.le_mul_of_pos_left _ (by omega)
        omega
      · omega
  · have hsf : scan = free := by
      have := (hd2 c1).2
      rw [a6, a4] at this
      exact (nI_eq (by omega) (by omega)).mp this
    have d2 : ∀ o, o ∈ Sn' → o ∈ Mv ∨ o ∈ Mk := fun o ho => gr_sub I hsf hr ((hS.2 o).mp ho)
    have hcl := ab_reach_cl α
    have d3 : ∀ o j, o ∈ Sn' → j < aT α o → aF α o j = 0 ∨ aF α o j ∈ Sn' := fun o j ho hj => by
      by_cases hz : aF α o j = 0
      · exact Or.inl hz
      · exact Or.inr ((hS.2 _).mpr (hcl.2 o j ((hS.2 o).mp ho) hj hz))
    have d5 : ∀ t, t < 8 → aR α t = 0 ∨ aR α t ∈ Sn' := fun t ht => by
      by_cases hz : aR α t = 0
      · exact Or.inl hz
      · exact Or.inr ((hS.2 _).mpr (hcl.1 t ht hz))
    have hsum := gr_sum I hS.1 d2
    have har : R + made < h + 16 := gc_arith h3 (by rw [hlim]; exact c2) (by rw [hlim]; exact hq)
    have d4 : gc_sum (aC α) Sn' ≤ 2 * h + 64 := by omega
    obtain ⟨ad', od', Mv', free', N', I', r', hm'⟩ := gc_begin k1 k4 N I hsf hr hS.1 d2 d3 d4 d5
    have F' := gc_free_le I'
    refine ⟨?_, ?_, by omega⟩
    · unfold sh_room
      rw [hd1, if_pos c1, if_neg (by decide), (hd2 c1).1, k3, if_pos (nI_le c2 (by omega)), a1, nI_add, nI_add, if_neg (nI_ge c3 (by omega))]
    · subst hlim
      refine ⟨⟨h1, h2, h3, h4, k1, k2, k3, k4, k5⟩, ob, base, free', _, ob, ob, ob, ad', od', Mv', [], Sn', aF α, N', I', r', ?_, rfl, rfl, Or.inr (by omega), by omega, Or.inl (by omega)⟩
      intro P p1 p2 o ho
      have := (hS.2 o).mp ho (fun q => q ∈ Sn' ∧ P q) ⟨fun t ht hne => ⟨(d5 t ht).resolve_left hne, p1 _ (hm' t ht hne)⟩, fun q j hq2 hj hne => ⟨(d3 q j hq2.1 hj).resolve_left hne, p2 q j hq2.2 hq2.1 hj hne⟩⟩
      exact this.2
