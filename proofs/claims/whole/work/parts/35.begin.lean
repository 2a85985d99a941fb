/-! ===== A NEW CYCLE ===== -/
def gc_rs (Sn : List Nat) (ad : Nat → Nat) (o : Nat) : Nat := if o ∈ Sn then ad o else 0
theorem gc_rs_in {Sn : List Nat} {ad : Nat → Nat} {o : Nat} (h : o ∈ Sn) : gc_rs Sn ad o = ad o := if_pos h
theorem gc_rs_out {Sn : List Nat} {ad : Nat → Nat} {o : Nat} (h : o ∉ Sn) : gc_rs Sn ad o = 0 := if_neg h
theorem gc_beg0 {mem : Nat → Int32} {hf base ob free low scan tend nh : Nat} {α : ab_A} {ad od : Nat → Nat} {Mv Mk Sn Sn' : List Nat} {brf : Nat → Nat → Nat} (I : gc_I mem hf base ob free low scan tend nh α ad od Mv Mk Sn brf) (hs : scan = free)
    (d1 : Sn'.Nodup) (d2 : ∀ o, o ∈ Sn' → o ∈ Mv ∨ o ∈ Mk) (d3 : ∀ o j, o ∈ Sn' → j < aT α o → aF α o j = 0 ∨ aF α o j ∈ Sn') (d4 : gc_sum (aC α) Sn' ≤ hf) :
    gc_I mem hf ob base ob (ob + hf) ob ob ob α (fun _ => 0) (gc_rs Sn' ad) [] [] Sn' (aF α) := by
  have F := gc_free_le I
  have bl := fun {p : Nat} (hp : p ∈ Mv ∨ p ∈ Mk) => gc_half I hp (i := 0) (by have : aC α p = 1 + aT α p + aP α p := rfl; omega)
  obtain ⟨⟨h1, h2, h3⟩, ⟨z1, z2, z3, z4, n1, n2, n3, s1, s2, s3⟩, c1, c2, -, -, w1, w2, w3, -, -⟩ := I
  have z0 : 0 ∉ Sn' := by
    intro z
    rcases d2 0 z with h | h
    · exact z3 (s1 0 h)
    · exact z4 h
  have inn : ∀ o, o ∈ Sn' → gc_rs Sn' ad o = ad o := fun o h => gc_rs_in h
  refine ⟨⟨h1, by omega, by show gc_sum (aC α) Sn' + 0 ≤ hf; omega⟩, ⟨rfl, gc_rs_out z0, z0, List.not_mem_nil, List.nodup_nil, List.nodup_nil, d1, fun o h => absurd h List.not_mem_nil, fun o h => absurd h List.not_mem_nil, ?_⟩, rfl, rfl, ⟨[], [], rfl, rfl, Or.inl rfl⟩, ⟨?_, ?_, fun o h => absurd h List.not_mem_nil, ?_, d3⟩, ?_, fun o j h => absurd h List.not_mem_nil, fun o j h => absurd h List.not_mem_nil, fun o j h => absurd h List.not_mem_nil, fun o j h => absurd h List.not_mem_nil⟩
  · intro o h
    rcases h with h | h
    · rcases d2 o h with h | h
      · exact s3 o (Or.inl (s1 o h))
      · exact s3 o (Or.inr h)
    · exact absurd h List.not_mem_nil
  · intro o h
    rw [inn o h]
    rcases d2 o h with h | h
    · have := gc_chain_in c1 h; omega
    · have := gc_chain_in c2 h; omega
  · intro o q ho hq hne
    rw [inn o ho, inn q hq]
    rcases d2 o ho with h | h <;> rcases d2 q hq with h' | h'
    · exact gc_chain_dis c1 h h' hne
    · have p1 := gc_chain_in c1 h; have p2 := gc_chain_in c2 h'; left; omega
    · have p1 := gc_chain_in c2 h; have p2 := gc_chain_in c1 h'; right; omega
    · exact gc_chain_dis c2 h h' hne
  · intro o ho _
    rw [inn o ho]
    obtain ⟨a1, a2⟩ := w1 o (d2 o ho)
    refine ⟨a1, fun j hj => ⟨?_, rfl⟩, a2⟩
    have hb : gc_bw ad Mv Mk (aF α o j) (mem (ad o + 1 + j)) := by
      rcases d2 o ho with h | h
      · refine w3 o j h hj ?_
        have p1 := gc_chain_in c1 h
        have : aC α o = 1 + aT α o + aP α o := rfl
        omega
      · exact w2 o j h hj
    rw [hb.1]
    congr 1
    rcases d3 o j ho hj with h | h
    · rw [h, gc_rs_out z0, z1]
    · rw [gc_rs_in h]
  · intro o h
    rcases h with h | h <;> exact absurd h List.not_mem_nil
theorem gc_regsN {κ : sh_K} {hf base ob low scan tend nh made beg : Nat} {α : ab_A} {od : Nat → Nat} {Mk Sn : List Nat} {brf : Nat → Nat → Nat} (k1 : kHalf κ = nI hf) (k2 : kLast κ = nI (2 * hf)) :
    ∀ (n i : Nat) (σ : sh_S) (free : Nat) (ad : Nat → Nat) (Mv : List Nat), i + n = 8 → gc_N σ base free low scan tend nh made beg → gc_I (sMem σ) hf base ob free low scan tend nh α ad od Mv Mk Sn brf →
    (∀ t, t < i → gc_bw ad Mv Mk (aR α t) (sReg σ t)) → (∀ t, i ≤ t → t < 8 → gc_gw ad od Mv Mk Sn (aR α t) (sReg σ t)) →
    ∃ (ad' : Nat → Nat) (Mv' : List Nat) (free' : Nat), gc_N (sh_regsN κ σ i n) base free' low scan tend nh made beg ∧ gc_I (sMem (sh_regsN κ σ i n)) hf base ob free' low scan tend nh α ad' od Mv' Mk Sn brf ∧
      (∀ t, t < 8 → gc_bw ad' Mv' Mk (aR α t) (sReg (sh_regsN κ σ i n) t))
  | 0, i, σ, free, ad, Mv, hi, N, I, r1, _ => ⟨ad, Mv, free, N, I, fun t ht => r1 t (by omega)⟩
  | n + 1, i, σ, free, ad, Mv, hi, N, I, r1, r2 => by
    obtain ⟨a1, a2, a3, a4, a5, a6, a7, a8⟩ := id N
    obtain ⟨ad', Mv', free', I', b', e', x'⟩ := gc_piu k1 k2 I a3 a4 (r2 i (Nat.le_refl _) (by omega))
    obtain ⟨N', er⟩ := N.free e'
    have N2 : gc_N (uReg (sh_piu κ σ (sReg σ i)).2 (upd (sReg (sh_piu κ σ (sReg σ i)).2) i (sh_piu κ σ (sReg σ i)).1)) base free' low scan tend nh made beg := N'
    refine gc_regsN k1 k2 n (i + 1) (uReg (sh_piu κ σ (sReg σ i)).2 (upd (sReg (sh_piu κ σ (sReg σ i)).2) i (sh_piu κ σ (sReg σ i)).1)) free' ad' Mv' (by omega) N2 I' ?_ ?_
    · intro t ht
      show gc_bw ad' Mv' Mk (aR α t) (upd (sReg (sh_piu κ σ (sReg σ i)).2) i (sh_piu κ σ (sReg σ i)).1 t)
      by_cases hz : t = i
      · subst hz; rw [pk_us]; exact b'
      · rw [pk_un hz, er]
        exact x'.bw (r1 t (by omega))
    · intro t h1 h2
      show gc_gw ad' od Mv' Mk Sn (aR α t) (upd (sReg (sh_piu κ σ (sReg σ i)).2) i (sh_piu κ σ (sReg σ i)).1 t)
      rw [pk_un (by omega), er]
      exact x'.gw (r2 t (by omega) h2)
theorem gc_begin {κ : sh_K} {σ : sh_S} {hf base ob free low scan tend nh made beg : Nat} {α : ab_A} {ad od : Nat → Nat} {Mv Mk Sn Sn' : List Nat} {brf : Nat → Nat → Nat} (k1 : kHalf κ = nI hf) (k2 : kLast κ = nI (2 * hf))
    (N : gc_N σ base free low scan tend nh made beg) (I : gc_I (sMem σ) hf base ob free low scan tend nh α ad od Mv Mk Sn brf) (hs : scan = free) (hr : ∀ t, t < 8 → gc_bw ad Mv Mk (aR α t) (sReg σ t))
    (d1 : Sn'.Nodup) (d2 : ∀ o, o ∈ Sn' → o ∈ Mv ∨ o ∈ Mk) (d3 : ∀ o j, o ∈ Sn' → j < aT α o → aF α o j = 0 ∨ aF α o j ∈ Sn') (d4 : gc_sum (aC α) Sn' ≤ hf) (d5 : ∀ t, t < 8 → aR α t = 0 ∨ aR α t ∈ Sn') :
    ∃ (ad' od' : Nat → Nat) (Mv' : List Nat) (free' : Nat), gc_N (sh_begin κ σ) ob free' (ob + hf) ob ob ob 0 (beg + 1) ∧ gc_I (sMem (sh_begin κ σ)) hf ob base free' (ob + hf) ob ob ob α ad' od' Mv' [] Sn' (aF α) ∧
      (∀ t, t < 8 → gc_bw ad' Mv' [] (aR α t) (sReg (sh_begin κ σ) t)) ∧ (∀ t, t < 8 → aR α t ≠ 0 → aR α t ∈ Mv') := by
  have I0 := gc_beg0 I hs d1 d2 d3 d4
  obtain ⟨a1, a2, a3, a4, a5, a6, a7, a8⟩ := id N
  obtain ⟨h1, h2, -⟩ := I.1
  have hob : (if sBase σ = 1 then 1 + kHalf κ else 1) = nI ob := by
    rw [a3, k1, show (1 : Int32) = nI 1 from rfl, nI_add]
    rcases h2 with ⟨h3, h4⟩ | ⟨h3, h4⟩
    · rw [if_pos (by rw [h3]), h4]
    · by_cases hz : nI base = nI 1
      · have := (nI_eq (by omega) (by omega)).mp hz
        rw [if_pos hz]
        congr 1
        omega
      · rw [if_neg hz, h4]
  have z0 : 0 ∉ Sn' := I0.2.1.2.2.1
  obtain ⟨ad', Mv', free', N', I', r'⟩ := gc_regsN (κ := κ) (base := ob) (ob := base) (low := ob + hf) (scan := ob) (tend := ob) (nh := ob) (made := 0) (beg := beg + 1) (α := α) k1 k2 8 0 (uBeg (uMade (sh_useHalf κ σ (nI ob)) 0) (sBeg (sh_useHalf κ σ (nI ob)) + 1)) ob (fun _ => 0) [] rfl
    ⟨rfl, by show sBeg σ + 1 = _; rw [a2, nI_1], rfl, rfl, by show nI ob + kHalf κ = _; rw [k1, nI_add], rfl, rfl, rfl⟩ I0 (fun t ht => by omega) (fun t _ ht => by
      show gc_gw (fun _ => 0) (gc_rs Sn' ad) [] [] Sn' (aR α t) (sReg σ t)
      rcases d5 t ht with h | h
      · refine Or.inl ⟨?_, Or.inl h⟩
        rw [(hr t ht).1, h, I.2.1.1]
      · refine Or.inr ⟨?_, h⟩
        rw [(hr t ht).1, gc_rs_in h])
  have eq : sh_begin κ σ = sh_regsN κ (uBeg (uMade (sh_useHalf κ σ (nI ob)) 0) (sBeg (sh_useHalf κ σ (nI ob)) + 1)) 0 8 := by
    unfold sh_begin
    rw [hob]
  rw [eq]
  refine ⟨ad', _, Mv', free', N', I', r', fun t ht hne => ?_⟩
  rcases (r' t ht).2 with h | h | h
  · exact absurd h hne
  · exact h
  · exact absurd h List.not_mem_nil
