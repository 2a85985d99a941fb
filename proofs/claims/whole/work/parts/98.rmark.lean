/-! ===== THE REFERENCE: what goOver reaches ===== -/
/-- the reference's rows hold the abstract heap's things of U -/
def rg_H (ρ : rm_S) (α : ab_A) (ob : Nat) (U : Nat → Prop) : Prop :=
  ob < 100000 ∧ (∀ t, t < 8 → rReg ρ t = nI (aR α t)) ∧ (∀ o, U (o + 1) → o < ob ∧ rRefs ρ o = nI (aT α (o + 1)) ∧ rm_cells ρ (nI o) = nI (aC α (o + 1)) ∧ ∀ j, j < aT α (o + 1) → rRow ρ (o * 16 + j) = nI (aF α (o + 1) j)) ∧ ¬ U 0 ∧ ab_cl α U
def rg_M (ρ0 : rm_S) (L : List Nat) (ρ : rm_S) : Prop := ∃ mk pl, ρ = vPus (vPile (vMark ρ0 mk) pl) (nI L.length) ∧ (∀ i q, L[i]? = some q → pl i = nI q) ∧ ∀ o, mk o = (if o ∈ L then 1 else 0)
def rg_G (α : ab_A) (U : Nat → Prop) (L : List Nat) : Prop := L.Nodup ∧ ∀ o, o ∈ L → U (o + 1) ∧ ab_reach α (o + 1)
theorem rg_len {L : List Nat} {ob : Nat} (hn : L.Nodup) (h : ∀ o, o ∈ L → o < ob) : L.length ≤ ob := by
  have e : ∀ l : List Nat, gc_sum (fun _ => 1) l = l.length := by
    intro l
    induction l with
    | nil => rfl
    | cons a l ih => simp only [gc_sum, List.length_cons, ih]; omega
  have := gc_sum_le (cz := fun _ => 1) L (List.range ob) hn (fun o ho => List.mem_range.mpr (h o ho))
  rw [e, e, List.length_range] at this
  exact this
theorem rg_G.len {ρ : rm_S} {α : ab_A} {ob : Nat} {U : Nat → Prop} (H : rg_H ρ α ob U) {L : List Nat} (g : rg_G α U L) : L.length ≤ ob := rg_len g.1 (fun o ho => (H.2.2.1 o (g.2 o ho).1).1)
theorem rg_reach {ρ0 ρ : rm_S} {α : ab_A} {ob x : Nat} {U : Nat → Prop} {L : List Nat} (H : rg_H ρ0 α ob U) (M : rg_M ρ0 L ρ) (g : rg_G α U L) (hx : x ≠ 0 → U x ∧ ab_reach α x) :
    rs_reach ρ (nI x) ∧ ∃ e, rg_M ρ0 (L ++ e) (rm_reach ρ (nI x)) ∧ rg_G α U (L ++ e) ∧ (x ≠ 0 → x - 1 ∈ L ++ e) := by
  have hob := H.1
  have hlen := g.len H
  obtain ⟨mk, pl, rfl, hp, hm⟩ := M
  by_cases hz : x = 0
  · subst hz
    refine ⟨⟨fun z => absurd rfl z, vp_in_nI (by omega) (by decide)⟩, [], ?_, by rw [List.append_nil]; exact g, fun z => absurd rfl z⟩
    rw [List.append_nil]
    unfold rm_reach
    rw [if_pos nI_0]
    exact ⟨mk, pl, rfl, hp, hm⟩
  · obtain ⟨y, rfl⟩ : ∃ y, x = y + 1 := ⟨x - 1, by omega⟩
    obtain ⟨hU, hr⟩ := hx hz
    have hy := (H.2.2.1 y hU).1
    have e1 : nI (y + 1) - 1 = nI y := nI_pred y
    refine ⟨⟨fun _ => by rw [e1]; exact vp_in_nI (by omega) (by decide), vp_in_nI (by omega) (by decide)⟩, ?_⟩
    by_cases hin : y ∈ L
    · refine ⟨[], ?_, by rw [List.append_nil]; exact g, fun _ => by rw [List.append_nil]; exact hin⟩
      rw [List.append_nil]
      unfold rm_reach
      rw [if_neg (nI_ne0 (by omega) (by omega)), e1, nI_clamp (by omega), if_neg (by show ¬ mk y = 0; rw [hm, if_pos hin]; decide)]
      exact ⟨mk, pl, rfl, hp, hm⟩
    · refine ⟨[y], ?_, ?_, fun _ => by show y + 1 - 1 ∈ _; simp⟩
      · unfold rm_reach
        rw [if_neg (nI_ne0 (by omega) (by omega)), e1, nI_clamp (by omega), if_pos (by show mk y = 0; rw [hm, if_neg hin])]
        refine ⟨upd mk y 1, upd pl L.length (nI y), ?_, fun i q hi => ?_, fun o => ?_⟩
        · show vPus (vPile (vMark ρ0 (upd mk y (vp_nar .boolean 1))) (upd pl (nI L.length).toNatClampNeg (nI y))) (nI L.length + 1) = _
          rw [nI_clamp (by omega), nI_1, show vp_nar .boolean 1 = 1 from rfl, List.length_append]
          rfl
        · by_cases hi2 : i < L.length
          · rw [pk_un (by omega)]
            rw [List.getElem?_append_left hi2] at hi
            exact hp i q hi
          · rw [List.getElem?_append_right (by omega)] at hi
            have : i - L.length = 0 := by
              rcases Nat.eq_zero_or_pos (i - L.length) with h | h
              · exact h
              · rw [List.getElem?_eq_none (by simp; omega)] at hi
                cases hi
            have hi3 : i = L.length := by omega
            rw [this] at hi
            have : y = q := by simpa using hi
            rw [hi3, pk_us, this]
        · by_cases ho : o = y
          · rw [ho, pk_us, if_pos (by simp)]
          · rw [pk_un ho, hm]
            simp [ho]
      · refine ⟨?_, fun o ho => ?_⟩
        · rw [List.nodup_append]
          exact ⟨g.1, by simp, fun a ha b hb z => by
            rw [List.mem_singleton] at hb
            subst hb; subst z; exact hin ha⟩
        · rcases List.mem_append.mp ho with h | h
          · exact g.2 o h
          · rw [List.mem_singleton] at h
            subst h
            exact ⟨hU, hr⟩
theorem rg_regsN {ρ0 : rm_S} {α : ab_A} {ob : Nat} {U : Nat → Prop} (H : rg_H ρ0 α ob U) :
    ∀ (n i : Nat) (ρ : rm_S) (L : List Nat), i + n = 8 → rg_M ρ0 L ρ → rg_G α U L → rs_regsN ρ i n ∧ ∃ e, rg_M ρ0 (L ++ e) (rm_regsN ρ i n) ∧ rg_G α U (L ++ e) ∧ ∀ t, i ≤ t → t < 8 → aR α t ≠ 0 → aR α t - 1 ∈ L ++ e
  | 0, i, ρ, L, hi, M, g => ⟨trivial, [], by rw [List.append_nil]; exact M, by rw [List.append_nil]; exact g, fun t h1 h2 => by omega⟩
  | n + 1, i, ρ, L, hi, M, g => by
    have er : rReg ρ i = nI (aR α i) := by
      obtain ⟨mk, pl, rfl, -⟩ := M
      exact H.2.1 i (by omega)
    rw [rs_regsN, rm_regsN, er]
    obtain ⟨s1, e1, M1, g1, h1⟩ := rg_reach H M g (x := aR α i) (fun hz => ⟨H.2.2.2.2.1 i (by omega) hz, (ab_reach_cl α).1 i (by omega) hz⟩)
    obtain ⟨s2, e2, M2, g2, h2⟩ := rg_regsN H n (i + 1) _ _ (by omega) M1 g1
    refine ⟨⟨s1, s2⟩, e1 ++ e2, by rw [← List.append_assoc]; exact M2, by rw [← List.append_assoc]; exact g2, fun t ht1 ht2 hz => ?_⟩
    rw [← List.append_assoc]
    by_cases he : t = i
    · subst he
      exact List.mem_append_left _ (h1 hz)
    · exact h2 t (by omega) ht2 hz
theorem rg_rowN {ρ0 : rm_S} {α : ab_A} {ob o : Nat} {U : Nat → Prop} (H : rg_H ρ0 α ob U) (hU : U (o + 1)) (hr : ab_reach α (o + 1)) :
    ∀ (n f : Nat) (ρ : rm_S) (L : List Nat), f + n = aT α (o + 1) → rg_M ρ0 L ρ → rg_G α U L → rs_rowN ρ (nI o) (nI f) n ∧ ∃ e, rg_M ρ0 (L ++ e) (rm_rowN ρ (nI o) (nI f) n) ∧ rg_G α U (L ++ e) ∧ ∀ j, f ≤ j → j < aT α (o + 1) → aF α (o + 1) j ≠ 0 → aF α (o + 1) j - 1 ∈ L ++ e
  | 0, f, ρ, L, hf, M, g => ⟨trivial, [], by rw [List.append_nil]; exact M, by rw [List.append_nil]; exact g, fun t h1 h2 => by omega⟩
  | n + 1, f, ρ, L, hf, M, g => by
    have hob := H.1
    obtain ⟨ho, h15, -, hrow⟩ := H.2.2.1 o hU
    have hT15 := (hT_lt (aH α (o + 1))).1
    have hT15 : aT α (o + 1) < 16 := hT15
    have ei : nI o * 16 + nI f = nI (o * 16 + f) := by rw [show (16 : Int32) = nI 16 from rfl, pk_mul, nI_add]
    have er : rRow ρ (o * 16 + f) = nI (aF α (o + 1) f) := by
      obtain ⟨mk, pl, rfl, -⟩ := M
      exact hrow f (by omega)
    rw [rs_rowN, rm_rowN, ei, nI_clamp (by omega), er, nI_1]
    obtain ⟨s1, e1, M1, g1, h1⟩ := rg_reach H M g (x := aF α (o + 1) f) (fun hz => ⟨H.2.2.2.2.2 _ f hU (by omega) hz, (ab_reach_cl α).2 _ f hr (by omega) hz⟩)
    obtain ⟨s2, e2, M2, g2, h2⟩ := rg_rowN H hU hr n (f + 1) _ _ (by omega) M1 g1
    refine ⟨⟨vp_in_nI (by omega) (by decide), s1, s2⟩, e1 ++ e2, by rw [← List.append_assoc]; exact M2, by rw [← List.append_assoc]; exact g2, fun t ht1 ht2 hz => ?_⟩
    rw [← List.append_assoc]
    by_cases he : t = f
    · subst he
      exact List.mem_append_left _ (h1 hz)
    · exact h2 t (by omega) ht2 hz
def rg_P (ρ0 : rm_S) (α : ab_A) (U : Nat → Prop) (A B : List Nat) (ρ : rm_S) (c : Nat) : Prop :=
  rs_pileN ρ (nI A.length) c ∧ ∃ L, rg_M ρ0 L (rm_pileN ρ (nI (gc_sum (fun o => aC α (o + 1)) A)) (nI A.length) c).2 ∧ rg_G α U L ∧ (∀ o j, o ∈ L → j < aT α (o + 1) → aF α (o + 1) j ≠ 0 → aF α (o + 1) j - 1 ∈ L) ∧ (rm_pileN ρ (nI (gc_sum (fun o => aC α (o + 1)) A)) (nI A.length) c).1 = nI (gc_sum (fun o => aC α (o + 1)) L) ∧ ∀ o, o ∈ A ++ B → o ∈ L
theorem rg_pile0 {ρ0 : rm_S} {α : ab_A} {ob c : Nat} {U : Nat → Prop} {A : List Nat} {ρ : rm_S} (H : rg_H ρ0 α ob U) (M : rg_M ρ0 (A ++ []) ρ) (g : rg_G α U (A ++ [])) (hcl : ∀ o j, o ∈ A → j < aT α (o + 1) → aF α (o + 1) j ≠ 0 → aF α (o + 1) j - 1 ∈ A ++ []) : rg_P ρ0 α U A [] ρ c := by
  have hob := H.1
  have hlen := g.len H
  have hpus : rPus ρ = nI (A ++ []).length := by
    obtain ⟨mk, pl, rfl, -⟩ := M
    rfl
  rw [List.append_nil] at M g hcl hpus hlen
  have hle : rPus ρ ≤ nI A.length := by rw [hpus]; exact nI_le (Nat.le_refl _) (by omega)
  have e : rm_pileN ρ (nI (gc_sum (fun o => aC α (o + 1)) A)) (nI A.length) c = (nI (gc_sum (fun o => aC α (o + 1)) A), ρ) := by
    cases c with
    | zero => rfl
    | succ c => rw [rm_pileN, if_pos hle]
  unfold rg_P
  rw [e, List.append_nil]
  refine ⟨?_, A, M, g, hcl, rfl, fun _ h => h⟩
  cases c with
  | zero => exact hle
  | succ c => exact Or.inl hle
theorem rg_pile1 {ρ0 : rm_S} {α : ab_A} {ob c o : Nat} {U : Nat → Prop} {A B : List Nat} {ρ : rm_S} (H : rg_H ρ0 α ob U) (M : rg_M ρ0 (A ++ o :: B) ρ) (g : rg_G α U (A ++ o :: B)) (hcl : ∀ o' j, o' ∈ A → j < aT α (o' + 1) → aF α (o' + 1) j ≠ 0 → aF α (o' + 1) j - 1 ∈ A ++ o :: B)
    (ih : ∀ (A B : List Nat) (ρ : rm_S), rg_M ρ0 (A ++ B) ρ → rg_G α U (A ++ B) → (∀ o j, o ∈ A → j < aT α (o + 1) → aF α (o + 1) j ≠ 0 → aF α (o + 1) j - 1 ∈ A ++ B) → A.length + c = ob → rg_P ρ0 α U A B ρ c) (hc : A.length + (c + 1) = ob) : rg_P ρ0 α U A (o :: B) ρ (c + 1) := by
  have hob := H.1
  have hlen := g.len H
  have hpus : rPus ρ = nI (A ++ o :: B).length := by
    obtain ⟨mk, pl, rfl, -⟩ := M
    rfl
  rw [List.length_append, List.length_cons] at hlen
  obtain ⟨hU, hr⟩ := g.2 o (by simp)
  obtain ⟨ho, h15, hcs, hrow⟩ := H.2.2.1 o hU
  have hT15 : aT α (o + 1) < 16 := (hT_lt (aH α (o + 1))).1
  have hnle : ¬ rPus ρ ≤ nI A.length := by rw [hpus, List.length_append, List.length_cons]; exact nI_ge (by omega) (by omega)
  have ep : rPile ρ A.length = nI o := by
    obtain ⟨mk, pl, rfl, hp, -⟩ := M
    exact hp A.length o (by simp)
  have eref : rRefs ρ o = nI (aT α (o + 1)) := by
    obtain ⟨mk, pl, rfl, -⟩ := M
    exact h15
  have ecs : rm_cells ρ (nI o) = nI (aC α (o + 1)) := by
    obtain ⟨mk, pl, rfl, -⟩ := M
    exact hcs
  obtain ⟨s1, e1, M1, g1, h1⟩ := rg_rowN H hU hr (aT α (o + 1)) 0 ρ (A ++ o :: B) (by omega) M g
  have el : A ++ o :: B ++ e1 = (A ++ [o]) ++ (B ++ e1) := by simp
  rw [el] at M1 g1 h1
  have hA : (A ++ [o]).length = A.length + 1 := by simp
  have hS : gc_sum (fun o => aC α (o + 1)) (A ++ [o]) = gc_sum (fun o => aC α (o + 1)) A + aC α (o + 1) := by rw [gc_sum_app]; simp [gc_sum]
  have q := ih (A ++ [o]) (B ++ e1) _ M1 g1 (fun q j hq hj hz => by
    rcases List.mem_append.mp hq with hq | hq
    · have h9 := hcl q j hq hj hz
      rw [← el]
      exact List.mem_append_left _ h9
    · rw [List.mem_singleton] at hq
      subst hq
      exact h1 j (by omega) hj hz) (by omega)
  unfold rg_P at q ⊢
  rw [hA, hS] at q
  have e : rm_pileN ρ (nI (gc_sum (fun o => aC α (o + 1)) A)) (nI A.length) (c + 1) = rm_pileN (rm_rowN ρ (nI o) (nI 0) (aT α (o + 1))) (nI (gc_sum (fun o => aC α (o + 1)) A + aC α (o + 1))) (nI (A.length + 1)) c := by
    rw [rm_pileN, if_neg hnle, nI_clamp (by omega), ep, ecs, nI_add, nI_1, nI_clamp (by omega), eref, nI_clamp (by omega), nI_0]
  rw [e]
  obtain ⟨s2, L, M2, g2, c2, r2, i2⟩ := q
  refine ⟨?_, L, M2, g2, c2, r2, fun q hq => i2 q ?_⟩
  · rw [rs_pileN]
    refine Or.inr ⟨vp_in_nI (by omega) (by decide), ?_, ?_, ?_⟩
    · rw [nI_clamp (by omega), ep]; exact vp_in_nI (by omega) (by decide)
    · rw [nI_clamp (by omega), ep, nI_clamp (by omega)]
      exact ⟨aT α (o + 1), by omega, eref, s1⟩
    · rw [nI_clamp (by omega), ep, nI_clamp (by omega), eref, nI_clamp (by omega), nI_1, ← nI_0]
      exact s2
  · rw [← el]; exact List.mem_append_left _ hq
theorem rg_pileN {ρ0 : rm_S} {α : ab_A} {ob : Nat} {U : Nat → Prop} (H : rg_H ρ0 α ob U) :
    ∀ (c : Nat) (A B : List Nat) (ρ : rm_S), rg_M ρ0 (A ++ B) ρ → rg_G α U (A ++ B) → (∀ o j, o ∈ A → j < aT α (o + 1) → aF α (o + 1) j ≠ 0 → aF α (o + 1) j - 1 ∈ A ++ B) → A.length + c = ob → rg_P ρ0 α U A B ρ c := by
  intro c
  induction c with
  | zero =>
    intro A B ρ M g hcl hc
    cases B with
    | nil => exact rg_pile0 H M g hcl
    | cons o B =>
      have hlen := g.len H
      rw [List.length_append, List.length_cons] at hlen
      omega
  | succ c ih =>
    intro A B ρ M g hcl hc
    cases B with
    | nil => exact rg_pile0 H M g hcl
    | cons o B => exact rg_pile1 H M g hcl ih hc
