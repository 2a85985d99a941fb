/-! ===== THE CELLS' FUNCTIONS, WHERE THE ADDRESSES ARE IN RANGE; placeInUse ===== -/
theorem gc_valI {κ : sh_K} {c : sh_C} {la x : Nat} (hl : kLast κ = nI la) (hb : la < 2 ^ 31) (h1 : 1 ≤ x) (h2 : x ≤ la) : sh_val κ c (nI x) = c.2.2.1 x := by
  unfold sh_val
  rw [if_neg (by rw [show (1 : Int32) = nI 1 from rfl]; exact nI_nlt h1 (by omega)), if_pos (by rw [hl]; exact nI_le h2 hb), nI_clamp (by omega)]
theorem gc_writeI {κ : sh_K} {c : sh_C} {la x : Nat} {v : Int32} (hl : kLast κ = nI la) (hb : la < 2 ^ 31) (h1 : 1 ≤ x) (h2 : x ≤ la) : (sh_write κ c (nI x) v).2.2.1 = upd c.2.2.1 x v := by
  unfold sh_write sh_put
  rw [if_neg (by rw [show (1 : Int32) = nI 1 from rfl]; exact nI_nlt h1 (by omega)), if_pos (by rw [hl]; exact nI_le h2 hb), nI_clamp (by omega)]
  rfl
theorem gc_touchM {κ : sh_K} {c : sh_C} : (sh_touch κ c).2.2 = c.2.2 := rfl
theorem gc_copyN {κ : sh_K} {la a b : Nat} (hl : kLast κ = nI la) (hb : la < 2 ^ 31) : ∀ (n i : Nat) (c : sh_C), 1 ≤ a + i → 1 ≤ b + i → a + i + n ≤ la + 1 → b + i + n ≤ la + 1 → (a + n ≤ b ∨ b + n ≤ a) →
    (sh_copyN κ c (nI a) (nI b) (nI i) n).2.2.1 = fun x => if b + i ≤ x ∧ x < b + i + n then c.2.2.1 (a + (x - b)) else c.2.2.1 x
  | 0, i, c, _, _, _, _, _ => by
    funext x
    rw [if_neg (by omega)]
    rfl
  | n + 1, i, c, h1, h2, h3, h4, h5 => by
    show (sh_copyN κ (sh_write κ (sh_touch κ c) (nI b + nI i) (sh_val κ c (nI a + nI i))) (nI a) (nI b) (nI i + 1) n).2.2.1 = _
    rw [nI_add, nI_add, nI_1, gc_valI hl hb h1 (by omega), gc_copyN hl hb n (i + 1) _ (by omega) (by omega) (by omega) (by omega) (by omega), gc_writeI hl hb h2 (by omega), gc_touchM]
    funext x
    by_cases hx : b + (i + 1) ≤ x ∧ x < b + (i + 1) + n
    · rw [if_pos hx, if_pos (by omega), pk_un (by omega)]
    · rw [if_neg hx]
      by_cases hy : x = b + i
      · subst hy
        rw [if_pos (by omega), pk_us, show b + i - b = i by omega]
      · rw [if_neg (by omega), pk_un hy]
theorem gc_neg {a : Nat} (h0 : 1 ≤ a) (h : a < 2 ^ 31) : -(nI a) < 0 := by
  rw [Int32.lt_iff_toInt_lt, sb_negT h, Int32.toInt_zero]
  omega
theorem gc_oldNo {κ : sh_K} {σ : sh_S} {hf base x : Nat} (hk : kHalf κ = nI hf) (hB : sBase σ = nI base) (hb : base + hf < 2 ^ 31) (h : x = 0 ∨ base ≤ x ∧ x < base + hf) : sh_old κ σ (nI x) = 0 := by
  unfold sh_old
  rcases h with h | ⟨h1, h2⟩
  · subst h
    rw [if_pos nI_0]
  · by_cases h0 : nI x = 0
    · rw [if_pos h0]
    · rw [if_neg h0, hB, hk, nI_add, if_neg (nI_nlt h1 (by omega)), if_pos (nI_lt h2 hb)]
theorem gc_oldYes {κ : sh_K} {σ : sh_S} {hf base x : Nat} (hk : kHalf κ = nI hf) (hB : sBase σ = nI base) (hb : base + hf < 2 ^ 31) (h0 : 1 ≤ x) (h2 : x < 2 ^ 31) (h : x < base ∨ base + hf ≤ x) : ¬ sh_old κ σ (nI x) = 0 := by
  unfold sh_old
  rw [if_neg (nI_ne0 h0 h2), hB, hk, nI_add]
  rcases h with h | h
  · rw [if_pos (nI_lt h (by omega))]; decide
  · by_cases h5 : nI x < nI base
    · rw [if_pos h5]; decide
    · rw [if_neg h5, if_neg (nI_nlt h h2)]; decide
/-- what moves keep: who stands in the half in use stays there -/
def gc_ext (ad ad' : Nat → Nat) (Mv Mv' Mk : List Nat) : Prop := (∀ o, o = 0 ∨ o ∈ Mv ∨ o ∈ Mk → ad' o = ad o) ∧ ∀ o, o ∈ Mv → o ∈ Mv'
theorem gc_ext.rf {ad : Nat → Nat} {Mv Mk : List Nat} : gc_ext ad ad Mv Mv Mk := ⟨fun _ _ => rfl, fun _ h => h⟩
theorem gc_ext.tr {ad ad' ad'' : Nat → Nat} {Mv Mv' Mv'' Mk : List Nat} (h : gc_ext ad ad' Mv Mv' Mk) (h2 : gc_ext ad' ad'' Mv' Mv'' Mk) : gc_ext ad ad'' Mv Mv'' Mk :=
  ⟨fun o ho => (h2.1 o (ho.imp id (Or.imp (h.2 o) id))).trans (h.1 o ho), fun o ho => h2.2 o (h.2 o ho)⟩
theorem gc_ext.bw {ad ad' : Nat → Nat} {Mv Mv' Mk : List Nat} (h : gc_ext ad ad' Mv Mv' Mk) {r : Nat} {w : Int32} (hw : gc_bw ad Mv Mk r w) : gc_bw ad' Mv' Mk r w :=
  ⟨by rw [h.1 r hw.2]; exact hw.1, hw.2.imp id (Or.imp (h.2 r) id)⟩
theorem gc_ext.gw {ad ad' od : Nat → Nat} {Mv Mv' Mk Sn : List Nat} (h : gc_ext ad ad' Mv Mv' Mk) {r : Nat} {w : Int32} (hw : gc_gw ad od Mv Mk Sn r w) : gc_gw ad' od Mv' Mk Sn r w := by
  rcases hw with hw | hw
  · exact Or.inl (h.bw hw)
  · exact Or.inr hw
theorem gc_piu {κ : sh_K} {σ : sh_S} {hf base ob free low scan tend nh : Nat} {α : ab_A} {ad od : Nat → Nat} {Mv Mk Sn : List Nat} {brf : Nat → Nat → Nat}
    (k1 : kHalf κ = nI hf) (k2 : kLast κ = nI (2 * hf)) (I : gc_I (sMem σ) hf base ob free low scan tend nh α ad od Mv Mk Sn brf) (hB : sBase σ = nI base) (hF : sFree σ = nI free) {r : Nat} {w : Int32} (hw : gc_gw ad od Mv Mk Sn r w) :
    ∃ (ad' : Nat → Nat) (Mv' : List Nat) (free' : Nat), gc_I (sMem (sh_piu κ σ w).2) hf base ob free' low scan tend nh α ad' od Mv' Mk Sn brf ∧ gc_bw ad' Mv' Mk r (sh_piu κ σ w).1 ∧ (sh_piu κ σ w).2.2 = (uFree σ (nI free')).2 ∧ gc_ext ad ad' Mv Mv' Mk := by
  have F := gc_free_le I
  have I0 := I
  obtain ⟨⟨h1, h2, h3⟩, ⟨z1, z2, z3, z4, n1, n2, n3, s1, s2, s3⟩, c1, c2, -, ⟨o1, o2, o3, o4, o5⟩, w1, -⟩ := I
  have same : sh_old κ σ w = 0 → gc_bw ad Mv Mk r w → ∃ (ad' : Nat → Nat) (Mv' : List Nat) (free' : Nat), gc_I (sMem (sh_piu κ σ w).2) hf base ob free' low scan tend nh α ad' od Mv' Mk Sn brf ∧ gc_bw ad' Mv' Mk r (sh_piu κ σ w).1 ∧ (sh_piu κ σ w).2.2 = (uFree σ (nI free')).2 ∧ gc_ext ad ad' Mv Mv' Mk := by
    intro ho hb
    have e : sh_piu κ σ w = (w, σ) := by unfold sh_piu; rw [if_pos ho]
    rw [e]
    exact ⟨ad, Mv, free, I0, hb, by rw [← hF], gc_ext.rf⟩
  rcases hw with hb | ⟨e, hr⟩
  · refine same ?_ hb
    rw [hb.1]
    refine gc_oldNo k1 hB (by omega) ?_
    rcases hb.2 with h | h | h
    · subst h; exact Or.inl z1
    · have hi := gc_chain_in c1 h
      have : aC α r = 1 + aT α r + aP α r := rfl
      right; omega
    · have hi := gc_chain_in c2 h
      have : aC α r = 1 + aT α r + aP α r := rfl
      right; omega
  · have b := o1 r hr
    have hCr : aC α r = 1 + aT α r + aP α r := rfl
    have ho : ¬ sh_old κ σ w = 0 := by
      rw [e]
      exact gc_oldYes k1 hB (by omega) (by omega) (by omega) (by omega)
    have hv : sh_val κ σ.1 w = sMem σ (od r) := by rw [e]; exact gc_valI k2 (by omega) (by omega) (by omega)
    by_cases hm : r ∈ Mv
    · have hi := gc_chain_in c1 hm
      have ev : sh_val κ σ.1 w = -(nI (ad r)) := by rw [hv]; exact o3 r hm
      have eq : sh_piu κ σ w = (nI (ad r), uC σ (sh_touch κ σ.1)) := by
        unfold sh_piu
        rw [if_neg ho]
        show (if sh_val κ σ.1 w < 0 then _ else _) = _
        rw [ev, if_pos (gc_neg (by omega) (by omega)), Int32.neg_neg]
      rw [eq]
      exact ⟨ad, Mv, free, I0, ⟨rfl, Or.inr (Or.inl hm)⟩, by rw [← hF], gc_ext.rf⟩
    · obtain ⟨hroom, I'⟩ := gc_move I0 hr hm
      obtain ⟨q1, -, -⟩ := o4 r hr hm
      have hok := s3 r (Or.inl hr)
      have ev : sh_val κ σ.1 w = aH α r := by rw [hv]; exact q1
      have eq : sh_piu κ σ w = (nI free, uFree (uC σ (sh_write κ (sh_copyN κ (sh_write κ (sh_touch κ σ.1) (nI free) (aH α r)) (nI (od r)) (nI free) (nI 1) (aC α r - 1)) (nI (od r)) (-(nI free)))) (nI (free + aC α r))) := by
        unfold sh_piu
        rw [if_neg ho]
        show (if sh_val κ σ.1 w < 0 then _ else _) = _
        rw [ev, if_neg (by have := hok.1; rw [Int32.lt_iff_toInt_lt] at this ⊢; omega)]
        rw [hC_eq, nI_clamp (by have := hok.2; omega), hF, nI_add, e]
        rfl
      have em : sMem (sh_piu κ σ w).2 = gc_mm (sMem σ) (od r) free (aC α r) := by
        rw [eq]
        show (sh_write κ (sh_copyN κ (sh_write κ (sh_touch κ σ.1) (nI free) (aH α r)) (nI (od r)) (nI free) (nI 1) (aC α r - 1)) (nI (od r)) (-(nI free))).2.2.1 = _
        rw [gc_writeI k2 (by omega) (by omega) (by omega), gc_copyN k2 (by omega) _ _ _ (by omega) (by omega) (by omega) (by omega) (by omega), gc_writeI k2 (by omega) (by omega) (by omega), gc_touchM]
        funext x
        unfold gc_mm
        by_cases hx : x = od r
        · subst hx
          rw [pk_us, if_pos rfl]
        · rw [pk_un hx, if_neg hx]
          by_cases hy : free + 1 ≤ x ∧ x < free + 1 + (aC α r - 1)
          · rw [if_pos hy, if_pos (by omega), pk_un (by omega)]
          · rw [if_neg hy]
            by_cases hz : x = free
            · subst hz
              rw [pk_us, if_pos (by omega), Nat.sub_self, Nat.add_zero]
              exact q1.symm
            · rw [pk_un hz, if_neg (by omega)]
      refine ⟨va_up ad r free, Mv ++ [r], free + aC α r, by rw [em]; exact I', ?_, ?_, ?_⟩
      · rw [eq]
        exact ⟨by simp [va_up], Or.inr (Or.inl (by simp))⟩
      · rw [eq]
      · refine ⟨fun o h => ?_, fun o h => List.mem_append_left _ h⟩
        have hne : o ≠ r := by
          intro z
          subst z
          rcases h with h | h | h
          · subst h; exact z3 hr
          · exact hm h
          · exact s2 o h hr
        simp [va_up, hne]
