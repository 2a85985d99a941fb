/-! ===== TOUCHES: how many cells a call looks at or writes ===== -/
def tc (κ : sh_K) (al : Nat) (c : sh_C) (t : Nat) : Prop := c.1 = nI t ∧ c.2.1 = 1 ∧ kAl κ = nI al ∧ al < 2 ^ 30
theorem tc_start {κ : sh_K} {al t : Nat} {c : sh_C} (h : tc κ al c t) : tc κ al (sh_start c) 0 := ⟨rfl, h.2.1, h.2.2⟩
theorem tc_touch {κ : sh_K} {al t : Nat} {c : sh_C} (h : tc κ al c t) (hb : t + 1 ≤ al) : tc κ al (sh_touch κ c) (t + 1) := by
  obtain ⟨h1, h2, h3, h4⟩ := h
  refine ⟨?_, ?_, h3, h4⟩
  · show c.1 + 1 = _
    rw [h1, nI_1]
  · show (if c.1 + 1 ≤ kAl κ then c.2.1 else 0) = 1
    rw [h1, nI_1, h3, if_pos (nI_le hb (by omega)), h2]
theorem tc_put {κ : sh_K} {al t : Nat} {c : sh_C} {x v : Int32} (h : tc κ al c t) : tc κ al (sh_put κ c x v) t := by
  unfold sh_put
  split
  · exact h
  · split
    · exact h
    · exact h
theorem tc_write {κ : sh_K} {al t : Nat} {c : sh_C} {x v : Int32} (h : tc κ al c t) (hb : t + 1 ≤ al) : tc κ al (sh_write κ c x v) (t + 1) := tc_put (tc_touch h hb)
theorem tc_copyN {κ : sh_K} {al : Nat} {f g : Int32} : ∀ (n t : Nat) (i : Int32) (c : sh_C), tc κ al c t → t + 2 * n ≤ al → tc κ al (sh_copyN κ c f g i n) (t + 2 * n)
  | 0, _, _, _, h, _ => h
  | n + 1, t, i, c, h, hb => by
    rw [sh_copyN]
    have := tc_copyN (κ := κ) (al := al) (f := f) (g := g) n (t + 1 + 1) (i + 1) _ (tc_write (x := g + i) (v := sh_val κ c (f + i)) (tc_touch h (by omega)) (by omega)) (by omega)
    rw [show t + 2 * (n + 1) = t + 1 + 1 + 2 * n by omega]
    exact this
theorem tc_zeroN {κ : sh_K} {al : Nat} {lo : Int32} : ∀ (n t : Nat) (i : Int32) (c : sh_C), tc κ al c t → t + n ≤ al → tc κ al (sh_zeroN κ c lo i n) (t + n)
  | 0, _, _, _, h, _ => h
  | n + 1, t, i, c, h, hb => by
    rw [sh_zeroN]
    have := tc_zeroN (κ := κ) (al := al) (lo := lo) n (t + 1) (i + 1) _ (tc_write (x := lo + i) (v := 0) h (by omega)) (by omega)
    rw [show t + (n + 1) = t + 1 + n by omega]
    exact this
theorem tc_piu {κ : sh_K} {al t : Nat} {σ : sh_S} {w : Int32} (h : tc κ al σ.1 t) (hb : t + 33 ≤ al) (hh : ¬ sh_old κ σ w = 0 → ¬ sh_val κ σ.1 w < 0 → hC (sh_val κ σ.1 w) ≤ 16) : ∃ t', t' ≤ t + 33 ∧ tc κ al (sh_piu κ σ w).2.1 t' := by
  by_cases ho : sh_old κ σ w = 0
  · refine ⟨t, by omega, ?_⟩
    unfold sh_piu
    rw [if_pos ho]
    exact h
  · by_cases hv : sh_val κ σ.1 w < 0
    · refine ⟨t + 1, by omega, ?_⟩
      unfold sh_piu
      rw [if_neg ho]
      dsimp only
      rw [if_pos hv]
      exact tc_touch h (by omega)
    · have h16 := hh ho hv
      have hB := hC_big (sh_val κ σ.1 w)
      refine ⟨t + 1 + 1 + 2 * (hC (sh_val κ σ.1 w) - 1) + 1, by omega, ?_⟩
      unfold sh_piu
      rw [if_neg ho]
      dsimp only
      rw [if_neg hv, hC_eq, hC_clamp]
      exact tc_write (tc_copyN _ _ _ _ (tc_write (tc_touch h (by omega)) (by omega)) (by omega)) (by omega)
theorem tc_piuNo {κ : sh_K} {σ : sh_S} {w : Int32} (ho : sh_old κ σ w = 0) : sh_piu κ σ w = (w, σ) := by
  unfold sh_piu
  rw [if_pos ho]
theorem tc_follow {κ : sh_K} {al t : Nat} {σ : sh_S} {x : Int32} (h : tc κ al σ.1 t) (hb : t + 34 ≤ al) (hh : ¬ sh_old κ σ (sh_val κ σ.1 x) = 0 → ¬ sh_val κ σ.1 (sh_val κ σ.1 x) < 0 → hC (sh_val κ σ.1 (sh_val κ σ.1 x)) ≤ 16) : ∃ t', t' ≤ t + 34 ∧ tc κ al (sh_follow κ σ x).2.1 t' := by
  obtain ⟨t', h1, h2⟩ := tc_piu (σ := uC σ (sh_touch κ σ.1)) (w := sh_val κ σ.1 x) (tc_touch h (by omega)) (by omega) hh
  exact ⟨t', by omega, h2⟩
theorem tc_link {κ : sh_K} {al t : Nat} {σ : sh_S} {x v : Int32} (h : tc κ al σ.1 t) (hb : t + 35 ≤ al) (hh : ¬ sh_old κ σ (sh_val κ σ.1 x) = 0 → ¬ sh_val κ σ.1 (sh_val κ σ.1 x) < 0 → hC (sh_val κ σ.1 (sh_val κ σ.1 x)) ≤ 16) : ∃ t', t' ≤ t + 35 ∧ tc κ al (sh_link κ σ x v).1 t' := by
  obtain ⟨t', h1, h2⟩ := tc_follow h (by omega) hh
  exact ⟨t' + 1, by omega, tc_write h2 (by omega)⟩
