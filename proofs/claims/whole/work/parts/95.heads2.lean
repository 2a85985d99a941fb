/-! ===== WHAT HEADS TELL ===== -/
theorem ho_all : ∀ r, r < 16 → ∀ i, i < 16 → hd_traced (hd_obj (nI r) (nI i)) = nI r ∧ hd_plain (hd_obj (nI r) (nI i)) = nI i ∧ hd_isArr (hd_obj (nI r) (nI i)) = 0 ∧ 0 < hd_obj (nI r) (nI i) := by decide +kernel
theorem ho_T {r i : Nat} (hr : r < 16) (hi : i < 16) : hT (hd_obj (nI r) (nI i)) = r ∧ hP (hd_obj (nI r) (nI i)) = i ∧ hd_isArr (hd_obj (nI r) (nI i)) = 0 ∧ 0 < hd_obj (nI r) (nI i) := by
  obtain ⟨a, b, c, d⟩ := ho_all r hr i hi
  refine ⟨?_, ?_, c, d⟩
  · unfold hT; rw [a]; exact nI_clamp (by omega)
  · unfold hP; rw [b]; exact nI_clamp (by omega)
theorem ho_ok {r i : Nat} (h : r + i ≤ 15) : gc_ok (hd_obj (nI r) (nI i)) := by
  obtain ⟨a, b, -, d⟩ := ho_T (r := r) (i := i) (by omega) (by omega)
  exact ⟨d, by unfold hC; omega⟩
def ha_P (n : Nat) (x : Int32) : Bool := decide (hd_isArr (hd_arr (nI n) x) = 1 ∧ hd_refIt (hd_arr (nI n) x) = x ∧ hd_len (hd_arr (nI n) x) = nI n ∧ hd_traced (hd_arr (nI n) x) = (if x = 0 then (if n ≤ 15 then 0 else 15) else 15) ∧ hd_plain (hd_arr (nI n) x) = (if x = 0 then (if n ≤ 15 then 15 else 0) else 0) ∧ 0 < hd_arr (nI n) x ∧ hd_height (hd_arr (nI n) x) = (if n ≤ 15 then 0 else if n ≤ 225 then 1 else 2))
theorem ha_1 : ∀ a, a < 68 → ∀ b, b < 50 → ha_P (a * 50 + b) 1 = true := by decide +kernel
theorem ha_0 : ∀ a, a < 68 → ∀ b, b < 50 → ha_P (a * 50 + b) 0 = true := by decide +kernel
theorem ha_all {n x : Nat} (hn : n ≤ 3375) (hx : x < 2) : ha_P n (nI x) = true := by
  have e : n = n / 50 * 50 + n % 50 := by omega
  rw [e]
  have hc : x = 0 ∨ x = 1 := by omega
  rcases hc with rfl | rfl
  · exact ha_0 _ (by omega) _ (by omega)
  · exact ha_1 _ (by omega) _ (by omega)
theorem ha_T {n x : Nat} (hn : n ≤ 3375) (hx : x < 2) : hd_isArr (hd_arr (nI n) (nI x)) = 1 ∧ hd_refIt (hd_arr (nI n) (nI x)) = nI x ∧ hd_len (hd_arr (nI n) (nI x)) = nI n ∧ hT (hd_arr (nI n) (nI x)) = (if x = 0 then (if n ≤ 15 then 0 else 15) else 15) ∧ hP (hd_arr (nI n) (nI x)) = (if x = 0 then (if n ≤ 15 then 15 else 0) else 0) ∧ gc_ok (hd_arr (nI n) (nI x)) ∧ hd_height (hd_arr (nI n) (nI x)) = nI (if n ≤ 15 then 0 else if n ≤ 225 then 1 else 2) := by
  obtain ⟨a1, a2, a3, a4, a5, a6, a7⟩ := of_decide_eq_true (ha_all hn hx)
  have e0 : (nI x = 0) = (x = 0) := by
    have hc : x = 0 ∨ x = 1 := by omega
    rcases hc with rfl | rfl <;> decide
  simp only [e0] at a4 a5
  have t1 : hT (hd_arr (nI n) (nI x)) = (if x = 0 then (if n ≤ 15 then 0 else 15) else 15) := by
    unfold hT; rw [a4]
    split
    · split <;> decide
    · decide
  have t2 : hP (hd_arr (nI n) (nI x)) = (if x = 0 then (if n ≤ 15 then 15 else 0) else 0) := by
    unfold hP; rw [a5]
    split
    · split <;> decide
    · decide
  refine ⟨a1, a2, a3, t1, t2, ⟨a6, ?_⟩, ?_⟩
  · unfold hC; rw [t1, t2]
    split
    · split <;> decide
    · decide
  · rw [a7]
    split
    · rfl
    · split <;> rfl
