/-! ===== THE START: both sides are alike ===== -/
abbrev sh_K0 (z la : Nat) (k : Int32) : sh_K := (2 * nI z + 64, sh_k0 k, nI z * sh_k0 k / (sh_k0 k + 1), nI la, 700 * sh_k0 k + 200)
abbrev sh_S0 (z : Nat) : sh_S := ((0, 1, (fun _ => 0), []), 0, 0, 1, 1, 1 + (2 * nI z + 64), 1, 1, 1, (fun _ => 0))
abbrev ab_0 : ab_A := (fun _ => 0, fun _ _ => 0, fun _ _ => 0, fun _ => 0)
theorem h0_eq (h : Int32) : ∃ z, 1024 ≤ z ∧ z ≤ 60000 ∧ sh_h0 h = nI z ∧ rm_h0 h = nI z := by
  unfold sh_h0 rm_h0
  by_cases c0 : h < 0
  · have c1 : h < 60000 := by rw [Int32.lt_iff_toInt_lt] at c0 ⊢; exact Int.lt_trans c0 (by decide)
    have c2 : ¬ 1024 < h := by rw [Int32.lt_iff_toInt_lt] at c0 ⊢; exact Int.not_lt.mpr (Int.le_of_lt (Int.lt_trans c0 (by decide)))
    have c3 : ¬ 1024 ≤ h := by rw [Int32.lt_iff_toInt_lt] at c0; rw [Int32.le_iff_toInt_le]; exact Int.not_le.mpr (Int.lt_trans c0 (by decide))
    rw [if_pos c1, if_neg c2, if_neg c3]
    exact ⟨1024, by decide, by decide, rfl, rfl⟩
  · obtain ⟨j, hj, rfl⟩ := nI_of c0
    by_cases c1 : j < 60000
    · rw [if_pos (show nI j < 60000 from nI_lt (b := 60000) c1 (by decide)), if_pos (show nI j ≤ 60000 from nI_le (b := 60000) (by omega) (by decide))]
      by_cases c2 : 1024 < j
      · rw [if_pos (show 1024 < nI j from nI_lt (a := 1024) c2 hj), if_pos (show 1024 ≤ nI j from nI_le (a := 1024) (by omega) hj)]
        exact ⟨j, by omega, by omega, rfl, rfl⟩
      · rw [if_neg (show ¬ 1024 < nI j from nI_nlt (a := 1024) (by omega) (by decide))]
        by_cases c3 : 1024 ≤ j
        · rw [if_pos (show 1024 ≤ nI j from nI_le (a := 1024) (by omega) hj)]
          exact ⟨1024, by decide, by decide, rfl, by rw [show j = 1024 by omega]⟩
        · rw [if_neg (show ¬ 1024 ≤ nI j from nI_ge (b := 1024) (by omega) (by decide))]
          exact ⟨1024, by decide, by decide, rfl, rfl⟩
    · rw [if_neg (show ¬ nI j < 60000 from nI_nlt (b := 60000) (by omega) hj), if_pos (show (1024 : Int32) < 60000 by decide), if_pos (show 1024 ≤ nI j from nI_le (a := 1024) (by omega) hj)]
      by_cases c3 : j ≤ 60000
      · rw [if_pos (show nI j ≤ 60000 from nI_le (b := 60000) c3 (by decide))]
        exact ⟨60000, by decide, by decide, rfl, by rw [show j = 60000 by omega]⟩
      · rw [if_neg (show ¬ nI j ≤ 60000 from nI_ge (a := 60000) (by omega) hj)]
        exact ⟨60000, by decide, by decide, rfl, rfl⟩
theorem k0_eq (k : Int32) : ∃ z, 1 ≤ z ∧ z ≤ 64 ∧ sh_k0 k = nI z ∧ rm_k0 k = nI z := by
  unfold sh_k0 rm_k0
  by_cases c0 : k < 0
  · have c1 : k < 64 := by rw [Int32.lt_iff_toInt_lt] at c0 ⊢; exact Int.lt_trans c0 (by decide)
    have c2 : ¬ 1 < k := by rw [Int32.lt_iff_toInt_lt] at c0 ⊢; exact Int.not_lt.mpr (Int.le_of_lt (Int.lt_trans c0 (by decide)))
    have c3 : ¬ 1 ≤ k := by rw [Int32.lt_iff_toInt_lt] at c0; rw [Int32.le_iff_toInt_le]; exact Int.not_le.mpr (Int.lt_trans c0 (by decide))
    rw [if_pos c1, if_neg c2, if_neg c3]
    exact ⟨1, by decide, by decide, rfl, rfl⟩
  · obtain ⟨j, hj, rfl⟩ := nI_of c0
    by_cases c1 : j < 64
    · rw [if_pos (show nI j < 64 from nI_lt (b := 64) c1 (by decide)), if_pos (show nI j ≤ 64 from nI_le (b := 64) (by omega) (by decide))]
      by_cases c2 : 1 < j
      · rw [if_pos (show 1 < nI j from nI_lt (a := 1) c2 hj), if_pos (show 1 ≤ nI j from nI_le (a := 1) (by omega) hj)]
        exact ⟨j, by omega, by omega, rfl, rfl⟩
      · rw [if_neg (show ¬ 1 < nI j from nI_nlt (a := 1) (by omega) (by decide))]
        by_cases c3 : 1 ≤ j
        · rw [if_pos (show 1 ≤ nI j from nI_le (a := 1) (by omega) hj)]
          exact ⟨1, by decide, by decide, rfl, by rw [show j = 1 by omega]⟩
        · rw [if_neg (show ¬ 1 ≤ nI j from nI_ge (b := 1) (by omega) (by decide))]
          exact ⟨1, by decide, by decide, rfl, rfl⟩
    · rw [if_neg (show ¬ nI j < 64 from nI_nlt (b := 64) (by omega) hj), if_pos (show (1 : Int32) < 64 by decide), if_pos (show 1 ≤ nI j from nI_le (a := 1) (by omega) hj)]
      by_cases c3 : j ≤ 64
      · rw [if_pos (show nI j ≤ 64 from nI_le (b := 64) c3 (by decide))]
        exact ⟨64, by decide, by decide, rfl, by rw [show j = 64 by omega]⟩
      · rw [if_neg (show ¬ nI j ≤ 64 from nI_ge (a := 64) (by omega) hj)]
        exact ⟨64, by decide, by decide, rfl, rfl⟩
theorem lim_eq {z k : Nat} (h2 : z ≤ 60000) (h3 : 1 ≤ k) (h4 : k ≤ 64) : nI z * nI k / (nI k + 1) = nI (z * k / (k + 1)) := by
  have : z * k ≤ 60000 * 64 := Nat.mul_le_mul h2 h4
  rw [pk_mul, nI_1, pk_div (by omega) (by omega) (by omega)]
theorem gx_0 {z k la : Nat} {kk : Int32} {U : Nat → Prop} (h1 : 1024 ≤ z) (h2 : z ≤ 60000) (h3 : 1 ≤ k) (h4 : k ≤ 64) (ek : sh_k0 kk = nI k) (hla : 2 * (2 * z + 64) = la) : gc_X (sh_K0 z la kk) (sh_S0 z) ab_0 z k 0 0 0 U (fun _ _ => False) (700 * k + 200) := by
  have e1 : (2 : Int32) * nI z + 64 = nI (2 * z + 64) := by rw [show (2 : Int32) = nI 2 from rfl, pk_mul, show (64 : Int32) = nI 64 from rfl, nI_add]
  have e2 : (1 : Int32) + (2 * nI z + 64) = nI (1 + (2 * z + 64)) := by rw [e1, show (1 : Int32) = nI 1 from rfl, nI_add]
  have e3 : (700 : Int32) * sh_k0 kk + 200 = nI (700 * k + 200) := by rw [ek, show (700 : Int32) = nI 700 from rfl, pk_mul, show (200 : Int32) = nI 200 from rfl, nI_add]
  have hC0 : aC ab_0 = aC ab_0 := rfl
  refine ⟨⟨h1, h2, h3, h4, e1, ek, ?_, ?_, e3⟩, ⟨0, by omega, rfl, rfl, e3, by omega⟩, 1, 1 + (2 * z + 64), 1, 1 + (2 * z + 64), 1, 1, 1, (fun _ => 0), (fun _ => 0), [], [], [], (fun _ _ => 0), ⟨rfl, rfl, rfl, rfl, e2, rfl, rfl, rfl⟩, ?_, fun t _ => ⟨rfl, Or.inl rfl⟩, fun P _ _ o ho => by simp at ho, rfl, rfl, Or.inl rfl, by omega, Or.inl (by omega), fun o ho => by simp at ho, fun _ _ z => z.elim⟩
  · show nI z * sh_k0 kk / (sh_k0 kk + 1) = _
    rw [ek, lim_eq h2 h3 h4]
  · show nI la = _
    rw [hla]
  · refine ⟨⟨by omega, Or.inl ⟨rfl, rfl⟩, Nat.zero_le _⟩, ⟨rfl, rfl, by simp, by simp, List.nodup_nil, List.nodup_nil, List.nodup_nil, fun o ho => by simp at ho, fun o ho => by simp at ho, fun o ho => by simp at ho⟩, rfl, rfl, ⟨[], [], rfl, rfl, Or.inl rfl⟩, ⟨fun o ho => by simp at ho, fun o q ho => by simp at ho, fun o ho => by simp at ho, fun o ho => by simp at ho, fun o j ho => by simp at ho⟩, fun o ho => by simp at ho, fun o j ho => by simp at ho, fun o j ho => by simp at ho, fun o j ho => by simp at ho, fun o j ho => by simp at ho⟩
theorem jj_start {z k la : Nat} {kk : Int32} (h1 : 1024 ≤ z) (h2 : z ≤ 60000) (h3 : 1 ≤ k) (h4 : k ≤ 64) (ek : sh_k0 kk = nI k) (hla : 2 * (2 * z + 64) = la) : jj (sh_K0 z la kk) (sh_S0 z) rm_S0 z k 0 := by
  refine ⟨ab_0, (fun _ => 0), 0, 0, 0, 0, [], gx_0 h1 h2 h3 h4 ek hla, ⟨⟨rfl, by decide, fun t _ => ⟨0, by omega, rfl⟩, fun o ho => by omega, fun o f r ho => by omega⟩, fun t _ => ⟨rfl, Or.inl rfl⟩, fun o hL => absurd hL.1 (by omega)⟩, ⟨rfl, rfl, rfl, rfl, ⟨fun i q hi => by simp at hi, List.nodup_nil, fun q hq => by simp at hq⟩, fun _ => rfl⟩, by omega, by omega⟩
