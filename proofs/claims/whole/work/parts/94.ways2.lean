/-! ===== THE WAY TO A CELL AT A LEVEL, where no child above it is nothing ===== -/
def ab_wk (α : ab_A) (i lv : Nat) : Nat → Nat → Prop
  | 0, _ => True
  | d + 1, y => d + 1 ≤ lv ∨ (aF α y (ab_slot i (d + 1)) ≠ 0 ∧ ab_wk α i lv d (aF α y (ab_slot i (d + 1))))
theorem ab_wk_of {α : ab_A} {i lv : Nat} : ∀ (d y : Nat), ab_gap α i d y ≤ lv → ab_wk α i lv d y
  | 0, _, _ => trivial
  | d + 1, y, h => by
    rw [ab_gap] at h
    by_cases hz : aF α y (ab_slot i (d + 1)) = 0
    · rw [if_pos hz] at h
      exact Or.inl h
    · rw [if_neg hz] at h
      exact Or.inr ⟨hz, ab_wk_of d _ h⟩
theorem gm_wayN {κ : sh_K} {hf base ob low scan tend nh i lv made beg : Nat} {α : ab_A} {od : Nat → Nat} {Mk Sn : List Nat} {brf : Nat → Nat → Nat} (k1 : kHalf κ = nI hf) (k2 : kLast κ = nI (2 * hf)) (hi : i < 2 ^ 20) (hlv : lv ≤ 2) :
    ∀ (d n : Nat) (σ : sh_S) (free : Nat) (ad : Nat → Nat) (Mv : List Nat) (y : Nat), d ≤ n → d ≤ 2 → gc_N σ base free low scan tend nh made beg → gc_I (sMem σ) hf base ob free low scan tend nh α ad od Mv Mk Sn brf → y ∈ Mv ∨ y ∈ Mk → ab_nd α d y → ab_wk α i lv d y →
    ∃ (ad' : Nat → Nat) (Mv' : List Nat) (free' : Nat), (sh_wayN κ σ (nI i) (nI lv) (nI (ad y)) (nI d) n).2.2 = (uFree σ (nI free')).2 ∧ gc_I (sMem (sh_wayN κ σ (nI i) (nI lv) (nI (ad y)) (nI d) n).2) hf base ob free' low scan tend nh α ad' od Mv' Mk Sn brf ∧ gc_ext ad ad' Mv Mv' Mk ∧ (sh_wayN κ σ (nI i) (nI lv) (nI (ad y)) (nI d) n).1 = nI (ad' (ab_way α i lv d y)) ∧ (ab_way α i lv d y ∈ Mv' ∨ ab_way α i lv d y ∈ Mk)
  | 0, n, σ, free, ad, Mv, y, hn, h2, N, I, hy, ht, hk => by
    have e : sh_wayN κ σ (nI i) (nI lv) (nI (ad y)) (nI 0) n = (nI (ad y), σ) := by
      cases n with
      | zero => rfl
      | succ n => rw [sh_wayN]; simp only [if_pos (nI_le (Nat.zero_le lv) (by omega))]
    rw [e]
    exact ⟨ad, Mv, free, by rw [← N.2.2.2.1], I, gc_ext.rf, rfl, hy⟩
  | d + 1, 0, σ, free, ad, Mv, y, hn, h2, N, I, hy, ht, hk => by omega
  | d + 1, n + 1, σ, free, ad, Mv, y, hn, h2, N, I, hy, ht, hk => by
    by_cases hd : d + 1 ≤ lv
    · have e : sh_wayN κ σ (nI i) (nI lv) (nI (ad y)) (nI (d + 1)) (n + 1) = (nI (ad y), σ) := by
        rw [sh_wayN]; simp only [if_pos (nI_le hd (by omega))]
      rw [e, ab_way, if_pos hd]
      exact ⟨ad, Mv, free, by rw [← N.2.2.2.1], I, gc_ext.rf, rfl, hy⟩
    · obtain ⟨hz, hk2⟩ := hk.resolve_left hd
      have hs := ab_slot_lt i (d + 1)
      have hj : ab_slot i (d + 1) < aT α y := by rw [ht.1]; exact hs
      obtain ⟨ad', Mv', free', I', b', e', x', -⟩ := gc_follow k1 k2 I N.2.2.1 N.2.2.2.1 hy hj
      obtain ⟨N', -⟩ := N.free e'
      have hc : nI (ad y) + 1 + sh_slot (nI i) (nI (d + 1)) = nI (ad y + 1 + ab_slot i (d + 1)) := by rw [ab_slotI hi h2, nI_1, nI_add]
      rw [sh_wayN, hc, ab_way, if_neg hd]
      generalize sh_follow κ σ (nI (ad y + 1 + ab_slot i (d + 1))) = q at I' b' e' N' ⊢
      have hl : ¬ nI (d + 1) ≤ nI lv := nI_ge (by omega) (by omega)
      simp only [if_neg hl]
      have hp1 : nI (d + 1) + (-1) = nI d := pk_m1 d
      rw [hp1, b'.1]
      have hm := b'.2.resolve_left hz
      obtain ⟨ad2, Mv2, free2, e2, I2, x2, r2, m2⟩ := gm_wayN k1 k2 hi hlv d n q.2 free' ad' Mv' (aF α y (ab_slot i (d + 1))) (by omega) (by omega) N' I' hm ((ht.2 _ hs).resolve_left hz) hk2
      exact ⟨ad2, Mv2, free2, gc_uF e' e2, I2, x'.tr x2, r2, m2⟩
