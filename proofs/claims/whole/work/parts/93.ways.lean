/-! ===== WAYS THROUGH AN ARRAY'S NODES ===== -/
def ab_slot (i : Nat) : Nat → Nat
  | 0 => i % 15
  | 1 => i / 15 % 15
  | _ => i / 225 % 15
theorem ab_slot_lt (i d : Nat) : ab_slot i d < 15 := by
  unfold ab_slot
  split <;> omega
theorem ab_slotI {i d : Nat} (hi : i < 2 ^ 20) (hd : d ≤ 2) : sh_slot (nI i) (nI d) = nI (ab_slot i d) := by
  have key : ∀ c : Nat, c < 2 ^ 31 → nI c - nI c / 15 * 15 = nI (c % 15) := fun c hc => pk_rem (d := 15) hc (by decide) (by decide)
  have hcase : d = 0 ∨ d = 1 ∨ d = 2 := by omega
  unfold sh_slot
  rcases hcase with rfl | rfl | rfl
  · rw [if_pos (show nI 0 = 0 from rfl)]
    exact key i (by omega)
  · rw [if_neg (show ¬ nI 1 = 0 by decide), if_pos (show nI 1 = 1 from rfl), show (15 : Int32) = nI 15 from rfl, pk_div (by omega) (by decide) (by decide)]
    exact key (i / 15) (by omega)
  · rw [if_neg (show ¬ nI 2 = 0 by decide), if_neg (show ¬ nI 2 = 1 by decide), show (225 : Int32) = nI 225 from rfl, pk_div (by omega) (by decide) (by decide)]
    exact key (i / 225) (by omega)
/-- a node with d levels of children below it -/
def ab_nd (α : ab_A) : Nat → Nat → Prop
  | 0, _ => True
  | d + 1, y => aT α y = 15 ∧ ∀ j, j < 15 → aF α y j = 0 ∨ ab_nd α d (aF α y j)
/-- how far above item i the first child that is nothing stands; 0 where there is none -/
def ab_gap (α : ab_A) (i : Nat) : Nat → Nat → Nat
  | 0, _ => 0
  | d + 1, y => if aF α y (ab_slot i (d + 1)) = 0 then d + 1 else ab_gap α i d (aF α y (ab_slot i (d + 1)))
/-- the node at level lv of the way to item i -/
def ab_way (α : ab_A) (i lv : Nat) : Nat → Nat → Nat
  | 0, y => y
  | d + 1, y => if d + 1 ≤ lv then y else ab_way α i lv d (aF α y (ab_slot i (d + 1)))
theorem gc_uF {σ σ1 σ2 : sh_S} {f1 f2 : Nat} (h1 : σ1.2 = (uFree σ (nI f1)).2) (h2 : σ2.2 = (uFree σ1 (nI f2)).2) : σ2.2 = (uFree σ (nI f2)).2 := by
  obtain ⟨c1, m1⟩ := σ1
  obtain ⟨c2, m2⟩ := σ2
  have h1 : m1 = (uFree σ (nI f1)).2 := h1
  subst h1
  exact h2
theorem gm_gapN {κ : sh_K} {hf base ob low scan tend nh i made beg : Nat} {α : ab_A} {od : Nat → Nat} {Mk Sn : List Nat} {brf : Nat → Nat → Nat} (k1 : kHalf κ = nI hf) (k2 : kLast κ = nI (2 * hf)) (hi : i < 2 ^ 20) :
    ∀ (d n : Nat) (σ : sh_S) (free : Nat) (ad : Nat → Nat) (Mv : List Nat) (y : Nat), d ≤ n → d ≤ 2 → gc_N σ base free low scan tend nh made beg → gc_I (sMem σ) hf base ob free low scan tend nh α ad od Mv Mk Sn brf → y ∈ Mv ∨ y ∈ Mk → ab_nd α d y →
    ∃ (ad' : Nat → Nat) (Mv' : List Nat) (free' : Nat), (sh_gapN κ σ (nI i) (nI (ad y)) (nI d) n).2.2 = (uFree σ (nI free')).2 ∧ gc_I (sMem (sh_gapN κ σ (nI i) (nI (ad y)) (nI d) n).2) hf base ob free' low scan tend nh α ad' od Mv' Mk Sn brf ∧ gc_ext ad ad' Mv Mv' Mk ∧ (sh_gapN κ σ (nI i) (nI (ad y)) (nI d) n).1 = nI (ab_gap α i d y)
  | 0, n, σ, free, ad, Mv, y, hn, h2, N, I, hy, ht => by
    have e : sh_gapN κ σ (nI i) (nI (ad y)) (nI 0) n = (0, σ) := by
      cases n with
      | zero => rfl
      | succ n => rw [sh_gapN]; simp only [if_pos (show nI 0 ≤ 0 by decide)]
    rw [e]
    exact ⟨ad, Mv, free, by rw [← N.2.2.2.1], I, gc_ext.rf, rfl⟩
  | d + 1, 0, σ, free, ad, Mv, y, hn, h2, N, I, hy, ht => by omega
  | d + 1, n + 1, σ, free, ad, Mv, y, hn, h2, N, I, hy, ht => by
    have hs := ab_slot_lt i (d + 1)
    have hj : ab_slot i (d + 1) < aT α y := by rw [ht.1]; exact hs
    obtain ⟨ad', Mv', free', I', b', e', x', -⟩ := gc_follow k1 k2 I N.2.2.1 N.2.2.2.1 hy hj
    obtain ⟨N', -⟩ := N.free e'
    have hc : nI (ad y) + 1 + sh_slot (nI i) (nI (d + 1)) = nI (ad y + 1 + ab_slot i (d + 1)) := by rw [ab_slotI hi h2, nI_1, nI_add]
    rw [sh_gapN]
    rw [hc]
    generalize sh_follow κ σ (nI (ad y + 1 + ab_slot i (d + 1))) = q at I' b' e' N' ⊢
    have hlv : ¬ nI (d + 1) ≤ 0 := nI_nle (by omega) (by omega)
    have h20 := I.1.1
    by_cases hz : aF α y (ab_slot i (d + 1)) = 0
    · have hq0 : q.1 = 0 := by rw [b'.1, hz, I'.2.1.1, nI_0]
      simp only [if_neg hlv, if_pos hq0]
      refine ⟨ad', Mv', free', e', I', x', ?_⟩
      rw [ab_gap, if_pos hz]
    · have hm := b'.2.resolve_left hz
      have hyy := gc_half I' hm (i := 0) (by have : aC α (aF α y (ab_slot i (d + 1))) = 1 + aT α (aF α y (ab_slot i (d + 1))) + aP α (aF α y (ab_slot i (d + 1))) := rfl; omega)
      have hq0 : ¬ q.1 = 0 := by rw [b'.1]; exact nI_ne0 (by omega) (by omega)
      simp only [if_neg hlv, if_neg hq0]
      have hp1 : nI (d + 1) + (-1) = nI d := pk_m1 d
      rw [hp1, b'.1]
      obtain ⟨ad2, Mv2, free2, e2, I2, x2, r2⟩ := gm_gapN k1 k2 hi d n q.2 free' ad' Mv' (aF α y (ab_slot i (d + 1))) (by omega) (by omega) N' I' hm ((ht.2 _ hs).resolve_left hz)
      refine ⟨ad2, Mv2, free2, gc_uF e' e2, I2, x'.tr x2, ?_⟩
      rw [r2, ab_gap, if_neg hz]
