/-! ===== REACHED; THE INVARIANT BETWEEN CALLS; THE RULE OF MAKING ===== -/
def ab_cl (α : ab_A) (P : Nat → Prop) : Prop := (∀ t, t < 8 → aR α t ≠ 0 → P (aR α t)) ∧ ∀ o j, P o → j < aT α o → aF α o j ≠ 0 → P (aF α o j)
def ab_reach (α : ab_A) (o : Nat) : Prop := ∀ P : Nat → Prop, ab_cl α P → P o
def ab_R (α : ab_A) (Sn : List Nat) : Prop := Sn.Nodup ∧ ∀ o, o ∈ Sn ↔ ab_reach α o
theorem ab_reach_cl (α : ab_A) : ab_cl α (ab_reach α) := ⟨fun t ht hne P hP => hP.1 t ht hne, fun o j ho hj hne P hP => hP.2 o j (ho P hP) hj hne⟩
/-- every thing of the cycle was reached from what has been moved already -/
def gc_B (α : ab_A) (Mv Sn : List Nat) (brf : Nat → Nat → Nat) : Prop := ∀ P : Nat → Prop, (∀ o, o ∈ Mv → P o) → (∀ o j, P o → o ∈ Sn → j < aT α o → brf o j ≠ 0 → P (brf o j)) → ∀ o, o ∈ Sn → P o
theorem gc_B.mono {α α' : ab_A} {Mv Mv' Sn : List Nat} {brf : Nat → Nat → Nat} (h : gc_B α Mv Sn brf) (hM : ∀ o, o ∈ Mv → o ∈ Mv') (hT : ∀ o, o ∈ Sn → aT α' o = aT α o) : gc_B α' Mv' Sn brf :=
  fun P h1 h2 o ho => h P (fun q hq => h1 q (hM q hq)) (fun q j hq hs hj hne => h2 q j hq hs (by rw [hT q hs]; exact hj) hne) o ho
/-- all has been gone through: all is moved -/
theorem gc_all {mem : Nat → Int32} {hf base ob free low scan tend nh : Nat} {α : ab_A} {ad od : Nat → Nat} {Mv Mk Sn : List Nat} {brf : Nat → Nat → Nat} (I : gc_I mem hf base ob free low scan tend nh α ad od Mv Mk Sn brf) (hB : gc_B α Mv Sn brf) (hs : scan = free) : ∀ o, o ∈ Sn → o ∈ Mv := by
  have F := gc_free_le I
  obtain ⟨-, ⟨-, -, -, -, -, -, -, s1, -⟩, c1, -, -, -, -, -, -, -, w5⟩ := I
  refine hB (· ∈ Mv) (fun o h => h) (fun o j ho _ hj hne => ?_)
  rcases w5 o j ho hj hne with h | ⟨h, -⟩
  · exact h
  · have := gc_chain_in c1 ho
    have hC : aC α o = 1 + aT α o + aP α o := rfl
    omega
/-- the class between two calls: h is H, k is k; made, beg and R as the document has them -/
def gc_G (κ : sh_K) (σ : sh_S) (α : ab_A) (h k made beg R : Nat) : Prop :=
  (1024 ≤ h ∧ h ≤ 60000 ∧ 1 ≤ k ∧ k ≤ 64 ∧ kHalf κ = nI (2 * h + 64) ∧ kK κ = nI k ∧ kLim κ = nI (h * k / (k + 1)) ∧ kLast κ = nI (2 * (2 * h + 64)) ∧ kAl κ = nI (700 * k + 200)) ∧
  ∃ (base ob free low scan tend nh : Nat) (ad od : Nat → Nat) (Mv Mk Sn : List Nat) (brf : Nat → Nat → Nat),
    gc_N σ base free low scan tend nh made beg ∧ gc_I (sMem σ) (2 * h + 64) base ob free low scan tend nh α ad od Mv Mk Sn brf ∧ (∀ t, t < 8 → gc_bw ad Mv Mk (aR α t) (sReg σ t)) ∧ gc_B α Mv Sn brf ∧
    made = gc_sum (aC α) Mk ∧ R = gc_sum (aC α) Sn ∧ (scan = free ∨ base + k * made ≤ scan) ∧ R < h + 16 ∧ (k * made < R + 16 * k ∨ R + made ≤ h * k / (k + 1))
theorem gc_doneI {κ : sh_K} {σ : sh_S} {α : ab_A} {h k made beg R : Nat} (G : gc_G κ σ α h k made beg R) : sh_done κ σ = (if R ≤ k * made then 1 else 0) ∧ (R ≤ k * made → sh_moved σ = nI R ∧ sScan σ = sFree σ) := by
  obtain ⟨⟨h1, h2, h3, h4, k1, k2, k3, k4, k5⟩, base, ob, free, low, scan, tend, nh, ad, od, Mv, Mk, Sn, brf, N, I, hr, hB, e1, e2, hp, hR, hq⟩ := G
  have F := gc_free_le I
  obtain ⟨b1, b2, b3⟩ := I.1
  obtain ⟨a1, a2, a3, a4, a5, a6, a7, a8⟩ := id N
  have em : sh_moved σ = nI (free - base) := by unfold sh_moved; rw [a4, a3, pk_sub (by omega)]
  have hkm : k * made ≤ 64 * (2 * h + 64) := Nat.mul_le_mul h4 (by omega)
  have hall : scan = free → free - base = R := by
    intro hs
    have q := gc_all I hB hs
    have := gc_sum_eq (cz := aC α) I.2.1.2.2.2.2.1 I.2.1.2.2.2.2.2.2.1 (fun o => ⟨I.2.1.2.2.2.2.2.2.2.1 o, q o⟩)
    omega
  unfold sh_done
  rw [a6, a4, em, k2, a1, pk_mul]
  by_cases hs : scan = free
  · have hm := hall hs
    rw [if_pos (by rw [hs]), hm]
    by_cases hd : R ≤ k * made
    · rw [if_neg (nI_nlt hd (by omega)), if_pos hd]
      exact ⟨rfl, fun _ => ⟨rfl, by rw [hs]⟩⟩
    · rw [if_pos (nI_lt (by omega) (by omega)), if_neg hd]
      exact ⟨rfl, fun z => absurd z hd⟩
  · rw [if_neg (fun z => hs ((nI_eq (by omega) (by omega)).mp z))]
    have hd : ¬ R ≤ k * made := by omega
    rw [if_neg hd]
    exact ⟨rfl, fun z => absurd z hd⟩
theorem gc_arith {h k R made : Nat} (hk : 1 ≤ k) (h1 : R ≤ h * k / (k + 1)) (h2 : k * made < R + 16 * k ∨ R + made ≤ h * k / (k + 1)) : R + made < h + 16 := by
  have hl : h * k / (k + 1) ≤ h := by
    have : h * k / (k + 1) * (k + 1) ≤ h * k := Nat.div_mul_le_self _ _
    have q : h * k / (k + 1) * k ≤ h * k / (k + 1) * (k + 1) := Nat.mul_le_mul_left _ (by omega)
    exact Nat.le_of_mul_le_mul_right (Nat.le_trans q this) (by omega)
  rcases h2 with h2 | h2
  · have a : R * (k + 1) ≤ h * k := Nat.le_trans (Nat.mul_le_mul_right _ h1) (Nat.div_mul_le_self _ _)
    have b : k * (R + made) < k * (h + 16) := by
      rw [Nat.mul_add, Nat.mul_add]
      have e : R * (k + 1) = k * R + R := by rw [Nat.mul_add, Nat.mul_comm R k]; omega
      have e2 : h * k = k * h := Nat.mul_comm _ _
      omega
    exact Nat.lt_of_mul_lt_mul_left b
  · omega
