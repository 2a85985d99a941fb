/-! ===== TOUCHES, where the invariant holds ===== -/
section TC2
variable {κ : sh_K} {σ : sh_S} {hf base ob free low scan tend nh made beg : Nat} {α : ab_A} {ad od : Nat → Nat} {Mv Mk Sn : List Nat} {brf : Nat → Nat → Nat}
theorem gc_h16 (k1 : kHalf κ = nI hf) (k2 : kLast κ = nI (2 * hf)) (I : gc_I (sMem σ) hf base ob free low scan tend nh α ad od Mv Mk Sn brf) (hB : sBase σ = nI base) {r : Nat} {w : Int32} (hw : gc_gw ad od Mv Mk Sn r w) :
    ¬ sh_old κ σ w = 0 → ¬ sh_val κ σ.1 w < 0 → hC (sh_val κ σ.1 w) ≤ 16 := by
  have F := gc_free_le I
  intro ho hv
  rcases hw with hb | ⟨e, hr⟩
  · exfalso
    refine ho ?_
    rw [hb.1]
    have h20 := I.1.1
    have hbs := I.1.2.1
    refine gc_oldNo k1 hB (by omega) ?_
    rcases hb.2 with h | h
    · rw [h]; exact Or.inl I.2.1.1
    · have hy := gc_half I h (i := 0) (by have : aC α r = 1 + aT α r + aP α r := rfl; omega)
      right; omega
  · obtain ⟨⟨h1, h2, h3⟩, ⟨z1, z2, z3, z4, n1, n2, n3, s1, s2, s3⟩, c1, c2, -, ⟨o1, o2, o3, o4, o5⟩, -⟩ := I
    have b := o1 r hr
    have hCr : aC α r = 1 + aT α r + aP α r := rfl
    have ev : sh_val κ σ.1 w = sMem σ (od r) := by rw [e]; exact gc_valI k2 (by omega) (by omega) (by omega)
    by_cases hm : r ∈ Mv
    · exfalso
      have hi := gc_chain_in c1 hm
      rw [ev, o3 r hm] at hv
      exact hv (gc_neg (by omega) (by omega))
    · rw [ev, (o4 r hr hm).1]
      exact (s3 r (Or.inl hr)).2
theorem tc_work1 {al t : Nat} (k1 : kHalf κ = nI hf) (k2 : kLast κ = nI (2 * hf)) (N : gc_N σ base free low scan tend nh made beg) (I : gc_I (sMem σ) hf base ob free low scan tend nh α ad od Mv Mk Sn brf) (hs : scan < free) (h : tc κ al σ.1 t) (hb : t + 35 ≤ al) :
    ∃ t', t' ≤ t + 35 ∧ tc κ al (sh_workStep κ σ).1 t' := by
  have F := gc_free_le I
  obtain ⟨h1, h2, -⟩ := I.1
  obtain ⟨a1, a2, a3, a4, a5, a6, a7, a8⟩ := id N
  have hv : sh_val κ σ.1 (sScan σ) = sMem σ scan := by rw [a6]; exact gc_valI k2 (by omega) (by omega) (by omega)
  have e2 : ∀ τ : sh_S, (sh_ws2 τ).1 = τ.1 := fun τ => by unfold sh_ws2; split <;> rfl
  unfold sh_workStep
  rw [e2, hv]
  have h1t := tc_touch h (by omega)
  by_cases hz : scan = nh
  · refine ⟨t + 1, by omega, ?_⟩
    unfold sh_ws1
    rw [if_pos (show sScan σ = sNh σ by rw [a6, a8, hz])]
    exact h1t
  · obtain ⟨L1, L2, e1, c1, e3⟩ := id I.2.2.2.2.1
    rcases e3 with e3 | ⟨L0, cur, e3, e4, e5, e6⟩
    · exact absurd e3 hz
    have hcur : cur ∈ Mv := by rw [e1, e3]; simp
    have hC : aC α cur = 1 + aT α cur + aP α cur := rfl
    obtain ⟨j, hj⟩ : ∃ j, scan = ad cur + 1 + j := ⟨scan - (ad cur + 1), by omega⟩
    have hw : gc_gw ad od Mv Mk Sn (aF α cur j) (sMem σ scan) := by
      obtain ⟨-, -, -, -, -, -, -, -, -, w4, -⟩ := I
      rw [hj]; exact w4 cur j hcur (by omega)
    obtain ⟨t', q1, q2⟩ := tc_piu (σ := uC σ (sh_touch κ σ.1)) (w := sMem σ scan) h1t (by omega) (gc_h16 (σ := uC σ (sh_touch κ σ.1)) k1 k2 I a3 hw)
    unfold sh_ws1
    rw [if_neg (show ¬ sScan σ = sNh σ by rw [a6, a8]; intro z; exact hz ((nI_eq (by omega) (by omega)).mp z))]
    generalize sh_piu κ (uC σ (sh_touch κ σ.1)) (sMem σ scan) = q at q2 ⊢
    split
    · exact ⟨t', by omega, q2⟩
    · exact ⟨t' + 1, by omega, tc_write q2 (by omega)⟩
end TC2
theorem tc_workN {κ : sh_K} {hf base ob low made beg goal al : Nat} {α : ab_A} {od : Nat → Nat} {Mk Sn : List Nat} {brf : Nat → Nat → Nat} (k1 : kHalf κ = nI hf) (k2 : kLast κ = nI (2 * hf)) (hg : goal < 2 ^ 31) :
    ∀ (n t : Nat) (σ : sh_S) (free scan tend nh : Nat) (ad : Nat → Nat) (Mv : List Nat), gc_N σ base free low scan tend nh made beg → gc_I (sMem σ) hf base ob free low scan tend nh α ad od Mv Mk Sn brf → tc κ al σ.1 t → t + 35 * n ≤ al →
    ∃ t', t' ≤ t + 35 * n ∧ tc κ al (sh_workN κ (nI goal) σ n).1 t'
  | 0, t, σ, free, scan, tend, nh, ad, Mv, N, I, h, hb => ⟨t, by omega, h⟩
  | n + 1, t, σ, free, scan, tend, nh, ad, Mv, N, I, h, hb => by
    have F := gc_free_le I
    obtain ⟨h1, h2, -⟩ := I.1
    obtain ⟨a1, a2, a3, a4, a5, a6, a7, a8⟩ := id N
    rw [sh_workN, a6, a4]
    by_cases hs : scan < free
    · rw [if_pos (nI_lt hs (by omega))]
      by_cases hq : scan < goal
      · rw [if_pos (nI_lt hq (by omega))]
        obtain ⟨t1, q1, q2⟩ := tc_work1 k1 k2 N I hs h (by omega)
        obtain ⟨ad', Mv', free', scan', tend', nh', N', r', x', l1, I'⟩ := gc_work1 k1 k2 N I hs
        obtain ⟨t2, q3, q4⟩ := tc_workN k1 k2 hg n t1 _ _ _ _ _ _ _ N' I' q2 (by omega)
        exact ⟨t2, by omega, q4⟩
      · rw [if_neg (nI_nlt (by omega) (by omega))]
        exact ⟨t, by omega, h⟩
    · rw [if_neg (nI_nlt (by omega) (by omega))]
      exact ⟨t, by omega, h⟩
theorem tc_regsN {κ : sh_K} {hf base ob low scan tend nh made beg al : Nat} {α : ab_A} {od : Nat → Nat} {Mk Sn : List Nat} {brf : Nat → Nat → Nat} (k1 : kHalf κ = nI hf) (k2 : kLast κ = nI (2 * hf)) :
    ∀ (n i t : Nat) (σ : sh_S) (free : Nat) (ad : Nat → Nat) (Mv : List Nat), i + n = 8 → gc_N σ base free low scan tend nh made beg → gc_I (sMem σ) hf base ob free low scan tend nh α ad od Mv Mk Sn brf →
    (∀ u, i ≤ u → u < 8 → gc_gw ad od Mv Mk Sn (aR α u) (sReg σ u)) → tc κ al σ.1 t → t + 33 * n ≤ al → ∃ t', t' ≤ t + 33 * n ∧ tc κ al (sh_regsN κ σ i n).1 t'
  | 0, i, t, σ, free, ad, Mv, hi, N, I, _, h, hb => ⟨t, by omega, h⟩
  | n + 1, i, t, σ, free, ad, Mv, hi, N, I, r2, h, hb => by
    obtain ⟨a1, a2, a3, a4, a5, a6, a7, a8⟩ := id N
    have hw := r2 i (Nat.le_refl _) (by omega)
    obtain ⟨t1, q1, q2⟩ := tc_piu (σ := σ) (w := sReg σ i) h (by omega) (gc_h16 k1 k2 I a3 hw)
    obtain ⟨ad', Mv', free', I', b', e', x'⟩ := gc_piu k1 k2 I a3 a4 hw
    obtain ⟨N', er⟩ := N.free e'
    have N2 : gc_N (uReg (sh_piu κ σ (sReg σ i)).2 (upd (sReg (sh_piu κ σ (sReg σ i)).2) i (sh_piu κ σ (sReg σ i)).1)) base free' low scan tend nh made beg := N'
    rw [sh_regsN]
    obtain ⟨t2, q3, q4⟩ := tc_regsN k1 k2 n (i + 1) t1 (uReg (sh_piu κ σ (sReg σ i)).2 (upd (sReg (sh_piu κ σ (sReg σ i)).2) i (sh_piu κ σ (sReg σ i)).1)) free' ad' Mv' (by omega) N2 I' (fun u h1 h2 => by
      show gc_gw ad' od Mv' Mk Sn (aR α u) (upd (sReg (sh_piu κ σ (sReg σ i)).2) i (sh_piu κ σ (sReg σ i)).1 u)
      rw [pk_un (by omega), er]
      exact x'.gw (r2 u (by omega) h2)) q2 (by omega)
    exact ⟨t2, by omega, q4⟩
