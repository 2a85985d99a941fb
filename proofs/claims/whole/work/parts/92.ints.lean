/-! ===== AN INT IS WRITTEN ===== -/
def abI (α : ab_A) (o j : Nat) (v : Int32) : ab_A := (α.1, α.2.1, fun p i => if p = o ∧ i = j then v else aI α p i, α.2.2.2)
theorem gc_wi {mem : Nat → Int32} {hf base ob free low scan tend nh : Nat} {α : ab_A} {ad od : Nat → Nat} {Mv Mk Sn : List Nat} {brf : Nat → Nat → Nat} (I : gc_I mem hf base ob free low scan tend nh α ad od Mv Mk Sn brf)
    {o j : Nat} {v : Int32} (ho : o ∈ Mv ∨ o ∈ Mk) (hj : j < aP α o) : gc_I (upd mem (ad o + 1 + aT α o + j) v) hf base ob free low scan tend nh (abI α o j v) ad od Mv Mk Sn brf := by
  have F := gc_free_le I
  have hCo : aC α o = 1 + aT α o + aP α o := rfl
  have inj := fun {p i : Nat} (hp : p ∈ Mv ∨ p ∈ Mk) (hi : i < aC α p) (h : ad p + i = ad o + (1 + aT α o + j)) => gc_inj I hp ho hi (show 1 + aT α o + j < aC α o by omega) h
  have hx := gc_half I ho (i := 1 + aT α o + j) (by omega)
  obtain ⟨⟨h1, h2, h3⟩, ⟨z1, z2, z3, z4, n1, n2, n3, s1, s2, s3⟩, c1, c2, sc, ⟨o1, o2, o3, o4, o5⟩, w1, w2, w3, w4, w5⟩ := I
  have hso : ∀ p, p ∈ Sn → p ∉ Mv → p ≠ o := by
    intro p h4 h5 z
    subst z
    rcases ho with ho | ho
    · exact h5 ho
    · exact s2 p ho h4
  have kO : ∀ x, ob ≤ x → x < ob + hf → upd mem (ad o + 1 + aT α o + j) v x = mem x := fun x h4 h5 => pk_un (by omega)
  have kN : ∀ p i, p ∈ Mv ∨ p ∈ Mk → i < aC α p → ¬ (p = o ∧ i = 1 + aT α o + j) → upd mem (ad o + 1 + aT α o + j) v (ad p + i) = mem (ad p + i) := fun p i hp hi hne => pk_un (fun z => hne (inj hp hi (by omega)))
  have kT : ∀ p i, p ∈ Mv ∨ p ∈ Mk → i < aT α p → upd mem (ad o + 1 + aT α o + j) v (ad p + 1 + i) = mem (ad p + 1 + i) := fun p i hp hi => by
    have hC : aC α p = 1 + aT α p + aP α p := rfl
    rw [show ad p + 1 + i = ad p + (1 + i) by omega, kN p _ hp (by omega) (fun z => by obtain ⟨rfl, z⟩ := z; omega)]
  refine ⟨⟨h1, h2, h3⟩, ⟨z1, z2, z3, z4, n1, n2, n3, s1, s2, s3⟩, c1, c2, sc, ⟨o1, o2, ?_, ?_, o5⟩, ?_, ?_, ?_, ?_, ?_⟩
  · intro p hp
    have b := o1 p (s1 p hp)
    have : aC α p = 1 + aT α p + aP α p := rfl
    rw [kO _ (by omega) (by omega)]
    exact o3 p hp
  · intro p hp hn
    have b := o1 p hp
    have hC : aC α p = 1 + aT α p + aP α p := rfl
    obtain ⟨a1, a2, a3⟩ := o4 p hp hn
    refine ⟨by rw [kO _ (by omega) (by omega)]; exact a1, fun i hi => ?_, fun i hi => ?_⟩
    · have hi : i < aT α p := hi
      rw [kO _ (by omega) (by omega)]
      exact a2 i hi
    · have hi : i < aP α p := hi
      show upd mem (ad o + 1 + aT α o + j) v (od p + 1 + aT α p + i) = (if p = o ∧ i = j then v else aI α p i)
      rw [kO _ (by omega) (by omega), if_neg (fun z => hso p hp hn z.1)]
      exact a3 i hi
  · intro p hp
    have hC : aC α p = 1 + aT α p + aP α p := rfl
    obtain ⟨a1, a2⟩ := w1 p hp
    refine ⟨?_, fun i hi => ?_⟩
    · rw [show ad p = ad p + 0 from rfl, kN p 0 hp (by omega) (by omega)]
      exact a1
    · have hi : i < aP α p := hi
      show upd mem (ad o + 1 + aT α o + j) v (ad p + 1 + aT α p + i) = (if p = o ∧ i = j then v else aI α p i)
      by_cases hz : p = o ∧ i = j
      · obtain ⟨rfl, rfl⟩ := hz
        rw [pk_us, if_pos ⟨rfl, rfl⟩]
      · rw [if_neg hz, show ad p + 1 + aT α p + i = ad p + (1 + aT α p + i) by omega, kN p _ hp (by omega) (fun z => hz ⟨z.1, by obtain ⟨rfl, z⟩ := z; omega⟩), show ad p + (1 + aT α p + i) = ad p + 1 + aT α p + i by omega]
        exact a2 i hi
  · intro p i hp hi
    rw [kT p i (Or.inr hp) hi]; exact w2 p i hp hi
  · intro p i hp hi hs
    rw [kT p i (Or.inl hp) hi]; exact w3 p i hp hi hs
  · intro p i hp hi
    rw [kT p i (Or.inl hp) hi]; exact w4 p i hp hi
  · intro p i hp hi hne
    rw [kT p i (Or.inl hp) hi]; exact w5 p i hp hi hne
theorem gm_set {κ : sh_K} {σ : sh_S} {α : ab_A} {h k made beg R : Nat} {U : Nat → Prop} (G : gc_U κ σ α h k made beg R U) {o j : Nat} {v : Int32} (ho : o < 8) (hx : aR α o ≠ 0) (hj : j < aP α (aR α o)) :
    gc_U κ (uC σ (sh_write κ σ.1 (sh_reg σ (nI o) + 1 + nI (aT α (aR α o)) + nI j) v)) (abI α (aR α o) j v) h k made beg R U := by
  obtain ⟨g1, base, ob, free, low, scan, tend, nh, ad, od, Mv, Mk, Sn, brf, N, I, hr, hB, e1, e2, hp, hR, hq, hU⟩ := G
  obtain ⟨-, -, -, -, k1, -, -, k4, -⟩ := id g1
  have hm := (hr o ho).2.resolve_left hx
  have hy := gc_half I hm (i := 1 + aT α (aR α o) + j) (by have : aC α (aR α o) = 1 + aT α (aR α o) + aP α (aR α o) := rfl; omega)
  have h20 := I.1.1
  rw [gm_cell (κ := κ) I hr ho, nI_add]
  have I' := gc_wi (v := v) I hm hj
  refine gm_pack (σ' := uC σ (sh_write κ σ.1 (nI (ad (aR α o) + 1 + aT α (aR α o) + j)) v)) g1 I hB e1 e2 hp hR hq hU N ?_ gc_ext.rf rfl hr
  show gc_I (sh_write κ σ.1 (nI (ad (aR α o) + 1 + aT α (aR α o) + j)) v).2.2.1 _ _ _ _ _ _ _ _ _ _ _ _ _ _ _
  rw [gc_writeI k4 (by omega) (by omega) (by omega)]
  exact I'
