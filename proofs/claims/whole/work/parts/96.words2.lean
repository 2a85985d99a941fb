/-! ===== THE INVARIANT WITH WORDS THAT ARE KEPT (W) AND TOUCHES (at most c) ===== -/
def gc_p (κ : sh_K) (h k : Nat) : Prop := 1024 ≤ h ∧ h ≤ 60000 ∧ 1 ≤ k ∧ k ≤ 64 ∧ kHalf κ = nI (2 * h + 64) ∧ kK κ = nI k ∧ kLim κ = nI (h * k / (k + 1)) ∧ kLast κ = nI (2 * (2 * h + 64)) ∧ kAl κ = nI (700 * k + 200)
def gc_X (κ : sh_K) (σ : sh_S) (α : ab_A) (h k made beg R : Nat) (U : Nat → Prop) (W : Nat → Int32 → Prop) (c : Nat) : Prop :=
  gc_p κ h k ∧ (∃ t, t ≤ c ∧ tc κ (700 * k + 200) σ.1 t) ∧
  ∃ (base ob free low scan tend nh : Nat) (ad od : Nat → Nat) (Mv Mk Sn : List Nat) (brf : Nat → Nat → Nat),
    gc_N σ base free low scan tend nh made beg ∧ gc_I (sMem σ) (2 * h + 64) base ob free low scan tend nh α ad od Mv Mk Sn brf ∧ (∀ t, t < 8 → gc_bw ad Mv Mk (aR α t) (sReg σ t)) ∧ gc_B α Mv Sn brf ∧
    made = gc_sum (aC α) Mk ∧ R = gc_sum (aC α) Sn ∧ (scan = free ∨ base + k * made ≤ scan) ∧ R < h + 16 ∧ (k * made < R + 16 * k ∨ R + made ≤ h * k / (k + 1)) ∧ (∀ o, o ∈ Sn ∨ o ∈ Mk → U o) ∧ (∀ r w, W r w → gc_bw ad Mv Mk r w)
theorem gc_X.U {κ : sh_K} {σ : sh_S} {α : ab_A} {h k made beg R c : Nat} {U : Nat → Prop} {W : Nat → Int32 → Prop} (g : gc_X κ σ α h k made beg R U W c) : gc_U κ σ α h k made beg R U := by
  obtain ⟨g1, -, base, ob, free, low, scan, tend, nh, ad, od, Mv, Mk, Sn, brf, N, I, hr, hB, e1, e2, hp, hR, hq, hU, -⟩ := g
  exact ⟨g1, base, ob, free, low, scan, tend, nh, ad, od, Mv, Mk, Sn, brf, N, I, hr, hB, e1, e2, hp, hR, hq, hU⟩
theorem gx_mono {κ : sh_K} {σ : sh_S} {α : ab_A} {h k made beg R c c' : Nat} {U U' : Nat → Prop} {W W' : Nat → Int32 → Prop} (g : gc_X κ σ α h k made beg R U W c) (hW : ∀ r w, W' r w → W r w) (hc : c ≤ c') (hU' : ∀ o, U o → U' o) : gc_X κ σ α h k made beg R U' W' c' := by
  obtain ⟨g1, ⟨t, ht, hT⟩, base, ob, free, low, scan, tend, nh, ad, od, Mv, Mk, Sn, brf, N, I, hr, hB, e1, e2, hp, hR, hq, hU, w0⟩ := g
  exact ⟨g1, ⟨t, by omega, hT⟩, base, ob, free, low, scan, tend, nh, ad, od, Mv, Mk, Sn, brf, N, I, hr, hB, e1, e2, hp, hR, hq, fun o ho => hU' o (hU o ho), fun r w hw => w0 r w (hW r w hw)⟩
theorem gx_start {κ : sh_K} {σ : sh_S} {α : ab_A} {h k made beg R c : Nat} {U : Nat → Prop} {W : Nat → Int32 → Prop} (g : gc_X κ σ α h k made beg R U W c) : gc_X κ (uC σ (sh_start σ.1)) α h k made beg R U W 0 := by
  obtain ⟨g1, ⟨t, ht, hT⟩, rest⟩ := g
  exact ⟨g1, ⟨0, Nat.le_refl _, tc_start hT⟩, rest⟩
theorem gx_touch {κ : sh_K} {σ : sh_S} {α : ab_A} {h k made beg R c : Nat} {U : Nat → Prop} {W : Nat → Int32 → Prop} (g : gc_X κ σ α h k made beg R U W c) (hc : c + 1 ≤ 700 * k + 200) : gc_X κ (uC σ (sh_touch κ σ.1)) α h k made beg R U W (c + 1) := by
  obtain ⟨g1, ⟨t, ht, hT⟩, rest⟩ := g
  exact ⟨g1, ⟨t + 1, by omega, tc_touch hT (by omega)⟩, rest⟩
theorem gx_reg {κ : sh_K} {σ : sh_S} {α : ab_A} {h k made beg R c : Nat} {U : Nat → Prop} {W : Nat → Int32 → Prop} (g : gc_X κ σ α h k made beg R U W c) {t : Nat} (ht : t < 8) : gc_X κ σ α h k made beg R U (fun r w => W r w ∨ (r = aR α t ∧ w = sh_reg σ (nI t))) c := by
  obtain ⟨g1, hT, base, ob, free, low, scan, tend, nh, ad, od, Mv, Mk, Sn, brf, N, I, hr, hB, e1, e2, hp, hR, hq, hU, w0⟩ := g
  refine ⟨g1, hT, base, ob, free, low, scan, tend, nh, ad, od, Mv, Mk, Sn, brf, N, I, hr, hB, e1, e2, hp, hR, hq, hU, fun r w hw => ?_⟩
  rcases hw with hw | ⟨rfl, rfl⟩
  · exact w0 r w hw
  · rw [gm_regI ht]; exact hr t ht
theorem gx_zero {κ : sh_K} {σ : sh_S} {α : ab_A} {h k made beg R c : Nat} {U : Nat → Prop} {W : Nat → Int32 → Prop} (g : gc_X κ σ α h k made beg R U W c) : gc_X κ σ α h k made beg R U (fun r w => W r w ∨ (r = 0 ∧ w = 0)) c := by
  obtain ⟨g1, hT, base, ob, free, low, scan, tend, nh, ad, od, Mv, Mk, Sn, brf, N, I, hr, hB, e1, e2, hp, hR, hq, hU, w0⟩ := g
  refine ⟨g1, hT, base, ob, free, low, scan, tend, nh, ad, od, Mv, Mk, Sn, brf, N, I, hr, hB, e1, e2, hp, hR, hq, hU, fun r w hw => ?_⟩
  rcases hw with hw | ⟨rfl, rfl⟩
  · exact w0 r w hw
  · exact ⟨by rw [I.2.1.1, nI_0], Or.inl rfl⟩
theorem gx_w0 {κ : sh_K} {σ : sh_S} {α : ab_A} {h k made beg R c : Nat} {U : Nat → Prop} {W : Nat → Int32 → Prop} (g : gc_X κ σ α h k made beg R U W c) {r : Nat} {w : Int32} (hw : W r w) : (w = 0 ↔ r = 0) ∧ (r ≠ 0 → U r) := by
  obtain ⟨g1, hT, base, ob, free, low, scan, tend, nh, ad, od, Mv, Mk, Sn, brf, N, I, hr, hB, e1, e2, hp, hR, hq, hU, w0⟩ := g
  have h20 := I.1.1
  obtain ⟨ew, hm⟩ := w0 r w hw
  refine ⟨⟨fun z => ?_, fun z => by rw [ew, z, I.2.1.1, nI_0]⟩, fun hz => ?_⟩
  · rcases hm with hm | hm
    · exact hm
    · exfalso
      have hy := gc_half I hm (i := 0) (by have : aC α r = 1 + aT α r + aP α r := rfl; omega)
      rw [ew] at z
      exact nI_ne0 (by omega) (by omega) z
  · rcases hm.resolve_left hz with h | h
    · exact hU r (Or.inl (I.2.1.2.2.2.2.2.2.2.1 r h))
    · exact hU r (Or.inr h)
theorem gx_pack {κ : sh_K} {σ σ' : sh_S} {α α' : ab_A} {h k made beg R base ob free low scan tend nh free' t' c' : Nat} {ad od ad' : Nat → Nat} {Mv Mk Sn Mv' : List Nat} {brf : Nat → Nat → Nat} {U : Nat → Prop} {W' : Nat → Int32 → Prop}
    (g1 : gc_p κ h k) (hT : tc κ (700 * k + 200) σ'.1 t') (hc : t' ≤ c')
    (I : gc_I (sMem σ) (2 * h + 64) base ob free low scan tend nh α ad od Mv Mk Sn brf) (hB : gc_B α Mv Sn brf) (e1 : made = gc_sum (aC α) Mk) (e2 : R = gc_sum (aC α) Sn) (hp : scan = free ∨ base + k * made ≤ scan) (hR : R < h + 16) (hq : k * made < R + 16 * k ∨ R + made ≤ h * k / (k + 1)) (hU : ∀ o, o ∈ Sn ∨ o ∈ Mk → U o)
    (N' : gc_N σ' base free' low scan tend nh made beg) (I' : gc_I (sMem σ') (2 * h + 64) base ob free' low scan tend nh α' ad' od Mv' Mk Sn brf) (x' : gc_ext ad ad' Mv Mv' Mk) (hH : aH α' = aH α) (hr' : ∀ t, t < 8 → gc_bw ad' Mv' Mk (aR α' t) (sReg σ' t)) (hW : ∀ r w, W' r w → gc_bw ad' Mv' Mk r w) : gc_X κ σ' α' h k made beg R U W' c' := by
  have eC : aC α' = aC α := by funext q; show hC (aH α' q) = hC (aH α q); rw [hH]
  have F := gc_free_le I
  have F' := gc_free_le I'
  rw [eC] at F'
  refine ⟨g1, ⟨t', hc, hT⟩, base, ob, free', low, scan, tend, nh, ad', od, Mv', Mk, Sn, brf, N', I', hr', hB.mono x'.2 (fun q _ => by show aT α' q = aT α q; unfold aT; rw [hH]), by rw [eC]; exact e1, by rw [eC]; exact e2, ?_, hR, hq, hU, hW⟩
  rcases hp with hp | hp
  · left
    have q := gc_all I hB hp
    have := gc_sum_eq (cz := aC α) I.2.1.2.2.2.2.1 I.2.1.2.2.2.2.2.2.1 (fun o => ⟨I.2.1.2.2.2.2.2.2.2.1 o, q o⟩)
    omega
  · exact Or.inr hp
/-- how dear a reference is to follow -/
def gx_e (α : ab_A) (k made R e z j : Nat) : Prop := e = 34 ∨ (e = 1 ∧ (R ≤ k * made ∨ aF α z j = 0))
theorem gx_cost {κ : sh_K} {σ : sh_S} {α : ab_A} {h k made beg R t e z j base ob free low scan tend nh : Nat} {ad od : Nat → Nat} {Mv Mk Sn : List Nat} {brf : Nat → Nat → Nat} (g1 : gc_p κ h k) (hT : tc κ (700 * k + 200) σ.1 t) (N : gc_N σ base free low scan tend nh made beg)
    (I : gc_I (sMem σ) (2 * h + 64) base ob free low scan tend nh α ad od Mv Mk Sn brf) (hp : scan = free ∨ base + k * made ≤ scan) (e2 : R = gc_sum (aC α) Sn) (hm : z ∈ Mv ∨ z ∈ Mk) (hj : j < aT α z) (he : gx_e α k made R e z j) (hb : t + e ≤ 700 * k + 200) :
    ∃ t', t' ≤ t + e ∧ tc κ (700 * k + 200) (sh_follow κ σ (nI (ad z + 1 + j))).2.1 t' := by
  obtain ⟨-, -, -, -, k1, -, -, k4, -⟩ := id g1
  have hx := gc_half I hm (i := 1 + j) (by have : aC α z = 1 + aT α z + aP α z := rfl; omega)
  have h20 := I.1.1
  have hv : sh_val κ σ.1 (nI (ad z + 1 + j)) = sMem σ (ad z + 1 + j) := gc_valI k4 (by omega) (by omega) (by omega)
  have hw : gc_gw ad od Mv Mk Sn (aF α z j) (sMem σ (ad z + 1 + j)) := by
    obtain ⟨-, -, -, -, -, -, -, w2, -, w4, -⟩ := I
    rcases hm with ho | ho
    · exact w4 z j ho hj
    · exact Or.inl (w2 z j ho hj)
  rcases he with rfl | ⟨rfl, he⟩
  · exact tc_follow hT (by omega) (by rw [hv]; exact gc_h16 k1 k4 I N.2.2.1 hw)
  · have hb2 : gc_bw ad Mv Mk (aF α z j) (sMem σ (ad z + 1 + j)) := by
      rcases he with he | he
      · have F := gc_free_le I
        exact gr_black I (by rcases hp with hp | hp <;> omega) hm hj
      · rcases hw with hw | hw
        · exact hw
        · rw [he] at hw
          exact absurd hw.2 I.2.1.2.2.1
    have ho : sh_old κ (uC σ (sh_touch κ σ.1)) (sMem σ (ad z + 1 + j)) = 0 := by
      rw [hb2.1]
      have hbs := I.1.2.1
      refine gc_oldNo k1 (show sBase (uC σ (sh_touch κ σ.1)) = nI base from N.2.2.1) (by omega) ?_
      rcases hb2.2 with h0 | h0
      · rw [h0]; exact Or.inl I.2.1.1
      · have hy := gc_half I h0 (i := 0) (by have : aC α (aF α z j) = 1 + aT α (aF α z j) + aP α (aF α z j) := rfl; omega)
        right; omega
    refine ⟨t + 1, Nat.le_refl _, ?_⟩
    unfold sh_follow
    rw [hv, tc_piuNo ho]
    exact tc_touch hT (by omega)
theorem gx_follow {κ : sh_K} {σ : sh_S} {α : ab_A} {h k made beg R c e : Nat} {U : Nat → Prop} {W : Nat → Int32 → Prop} (g : gc_X κ σ α h k made beg R U W c) {z j : Nat} {w : Int32} (hw : W z w) (hz : z ≠ 0) (hj : j < aT α z) (he : gx_e α k made R e z j) (hb : c + e ≤ 700 * k + 200) :
    gc_X κ (sh_follow κ σ (w + 1 + nI j)).2 α h k made beg R U (fun r v => W r v ∨ (r = aF α z j ∧ v = (sh_follow κ σ (w + 1 + nI j)).1)) (c + e) := by
  obtain ⟨g1, ⟨t, ht, hT⟩, base, ob, free, low, scan, tend, nh, ad, od, Mv, Mk, Sn, brf, N, I, hr, hB, e1, e2, hp, hR, hq, hU, w0⟩ := g
  obtain ⟨-, -, -, -, k1, -, -, k4, -⟩ := id g1
  obtain ⟨ew, hm⟩ := w0 z w hw
  have hm := hm.resolve_left hz
  rw [ew, nI_1, nI_add]
  obtain ⟨t', ht', hT'⟩ := gx_cost g1 hT N I hp e2 hm hj he (by omega)
  obtain ⟨ad', Mv', free', I', b', e', x', -⟩ := gc_follow k1 k4 I N.2.2.1 N.2.2.2.1 hm hj
  generalize sh_follow κ σ (nI (ad z + 1 + j)) = q at I' b' e' hT' ⊢
  obtain ⟨N', er⟩ := N.free e'
  refine gx_pack g1 hT' (by omega) I hB e1 e2 hp hR hq hU N' I' x' rfl (fun u hu => by rw [er]; exact x'.bw (hr u hu)) (fun r v hv => ?_)
  rcases hv with hv | ⟨rfl, rfl⟩
  · exact x'.bw (w0 r v hv)
  · exact b'
theorem gx_link {κ : sh_K} {σ : sh_S} {α : ab_A} {h k made beg R c e : Nat} {U : Nat → Prop} {W : Nat → Int32 → Prop} (g : gc_X κ σ α h k made beg R U W c) {z j r : Nat} {w v : Int32} (hw : W z w) (hz : z ≠ 0) (hj : j < aT α z) (hv : W r v) (he : gx_e α k made R e z j) (hb : c + e + 1 ≤ 700 * k + 200) :
    gc_X κ (sh_link κ σ (w + 1 + nI j) v) (abF α z j r) h k made beg R U W (c + e + 1) := by
  obtain ⟨g1, ⟨t, ht, hT⟩, base, ob, free, low, scan, tend, nh, ad, od, Mv, Mk, Sn, brf, N, I, hr, hB, e1, e2, hp, hR, hq, hU, w0⟩ := g
  obtain ⟨-, -, -, -, k1, -, -, k4, -⟩ := id g1
  obtain ⟨ew, hm⟩ := w0 z w hw
  have hm := hm.resolve_left hz
  rw [ew, nI_1, nI_add]
  obtain ⟨t', ht', hT'⟩ := gx_cost g1 hT N I hp e2 hm hj he (by omega)
  have hT2 : tc κ (700 * k + 200) (sh_link κ σ (nI (ad z + 1 + j)) v).1 (t' + 1) := tc_write hT' (by omega)
  obtain ⟨ad', Mv', free', I', e', x'⟩ := gc_link k1 k4 I N.2.2.1 N.2.2.2.1 hm hj (w0 r v hv)
  generalize sh_link κ σ (nI (ad z + 1 + j)) v = q at I' e' hT2 ⊢
  obtain ⟨N', er⟩ := N.free e'
  exact gx_pack g1 hT2 (by omega) I hB e1 e2 hp hR hq hU N' I' x' rfl (fun u hu => by rw [er]; exact x'.bw (hr u hu)) (fun r v hv => x'.bw (w0 r v hv))
theorem gx_val {κ : sh_K} {σ : sh_S} {α : ab_A} {h k made beg R c : Nat} {U : Nat → Prop} {W : Nat → Int32 → Prop} (g : gc_X κ σ α h k made beg R U W c) {z j : Nat} {w : Int32} (hw : W z w) (hz : z ≠ 0) (hj : j < aP α z) :
    sh_val κ σ.1 (w + 1 + nI (aT α z + j)) = aI α z j := by
  obtain ⟨g1, -, base, ob, free, low, scan, tend, nh, ad, od, Mv, Mk, Sn, brf, N, I, hr, hB, e1, e2, hp, hR, hq, hU, w0⟩ := g
  obtain ⟨-, -, -, -, k1, -, -, k4, -⟩ := id g1
  obtain ⟨ew, hm⟩ := w0 z w hw
  have hm := hm.resolve_left hz
  have hy := gc_half I hm (i := 1 + aT α z + j) (by have : aC α z = 1 + aT α z + aP α z := rfl; omega)
  have h20 := I.1.1
  rw [ew, nI_1, nI_add, gc_valI k4 (by omega) (by omega) (by omega)]
  obtain ⟨-, -, -, -, -, -, w1, -⟩ := I
  rw [← Nat.add_assoc]
  exact (w1 _ hm).2 j hj
theorem gx_write {κ : sh_K} {σ : sh_S} {α : ab_A} {h k made beg R c : Nat} {U : Nat → Prop} {W : Nat → Int32 → Prop} (g : gc_X κ σ α h k made beg R U W c) {z j : Nat} {w v : Int32} (hw : W z w) (hz : z ≠ 0) (hj : j < aP α z) (hb : c + 1 ≤ 700 * k + 200) :
    gc_X κ (uC σ (sh_write κ σ.1 (w + 1 + nI (aT α z + j)) v)) (abI α z j v) h k made beg R U W (c + 1) := by
  obtain ⟨g1, ⟨t, ht, hT⟩, base, ob, free, low, scan, tend, nh, ad, od, Mv, Mk, Sn, brf, N, I, hr, hB, e1, e2, hp, hR, hq, hU, w0⟩ := g
  obtain ⟨-, -, -, -, k1, -, -, k4, -⟩ := id g1
  obtain ⟨ew, hm⟩ := w0 z w hw
  have hm := hm.resolve_left hz
  have hy := gc_half I hm (i := 1 + aT α z + j) (by have : aC α z = 1 + aT α z + aP α z := rfl; omega)
  have h20 := I.1.1
  rw [ew, nI_1, nI_add, ← Nat.add_assoc]
  have I' := gc_wi (v := v) I hm hj
  refine gx_pack (σ' := uC σ (sh_write κ σ.1 (nI (ad z + 1 + aT α z + j)) v)) g1 (tc_write hT (by omega)) (by omega) I hB e1 e2 hp hR hq hU N ?_ gc_ext.rf rfl hr w0
  show gc_I (sh_write κ σ.1 (nI (ad z + 1 + aT α z + j)) v).2.2.1 _ _ _ _ _ _ _ _ _ _ _ _ _ _ _
  rw [gc_writeI k4 (by omega) (by omega) (by omega)]
  exact I'
theorem gx_setReg {κ : sh_K} {σ : sh_S} {α : ab_A} {h k made beg R c : Nat} {U : Nat → Prop} {W : Nat → Int32 → Prop} (g : gc_X κ σ α h k made beg R U W c) {t r : Nat} {v : Int32} (ht : t < 8) (hv : W r v) : gc_X κ (sh_setReg σ (nI t) v) (abR α t r) h k made beg R U W c := by
  obtain ⟨g1, ⟨u, hu, hT⟩, base, ob, free, low, scan, tend, nh, ad, od, Mv, Mk, Sn, brf, N, I, hr, hB, e1, e2, hp, hR, hq, hU, w0⟩ := g
  rw [gm_setI ht]
  refine ⟨g1, ⟨u, hu, hT⟩, base, ob, free, low, scan, tend, nh, ad, od, Mv, Mk, Sn, brf, N, I, ?_, hB, e1, e2, hp, hR, hq, hU, w0⟩
  intro x hx
  show gc_bw ad Mv Mk (if x = t then r else aR α x) (upd (sReg σ) t v x)
  by_cases hz : x = t
  · rw [if_pos hz, hz, pk_us]; exact w0 r v hv
  · rw [if_neg hz, pk_un hz]; exact hr x hx
