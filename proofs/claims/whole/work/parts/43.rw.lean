/-! ===== the pages ===== -/
theorem cx_pf_some {Lp : List (Nat × Nat × Nat)} {i q : Nat} (h : cx_pf Lp i = some q) : ∃ r, (i, q, r) ∈ Lp := by
  unfold cx_pf at h
  cases hf : Lp.find? (fun t => t.1 == i) with
  | none => rw [hf] at h; cases h
  | some t =>
    rw [hf] at h
    have h1 := List.mem_of_find?_eq_some hf
    have h2 := List.find?_some hf
    obtain ⟨a, b, c⟩ := t
    have h3 : a = i := by simpa using h2
    have h4 : b = q := Option.some.inj h
    subst h3; subst h4
    exact ⟨c, h1⟩
theorem cx_pf_none {Lp : List (Nat × Nat × Nat)} {i : Nat} (h : cx_pf Lp i = none) : i ∉ Lp.map (fun t => t.1) := by
  unfold cx_pf at h
  cases hf : Lp.find? (fun t => t.1 == i) with
  | some t => rw [hf] at h; cases h
  | none =>
    intro hm
    obtain ⟨t, h1, h2⟩ := List.mem_map.mp hm
    have := List.find?_eq_none.mp hf t h1
    exact this (by simpa using h2)
theorem cx_pf_push {Lp : List (Nat × Nat × Nat)} {i q r : Nat} (h : i ∉ Lp.map (fun t => t.1)) : va_up (cx_pf Lp) i (some q) = cx_pf (Lp ++ [(i, q, r)]) := by
  funext j
  unfold va_up cx_pf
  rw [List.find?_append]
  by_cases hj : j = i
  · subst hj
    rw [if_pos rfl]
    have : Lp.find? (fun t => t.1 == j) = none := List.find?_eq_none.mpr (fun t ht => by
      intro z
      exact h (List.mem_map.mpr ⟨t, ht, by simpa using z⟩))
    rw [this]
    simp
  · rw [if_neg hj]
    have : [(i, q, r)].find? (fun t => t.1 == j) = none := by
      have h2 : (i == j) = false := by simpa using Ne.symm hj
      simp [List.find?, h2]
    rw [this]
    simp
theorem cx_pl_in {cI : ClassId} {Lp : List (Nat × Nat × Nat)} {mem : Nat → Int32} {i q r : Nat} (h : (i, q, r) ∈ Lp) : (q, (.inr (3, [.ref r]) : va_E)) ∈ cx_pl cI Lp mem ∧ (r, (.inl (cI, 1024, .inl (cx_row mem i)) : va_E)) ∈ cx_pl cI Lp mem := by
  unfold cx_pl
  exact ⟨List.mem_flatMap.mpr ⟨(i, q, r), h, by simp⟩, List.mem_flatMap.mpr ⟨(i, q, r), h, by simp⟩⟩
theorem cx_mem_at {X ws : va_W} {x : Nat × va_E} (h : x ∈ ws) : ∃ k : Nat, (X ++ ws)[k]? = some x := List.getElem?_of_mem (List.mem_append_right _ h)
/-- a cell of a world is set: all others stay -/
theorem cx_setmap {A : Nat → Prop} {ws : va_W} (hD : va_D A ws) {k r : Nat} {e0 e : va_E} (hk : ws[k]? = some (r, e0)) : ws.set k (r, e) = ws.map (fun x => if x.1 = r then (r, e) else x) := by
  apply List.ext_getElem?
  intro j
  have hl := (List.getElem?_eq_some_iff.mp hk).1
  by_cases hj : j = k
  · subst hj
    rw [List.getElem?_set_self hl, List.getElem?_map, hk]
    simp
  · rw [List.getElem?_set_ne (Ne.symm hj), List.getElem?_map]
    cases hx : ws[j]? with
    | none => rfl
    | some x =>
      have : x.1 ≠ r := fun z => hj (hD.1 j k x (r, e0) hx hk z)
      simp [this]
theorem cx_row_upd {mem : Nat → Int32} {n : Nat} {v : Int32} : upd (cx_row mem (n / 1024)) (n % 1024) v = cx_row (upd mem n v) (n / 1024) := by
  funext j
  unfold cx_row upd
  by_cases hj : j = n % 1024
  · rw [if_pos hj, if_pos (by omega), if_pos (by omega)]
  · rw [if_neg hj]
    show (if j < 1024 then mem (n / 1024 * 1024 + j) else 0) = _
    by_cases h : j < 1024
    · rw [if_pos h, if_pos h, if_neg (by omega)]
    · rw [if_neg h, if_neg h]
theorem cx_row_other {mem : Nat → Int32} {n i : Nat} {v : Int32} (h : i ≠ n / 1024) : cx_row (upd mem n v) i = cx_row mem i := by
  funext j
  unfold cx_row upd
  by_cases hj : j < 1024
  · rw [if_pos hj, if_pos hj, if_neg (by omega)]
  · rw [if_neg hj, if_neg hj]
theorem cx_nodup_inj {Lp : List (Nat × Nat × Nat)} (h : (Lp.map (fun t => t.2.2)).Nodup) {t t' : Nat × Nat × Nat} (h1 : t ∈ Lp) (h2 : t' ∈ Lp) (e : t.2.2 = t'.2.2) : t = t' := by
  induction Lp with
  | nil => cases h1
  | cons x l ih =>
    rw [List.map_cons, List.nodup_cons] at h
    rcases List.mem_cons.mp h1 with h1 | h1
    · rcases List.mem_cons.mp h2 with h2 | h2
      · rw [h1, h2]
      · exact absurd (List.mem_map.mpr ⟨t', h2, by rw [← e, h1]⟩) h.1
    · rcases List.mem_cons.mp h2 with h2 | h2
      · exact absurd (List.mem_map.mpr ⟨t, h1, by rw [e, h2]⟩) h.1
      · exact ih h.2 h1 h2
theorem cx_pl_map {cI : ClassId} {Lp : List (Nat × Nat × Nat)} {mem : Nat → Int32} {n q r : Nat} {v : Int32} (h0 : (n / 1024, q, r) ∈ Lp) (h1 : (Lp.map (fun t => t.2.2)).Nodup) (hq : ∀ t, t ∈ Lp → t.2.1 ≠ r) (hi : ∀ t, t ∈ Lp → t.1 = n / 1024 → t.2.2 = r) :
    (cx_pl cI Lp mem).map (fun x => if x.1 = r then (r, (.inl (cI, 1024, .inl (upd (cx_row mem (n / 1024)) (n % 1024) v)) : va_E)) else x) = cx_pl cI Lp (upd mem n v) := by
  unfold cx_pl
  rw [List.map_flatMap]
  have : ∀ t, t ∈ Lp → ([(t.2.1, .inr (3, [.ref t.2.2])), (t.2.2, .inl (cI, 1024, .inl (cx_row mem t.1)))] : va_W).map (fun x => if x.1 = r then (r, (.inl (cI, 1024, .inl (upd (cx_row mem (n / 1024)) (n % 1024) v)) : va_E)) else x) = [(t.2.1, .inr (3, [.ref t.2.2])), (t.2.2, .inl (cI, 1024, .inl (cx_row (upd mem n v) t.1)))] := by
    intro t ht
    rw [List.map_cons, List.map_cons, List.map_nil, if_neg (hq t ht)]
    by_cases hr : t.2.2 = r
    · have : t = (n / 1024, q, r) := cx_nodup_inj h1 ht h0 hr
      subst this
      rw [if_pos rfl, cx_row_upd]
    · rw [if_neg hr, cx_row_other (fun z => hr (hi t ht z))]
  have key : ∀ (L : List (Nat × Nat × Nat)) (f g : Nat × Nat × Nat → va_W), (∀ t, t ∈ L → f t = g t) → L.flatMap f = L.flatMap g := by
    intro L f g hfg
    induction L with
    | nil => rfl
    | cons x l ih => rw [List.flatMap_cons, List.flatMap_cons, hfg x List.mem_cons_self, ih (fun t ht => hfg t (List.mem_cons_of_mem _ ht))]
  exact key _ _ _ this
