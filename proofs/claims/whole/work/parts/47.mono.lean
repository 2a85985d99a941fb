/-! ===== pages are only ever added ===== -/
abbrev nalC (c : sh_C) : Nat := c.2.2.2.length
theorem mo_write {κ : sh_K} {c : sh_C} {x v : Int32} : nalC c ≤ nalC (sh_write κ c x v) := by
  unfold sh_write sh_put
  split
  · exact Nat.le_refl _
  · split
    · show c.2.2.2.length ≤ (sh_pg c.2.2.2 _).length
      unfold sh_pg
      split
      · exact Nat.le_refl _
      · rw [List.length_append]; exact Nat.le_add_right _ _
    · exact Nat.le_refl _
theorem mo_copyN {κ : sh_K} {f t : Int32} : ∀ (n : Nat) (i : Int32) (c : sh_C), nalC c ≤ nalC (sh_copyN κ c f t i n)
  | 0, _, _ => Nat.le_refl _
  | n + 1, i, c => Nat.le_trans (mo_write (κ := κ) (c := sh_touch κ c)) (mo_copyN n (i + 1) _)
theorem mo_zeroN {κ : sh_K} {lo : Int32} : ∀ (n : Nat) (i : Int32) (c : sh_C), nalC c ≤ nalC (sh_zeroN κ c lo i n)
  | 0, _, _ => Nat.le_refl _
  | n + 1, i, c => Nat.le_trans mo_write (mo_zeroN n (i + 1) _)
theorem mo_piu {κ : sh_K} {σ : sh_S} {x : Int32} : nal σ ≤ nal (sh_piu κ σ x).2 := by
  unfold sh_piu
  split
  · exact Nat.le_refl _
  · show nal σ ≤ nal (if sh_val κ σ.1 x < 0 then _ else _ : Int32 × sh_S).2
    split
    · exact Nat.le_refl _
    · exact Nat.le_trans (Nat.le_trans (mo_write (κ := κ) (c := sh_touch κ σ.1)) (mo_copyN _ _ _)) mo_write
theorem mo_follow {κ : sh_K} {σ : sh_S} {x : Int32} : nal σ ≤ nal (sh_follow κ σ x).2 := mo_piu (σ := uC σ (sh_touch κ σ.1))
theorem mo_link {κ : sh_K} {σ : sh_S} {x v : Int32} : nal σ ≤ nal (sh_link κ σ x v) := Nat.le_trans mo_follow mo_write
theorem mo_regsN {κ : sh_K} : ∀ (n i : Nat) (σ : sh_S), nal σ ≤ nal (sh_regsN κ σ i n)
  | 0, _, _ => Nat.le_refl _
  | n + 1, i, σ => by
    have h1 : nal σ ≤ nal (sh_piu κ σ (sReg σ i)).2 := mo_piu
    have h2 : nal (sh_piu κ σ (sReg σ i)).2 ≤ nal (sh_regsN κ (uReg (sh_piu κ σ (sReg σ i)).2 (upd (sReg (sh_piu κ σ (sReg σ i)).2) i (sh_piu κ σ (sReg σ i)).1)) (i + 1) n) := mo_regsN n (i + 1) (uReg (sh_piu κ σ (sReg σ i)).2 (upd (sReg (sh_piu κ σ (sReg σ i)).2) i (sh_piu κ σ (sReg σ i)).1))
    rw [sh_regsN]
    exact Nat.le_trans h1 h2
theorem mo_ws1 {κ : sh_K} {σ : sh_S} {w : Int32} : nal σ ≤ nal (sh_ws1 κ σ w) := by
  unfold sh_ws1
  split
  · exact Nat.le_refl _
  · split
    · exact mo_piu
    · exact Nat.le_trans mo_piu mo_write
theorem mo_step {κ : sh_K} {σ : sh_S} : nal σ ≤ nal (sh_workStep κ σ) := by
  unfold sh_workStep sh_ws2
  split
  · exact mo_ws1 (σ := uC σ (sh_touch κ σ.1))
  · exact mo_ws1 (σ := uC σ (sh_touch κ σ.1))
theorem mo_workN {κ : sh_K} {g : Int32} : ∀ (n : Nat) (σ : sh_S), nal σ ≤ nal (sh_workN κ g σ n)
  | 0, _ => Nat.le_refl _
  | n + 1, σ => by
    show nal σ ≤ nal (if sScan σ < sFree σ then (if sScan σ < g then _ else _) else _)
    split
    · split
      · exact Nat.le_trans mo_step (mo_workN n _)
      · exact Nat.le_refl _
    · exact Nat.le_refl _
theorem mo_work {κ : sh_K} {σ : sh_S} : nal σ ≤ nal (sh_work κ σ) := mo_workN _ _
theorem mo_place {κ : sh_K} {σ : sh_S} {h : Int32} : nal σ ≤ nal (sh_place κ σ h).2 := by
  have key : ∀ (τ : sh_S) (x i : Int32) (n : Nat), τ.1 = sh_zeroN κ (sh_write κ σ.1 x h) x i n → nal σ ≤ nal (sh_work κ τ) := fun τ x i n e => by
    have h1 : nalC σ.1 ≤ nalC (sh_write κ σ.1 x h) := mo_write
    have h2 : nalC (sh_write κ σ.1 x h) ≤ nalC (sh_zeroN κ (sh_write κ σ.1 x h) x i n) := mo_zeroN n i _
    have h3 : nalC τ.1 ≤ nal (sh_work κ τ) := mo_work (κ := κ) (σ := τ)
    rw [e] at h3
    exact Nat.le_trans (Nat.le_trans h1 h2) h3
  unfold sh_place
  exact key _ _ _ _ rfl
theorem mo_setReg {σ : sh_S} {r v : Int32} : nal σ ≤ nal (sh_setReg σ r v) := by
  unfold sh_setReg
  split <;> exact Nat.le_refl _
theorem mo_head {κ : sh_K} {σ : sh_S} {r : Int32} : nal σ ≤ nal (sh_head κ σ r).2 := by
  unfold sh_head
  dsimp only
  split <;> exact Nat.le_refl _
theorem mo_gapN {κ : sh_K} {i : Int32} : ∀ (n : Nat) (σ : sh_S) (nd lv : Int32), nal σ ≤ nal (sh_gapN κ σ i nd lv n).2
  | 0, _, _, _ => Nat.le_refl _
  | n + 1, σ, nd, lv => by
    show nal σ ≤ nal (if lv ≤ 0 then _ else if (sh_follow κ σ (nd + 1 + sh_slot i lv)).1 = 0 then _ else _ : Int32 × sh_S).2
    split
    · exact Nat.le_refl _
    · split
      · exact mo_follow
      · exact Nat.le_trans mo_follow (mo_gapN n _ _ _)
theorem mo_gap {κ : sh_K} {σ : sh_S} {o h i : Int32} : nal σ ≤ nal (sh_gap κ σ o h i).2 := mo_gapN _ _ _ _
theorem mo_wayN {κ : sh_K} {i lv : Int32} : ∀ (n : Nat) (σ : sh_S) (nd ab : Int32), nal σ ≤ nal (sh_wayN κ σ i lv nd ab n).2
  | 0, _, _, _ => Nat.le_refl _
  | n + 1, σ, nd, ab => by
    show nal σ ≤ nal (if ab ≤ lv then _ else _ : Int32 × sh_S).2
    split
    · exact Nat.le_refl _
    · exact Nat.le_trans mo_follow (mo_wayN n _ _ _)
theorem mo_way {κ : sh_K} {σ : sh_S} {o h i lv : Int32} : nal σ ≤ nal (sh_way κ σ o h i lv).2 := mo_wayN _ _ _ _
