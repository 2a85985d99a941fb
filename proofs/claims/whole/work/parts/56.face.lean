/-! ===== THE FACE, as functions ===== -/
def sh_make (κ : sh_K) (σ : sh_S) (r n i : Int32) : Int32 × sh_S := if sh_isReg r = 0 then (-1, σ) else if sh_shape n i = 0 then (-1, σ) else sh_fill κ σ r (hd_obj n i)
def sh_array (κ : sh_K) (σ : sh_S) (r n b : Int32) : Int32 × sh_S := if sh_isReg r = 0 then (-1, σ) else if n < 0 then (-1, σ) else if n ≤ 3375 then sh_fill κ σ r (hd_arr n b) else (-1, σ)
def sh_get (κ : sh_K) (σ : sh_S) (t o f : Int32) : Int32 × sh_S :=
  let q := sh_head κ σ o
  if sh_isReg t = 0 then (0, q.2) else if sh_below f (hd_refs q.1) = 0 then (0, q.2) else
  let u := sh_follow κ q.2 (sh_reg q.2 o + 1 + f)
  (1, sh_setReg u.2 t u.1)
def sh_putF (κ : sh_K) (σ : sh_S) (o f r : Int32) : Int32 × sh_S :=
  let q := sh_head κ σ o
  if sh_isReg r = 0 then (0, q.2) else if sh_below f (hd_refs q.1) = 0 then (0, q.2) else (1, sh_link κ q.2 (sh_reg q.2 o + 1 + f) (sh_reg q.2 r))
def sh_look (κ : sh_K) (σ : sh_S) (o f : Int32) : Int64 × sh_S :=
  let q := sh_head κ σ o
  if sh_below f (hd_ints q.1) = 0 then (-9223372036854775808, q.2) else ((sh_val κ q.2.1 (sh_reg q.2 o + 1 + hd_refs q.1 + f)).toInt64, uC q.2 (sh_touch κ q.2.1))
def sh_set (κ : sh_K) (σ : sh_S) (o f v : Int32) : Int32 × sh_S :=
  let q := sh_head κ σ o
  if sh_below f (hd_ints q.1) = 0 then (0, q.2) else (1, uC q.2 (sh_write κ q.2.1 (sh_reg q.2 o + 1 + hd_refs q.1 + f) v))
def sh_getItem (κ : sh_K) (σ : sh_S) (t o i : Int32) : Int32 × sh_S :=
  let q := sh_head κ σ o
  if sh_isReg t = 0 then (0, q.2) else if sh_below i (hd_items q.1 1) = 0 then (0, q.2) else
  let g := sh_gap κ q.2 o q.1 i
  if g.1 = 0 then
    let w := sh_way κ g.2 o q.1 i 0
    let u := sh_follow κ w.2 w.1
    (1, sh_setReg u.2 t u.1)
  else (1, sh_setReg g.2 t 0)
def sh_putItem (κ : sh_K) (σ : sh_S) (o i r : Int32) : Int32 × sh_S :=
  let q := sh_head κ σ o
  if sh_isReg r = 0 then (-1, q.2) else if sh_below i (hd_items q.1 1) = 0 then (-1, q.2) else
  let a := sh_open κ q.2 o q.1 i
  if a.1 = 1 then
    let w := sh_way κ a.2 o q.1 i 0
    (a.1, sh_link κ w.2 w.1 (sh_reg w.2 r))
  else (a.1, a.2)
def sh_lookItem (κ : sh_K) (σ : sh_S) (o i : Int32) : Int64 × sh_S :=
  let q := sh_head κ σ o
  if sh_below i (hd_items q.1 0) = 0 then (-9223372036854775808, q.2) else
  let g := sh_gap κ q.2 o q.1 i
  if g.1 = 0 then
    let w := sh_way κ g.2 o q.1 i 0
    ((sh_val κ w.2.1 w.1).toInt64, uC w.2 (sh_touch κ w.2.1))
  else (0, g.2)
def sh_setItem (κ : sh_K) (σ : sh_S) (o i v : Int32) : Int32 × sh_S :=
  let q := sh_head κ σ o
  if sh_below i (hd_items q.1 0) = 0 then (-1, q.2) else
  let a := sh_open κ q.2 o q.1 i
  if a.1 = 1 then
    let w := sh_way κ a.2 o q.1 i 0
    (a.1, uC w.2 (sh_write κ w.2.1 w.1 v))
  else (a.1, a.2)
def sh_copy (σ : sh_S) (t r : Int32) : Int32 × sh_S := if sh_isReg t = 0 then (0, σ) else if sh_isReg r = 0 then (0, σ) else (1, sh_setReg σ t (sh_reg σ r))
def sh_drop (σ : sh_S) (r : Int32) : Int32 × sh_S := (if sh_reg σ r = 0 then 0 else 1, sh_setReg σ r 0)
def sh_same (σ : sh_S) (x y : Int32) : Int32 := if sh_isReg x = 0 then 0 else if sh_isReg y = 0 then 0 else if sh_reg σ x = sh_reg σ y then 1 else 0
def sh_size (κ : sh_K) (σ : sh_S) (r w : Int32) : Int32 × sh_S :=
  let q := sh_head κ σ r
  if q.1 = 0 then (-1, q.2) else
  if w = 0 then (if hd_isArr q.1 = 0 then hd_refs q.1 else -1, q.2) else
  if w = 1 then (if hd_isArr q.1 = 0 then hd_ints q.1 else -1, q.2) else
  if w = 2 then (if hd_isArr q.1 = 0 then -1 else hd_len q.1, q.2) else
  if w = 3 then (hd_cells q.1, q.2) else (-1, q.2)
def sh_told (κ : sh_K) (σ : sh_S) (w : Int32) : Int32 :=
  if w = 0 then sBeg σ else if w = 1 then (if sh_done κ σ = 0 then 0 else 1) else if w = 2 then (if sh_done κ σ = 0 then -1 else sh_moved σ) else
  if w = 3 then sMade σ else if w = 4 then kLim κ else -1
set_option maxHeartbeats 40000 in
theorem mo_make {κ : sh_K} {σ : sh_S} {r n i : Int32} : nal σ ≤ nal (sh_make κ σ r n i).2 := by
  unfold sh_make
  try dsimp only
  have h0 : nal σ ≤ nal (sh_fill κ σ r (hd_obj n i)).2 := mo_fill
  generalize sh_fill κ σ r (hd_obj n i) = a at h0 ⊢
  repeat' split
  all_goals first | exact Nat.le_refl _ | exact h0
set_option maxHeartbeats 40000 in
theorem mo_array {κ : sh_K} {σ : sh_S} {r n b : Int32} : nal σ ≤ nal (sh_array κ σ r n b).2 := by
  unfold sh_array
  try dsimp only
  have h0 : nal σ ≤ nal (sh_fill κ σ r (hd_arr n b)).2 := mo_fill
  generalize sh_fill κ σ r (hd_arr n b) = a at h0 ⊢
  repeat' split
  all_goals first | exact Nat.le_refl _ | exact h0
set_option maxHeartbeats 40000 in
theorem mo_get {κ : sh_K} {σ : sh_S} {t o f : Int32} : nal σ ≤ nal (sh_get κ σ t o f).2 := by
  unfold sh_get
  try dsimp only
  have h0 : nal σ ≤ nal (sh_head κ σ o).2 := mo_head
  generalize sh_head κ σ o = q at h0 ⊢
  have h1 : nal q.2 ≤ nal (sh_follow κ q.2 (sh_reg q.2 o + 1 + f)).2 := mo_follow
  generalize sh_follow κ q.2 (sh_reg q.2 o + 1 + f) = u at h1 ⊢
  have h2 : nal u.2 ≤ nal (sh_setReg u.2 t u.1) := mo_setReg
  generalize sh_setReg u.2 t u.1 = w at h2 ⊢
  repeat' split
  all_goals first | exact Nat.le_refl _ | exact h0 | exact Nat.le_trans (h0) h1 | exact Nat.le_trans (Nat.le_trans (h0) h1) h2
set_option maxHeartbeats 40000 in
theorem mo_putF {κ : sh_K} {σ : sh_S} {o f r : Int32} : nal σ ≤ nal (sh_putF κ σ o f r).2 := by
  unfold sh_putF
  try dsimp only
  have h0 : nal σ ≤ nal (sh_head κ σ o).2 := mo_head
  generalize sh_head κ σ o = q at h0 ⊢
  have h1 : nal q.2 ≤ nal (sh_link κ q.2 (sh_reg q.2 o + 1 + f) (sh_reg q.2 r)) := mo_link
  generalize sh_link κ q.2 (sh_reg q.2 o + 1 + f) (sh_reg q.2 r) = u at h1 ⊢
  repeat' split
  all_goals first | exact Nat.le_refl _ | exact h0 | exact Nat.le_trans (h0) h1
set_option maxHeartbeats 40000 in
theorem mo_look {κ : sh_K} {σ : sh_S} {o f : Int32} : nal σ ≤ nal (sh_look κ σ o f).2 := by
  unfold sh_look
  try dsimp only
  have h0 : nal σ ≤ nal (sh_head κ σ o).2 := mo_head
  generalize sh_head κ σ o = q at h0 ⊢
  repeat' split
  all_goals first | exact Nat.le_refl _ | exact h0
set_option maxHeartbeats 40000 in
theorem mo_set {κ : sh_K} {σ : sh_S} {o f v : Int32} : nal σ ≤ nal (sh_set κ σ o f v).2 := by
  unfold sh_set
  try dsimp only
  have h0 : nal σ ≤ nal (sh_head κ σ o).2 := mo_head
  generalize sh_head κ σ o = q at h0 ⊢
  have h1 : nal q.2 ≤ nalC (sh_write κ q.2.1 (sh_reg q.2 o + 1 + hd_refs q.1 + f) v) := mo_write
  generalize sh_write κ q.2.1 (sh_reg q.2 o + 1 + hd_refs q.1 + f) v = u at h1 ⊢
  repeat' split
  all_goals first | exact Nat.le_refl _ | exact h0 | exact Nat.le_trans (h0) h1
set_option maxHeartbeats 40000 in
theorem mo_getItem {κ : sh_K} {σ : sh_S} {t o i : Int32} : nal σ ≤ nal (sh_getItem κ σ t o i).2 := by
  unfold sh_getItem
  try dsimp only
  have h0 : nal σ ≤ nal (sh_head κ σ o).2 := mo_head
  generalize sh_head κ σ o = q at h0 ⊢
  have h1 : nal q.2 ≤ nal (sh_gap κ q.2 o q.1 i).2 := mo_gap
  generalize sh_gap κ q.2 o q.1 i = g at h1 ⊢
  have h2 : nal g.2 ≤ nal (sh_way κ g.2 o q.1 i 0).2 := mo_way
  generalize sh_way κ g.2 o q.1 i 0 = w at h2 ⊢
  have h3 : nal w.2 ≤ nal (sh_follow κ w.2 w.1).2 := mo_follow
  generalize sh_follow κ w.2 w.1 = u at h3 ⊢
  have h4 : nal u.2 ≤ nal (sh_setReg u.2 t u.1) := mo_setReg
  generalize sh_setReg u.2 t u.1 = z at h4 ⊢
  have h5 : nal g.2 ≤ nal (sh_setReg g.2 t 0) := mo_setReg
  generalize sh_setReg g.2 t 0 = z2 at h5 ⊢
  repeat' split
  all_goals first | exact Nat.le_refl _ | exact h0 | exact Nat.le_trans (h0) h1 | exact Nat.le_trans (Nat.le_trans (h0) h1) h2 | exact Nat.le_trans (Nat.le_trans (Nat.le_trans (h0) h1) h2) h3 | exact Nat.le_trans (Nat.le_trans (Nat.le_trans (Nat.le_trans (h0) h1) h2) h3) h4 | exact Nat.le_trans (Nat.le_trans (Nat.le_trans (Nat.le_trans (Nat.le_trans (h0) h1) h2) h3) h4) h5 | exact Nat.le_trans (Nat.le_trans h0 h1) h5
set_option maxHeartbeats 40000 in
theorem mo_putItem {κ : sh_K} {σ : sh_S} {o i r : Int32} : nal σ ≤ nal (sh_putItem κ σ o i r).2 := by
  unfold sh_putItem
  try dsimp only
  have h0 : nal σ ≤ nal (sh_head κ σ o).2 := mo_head
  generalize sh_head κ σ o = q at h0 ⊢
  have h1 : nal q.2 ≤ nal (sh_open κ q.2 o q.1 i).2 := mo_open
  generalize sh_open κ q.2 o q.1 i = a at h1 ⊢
  have h2 : nal a.2 ≤ nal (sh_way κ a.2 o q.1 i 0).2 := mo_way
  generalize sh_way κ a.2 o q.1 i 0 = w at h2 ⊢
  have h3 : nal w.2 ≤ nal (sh_link κ w.2 w.1 (sh_reg w.2 r)) := mo_link
  generalize sh_link κ w.2 w.1 (sh_reg w.2 r) = u at h3 ⊢
  repeat' split
  all_goals first | exact Nat.le_refl _ | exact h0 | exact Nat.le_trans (h0) h1 | exact Nat.le_trans (Nat.le_trans (h0) h1) h2 | exact Nat.le_trans (Nat.le_trans (Nat.le_trans (h0) h1) h2) h3
set_option maxHeartbeats 40000 in
theorem mo_lookItem {κ : sh_K} {σ : sh_S} {o i : Int32} : nal σ ≤ nal (sh_lookItem κ σ o i).2 := by
  unfold sh_lookItem
  try dsimp only
  have h0 : nal σ ≤ nal (sh_head κ σ o).2 := mo_head
  generalize sh_head κ σ o = q at h0 ⊢
  have h1 : nal q.2 ≤ nal (sh_gap κ q.2 o q.1 i).2 := mo_gap
  generalize sh_gap κ q.2 o q.1 i = g at h1 ⊢
  have h2 : nal g.2 ≤ nal (sh_way κ g.2 o q.1 i 0).2 := mo_way
  generalize sh_way κ g.2 o q.1 i 0 = w at h2 ⊢
  repeat' split
  all_goals first | exact Nat.le_refl _ | exact h0 | exact Nat.le_trans (h0) h1 | exact Nat.le_trans (Nat.le_trans (h0) h1) h2
set_option maxHeartbeats 40000 in
theorem mo_setItem {κ : sh_K} {σ : sh_S} {o i v : Int32} : nal σ ≤ nal (sh_setItem κ σ o i v).2 := by
  unfold sh_setItem
  try dsimp only
  have h0 : nal σ ≤ nal (sh_head κ σ o).2 := mo_head
  generalize sh_head κ σ o = q at h0 ⊢
  have h1 : nal q.2 ≤ nal (sh_open κ q.2 o q.1 i).2 := mo_open
  generalize sh_open κ q.2 o q.1 i = a at h1 ⊢
  have h2 : nal a.2 ≤ nal (sh_way κ a.2 o q.1 i 0).2 := mo_way
  generalize sh_way κ a.2 o q.1 i 0 = w at h2 ⊢
  have h3 : nal w.2 ≤ nalC (sh_write κ w.2.1 w.1 v) := mo_write
  generalize sh_write κ w.2.1 w.1 v = u at h3 ⊢
  repeat' split
  all_goals first | exact Nat.le_refl _ | exact h0 | exact Nat.le_trans (h0) h1 | exact Nat.le_trans (Nat.le_trans (h0) h1) h2 | exact Nat.le_trans (Nat.le_trans (Nat.le_trans (h0) h1) h2) h3
set_option maxHeartbeats 40000 in
theorem mo_copy {σ : sh_S} {t r : Int32} : nal σ ≤ nal (sh_copy σ t r).2 := by
  unfold sh_copy
  try dsimp only
  have h0 : nal σ ≤ nal (sh_setReg σ t (sh_reg σ r)) := mo_setReg
  generalize sh_setReg σ t (sh_reg σ r) = u at h0 ⊢
  repeat' split
  all_goals first | exact Nat.le_refl _ | exact h0
set_option maxHeartbeats 40000 in
theorem mo_drop {σ : sh_S} {r : Int32} : nal σ ≤ nal (sh_drop σ r).2 := by
  unfold sh_drop
  try dsimp only
  have h0 : nal σ ≤ nal (sh_setReg σ r 0) := mo_setReg
  generalize sh_setReg σ r 0 = u at h0 ⊢
  repeat' split
  all_goals first | exact Nat.le_refl _ | exact h0
set_option maxHeartbeats 40000 in
theorem mo_size {κ : sh_K} {σ : sh_S} {r w : Int32} : nal σ ≤ nal (sh_size κ σ r w).2 := by
  unfold sh_size
  try dsimp only
  have h0 : nal σ ≤ nal (sh_head κ σ r).2 := mo_head
  generalize sh_head κ σ r = q at h0 ⊢
  repeat' split
  all_goals first | exact Nat.le_refl _ | exact h0
