/-! Rows of a world. -/
def cvk (tab : List (Nat × Nat)) (x : Int32) (K : Nat → Prop) : Prop := match tabl tab (kc x) with
  | some y => K y
  | none => False
section
variable {LG gr : Nat → Nat} {B : Nat} {M F : Nat → Int32} {ex : Nat → Bool} {hd : Option Nat} {C G : Nat → Option AE} {z : Nat × Nat} {V : Nat → Option AE}
theorem wg_0 (hg : ∀ r, gr (LG r) = r) {K : Value → Prop} : gf [10] 0 (GW LG gr B M F ex hd C G z) (LG B) K = K (.ref (LG (B + 1))) := r_gf hg WC_0 (by decide) rfl
theorem wg_1 (hg : ∀ r, gr (LG r) = r) {K : Value → Prop} : gf [10] 1 (GW LG gr B M F ex hd C G z) (LG B) K = K (.ref (LG (B + 2))) := r_gf hg WC_0 (by decide) rfl
theorem wg_2 (hg : ∀ r, gr (LG r) = r) {K : Value → Prop} : gf [10] 2 (GW LG gr B M F ex hd C G z) (LG B) K = K (.int (M 68)) := r_gf hg WC_0 (by decide) rfl
theorem wg_3 (hg : ∀ r, gr (LG r) = r) {K : Value → Prop} : gf [10] 3 (GW LG gr B M F ex hd C G z) (LG B) K = K (.int (M 12)) := r_gf hg WC_0 (by decide) rfl
theorem wg_4 (hg : ∀ r, gr (LG r) = r) {K : Value → Prop} : gf [10] 4 (GW LG gr B M F ex hd C G z) (LG B) K = K (.int (M 13)) := r_gf hg WC_0 (by decide) rfl
theorem wg_5 (hg : ∀ r, gr (LG r) = r) {K : Value → Prop} : gf [10] 5 (GW LG gr B M F ex hd C G z) (LG B) K = K (.int (M 69)) := r_gf hg WC_0 (by decide) rfl
theorem wg_6 (hg : ∀ r, gr (LG r) = r) {K : Value → Prop} : gf [10] 6 (GW LG gr B M F ex hd C G z) (LG B) K = K (.ref (LG (B + 3))) := r_gf hg WC_0 (by decide) rfl
theorem wg_7 (hg : ∀ r, gr (LG r) = r) {K : Value → Prop} : gf [10] 7 (GW LG gr B M F ex hd C G z) (LG B) K = K (.ref (LG (B + 6))) := r_gf hg WC_0 (by decide) rfl
theorem wg_8 (hg : ∀ r, gr (LG r) = r) {K : Value → Prop} : gf [10] 8 (GW LG gr B M F ex hd C G z) (LG B) K = K (.ref (LG (B + 9))) := r_gf hg WC_0 (by decide) rfl
theorem wg_9 (hg : ∀ r, gr (LG r) = r) {K : Value → Prop} : gf [10] 9 (GW LG gr B M F ex hd C G z) (LG B) K = K (rfv LG hd) := r_gf hg WC_0 (by decide) rfl
theorem wg_10 (hg : ∀ r, gr (LG r) = r) {K : Value → Prop} : gf [10] 10 (GW LG gr B M F ex hd C G z) (LG B) K = K (.ref (LG (B + 12))) := r_gf hg WC_0 (by decide) rfl
theorem wp_2 (hg : ∀ r, gr (LG r) = r) {v : Int32} {K : HS → Prop} : pf [10] 2 0 (.int v) (GW LG gr B M F ex hd C G z) (LG B) K = K (GW LG gr B (upd M 68 v) F ex hd C G z) := by
  rw [r_pf hg WC_0 (by decide) (by simp) rfl]
  refine congrArg (fun c => K (GH LG gr c G z)) ?_
  exact WC_set (k := 0) (by decide) rfl (wcl_upd (k := 68) (by decide) (by decide) (by decide))
theorem wp_3 (hg : ∀ r, gr (LG r) = r) {v : Int32} {K : HS → Prop} : pf [10] 3 0 (.int v) (GW LG gr B M F ex hd C G z) (LG B) K = K (GW LG gr B (upd M 12 v) F ex hd C G z) := by
  rw [r_pf hg WC_0 (by decide) (by simp) rfl]
  refine congrArg (fun c => K (GH LG gr c G z)) ?_
  exact WC_set (k := 0) (by decide) rfl (wcl_upd (k := 12) (by decide) (by decide) (by decide))
theorem wp_4 (hg : ∀ r, gr (LG r) = r) {v : Int32} {K : HS → Prop} : pf [10] 4 0 (.int v) (GW LG gr B M F ex hd C G z) (LG B) K = K (GW LG gr B (upd M 13 v) F ex hd C G z) := by
  rw [r_pf hg WC_0 (by decide) (by simp) rfl]
  refine congrArg (fun c => K (GH LG gr c G z)) ?_
  exact WC_set (k := 0) (by decide) rfl (wcl_upd (k := 13) (by decide) (by decide) (by decide))
theorem wp_5 (hg : ∀ r, gr (LG r) = r) {v : Int32} {K : HS → Prop} : pf [10] 5 0 (.int v) (GW LG gr B M F ex hd C G z) (LG B) K = K (GW LG gr B (upd M 69 v) F ex hd C G z) := by
  rw [r_pf hg WC_0 (by decide) (by simp) rfl]
  refine congrArg (fun c => K (GH LG gr c G z)) ?_
  exact WC_set (k := 0) (by decide) rfl (wcl_upd (k := 69) (by decide) (by decide) (by decide))
theorem wp_9 (hg : ∀ r, gr (LG r) = r) {hd' : Option Nat} {K : HS → Prop} : pf [10] 9 2 (rfv LG hd') (GW LG gr B M F ex hd C G z) (LG B) K = K (GW LG gr B M F ex hd' C G z) := by
  rw [r_pf hg WC_0 (by decide) (by simp) rfv_ok]
  refine congrArg (fun c => K (GH LG gr c G z)) ?_
  refine WC_set (k := 0) (by decide) rfl (fun j hj hj25 => ?_)
  match j with
  | 0 => exact absurd rfl hj
  | 1 => rfl
  | 2 => rfl
  | 3 => rfl
  | 4 => rfl
  | 5 => rfl
  | 6 => rfl
  | 7 => rfl
  | 8 => rfl
  | 9 => rfl
  | 10 => rfl
  | 11 => rfl
  | 12 => rfl
  | j + 13 => rfl
theorem wcv (hg : ∀ r, gr (LG r) = r) {y : Nat} {K : Nat → Prop} : cv [(10, y)] (GW LG gr B M F ex hd C G z) (LG B) K = K y := r_cv hg WC_0 rfl
theorem wa_1 (hg : ∀ r, gr (LG r) = r) {i : Int32} {K : Int32 → Prop} : ai 2 i V (GW LG gr B M F ex hd C G z) (LG (B + 1)) K = (ix i 12 ∧ K (M i.toNatClampNeg)) := by
  rw [r_ai hg (r := B + 1) (WC_k 1 (by decide))]
  refine propext (and_congr_right (fun h => ?_))
  have h2 : i.toNatClampNeg < 12 := by
    unfold ix at h
    omega
  rw [ca_at h2, Nat.zero_add, Nat.one_mul]
theorem ws_1 (hg : ∀ r, gr (LG r) = r) {i x : Int32} {K : HS → Prop} : si 2 i x (GW LG gr B M F ex hd C G z) (LG (B + 1)) K = (ix i 12 ∧ K (GW LG gr B (upd M i.toNatClampNeg x) F ex hd C G z)) := by
  rw [r_si hg (r := B + 1) (WC_k 1 (by decide))]
  refine propext (and_congr_right (fun h => ?_))
  have h2 : i.toNatClampNeg < 12 := by
    unfold ix at h
    omega
  rw [ca_upd (by decide) h2, Nat.zero_add, Nat.one_mul]
  refine iff_of_eq (congrArg (fun c => K (GH LG gr c G z)) ?_)
  have ho : own i.toNatClampNeg = 1 := by
    unfold own
    repeat' split
    all_goals omega
  have hw := wcl_upd (LG := LG) (B := B) (M := M) (F := F) (ex := ex) (hd := hd) (k := i.toNatClampNeg) (x := x) (by omega) (by omega) (by omega)
  rw [ho] at hw
  exact WC_set (k := 1) (by decide) rfl hw
theorem wl_1 (hg : ∀ r, gr (LG r) = r) {K : Int32 → Prop} : ln V (GW LG gr B M F ex hd C G z) (LG (B + 1)) K = K (12) := r_ln hg (WC_k 1 (by decide)) (by decide) rfl
theorem wa_4 (hg : ∀ r, gr (LG r) = r) {i : Int32} {K : Int32 → Prop} : ai 2 i V (GW LG gr B M F ex hd C G z) (LG (B + 4)) K = (ix i 5 ∧ K (M (72 + 2 * i.toNatClampNeg))) := by
  rw [r_ai hg (r := B + 4) (WC_k 4 (by decide))]
  refine propext (and_congr_right (fun h => ?_))
  have h2 : i.toNatClampNeg < 5 := by
    unfold ix at h
    omega
  rw [ca_at h2]
theorem ws_4 (hg : ∀ r, gr (LG r) = r) {i x : Int32} {K : HS → Prop} : si 2 i x (GW LG gr B M F ex hd C G z) (LG (B + 4)) K = (ix i 5 ∧ K (GW LG gr B (upd M (72 + 2 * i.toNatClampNeg) x) F ex hd C G z)) := by
  rw [r_si hg (r := B + 4) (WC_k 4 (by decide))]
  refine propext (and_congr_right (fun h => ?_))
  have h2 : i.toNatClampNeg < 5 := by
    unfold ix at h
    omega
  rw [ca_upd (by decide) h2]
  refine iff_of_eq (congrArg (fun c => K (GH LG gr c G z)) ?_)
  have ho : own (72 + 2 * i.toNatClampNeg) = 4 := by
    unfold own
    repeat' split
    all_goals omega
  have hw := wcl_upd (LG := LG) (B := B) (M := M) (F := F) (ex := ex) (hd := hd) (k := (72 + 2 * i.toNatClampNeg)) (x := x) (by omega) (by omega) (by omega)
  rw [ho] at hw
  exact WC_set (k := 4) (by decide) rfl hw
theorem wl_4 (hg : ∀ r, gr (LG r) = r) {K : Int32 → Prop} : ln V (GW LG gr B M F ex hd C G z) (LG (B + 4)) K = K (5) := r_ln hg (WC_k 4 (by decide)) (by decide) rfl
theorem wa_5 (hg : ∀ r, gr (LG r) = r) {i : Int32} {K : Int32 → Prop} : ai 2 i V (GW LG gr B M F ex hd C G z) (LG (B + 5)) K = (ix i 5 ∧ K (M (73 + 2 * i.toNatClampNeg))) := by
  rw [r_ai hg (r := B + 5) (WC_k 5 (by decide))]
  refine propext (and_congr_right (fun h => ?_))
  have h2 : i.toNatClampNeg < 5 := by
    unfold ix at h
    omega
  rw [ca_at h2]
theorem ws_5 (hg : ∀ r, gr (LG r) = r) {i x : Int32} {K : HS → Prop} : si 2 i x (GW LG gr B M F ex hd C G z) (LG (B + 5)) K = (ix i 5 ∧ K (GW LG gr B (upd M (73 + 2 * i.toNatClampNeg) x) F ex hd C G z)) := by
  rw [r_si hg (r := B + 5) (WC_k 5 (by decide))]
  refine propext (and_congr_right (fun h => ?_))
  have h2 : i.toNatClampNeg < 5 := by
    unfold ix at h
    omega
  rw [ca_upd (by decide) h2]
  refine iff_of_eq (congrArg (fun c => K (GH LG gr c G z)) ?_)
  have ho : own (73 + 2 * i.toNatClampNeg) = 5 := by
    unfold own
    repeat' split
    all_goals omega
  have hw := wcl_upd (LG := LG) (B := B) (M := M) (F := F) (ex := ex) (hd := hd) (k := (73 + 2 * i.toNatClampNeg)) (x := x) (by omega) (by omega) (by omega)
  rw [ho] at hw
  exact WC_set (k := 5) (by decide) rfl hw
theorem wl_5 (hg : ∀ r, gr (LG r) = r) {K : Int32 → Prop} : ln V (GW LG gr B M F ex hd C G z) (LG (B + 5)) K = K (5) := r_ln hg (WC_k 5 (by decide)) (by decide) rfl
theorem wa_7 (hg : ∀ r, gr (LG r) = r) {i : Int32} {K : Int32 → Prop} : ai 2 i V (GW LG gr B M F ex hd C G z) (LG (B + 7)) K = (ix i 10 ∧ K (M (83 + 2 * i.toNatClampNeg))) := by
  rw [r_ai hg (r := B + 7) (WC_k 7 (by decide))]
  refine propext (and_congr_right (fun h => ?_))
  have h2 : i.toNatClampNeg < 10 := by
    unfold ix at h
    omega
  rw [ca_at h2]
theorem ws_7 (hg : ∀ r, gr (LG r) = r) {i x : Int32} {K : HS → Prop} : si 2 i x (GW LG gr B M F ex hd C G z) (LG (B + 7)) K = (ix i 10 ∧ K (GW LG gr B (upd M (83 + 2 * i.toNatClampNeg) x) F ex hd C G z)) := by
  rw [r_si hg (r := B + 7) (WC_k 7 (by decide))]
  refine propext (and_congr_right (fun h => ?_))
  have h2 : i.toNatClampNeg < 10 := by
    unfold ix at h
    omega
  rw [ca_upd (by decide) h2]
  refine iff_of_eq (congrArg (fun c => K (GH LG gr c G z)) ?_)
  have ho : own (83 + 2 * i.toNatClampNeg) = 7 := by
    unfold own
    repeat' split
    all_goals omega
  have hw := wcl_upd (LG := LG) (B := B) (M := M) (F := F) (ex := ex) (hd := hd) (k := (83 + 2 * i.toNatClampNeg)) (x := x) (by omega) (by omega) (by omega)
  rw [ho] at hw
  exact WC_set (k := 7) (by decide) rfl hw
theorem wl_7 (hg : ∀ r, gr (LG r) = r) {K : Int32 → Prop} : ln V (GW LG gr B M F ex hd C G z) (LG (B + 7)) K = K (10) := r_ln hg (WC_k 7 (by decide)) (by decide) rfl
theorem wa_8 (hg : ∀ r, gr (LG r) = r) {i : Int32} {K : Int32 → Prop} : ai 2 i V (GW LG gr B M F ex hd C G z) (LG (B + 8)) K = (ix i 10 ∧ K (M (84 + 2 * i.toNatClampNeg))) := by
  rw [r_ai hg (r := B + 8) (WC_k 8 (by decide))]
  refine propext (and_congr_right (fun h => ?_))
  have h2 : i.toNatClampNeg < 10 := by
    unfold ix at h
    omega
  rw [ca_at h2]
theorem ws_8 (hg : ∀ r, gr (LG r) = r) {i x : Int32} {K : HS → Prop} : si 2 i x (GW LG gr B M F ex hd C G z) (LG (B + 8)) K = (ix i 10 ∧ K (GW LG gr B (upd M (84 + 2 * i.toNatClampNeg) x) F ex hd C G z)) := by
  rw [r_si hg (r := B + 8) (WC_k 8 (by decide))]
  refine propext (and_congr_right (fun h => ?_))
  have h2 : i.toNatClampNeg < 10 := by
    unfold ix at h
    omega
  rw [ca_upd (by decide) h2]
  refine iff_of_eq (congrArg (fun c => K (GH LG gr c G z)) ?_)
  have ho : own (84 + 2 * i.toNatClampNeg) = 8 := by
    unfold own
    repeat' split
    all_goals omega
  have hw := wcl_upd (LG := LG) (B := B) (M := M) (F := F) (ex := ex) (hd := hd) (k := (84 + 2 * i.toNatClampNeg)) (x := x) (by omega) (by omega) (by omega)
  rw [ho] at hw
  exact WC_set (k := 8) (by decide) rfl hw
theorem wl_8 (hg : ∀ r, gr (LG r) = r) {K : Int32 → Prop} : ln V (GW LG gr B M F ex hd C G z) (LG (B + 8)) K = K (10) := r_ln hg (WC_k 8 (by decide)) (by decide) rfl
theorem wa_10 (hg : ∀ r, gr (LG r) = r) {i : Int32} {K : Int32 → Prop} : ai 2 i V (GW LG gr B M F ex hd C G z) (LG (B + 10)) K = (ix i 8 ∧ K (M (104 + 2 * i.toNatClampNeg))) := by
  rw [r_ai hg (r := B + 10) (WC_k 10 (by decide))]
  refine propext (and_congr_right (fun h => ?_))
  have h2 : i.toNatClampNeg < 8 := by
    unfold ix at h
    omega
  rw [ca_at h2]
theorem ws_10 (hg : ∀ r, gr (LG r) = r) {i x : Int32} {K : HS → Prop} : si 2 i x (GW LG gr B M F ex hd C G z) (LG (B + 10)) K = (ix i 8 ∧ K (GW LG gr B (upd M (104 + 2 * i.toNatClampNeg) x) F ex hd C G z)) := by
  rw [r_si hg (r := B + 10) (WC_k 10 (by decide))]
  refine propext (and_congr_right (fun h => ?_))
  have h2 : i.toNatClampNeg < 8 := by
    unfold ix at h
    omega
  rw [ca_upd (by decide) h2]
  refine iff_of_eq (congrArg (fun c => K (GH LG gr c G z)) ?_)
  have ho : own (104 + 2 * i.toNatClampNeg) = 10 := by
    unfold own
    repeat' split
    all_goals omega
  have hw := wcl_upd (LG := LG) (B := B) (M := M) (F := F) (ex := ex) (hd := hd) (k := (104 + 2 * i.toNatClampNeg)) (x := x) (by omega) (by omega) (by omega)
  rw [ho] at hw
  exact WC_set (k := 10) (by decide) rfl hw
theorem wl_10 (hg : ∀ r, gr (LG r) = r) {K : Int32 → Prop} : ln V (GW LG gr B M F ex hd C G z) (LG (B + 10)) K = K (8) := r_ln hg (WC_k 10 (by decide)) (by decide) rfl
theorem wa_11 (hg : ∀ r, gr (LG r) = r) {i : Int32} {K : Int32 → Prop} : ai 2 i V (GW LG gr B M F ex hd C G z) (LG (B + 11)) K = (ix i 8 ∧ K (M (105 + 2 * i.toNatClampNeg))) := by
  rw [r_ai hg (r := B + 11) (WC_k 11 (by decide))]
  refine propext (and_congr_right (fun h => ?_))
  have h2 : i.toNatClampNeg < 8 := by
    unfold ix at h
    omega
  rw [ca_at h2]
theorem ws_11 (hg : ∀ r, gr (LG r) = r) {i x : Int32} {K : HS → Prop} : si 2 i x (GW LG gr B M F ex hd C G z) (LG (B + 11)) K = (ix i 8 ∧ K (GW LG gr B (upd M (105 + 2 * i.toNatClampNeg) x) F ex hd C G z)) := by
  rw [r_si hg (r := B + 11) (WC_k 11 (by decide))]
  refine propext (and_congr_right (fun h => ?_))
  have h2 : i.toNatClampNeg < 8 := by
    unfold ix at h
    omega
  rw [ca_upd (by decide) h2]
  refine iff_of_eq (congrArg (fun c => K (GH LG gr c G z)) ?_)
  have ho : own (105 + 2 * i.toNatClampNeg) = 11 := by
    unfold own
    repeat' split
    all_goals omega
  have hw := wcl_upd (LG := LG) (B := B) (M := M) (F := F) (ex := ex) (hd := hd) (k := (105 + 2 * i.toNatClampNeg)) (x := x) (by omega) (by omega) (by omega)
  rw [ho] at hw
  exact WC_set (k := 11) (by decide) rfl hw
theorem wl_11 (hg : ∀ r, gr (LG r) = r) {K : Int32 → Prop} : ln V (GW LG gr B M F ex hd C G z) (LG (B + 11)) K = K (8) := r_ln hg (WC_k 11 (by decide)) (by decide) rfl
theorem wa_12 (hg : ∀ r, gr (LG r) = r) {i : Int32} {K : Int32 → Prop} : ai 2 i V (GW LG gr B M F ex hd C G z) (LG (B + 12)) K = (ix i 6 ∧ K (F i.toNatClampNeg)) := r_ai hg (WC_k 12 (by decide))
theorem ws_12 (hg : ∀ r, gr (LG r) = r) {i x : Int32} {K : HS → Prop} : si 2 i x (GW LG gr B M F ex hd C G z) (LG (B + 12)) K = (ix i 6 ∧ K (GW LG gr B M (upd F i.toNatClampNeg x) ex hd C G z)) := by
  rw [r_si hg (r := B + 12) (WC_k 12 (by decide))]
  refine propext (and_congr_right (fun h => ?_))
  refine iff_of_eq (congrArg (fun c => K (GH LG gr c G z)) ?_)
  refine WC_set (k := 12) (by decide) rfl (fun j hj hj25 => ?_)
  match j with
  | 0 => rfl
  | 1 => rfl
  | 2 => rfl
  | 3 => rfl
  | 4 => rfl
  | 5 => rfl
  | 6 => rfl
  | 7 => rfl
  | 8 => rfl
  | 9 => rfl
  | 10 => rfl
  | 11 => rfl
  | 12 => exact absurd rfl hj
  | j + 13 => rfl
theorem wpe (hg : ∀ r, gr (LG r) = r) {i : Int32} {K : Value → Prop} : aa i (GW LG gr B M F ex hd C G z) (LG (B + 2)) K = (ix i 6 ∧ K (if ex i.toNatClampNeg = true then .ref (LG (B + 13 + i.toNatClampNeg)) else .null)) := by
  rw [r_aa hg (r := B + 2) (WC_k 2 (by decide)) (by decide)]
  refine propext (and_congr_right (fun h => ?_))
  have h2 : i.toNatClampNeg < 6 := by
    unfold ix at h
    omega
  by_cases he : ex i.toNatClampNeg = true
  · rw [if_pos ⟨h2, he⟩, if_pos he]
    rfl
  · rw [if_neg (fun h => he h.2), if_neg he]
    rfl
theorem wrg_3_0 (hg : ∀ r, gr (LG r) = r) {K : Value → Prop} : gf [7] 0 (GW LG gr B M F ex hd C G z) (LG (B + 3)) K = K (.ref (LG (B + 4))) := r_gf hg (WC_k 3 (by decide)) (by decide) rfl
theorem wrg_3_1 (hg : ∀ r, gr (LG r) = r) {K : Value → Prop} : gf [7] 1 (GW LG gr B M F ex hd C G z) (LG (B + 3)) K = K (.ref (LG (B + 5))) := r_gf hg (WC_k 3 (by decide)) (by decide) rfl
theorem wrg_3_2 (hg : ∀ r, gr (LG r) = r) {K : Value → Prop} : gf [7] 2 (GW LG gr B M F ex hd C G z) (LG (B + 3)) K = K (.int (M 71)) := r_gf hg (WC_k 3 (by decide)) (by decide) rfl
theorem wrp_3 (hg : ∀ r, gr (LG r) = r) {v : Int32} {K : HS → Prop} : pf [7] 2 0 (.int v) (GW LG gr B M F ex hd C G z) (LG (B + 3)) K = K (GW LG gr B (upd M 71 v) F ex hd C G z) := by
  rw [r_pf hg (WC_k 3 (by decide)) (by decide) (by simp) rfl]
  refine congrArg (fun c => K (GH LG gr c G z)) ?_
  exact WC_set (k := 3) (by decide) rfl (wcl_upd (k := 71) (by decide) (by decide) (by decide))
theorem wrc_3 (hg : ∀ r, gr (LG r) = r) {y : Nat} {K : Nat → Prop} : cv [(7, y)] (GW LG gr B M F ex hd C G z) (LG (B + 3)) K = K y := r_cv hg (WC_k 3 (by decide)) rfl
theorem wrg_6_0 (hg : ∀ r, gr (LG r) = r) {K : Value → Prop} : gf [7] 0 (GW LG gr B M F ex hd C G z) (LG (B + 6)) K = K (.ref (LG (B + 7))) := r_gf hg (WC_k 6 (by decide)) (by decide) rfl
theorem wrg_6_1 (hg : ∀ r, gr (LG r) = r) {K : Value → Prop} : gf [7] 1 (GW LG gr B M F ex hd C G z) (LG (B + 6)) K = K (.ref (LG (B + 8))) := r_gf hg (WC_k 6 (by decide)) (by decide) rfl
theorem wrg_6_2 (hg : ∀ r, gr (LG r) = r) {K : Value → Prop} : gf [7] 2 (GW LG gr B M F ex hd C G z) (LG (B + 6)) K = K (.int (M 82)) := r_gf hg (WC_k 6 (by decide)) (by decide) rfl
theorem wrp_6 (hg : ∀ r, gr (LG r) = r) {v : Int32} {K : HS → Prop} : pf [7] 2 0 (.int v) (GW LG gr B M F ex hd C G z) (LG (B + 6)) K = K (GW LG gr B (upd M 82 v) F ex hd C G z) := by
  rw [r_pf hg (WC_k 6 (by decide)) (by decide) (by simp) rfl]
  refine congrArg (fun c => K (GH LG gr c G z)) ?_
  exact WC_set (k := 6) (by decide) rfl (wcl_upd (k := 82) (by decide) (by decide) (by decide))
theorem wrc_6 (hg : ∀ r, gr (LG r) = r) {y : Nat} {K : Nat → Prop} : cv [(7, y)] (GW LG gr B M F ex hd C G z) (LG (B + 6)) K = K y := r_cv hg (WC_k 6 (by decide)) rfl
theorem wrg_9_0 (hg : ∀ r, gr (LG r) = r) {K : Value → Prop} : gf [7] 0 (GW LG gr B M F ex hd C G z) (LG (B + 9)) K = K (.ref (LG (B + 10))) := r_gf hg (WC_k 9 (by decide)) (by decide) rfl
theorem wrg_9_1 (hg : ∀ r, gr (LG r) = r) {K : Value → Prop} : gf [7] 1 (GW LG gr B M F ex hd C G z) (LG (B + 9)) K = K (.ref (LG (B + 11))) := r_gf hg (WC_k 9 (by decide)) (by decide) rfl
theorem wrg_9_2 (hg : ∀ r, gr (LG r) = r) {K : Value → Prop} : gf [7] 2 (GW LG gr B M F ex hd C G z) (LG (B + 9)) K = K (.int (M 103)) := r_gf hg (WC_k 9 (by decide)) (by decide) rfl
theorem wrp_9 (hg : ∀ r, gr (LG r) = r) {v : Int32} {K : HS → Prop} : pf [7] 2 0 (.int v) (GW LG gr B M F ex hd C G z) (LG (B + 9)) K = K (GW LG gr B (upd M 103 v) F ex hd C G z) := by
  rw [r_pf hg (WC_k 9 (by decide)) (by decide) (by simp) rfl]
  refine congrArg (fun c => K (GH LG gr c G z)) ?_
  exact WC_set (k := 9) (by decide) rfl (wcl_upd (k := 103) (by decide) (by decide) (by decide))
theorem wrc_9 (hg : ∀ r, gr (LG r) = r) {y : Nat} {K : Nat → Prop} : cv [(7, y)] (GW LG gr B M F ex hd C G z) (LG (B + 9)) K = K y := r_cv hg (WC_k 9 (by decide)) rfl
theorem pg_0 (hg : ∀ r, gr (LG r) = r) {i : Nat} (hi : i < 6) (he : ex i = true) {K : Value → Prop} : gf [1, 2, 3, 4, 5, 6, 8] 0 (GW LG gr B M F ex hd C G z) (LG (B + 13 + i)) K = K (.int (M (14 + 9 * i + 0))) := r_gf hg (WC_p hi he) (kc_in _) rfl
theorem pg_1 (hg : ∀ r, gr (LG r) = r) {i : Nat} (hi : i < 6) (he : ex i = true) {K : Value → Prop} : gf [1, 2, 3, 4, 5, 6, 8] 1 (GW LG gr B M F ex hd C G z) (LG (B + 13 + i)) K = K (.int (nI i)) := r_gf hg (WC_p hi he) (kc_in _) rfl
theorem pg_2 (hg : ∀ r, gr (LG r) = r) {i : Nat} (hi : i < 6) (he : ex i = true) {K : Value → Prop} : gf [1, 2, 3, 4, 5, 6, 8] 2 (GW LG gr B M F ex hd C G z) (LG (B + 13 + i)) K = K (.int (M (14 + 9 * i + 1))) := r_gf hg (WC_p hi he) (kc_in _) rfl
theorem pg_3 (hg : ∀ r, gr (LG r) = r) {i : Nat} (hi : i < 6) (he : ex i = true) {K : Value → Prop} : gf [1, 2, 3, 4, 5, 6, 8] 3 (GW LG gr B M F ex hd C G z) (LG (B + 13 + i)) K = K (.int (M (14 + 9 * i + 2))) := r_gf hg (WC_p hi he) (kc_in _) rfl
theorem pg_4 (hg : ∀ r, gr (LG r) = r) {i : Nat} (hi : i < 6) (he : ex i = true) {K : Value → Prop} : gf [1, 2, 3, 4, 5, 6, 8] 4 (GW LG gr B M F ex hd C G z) (LG (B + 13 + i)) K = K (.int (M (14 + 9 * i + 3))) := r_gf hg (WC_p hi he) (kc_in _) rfl
theorem pg_5 (hg : ∀ r, gr (LG r) = r) {i : Nat} (hi : i < 6) (he : ex i = true) {K : Value → Prop} : gf [1, 2, 3, 4, 5, 6, 8] 5 (GW LG gr B M F ex hd C G z) (LG (B + 13 + i)) K = K (.int (M (14 + 9 * i + 4))) := r_gf hg (WC_p hi he) (kc_in _) rfl
theorem pp_2 (hg : ∀ r, gr (LG r) = r) {i : Nat} (hi : i < 6) (he : ex i = true) {v : Int32} {K : HS → Prop} : pf [1, 2, 3, 4, 5, 6, 8] 2 0 (.int v) (GW LG gr B M F ex hd C G z) (LG (B + 13 + i)) K = K (GW LG gr B (upd M (14 + 9 * i + 1) v) F ex hd C G z) := by
  rw [r_pf hg (WC_p hi he) (kc_in _) (by simp [pfs]) rfl]
  refine congrArg (fun c => K (GH LG gr c G z)) ?_
  rw [show B + 13 + i = B + (i + 13) by omega]
  refine WC_set (k := i + 13) (by omega) ?_ (fun j hj hj25 => wcl_updp (w := 1) hi (by decide) (by decide) j (by rw [if_pos (by decide)]; omega) hj25)
  simp only [wcl]
  rw [if_pos hi, if_pos he]
  have e : ∀ q, q ≠ 1 → upd M (14 + 9 * i + 1) v (14 + 9 * i + q) = M (14 + 9 * i + q) := fun q hq => pk_un (by omega)
  simp only [pfs, e 0 (by decide), e 2 (by decide), e 3 (by decide), e 4 (by decide), pk_us]
  rfl
theorem pp_3 (hg : ∀ r, gr (LG r) = r) {i : Nat} (hi : i < 6) (he : ex i = true) {v : Int32} {K : HS → Prop} : pf [1, 2, 3, 4, 5, 6, 8] 3 0 (.int v) (GW LG gr B M F ex hd C G z) (LG (B + 13 + i)) K = K (GW LG gr B (upd M (14 + 9 * i + 2) v) F ex hd C G z) := by
  rw [r_pf hg (WC_p hi he) (kc_in _) (by simp [pfs]) rfl]
  refine congrArg (fun c => K (GH LG gr c G z)) ?_
  rw [show B + 13 + i = B + (i + 13) by omega]
  refine WC_set (k := i + 13) (by omega) ?_ (fun j hj hj25 => wcl_updp (w := 2) hi (by decide) (by decide) j (by rw [if_pos (by decide)]; omega) hj25)
  simp only [wcl]
  rw [if_pos hi, if_pos he]
  have e : ∀ q, q ≠ 2 → upd M (14 + 9 * i + 2) v (14 + 9 * i + q) = M (14 + 9 * i + q) := fun q hq => pk_un (by omega)
  simp only [pfs, e 0 (by decide), e 1 (by decide), e 3 (by decide), e 4 (by decide), pk_us]
  rfl
theorem pp_4 (hg : ∀ r, gr (LG r) = r) {i : Nat} (hi : i < 6) (he : ex i = true) {v : Int32} (hv : okv 1 (.int v) = true) {K : HS → Prop} : pf [1, 2, 3, 4, 5, 6, 8] 4 1 (.int v) (GW LG gr B M F ex hd C G z) (LG (B + 13 + i)) K = K (GW LG gr B (upd M (14 + 9 * i + 3) v) F ex hd C G z) := by
  rw [r_pf hg (WC_p hi he) (kc_in _) (by simp [pfs]) hv]
  refine congrArg (fun c => K (GH LG gr c G z)) ?_
  rw [show B + 13 + i = B + (i + 13) by omega]
  refine WC_set (k := i + 13) (by omega) ?_ (fun j hj hj25 => wcl_updp (w := 3) hi (by decide) (by decide) j (by rw [if_pos (by decide)]; omega) hj25)
  simp only [wcl]
  rw [if_pos hi, if_pos he]
  have e : ∀ q, q ≠ 3 → upd M (14 + 9 * i + 3) v (14 + 9 * i + q) = M (14 + 9 * i + q) := fun q hq => pk_un (by omega)
  simp only [pfs, e 0 (by decide), e 1 (by decide), e 2 (by decide), e 4 (by decide), pk_us]
  rfl
theorem pp_5 (hg : ∀ r, gr (LG r) = r) {i : Nat} (hi : i < 6) (he : ex i = true) {v : Int32} {K : HS → Prop} : pf [1, 2, 3, 4, 5, 6, 8] 5 0 (.int v) (GW LG gr B M F ex hd C G z) (LG (B + 13 + i)) K = K (GW LG gr B (upd M (14 + 9 * i + 4) v) F ex hd C G z) := by
  rw [r_pf hg (WC_p hi he) (kc_in _) (by simp [pfs]) rfl]
  refine congrArg (fun c => K (GH LG gr c G z)) ?_
  rw [show B + 13 + i = B + (i + 13) by omega]
  refine WC_set (k := i + 13) (by omega) ?_ (fun j hj hj25 => wcl_updp (w := 4) hi (by decide) (by decide) j (by rw [if_pos (by decide)]; omega) hj25)
  simp only [wcl]
  rw [if_pos hi, if_pos he]
  have e : ∀ q, q ≠ 4 → upd M (14 + 9 * i + 4) v (14 + 9 * i + q) = M (14 + 9 * i + q) := fun q hq => pk_un (by omega)
  simp only [pfs, e 0 (by decide), e 1 (by decide), e 2 (by decide), e 3 (by decide), pk_us]
  rfl
theorem pg_6 (hg : ∀ r, gr (LG r) = r) {i : Nat} (hi : i < 6) (he : ex i = true) (hk : M (14 + 9 * i + 0) = 6) {K : Value → Prop} : gf [8] 6 (GW LG gr B M F ex hd C G z) (LG (B + 13 + i)) K = K (.ref (LG (B + 19 + i))) := r_gf hg (WC_p hi he) (by rw [hk]; decide) (by simp only [pfs, hk, if_true]; rfl)
theorem pa_m (hg : ∀ r, gr (LG r) = r) {i : Nat} (hi : i < 6) (he : ex i = true) (hk : M (14 + 9 * i + 0) = 6) {j : Int32} {K : Int32 → Prop} : ai 2 j V (GW LG gr B M F ex hd C G z) (LG (B + 19 + i)) K = (ix j 4 ∧ K (M (14 + 9 * i + (5 + j.toNatClampNeg)))) := by
  rw [r_ai hg (WC_m hi he hk)]
  refine propext (and_congr_right (fun h => ?_))
  have h2 : j.toNatClampNeg < 4 := by
    unfold ix at h
    omega
  rw [ca_at h2, show 14 + 9 * i + 5 + 1 * j.toNatClampNeg = 14 + 9 * i + (5 + j.toNatClampNeg) by omega]
theorem ps_m (hg : ∀ r, gr (LG r) = r) {i : Nat} (hi : i < 6) (he : ex i = true) (hk : M (14 + 9 * i + 0) = 6) {j x : Int32} {K : HS → Prop} : si 2 j x (GW LG gr B M F ex hd C G z) (LG (B + 19 + i)) K = (ix j 4 ∧ K (GW LG gr B (upd M (14 + 9 * i + (5 + j.toNatClampNeg)) x) F ex hd C G z)) := by
  rw [r_si hg (WC_m hi he hk)]
  refine propext (and_congr_right (fun h => ?_))
  have h2 : j.toNatClampNeg < 4 := by
    unfold ix at h
    omega
  rw [ca_upd (by decide) h2]
  refine iff_of_eq (congrArg (fun c => K (GH LG gr c G z)) ?_)
  rw [show B + 19 + i = B + (i + 6 + 13) by omega, show 14 + 9 * i + 5 + 1 * j.toNatClampNeg = 14 + 9 * i + (5 + j.toNatClampNeg) by omega]
  refine WC_set (k := i + 6 + 13) (by omega) ?_ (fun q hq hq25 => wcl_updp (w := 5 + j.toNatClampNeg) hi (by omega) (by omega) q (by rw [if_neg (by omega)]; omega) hq25)
  simp only [wcl]
  rw [if_neg (by omega), Nat.add_sub_cancel, pk_un (by omega), if_pos ⟨he, hk⟩]
theorem pio (hg : ∀ r, gr (LG r) = r) {i : Nat} (hi : i < 6) (he : ex i = true) {K : Int32 → Prop} : io [8] [1, 2, 3, 4, 5, 6] (GW LG gr B M F ex hd C G z) (LG (B + 13 + i)) K = (if M (14 + 9 * i + 0) = 6 then K 1 else K 0) := by
  rw [r_io hg (WC_p hi he)]
  by_cases h6 : M (14 + 9 * i + 0) = 6
  · rw [if_pos h6, h6]
    exact if_pos (by decide)
  · rw [if_neg h6, if_neg, if_pos]
    · unfold kc
      repeat' split
      all_goals first | decide | contradiction
    · unfold kc
      repeat' split
      all_goals first | decide | contradiction
theorem pco (hg : ∀ r, gr (LG r) = r) {i : Nat} (hi : i < 6) (he : ex i = true) (hk : M (14 + 9 * i + 0) = 6) {K : Prop} : co [8] (GW LG gr B M F ex hd C G z) (LG (B + 13 + i)) K = K := by
  rw [r_co hg (WC_p hi he), hk]
  exact propext ⟨fun h => h.2, fun h => ⟨by decide, h⟩⟩
theorem pcv (hg : ∀ r, gr (LG r) = r) {i : Nat} (hi : i < 6) (he : ex i = true) {tab : List (Nat × Nat)} {K : Nat → Prop} : cv tab (GW LG gr B M F ex hd C G z) (LG (B + 13 + i)) K = cvk tab (M (14 + 9 * i + 0)) K := by
  simp only [cv, GH_at hg (WC_p (C := C) (LG := LG) (B := B) (M := M) (F := F) (hd := hd) hi he), cvk]
  cases tabl tab (kc (M (14 + 9 * i + 0))) <;> rfl
end
