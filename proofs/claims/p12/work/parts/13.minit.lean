/-! ===== THE REFERENCE: its constructor ===== -/
/-- the array that is made as the j-th cell behind the object -/
def mArr (j : Nat) : hC := if j < 11 then .inl (0, 10, fun _ => .int 0) else if j = 11 then .inl (1, 10, fun _ => .long 0) else .inl (1, 432, fun _ => .long 0)
/-- half made: the fields, k arrays -/
def hq (b : Nat) (fs : List Value) (k : Nat) (h0 : hH) : hH := fun q => if q = b then some (.inr (5, fs)) else if b < q ∧ q ≤ b + k then some (mArr (q - b)) else h0 q
theorem hq_o {b : Nat} {fs : List Value} {k : Nat} {h0 : hH} : hq b fs k h0 b = some (.inr (5, fs)) := by simp [hq]
theorem hq_put {b : Nat} {fs gs : List Value} {k : Nat} {h0 : hH} : hup (hq b fs k h0) b (.inr (5, gs)) = hq b gs k h0 := by
  funext q
  by_cases hb : q = b
  · simp [hup, hq, hb]
  · simp [hup, hq, hb]
theorem hq_new {b : Nat} {fs : List Value} (k : Nat) {h0 : hH} : hup (hq b fs k h0) (b + (k + 1)) (mArr (k + 1)) = hq b fs (k + 1) h0 := by
  funext q
  by_cases hb : q = b + (k + 1)
  · subst hb
    have h1 : ¬ b + (k + 1) = b := by omega
    simp [hup, hq, h1]
  · by_cases h1 : q = b
    · simp [hup, hq, h1]
    · simp only [hup, hq, hb, h1, if_false]
      by_cases h2 : b < q ∧ q ≤ b + k
      · rw [if_pos h2, if_pos (by omega)]
      · rw [if_neg h2, if_neg (by omega)]
def mR (rows : Int32) : Nat := if rows < 2 ∨ 48 < rows then 16 else rows.toNatClampNeg
def mN (disks : Int32) : Nat := if disks < 3 ∨ 7 < disks then 4 else disks.toNatClampNeg
theorem mR_v (rows : Int32) : nI (mR rows) = if rows < 2 ∨ 48 < rows then 16 else rows := by
  unfold mR
  split
  · rfl
  · rename_i h
    simp only [not_or, Int32.not_lt] at h
    obtain ⟨j, hj, e⟩ := nI_of2 (x := rows) (M := 48) (n := 48) (by decide) (by intro q; exact absurd (Int32.le_trans h.1 (Int32.le_of_lt q)) (by decide)) h.2
    rw [e, nI_clamp (by omega)]
theorem mN_v (disks : Int32) : nI (mN disks) = if disks < 3 ∨ 7 < disks then 4 else disks := by
  unfold mN
  split
  · rfl
  · rename_i h
    simp only [not_or, Int32.not_lt] at h
    obtain ⟨j, hj, e⟩ := nI_of2 (x := disks) (M := 7) (n := 7) (by decide) (by intro q; exact absurd (Int32.le_trans h.1 (Int32.le_of_lt q)) (by decide)) h.2
    rw [e, nI_clamp (by omega)]
theorem mN_le (disks : Int32) : 3 ≤ mN disks ∧ mN disks ≤ 7 := by
  unfold mN
  split
  · decide
  · rename_i h
    simp only [not_or, Int32.not_lt] at h
    have h1 := Int32.le_iff_toInt_le.mp h.1
    have h2 := Int32.le_iff_toInt_le.mp h.2
    have e1 : (3 : Int32).toInt = 3 := by decide
    have e2 : (7 : Int32).toInt = 7 := by decide
    show 3 ≤ disks.toInt.toNat ∧ disks.toInt.toNat ≤ 7
    omega
theorem mR_le (rows : Int32) : 2 ≤ mR rows ∧ mR rows ≤ 48 := by
  unfold mR
  split
  · decide
  · rename_i h
    simp only [not_or, Int32.not_lt] at h
    have h1 := Int32.le_iff_toInt_le.mp h.1
    have h2 := Int32.le_iff_toInt_le.mp h.2
    have e1 : (2 : Int32).toInt = 2 := by decide
    have e2 : (48 : Int32).toInt = 48 := by decide
    show 2 ≤ rows.toInt.toNat ∧ rows.toInt.toNat ≤ 48
    omega
/-- the state before the supers are told -/
def mt00 : MS := (fun i => if i = 5 then 1 else if i = 6 then -1 else 0, fun _ _ => 0, fun _ _ => 0)
theorem hq_fin (b R nd : Nat) (h0 : hH) : hq b [.int 0, .int (nI R), .int (nI nd), .ref (b + 1), .ref (b + 2), .ref (b + 3), .ref (b + 4), .ref (b + 5), .ref (b + 6), .ref (b + 7), .ref (b + 8), .ref (b + 9), .ref (b + 10), .ref (b + 11), .int 0, .int 0, .int 0, .int 0, .int 1, .int (-1), .int 0, .int 0, .int 0, .int 0, .int 0, .ref (b + 12)] 12 h0 = mput b R nd mt00 h0 := by
  funext q
  unfold hq mput
  by_cases h1 : q = b
  · rw [if_pos h1, if_pos h1]; rfl
  · rw [if_neg h1, if_neg h1]
    by_cases h2 : b < q ∧ q < b + 11
    · rw [if_pos (by omega), if_pos h2]
      simp [mArr, mt00, show q - b < 11 by omega]
    · rw [if_neg h2]
      by_cases h3 : q = b + 11
      · subst h3; simp [mArr, mt00]
      · rw [if_neg h3]
        by_cases h4 : q = b + 12
        · subst h4; simp [mArr, mt00]
        · rw [if_neg h4, if_neg (by omega)]
abbrev mF0 : List Value := [.int 0, .int 0, .int 0, .null, .null, .null, .null, .null, .null, .null, .null, .null, .null, .null, .int 0, .int 0, .int 0, .int 0, .int 0, .int 0, .int 0, .int 0, .int 0, .int 0, .int 0, .null]
def mg_init_175 (R nd : Nat) : Nat → Nat → MS → MS
  | 0, _, t1 => t1
  | j + 1, k, t1 =>
    if (nI nd) ≤ (nI k) then
      t1
    else
      mg_init_175 R nd  j (k + 1)  (mf_tells R nd t1 (nI k) 1 (t1.1 2) (t1.1 3) 0)
def mf_init (R nd : Nat) : MS :=
  mg_init_175 R nd  (nd + 1) 0  (si (si (si mt00 1 1) 2 (nI nd)) 3 (nI nd))
set_option maxRecDepth 20000 in
set_option maxHeartbeats 4000000 in
theorem mc_init (l : Launch) (D : hD) (H0 : Heap) (b : Nat) (h0 : hH) (disks rows : Int32) : cM l D H0 yX5_init cX5_init 4 none 1 25 12 542 [.ref b, .int disks, .int rows] (hq b mF0 0 h0) (b + 1) (cE none (mput b (mR rows) (mN disks) (mf_init (mR rows) (mN disks)) h0) (b + 13)) := by
  have hnd : mN disks ≤ 10 := by have := mN_le disks; omega
  refine h_met (by decide) (Nat.le_of_ble_eq_true rfl) ?_
  intro p e s m below meth c H ls X hnm hr hz hl
  have hl : lv_has ls 4 [(0, .ref b), (1, .int disks), (2, .int rows)] := hl
  have hlo : hL H0 ([] : List Loc) := hL.nil
  refine lv_aload_n X.x X.b dX5_init_0 rfl (lv_at hl 0 rfl) ?_
  refine h_objInit X ml_X5_1 im_obj cd_obj hl.1 (Nat.le_of_ble_eq_true rfl) (Nat.le_of_ble_eq_true rfl) dX5_init_1 ?_
  refine lv_aload_n X.x X.b dX5_init_4 rfl (lv_at hl 0 rfl) ?_
  refine lv_bipush (v := 10) X.x X.b dX5_init_5 (by decide) ?_
  refine h_newI X hr hz ac_int (N := 10) (by decide) (by decide) (by decide) (Nat.le_of_ble_eq_true rfl) (Nat.le_of_ble_eq_true rfl) dX5_init_7 (fun H hr hz => ?_)
  have hr : hR D H0 (hup (hq b [.int 0, .int 0, .int 0, .null, .null, .null, .null, .null, .null, .null, .null, .null, .null, .null, .int 0, .int 0, .int 0, .int 0, .int 0, .int 0, .int 0, .int 0, .int 0, .int 0, .int 0, .null] 0 h0) (b + (0 + 1)) (mArr (0 + 1))) H := hr
  rw [hq_new] at hr
  have hz : H.size = b + 2 := hz
  refine h_putF X hr hz hlo fd_X5_9 tyX5 tyX5_ok nmX5 rfl hnm hq_o (v := .ref (b + 1)) rfl rfl (Nat.le_of_ble_eq_true rfl) dX5_init_9 (fun H locs hr hz hlo => ?_)
  rw [hq_put] at hr
  have hr : hR D H0 (hq b [.int 0, .int 0, .int 0, .ref (b + 1), .null, .null, .null, .null, .null, .null, .null, .null, .null, .null, .int 0, .int 0, .int 0, .int 0, .int 0, .int 0, .int 0, .int 0, .int 0, .int 0, .int 0, .null] 1 h0) H := hr
  refine lv_aload_n X.x X.b dX5_init_12 rfl (lv_at hl 0 rfl) ?_
  refine lv_bipush (v := 10) X.x X.b dX5_init_13 (by decide) ?_
  refine h_newI X hr hz ac_int (N := 10) (by decide) (by decide) (by decide) (Nat.le_of_ble_eq_true rfl) (Nat.le_of_ble_eq_true rfl) dX5_init_15 (fun H hr hz => ?_)
  have hr : hR D H0 (hup (hq b [.int 0, .int 0, .int 0, .ref (b + 1), .null, .null, .null, .null, .null, .null, .null, .null, .null, .null, .int 0, .int 0, .int 0, .int 0, .int 0, .int 0, .int 0, .int 0, .int 0, .int 0, .int 0, .null] 1 h0) (b + (1 + 1)) (mArr (1 + 1))) H := hr
  rw [hq_new] at hr
  have hz : H.size = b + 3 := hz
  refine h_putF X hr hz hlo fd_X5_13 tyX5 tyX5_ok nmX5 rfl hnm hq_o (v := .ref (b + 2)) rfl rfl (Nat.le_of_ble_eq_true rfl) dX5_init_17 (fun H locs hr hz hlo => ?_)
  rw [hq_put] at hr
  have hr : hR D H0 (hq b [.int 0, .int 0, .int 0, .ref (b + 1), .ref (b + 2), .null, .null, .null, .null, .null, .null, .null, .null, .null, .int 0, .int 0, .int 0, .int 0, .int 0, .int 0, .int 0, .int 0, .int 0, .int 0, .int 0, .null] 2 h0) H := hr
  refine lv_aload_n X.x X.b dX5_init_20 rfl (lv_at hl 0 rfl) ?_
  refine lv_bipush (v := 10) X.x X.b dX5_init_21 (by decide) ?_
  refine h_newI X hr hz ac_int (N := 10) (by decide) (by decide) (by decide) (Nat.le_of_ble_eq_true rfl) (Nat.le_of_ble_eq_true rfl) dX5_init_23 (fun H hr hz => ?_)
  have hr : hR D H0 (hup (hq b [.int 0, .int 0, .int 0, .ref (b + 1), .ref (b + 2), .null, .null, .null, .null, .null, .null, .null, .null, .null, .int 0, .int 0, .int 0, .int 0, .int 0, .int 0, .int 0, .int 0, .int 0, .int 0, .int 0, .null] 2 h0) (b + (2 + 1)) (mArr (2 + 1))) H := hr
  rw [hq_new] at hr
  have hz : H.size = b + 4 := hz
  refine h_putF X hr hz hlo fd_X5_16 tyX5 tyX5_ok nmX5 rfl hnm hq_o (v := .ref (b + 3)) rfl rfl (Nat.le_of_ble_eq_true rfl) dX5_init_25 (fun H locs hr hz hlo => ?_)
  rw [hq_put] at hr
  have hr : hR D H0 (hq b [.int 0, .int 0, .int 0, .ref (b + 1), .ref (b + 2), .ref (b + 3), .null, .null, .null, .null, .null, .null, .null, .null, .int 0, .int 0, .int 0, .int 0, .int 0, .int 0, .int 0, .int 0, .int 0, .int 0, .int 0, .null] 3 h0) H := hr
  refine lv_aload_n X.x X.b dX5_init_28 rfl (lv_at hl 0 rfl) ?_
  refine lv_bipush (v := 10) X.x X.b dX5_init_29 (by decide) ?_
  refine h_newI X hr hz ac_int (N := 10) (by decide) (by decide) (by decide) (Nat.le_of_ble_eq_true rfl) (Nat.le_of_ble_eq_true rfl) dX5_init_31 (fun H hr hz => ?_)
  have hr : hR D H0 (hup (hq b [.int 0, .int 0, .int 0, .ref (b + 1), .ref (b + 2), .ref (b + 3), .null, .null, .null, .null, .null, .null, .null, .null, .int 0, .int 0, .int 0, .int 0, .int 0, .int 0, .int 0, .int 0, .int 0, .int 0, .int 0, .null] 3 h0) (b + (3 + 1)) (mArr (3 + 1))) H := hr
  rw [hq_new] at hr
  have hz : H.size = b + 5 := hz
  refine h_putF X hr hz hlo fd_X5_19 tyX5 tyX5_ok nmX5 rfl hnm hq_o (v := .ref (b + 4)) rfl rfl (Nat.le_of_ble_eq_true rfl) dX5_init_33 (fun H locs hr hz hlo => ?_)
  rw [hq_put] at hr
  have hr : hR D H0 (hq b [.int 0, .int 0, .int 0, .ref (b + 1), .ref (b + 2), .ref (b + 3), .ref (b + 4), .null, .null, .null, .null, .null, .null, .null, .int 0, .int 0, .int 0, .int 0, .int 0, .int 0, .int 0, .int 0, .int 0, .int 0, .int 0, .null] 4 h0) H := hr
  refine lv_aload_n X.x X.b dX5_init_36 rfl (lv_at hl 0 rfl) ?_
  refine lv_bipush (v := 10) X.x X.b dX5_init_37 (by decide) ?_
  refine h_newI X hr hz ac_int (N := 10) (by decide) (by decide) (by decide) (Nat.le_of_ble_eq_true rfl) (Nat.le_of_ble_eq_true rfl) dX5_init_39 (fun H hr hz => ?_)
  have hr : hR D H0 (hup (hq b [.int 0, .int 0, .int 0, .ref (b + 1), .ref (b + 2), .ref (b + 3), .ref (b + 4), .null, .null, .null, .null, .null, .null, .null, .int 0, .int 0, .int 0, .int 0, .int 0, .int 0, .int 0, .int 0, .int 0, .int 0, .int 0, .null] 4 h0) (b + (4 + 1)) (mArr (4 + 1))) H := hr
  rw [hq_new] at hr
  have hz : H.size = b + 6 := hz
  refine h_putF X hr hz hlo fd_X5_22 tyX5 tyX5_ok nmX5 rfl hnm hq_o (v := .ref (b + 5)) rfl rfl (Nat.le_of_ble_eq_true rfl) dX5_init_41 (fun H locs hr hz hlo => ?_)
  rw [hq_put] at hr
  have hr : hR D H0 (hq b [.int 0, .int 0, .int 0, .ref (b + 1), .ref (b + 2), .ref (b + 3), .ref (b + 4), .ref (b + 5), .null, .null, .null, .null, .null, .null, .int 0, .int 0, .int 0, .int 0, .int 0, .int 0, .int 0, .int 0, .int 0, .int 0, .int 0, .null] 5 h0) H := hr
  refine lv_aload_n X.x X.b dX5_init_44 rfl (lv_at hl 0 rfl) ?_
  refine lv_bipush (v := 10) X.x X.b dX5_init_45 (by decide) ?_
  refine h_newI X hr hz ac_int (N := 10) (by decide) (by decide) (by decide) (Nat.le_of_ble_eq_true rfl) (Nat.le_of_ble_eq_true rfl) dX5_init_47 (fun H hr hz => ?_)
  have hr : hR D H0 (hup (hq b [.int 0, .int 0, .int 0, .ref (b + 1), .ref (b + 2), .ref (b + 3), .ref (b + 4), .ref (b + 5), .null, .null, .null, .null, .null, .null, .int 0, .int 0, .int 0, .int 0, .int 0, .int 0, .int 0, .int 0, .int 0, .int 0, .int 0, .null] 5 h0) (b + (5 + 1)) (mArr (5 + 1))) H := hr
  rw [hq_new] at hr
  have hz : H.size = b + 7 := hz
  refine h_putF X hr hz hlo fd_X5_25 tyX5 tyX5_ok nmX5 rfl hnm hq_o (v := .ref (b + 6)) rfl rfl (Nat.le_of_ble_eq_true rfl) dX5_init_49 (fun H locs hr hz hlo => ?_)
  rw [hq_put] at hr
  have hr : hR D H0 (hq b [.int 0, .int 0, .int 0, .ref (b + 1), .ref (b + 2), .ref (b + 3), .ref (b + 4), .ref (b + 5), .ref (b + 6), .null, .null, .null, .null, .null, .int 0, .int 0, .int 0, .int 0, .int 0, .int 0, .int 0, .int 0, .int 0, .int 0, .int 0, .null] 6 h0) H := hr
  refine lv_aload_n X.x X.b dX5_init_52 rfl (lv_at hl 0 rfl) ?_
  refine lv_bipush (v := 10) X.x X.b dX5_init_53 (by decide) ?_
  refine h_newI X hr hz ac_int (N := 10) (by decide) (by decide) (by decide) (Nat.le_of_ble_eq_true rfl) (Nat.le_of_ble_eq_true rfl) dX5_init_55 (fun H hr hz => ?_)
  have hr : hR D H0 (hup (hq b [.int 0, .int 0, .int 0, .ref (b + 1), .ref (b + 2), .ref (b + 3), .ref (b + 4), .ref (b + 5), .ref (b + 6), .null, .null, .null, .null, .null, .int 0, .int 0, .int 0, .int 0, .int 0, .int 0, .int 0, .int 0, .int 0, .int 0, .int 0, .null] 6 h0) (b + (6 + 1)) (mArr (6 + 1))) H := hr
  rw [hq_new] at hr
  have hz : H.size = b + 8 := hz
  refine h_putF X hr hz hlo fd_X5_28 tyX5 tyX5_ok nmX5 rfl hnm hq_o (v := .ref (b + 7)) rfl rfl (Nat.le_of_ble_eq_true rfl) dX5_init_57 (fun H locs hr hz hlo => ?_)
  rw [hq_put] at hr
  have hr : hR D H0 (hq b [.int 0, .int 0, .int 0, .ref (b + 1), .ref (b + 2), .ref (b + 3), .ref (b + 4), .ref (b + 5), .ref (b + 6), .ref (b + 7), .null, .null, .null, .null, .int 0, .int 0, .int 0, .int 0, .int 0, .int 0, .int 0, .int 0, .int 0, .int 0, .int 0, .null] 7 h0) H := hr
  refine lv_aload_n X.x X.b dX5_init_60 rfl (lv_at hl 0 rfl) ?_
  refine lv_bipush (v := 10) X.x X.b dX5_init_61 (by decide) ?_
  refine h_newI X hr hz ac_int (N := 10) (by decide) (by decide) (by decide) (Nat.le_of_ble_eq_true rfl) (Nat.le_of_ble_eq_true rfl) dX5_init_63 (fun H hr hz => ?_)
  have hr : hR D H0 (hup (hq b [.int 0, .int 0, .int 0, .ref (b + 1), .ref (b + 2), .ref (b + 3), .ref (b + 4), .ref (b + 5), .ref (b + 6), .ref (b + 7), .null, .null, .null, .null, .int 0, .int 0, .int 0, .int 0, .int 0, .int 0, .int 0, .int 0, .int 0, .int 0, .int 0, .null] 7 h0) (b + (7 + 1)) (mArr (7 + 1))) H := hr
  rw [hq_new] at hr
  have hz : H.size = b + 9 := hz
  refine h_putF X hr hz hlo fd_X5_31 tyX5 tyX5_ok nmX5 rfl hnm hq_o (v := .ref (b + 8)) rfl rfl (Nat.le_of_ble_eq_true rfl) dX5_init_65 (fun H locs hr hz hlo => ?_)
  rw [hq_put] at hr
  have hr : hR D H0 (hq b [.int 0, .int 0, .int 0, .ref (b + 1), .ref (b + 2), .ref (b + 3), .ref (b + 4), .ref (b + 5), .ref (b + 6), .ref (b + 7), .ref (b + 8), .null, .null, .null, .int 0, .int 0, .int 0, .int 0, .int 0, .int 0, .int 0, .int 0, .int 0, .int 0, .int 0, .null] 8 h0) H := hr
  refine lv_aload_n X.x X.b dX5_init_68 rfl (lv_at hl 0 rfl) ?_
  refine lv_bipush (v := 10) X.x X.b dX5_init_69 (by decide) ?_
  refine h_newI X hr hz ac_int (N := 10) (by decide) (by decide) (by decide) (Nat.le_of_ble_eq_true rfl) (Nat.le_of_ble_eq_true rfl) dX5_init_71 (fun H hr hz => ?_)
  have hr : hR D H0 (hup (hq b [.int 0, .int 0, .int 0, .ref (b + 1), .ref (b + 2), .ref (b + 3), .ref (b + 4), .ref (b + 5), .ref (b + 6), .ref (b + 7), .ref (b + 8), .null, .null, .null, .int 0, .int 0, .int 0, .int 0, .int 0, .int 0, .int 0, .int 0, .int 0, .int 0, .int 0, .null] 8 h0) (b + (8 + 1)) (mArr (8 + 1))) H := hr
  rw [hq_new] at hr
  have hz : H.size = b + 10 := hz
  refine h_putF X hr hz hlo fd_X5_34 tyX5 tyX5_ok nmX5 rfl hnm hq_o (v := .ref (b + 9)) rfl rfl (Nat.le_of_ble_eq_true rfl) dX5_init_73 (fun H locs hr hz hlo => ?_)
  rw [hq_put] at hr
  have hr : hR D H0 (hq b [.int 0, .int 0, .int 0, .ref (b + 1), .ref (b + 2), .ref (b + 3), .ref (b + 4), .ref (b + 5), .ref (b + 6), .ref (b + 7), .ref (b + 8), .ref (b + 9), .null, .null, .int 0, .int 0, .int 0, .int 0, .int 0, .int 0, .int 0, .int 0, .int 0, .int 0, .int 0, .null] 9 h0) H := hr
  refine lv_aload_n X.x X.b dX5_init_76 rfl (lv_at hl 0 rfl) ?_
  refine lv_bipush (v := 10) X.x X.b dX5_init_77 (by decide) ?_
  refine h_newI X hr hz ac_int (N := 10) (by decide) (by decide) (by decide) (Nat.le_of_ble_eq_true rfl) (Nat.le_of_ble_eq_true rfl) dX5_init_79 (fun H hr hz => ?_)
  have hr : hR D H0 (hup (hq b [.int 0, .int 0, .int 0, .ref (b + 1), .ref (b + 2), .ref (b + 3), .ref (b + 4), .ref (b + 5), .ref (b + 6), .ref (b + 7), .ref (b + 8), .ref (b + 9), .null, .null, .int 0, .int 0, .int 0, .int 0, .int 0, .int 0, .int 0, .int 0, .int 0, .int 0, .int 0, .null] 9 h0) (b + (9 + 1)) (mArr (9 + 1))) H := hr
  rw [hq_new] at hr
  have hz : H.size = b + 11 := hz
  refine h_putF X hr hz hlo fd_X5_37 tyX5 tyX5_ok nmX5 rfl hnm hq_o (v := .ref (b + 10)) rfl rfl (Nat.le_of_ble_eq_true rfl) dX5_init_81 (fun H locs hr hz hlo => ?_)
  rw [hq_put] at hr
  have hr : hR D H0 (hq b [.int 0, .int 0, .int 0, .ref (b + 1), .ref (b + 2), .ref (b + 3), .ref (b + 4), .ref (b + 5), .ref (b + 6), .ref (b + 7), .ref (b + 8), .ref (b + 9), .ref (b + 10), .null, .int 0, .int 0, .int 0, .int 0, .int 0, .int 0, .int 0, .int 0, .int 0, .int 0, .int 0, .null] 10 h0) H := hr
  refine lv_aload_n X.x X.b dX5_init_84 rfl (lv_at hl 0 rfl) ?_
  refine lv_bipush (v := 10) X.x X.b dX5_init_85 (by decide) ?_
  refine h_newJ X hr hz ac_long (N := 10) (by decide) (by decide) (by decide) (Nat.le_of_ble_eq_true rfl) (Nat.le_of_ble_eq_true rfl) dX5_init_87 (fun H hr hz => ?_)
  have hr : hR D H0 (hup (hq b [.int 0, .int 0, .int 0, .ref (b + 1), .ref (b + 2), .ref (b + 3), .ref (b + 4), .ref (b + 5), .ref (b + 6), .ref (b + 7), .ref (b + 8), .ref (b + 9), .ref (b + 10), .null, .int 0, .int 0, .int 0, .int 0, .int 0, .int 0, .int 0, .int 0, .int 0, .int 0, .int 0, .null] 10 h0) (b + (10 + 1)) (mArr (10 + 1))) H := hr
  rw [hq_new] at hr
  have hz : H.size = b + 12 := hz
  refine h_putF X hr hz hlo fd_X5_40 tyX5 tyX5_ok nmX5 rfl hnm hq_o (v := .ref (b + 11)) rfl rfl (Nat.le_of_ble_eq_true rfl) dX5_init_89 (fun H locs hr hz hlo => ?_)
  rw [hq_put] at hr
  have hr : hR D H0 (hq b [.int 0, .int 0, .int 0, .ref (b + 1), .ref (b + 2), .ref (b + 3), .ref (b + 4), .ref (b + 5), .ref (b + 6), .ref (b + 7), .ref (b + 8), .ref (b + 9), .ref (b + 10), .ref (b + 11), .int 0, .int 0, .int 0, .int 0, .int 0, .int 0, .int 0, .int 0, .int 0, .int 0, .int 0, .null] 11 h0) H := hr
  refine lv_aload_n X.x X.b dX5_init_92 rfl (lv_at hl 0 rfl) ?_
  refine lv_iconst (v := 1) X.x X.b dX5_init_93 (by decide) ?_
  refine h_put X hr hz hlo fd_X5_44 tyX5 tyX5_ok nmX5 rfl hq_o (v := .int 1) rfl rfl (Nat.le_of_ble_eq_true rfl) dX5_init_94 (fun H locs hr hz hlo => ?_)
  rw [hq_put] at hr
  have hr : hR D H0 (hq b [.int 0, .int 0, .int 0, .ref (b + 1), .ref (b + 2), .ref (b + 3), .ref (b + 4), .ref (b + 5), .ref (b + 6), .ref (b + 7), .ref (b + 8), .ref (b + 9), .ref (b + 10), .ref (b + 11), .int 0, .int 0, .int 0, .int 0, .int 1, .int 0, .int 0, .int 0, .int 0, .int 0, .int 0, .null] 11 h0) H := hr
  refine lv_aload_n X.x X.b dX5_init_97 rfl (lv_at hl 0 rfl) ?_
  refine lv_iconst (v := -1) X.x X.b dX5_init_98 (by decide) ?_
  refine h_put X hr hz hlo fd_X5_48 tyX5 tyX5_ok nmX5 rfl hq_o (v := .int (-1)) rfl rfl (Nat.le_of_ble_eq_true rfl) dX5_init_99 (fun H locs hr hz hlo => ?_)
  rw [hq_put] at hr
  have hr : hR D H0 (hq b [.int 0, .int 0, .int 0, .ref (b + 1), .ref (b + 2), .ref (b + 3), .ref (b + 4), .ref (b + 5), .ref (b + 6), .ref (b + 7), .ref (b + 8), .ref (b + 9), .ref (b + 10), .ref (b + 11), .int 0, .int 0, .int 0, .int 0, .int 1, .int (-1), .int 0, .int 0, .int 0, .int 0, .int 0, .null] 11 h0) H := hr
  refine lv_aload_n X.x X.b dX5_init_102 rfl (lv_at hl 0 rfl) ?_
  refine lv_sipush (v := 432) X.x X.b dX5_init_103 (by decide) ?_
  refine h_newJ X hr hz ac_long (N := 432) (by decide) (by decide) (by decide) (Nat.le_of_ble_eq_true rfl) (Nat.le_of_ble_eq_true rfl) dX5_init_106 (fun H hr hz => ?_)
  have hr : hR D H0 (hup (hq b [.int 0, .int 0, .int 0, .ref (b + 1), .ref (b + 2), .ref (b + 3), .ref (b + 4), .ref (b + 5), .ref (b + 6), .ref (b + 7), .ref (b + 8), .ref (b + 9), .ref (b + 10), .ref (b + 11), .int 0, .int 0, .int 0, .int 0, .int 1, .int (-1), .int 0, .int 0, .int 0, .int 0, .int 0, .null] 11 h0) (b + (11 + 1)) (mArr (11 + 1))) H := hr
  rw [hq_new] at hr
  have hz : H.size = b + 13 := hz
  refine h_putF X hr hz hlo fd_X5_52 tyX5 tyX5_ok nmX5 rfl hnm hq_o (v := .ref (b + 12)) rfl rfl (Nat.le_of_ble_eq_true rfl) dX5_init_108 (fun H locs hr hz hlo => ?_)
  rw [hq_put] at hr
  have hr : hR D H0 (hq b [.int 0, .int 0, .int 0, .ref (b + 1), .ref (b + 2), .ref (b + 3), .ref (b + 4), .ref (b + 5), .ref (b + 6), .ref (b + 7), .ref (b + 8), .ref (b + 9), .ref (b + 10), .ref (b + 11), .int 0, .int 0, .int 0, .int 0, .int 1, .int (-1), .int 0, .int 0, .int 0, .int 0, .int 0, .ref (b + 12)] 12 h0) H := hr
  refine lv_aload_n X.x X.b dX5_init_111 rfl (lv_at hl 0 rfl) ?_
  refine lv_iload_n X.x X.b dX5_init_112 rfl (lv_at hl 2 rfl) ?_
  refine lv_iconst (v := 2) X.x X.b dX5_init_113 (by decide) ?_
  suffices key : ∀ v : Int32, v = nI (mR rows) → W p l e (rmk 1 25 12 542) s m ([.ref b, .int disks, .int rows] : List Value).toArray below meth c H locs _ _ (MQ below (cQ D H0 (cE none (mput b (mR rows) (mN disks) (mf_init (mR rows) (mN disks)) h0) (b + 13))) ([.ref b, .int disks, .int rows] : List Value).toArray s 12 542 (hF H0)) (F0 m 129 ls [.int v, .ref b]) by
    refine lv_icmp_lt (tgt := 123) X.x X.b dX5_init_114 (by decide) (fun c1 => ?_) (fun c1 => ?_)
    · refine lv_bipush (v := 16) X.x X.b dX5_init_123 (by decide) ?_
      refine lv_goto (tgt := 129) X.x X.b dX5_init_125 (by decide) ?_
      exact key 16 (by rw [mR_v, if_pos (Or.inl c1)])
    · refine lv_iload_n X.x X.b dX5_init_117 rfl (lv_at hl 2 rfl) ?_
      refine lv_bipush (v := 48) X.x X.b dX5_init_118 (by decide) ?_
      refine lv_icmp_le (tgt := 128) X.x X.b dX5_init_120 (by decide) (fun c2 => ?_) (fun c2 => ?_)
      · refine lv_iload_n X.x X.b dX5_init_128 rfl (lv_at hl 2 rfl) ?_
        exact key rows (by rw [mR_v, if_neg (by simp only [not_or]; exact ⟨c1, Int32.not_lt.mpr c2⟩)])
      · refine lv_bipush (v := 16) X.x X.b dX5_init_123 (by decide) ?_
        refine lv_goto (tgt := 129) X.x X.b dX5_init_125 (by decide) ?_
        exact key 16 (by rw [mR_v, if_pos (Or.inr (Int32.not_le.mp c2))])
  intro v hv
  subst hv
  refine h_putF X hr hz hlo fd_X5_55 tyX5 tyX5_ok nmX5 rfl hnm hq_o (v := .int (nI (mR rows))) rfl rfl (Nat.le_of_ble_eq_true rfl) dX5_init_129 (fun H locs hr hz hlo => ?_)
  rw [hq_put] at hr
  have hr : hR D H0 (hq b [.int 0, .int (nI (mR rows)), .int 0, .ref (b + 1), .ref (b + 2), .ref (b + 3), .ref (b + 4), .ref (b + 5), .ref (b + 6), .ref (b + 7), .ref (b + 8), .ref (b + 9), .ref (b + 10), .ref (b + 11), .int 0, .int 0, .int 0, .int 0, .int 1, .int (-1), .int 0, .int 0, .int 0, .int 0, .int 0, .ref (b + 12)] 12 h0) H := hr
  refine lv_aload_n X.x X.b dX5_init_132 rfl (lv_at hl 0 rfl) ?_
  refine lv_iload_n X.x X.b dX5_init_133 rfl (lv_at hl 1 rfl) ?_
  refine lv_iconst (v := 3) X.x X.b dX5_init_134 (by decide) ?_
  suffices key : ∀ v : Int32, v = nI (mN disks) → W p l e (rmk 1 25 12 542) s m ([.ref b, .int disks, .int rows] : List Value).toArray below meth c H locs _ _ (MQ below (cQ D H0 (cE none (mput b (mR rows) (mN disks) (mf_init (mR rows) (mN disks)) h0) (b + 13))) ([.ref b, .int disks, .int rows] : List Value).toArray s 12 542 (hF H0)) (F0 m 149 ls [.int v, .ref b]) by
    refine lv_icmp_lt (tgt := 144) X.x X.b dX5_init_135 (by decide) (fun c1 => ?_) (fun c1 => ?_)
    · refine lv_iconst (v := 4) X.x X.b dX5_init_144 (by decide) ?_
      refine lv_goto (tgt := 149) X.x X.b dX5_init_145 (by decide) ?_
      exact key 4 (by rw [mN_v, if_pos (Or.inl c1)])
    · refine lv_iload_n X.x X.b dX5_init_138 rfl (lv_at hl 1 rfl) ?_
      refine lv_bipush (v := 7) X.x X.b dX5_init_139 (by decide) ?_
      refine lv_icmp_le (tgt := 148) X.x X.b dX5_init_141 (by decide) (fun c2 => ?_) (fun c2 => ?_)
      · refine lv_iload_n X.x X.b dX5_init_148 rfl (lv_at hl 1 rfl) ?_
        exact key disks (by rw [mN_v, if_neg (by simp only [not_or]; exact ⟨c1, Int32.not_lt.mpr c2⟩)])
      · refine lv_iconst (v := 4) X.x X.b dX5_init_144 (by decide) ?_
        refine lv_goto (tgt := 149) X.x X.b dX5_init_145 (by decide) ?_
        exact key 4 (by rw [mN_v, if_pos (Or.inr (Int32.not_le.mp c2))])
  intro v hv
  subst hv
  refine h_put X hr hz hlo fd_X5_58 tyX5 tyX5_ok nmX5 rfl hq_o (v := .int (nI (mN disks))) rfl rfl (Nat.le_of_ble_eq_true rfl) dX5_init_149 (fun H locs hr hz hlo => ?_)
  rw [hq_put] at hr
  have hr : hR D H0 (hq b [.int 0, .int (nI (mR rows)), .int (nI (mN disks)), .ref (b + 1), .ref (b + 2), .ref (b + 3), .ref (b + 4), .ref (b + 5), .ref (b + 6), .ref (b + 7), .ref (b + 8), .ref (b + 9), .ref (b + 10), .ref (b + 11), .int 0, .int 0, .int 0, .int 0, .int 1, .int (-1), .int 0, .int 0, .int 0, .int 0, .int 0, .ref (b + 12)] 12 h0) H := hr
  rw [hq_fin] at hr
  generalize mR rows = R at hr ⊢
  generalize mN disks = nd at hr hnd ⊢
  obtain ⟨n, hn⟩ : ∃ n, n = b + 13 := ⟨_, rfl⟩
  rw [← hn] at hz ⊢
  have loop175 : ∀ (j k : Nat) (t1 : MS) (hk : k ≤ nd) (hj : nd < k + j) (hG : mf_init R nd = mg_init_175 R nd  j k t1) (H : Heap) (locs : List Loc) (ls : Array Slot), hR D H0 (mput b R nd t1 h0) H → H.size = n → hL H0 locs → lv_has ls 4 [(3, .int (nI k)), (0, .ref b)] → W p l e (rmk 1 25 12 542) s m ([.ref b, .int disks, .int rows] : List Value).toArray below meth c H locs 12 542 (MQ below (cQ D H0 (cE none (mput b R nd (mf_init R nd) h0) n)) ([.ref b, .int disks, .int rows] : List Value).toArray s 12 542 (hF H0)) (F0 m 175 ls []) := by
    intro j
    induction j with
    | zero => intro k t1 hk hj; omega
    | succ j ih =>
      intro k t1 hk hj hG H locs ls hr hz hlo hl
      refine lv_iload_n X.x X.b dX5_init_175 rfl (lv_at hl 0 rfl) ?_
      refine lv_aload_n X.x X.b dX5_init_176 rfl (lv_at hl 1 rfl) ?_
      refine h_get X hr fd_X5_58 mput_o (v := .int (nI nd)) rfl dX5_init_177 ?_
      refine lv_icmp_ge (tgt := 204) X.x X.b dX5_init_180 (by decide) (fun c180 => ?_) (fun c180 => ?_)
      · exact h_vret X hr hz hlo (lfv (hG.trans (by rw [mg_init_175]; rw [if_pos c180]))) (Nat.le_of_ble_eq_true rfl) (Nat.le_of_ble_eq_true rfl) dX5_init_204
      · have hk9 : k < nd := nd_lt c180 (by omega)
        refine lv_aload_n X.x X.b dX5_init_183 rfl (lv_at hl 1 rfl) ?_
        refine lv_iload_n X.x X.b dX5_init_184 rfl (lv_at hl 0 rfl) ?_
        refine lv_iconst (v := 1) X.x X.b dX5_init_185 (by decide) ?_
        refine lv_aload_n X.x X.b dX5_init_186 rfl (lv_at hl 1 rfl) ?_
        refine h_get X hr fd_X5_64 mput_o (v := .int (t1.1 2)) rfl dX5_init_187 ?_
        refine lv_aload_n X.x X.b dX5_init_190 rfl (lv_at hl 1 rfl) ?_
        refine h_get X hr fd_X5_67 mput_o (v := .int (t1.1 3)) rfl dX5_init_191 ?_
        refine lv_iconst (v := 0) X.x X.b dX5_init_194 (by decide) ?_
        refine h_callV X hr hz hlo (rest := []) (mc_tells l D H0 b R nd t1 h0 n (nI k) 1 (t1.1 2) (t1.1 3) 0 hnd (vp_in_nI (by omega) (by decide))) mput_o rfl yv_X5_tells ml_X5_70 ⟨(Nat.le_of_ble_eq_true rfl), (Nat.le_of_ble_eq_true rfl)⟩ (Nat.le_of_ble_eq_true rfl) hl.1 ⟨(Nat.le_of_ble_eq_true rfl), (Nat.le_of_ble_eq_true rfl)⟩ rfl dX5_init_195 (fun v9 h9 n9 H locs hp hr hz hlo => ?_)
        obtain ⟨rfl, rfl, rfl⟩ := hp
        show W p l e _ s m _ below meth c H locs _ _ _ (F0 m 198 ls [])
        refine lv_iinc (v := nI (k + 1)) (lv' := [(3, .int (nI (k + 1))), (0, .ref b)]) X.x X.b dX5_init_198 hl (k := 0) rfl (nI_1 k) (by decide) rfl (fun ls hl => ?_)
        refine lv_goto (tgt := 175) X.x X.b dX5_init_201 (by decide) ?_
        exact ih (k + 1)  (mf_tells R nd t1 (nI k) 1 (t1.1 2) (t1.1 3) 0) (by omega) (by omega) (hG.trans (by rw [mg_init_175]; rw [if_neg c180])) _ _ _ hr hz hlo (lv_sub hl [0, 1] rfl)
  refine W.widen (k := 12) (n := 542) (Nat.le_of_ble_eq_true rfl) (Nat.le_of_ble_eq_true rfl) ?_
  refine lv_aload_n X.x X.b dX5_init_152 rfl (lv_at hl 0 rfl) ?_
  refine lv_iconst (v := 1) X.x X.b dX5_init_153 (by decide) ?_
  refine h_put X hr hz hlo fd_X5_61 tyX5 tyX5_ok nmX5 rfl mput_o (v := .int 1) rfl rfl (Nat.le_of_ble_eq_true rfl) dX5_init_154 (fun H locs hr hz hlo => ?_)
  rw [mput_s1] at hr
  refine lv_aload_n X.x X.b dX5_init_157 rfl (lv_at hl 0 rfl) ?_
  refine lv_aload_n X.x X.b dX5_init_158 rfl (lv_at hl 0 rfl) ?_
  refine h_get X hr fd_X5_58 mput_o (v := .int (nI nd)) rfl dX5_init_159 ?_
  refine h_put X hr hz hlo fd_X5_64 tyX5 tyX5_ok nmX5 rfl mput_o (v := .int (nI nd)) rfl rfl (Nat.le_of_ble_eq_true rfl) dX5_init_162 (fun H locs hr hz hlo => ?_)
  rw [mput_s2] at hr
  refine lv_aload_n X.x X.b dX5_init_165 rfl (lv_at hl 0 rfl) ?_
  refine lv_aload_n X.x X.b dX5_init_166 rfl (lv_at hl 0 rfl) ?_
  refine h_get X hr fd_X5_58 mput_o (v := .int (nI nd)) rfl dX5_init_167 ?_
  refine h_put X hr hz hlo fd_X5_67 tyX5 tyX5_ok nmX5 rfl mput_o (v := .int (nI nd)) rfl rfl (Nat.le_of_ble_eq_true rfl) dX5_init_170 (fun H locs hr hz hlo => ?_)
  rw [mput_s3] at hr
  refine lv_iconst (v := 0) X.x X.b dX5_init_173 (by decide) ?_
  refine lv_istore_n (lv' := [(3, .int 0), (0, .ref b), (1, .int disks), (2, .int rows)]) X.x X.b dX5_init_174 rfl hl (by decide) rfl (fun ls hl => ?_)
  have hl : lv_has ls 4 [(3, .int (nI 0)), (0, .ref b), (1, .int disks), (2, .int rows)] := by rw [nI_0]; exact hl
  exact loop175 (nd + 1) 0  (si (si (si mt00 1 1) 2 (nI nd)) 3 (nI nd)) (by omega) (by omega) (id (by unfold mf_init; rfl)) _ _ _ hr hz hlo (lv_sub hl [0, 1] rfl)
