theorem ne0_1 {x : Int32} (h : ¬ x < 1) : ¬ x = 0 := fun e => h (by rw [e]; decide)
theorem ne0_2 {x : Int32} (h : 2 ≤ x) : ¬ x = 0 := fun e => absurd (e ▸ h) (by decide)
theorem ne1_2 {x : Int32} (h : 2 ≤ x) : ¬ x - 1 = 0 := by
  intro e
  have h1 : x = 1 := by
    have := congrArg (· + 1) e
    simpa using this
  rw [h1] at h
  exact absurd h (by decide)
theorem cl_lt {x : Int32} {k : Nat} (h : ¬ x ≤ nI k) (hk : k ≤ x.toNatClampNeg) : k < x.toNatClampNeg := by
  have hx : x.toNatClampNeg < 2 ^ 31 := by
    have := Int32.toInt_lt x
    show x.toInt.toNat < 2 ^ 31
    omega
  have h1 := Int32.lt_iff_toInt_lt.mp (Int32.not_le.mp h)
  rw [nI_toInt (by omega)] at h1
  show k < x.toInt.toNat
  omega

def gf_4_parityDisk (R nd : Nat) (g : GS) (n0 : Int32) (row : Int32) : Int32 :=
  if n0 < 1 then
    0
  else
    if 0 ≤ row then
      (n0 - 1) - (row - row / n0 * n0)
    else
      0
set_option maxRecDepth 20000 in
set_option maxHeartbeats 4000000 in
theorem gc_4_parityDisk (l : Launch) (D : hD) (H0 : Heap) (a R nd : Nat) (g : GS) (h0 : hH) (n : Nat) (n0 : Int32) (row : Int32) (hnd : nd ≤ 10) (hRR : R ≤ 48)  : cM l D H0 yX4_parityDisk cX4_parityDisk 2 (some .int) 0 0 0 0 [.int n0, .int row] (gput a R nd g h0) n (cE (some (.int (gf_4_parityDisk R nd g n0 row))) (gput a R nd g h0) n) := by
  refine h_met (by decide) (Nat.le_of_ble_eq_true rfl) ?_
  intro p e s m below meth c H ls X hnm hr hz hl
  have hl : lv_has ls 2 [(0, .int n0), (1, .int row)] := hl
  have hlo : hL H0 ([] : List Loc) := hL.nil
  refine lv_iload_n X.x X.b dX4_parityDisk_0 rfl (lv_at hl 0 rfl) ?_
  refine lv_iconst (v := 1) X.x X.b dX4_parityDisk_1 (by decide) ?_
  refine lv_icmp_lt (tgt := 9) X.x X.b dX4_parityDisk_2 (by decide) (fun c2 => ?_) (fun c2 => ?_)
  · refine lv_iconst (v := 0) X.x X.b dX4_parityDisk_9 (by decide) ?_
    refine lv_goto (tgt := 20) X.x X.b dX4_parityDisk_10 (by decide) ?_
    exact h_iret X hr hz hlo (glfip (id (by unfold gf_4_parityDisk; rw [if_pos c2]))) (Nat.le_of_ble_eq_true rfl) (Nat.le_of_ble_eq_true rfl) dX4_parityDisk_20
  · refine lv_iload_n X.x X.b dX4_parityDisk_5 rfl (lv_at hl 1 rfl) ?_
    refine lv_if_ge (tgt := 13) X.x X.b dX4_parityDisk_6 (by decide) (fun c6 => ?_) (fun c6 => ?_)
    · refine lv_iload_n X.x X.b dX4_parityDisk_13 rfl (lv_at hl 0 rfl) ?_
      refine lv_iconst (v := 1) X.x X.b dX4_parityDisk_14 (by decide) ?_
      refine lv_isub X.x X.b dX4_parityDisk_15 ?_
      refine lv_iload_n X.x X.b dX4_parityDisk_16 rfl (lv_at hl 1 rfl) ?_
      refine lv_iload_n X.x X.b dX4_parityDisk_17 rfl (lv_at hl 0 rfl) ?_
      refine lv_irem X.x X.b dX4_parityDisk_18 (ne0_1 c2) ?_
      refine lv_isub X.x X.b dX4_parityDisk_19 ?_
      exact h_iret X hr hz hlo (glfip (id (by unfold gf_4_parityDisk; rw [if_neg c2, if_pos c6]))) (Nat.le_of_ble_eq_true rfl) (Nat.le_of_ble_eq_true rfl) dX4_parityDisk_20
    · refine lv_iconst (v := 0) X.x X.b dX4_parityDisk_9 (by decide) ?_
      refine lv_goto (tgt := 20) X.x X.b dX4_parityDisk_10 (by decide) ?_
      exact h_iret X hr hz hlo (glfip (id (by unfold gf_4_parityDisk; rw [if_neg c2, if_neg c6]))) (Nat.le_of_ble_eq_true rfl) (Nat.le_of_ble_eq_true rfl) dX4_parityDisk_20

def gf_4_rowIn (R nd : Nat) (g : GS) (n0 : Int32) (x : Int32) : Int32 :=
  if 2 ≤ n0 then
    x / (n0 - 1)
  else
    0
set_option maxRecDepth 20000 in
set_option maxHeartbeats 4000000 in
theorem gc_4_rowIn (l : Launch) (D : hD) (H0 : Heap) (a R nd : Nat) (g : GS) (h0 : hH) (n : Nat) (n0 : Int32) (x : Int32) (hnd : nd ≤ 10) (hRR : R ≤ 48)  : cM l D H0 yX4_rowIn cX4_rowIn 2 (some .int) 0 0 0 0 [.int n0, .int x] (gput a R nd g h0) n (cE (some (.int (gf_4_rowIn R nd g n0 x))) (gput a R nd g h0) n) := by
  refine h_met (by decide) (Nat.le_of_ble_eq_true rfl) ?_
  intro p e s m below meth c H ls X hnm hr hz hl
  have hl : lv_has ls 2 [(0, .int n0), (1, .int x)] := hl
  have hlo : hL H0 ([] : List Loc) := hL.nil
  refine lv_iload_n X.x X.b dX4_rowIn_0 rfl (lv_at hl 0 rfl) ?_
  refine lv_iconst (v := 2) X.x X.b dX4_rowIn_1 (by decide) ?_
  refine lv_icmp_ge (tgt := 9) X.x X.b dX4_rowIn_2 (by decide) (fun c2 => ?_) (fun c2 => ?_)
  · refine lv_iload_n X.x X.b dX4_rowIn_9 rfl (lv_at hl 1 rfl) ?_
    refine lv_iload_n X.x X.b dX4_rowIn_10 rfl (lv_at hl 0 rfl) ?_
    refine lv_iconst (v := 1) X.x X.b dX4_rowIn_11 (by decide) ?_
    refine lv_isub X.x X.b dX4_rowIn_12 ?_
    refine lv_idiv X.x X.b dX4_rowIn_13 (ne1_2 c2) ?_
    exact h_iret X hr hz hlo (glfip (id (by unfold gf_4_rowIn; rw [if_pos c2]))) (Nat.le_of_ble_eq_true rfl) (Nat.le_of_ble_eq_true rfl) dX4_rowIn_14
  · refine lv_iconst (v := 0) X.x X.b dX4_rowIn_5 (by decide) ?_
    refine lv_goto (tgt := 14) X.x X.b dX4_rowIn_6 (by decide) ?_
    exact h_iret X hr hz hlo (glfip (id (by unfold gf_4_rowIn; rw [if_neg c2]))) (Nat.le_of_ble_eq_true rfl) (Nat.le_of_ble_eq_true rfl) dX4_rowIn_14

def gf_4_diskIn (R nd : Nat) (g : GS) (n0 : Int32) (x : Int32) : Int32 :=
  if 2 ≤ n0 then
    (((gf_4_parityDisk R nd g n0 (gf_4_rowIn R nd g n0 x)) + 1) + (x - x / (n0 - 1) * (n0 - 1))) - (((gf_4_parityDisk R nd g n0 (gf_4_rowIn R nd g n0 x)) + 1) + (x - x / (n0 - 1) * (n0 - 1))) / n0 * n0
  else
    0
set_option maxRecDepth 20000 in
set_option maxHeartbeats 4000000 in
theorem gc_4_diskIn (l : Launch) (D : hD) (H0 : Heap) (a R nd : Nat) (g : GS) (h0 : hH) (n : Nat) (n0 : Int32) (x : Int32) (hnd : nd ≤ 10) (hRR : R ≤ 48)  : cM l D H0 yX4_diskIn cX4_diskIn 2 (some .int) 1 21 0 0 [.int n0, .int x] (gput a R nd g h0) n (cE (some (.int (gf_4_diskIn R nd g n0 x))) (gput a R nd g h0) n) := by
  refine h_met (by decide) (Nat.le_of_ble_eq_true rfl) ?_
  intro p e s m below meth c H ls X hnm hr hz hl
  have hl : lv_has ls 2 [(0, .int n0), (1, .int x)] := hl
  have hlo : hL H0 ([] : List Loc) := hL.nil
  refine lv_iload_n X.x X.b dX4_diskIn_0 rfl (lv_at hl 0 rfl) ?_
  refine lv_iconst (v := 2) X.x X.b dX4_diskIn_1 (by decide) ?_
  refine lv_icmp_ge (tgt := 9) X.x X.b dX4_diskIn_2 (by decide) (fun c2 => ?_) (fun c2 => ?_)
  · refine lv_iload_n X.x X.b dX4_diskIn_9 rfl (lv_at hl 0 rfl) ?_
    refine lv_iload_n X.x X.b dX4_diskIn_10 rfl (lv_at hl 0 rfl) ?_
    refine lv_iload_n X.x X.b dX4_diskIn_11 rfl (lv_at hl 1 rfl) ?_
    refine h_callS X hr hz hlo (rest := [.int n0]) (gc_4_rowIn l D H0 a R nd g h0 n n0 x hnd hRR  ) ys_X4_rowIn ml_X4_71 ⟨(Nat.le_of_ble_eq_true rfl), (Nat.le_of_ble_eq_true rfl)⟩ (Nat.le_of_ble_eq_true rfl) hl.1 ⟨(Nat.le_of_ble_eq_true rfl), (Nat.le_of_ble_eq_true rfl)⟩ rfl dX4_diskIn_12 (fun v9 h9 n9 H locs hp hr hz hlo => ?_)
    obtain ⟨rfl, rfl, rfl⟩ := hp
    show W p l e _ s m _ below meth c H locs _ _ _ (F0 m 15 ls [.int (gf_4_rowIn R nd g n0 x), .int n0])
    refine h_callS X hr hz hlo (rest := []) (gc_4_parityDisk l D H0 a R nd g h0 n n0 (gf_4_rowIn R nd g n0 x) hnd hRR  ) ys_X4_parityDisk ml_X4_84 ⟨(Nat.le_of_ble_eq_true rfl), (Nat.le_of_ble_eq_true rfl)⟩ (Nat.le_of_ble_eq_true rfl) hl.1 ⟨(Nat.le_of_ble_eq_true rfl), (Nat.le_of_ble_eq_true rfl)⟩ rfl dX4_diskIn_15 (fun v9 h9 n9 H locs hp hr hz hlo => ?_)
    obtain ⟨rfl, rfl, rfl⟩ := hp
    show W p l e _ s m _ below meth c H locs _ _ _ (F0 m 18 ls [.int (gf_4_parityDisk R nd g n0 (gf_4_rowIn R nd g n0 x))])
    refine lv_iconst (v := 1) X.x X.b dX4_diskIn_18 (by decide) ?_
    refine lv_iadd X.x X.b dX4_diskIn_19 ?_
    refine lv_iload_n X.x X.b dX4_diskIn_20 rfl (lv_at hl 1 rfl) ?_
    refine lv_iload_n X.x X.b dX4_diskIn_21 rfl (lv_at hl 0 rfl) ?_
    refine lv_iconst (v := 1) X.x X.b dX4_diskIn_22 (by decide) ?_
    refine lv_isub X.x X.b dX4_diskIn_23 ?_
    refine lv_irem X.x X.b dX4_diskIn_24 (ne1_2 c2) ?_
    refine lv_iadd X.x X.b dX4_diskIn_25 ?_
    refine lv_iload_n X.x X.b dX4_diskIn_26 rfl (lv_at hl 0 rfl) ?_
    refine lv_irem X.x X.b dX4_diskIn_27 (ne0_2 c2) ?_
    exact h_iret X hr hz hlo (glfip (id (by unfold gf_4_diskIn; rw [if_pos c2]))) (Nat.le_of_ble_eq_true rfl) (Nat.le_of_ble_eq_true rfl) dX4_diskIn_28
  · refine lv_iconst (v := 0) X.x X.b dX4_diskIn_5 (by decide) ?_
    refine lv_goto (tgt := 28) X.x X.b dX4_diskIn_6 (by decide) ?_
    exact h_iret X hr hz hlo (glfip (id (by unfold gf_4_diskIn; rw [if_neg c2]))) (Nat.le_of_ble_eq_true rfl) (Nat.le_of_ble_eq_true rfl) dX4_diskIn_28

def gf_4_placeCount (R nd : Nat) (g : GS)  : Int32 :=
  (nI R) * ((g.1 9) - 1)
set_option maxRecDepth 20000 in
set_option maxHeartbeats 4000000 in
theorem gc_4_placeCount (l : Launch) (D : hD) (H0 : Heap) (a R nd : Nat) (g : GS) (h0 : hH) (n : Nat)  (hnd : nd ≤ 10) (hRR : R ≤ 48)  : cM l D H0 yX4_placeCount cX4_placeCount 1 (some .int) 0 0 0 0 [.ref a] (gput a R nd g h0) n (cE (some (.int (gf_4_placeCount R nd g))) (gput a R nd g h0) n) := by
  refine h_met (by decide) (Nat.le_of_ble_eq_true rfl) ?_
  intro p e s m below meth c H ls X hnm hr hz hl
  have hl : lv_has ls 1 [(0, .ref a)] := hl
  have hlo : hL H0 ([] : List Loc) := hL.nil
  refine lv_aload_n X.x X.b dX4_placeCount_0 rfl (lv_at hl 0 rfl) ?_
  refine h_get X hr fd_X4_13 gput_o (v := .int (nI R)) rfl dX4_placeCount_1 ?_
  refine lv_aload_n X.x X.b dX4_placeCount_4 rfl (lv_at hl 0 rfl) ?_
  refine h_get X hr fd_X4_19 gput_o (v := .ref (a + 1)) rfl dX4_placeCount_5 ?_
  refine h_get X hr fd_X4_125 gput_h (v := .int (g.1 9)) rfl dX4_placeCount_8 ?_
  refine lv_iconst (v := 1) X.x X.b dX4_placeCount_11 (by decide) ?_
  refine lv_isub X.x X.b dX4_placeCount_12 ?_
  refine lv_imul X.x X.b dX4_placeCount_13 ?_
  exact h_iret X hr hz hlo (glfip (id (by unfold gf_4_placeCount; rfl))) (Nat.le_of_ble_eq_true rfl) (Nat.le_of_ble_eq_true rfl) dX4_placeCount_14

def gf_4_isPlace (R nd : Nat) (g : GS) (x : Int32) : Int32 :=
  if x < 0 then
    0
  else
    if (gf_4_placeCount R nd g) ≤ x then
      0
    else
      1
set_option maxRecDepth 20000 in
set_option maxHeartbeats 4000000 in
theorem gc_4_isPlace (l : Launch) (D : hD) (H0 : Heap) (a R nd : Nat) (g : GS) (h0 : hH) (n : Nat) (x : Int32) (hnd : nd ≤ 10) (hRR : R ≤ 48)  : cM l D H0 yX4_isPlace cX4_isPlace 2 (some .boolean) 1 20 0 0 [.ref a, .int x] (gput a R nd g h0) n (cE (some (.int (gf_4_isPlace R nd g x))) (gput a R nd g h0) n) := by
  refine h_met (by decide) (Nat.le_of_ble_eq_true rfl) ?_
  intro p e s m below meth c H ls X hnm hr hz hl
  have hl : lv_has ls 2 [(0, .ref a), (1, .int x)] := hl
  have hlo : hL H0 ([] : List Loc) := hL.nil
  refine lv_iload_n X.x X.b dX4_isPlace_0 rfl (lv_at hl 1 rfl) ?_
  refine lv_if_lt (tgt := 16) X.x X.b dX4_isPlace_1 (by decide) (fun c1 => ?_) (fun c1 => ?_)
  · refine lv_iconst (v := 0) X.x X.b dX4_isPlace_16 (by decide) ?_
    exact h_zret X hr hz hlo rfl (glfip (id (by unfold gf_4_isPlace; rw [if_pos c1]))) (Nat.le_of_ble_eq_true rfl) (Nat.le_of_ble_eq_true rfl) dX4_isPlace_17
  · refine lv_iload_n X.x X.b dX4_isPlace_4 rfl (lv_at hl 1 rfl) ?_
    refine lv_aload_n X.x X.b dX4_isPlace_5 rfl (lv_at hl 0 rfl) ?_
    refine h_callV X hr hz hlo (rest := [.int x]) (gc_4_placeCount l D H0 a R nd g h0 n  hnd hRR  ) gput_o rfl yv_X4_placeCount ml_X4_212 ⟨(Nat.le_of_ble_eq_true rfl), (Nat.le_of_ble_eq_true rfl)⟩ (Nat.le_of_ble_eq_true rfl) hl.1 ⟨(Nat.le_of_ble_eq_true rfl), (Nat.le_of_ble_eq_true rfl)⟩ rfl dX4_isPlace_6 (fun v9 h9 n9 H locs hp hr hz hlo => ?_)
    obtain ⟨rfl, rfl, rfl⟩ := hp
    show W p l e _ s m _ below meth c H locs _ _ _ (F0 m 9 ls [.int (gf_4_placeCount R nd g), .int x])
    refine lv_icmp_ge (tgt := 16) X.x X.b dX4_isPlace_9 (by decide) (fun c9 => ?_) (fun c9 => ?_)
    · refine lv_iconst (v := 0) X.x X.b dX4_isPlace_16 (by decide) ?_
      exact h_zret X hr hz hlo rfl (glfip (id (by unfold gf_4_isPlace; rw [if_neg c1, if_pos c9]))) (Nat.le_of_ble_eq_true rfl) (Nat.le_of_ble_eq_true rfl) dX4_isPlace_17
    · refine lv_iconst (v := 1) X.x X.b dX4_isPlace_12 (by decide) ?_
      refine lv_goto (tgt := 17) X.x X.b dX4_isPlace_13 (by decide) ?_
      exact h_zret X hr hz hlo rfl (glfip (id (by unfold gf_4_isPlace; rw [if_neg c1, if_neg c9]))) (Nat.le_of_ble_eq_true rfl) (Nat.le_of_ble_eq_true rfl) dX4_isPlace_17

def gf_4_isReshaped (R nd : Nat) (g : GS)  : Int32 :=
  if (g.1 10) ≤ (g.1 9) then
    0
  else
    1
set_option maxRecDepth 20000 in
set_option maxHeartbeats 4000000 in
theorem gc_4_isReshaped (l : Launch) (D : hD) (H0 : Heap) (a R nd : Nat) (g : GS) (h0 : hH) (n : Nat)  (hnd : nd ≤ 10) (hRR : R ≤ 48)  : cM l D H0 yX4_isReshaped cX4_isReshaped 1 (some .boolean) 0 0 0 0 [.ref a] (gput a R nd g h0) n (cE (some (.int (gf_4_isReshaped R nd g))) (gput a R nd g h0) n) := by
  refine h_met (by decide) (Nat.le_of_ble_eq_true rfl) ?_
  intro p e s m below meth c H ls X hnm hr hz hl
  have hl : lv_has ls 1 [(0, .ref a)] := hl
  have hlo : hL H0 ([] : List Loc) := hL.nil
  refine lv_aload_n X.x X.b dX4_isReshaped_0 rfl (lv_at hl 0 rfl) ?_
  refine h_get X hr fd_X4_19 gput_o (v := .ref (a + 1)) rfl dX4_isReshaped_1 ?_
  refine h_get X hr fd_X4_115 gput_h (v := .int (g.1 10)) rfl dX4_isReshaped_4 ?_
  refine lv_aload_n X.x X.b dX4_isReshaped_7 rfl (lv_at hl 0 rfl) ?_
  refine h_get X hr fd_X4_19 gput_o (v := .ref (a + 1)) rfl dX4_isReshaped_8 ?_
  refine h_get X hr fd_X4_125 gput_h (v := .int (g.1 9)) rfl dX4_isReshaped_11 ?_
  refine lv_icmp_le (tgt := 21) X.x X.b dX4_isReshaped_14 (by decide) (fun c14 => ?_) (fun c14 => ?_)
  · refine lv_iconst (v := 0) X.x X.b dX4_isReshaped_21 (by decide) ?_
    exact h_zret X hr hz hlo rfl (glfip (id (by unfold gf_4_isReshaped; rw [if_pos c14]))) (Nat.le_of_ble_eq_true rfl) (Nat.le_of_ble_eq_true rfl) dX4_isReshaped_22
  · refine lv_iconst (v := 1) X.x X.b dX4_isReshaped_17 (by decide) ?_
    refine lv_goto (tgt := 22) X.x X.b dX4_isReshaped_18 (by decide) ?_
    exact h_zret X hr hz hlo rfl (glfip (id (by unfold gf_4_isReshaped; rw [if_neg c14]))) (Nat.le_of_ble_eq_true rfl) (Nat.le_of_ble_eq_true rfl) dX4_isReshaped_22

def gf_4_isMoved (R nd : Nat) (g : GS) (x : Int32) : Int32 :=
  if ((g.1 11) * ((g.1 10) - 1)) ≤ x then
    0
  else
    1
set_option maxRecDepth 20000 in
set_option maxHeartbeats 4000000 in
theorem gc_4_isMoved (l : Launch) (D : hD) (H0 : Heap) (a R nd : Nat) (g : GS) (h0 : hH) (n : Nat) (x : Int32) (hnd : nd ≤ 10) (hRR : R ≤ 48)  : cM l D H0 yX4_isMoved cX4_isMoved 2 (some .boolean) 0 0 0 0 [.ref a, .int x] (gput a R nd g h0) n (cE (some (.int (gf_4_isMoved R nd g x))) (gput a R nd g h0) n) := by
  refine h_met (by decide) (Nat.le_of_ble_eq_true rfl) ?_
  intro p e s m below meth c H ls X hnm hr hz hl
  have hl : lv_has ls 2 [(0, .ref a), (1, .int x)] := hl
  have hlo : hL H0 ([] : List Loc) := hL.nil
  refine lv_iload_n X.x X.b dX4_isMoved_0 rfl (lv_at hl 1 rfl) ?_
  refine lv_aload_n X.x X.b dX4_isMoved_1 rfl (lv_at hl 0 rfl) ?_
  refine h_get X hr fd_X4_19 gput_o (v := .ref (a + 1)) rfl dX4_isMoved_2 ?_
  refine h_get X hr fd_X4_170 gput_h (v := .int (g.1 11)) rfl dX4_isMoved_5 ?_
  refine lv_aload_n X.x X.b dX4_isMoved_8 rfl (lv_at hl 0 rfl) ?_
  refine h_get X hr fd_X4_19 gput_o (v := .ref (a + 1)) rfl dX4_isMoved_9 ?_
  refine h_get X hr fd_X4_115 gput_h (v := .int (g.1 10)) rfl dX4_isMoved_12 ?_
  refine lv_iconst (v := 1) X.x X.b dX4_isMoved_15 (by decide) ?_
  refine lv_isub X.x X.b dX4_isMoved_16 ?_
  refine lv_imul X.x X.b dX4_isMoved_17 ?_
  refine lv_icmp_ge (tgt := 25) X.x X.b dX4_isMoved_18 (by decide) (fun c18 => ?_) (fun c18 => ?_)
  · refine lv_iconst (v := 0) X.x X.b dX4_isMoved_25 (by decide) ?_
    exact h_zret X hr hz hlo rfl (glfip (id (by unfold gf_4_isMoved; rw [if_pos c18]))) (Nat.le_of_ble_eq_true rfl) (Nat.le_of_ble_eq_true rfl) dX4_isMoved_26
  · refine lv_iconst (v := 1) X.x X.b dX4_isMoved_21 (by decide) ?_
    refine lv_goto (tgt := 26) X.x X.b dX4_isMoved_22 (by decide) ?_
    exact h_zret X hr hz hlo rfl (glfip (id (by unfold gf_4_isMoved; rw [if_neg c18]))) (Nat.le_of_ble_eq_true rfl) (Nat.le_of_ble_eq_true rfl) dX4_isMoved_26

def gf_4_widthOf (R nd : Nat) (g : GS) (x : Int32) : Int32 :=
  if (gf_4_isMoved R nd g x) = 0 then
    g.1 9
  else
    g.1 10
set_option maxRecDepth 20000 in
set_option maxHeartbeats 4000000 in
theorem gc_4_widthOf (l : Launch) (D : hD) (H0 : Heap) (a R nd : Nat) (g : GS) (h0 : hH) (n : Nat) (x : Int32) (hnd : nd ≤ 10) (hRR : R ≤ 48)  : cM l D H0 yX4_widthOf cX4_widthOf 2 (some .int) 1 21 0 0 [.ref a, .int x] (gput a R nd g h0) n (cE (some (.int (gf_4_widthOf R nd g x))) (gput a R nd g h0) n) := by
  refine h_met (by decide) (Nat.le_of_ble_eq_true rfl) ?_
  intro p e s m below meth c H ls X hnm hr hz hl
  have hl : lv_has ls 2 [(0, .ref a), (1, .int x)] := hl
  have hlo : hL H0 ([] : List Loc) := hL.nil
  refine lv_aload_n X.x X.b dX4_widthOf_0 rfl (lv_at hl 0 rfl) ?_
  refine lv_iload_n X.x X.b dX4_widthOf_1 rfl (lv_at hl 1 rfl) ?_
  refine h_callV X hr hz hlo (rest := []) (gc_4_isMoved l D H0 a R nd g h0 n x hnd hRR  ) gput_o rfl yv_X4_isMoved ml_X4_188 ⟨(Nat.le_of_ble_eq_true rfl), (Nat.le_of_ble_eq_true rfl)⟩ (Nat.le_of_ble_eq_true rfl) hl.1 ⟨(Nat.le_of_ble_eq_true rfl), (Nat.le_of_ble_eq_true rfl)⟩ rfl dX4_widthOf_2 (fun v9 h9 n9 H locs hp hr hz hlo => ?_)
  obtain ⟨rfl, rfl, rfl⟩ := hp
  show W p l e _ s m _ below meth c H locs _ _ _ (F0 m 5 ls [.int (gf_4_isMoved R nd g x)])
  refine lv_if_eq (tgt := 18) X.x X.b dX4_widthOf_5 (by decide) (fun c5 => ?_) (fun c5 => ?_)
  · refine lv_aload_n X.x X.b dX4_widthOf_18 rfl (lv_at hl 0 rfl) ?_
    refine h_get X hr fd_X4_19 gput_o (v := .ref (a + 1)) rfl dX4_widthOf_19 ?_
    refine h_get X hr fd_X4_125 gput_h (v := .int (g.1 9)) rfl dX4_widthOf_22 ?_
    exact h_iret X hr hz hlo (glfip (id (by unfold gf_4_widthOf; rw [if_pos c5]))) (Nat.le_of_ble_eq_true rfl) (Nat.le_of_ble_eq_true rfl) dX4_widthOf_25
  · refine lv_aload_n X.x X.b dX4_widthOf_8 rfl (lv_at hl 0 rfl) ?_
    refine h_get X hr fd_X4_19 gput_o (v := .ref (a + 1)) rfl dX4_widthOf_9 ?_
    refine h_get X hr fd_X4_115 gput_h (v := .int (g.1 10)) rfl dX4_widthOf_12 ?_
    refine lv_goto (tgt := 25) X.x X.b dX4_widthOf_15 (by decide) ?_
    exact h_iret X hr hz hlo (glfip (id (by unfold gf_4_widthOf; rw [if_neg c5]))) (Nat.le_of_ble_eq_true rfl) (Nat.le_of_ble_eq_true rfl) dX4_widthOf_25

def gf_4_widthOfRow (R nd : Nat) (g : GS) (x : Int32) : Int32 :=
  if (g.1 11) ≤ x then
    g.1 9
  else
    g.1 10
set_option maxRecDepth 20000 in
set_option maxHeartbeats 4000000 in
theorem gc_4_widthOfRow (l : Launch) (D : hD) (H0 : Heap) (a R nd : Nat) (g : GS) (h0 : hH) (n : Nat) (x : Int32) (hnd : nd ≤ 10) (hRR : R ≤ 48)  : cM l D H0 yX4_widthOfRow cX4_widthOfRow 2 (some .int) 0 0 0 0 [.ref a, .int x] (gput a R nd g h0) n (cE (some (.int (gf_4_widthOfRow R nd g x))) (gput a R nd g h0) n) := by
  refine h_met (by decide) (Nat.le_of_ble_eq_true rfl) ?_
  intro p e s m below meth c H ls X hnm hr hz hl
  have hl : lv_has ls 2 [(0, .ref a), (1, .int x)] := hl
  have hlo : hL H0 ([] : List Loc) := hL.nil
  refine lv_iload_n X.x X.b dX4_widthOfRow_0 rfl (lv_at hl 1 rfl) ?_
  refine lv_aload_n X.x X.b dX4_widthOfRow_1 rfl (lv_at hl 0 rfl) ?_
  refine h_get X hr fd_X4_19 gput_o (v := .ref (a + 1)) rfl dX4_widthOfRow_2 ?_
  refine h_get X hr fd_X4_170 gput_h (v := .int (g.1 11)) rfl dX4_widthOfRow_5 ?_
  refine lv_icmp_ge (tgt := 21) X.x X.b dX4_widthOfRow_8 (by decide) (fun c8 => ?_) (fun c8 => ?_)
  · refine lv_aload_n X.x X.b dX4_widthOfRow_21 rfl (lv_at hl 0 rfl) ?_
    refine h_get X hr fd_X4_19 gput_o (v := .ref (a + 1)) rfl dX4_widthOfRow_22 ?_
    refine h_get X hr fd_X4_125 gput_h (v := .int (g.1 9)) rfl dX4_widthOfRow_25 ?_
    exact h_iret X hr hz hlo (glfip (id (by unfold gf_4_widthOfRow; rw [if_pos c8]))) (Nat.le_of_ble_eq_true rfl) (Nat.le_of_ble_eq_true rfl) dX4_widthOfRow_28
  · refine lv_aload_n X.x X.b dX4_widthOfRow_11 rfl (lv_at hl 0 rfl) ?_
    refine h_get X hr fd_X4_19 gput_o (v := .ref (a + 1)) rfl dX4_widthOfRow_12 ?_
    refine h_get X hr fd_X4_115 gput_h (v := .int (g.1 10)) rfl dX4_widthOfRow_15 ?_
    refine lv_goto (tgt := 28) X.x X.b dX4_widthOfRow_18 (by decide) ?_
    exact h_iret X hr hz hlo (glfip (id (by unfold gf_4_widthOfRow; rw [if_neg c8]))) (Nat.le_of_ble_eq_true rfl) (Nat.le_of_ble_eq_true rfl) dX4_widthOfRow_28

def gf_4_isThere (R nd : Nat) (g : GS) (d0 : Int32) : Int32 :=
  if d0 < 0 then
    0
  else
    if (nI nd) ≤ d0 then
      0
    else
      1
set_option maxRecDepth 20000 in
set_option maxHeartbeats 4000000 in
theorem gc_4_isThere (l : Launch) (D : hD) (H0 : Heap) (a R nd : Nat) (g : GS) (h0 : hH) (n : Nat) (d0 : Int32) (hnd : nd ≤ 10) (hRR : R ≤ 48)  : cM l D H0 yX4_isThere cX4_isThere 2 (some .boolean) 0 0 0 0 [.ref a, .int d0] (gput a R nd g h0) n (cE (some (.int (gf_4_isThere R nd g d0))) (gput a R nd g h0) n) := by
  refine h_met (by decide) (Nat.le_of_ble_eq_true rfl) ?_
  intro p e s m below meth c H ls X hnm hr hz hl
  have hl : lv_has ls 2 [(0, .ref a), (1, .int d0)] := hl
  have hlo : hL H0 ([] : List Loc) := hL.nil
  refine lv_iload_n X.x X.b dX4_isThere_0 rfl (lv_at hl 1 rfl) ?_
  refine lv_if_lt (tgt := 16) X.x X.b dX4_isThere_1 (by decide) (fun c1 => ?_) (fun c1 => ?_)
  · refine lv_iconst (v := 0) X.x X.b dX4_isThere_16 (by decide) ?_
    exact h_zret X hr hz hlo rfl (glfip (id (by unfold gf_4_isThere; rw [if_pos c1]))) (Nat.le_of_ble_eq_true rfl) (Nat.le_of_ble_eq_true rfl) dX4_isThere_17
  · refine lv_iload_n X.x X.b dX4_isThere_4 rfl (lv_at hl 1 rfl) ?_
    refine lv_aload_n X.x X.b dX4_isThere_5 rfl (lv_at hl 0 rfl) ?_
    refine h_get X hr fd_X4_7 gput_o (v := .int (nI nd)) rfl dX4_isThere_6 ?_
    refine lv_icmp_ge (tgt := 16) X.x X.b dX4_isThere_9 (by decide) (fun c9 => ?_) (fun c9 => ?_)
    · refine lv_iconst (v := 0) X.x X.b dX4_isThere_16 (by decide) ?_
      exact h_zret X hr hz hlo rfl (glfip (id (by unfold gf_4_isThere; rw [if_neg c1, if_pos c9]))) (Nat.le_of_ble_eq_true rfl) (Nat.le_of_ble_eq_true rfl) dX4_isThere_17
    · refine lv_iconst (v := 1) X.x X.b dX4_isThere_12 (by decide) ?_
      refine lv_goto (tgt := 17) X.x X.b dX4_isThere_13 (by decide) ?_
      exact h_zret X hr hz hlo rfl (glfip (id (by unfold gf_4_isThere; rw [if_neg c1, if_neg c9]))) (Nat.le_of_ble_eq_true rfl) (Nat.le_of_ble_eq_true rfl) dX4_isThere_17

def gf_4_isSpare (R nd : Nat) (g : GS) (d0 : Int32) : Int32 :=
  if d0 < (g.1 10) then
    0
  else
    1
set_option maxRecDepth 20000 in
set_option maxHeartbeats 4000000 in
theorem gc_4_isSpare (l : Launch) (D : hD) (H0 : Heap) (a R nd : Nat) (g : GS) (h0 : hH) (n : Nat) (d0 : Int32) (hnd : nd ≤ 10) (hRR : R ≤ 48)  : cM l D H0 yX4_isSpare cX4_isSpare 2 (some .boolean) 0 0 0 0 [.ref a, .int d0] (gput a R nd g h0) n (cE (some (.int (gf_4_isSpare R nd g d0))) (gput a R nd g h0) n) := by
  refine h_met (by decide) (Nat.le_of_ble_eq_true rfl) ?_
  intro p e s m below meth c H ls X hnm hr hz hl
  have hl : lv_has ls 2 [(0, .ref a), (1, .int d0)] := hl
  have hlo : hL H0 ([] : List Loc) := hL.nil
  refine lv_iload_n X.x X.b dX4_isSpare_0 rfl (lv_at hl 1 rfl) ?_
  refine lv_aload_n X.x X.b dX4_isSpare_1 rfl (lv_at hl 0 rfl) ?_
  refine h_get X hr fd_X4_19 gput_o (v := .ref (a + 1)) rfl dX4_isSpare_2 ?_
  refine h_get X hr fd_X4_115 gput_h (v := .int (g.1 10)) rfl dX4_isSpare_5 ?_
  refine lv_icmp_lt (tgt := 15) X.x X.b dX4_isSpare_8 (by decide) (fun c8 => ?_) (fun c8 => ?_)
  · refine lv_iconst (v := 0) X.x X.b dX4_isSpare_15 (by decide) ?_
    exact h_zret X hr hz hlo rfl (glfip (id (by unfold gf_4_isSpare; rw [if_pos c8]))) (Nat.le_of_ble_eq_true rfl) (Nat.le_of_ble_eq_true rfl) dX4_isSpare_16
  · refine lv_iconst (v := 1) X.x X.b dX4_isSpare_11 (by decide) ?_
    refine lv_goto (tgt := 16) X.x X.b dX4_isSpare_12 (by decide) ?_
    exact h_zret X hr hz hlo rfl (glfip (id (by unfold gf_4_isSpare; rw [if_neg c8]))) (Nat.le_of_ble_eq_true rfl) (Nat.le_of_ble_eq_true rfl) dX4_isSpare_16

theorem gx_there {R nd : Nat} {g : GS} {d0 : Int32} (h : ¬ gf_4_isThere R nd g d0 = 0) (hnd : nd ≤ 10) : vp_in d0 10 := by
  unfold gf_4_isThere at h
  split at h
  · exact absurd rfl h
  · split at h
    · exact absurd rfl h
    · rename_i c1 c2
      exact ix_of c1 c2 hnd (by decide)

def gf_4_isLive (R nd : Nat) (g : GS) (d0 : Int32) : Int32 :=
  if (gf_4_isThere R nd g d0) = 0 then
    0
  else
    if (gf_1_isLive_d R nd g d0.toNatClampNeg) = 0 then
      0
    else
      1
set_option maxRecDepth 20000 in
set_option maxHeartbeats 4000000 in
theorem gc_4_isLive (l : Launch) (D : hD) (H0 : Heap) (a R nd : Nat) (g : GS) (h0 : hH) (n : Nat) (d0 : Int32) (hnd : nd ≤ 10) (hRR : R ≤ 48)  : cM l D H0 yX4_isLive cX4_isLive 2 (some .boolean) 1 21 0 0 [.ref a, .int d0] (gput a R nd g h0) n (cE (some (.int (gf_4_isLive R nd g d0))) (gput a R nd g h0) n) := by
  refine h_met (by decide) (Nat.le_of_ble_eq_true rfl) ?_
  intro p e s m below meth c H ls X hnm hr hz hl
  have hl : lv_has ls 2 [(0, .ref a), (1, .int d0)] := hl
  have hlo : hL H0 ([] : List Loc) := hL.nil
  refine lv_aload_n X.x X.b dX4_isLive_0 rfl (lv_at hl 0 rfl) ?_
  refine lv_iload_n X.x X.b dX4_isLive_1 rfl (lv_at hl 1 rfl) ?_
  refine h_callV X hr hz hlo (rest := []) (gc_4_isThere l D H0 a R nd g h0 n d0 hnd hRR  ) gput_o rfl yv_X4_isThere ml_X4_143 ⟨(Nat.le_of_ble_eq_true rfl), (Nat.le_of_ble_eq_true rfl)⟩ (Nat.le_of_ble_eq_true rfl) hl.1 ⟨(Nat.le_of_ble_eq_true rfl), (Nat.le_of_ble_eq_true rfl)⟩ rfl dX4_isLive_2 (fun v9 h9 n9 H locs hp hr hz hlo => ?_)
  obtain ⟨rfl, rfl, rfl⟩ := hp
  show W p l e _ s m _ below meth c H locs _ _ _ (F0 m 5 ls [.int (gf_4_isThere R nd g d0)])
  refine lv_if_eq (tgt := 24) X.x X.b dX4_isLive_5 (by decide) (fun c5 => ?_) (fun c5 => ?_)
  · refine lv_iconst (v := 0) X.x X.b dX4_isLive_24 (by decide) ?_
    exact h_zret X hr hz hlo rfl (glfip (id (by unfold gf_4_isLive; rw [if_pos c5]))) (Nat.le_of_ble_eq_true rfl) (Nat.le_of_ble_eq_true rfl) dX4_isLive_25
  · refine lv_aload_n X.x X.b dX4_isLive_8 rfl (lv_at hl 0 rfl) ?_
    refine h_get X hr fd_X4_40 gput_o (v := .ref (a + 4)) rfl dX4_isLive_9 ?_
    refine lv_iload_n X.x X.b dX4_isLive_12 rfl (lv_at hl 1 rfl) ?_
    refine h_aald X hr gput_k (gx_there c5 hnd) (v := .ref (aD a d0.toNatClampNeg)) rfl dX4_isLive_13 ?_
    refine h_callV X hr hz hlo (rest := []) (gc_1_isLive_d l D H0 a R nd g h0 n d0.toNatClampNeg hnd hRR (vp_lt (gx_there c5 hnd)) ) (gput_aD (vp_lt (gx_there c5 hnd))) rfl yv_X1_isLive ml_X4_248 ⟨(Nat.le_of_ble_eq_true rfl), (Nat.le_of_ble_eq_true rfl)⟩ (Nat.le_of_ble_eq_true rfl) hl.1 ⟨(Nat.le_of_ble_eq_true rfl), (Nat.le_of_ble_eq_true rfl)⟩ rfl dX4_isLive_14 (fun v9 h9 n9 H locs hp hr hz hlo => ?_)
    obtain ⟨rfl, rfl, rfl⟩ := hp
    show W p l e _ s m _ below meth c H locs _ _ _ (F0 m 17 ls [.int (gf_1_isLive_d R nd g d0.toNatClampNeg)])
    refine lv_if_eq (tgt := 24) X.x X.b dX4_isLive_17 (by decide) (fun c17 => ?_) (fun c17 => ?_)
    · refine lv_iconst (v := 0) X.x X.b dX4_isLive_24 (by decide) ?_
      exact h_zret X hr hz hlo rfl (glfip (id (by unfold gf_4_isLive; rw [if_neg c5, if_pos c17]))) (Nat.le_of_ble_eq_true rfl) (Nat.le_of_ble_eq_true rfl) dX4_isLive_25
    · refine lv_iconst (v := 1) X.x X.b dX4_isLive_20 (by decide) ?_
      refine lv_goto (tgt := 25) X.x X.b dX4_isLive_21 (by decide) ?_
      exact h_zret X hr hz hlo rfl (glfip (id (by unfold gf_4_isLive; rw [if_neg c5, if_neg c17]))) (Nat.le_of_ble_eq_true rfl) (Nat.le_of_ble_eq_true rfl) dX4_isLive_25

theorem gx_live {R nd : Nat} {g : GS} {d0 : Int32} (h : ¬ gf_4_isLive R nd g d0 = 0) (hnd : nd ≤ 10) : vp_in d0 10 := by
  unfold gf_4_isLive at h
  split at h
  · exact absurd rfl h
  · rename_i c
    exact gx_there c hnd

def gg_4_diskNotLive_2 (R nd : Nat) (g : GS)  : Nat → Nat → Int32
  | 0, _ => 0
  | j + 1, k =>
    if (nI nd) ≤ (nI k) then
      (-1)
    else
      if (gf_1_isLive_d R nd g k) = 0 then
        nI k
      else
        gg_4_diskNotLive_2 R nd g  j (k + 1) 
def gf_4_diskNotLive (R nd : Nat) (g : GS)  : Int32 :=
  gg_4_diskNotLive_2 R nd g  (nd + 1) 0 
set_option maxRecDepth 20000 in
set_option maxHeartbeats 4000000 in
theorem gc_4_diskNotLive (l : Launch) (D : hD) (H0 : Heap) (a R nd : Nat) (g : GS) (h0 : hH) (n : Nat)  (hnd : nd ≤ 10) (hRR : R ≤ 48)  : cM l D H0 yX4_diskNotLive cX4_diskNotLive 2 (some .int) 1 20 0 0 [.ref a] (gput a R nd g h0) n (cE (some (.int (gf_4_diskNotLive R nd g))) (gput a R nd g h0) n) := by
  refine h_met (by decide) (Nat.le_of_ble_eq_true rfl) ?_
  intro p e s m below meth c H ls X hnm hr hz hl
  have hl : lv_has ls 2 [(0, .ref a)] := hl
  have hlo : hL H0 ([] : List Loc) := hL.nil
  have loop2 : ∀ (j k : Nat)  (hk : k ≤ nd) (hj : nd < k + j) (hG : gf_4_diskNotLive R nd g = gg_4_diskNotLive_2 R nd g  j k) (H : Heap) (locs : List Loc) (ls : Array Slot), hR D H0 (gput a R nd g h0) H → H.size = n → hL H0 locs → lv_has ls 2 [(1, .int (nI k)), (0, .ref a)] → W p l e (rmk 1 20 0 0) s m ([.ref a] : List Value).toArray below meth c H locs 0 0 (MQ below (cQ D H0 (cE (some (.int (gf_4_diskNotLive R nd g))) (gput a R nd g h0) n)) ([.ref a] : List Value).toArray s 0 0 (hF H0)) (F0 m 2 ls []) := by
    intro j
    induction j with
    | zero => intro k hk hj; omega
    | succ j ih =>
      intro k hk hj hG H locs ls hr hz hlo hl
      refine lv_iload_n X.x X.b dX4_diskNotLive_2 rfl (lv_at hl 0 rfl) ?_
      refine lv_aload_n X.x X.b dX4_diskNotLive_3 rfl (lv_at hl 1 rfl) ?_
      refine h_get X hr fd_X4_7 gput_o (v := .int (nI nd)) rfl dX4_diskNotLive_4 ?_
      refine lv_icmp_ge (tgt := 30) X.x X.b dX4_diskNotLive_7 (by decide) (fun c7 => ?_) (fun c7 => ?_)
      · refine lv_iconst (v := -1) X.x X.b dX4_diskNotLive_30 (by decide) ?_
        exact h_iret X hr hz hlo (glfip (hG.trans (by rw [gg_4_diskNotLive_2]; rw [if_pos c7]))) (Nat.le_of_ble_eq_true rfl) (Nat.le_of_ble_eq_true rfl) dX4_diskNotLive_31
      · have hk9 : k < nd := nd_lt c7 (by omega)
        refine lv_aload_n X.x X.b dX4_diskNotLive_10 rfl (lv_at hl 1 rfl) ?_
        refine h_get X hr fd_X4_40 gput_o (v := .ref (a + 4)) rfl dX4_diskNotLive_11 ?_
        refine lv_iload_n X.x X.b dX4_diskNotLive_14 rfl (lv_at hl 0 rfl) ?_
        refine h_aald X hr gput_k (vp_in_nI (by omega) (by omega)) (v := .ref (aD a k)) (by rw [nI_clamp (n := k) (by omega)]) dX4_diskNotLive_15 ?_
        refine h_callV X hr hz hlo (rest := []) (gc_1_isLive_d l D H0 a R nd g h0 n k hnd hRR (show k < 10 by omega) ) (gput_aD (show k < 10 by omega)) rfl yv_X1_isLive ml_X4_248 ⟨(Nat.le_of_ble_eq_true rfl), (Nat.le_of_ble_eq_true rfl)⟩ (Nat.le_of_ble_eq_true rfl) hl.1 ⟨(Nat.le_of_ble_eq_true rfl), (Nat.le_of_ble_eq_true rfl)⟩ rfl dX4_diskNotLive_16 (fun v9 h9 n9 H locs hp hr hz hlo => ?_)
        obtain ⟨rfl, rfl, rfl⟩ := hp
        show W p l e _ s m _ below meth c H locs _ _ _ (F0 m 19 ls [.int (gf_1_isLive_d R nd g k)])
        refine lv_if_ne (tgt := 24) X.x X.b dX4_diskNotLive_19 (by decide) (fun c19 => ?_) (fun c19 => ?_)
        · refine lv_iinc (v := nI (k + 1)) (lv' := [(1, .int (nI (k + 1))), (0, .ref a)]) X.x X.b dX4_diskNotLive_24 hl (k := 0) rfl (nI_1 k) (by decide) rfl (fun ls hl => ?_)
          refine lv_goto (tgt := 2) X.x X.b dX4_diskNotLive_27 (by decide) ?_
          exact ih (k + 1)  (by omega) (by omega) (hG.trans (by rw [gg_4_diskNotLive_2]; rw [if_neg c7, if_neg c19])) _ _ _ hr hz hlo (lv_sub hl [0, 1] rfl)
        · refine lv_iload_n X.x X.b dX4_diskNotLive_22 rfl (lv_at hl 0 rfl) ?_
          exact h_iret X hr hz hlo (glfip (hG.trans (by rw [gg_4_diskNotLive_2]; rw [if_neg c7, if_pos c19]))) (Nat.le_of_ble_eq_true rfl) (Nat.le_of_ble_eq_true rfl) dX4_diskNotLive_23
  refine lv_iconst (v := 0) X.x X.b dX4_diskNotLive_0 (by decide) ?_
  refine lv_istore_n (lv' := [(1, .int 0), (0, .ref a)]) X.x X.b dX4_diskNotLive_1 rfl hl (by decide) rfl (fun ls hl => ?_)
  have hl : lv_has ls 2 [(1, .int (nI 0)), (0, .ref a)] := by rw [nI_0]; exact hl
  exact loop2 (nd + 1) 0  (by omega) (by omega) (id (by unfold gf_4_diskNotLive; rfl)) _ _ _ hr hz hlo (lv_sub hl [0, 1] rfl)

theorem gx_nlg {R nd : Nat} {g : GS} (hnd : nd ≤ 10) : ∀ (j k : Nat), k ≤ nd → nd < k + j → gg_4_diskNotLive_2 R nd g j k = -1 ∨ vp_in (gg_4_diskNotLive_2 R nd g j k) 10 := by
  intro j
  induction j with
  | zero => intro k h1 h2; omega
  | succ j ih =>
    intro k h1 h2
    rw [gg_4_diskNotLive_2]
    split
    · exact Or.inl rfl
    · rename_i c
      have hk : k < nd := nd_lt c (by omega)
      split
      · exact Or.inr (vp_in_nI (by omega) (by decide))
      · exact ih (k + 1) (by omega) (by omega)
theorem gx_nl {R nd : Nat} {g : GS} (hnd : nd ≤ 10) (h : ¬ gf_4_diskNotLive R nd g = -1) : vp_in (gf_4_diskNotLive R nd g) 10 := by
  unfold gf_4_diskNotLive at h ⊢
  exact (gx_nlg hnd (nd + 1) 0 (by omega) (by omega)).resolve_left h

def gf_4_rebuildingDisk (R nd : Nat) (g : GS)  : Int32 :=
  if (gf_4_diskNotLive R nd g) = (-1) then
    (-1)
  else
    if (gf_1_isRebuilding_d R nd g ((gf_4_diskNotLive R nd g).toNatClampNeg)) = 0 then
      (-1)
    else
      gf_4_diskNotLive R nd g
set_option maxRecDepth 20000 in
set_option maxHeartbeats 4000000 in
theorem gc_4_rebuildingDisk (l : Launch) (D : hD) (H0 : Heap) (a R nd : Nat) (g : GS) (h0 : hH) (n : Nat)  (hnd : nd ≤ 10) (hRR : R ≤ 48)  : cM l D H0 yX4_rebuildingDisk cX4_rebuildingDisk 2 (some .int) 2 41 0 0 [.ref a] (gput a R nd g h0) n (cE (some (.int (gf_4_rebuildingDisk R nd g))) (gput a R nd g h0) n) := by
  refine h_met (by decide) (Nat.le_of_ble_eq_true rfl) ?_
  intro p e s m below meth c H ls X hnm hr hz hl
  have hl : lv_has ls 2 [(0, .ref a)] := hl
  have hlo : hL H0 ([] : List Loc) := hL.nil
  refine lv_aload_n X.x X.b dX4_rebuildingDisk_0 rfl (lv_at hl 0 rfl) ?_
  refine h_callV X hr hz hlo (rest := []) (gc_4_diskNotLive l D H0 a R nd g h0 n  hnd hRR  ) gput_o rfl yv_X4_diskNotLive ml_X4_147 ⟨(Nat.le_of_ble_eq_true rfl), (Nat.le_of_ble_eq_true rfl)⟩ (Nat.le_of_ble_eq_true rfl) hl.1 ⟨(Nat.le_of_ble_eq_true rfl), (Nat.le_of_ble_eq_true rfl)⟩ rfl dX4_rebuildingDisk_1 (fun v9 h9 n9 H locs hp hr hz hlo => ?_)
  obtain ⟨rfl, rfl, rfl⟩ := hp
  show W p l e _ s m _ below meth c H locs _ _ _ (F0 m 4 ls [.int (gf_4_diskNotLive R nd g)])
  refine lv_istore_n (lv' := [(1, .int (gf_4_diskNotLive R nd g)), (0, .ref a)]) X.x X.b dX4_rebuildingDisk_4 rfl hl (by decide) rfl (fun ls hl => ?_)
  refine lv_iload_n X.x X.b dX4_rebuildingDisk_5 rfl (lv_at hl 0 rfl) ?_
  refine lv_iconst (v := -1) X.x X.b dX4_rebuildingDisk_6 (by decide) ?_
  refine lv_icmp_eq (tgt := 26) X.x X.b dX4_rebuildingDisk_7 (by decide) (fun c7 => ?_) (fun c7 => ?_)
  · refine lv_iconst (v := -1) X.x X.b dX4_rebuildingDisk_26 (by decide) ?_
    exact h_iret X hr hz hlo (glfip (id (by unfold gf_4_rebuildingDisk; rw [if_pos c7]))) (Nat.le_of_ble_eq_true rfl) (Nat.le_of_ble_eq_true rfl) dX4_rebuildingDisk_27
  · refine lv_aload_n X.x X.b dX4_rebuildingDisk_10 rfl (lv_at hl 1 rfl) ?_
    refine h_get X hr fd_X4_40 gput_o (v := .ref (a + 4)) rfl dX4_rebuildingDisk_11 ?_
    refine lv_iload_n X.x X.b dX4_rebuildingDisk_14 rfl (lv_at hl 0 rfl) ?_
    refine h_aald X hr gput_k (gx_nl hnd c7) (v := .ref (aD a ((gf_4_diskNotLive R nd g).toNatClampNeg))) rfl dX4_rebuildingDisk_15 ?_
    refine h_callV X hr hz hlo (rest := []) (gc_1_isRebuilding_d l D H0 a R nd g h0 n ((gf_4_diskNotLive R nd g).toNatClampNeg) hnd hRR (vp_lt (gx_nl hnd c7)) ) (gput_aD (vp_lt (gx_nl hnd c7))) rfl yv_X1_isRebuilding ml_X4_251 ⟨(Nat.le_of_ble_eq_true rfl), (Nat.le_of_ble_eq_true rfl)⟩ (Nat.le_of_ble_eq_true rfl) hl.1 ⟨(Nat.le_of_ble_eq_true rfl), (Nat.le_of_ble_eq_true rfl)⟩ rfl dX4_rebuildingDisk_16 (fun v9 h9 n9 H locs hp hr hz hlo => ?_)
    obtain ⟨rfl, rfl, rfl⟩ := hp
    show W p l e _ s m _ below meth c H locs _ _ _ (F0 m 19 ls [.int (gf_1_isRebuilding_d R nd g ((gf_4_diskNotLive R nd g).toNatClampNeg))])
    refine lv_if_eq (tgt := 26) X.x X.b dX4_rebuildingDisk_19 (by decide) (fun c19 => ?_) (fun c19 => ?_)
    · refine lv_iconst (v := -1) X.x X.b dX4_rebuildingDisk_26 (by decide) ?_
      exact h_iret X hr hz hlo (glfip (id (by unfold gf_4_rebuildingDisk; rw [if_neg c7, if_pos c19]))) (Nat.le_of_ble_eq_true rfl) (Nat.le_of_ble_eq_true rfl) dX4_rebuildingDisk_27
    · refine lv_iload_n X.x X.b dX4_rebuildingDisk_22 rfl (lv_at hl 0 rfl) ?_
      refine lv_goto (tgt := 27) X.x X.b dX4_rebuildingDisk_23 (by decide) ?_
      exact h_iret X hr hz hlo (glfip (id (by unfold gf_4_rebuildingDisk; rw [if_neg c7, if_neg c19]))) (Nat.le_of_ble_eq_true rfl) (Nat.le_of_ble_eq_true rfl) dX4_rebuildingDisk_27

def gf_4_isRebuilt (R nd : Nat) (g : GS) (d0 : Int32) (row : Int32) : Int32 :=
  if (gf_4_isThere R nd g d0) = 0 then
    0
  else
    if (gf_1_isRebuilding_d R nd g d0.toNatClampNeg) = 0 then
      0
    else
      if (g.1 3) ≤ row then
        0
      else
        1
set_option maxRecDepth 20000 in
set_option maxHeartbeats 4000000 in
theorem gc_4_isRebuilt (l : Launch) (D : hD) (H0 : Heap) (a R nd : Nat) (g : GS) (h0 : hH) (n : Nat) (d0 : Int32) (row : Int32) (hnd : nd ≤ 10) (hRR : R ≤ 48)  : cM l D H0 yX4_isRebuilt cX4_isRebuilt 3 (some .boolean) 1 21 0 0 [.ref a, .int d0, .int row] (gput a R nd g h0) n (cE (some (.int (gf_4_isRebuilt R nd g d0 row))) (gput a R nd g h0) n) := by
  refine h_met (by decide) (Nat.le_of_ble_eq_true rfl) ?_
  intro p e s m below meth c H ls X hnm hr hz hl
  have hl : lv_has ls 3 [(0, .ref a), (1, .int d0), (2, .int row)] := hl
  have hlo : hL H0 ([] : List Loc) := hL.nil
  refine lv_aload_n X.x X.b dX4_isRebuilt_0 rfl (lv_at hl 0 rfl) ?_
  refine lv_iload_n X.x X.b dX4_isRebuilt_1 rfl (lv_at hl 1 rfl) ?_
  refine h_callV X hr hz hlo (rest := []) (gc_4_isThere l D H0 a R nd g h0 n d0 hnd hRR  ) gput_o rfl yv_X4_isThere ml_X4_143 ⟨(Nat.le_of_ble_eq_true rfl), (Nat.le_of_ble_eq_true rfl)⟩ (Nat.le_of_ble_eq_true rfl) hl.1 ⟨(Nat.le_of_ble_eq_true rfl), (Nat.le_of_ble_eq_true rfl)⟩ rfl dX4_isRebuilt_2 (fun v9 h9 n9 H locs hp hr hz hlo => ?_)
  obtain ⟨rfl, rfl, rfl⟩ := hp
  show W p l e _ s m _ below meth c H locs _ _ _ (F0 m 5 ls [.int (gf_4_isThere R nd g d0)])
  refine lv_if_eq (tgt := 32) X.x X.b dX4_isRebuilt_5 (by decide) (fun c5 => ?_) (fun c5 => ?_)
  · refine lv_iconst (v := 0) X.x X.b dX4_isRebuilt_32 (by decide) ?_
    exact h_zret X hr hz hlo rfl (glfip (id (by unfold gf_4_isRebuilt; rw [if_pos c5]))) (Nat.le_of_ble_eq_true rfl) (Nat.le_of_ble_eq_true rfl) dX4_isRebuilt_33
  · refine lv_aload_n X.x X.b dX4_isRebuilt_8 rfl (lv_at hl 0 rfl) ?_
    refine h_get X hr fd_X4_40 gput_o (v := .ref (a + 4)) rfl dX4_isRebuilt_9 ?_
    refine lv_iload_n X.x X.b dX4_isRebuilt_12 rfl (lv_at hl 1 rfl) ?_
    refine h_aald X hr gput_k (gx_there c5 hnd) (v := .ref (aD a d0.toNatClampNeg)) rfl dX4_isRebuilt_13 ?_
    refine h_callV X hr hz hlo (rest := []) (gc_1_isRebuilding_d l D H0 a R nd g h0 n d0.toNatClampNeg hnd hRR (vp_lt (gx_there c5 hnd)) ) (gput_aD (vp_lt (gx_there c5 hnd))) rfl yv_X1_isRebuilding ml_X4_251 ⟨(Nat.le_of_ble_eq_true rfl), (Nat.le_of_ble_eq_true rfl)⟩ (Nat.le_of_ble_eq_true rfl) hl.1 ⟨(Nat.le_of_ble_eq_true rfl), (Nat.le_of_ble_eq_true rfl)⟩ rfl dX4_isRebuilt_14 (fun v9 h9 n9 H locs hp hr hz hlo => ?_)
    obtain ⟨rfl, rfl, rfl⟩ := hp
    show W p l e _ s m _ below meth c H locs _ _ _ (F0 m 17 ls [.int (gf_1_isRebuilding_d R nd g d0.toNatClampNeg)])
    refine lv_if_eq (tgt := 32) X.x X.b dX4_isRebuilt_17 (by decide) (fun c17 => ?_) (fun c17 => ?_)
    · refine lv_iconst (v := 0) X.x X.b dX4_isRebuilt_32 (by decide) ?_
      exact h_zret X hr hz hlo rfl (glfip (id (by unfold gf_4_isRebuilt; rw [if_neg c5, if_pos c17]))) (Nat.le_of_ble_eq_true rfl) (Nat.le_of_ble_eq_true rfl) dX4_isRebuilt_33
    · refine lv_iload_n X.x X.b dX4_isRebuilt_20 rfl (lv_at hl 2 rfl) ?_
      refine lv_aload_n X.x X.b dX4_isRebuilt_21 rfl (lv_at hl 0 rfl) ?_
      refine h_get X hr fd_X4_159 gput_o (v := .int (g.1 3)) rfl dX4_isRebuilt_22 ?_
      refine lv_icmp_ge (tgt := 32) X.x X.b dX4_isRebuilt_25 (by decide) (fun c25 => ?_) (fun c25 => ?_)
      · refine lv_iconst (v := 0) X.x X.b dX4_isRebuilt_32 (by decide) ?_
        exact h_zret X hr hz hlo rfl (glfip (id (by unfold gf_4_isRebuilt; rw [if_neg c5, if_neg c17, if_pos c25]))) (Nat.le_of_ble_eq_true rfl) (Nat.le_of_ble_eq_true rfl) dX4_isRebuilt_33
      · refine lv_iconst (v := 1) X.x X.b dX4_isRebuilt_28 (by decide) ?_
        refine lv_goto (tgt := 33) X.x X.b dX4_isRebuilt_29 (by decide) ?_
        exact h_zret X hr hz hlo rfl (glfip (id (by unfold gf_4_isRebuilt; rw [if_neg c5, if_neg c17, if_neg c25]))) (Nat.le_of_ble_eq_true rfl) (Nat.le_of_ble_eq_true rfl) dX4_isRebuilt_33

theorem gx_rb {R nd : Nat} {g : GS} {d0 row : Int32} (h : ¬ gf_4_isRebuilt R nd g d0 row = 0) (hnd : nd ≤ 10) : vp_in d0 10 := by
  unfold gf_4_isRebuilt at h
  split at h
  · exact absurd rfl h
  · rename_i c
    exact gx_there c hnd

def gf_4_isArrayDegraded (R nd : Nat) (g : GS)  : Int32 :=
  if (gf_4_diskNotLive R nd g) = (-1) then
    0
  else
    if (gf_4_isSpare R nd g (gf_4_diskNotLive R nd g)) = 0 then
      1
    else
      0
set_option maxRecDepth 20000 in
set_option maxHeartbeats 4000000 in
theorem gc_4_isArrayDegraded (l : Launch) (D : hD) (H0 : Heap) (a R nd : Nat) (g : GS) (h0 : hH) (n : Nat)  (hnd : nd ≤ 10) (hRR : R ≤ 48)  : cM l D H0 yX4_isArrayDegraded cX4_isArrayDegraded 2 (some .boolean) 2 41 0 0 [.ref a] (gput a R nd g h0) n (cE (some (.int (gf_4_isArrayDegraded R nd g))) (gput a R nd g h0) n) := by
  refine h_met (by decide) (Nat.le_of_ble_eq_true rfl) ?_
  intro p e s m below meth c H ls X hnm hr hz hl
  have hl : lv_has ls 2 [(0, .ref a)] := hl
  have hlo : hL H0 ([] : List Loc) := hL.nil
  refine lv_aload_n X.x X.b dX4_isArrayDegraded_0 rfl (lv_at hl 0 rfl) ?_
  refine h_callV X hr hz hlo (rest := []) (gc_4_diskNotLive l D H0 a R nd g h0 n  hnd hRR  ) gput_o rfl yv_X4_diskNotLive ml_X4_147 ⟨(Nat.le_of_ble_eq_true rfl), (Nat.le_of_ble_eq_true rfl)⟩ (Nat.le_of_ble_eq_true rfl) hl.1 ⟨(Nat.le_of_ble_eq_true rfl), (Nat.le_of_ble_eq_true rfl)⟩ rfl dX4_isArrayDegraded_1 (fun v9 h9 n9 H locs hp hr hz hlo => ?_)
  obtain ⟨rfl, rfl, rfl⟩ := hp
  show W p l e _ s m _ below meth c H locs _ _ _ (F0 m 4 ls [.int (gf_4_diskNotLive R nd g)])
  refine lv_istore_n (lv' := [(1, .int (gf_4_diskNotLive R nd g)), (0, .ref a)]) X.x X.b dX4_isArrayDegraded_4 rfl hl (by decide) rfl (fun ls hl => ?_)
  refine lv_iload_n X.x X.b dX4_isArrayDegraded_5 rfl (lv_at hl 0 rfl) ?_
  refine lv_iconst (v := -1) X.x X.b dX4_isArrayDegraded_6 (by decide) ?_
  refine lv_icmp_eq (tgt := 22) X.x X.b dX4_isArrayDegraded_7 (by decide) (fun c7 => ?_) (fun c7 => ?_)
  · refine lv_iconst (v := 0) X.x X.b dX4_isArrayDegraded_22 (by decide) ?_
    exact h_zret X hr hz hlo rfl (glfip (id (by unfold gf_4_isArrayDegraded; rw [if_pos c7]))) (Nat.le_of_ble_eq_true rfl) (Nat.le_of_ble_eq_true rfl) dX4_isArrayDegraded_23
  · refine lv_aload_n X.x X.b dX4_isArrayDegraded_10 rfl (lv_at hl 1 rfl) ?_
    refine lv_iload_n X.x X.b dX4_isArrayDegraded_11 rfl (lv_at hl 0 rfl) ?_
    refine h_callV X hr hz hlo (rest := []) (gc_4_isSpare l D H0 a R nd g h0 n (gf_4_diskNotLive R nd g) hnd hRR  ) gput_o rfl yv_X4_isSpare ml_X4_153 ⟨(Nat.le_of_ble_eq_true rfl), (Nat.le_of_ble_eq_true rfl)⟩ (Nat.le_of_ble_eq_true rfl) hl.1 ⟨(Nat.le_of_ble_eq_true rfl), (Nat.le_of_ble_eq_true rfl)⟩ rfl dX4_isArrayDegraded_12 (fun v9 h9 n9 H locs hp hr hz hlo => ?_)
    obtain ⟨rfl, rfl, rfl⟩ := hp
    show W p l e _ s m _ below meth c H locs _ _ _ (F0 m 15 ls [.int (gf_4_isSpare R nd g (gf_4_diskNotLive R nd g))])
    refine lv_if_ne (tgt := 22) X.x X.b dX4_isArrayDegraded_15 (by decide) (fun c15 => ?_) (fun c15 => ?_)
    · refine lv_iconst (v := 0) X.x X.b dX4_isArrayDegraded_22 (by decide) ?_
      exact h_zret X hr hz hlo rfl (glfip (id (by unfold gf_4_isArrayDegraded; rw [if_neg c7, if_neg c15]))) (Nat.le_of_ble_eq_true rfl) (Nat.le_of_ble_eq_true rfl) dX4_isArrayDegraded_23
    · refine lv_iconst (v := 1) X.x X.b dX4_isArrayDegraded_18 (by decide) ?_
      refine lv_goto (tgt := 23) X.x X.b dX4_isArrayDegraded_19 (by decide) ?_
      exact h_zret X hr hz hlo rfl (glfip (id (by unfold gf_4_isArrayDegraded; rw [if_neg c7, if_pos c15]))) (Nat.le_of_ble_eq_true rfl) (Nat.le_of_ble_eq_true rfl) dX4_isArrayDegraded_23

def gg_4_exclusiveOr_6 (R nd : Nat) (g : GS) (n0 : Int32) (row : Int32) (lo : Int32) : Nat → Nat → Int64 → Int64
  | 0, _, _ => 0
  | j + 1, k, acc =>
    if n0 ≤ (nI k) then
      acc
    else
      if 10 ≤ (nI k) then
        acc
      else
        if (nI k) = lo then
          gg_4_exclusiveOr_6 R nd g n0 row lo  j (k + 1) acc
        else
          gg_4_exclusiveOr_6 R nd g n0 row lo  j (k + 1) (acc ^^^ (gf_1_blockAt_d R nd g k row))
def gf_4_exclusiveOr (R nd : Nat) (g : GS) (n0 : Int32) (row : Int32) (lo : Int32) : Int64 :=
  gg_4_exclusiveOr_6 R nd g n0 row lo  11 0 0
set_option maxRecDepth 20000 in
set_option maxHeartbeats 4000000 in
theorem gc_4_exclusiveOr (l : Launch) (D : hD) (H0 : Heap) (a R nd : Nat) (g : GS) (h0 : hH) (n : Nat) (n0 : Int32) (row : Int32) (lo : Int32) (hnd : nd ≤ 10) (hRR : R ≤ 48)  : cM l D H0 yX4_exclusiveOr cX4_exclusiveOr 7 (some .long) 1 21 0 0 [.ref a, .int n0, .int row, .int lo] (gput a R nd g h0) n (cE (some (.long (gf_4_exclusiveOr R nd g n0 row lo))) (gput a R nd g h0) n) := by
  refine h_met (by decide) (Nat.le_of_ble_eq_true rfl) ?_
  intro p e s m below meth c H ls X hnm hr hz hl
  have hl : lv_has ls 7 [(0, .ref a), (1, .int n0), (2, .int row), (3, .int lo)] := hl
  have hlo : hL H0 ([] : List Loc) := hL.nil
  have loop6 : ∀ (j k : Nat) (acc : Int64) (hk : k ≤ 10) (hj : 10 < k + j) (hG : gf_4_exclusiveOr R nd g n0 row lo = gg_4_exclusiveOr_6 R nd g n0 row lo  j k acc) (H : Heap) (locs : List Loc) (ls : Array Slot), hR D H0 (gput a R nd g h0) H → H.size = n → hL H0 locs → lv_has ls 7 [(6, .int (nI k)), (4, .long acc), (0, .ref a), (1, .int n0), (2, .int row), (3, .int lo)] → W p l e (rmk 1 21 0 0) s m ([.ref a, .int n0, .int row, .int lo] : List Value).toArray below meth c H locs 0 0 (MQ below (cQ D H0 (cE (some (.long (gf_4_exclusiveOr R nd g n0 row lo))) (gput a R nd g h0) n)) ([.ref a, .int n0, .int row, .int lo] : List Value).toArray s 0 0 (hF H0)) (F0 m 6 ls []) := by
    intro j
    induction j with
    | zero => intro k acc hk hj; omega
    | succ j ih =>
      intro k acc hk hj hG H locs ls hr hz hlo hl
      refine lv_iload X.x X.b dX4_exclusiveOr_6 (lv_at hl 0 rfl) ?_
      refine lv_iload_n X.x X.b dX4_exclusiveOr_8 rfl (lv_at hl 3 rfl) ?_
      refine lv_icmp_ge (tgt := 47) X.x X.b dX4_exclusiveOr_9 (by decide) (fun c9 => ?_) (fun c9 => ?_)
      · refine lv_lload X.x X.b dX4_exclusiveOr_47 (lv_at hl 1 rfl) ?_
        exact h_lret X hr hz hlo (glflp (hG.trans (by rw [gg_4_exclusiveOr_6]; rw [if_pos c9]))) (Nat.le_of_ble_eq_true rfl) (Nat.le_of_ble_eq_true rfl) dX4_exclusiveOr_49
      · refine lv_iload X.x X.b dX4_exclusiveOr_12 (lv_at hl 0 rfl) ?_
        refine lv_bipush (v := 10) X.x X.b dX4_exclusiveOr_14 (by decide) ?_
        refine lv_icmp_ge (tgt := 47) X.x X.b dX4_exclusiveOr_16 (by decide) (fun c16 => ?_) (fun c16 => ?_)
        · refine lv_lload X.x X.b dX4_exclusiveOr_47 (lv_at hl 1 rfl) ?_
          exact h_lret X hr hz hlo (glflp (hG.trans (by rw [gg_4_exclusiveOr_6]; rw [if_neg c9, if_pos c16]))) (Nat.le_of_ble_eq_true rfl) (Nat.le_of_ble_eq_true rfl) dX4_exclusiveOr_49
        · have hk9 : k < 10 := nd_lt (nd := 10) c16 (by omega)
          refine lv_iload X.x X.b dX4_exclusiveOr_19 (lv_at hl 0 rfl) ?_
          refine lv_iload_n X.x X.b dX4_exclusiveOr_21 rfl (lv_at hl 5 rfl) ?_
          refine lv_icmp_eq (tgt := 41) X.x X.b dX4_exclusiveOr_22 (by decide) (fun c22 => ?_) (fun c22 => ?_)
          · refine lv_iinc (v := nI (k + 1)) (lv' := [(6, .int (nI (k + 1))), (4, .long acc), (0, .ref a), (1, .int n0), (2, .int row), (3, .int lo)]) X.x X.b dX4_exclusiveOr_41 hl (k := 0) rfl (nI_1 k) (by decide) rfl (fun ls hl => ?_)
            refine lv_goto (tgt := 6) X.x X.b dX4_exclusiveOr_44 (by decide) ?_
            exact ih (k + 1) acc (by omega) (by omega) (hG.trans (by rw [gg_4_exclusiveOr_6]; rw [if_neg c9, if_neg c16, if_pos c22])) _ _ _ hr hz hlo (lv_sub hl [0, 1, 2, 3, 4, 5] rfl)
          · refine lv_lload X.x X.b dX4_exclusiveOr_25 (lv_at hl 1 rfl) ?_
            refine lv_aload_n X.x X.b dX4_exclusiveOr_27 rfl (lv_at hl 2 rfl) ?_
            refine h_get X hr fd_X4_40 gput_o (v := .ref (a + 4)) rfl dX4_exclusiveOr_28 ?_
            refine lv_iload X.x X.b dX4_exclusiveOr_31 (lv_at hl 0 rfl) ?_
            refine h_aald X hr gput_k (vp_in_nI (by omega) (by omega)) (v := .ref (aD a k)) (by rw [nI_clamp (n := k) (by omega)]) dX4_exclusiveOr_33 ?_
            refine lv_iload_n X.x X.b dX4_exclusiveOr_34 rfl (lv_at hl 4 rfl) ?_
            refine h_callV X hr hz hlo (rest := [.long acc]) (gc_1_blockAt_d l D H0 a R nd g h0 n k row hnd hRR (show k < 10 by omega) ) (gput_aD (show k < 10 by omega)) rfl yv_X1_blockAt ml_X4_254 ⟨(Nat.le_of_ble_eq_true rfl), (Nat.le_of_ble_eq_true rfl)⟩ (Nat.le_of_ble_eq_true rfl) hl.1 ⟨(Nat.le_of_ble_eq_true rfl), (Nat.le_of_ble_eq_true rfl)⟩ rfl dX4_exclusiveOr_35 (fun v9 h9 n9 H locs hp hr hz hlo => ?_)
            obtain ⟨rfl, rfl, rfl⟩ := hp
            show W p l e _ s m _ below meth c H locs _ _ _ (F0 m 38 ls [.long (gf_1_blockAt_d R nd g k row), .long acc])
            refine lv_lxor X.x X.b dX4_exclusiveOr_38 ?_
            refine lv_lstore (lv' := [(4, .long (acc ^^^ (gf_1_blockAt_d R nd g k row))), (6, .int (nI k)), (0, .ref a), (1, .int n0), (2, .int row), (3, .int lo)]) X.x X.b dX4_exclusiveOr_39 hl (by decide) rfl (fun ls hl => ?_)
            refine lv_iinc (v := nI (k + 1)) (lv' := [(6, .int (nI (k + 1))), (4, .long (acc ^^^ (gf_1_blockAt_d R nd g k row))), (0, .ref a), (1, .int n0), (2, .int row), (3, .int lo)]) X.x X.b dX4_exclusiveOr_41 hl (k := 1) rfl (nI_1 k) (by decide) rfl (fun ls hl => ?_)
            refine lv_goto (tgt := 6) X.x X.b dX4_exclusiveOr_44 (by decide) ?_
            exact ih (k + 1) (acc ^^^ (gf_1_blockAt_d R nd g k row)) (by omega) (by omega) (hG.trans (by rw [gg_4_exclusiveOr_6]; rw [if_neg c9, if_neg c16, if_neg c22])) _ _ _ hr hz hlo (lv_sub hl [0, 1, 2, 3, 4, 5] rfl)
  refine lv_lconst (v := 0) X.x X.b dX4_exclusiveOr_0 (by decide) ?_
  refine lv_lstore (lv' := [(4, .long 0), (0, .ref a), (1, .int n0), (2, .int row), (3, .int lo)]) X.x X.b dX4_exclusiveOr_1 hl (by decide) rfl (fun ls hl => ?_)
  refine lv_iconst (v := 0) X.x X.b dX4_exclusiveOr_3 (by decide) ?_
  refine lv_istore (lv' := [(6, .int 0), (4, .long 0), (0, .ref a), (1, .int n0), (2, .int row), (3, .int lo)]) X.x X.b dX4_exclusiveOr_4 hl (by decide) rfl (fun ls hl => ?_)
  have hl : lv_has ls 7 [(6, .int (nI 0)), (4, .long 0), (0, .ref a), (1, .int n0), (2, .int row), (3, .int lo)] := by rw [nI_0]; exact hl
  exact loop6 11 0 0 (by omega) (by omega) (id (by unfold gf_4_exclusiveOr; rfl)) _ _ _ hr hz hlo (lv_sub hl [0, 1, 2, 3, 4, 5] rfl)

def gf_4_blockOf (R nd : Nat) (g : GS) (n0 : Int32) (row : Int32) (d0 : Int32) : Int64 :=
  if (gf_4_isLive R nd g d0) = 0 then
    gf_4_exclusiveOr R nd g n0 row d0
  else
    gf_1_blockAt_d R nd g d0.toNatClampNeg row
set_option maxRecDepth 20000 in
set_option maxHeartbeats 4000000 in
theorem gc_4_blockOf (l : Launch) (D : hD) (H0 : Heap) (a R nd : Nat) (g : GS) (h0 : hH) (n : Nat) (n0 : Int32) (row : Int32) (d0 : Int32) (hnd : nd ≤ 10) (hRR : R ≤ 48)  : cM l D H0 yX4_blockOf cX4_blockOf 4 (some .long) 2 47 0 0 [.ref a, .int n0, .int row, .int d0] (gput a R nd g h0) n (cE (some (.long (gf_4_blockOf R nd g n0 row d0))) (gput a R nd g h0) n) := by
  refine h_met (by decide) (Nat.le_of_ble_eq_true rfl) ?_
  intro p e s m below meth c H ls X hnm hr hz hl
  have hl : lv_has ls 4 [(0, .ref a), (1, .int n0), (2, .int row), (3, .int d0)] := hl
  have hlo : hL H0 ([] : List Loc) := hL.nil
  refine lv_aload_n X.x X.b dX4_blockOf_0 rfl (lv_at hl 0 rfl) ?_
  refine lv_iload_n X.x X.b dX4_blockOf_1 rfl (lv_at hl 3 rfl) ?_
  refine h_callV X hr hz hlo (rest := []) (gc_4_isLive l D H0 a R nd g h0 n d0 hnd hRR  ) gput_o rfl yv_X4_isLive ml_X4_257 ⟨(Nat.le_of_ble_eq_true rfl), (Nat.le_of_ble_eq_true rfl)⟩ (Nat.le_of_ble_eq_true rfl) hl.1 ⟨(Nat.le_of_ble_eq_true rfl), (Nat.le_of_ble_eq_true rfl)⟩ rfl dX4_blockOf_2 (fun v9 h9 n9 H locs hp hr hz hlo => ?_)
  obtain ⟨rfl, rfl, rfl⟩ := hp
  show W p l e _ s m _ below meth c H locs _ _ _ (F0 m 5 ls [.int (gf_4_isLive R nd g d0)])
  refine lv_if_eq (tgt := 21) X.x X.b dX4_blockOf_5 (by decide) (fun c5 => ?_) (fun c5 => ?_)
  · refine lv_aload_n X.x X.b dX4_blockOf_21 rfl (lv_at hl 0 rfl) ?_
    refine lv_iload_n X.x X.b dX4_blockOf_22 rfl (lv_at hl 1 rfl) ?_
    refine lv_iload_n X.x X.b dX4_blockOf_23 rfl (lv_at hl 2 rfl) ?_
    refine lv_iload_n X.x X.b dX4_blockOf_24 rfl (lv_at hl 3 rfl) ?_
    refine h_callV X hr hz hlo (rest := []) (gc_4_exclusiveOr l D H0 a R nd g h0 n n0 row d0 hnd hRR  ) gput_o rfl yv_X4_exclusiveOr ml_X4_230 ⟨(Nat.le_of_ble_eq_true rfl), (Nat.le_of_ble_eq_true rfl)⟩ (Nat.le_of_ble_eq_true rfl) hl.1 ⟨(Nat.le_of_ble_eq_true rfl), (Nat.le_of_ble_eq_true rfl)⟩ rfl dX4_blockOf_25 (fun v9 h9 n9 H locs hp hr hz hlo => ?_)
    obtain ⟨rfl, rfl, rfl⟩ := hp
    show W p l e _ s m _ below meth c H locs _ _ _ (F0 m 28 ls [.long (gf_4_exclusiveOr R nd g n0 row d0)])
    exact h_lret X hr hz hlo (glflp (id (by unfold gf_4_blockOf; rw [if_pos c5]))) (Nat.le_of_ble_eq_true rfl) (Nat.le_of_ble_eq_true rfl) dX4_blockOf_28
  · refine lv_aload_n X.x X.b dX4_blockOf_8 rfl (lv_at hl 0 rfl) ?_
    refine h_get X hr fd_X4_40 gput_o (v := .ref (a + 4)) rfl dX4_blockOf_9 ?_
    refine lv_iload_n X.x X.b dX4_blockOf_12 rfl (lv_at hl 3 rfl) ?_
    refine h_aald X hr gput_k (gx_live c5 hnd) (v := .ref (aD a d0.toNatClampNeg)) rfl dX4_blockOf_13 ?_
    refine lv_iload_n X.x X.b dX4_blockOf_14 rfl (lv_at hl 2 rfl) ?_
    refine h_callV X hr hz hlo (rest := []) (gc_1_blockAt_d l D H0 a R nd g h0 n d0.toNatClampNeg row hnd hRR (vp_lt (gx_live c5 hnd)) ) (gput_aD (vp_lt (gx_live c5 hnd))) rfl yv_X1_blockAt ml_X4_254 ⟨(Nat.le_of_ble_eq_true rfl), (Nat.le_of_ble_eq_true rfl)⟩ (Nat.le_of_ble_eq_true rfl) hl.1 ⟨(Nat.le_of_ble_eq_true rfl), (Nat.le_of_ble_eq_true rfl)⟩ rfl dX4_blockOf_15 (fun v9 h9 n9 H locs hp hr hz hlo => ?_)
    obtain ⟨rfl, rfl, rfl⟩ := hp
    show W p l e _ s m _ below meth c H locs _ _ _ (F0 m 18 ls [.long (gf_1_blockAt_d R nd g d0.toNatClampNeg row)])
    refine lv_goto (tgt := 28) X.x X.b dX4_blockOf_18 (by decide) ?_
    exact h_lret X hr hz hlo (glflp (id (by unfold gf_4_blockOf; rw [if_neg c5]))) (Nat.le_of_ble_eq_true rfl) (Nat.le_of_ble_eq_true rfl) dX4_blockOf_28

def gf_4_valueOf (R nd : Nat) (g : GS) (x : Int32) : Int64 :=
  gf_4_blockOf R nd g (gf_4_widthOf R nd g x) (gf_4_rowIn R nd g (gf_4_widthOf R nd g x) x) (gf_4_diskIn R nd g (gf_4_widthOf R nd g x) x)
set_option maxRecDepth 20000 in
set_option maxHeartbeats 4000000 in
theorem gc_4_valueOf (l : Launch) (D : hD) (H0 : Heap) (a R nd : Nat) (g : GS) (h0 : hH) (n : Nat) (x : Int32) (hnd : nd ≤ 10) (hRR : R ≤ 48)  : cM l D H0 yX4_valueOf cX4_valueOf 3 (some .long) 3 70 0 0 [.ref a, .int x] (gput a R nd g h0) n (cE (some (.long (gf_4_valueOf R nd g x))) (gput a R nd g h0) n) := by
  refine h_met (by decide) (Nat.le_of_ble_eq_true rfl) ?_
  intro p e s m below meth c H ls X hnm hr hz hl
  have hl : lv_has ls 3 [(0, .ref a), (1, .int x)] := hl
  have hlo : hL H0 ([] : List Loc) := hL.nil
  refine lv_aload_n X.x X.b dX4_valueOf_0 rfl (lv_at hl 0 rfl) ?_
  refine lv_iload_n X.x X.b dX4_valueOf_1 rfl (lv_at hl 1 rfl) ?_
  refine h_callV X hr hz hlo (rest := []) (gc_4_widthOf l D H0 a R nd g h0 n x hnd hRR  ) gput_o rfl yv_X4_widthOf ml_X4_67 ⟨(Nat.le_of_ble_eq_true rfl), (Nat.le_of_ble_eq_true rfl)⟩ (Nat.le_of_ble_eq_true rfl) hl.1 ⟨(Nat.le_of_ble_eq_true rfl), (Nat.le_of_ble_eq_true rfl)⟩ rfl dX4_valueOf_2 (fun v9 h9 n9 H locs hp hr hz hlo => ?_)
  obtain ⟨rfl, rfl, rfl⟩ := hp
  show W p l e _ s m _ below meth c H locs _ _ _ (F0 m 5 ls [.int (gf_4_widthOf R nd g x)])
  refine lv_istore_n (lv' := [(2, .int (gf_4_widthOf R nd g x)), (0, .ref a), (1, .int x)]) X.x X.b dX4_valueOf_5 rfl hl (by decide) rfl (fun ls hl => ?_)
  refine lv_aload_n X.x X.b dX4_valueOf_6 rfl (lv_at hl 1 rfl) ?_
  refine lv_iload_n X.x X.b dX4_valueOf_7 rfl (lv_at hl 0 rfl) ?_
  refine lv_iload_n X.x X.b dX4_valueOf_8 rfl (lv_at hl 0 rfl) ?_
  refine lv_iload_n X.x X.b dX4_valueOf_9 rfl (lv_at hl 2 rfl) ?_
  refine h_callS X hr hz hlo (rest := [.int (gf_4_widthOf R nd g x), .ref a]) (gc_4_rowIn l D H0 a R nd g h0 n (gf_4_widthOf R nd g x) x hnd hRR  ) ys_X4_rowIn ml_X4_71 ⟨(Nat.le_of_ble_eq_true rfl), (Nat.le_of_ble_eq_true rfl)⟩ (Nat.le_of_ble_eq_true rfl) hl.1 ⟨(Nat.le_of_ble_eq_true rfl), (Nat.le_of_ble_eq_true rfl)⟩ rfl dX4_valueOf_10 (fun v9 h9 n9 H locs hp hr hz hlo => ?_)
  obtain ⟨rfl, rfl, rfl⟩ := hp
  show W p l e _ s m _ below meth c H locs _ _ _ (F0 m 13 ls [.int (gf_4_rowIn R nd g (gf_4_widthOf R nd g x) x), .int (gf_4_widthOf R nd g x), .ref a])
  refine lv_iload_n X.x X.b dX4_valueOf_13 rfl (lv_at hl 0 rfl) ?_
  refine lv_iload_n X.x X.b dX4_valueOf_14 rfl (lv_at hl 2 rfl) ?_
  refine h_callS X hr hz hlo (rest := [.int (gf_4_rowIn R nd g (gf_4_widthOf R nd g x) x), .int (gf_4_widthOf R nd g x), .ref a]) (gc_4_diskIn l D H0 a R nd g h0 n (gf_4_widthOf R nd g x) x hnd hRR  ) ys_X4_diskIn ml_X4_75 ⟨(Nat.le_of_ble_eq_true rfl), (Nat.le_of_ble_eq_true rfl)⟩ (Nat.le_of_ble_eq_true rfl) hl.1 ⟨(Nat.le_of_ble_eq_true rfl), (Nat.le_of_ble_eq_true rfl)⟩ rfl dX4_valueOf_15 (fun v9 h9 n9 H locs hp hr hz hlo => ?_)
  obtain ⟨rfl, rfl, rfl⟩ := hp
  show W p l e _ s m _ below meth c H locs _ _ _ (F0 m 18 ls [.int (gf_4_diskIn R nd g (gf_4_widthOf R nd g x) x), .int (gf_4_rowIn R nd g (gf_4_widthOf R nd g x) x), .int (gf_4_widthOf R nd g x), .ref a])
  refine h_callV X hr hz hlo (rest := []) (gc_4_blockOf l D H0 a R nd g h0 n (gf_4_widthOf R nd g x) (gf_4_rowIn R nd g (gf_4_widthOf R nd g x) x) (gf_4_diskIn R nd g (gf_4_widthOf R nd g x) x) hnd hRR  ) gput_o rfl yv_X4_blockOf ml_X4_259 ⟨(Nat.le_of_ble_eq_true rfl), (Nat.le_of_ble_eq_true rfl)⟩ (Nat.le_of_ble_eq_true rfl) hl.1 ⟨(Nat.le_of_ble_eq_true rfl), (Nat.le_of_ble_eq_true rfl)⟩ rfl dX4_valueOf_18 (fun v9 h9 n9 H locs hp hr hz hlo => ?_)
  obtain ⟨rfl, rfl, rfl⟩ := hp
  show W p l e _ s m _ below meth c H locs _ _ _ (F0 m 21 ls [.long (gf_4_blockOf R nd g (gf_4_widthOf R nd g x) (gf_4_rowIn R nd g (gf_4_widthOf R nd g x) x) (gf_4_diskIn R nd g (gf_4_widthOf R nd g x) x))])
  exact h_lret X hr hz hlo (glflp (id (by unfold gf_4_valueOf; rfl))) (Nat.le_of_ble_eq_true rfl) (Nat.le_of_ble_eq_true rfl) dX4_valueOf_21

def gg_4_parityWith_14 (R nd : Nat) (g : GS) (n0 : Int32) (row : Int32) (tg : Int32) (v : Int64) : Nat → Nat → Int64 → Int32 → Int64
  | 0, _, _, _ => 0
  | j + 1, k, acc, pd =>
    if n0 ≤ (nI k) then
      acc
    else
      if (nI k) = pd then
        gg_4_parityWith_14 R nd g n0 row tg v  j (k + 1) acc pd
      else
        if (nI k) = tg then
          gg_4_parityWith_14 R nd g n0 row tg v  j (k + 1) acc pd
        else
          gg_4_parityWith_14 R nd g n0 row tg v  j (k + 1) (acc ^^^ (gf_4_blockOf R nd g n0 row (nI k))) pd
def gf_4_parityWith (R nd : Nat) (g : GS) (n0 : Int32) (row : Int32) (tg : Int32) (v : Int64) : Int64 :=
  gg_4_parityWith_14 R nd g n0 row tg v  (n0.toNatClampNeg + 1) 0 v (gf_4_parityDisk R nd g n0 row)
set_option maxRecDepth 20000 in
set_option maxHeartbeats 4000000 in
theorem gc_4_parityWith (l : Launch) (D : hD) (H0 : Heap) (a R nd : Nat) (g : GS) (h0 : hH) (n : Nat) (n0 : Int32) (row : Int32) (tg : Int32) (v : Int64) (hnd : nd ≤ 10) (hRR : R ≤ 48)  : cM l D H0 yX4_parityWith cX4_parityWith 10 (some .long) 3 70 0 0 [.ref a, .int n0, .int row, .int tg, .long v] (gput a R nd g h0) n (cE (some (.long (gf_4_parityWith R nd g n0 row tg v))) (gput a R nd g h0) n) := by
  refine h_met (by decide) (Nat.le_of_ble_eq_true rfl) ?_
  intro p e s m below meth c H ls X hnm hr hz hl
  have hl : lv_has ls 10 [(0, .ref a), (1, .int n0), (2, .int row), (3, .int tg), (4, .long v)] := hl
  have hlo : hL H0 ([] : List Loc) := hL.nil
  have loop14 : ∀ (j k : Nat) (acc : Int64) (pd : Int32) (hk : k ≤ n0.toNatClampNeg) (hj : n0.toNatClampNeg < k + j) (hG : gf_4_parityWith R nd g n0 row tg v = gg_4_parityWith_14 R nd g n0 row tg v  j k acc pd) (H : Heap) (locs : List Loc) (ls : Array Slot), hR D H0 (gput a R nd g h0) H → H.size = n → hL H0 locs → lv_has ls 10 [(9, .int (nI k)), (7, .long acc), (6, .int pd), (0, .ref a), (1, .int n0), (2, .int row), (3, .int tg)] → W p l e (rmk 3 70 0 0) s m ([.ref a, .int n0, .int row, .int tg, .long v] : List Value).toArray below meth c H locs 0 0 (MQ below (cQ D H0 (cE (some (.long (gf_4_parityWith R nd g n0 row tg v))) (gput a R nd g h0) n)) ([.ref a, .int n0, .int row, .int tg, .long v] : List Value).toArray s 0 0 (hF H0)) (F0 m 14 ls []) := by
    intro j
    induction j with
    | zero => intro k acc pd hk hj; omega
    | succ j ih =>
      intro k acc pd hk hj hG H locs ls hr hz hlo hl
      refine lv_iload X.x X.b dX4_parityWith_14 (lv_at hl 0 rfl) ?_
      refine lv_iload_n X.x X.b dX4_parityWith_16 rfl (lv_at hl 4 rfl) ?_
      refine lv_icmp_ge (tgt := 52) X.x X.b dX4_parityWith_17 (by decide) (fun c17 => ?_) (fun c17 => ?_)
      · refine lv_lload X.x X.b dX4_parityWith_52 (lv_at hl 1 rfl) ?_
        exact h_lret X hr hz hlo (glflp (hG.trans (by rw [gg_4_parityWith_14]; rw [if_pos c17]))) (Nat.le_of_ble_eq_true rfl) (Nat.le_of_ble_eq_true rfl) dX4_parityWith_54
      · have hk9 : k < n0.toNatClampNeg := cl_lt c17 hk
        refine lv_iload X.x X.b dX4_parityWith_20 (lv_at hl 0 rfl) ?_
        refine lv_iload X.x X.b dX4_parityWith_22 (lv_at hl 2 rfl) ?_
        refine lv_icmp_eq (tgt := 46) X.x X.b dX4_parityWith_24 (by decide) (fun c24 => ?_) (fun c24 => ?_)
        · refine lv_iinc (v := nI (k + 1)) (lv' := [(9, .int (nI (k + 1))), (7, .long acc), (6, .int pd), (0, .ref a), (1, .int n0), (2, .int row), (3, .int tg)]) X.x X.b dX4_parityWith_46 hl (k := 0) rfl (nI_1 k) (by decide) rfl (fun ls hl => ?_)
          refine lv_goto (tgt := 14) X.x X.b dX4_parityWith_49 (by decide) ?_
          exact ih (k + 1) acc pd (by omega) (by omega) (hG.trans (by rw [gg_4_parityWith_14]; rw [if_neg c17, if_pos c24])) _ _ _ hr hz hlo (lv_sub hl [0, 1, 2, 3, 4, 5, 6] rfl)
        · refine lv_iload X.x X.b dX4_parityWith_27 (lv_at hl 0 rfl) ?_
          refine lv_iload_n X.x X.b dX4_parityWith_29 rfl (lv_at hl 6 rfl) ?_
          refine lv_icmp_eq (tgt := 46) X.x X.b dX4_parityWith_30 (by decide) (fun c30 => ?_) (fun c30 => ?_)
          · refine lv_iinc (v := nI (k + 1)) (lv' := [(9, .int (nI (k + 1))), (7, .long acc), (6, .int pd), (0, .ref a), (1, .int n0), (2, .int row), (3, .int tg)]) X.x X.b dX4_parityWith_46 hl (k := 0) rfl (nI_1 k) (by decide) rfl (fun ls hl => ?_)
            refine lv_goto (tgt := 14) X.x X.b dX4_parityWith_49 (by decide) ?_
            exact ih (k + 1) acc pd (by omega) (by omega) (hG.trans (by rw [gg_4_parityWith_14]; rw [if_neg c17, if_neg c24, if_pos c30])) _ _ _ hr hz hlo (lv_sub hl [0, 1, 2, 3, 4, 5, 6] rfl)
          · refine lv_lload X.x X.b dX4_parityWith_33 (lv_at hl 1 rfl) ?_
            refine lv_aload_n X.x X.b dX4_parityWith_35 rfl (lv_at hl 3 rfl) ?_
            refine lv_iload_n X.x X.b dX4_parityWith_36 rfl (lv_at hl 4 rfl) ?_
            refine lv_iload_n X.x X.b dX4_parityWith_37 rfl (lv_at hl 5 rfl) ?_
            refine lv_iload X.x X.b dX4_parityWith_38 (lv_at hl 0 rfl) ?_
            refine h_callV X hr hz hlo (rest := [.long acc]) (gc_4_blockOf l D H0 a R nd g h0 n n0 row (nI k) hnd hRR  ) gput_o rfl yv_X4_blockOf ml_X4_259 ⟨(Nat.le_of_ble_eq_true rfl), (Nat.le_of_ble_eq_true rfl)⟩ (Nat.le_of_ble_eq_true rfl) hl.1 ⟨(Nat.le_of_ble_eq_true rfl), (Nat.le_of_ble_eq_true rfl)⟩ rfl dX4_parityWith_40 (fun v9 h9 n9 H locs hp hr hz hlo => ?_)
            obtain ⟨rfl, rfl, rfl⟩ := hp
            show W p l e _ s m _ below meth c H locs _ _ _ (F0 m 43 ls [.long (gf_4_blockOf R nd g n0 row (nI k)), .long acc])
            refine lv_lxor X.x X.b dX4_parityWith_43 ?_
            refine lv_lstore (lv' := [(7, .long (acc ^^^ (gf_4_blockOf R nd g n0 row (nI k)))), (9, .int (nI k)), (6, .int pd), (0, .ref a), (1, .int n0), (2, .int row), (3, .int tg)]) X.x X.b dX4_parityWith_44 hl (by decide) rfl (fun ls hl => ?_)
            refine lv_iinc (v := nI (k + 1)) (lv' := [(9, .int (nI (k + 1))), (7, .long (acc ^^^ (gf_4_blockOf R nd g n0 row (nI k)))), (6, .int pd), (0, .ref a), (1, .int n0), (2, .int row), (3, .int tg)]) X.x X.b dX4_parityWith_46 hl (k := 1) rfl (nI_1 k) (by decide) rfl (fun ls hl => ?_)
            refine lv_goto (tgt := 14) X.x X.b dX4_parityWith_49 (by decide) ?_
            exact ih (k + 1) (acc ^^^ (gf_4_blockOf R nd g n0 row (nI k))) pd (by omega) (by omega) (hG.trans (by rw [gg_4_parityWith_14]; rw [if_neg c17, if_neg c24, if_neg c30])) _ _ _ hr hz hlo (lv_sub hl [0, 1, 2, 3, 4, 5, 6] rfl)
  refine lv_iload_n X.x X.b dX4_parityWith_0 rfl (lv_at hl 1 rfl) ?_
  refine lv_iload_n X.x X.b dX4_parityWith_1 rfl (lv_at hl 2 rfl) ?_
  refine h_callS X hr hz hlo (rest := []) (gc_4_parityDisk l D H0 a R nd g h0 n n0 row hnd hRR  ) ys_X4_parityDisk ml_X4_84 ⟨(Nat.le_of_ble_eq_true rfl), (Nat.le_of_ble_eq_true rfl)⟩ (Nat.le_of_ble_eq_true rfl) hl.1 ⟨(Nat.le_of_ble_eq_true rfl), (Nat.le_of_ble_eq_true rfl)⟩ rfl dX4_parityWith_2 (fun v9 h9 n9 H locs hp hr hz hlo => ?_)
  obtain ⟨rfl, rfl, rfl⟩ := hp
  show W p l e _ s m _ below meth c H locs _ _ _ (F0 m 5 ls [.int (gf_4_parityDisk R nd g n0 row)])
  refine lv_istore (lv' := [(6, .int (gf_4_parityDisk R nd g n0 row)), (0, .ref a), (1, .int n0), (2, .int row), (3, .int tg), (4, .long v)]) X.x X.b dX4_parityWith_5 hl (by decide) rfl (fun ls hl => ?_)
  refine lv_lload X.x X.b dX4_parityWith_7 (lv_at hl 5 rfl) ?_
  refine lv_lstore (lv' := [(7, .long v), (6, .int (gf_4_parityDisk R nd g n0 row)), (0, .ref a), (1, .int n0), (2, .int row), (3, .int tg), (4, .long v)]) X.x X.b dX4_parityWith_9 hl (by decide) rfl (fun ls hl => ?_)
  refine lv_iconst (v := 0) X.x X.b dX4_parityWith_11 (by decide) ?_
  refine lv_istore (lv' := [(9, .int 0), (7, .long v), (6, .int (gf_4_parityDisk R nd g n0 row)), (0, .ref a), (1, .int n0), (2, .int row), (3, .int tg), (4, .long v)]) X.x X.b dX4_parityWith_12 hl (by decide) rfl (fun ls hl => ?_)
  have hl : lv_has ls 10 [(9, .int (nI 0)), (7, .long v), (6, .int (gf_4_parityDisk R nd g n0 row)), (0, .ref a), (1, .int n0), (2, .int row), (3, .int tg), (4, .long v)] := by rw [nI_0]; exact hl
  exact loop14 (n0.toNatClampNeg + 1) 0 v (gf_4_parityDisk R nd g n0 row) (by omega) (by omega) (id (by unfold gf_4_parityWith; rfl)) _ _ _ hr hz hlo (lv_sub hl [0, 1, 2, 3, 4, 5, 6] rfl)

def gf_4_blockDue (R nd : Nat) (g : GS) (d0 : Int32) (row : Int32) : Int64 :=
  if (gf_4_widthOfRow R nd g row) ≤ d0 then
    0
  else
    gf_4_exclusiveOr R nd g (gf_4_widthOfRow R nd g row) row d0
set_option maxRecDepth 20000 in
set_option maxHeartbeats 4000000 in
theorem gc_4_blockDue (l : Launch) (D : hD) (H0 : Heap) (a R nd : Nat) (g : GS) (h0 : hH) (n : Nat) (d0 : Int32) (row : Int32) (hnd : nd ≤ 10) (hRR : R ≤ 48)  : cM l D H0 yX4_blockDue cX4_blockDue 4 (some .long) 2 47 0 0 [.ref a, .int d0, .int row] (gput a R nd g h0) n (cE (some (.long (gf_4_blockDue R nd g d0 row))) (gput a R nd g h0) n) := by
  refine h_met (by decide) (Nat.le_of_ble_eq_true rfl) ?_
  intro p e s m below meth c H ls X hnm hr hz hl
  have hl : lv_has ls 4 [(0, .ref a), (1, .int d0), (2, .int row)] := hl
  have hlo : hL H0 ([] : List Loc) := hL.nil
  refine lv_aload_n X.x X.b dX4_blockDue_0 rfl (lv_at hl 0 rfl) ?_
  refine lv_iload_n X.x X.b dX4_blockDue_1 rfl (lv_at hl 2 rfl) ?_
  refine h_callV X hr hz hlo (rest := []) (gc_4_widthOfRow l D H0 a R nd g h0 n row hnd hRR  ) gput_o rfl yv_X4_widthOfRow ml_X4_227 ⟨(Nat.le_of_ble_eq_true rfl), (Nat.le_of_ble_eq_true rfl)⟩ (Nat.le_of_ble_eq_true rfl) hl.1 ⟨(Nat.le_of_ble_eq_true rfl), (Nat.le_of_ble_eq_true rfl)⟩ rfl dX4_blockDue_2 (fun v9 h9 n9 H locs hp hr hz hlo => ?_)
  obtain ⟨rfl, rfl, rfl⟩ := hp
  show W p l e _ s m _ below meth c H locs _ _ _ (F0 m 5 ls [.int (gf_4_widthOfRow R nd g row)])
  refine lv_istore_n (lv' := [(3, .int (gf_4_widthOfRow R nd g row)), (0, .ref a), (1, .int d0), (2, .int row)]) X.x X.b dX4_blockDue_5 rfl hl (by decide) rfl (fun ls hl => ?_)
  refine lv_iload_n X.x X.b dX4_blockDue_6 rfl (lv_at hl 2 rfl) ?_
  refine lv_iload_n X.x X.b dX4_blockDue_7 rfl (lv_at hl 0 rfl) ?_
  refine lv_icmp_ge (tgt := 21) X.x X.b dX4_blockDue_8 (by decide) (fun c8 => ?_) (fun c8 => ?_)
  · refine lv_lconst (v := 0) X.x X.b dX4_blockDue_21 (by decide) ?_
    exact h_lret X hr hz hlo (glflp (id (by unfold gf_4_blockDue; rw [if_pos c8]))) (Nat.le_of_ble_eq_true rfl) (Nat.le_of_ble_eq_true rfl) dX4_blockDue_22
  · refine lv_aload_n X.x X.b dX4_blockDue_11 rfl (lv_at hl 1 rfl) ?_
    refine lv_iload_n X.x X.b dX4_blockDue_12 rfl (lv_at hl 0 rfl) ?_
    refine lv_iload_n X.x X.b dX4_blockDue_13 rfl (lv_at hl 3 rfl) ?_
    refine lv_iload_n X.x X.b dX4_blockDue_14 rfl (lv_at hl 2 rfl) ?_
    refine h_callV X hr hz hlo (rest := []) (gc_4_exclusiveOr l D H0 a R nd g h0 n (gf_4_widthOfRow R nd g row) row d0 hnd hRR  ) gput_o rfl yv_X4_exclusiveOr ml_X4_230 ⟨(Nat.le_of_ble_eq_true rfl), (Nat.le_of_ble_eq_true rfl)⟩ (Nat.le_of_ble_eq_true rfl) hl.1 ⟨(Nat.le_of_ble_eq_true rfl), (Nat.le_of_ble_eq_true rfl)⟩ rfl dX4_blockDue_15 (fun v9 h9 n9 H locs hp hr hz hlo => ?_)
    obtain ⟨rfl, rfl, rfl⟩ := hp
    show W p l e _ s m _ below meth c H locs _ _ _ (F0 m 18 ls [.long (gf_4_exclusiveOr R nd g (gf_4_widthOfRow R nd g row) row d0)])
    refine lv_goto (tgt := 22) X.x X.b dX4_blockDue_18 (by decide) ?_
    exact h_lret X hr hz hlo (glflp (id (by unfold gf_4_blockDue; rw [if_neg c8]))) (Nat.le_of_ble_eq_true rfl) (Nat.le_of_ble_eq_true rfl) dX4_blockDue_22

def gf_4_isCritical (R nd : Nat) (g : GS)  : Int32 :=
  if ((g.1 9) - 1) ≤ ((g.1 11) * ((g.1 10) - (g.1 9))) then
    0
  else
    1
set_option maxRecDepth 20000 in
set_option maxHeartbeats 4000000 in
theorem gc_4_isCritical (l : Launch) (D : hD) (H0 : Heap) (a R nd : Nat) (g : GS) (h0 : hH) (n : Nat)  (hnd : nd ≤ 10) (hRR : R ≤ 48)  : cM l D H0 yX4_isCritical cX4_isCritical 1 (some .boolean) 0 0 0 0 [.ref a] (gput a R nd g h0) n (cE (some (.int (gf_4_isCritical R nd g))) (gput a R nd g h0) n) := by
  refine h_met (by decide) (Nat.le_of_ble_eq_true rfl) ?_
  intro p e s m below meth c H ls X hnm hr hz hl
  have hl : lv_has ls 1 [(0, .ref a)] := hl
  have hlo : hL H0 ([] : List Loc) := hL.nil
  refine lv_aload_n X.x X.b dX4_isCritical_0 rfl (lv_at hl 0 rfl) ?_
  refine h_get X hr fd_X4_19 gput_o (v := .ref (a + 1)) rfl dX4_isCritical_1 ?_
  refine h_get X hr fd_X4_170 gput_h (v := .int (g.1 11)) rfl dX4_isCritical_4 ?_
  refine lv_aload_n X.x X.b dX4_isCritical_7 rfl (lv_at hl 0 rfl) ?_
  refine h_get X hr fd_X4_19 gput_o (v := .ref (a + 1)) rfl dX4_isCritical_8 ?_
  refine h_get X hr fd_X4_115 gput_h (v := .int (g.1 10)) rfl dX4_isCritical_11 ?_
  refine lv_aload_n X.x X.b dX4_isCritical_14 rfl (lv_at hl 0 rfl) ?_
  refine h_get X hr fd_X4_19 gput_o (v := .ref (a + 1)) rfl dX4_isCritical_15 ?_
  refine h_get X hr fd_X4_125 gput_h (v := .int (g.1 9)) rfl dX4_isCritical_18 ?_
  refine lv_isub X.x X.b dX4_isCritical_21 ?_
  refine lv_imul X.x X.b dX4_isCritical_22 ?_
  refine lv_aload_n X.x X.b dX4_isCritical_23 rfl (lv_at hl 0 rfl) ?_
  refine h_get X hr fd_X4_19 gput_o (v := .ref (a + 1)) rfl dX4_isCritical_24 ?_
  refine h_get X hr fd_X4_125 gput_h (v := .int (g.1 9)) rfl dX4_isCritical_27 ?_
  refine lv_iconst (v := 1) X.x X.b dX4_isCritical_30 (by decide) ?_
  refine lv_isub X.x X.b dX4_isCritical_31 ?_
  refine lv_icmp_ge (tgt := 39) X.x X.b dX4_isCritical_32 (by decide) (fun c32 => ?_) (fun c32 => ?_)
  · refine lv_iconst (v := 0) X.x X.b dX4_isCritical_39 (by decide) ?_
    exact h_zret X hr hz hlo rfl (glfip (id (by unfold gf_4_isCritical; rw [if_pos c32]))) (Nat.le_of_ble_eq_true rfl) (Nat.le_of_ble_eq_true rfl) dX4_isCritical_40
  · refine lv_iconst (v := 1) X.x X.b dX4_isCritical_35 (by decide) ?_
    refine lv_goto (tgt := 40) X.x X.b dX4_isCritical_36 (by decide) ?_
    exact h_zret X hr hz hlo rfl (glfip (id (by unfold gf_4_isCritical; rw [if_neg c32]))) (Nat.le_of_ble_eq_true rfl) (Nat.le_of_ble_eq_true rfl) dX4_isCritical_40
