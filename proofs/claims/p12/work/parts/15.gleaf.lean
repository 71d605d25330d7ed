theorem vp_lt {x : Int32} {n : Nat} (h : vp_in x n) : x.toNatClampNeg < n := Nat.not_le.mp fun q => h (Or.inr q)

def gf_3_tell_h (R nd : Nat) (g : GS) (q : Int32) (n0 : Int32) (m0 : Int32) (f : Int32) : GS :=
  gsi (gsi (gsi (gsi g 8 q) 9 n0) 10 m0) 11 f
set_option maxRecDepth 20000 in
set_option maxHeartbeats 4000000 in
theorem gc_3_tell_h (l : Launch) (D : hD) (H0 : Heap) (a R nd : Nat) (g : GS) (h0 : hH) (n : Nat) (q : Int32) (n0 : Int32) (m0 : Int32) (f : Int32) (hnd : nd ≤ 10) (hRR : R ≤ 48)  : cM l D H0 yX3_tell cX3_tell 5 none 0 0 0 0 [.ref (a + 1), .int q, .int n0, .int m0, .int f] (gput a R nd g h0) n (cE none (gput a R nd (gf_3_tell_h R nd g q n0 m0 f) h0) n) := by
  refine h_met (by decide) (Nat.le_of_ble_eq_true rfl) ?_
  intro p e s m below meth c H ls X hnm hr hz hl
  have hl : lv_has ls 5 [(0, .ref (a + 1)), (1, .int q), (2, .int n0), (3, .int m0), (4, .int f)] := hl
  have hlo : hL H0 ([] : List Loc) := hL.nil
  refine lv_aload_n X.x X.b dX3_tell_0 rfl (lv_at hl 0 rfl) ?_
  refine lv_iload_n X.x X.b dX3_tell_1 rfl (lv_at hl 1 rfl) ?_
  refine h_put X hr hz hlo fd_X3_7 tyX3 tyX3_ok nmX3 rfl gput_h (v := .int q) rfl rfl (Nat.le_of_ble_eq_true rfl) dX3_tell_2 (fun H locs hr hz hlo => ?_)
  rw [gput_hs0] at hr
  refine lv_aload_n X.x X.b dX3_tell_5 rfl (lv_at hl 0 rfl) ?_
  refine lv_iload_n X.x X.b dX3_tell_6 rfl (lv_at hl 2 rfl) ?_
  refine h_put X hr hz hlo fd_X3_13 tyX3 tyX3_ok nmX3 rfl gput_h (v := .int n0) rfl rfl (Nat.le_of_ble_eq_true rfl) dX3_tell_7 (fun H locs hr hz hlo => ?_)
  rw [gput_hs1] at hr
  refine lv_aload_n X.x X.b dX3_tell_10 rfl (lv_at hl 0 rfl) ?_
  refine lv_iload_n X.x X.b dX3_tell_11 rfl (lv_at hl 3 rfl) ?_
  refine h_put X hr hz hlo fd_X3_16 tyX3 tyX3_ok nmX3 rfl gput_h (v := .int m0) rfl rfl (Nat.le_of_ble_eq_true rfl) dX3_tell_12 (fun H locs hr hz hlo => ?_)
  rw [gput_hs2] at hr
  refine lv_aload_n X.x X.b dX3_tell_15 rfl (lv_at hl 0 rfl) ?_
  refine lv_iload X.x X.b dX3_tell_16 (lv_at hl 4 rfl) ?_
  refine h_put X hr hz hlo fd_X3_19 tyX3 tyX3_ok nmX3 rfl gput_h (v := .int f) rfl rfl (Nat.le_of_ble_eq_true rfl) dX3_tell_18 (fun H locs hr hz hlo => ?_)
  rw [gput_hs3] at hr
  exact h_vret X hr hz hlo (glfv (id (by unfold gf_3_tell_h; rfl))) (Nat.le_of_ble_eq_true rfl) (Nat.le_of_ble_eq_true rfl) dX3_tell_21

def gf_3_tell_s (R nd : Nat) (g : GS) (d : Nat) (q : Int32) (n0 : Int32) (m0 : Int32) (f : Int32) : GS :=
  gdi (gdi (gdi (gdi g 0 d q) 1 d n0) 2 d m0) 3 d f
set_option maxRecDepth 20000 in
set_option maxHeartbeats 4000000 in
theorem gc_3_tell_s (l : Launch) (D : hD) (H0 : Heap) (a R nd : Nat) (g : GS) (h0 : hH) (n : Nat) (d : Nat) (q : Int32) (n0 : Int32) (m0 : Int32) (f : Int32) (hnd : nd ≤ 10) (hRR : R ≤ 48) (hd : d < 10)  : cM l D H0 yX3_tell cX3_tell 5 none 0 0 0 0 [.ref (aS a d), .int q, .int n0, .int m0, .int f] (gput a R nd g h0) n (cE none (gput a R nd (gf_3_tell_s R nd g d q n0 m0 f) h0) n) := by
  refine h_met (by decide) (Nat.le_of_ble_eq_true rfl) ?_
  intro p e s m below meth c H ls X hnm hr hz hl
  have hl : lv_has ls 5 [(0, .ref (aS a d)), (1, .int q), (2, .int n0), (3, .int m0), (4, .int f)] := hl
  have hlo : hL H0 ([] : List Loc) := hL.nil
  refine lv_aload_n X.x X.b dX3_tell_0 rfl (lv_at hl 0 rfl) ?_
  refine lv_iload_n X.x X.b dX3_tell_1 rfl (lv_at hl 1 rfl) ?_
  refine h_put X hr hz hlo fd_X3_7 tyX3 tyX3_ok nmX3 rfl (gput_aS hd) (v := .int q) rfl rfl (Nat.le_of_ble_eq_true rfl) dX3_tell_2 (fun H locs hr hz hlo => ?_)
  rw [gput_Ss0 hd] at hr
  refine lv_aload_n X.x X.b dX3_tell_5 rfl (lv_at hl 0 rfl) ?_
  refine lv_iload_n X.x X.b dX3_tell_6 rfl (lv_at hl 2 rfl) ?_
  refine h_put X hr hz hlo fd_X3_13 tyX3 tyX3_ok nmX3 rfl (gput_aS hd) (v := .int n0) rfl rfl (Nat.le_of_ble_eq_true rfl) dX3_tell_7 (fun H locs hr hz hlo => ?_)
  rw [gput_Ss1 hd] at hr
  refine lv_aload_n X.x X.b dX3_tell_10 rfl (lv_at hl 0 rfl) ?_
  refine lv_iload_n X.x X.b dX3_tell_11 rfl (lv_at hl 3 rfl) ?_
  refine h_put X hr hz hlo fd_X3_16 tyX3 tyX3_ok nmX3 rfl (gput_aS hd) (v := .int m0) rfl rfl (Nat.le_of_ble_eq_true rfl) dX3_tell_12 (fun H locs hr hz hlo => ?_)
  rw [gput_Ss2 hd] at hr
  refine lv_aload_n X.x X.b dX3_tell_15 rfl (lv_at hl 0 rfl) ?_
  refine lv_iload X.x X.b dX3_tell_16 (lv_at hl 4 rfl) ?_
  refine h_put X hr hz hlo fd_X3_19 tyX3 tyX3_ok nmX3 rfl (gput_aS hd) (v := .int f) rfl rfl (Nat.le_of_ble_eq_true rfl) dX3_tell_18 (fun H locs hr hz hlo => ?_)
  rw [gput_Ss3 hd] at hr
  exact h_vret X hr hz hlo (glfv (id (by unfold gf_3_tell_s; rfl))) (Nat.le_of_ble_eq_true rfl) (Nat.le_of_ble_eq_true rfl) dX3_tell_21

def gf_3_copyFrom_h_s (R nd : Nat) (g : GS) (d : Nat)  : GS :=
  gf_3_tell_h R nd g (g.2.1 0 d) (g.2.1 1 d) (g.2.1 2 d) (g.2.1 3 d)
set_option maxRecDepth 20000 in
set_option maxHeartbeats 4000000 in
theorem gc_3_copyFrom_h_s (l : Launch) (D : hD) (H0 : Heap) (a R nd : Nat) (g : GS) (h0 : hH) (n : Nat) (d : Nat)  (hnd : nd ≤ 10) (hRR : R ≤ 48) (hd : d < 10)  : cM l D H0 yX3_copyFrom cX3_copyFrom 2 none 1 24 0 0 [.ref (a + 1), .ref (aS a d)] (gput a R nd g h0) n (cE none (gput a R nd (gf_3_copyFrom_h_s R nd g d) h0) n) := by
  refine h_met (by decide) (Nat.le_of_ble_eq_true rfl) ?_
  intro p e s m below meth c H ls X hnm hr hz hl
  have hl : lv_has ls 2 [(0, .ref (a + 1)), (1, .ref (aS a d))] := hl
  have hlo : hL H0 ([] : List Loc) := hL.nil
  refine lv_aload_n X.x X.b dX3_copyFrom_0 rfl (lv_at hl 0 rfl) ?_
  refine lv_aload_n X.x X.b dX3_copyFrom_1 rfl (lv_at hl 1 rfl) ?_
  refine h_get X hr fd_X3_7 (gput_aS hd) (v := .int (g.2.1 0 d)) rfl dX3_copyFrom_2 ?_
  refine lv_aload_n X.x X.b dX3_copyFrom_5 rfl (lv_at hl 1 rfl) ?_
  refine h_get X hr fd_X3_13 (gput_aS hd) (v := .int (g.2.1 1 d)) rfl dX3_copyFrom_6 ?_
  refine lv_aload_n X.x X.b dX3_copyFrom_9 rfl (lv_at hl 1 rfl) ?_
  refine h_get X hr fd_X3_16 (gput_aS hd) (v := .int (g.2.1 2 d)) rfl dX3_copyFrom_10 ?_
  refine lv_aload_n X.x X.b dX3_copyFrom_13 rfl (lv_at hl 1 rfl) ?_
  refine h_get X hr fd_X3_19 (gput_aS hd) (v := .int (g.2.1 3 d)) rfl dX3_copyFrom_14 ?_
  refine h_callV X hr hz hlo (rest := []) (gc_3_tell_h l D H0 a R nd g h0 n (g.2.1 0 d) (g.2.1 1 d) (g.2.1 2 d) (g.2.1 3 d) hnd hRR  ) gput_h rfl yv_X3_tell ml_X3_22 ⟨(Nat.le_of_ble_eq_true rfl), (Nat.le_of_ble_eq_true rfl)⟩ (Nat.le_of_ble_eq_true rfl) hl.1 ⟨(Nat.le_of_ble_eq_true rfl), (Nat.le_of_ble_eq_true rfl)⟩ rfl dX3_copyFrom_17 (fun v9 h9 n9 H locs hp hr hz hlo => ?_)
  obtain ⟨rfl, rfl, rfl⟩ := hp
  show W p l e _ s m _ below meth c H locs _ _ _ (F0 m 20 ls [])
  exact h_vret X hr hz hlo (glfv (id (by unfold gf_3_copyFrom_h_s; rfl))) (Nat.le_of_ble_eq_true rfl) (Nat.le_of_ble_eq_true rfl) dX3_copyFrom_20

def gf_3_copyFrom_s_h (R nd : Nat) (g : GS) (d : Nat)  : GS :=
  gf_3_tell_s R nd g d (g.1 8) (g.1 9) (g.1 10) (g.1 11)
set_option maxRecDepth 20000 in
set_option maxHeartbeats 4000000 in
theorem gc_3_copyFrom_s_h (l : Launch) (D : hD) (H0 : Heap) (a R nd : Nat) (g : GS) (h0 : hH) (n : Nat) (d : Nat)  (hnd : nd ≤ 10) (hRR : R ≤ 48) (hd : d < 10)  : cM l D H0 yX3_copyFrom cX3_copyFrom 2 none 1 24 0 0 [.ref (aS a d), .ref (a + 1)] (gput a R nd g h0) n (cE none (gput a R nd (gf_3_copyFrom_s_h R nd g d) h0) n) := by
  refine h_met (by decide) (Nat.le_of_ble_eq_true rfl) ?_
  intro p e s m below meth c H ls X hnm hr hz hl
  have hl : lv_has ls 2 [(0, .ref (aS a d)), (1, .ref (a + 1))] := hl
  have hlo : hL H0 ([] : List Loc) := hL.nil
  refine lv_aload_n X.x X.b dX3_copyFrom_0 rfl (lv_at hl 0 rfl) ?_
  refine lv_aload_n X.x X.b dX3_copyFrom_1 rfl (lv_at hl 1 rfl) ?_
  refine h_get X hr fd_X3_7 gput_h (v := .int (g.1 8)) rfl dX3_copyFrom_2 ?_
  refine lv_aload_n X.x X.b dX3_copyFrom_5 rfl (lv_at hl 1 rfl) ?_
  refine h_get X hr fd_X3_13 gput_h (v := .int (g.1 9)) rfl dX3_copyFrom_6 ?_
  refine lv_aload_n X.x X.b dX3_copyFrom_9 rfl (lv_at hl 1 rfl) ?_
  refine h_get X hr fd_X3_16 gput_h (v := .int (g.1 10)) rfl dX3_copyFrom_10 ?_
  refine lv_aload_n X.x X.b dX3_copyFrom_13 rfl (lv_at hl 1 rfl) ?_
  refine h_get X hr fd_X3_19 gput_h (v := .int (g.1 11)) rfl dX3_copyFrom_14 ?_
  refine h_callV X hr hz hlo (rest := []) (gc_3_tell_s l D H0 a R nd g h0 n d (g.1 8) (g.1 9) (g.1 10) (g.1 11) hnd hRR hd ) (gput_aS hd) rfl yv_X3_tell ml_X3_22 ⟨(Nat.le_of_ble_eq_true rfl), (Nat.le_of_ble_eq_true rfl)⟩ (Nat.le_of_ble_eq_true rfl) hl.1 ⟨(Nat.le_of_ble_eq_true rfl), (Nat.le_of_ble_eq_true rfl)⟩ rfl dX3_copyFrom_17 (fun v9 h9 n9 H locs hp hr hz hlo => ?_)
  obtain ⟨rfl, rfl, rfl⟩ := hp
  show W p l e _ s m _ below meth c H locs _ _ _ (F0 m 20 ls [])
  exact h_vret X hr hz hlo (glfv (id (by unfold gf_3_copyFrom_s_h; rfl))) (Nat.le_of_ble_eq_true rfl) (Nat.le_of_ble_eq_true rfl) dX3_copyFrom_20

def gf_2_tell_r (R nd : Nat) (g : GS) (q : Int32) (c0 : Int32) (w0 : Int32) (x0 : Int32) (p0 : Int32) : GS :=
  gsi (gsi (gsi (gsi (gsi g 12 q) 13 c0) 14 w0) 15 x0) 16 p0
set_option maxRecDepth 20000 in
set_option maxHeartbeats 4000000 in
theorem gc_2_tell_r (l : Launch) (D : hD) (H0 : Heap) (a R nd : Nat) (g : GS) (h0 : hH) (n : Nat) (q : Int32) (c0 : Int32) (w0 : Int32) (x0 : Int32) (p0 : Int32) (hnd : nd ≤ 10) (hRR : R ≤ 48)  : cM l D H0 yX2_tell cX2_tell 6 none 0 0 0 0 [.ref (a + 2), .int q, .int c0, .int w0, .int x0, .int p0] (gput a R nd g h0) n (cE none (gput a R nd (gf_2_tell_r R nd g q c0 w0 x0 p0) h0) n) := by
  refine h_met (by decide) (Nat.le_of_ble_eq_true rfl) ?_
  intro p e s m below meth c H ls X hnm hr hz hl
  have hl : lv_has ls 6 [(0, .ref (a + 2)), (1, .int q), (2, .int c0), (3, .int w0), (4, .int x0), (5, .int p0)] := hl
  have hlo : hL H0 ([] : List Loc) := hL.nil
  refine lv_aload_n X.x X.b dX2_tell_0 rfl (lv_at hl 0 rfl) ?_
  refine lv_iload_n X.x X.b dX2_tell_1 rfl (lv_at hl 1 rfl) ?_
  refine h_put X hr hz hlo fd_X2_7 tyX2 tyX2_ok nmX2 rfl gput_r (v := .int q) rfl rfl (Nat.le_of_ble_eq_true rfl) dX2_tell_2 (fun H locs hr hz hlo => ?_)
  rw [gput_rs0] at hr
  refine lv_aload_n X.x X.b dX2_tell_5 rfl (lv_at hl 0 rfl) ?_
  refine lv_iload_n X.x X.b dX2_tell_6 rfl (lv_at hl 2 rfl) ?_
  refine h_put X hr hz hlo fd_X2_13 tyX2 tyX2_ok nmX2 rfl gput_r (v := .int c0) rfl rfl (Nat.le_of_ble_eq_true rfl) dX2_tell_7 (fun H locs hr hz hlo => ?_)
  rw [gput_rs1] at hr
  refine lv_aload_n X.x X.b dX2_tell_10 rfl (lv_at hl 0 rfl) ?_
  refine lv_iload_n X.x X.b dX2_tell_11 rfl (lv_at hl 3 rfl) ?_
  refine h_put X hr hz hlo fd_X2_16 tyX2 tyX2_ok nmX2 rfl gput_r (v := .int w0) rfl rfl (Nat.le_of_ble_eq_true rfl) dX2_tell_12 (fun H locs hr hz hlo => ?_)
  rw [gput_rs2] at hr
  refine lv_aload_n X.x X.b dX2_tell_15 rfl (lv_at hl 0 rfl) ?_
  refine lv_iload X.x X.b dX2_tell_16 (lv_at hl 4 rfl) ?_
  refine h_put X hr hz hlo fd_X2_19 tyX2 tyX2_ok nmX2 rfl gput_r (v := .int x0) rfl rfl (Nat.le_of_ble_eq_true rfl) dX2_tell_18 (fun H locs hr hz hlo => ?_)
  rw [gput_rs3] at hr
  refine lv_aload_n X.x X.b dX2_tell_21 rfl (lv_at hl 0 rfl) ?_
  refine lv_iload X.x X.b dX2_tell_22 (lv_at hl 5 rfl) ?_
  refine h_put X hr hz hlo fd_X2_22 tyX2 tyX2_ok nmX2 rfl gput_r (v := .int p0) rfl rfl (Nat.le_of_ble_eq_true rfl) dX2_tell_24 (fun H locs hr hz hlo => ?_)
  rw [gput_rs4] at hr
  exact h_vret X hr hz hlo (glfv (id (by unfold gf_2_tell_r; rfl))) (Nat.le_of_ble_eq_true rfl) (Nat.le_of_ble_eq_true rfl) dX2_tell_27

def gf_2_tell_j (R nd : Nat) (g : GS) (d : Nat) (q : Int32) (c0 : Int32) (w0 : Int32) (x0 : Int32) (p0 : Int32) : GS :=
  gdi (gdi (gdi (gdi (gdi g 4 d q) 5 d c0) 6 d w0) 7 d x0) 8 d p0
set_option maxRecDepth 20000 in
set_option maxHeartbeats 4000000 in
theorem gc_2_tell_j (l : Launch) (D : hD) (H0 : Heap) (a R nd : Nat) (g : GS) (h0 : hH) (n : Nat) (d : Nat) (q : Int32) (c0 : Int32) (w0 : Int32) (x0 : Int32) (p0 : Int32) (hnd : nd ≤ 10) (hRR : R ≤ 48) (hd : d < 10)  : cM l D H0 yX2_tell cX2_tell 6 none 0 0 0 0 [.ref (aJ a d), .int q, .int c0, .int w0, .int x0, .int p0] (gput a R nd g h0) n (cE none (gput a R nd (gf_2_tell_j R nd g d q c0 w0 x0 p0) h0) n) := by
  refine h_met (by decide) (Nat.le_of_ble_eq_true rfl) ?_
  intro p e s m below meth c H ls X hnm hr hz hl
  have hl : lv_has ls 6 [(0, .ref (aJ a d)), (1, .int q), (2, .int c0), (3, .int w0), (4, .int x0), (5, .int p0)] := hl
  have hlo : hL H0 ([] : List Loc) := hL.nil
  refine lv_aload_n X.x X.b dX2_tell_0 rfl (lv_at hl 0 rfl) ?_
  refine lv_iload_n X.x X.b dX2_tell_1 rfl (lv_at hl 1 rfl) ?_
  refine h_put X hr hz hlo fd_X2_7 tyX2 tyX2_ok nmX2 rfl (gput_aJ hd) (v := .int q) rfl rfl (Nat.le_of_ble_eq_true rfl) dX2_tell_2 (fun H locs hr hz hlo => ?_)
  rw [gput_Js0 hd] at hr
  refine lv_aload_n X.x X.b dX2_tell_5 rfl (lv_at hl 0 rfl) ?_
  refine lv_iload_n X.x X.b dX2_tell_6 rfl (lv_at hl 2 rfl) ?_
  refine h_put X hr hz hlo fd_X2_13 tyX2 tyX2_ok nmX2 rfl (gput_aJ hd) (v := .int c0) rfl rfl (Nat.le_of_ble_eq_true rfl) dX2_tell_7 (fun H locs hr hz hlo => ?_)
  rw [gput_Js1 hd] at hr
  refine lv_aload_n X.x X.b dX2_tell_10 rfl (lv_at hl 0 rfl) ?_
  refine lv_iload_n X.x X.b dX2_tell_11 rfl (lv_at hl 3 rfl) ?_
  refine h_put X hr hz hlo fd_X2_16 tyX2 tyX2_ok nmX2 rfl (gput_aJ hd) (v := .int w0) rfl rfl (Nat.le_of_ble_eq_true rfl) dX2_tell_12 (fun H locs hr hz hlo => ?_)
  rw [gput_Js2 hd] at hr
  refine lv_aload_n X.x X.b dX2_tell_15 rfl (lv_at hl 0 rfl) ?_
  refine lv_iload X.x X.b dX2_tell_16 (lv_at hl 4 rfl) ?_
  refine h_put X hr hz hlo fd_X2_19 tyX2 tyX2_ok nmX2 rfl (gput_aJ hd) (v := .int x0) rfl rfl (Nat.le_of_ble_eq_true rfl) dX2_tell_18 (fun H locs hr hz hlo => ?_)
  rw [gput_Js3 hd] at hr
  refine lv_aload_n X.x X.b dX2_tell_21 rfl (lv_at hl 0 rfl) ?_
  refine lv_iload X.x X.b dX2_tell_22 (lv_at hl 5 rfl) ?_
  refine h_put X hr hz hlo fd_X2_22 tyX2 tyX2_ok nmX2 rfl (gput_aJ hd) (v := .int p0) rfl rfl (Nat.le_of_ble_eq_true rfl) dX2_tell_24 (fun H locs hr hz hlo => ?_)
  rw [gput_Js4 hd] at hr
  exact h_vret X hr hz hlo (glfv (id (by unfold gf_2_tell_j; rfl))) (Nat.le_of_ble_eq_true rfl) (Nat.le_of_ble_eq_true rfl) dX2_tell_27

def gf_2_copyFrom_r_j (R nd : Nat) (g : GS) (d : Nat)  : GS :=
  gli (gli (gf_2_tell_r R nd g (g.2.1 4 d) (g.2.1 5 d) (g.2.1 6 d) (g.2.1 7 d) (g.2.1 8 d)) 0 0 0 ((gf_2_tell_r R nd g (g.2.1 4 d) (g.2.1 5 d) (g.2.1 6 d) (g.2.1 7 d) (g.2.1 8 d)).2.2 2 d 0)) 0 0 1 ((gf_2_tell_r R nd g (g.2.1 4 d) (g.2.1 5 d) (g.2.1 6 d) (g.2.1 7 d) (g.2.1 8 d)).2.2 2 d 1)
set_option maxRecDepth 20000 in
set_option maxHeartbeats 4000000 in
theorem gc_2_copyFrom_r_j (l : Launch) (D : hD) (H0 : Heap) (a R nd : Nat) (g : GS) (h0 : hH) (n : Nat) (d : Nat)  (hnd : nd ≤ 10) (hRR : R ≤ 48) (hd : d < 10)  : cM l D H0 yX2_copyFrom cX2_copyFrom 2 none 1 25 0 0 [.ref (a + 2), .ref (aJ a d)] (gput a R nd g h0) n (cE none (gput a R nd (gf_2_copyFrom_r_j R nd g d) h0) n) := by
  refine h_met (by decide) (Nat.le_of_ble_eq_true rfl) ?_
  intro p e s m below meth c H ls X hnm hr hz hl
  have hl : lv_has ls 2 [(0, .ref (a + 2)), (1, .ref (aJ a d))] := hl
  have hlo : hL H0 ([] : List Loc) := hL.nil
  refine lv_aload_n X.x X.b dX2_copyFrom_0 rfl (lv_at hl 0 rfl) ?_
  refine lv_aload_n X.x X.b dX2_copyFrom_1 rfl (lv_at hl 1 rfl) ?_
  refine h_get X hr fd_X2_7 (gput_aJ hd) (v := .int (g.2.1 4 d)) rfl dX2_copyFrom_2 ?_
  refine lv_aload_n X.x X.b dX2_copyFrom_5 rfl (lv_at hl 1 rfl) ?_
  refine h_get X hr fd_X2_13 (gput_aJ hd) (v := .int (g.2.1 5 d)) rfl dX2_copyFrom_6 ?_
  refine lv_aload_n X.x X.b dX2_copyFrom_9 rfl (lv_at hl 1 rfl) ?_
  refine h_get X hr fd_X2_16 (gput_aJ hd) (v := .int (g.2.1 6 d)) rfl dX2_copyFrom_10 ?_
  refine lv_aload_n X.x X.b dX2_copyFrom_13 rfl (lv_at hl 1 rfl) ?_
  refine h_get X hr fd_X2_19 (gput_aJ hd) (v := .int (g.2.1 7 d)) rfl dX2_copyFrom_14 ?_
  refine lv_aload_n X.x X.b dX2_copyFrom_17 rfl (lv_at hl 1 rfl) ?_
  refine h_get X hr fd_X2_22 (gput_aJ hd) (v := .int (g.2.1 8 d)) rfl dX2_copyFrom_18 ?_
  refine h_callV X hr hz hlo (rest := []) (gc_2_tell_r l D H0 a R nd g h0 n (g.2.1 4 d) (g.2.1 5 d) (g.2.1 6 d) (g.2.1 7 d) (g.2.1 8 d) hnd hRR  ) gput_r rfl yv_X2_tell ml_X2_25 ⟨(Nat.le_of_ble_eq_true rfl), (Nat.le_of_ble_eq_true rfl)⟩ (Nat.le_of_ble_eq_true rfl) hl.1 ⟨(Nat.le_of_ble_eq_true rfl), (Nat.le_of_ble_eq_true rfl)⟩ rfl dX2_copyFrom_21 (fun v9 h9 n9 H locs hp hr hz hlo => ?_)
  obtain ⟨rfl, rfl, rfl⟩ := hp
  show W p l e _ s m _ below meth c H locs _ _ _ (F0 m 24 ls [])
  refine lv_aload_n X.x X.b dX2_copyFrom_24 rfl (lv_at hl 0 rfl) ?_
  refine lv_aload_n X.x X.b dX2_copyFrom_25 rfl (lv_at hl 1 rfl) ?_
  refine h_get X hr fd_X2_29 (gput_aJ hd) (v := .long ((gf_2_tell_r R nd g (g.2.1 4 d) (g.2.1 5 d) (g.2.1 6 d) (g.2.1 7 d) (g.2.1 8 d)).2.2 2 d 0)) rfl dX2_copyFrom_26 ?_
  refine h_put X hr hz hlo fd_X2_29 tyX2 tyX2_ok nmX2 rfl gput_r (v := .long ((gf_2_tell_r R nd g (g.2.1 4 d) (g.2.1 5 d) (g.2.1 6 d) (g.2.1 7 d) (g.2.1 8 d)).2.2 2 d 0)) rfl rfl (Nat.le_of_ble_eq_true rfl) dX2_copyFrom_29 (fun H locs hr hz hlo => ?_)
  rw [gput_rl0] at hr
  refine lv_aload_n X.x X.b dX2_copyFrom_32 rfl (lv_at hl 0 rfl) ?_
  refine lv_aload_n X.x X.b dX2_copyFrom_33 rfl (lv_at hl 1 rfl) ?_
  refine h_get X hr fd_X2_33 (gput_aJ hd) (v := .long ((gf_2_tell_r R nd g (g.2.1 4 d) (g.2.1 5 d) (g.2.1 6 d) (g.2.1 7 d) (g.2.1 8 d)).2.2 2 d 1)) rfl dX2_copyFrom_34 ?_
  refine h_put X hr hz hlo fd_X2_33 tyX2 tyX2_ok nmX2 rfl gput_r (v := .long ((gf_2_tell_r R nd g (g.2.1 4 d) (g.2.1 5 d) (g.2.1 6 d) (g.2.1 7 d) (g.2.1 8 d)).2.2 2 d 1)) rfl rfl (Nat.le_of_ble_eq_true rfl) dX2_copyFrom_37 (fun H locs hr hz hlo => ?_)
  rw [gput_rl1] at hr
  exact h_vret X hr hz hlo (glfv (id (by unfold gf_2_copyFrom_r_j; rfl))) (Nat.le_of_ble_eq_true rfl) (Nat.le_of_ble_eq_true rfl) dX2_copyFrom_40

def gf_2_copyFrom_j_r (R nd : Nat) (g : GS) (d : Nat)  : GS :=
  gli (gli (gf_2_tell_j R nd g d (g.1 12) (g.1 13) (g.1 14) (g.1 15) (g.1 16)) 2 d 0 ((gf_2_tell_j R nd g d (g.1 12) (g.1 13) (g.1 14) (g.1 15) (g.1 16)).2.2 0 0 0)) 2 d 1 ((gf_2_tell_j R nd g d (g.1 12) (g.1 13) (g.1 14) (g.1 15) (g.1 16)).2.2 0 0 1)
set_option maxRecDepth 20000 in
set_option maxHeartbeats 4000000 in
theorem gc_2_copyFrom_j_r (l : Launch) (D : hD) (H0 : Heap) (a R nd : Nat) (g : GS) (h0 : hH) (n : Nat) (d : Nat)  (hnd : nd ≤ 10) (hRR : R ≤ 48) (hd : d < 10)  : cM l D H0 yX2_copyFrom cX2_copyFrom 2 none 1 25 0 0 [.ref (aJ a d), .ref (a + 2)] (gput a R nd g h0) n (cE none (gput a R nd (gf_2_copyFrom_j_r R nd g d) h0) n) := by
  refine h_met (by decide) (Nat.le_of_ble_eq_true rfl) ?_
  intro p e s m below meth c H ls X hnm hr hz hl
  have hl : lv_has ls 2 [(0, .ref (aJ a d)), (1, .ref (a + 2))] := hl
  have hlo : hL H0 ([] : List Loc) := hL.nil
  refine lv_aload_n X.x X.b dX2_copyFrom_0 rfl (lv_at hl 0 rfl) ?_
  refine lv_aload_n X.x X.b dX2_copyFrom_1 rfl (lv_at hl 1 rfl) ?_
  refine h_get X hr fd_X2_7 gput_r (v := .int (g.1 12)) rfl dX2_copyFrom_2 ?_
  refine lv_aload_n X.x X.b dX2_copyFrom_5 rfl (lv_at hl 1 rfl) ?_
  refine h_get X hr fd_X2_13 gput_r (v := .int (g.1 13)) rfl dX2_copyFrom_6 ?_
  refine lv_aload_n X.x X.b dX2_copyFrom_9 rfl (lv_at hl 1 rfl) ?_
  refine h_get X hr fd_X2_16 gput_r (v := .int (g.1 14)) rfl dX2_copyFrom_10 ?_
  refine lv_aload_n X.x X.b dX2_copyFrom_13 rfl (lv_at hl 1 rfl) ?_
  refine h_get X hr fd_X2_19 gput_r (v := .int (g.1 15)) rfl dX2_copyFrom_14 ?_
  refine lv_aload_n X.x X.b dX2_copyFrom_17 rfl (lv_at hl 1 rfl) ?_
  refine h_get X hr fd_X2_22 gput_r (v := .int (g.1 16)) rfl dX2_copyFrom_18 ?_
  refine h_callV X hr hz hlo (rest := []) (gc_2_tell_j l D H0 a R nd g h0 n d (g.1 12) (g.1 13) (g.1 14) (g.1 15) (g.1 16) hnd hRR hd ) (gput_aJ hd) rfl yv_X2_tell ml_X2_25 ⟨(Nat.le_of_ble_eq_true rfl), (Nat.le_of_ble_eq_true rfl)⟩ (Nat.le_of_ble_eq_true rfl) hl.1 ⟨(Nat.le_of_ble_eq_true rfl), (Nat.le_of_ble_eq_true rfl)⟩ rfl dX2_copyFrom_21 (fun v9 h9 n9 H locs hp hr hz hlo => ?_)
  obtain ⟨rfl, rfl, rfl⟩ := hp
  show W p l e _ s m _ below meth c H locs _ _ _ (F0 m 24 ls [])
  refine lv_aload_n X.x X.b dX2_copyFrom_24 rfl (lv_at hl 0 rfl) ?_
  refine lv_aload_n X.x X.b dX2_copyFrom_25 rfl (lv_at hl 1 rfl) ?_
  refine h_get X hr fd_X2_29 gput_r (v := .long ((gf_2_tell_j R nd g d (g.1 12) (g.1 13) (g.1 14) (g.1 15) (g.1 16)).2.2 0 0 0)) rfl dX2_copyFrom_26 ?_
  refine h_put X hr hz hlo fd_X2_29 tyX2 tyX2_ok nmX2 rfl (gput_aJ hd) (v := .long ((gf_2_tell_j R nd g d (g.1 12) (g.1 13) (g.1 14) (g.1 15) (g.1 16)).2.2 0 0 0)) rfl rfl (Nat.le_of_ble_eq_true rfl) dX2_copyFrom_29 (fun H locs hr hz hlo => ?_)
  rw [gput_Jl0 hd] at hr
  refine lv_aload_n X.x X.b dX2_copyFrom_32 rfl (lv_at hl 0 rfl) ?_
  refine lv_aload_n X.x X.b dX2_copyFrom_33 rfl (lv_at hl 1 rfl) ?_
  refine h_get X hr fd_X2_33 gput_r (v := .long ((gf_2_tell_j R nd g d (g.1 12) (g.1 13) (g.1 14) (g.1 15) (g.1 16)).2.2 0 0 1)) rfl dX2_copyFrom_34 ?_
  refine h_put X hr hz hlo fd_X2_33 tyX2 tyX2_ok nmX2 rfl (gput_aJ hd) (v := .long ((gf_2_tell_j R nd g d (g.1 12) (g.1 13) (g.1 14) (g.1 15) (g.1 16)).2.2 0 0 1)) rfl rfl (Nat.le_of_ble_eq_true rfl) dX2_copyFrom_37 (fun H locs hr hz hlo => ?_)
  rw [gput_Jl1 hd] at hr
  exact h_vret X hr hz hlo (glfv (id (by unfold gf_2_copyFrom_j_r; rfl))) (Nat.le_of_ble_eq_true rfl) (Nat.le_of_ble_eq_true rfl) dX2_copyFrom_40

def gf_2_erase_j (R nd : Nat) (g : GS) (d : Nat)  : GS :=
  gli (gli (gf_2_tell_j R nd g d 0 0 0 0 0) 2 d 0 0) 2 d 1 0
set_option maxRecDepth 20000 in
set_option maxHeartbeats 4000000 in
theorem gc_2_erase_j (l : Launch) (D : hD) (H0 : Heap) (a R nd : Nat) (g : GS) (h0 : hH) (n : Nat) (d : Nat)  (hnd : nd ≤ 10) (hRR : R ≤ 48) (hd : d < 10)  : cM l D H0 yX2_erase cX2_erase 1 none 1 25 0 0 [.ref (aJ a d)] (gput a R nd g h0) n (cE none (gput a R nd (gf_2_erase_j R nd g d) h0) n) := by
  refine h_met (by decide) (Nat.le_of_ble_eq_true rfl) ?_
  intro p e s m below meth c H ls X hnm hr hz hl
  have hl : lv_has ls 1 [(0, .ref (aJ a d))] := hl
  have hlo : hL H0 ([] : List Loc) := hL.nil
  refine lv_aload_n X.x X.b dX2_erase_0 rfl (lv_at hl 0 rfl) ?_
  refine lv_iconst (v := 0) X.x X.b dX2_erase_1 (by decide) ?_
  refine lv_iconst (v := 0) X.x X.b dX2_erase_2 (by decide) ?_
  refine lv_iconst (v := 0) X.x X.b dX2_erase_3 (by decide) ?_
  refine lv_iconst (v := 0) X.x X.b dX2_erase_4 (by decide) ?_
  refine lv_iconst (v := 0) X.x X.b dX2_erase_5 (by decide) ?_
  refine h_callV X hr hz hlo (rest := []) (gc_2_tell_j l D H0 a R nd g h0 n d 0 0 0 0 0 hnd hRR hd ) (gput_aJ hd) rfl yv_X2_tell ml_X2_25 ⟨(Nat.le_of_ble_eq_true rfl), (Nat.le_of_ble_eq_true rfl)⟩ (Nat.le_of_ble_eq_true rfl) hl.1 ⟨(Nat.le_of_ble_eq_true rfl), (Nat.le_of_ble_eq_true rfl)⟩ rfl dX2_erase_6 (fun v9 h9 n9 H locs hp hr hz hlo => ?_)
  obtain ⟨rfl, rfl, rfl⟩ := hp
  show W p l e _ s m _ below meth c H locs _ _ _ (F0 m 9 ls [])
  refine lv_aload_n X.x X.b dX2_erase_9 rfl (lv_at hl 0 rfl) ?_
  refine lv_lconst (v := 0) X.x X.b dX2_erase_10 (by decide) ?_
  refine h_put X hr hz hlo fd_X2_29 tyX2 tyX2_ok nmX2 rfl (gput_aJ hd) (v := .long 0) rfl rfl (Nat.le_of_ble_eq_true rfl) dX2_erase_11 (fun H locs hr hz hlo => ?_)
  rw [gput_Jl0 hd] at hr
  refine lv_aload_n X.x X.b dX2_erase_14 rfl (lv_at hl 0 rfl) ?_
  refine lv_lconst (v := 0) X.x X.b dX2_erase_15 (by decide) ?_
  refine h_put X hr hz hlo fd_X2_33 tyX2 tyX2_ok nmX2 rfl (gput_aJ hd) (v := .long 0) rfl rfl (Nat.le_of_ble_eq_true rfl) dX2_erase_16 (fun H locs hr hz hlo => ?_)
  rw [gput_Jl1 hd] at hr
  exact h_vret X hr hz hlo (glfv (id (by unfold gf_2_erase_j; rfl))) (Nat.le_of_ble_eq_true rfl) (Nat.le_of_ble_eq_true rfl) dX2_erase_19

def gf_0_isBlank_b (R nd : Nat) (g : GS) (d : Nat)  : Int32 :=
  if (g.2.1 9 d) = 0 then
    1
  else
    0
set_option maxRecDepth 20000 in
set_option maxHeartbeats 4000000 in
theorem gc_0_isBlank_b (l : Launch) (D : hD) (H0 : Heap) (a R nd : Nat) (g : GS) (h0 : hH) (n : Nat) (d : Nat)  (hnd : nd ≤ 10) (hRR : R ≤ 48) (hd : d < 10)  : cM l D H0 yX0_isBlank cX0_isBlank 1 (some .boolean) 0 0 0 0 [.ref (aB a d)] (gput a R nd g h0) n (cE (some (.int (gf_0_isBlank_b R nd g d))) (gput a R nd g h0) n) := by
  refine h_met (by decide) (Nat.le_of_ble_eq_true rfl) ?_
  intro p e s m below meth c H ls X hnm hr hz hl
  have hl : lv_has ls 1 [(0, .ref (aB a d))] := hl
  have hlo : hL H0 ([] : List Loc) := hL.nil
  refine lv_aload_n X.x X.b dX0_isBlank_0 rfl (lv_at hl 0 rfl) ?_
  refine h_get X hr fd_X0_15 (gput_aB hd) (v := .int (g.2.1 9 d)) rfl dX0_isBlank_1 ?_
  refine lv_if_ne (tgt := 11) X.x X.b dX0_isBlank_4 (by decide) (fun c4 => ?_) (fun c4 => ?_)
  · refine lv_iconst (v := 0) X.x X.b dX0_isBlank_11 (by decide) ?_
    exact h_zret X hr hz hlo rfl (glfip (id (by unfold gf_0_isBlank_b; rw [if_neg c4]))) (Nat.le_of_ble_eq_true rfl) (Nat.le_of_ble_eq_true rfl) dX0_isBlank_12
  · refine lv_iconst (v := 1) X.x X.b dX0_isBlank_7 (by decide) ?_
    refine lv_goto (tgt := 12) X.x X.b dX0_isBlank_8 (by decide) ?_
    exact h_zret X hr hz hlo rfl (glfip (id (by unfold gf_0_isBlank_b; rw [if_pos c4]))) (Nat.le_of_ble_eq_true rfl) (Nat.le_of_ble_eq_true rfl) dX0_isBlank_12

def gg_0_tell_b_v_7 (R nd : Nat) (d : Nat) (q : Int32) : Nat → Nat → GS → GS
  | 0, _, g1 => g1
  | j + 1, k, g1 =>
    if (nI 10) ≤ (nI k) then
      g1
    else
      if (nI 10) ≤ (nI k) then
        g1
      else
        gg_0_tell_b_v_7 R nd d q  j (k + 1)  (gli g1 3 d k (g1.2.2 1 0 k))
def gf_0_tell_b_v (R nd : Nat) (g : GS) (d : Nat) (q : Int32) : GS :=
  gg_0_tell_b_v_7 R nd d q  11 0  (gdi g 9 d q)
set_option maxRecDepth 20000 in
set_option maxHeartbeats 4000000 in
theorem gc_0_tell_b_v (l : Launch) (D : hD) (H0 : Heap) (a R nd : Nat) (g : GS) (h0 : hH) (n : Nat) (d : Nat) (q : Int32) (hnd : nd ≤ 10) (hRR : R ≤ 48) (hd : d < 10)  : cM l D H0 yX0_tell cX0_tell 4 none 0 0 0 0 [.ref (aB a d), .int q, .ref (a + 3)] (gput a R nd g h0) n (cE none (gput a R nd (gf_0_tell_b_v R nd g d q) h0) n) := by
  refine h_met (by decide) (Nat.le_of_ble_eq_true rfl) ?_
  intro p e s m below meth c H ls X hnm hr hz hl
  have hl : lv_has ls 4 [(0, .ref (aB a d)), (1, .int q), (2, .ref (a + 3))] := hl
  have hlo : hL H0 ([] : List Loc) := hL.nil
  have loop7 : ∀ (j k : Nat)  (g1 : GS) (hk : k ≤ 10) (hj : 10 < k + j) (hG : gf_0_tell_b_v R nd g d q = gg_0_tell_b_v_7 R nd d q  j k g1) (H : Heap) (locs : List Loc) (ls : Array Slot), hR D H0 (gput a R nd g1 h0) H → H.size = n → hL H0 locs → lv_has ls 4 [(3, .int (nI k)), (0, .ref (aB a d)), (2, .ref (a + 3))] → W p l e (rmk 0 0 0 0) s m ([.ref (aB a d), .int q, .ref (a + 3)] : List Value).toArray below meth c H locs 0 0 (MQ below (cQ D H0 (cE none (gput a R nd (gf_0_tell_b_v R nd g d q) h0) n)) ([.ref (aB a d), .int q, .ref (a + 3)] : List Value).toArray s 0 0 (hF H0)) (F0 m 7 ls []) := by
    intro j
    induction j with
    | zero => intro k g1 hk hj; omega
    | succ j ih =>
      intro k g1 hk hj hG H locs ls hr hz hlo hl
      refine lv_iload_n X.x X.b dX0_tell_7 rfl (lv_at hl 0 rfl) ?_
      refine lv_aload_n X.x X.b dX0_tell_8 rfl (lv_at hl 1 rfl) ?_
      refine h_get X hr fd_X0_9 (gput_aB hd) (v := .ref (aV a d)) rfl dX0_tell_9 ?_
      refine h_alen X hr (by decide) (gput_aV hd) dX0_tell_12 ?_
      refine lv_icmp_ge (tgt := 37) X.x X.b dX0_tell_13 (by decide) (fun c13 => ?_) (fun c13 => ?_)
      · exact h_vret X hr hz hlo (glfv (hG.trans (by rw [gg_0_tell_b_v_7]; rw [if_pos c13]))) (Nat.le_of_ble_eq_true rfl) (Nat.le_of_ble_eq_true rfl) dX0_tell_37
      · have hk9 : k < 10 := nd_lt c13 (by omega)
        refine lv_iload_n X.x X.b dX0_tell_16 rfl (lv_at hl 0 rfl) ?_
        refine lv_aload_n X.x X.b dX0_tell_17 rfl (lv_at hl 2 rfl) ?_
        refine h_alen X hr (by decide) gput_v dX0_tell_18 ?_
        refine lv_icmp_ge (tgt := 37) X.x X.b dX0_tell_19 (by decide) (fun c19 => ?_) (fun c19 => ?_)
        · exact h_vret X hr hz hlo (glfv (hG.trans (by rw [gg_0_tell_b_v_7]; rw [if_neg c13, if_pos c19]))) (Nat.le_of_ble_eq_true rfl) (Nat.le_of_ble_eq_true rfl) dX0_tell_37
        · have hk9 : k < 10 := nd_lt c19 (by omega)
          refine lv_aload_n X.x X.b dX0_tell_22 rfl (lv_at hl 1 rfl) ?_
          refine h_get X hr fd_X0_9 (gput_aB hd) (v := .ref (aV a d)) rfl dX0_tell_23 ?_
          refine lv_iload_n X.x X.b dX0_tell_26 rfl (lv_at hl 0 rfl) ?_
          refine lv_aload_n X.x X.b dX0_tell_27 rfl (lv_at hl 2 rfl) ?_
          refine lv_iload_n X.x X.b dX0_tell_28 rfl (lv_at hl 0 rfl) ?_
          refine h_lald X hr gput_v (vp_in_nI (by omega) (by omega)) (v := .long (g1.2.2 1 0 k)) (by rw [nI_clamp (n := k) (by omega)]) dX0_tell_29 ?_
          refine h_last X hr hz hlo (gput_aV hd) (vp_in_nI (by omega) (by omega)) dX0_tell_30 (fun H locs hr hz hlo => ?_)
          rw [nI_clamp (n := k) (by omega), gput_aV_ hd] at hr
          refine lv_iinc (v := nI (k + 1)) (lv' := [(3, .int (nI (k + 1))), (0, .ref (aB a d)), (2, .ref (a + 3))]) X.x X.b dX0_tell_31 hl (k := 0) rfl (nI_1 k) (by decide) rfl (fun ls hl => ?_)
          refine lv_goto (tgt := 7) X.x X.b dX0_tell_34 (by decide) ?_
          exact ih (k + 1)  (gli g1 3 d k (g1.2.2 1 0 k)) (by omega) (by omega) (hG.trans (by rw [gg_0_tell_b_v_7]; rw [if_neg c13, if_neg c19])) _ _ _ hr hz hlo (lv_sub hl [0, 1, 2] rfl)
  refine lv_aload_n X.x X.b dX0_tell_0 rfl (lv_at hl 0 rfl) ?_
  refine lv_iload_n X.x X.b dX0_tell_1 rfl (lv_at hl 1 rfl) ?_
  refine h_put X hr hz hlo fd_X0_15 tyX0 tyX0_ok nmX0 rfl (gput_aB hd) (v := .int q) rfl rfl (Nat.le_of_ble_eq_true rfl) dX0_tell_2 (fun H locs hr hz hlo => ?_)
  rw [gput_Bs hd] at hr
  refine lv_iconst (v := 0) X.x X.b dX0_tell_5 (by decide) ?_
  refine lv_istore_n (lv' := [(3, .int 0), (0, .ref (aB a d)), (1, .int q), (2, .ref (a + 3))]) X.x X.b dX0_tell_6 rfl hl (by decide) rfl (fun ls hl => ?_)
  have hl : lv_has ls 4 [(3, .int (nI 0)), (0, .ref (aB a d)), (1, .int q), (2, .ref (a + 3))] := by rw [nI_0]; exact hl
  exact loop7 11 0  (gdi g 9 d q) (by omega) (by omega) (id (by unfold gf_0_tell_b_v; rfl)) _ _ _ hr hz hlo (lv_sub hl [0, 1, 3] rfl)

def gg_0_copyTo_b_v_2 (R nd : Nat) (d : Nat)  : Nat → Nat → GS → GS
  | 0, _, g1 => g1
  | j + 1, k, g1 =>
    if (nI 10) ≤ (nI k) then
      g1
    else
      if (nI 10) ≤ (nI k) then
        g1
      else
        gg_0_copyTo_b_v_2 R nd d   j (k + 1)  (gli g1 1 0 k (g1.2.2 3 d k))
def gf_0_copyTo_b_v (R nd : Nat) (g : GS) (d : Nat)  : GS :=
  gg_0_copyTo_b_v_2 R nd d   11 0  g
set_option maxRecDepth 20000 in
set_option maxHeartbeats 4000000 in
theorem gc_0_copyTo_b_v (l : Launch) (D : hD) (H0 : Heap) (a R nd : Nat) (g : GS) (h0 : hH) (n : Nat) (d : Nat)  (hnd : nd ≤ 10) (hRR : R ≤ 48) (hd : d < 10)  : cM l D H0 yX0_copyTo cX0_copyTo 3 none 0 0 0 0 [.ref (aB a d), .ref (a + 3)] (gput a R nd g h0) n (cE none (gput a R nd (gf_0_copyTo_b_v R nd g d) h0) n) := by
  refine h_met (by decide) (Nat.le_of_ble_eq_true rfl) ?_
  intro p e s m below meth c H ls X hnm hr hz hl
  have hl : lv_has ls 3 [(0, .ref (aB a d)), (1, .ref (a + 3))] := hl
  have hlo : hL H0 ([] : List Loc) := hL.nil
  have loop2 : ∀ (j k : Nat)  (g1 : GS) (hk : k ≤ 10) (hj : 10 < k + j) (hG : gf_0_copyTo_b_v R nd g d = gg_0_copyTo_b_v_2 R nd d   j k g1) (H : Heap) (locs : List Loc) (ls : Array Slot), hR D H0 (gput a R nd g1 h0) H → H.size = n → hL H0 locs → lv_has ls 3 [(2, .int (nI k)), (0, .ref (aB a d)), (1, .ref (a + 3))] → W p l e (rmk 0 0 0 0) s m ([.ref (aB a d), .ref (a + 3)] : List Value).toArray below meth c H locs 0 0 (MQ below (cQ D H0 (cE none (gput a R nd (gf_0_copyTo_b_v R nd g d) h0) n)) ([.ref (aB a d), .ref (a + 3)] : List Value).toArray s 0 0 (hF H0)) (F0 m 2 ls []) := by
    intro j
    induction j with
    | zero => intro k g1 hk hj; omega
    | succ j ih =>
      intro k g1 hk hj hG H locs ls hr hz hlo hl
      refine lv_iload_n X.x X.b dX0_copyTo_2 rfl (lv_at hl 0 rfl) ?_
      refine lv_aload_n X.x X.b dX0_copyTo_3 rfl (lv_at hl 1 rfl) ?_
      refine h_get X hr fd_X0_9 (gput_aB hd) (v := .ref (aV a d)) rfl dX0_copyTo_4 ?_
      refine h_alen X hr (by decide) (gput_aV hd) dX0_copyTo_7 ?_
      refine lv_icmp_ge (tgt := 32) X.x X.b dX0_copyTo_8 (by decide) (fun c8 => ?_) (fun c8 => ?_)
      · exact h_vret X hr hz hlo (glfv (hG.trans (by rw [gg_0_copyTo_b_v_2]; rw [if_pos c8]))) (Nat.le_of_ble_eq_true rfl) (Nat.le_of_ble_eq_true rfl) dX0_copyTo_32
      · have hk9 : k < 10 := nd_lt c8 (by omega)
        refine lv_iload_n X.x X.b dX0_copyTo_11 rfl (lv_at hl 0 rfl) ?_
        refine lv_aload_n X.x X.b dX0_copyTo_12 rfl (lv_at hl 2 rfl) ?_
        refine h_alen X hr (by decide) gput_v dX0_copyTo_13 ?_
        refine lv_icmp_ge (tgt := 32) X.x X.b dX0_copyTo_14 (by decide) (fun c14 => ?_) (fun c14 => ?_)
        · exact h_vret X hr hz hlo (glfv (hG.trans (by rw [gg_0_copyTo_b_v_2]; rw [if_neg c8, if_pos c14]))) (Nat.le_of_ble_eq_true rfl) (Nat.le_of_ble_eq_true rfl) dX0_copyTo_32
        · have hk9 : k < 10 := nd_lt c14 (by omega)
          refine lv_aload_n X.x X.b dX0_copyTo_17 rfl (lv_at hl 2 rfl) ?_
          refine lv_iload_n X.x X.b dX0_copyTo_18 rfl (lv_at hl 0 rfl) ?_
          refine lv_aload_n X.x X.b dX0_copyTo_19 rfl (lv_at hl 1 rfl) ?_
          refine h_get X hr fd_X0_9 (gput_aB hd) (v := .ref (aV a d)) rfl dX0_copyTo_20 ?_
          refine lv_iload_n X.x X.b dX0_copyTo_23 rfl (lv_at hl 0 rfl) ?_
          refine h_lald X hr (gput_aV hd) (vp_in_nI (by omega) (by omega)) (v := .long (g1.2.2 3 d k)) (by rw [nI_clamp (n := k) (by omega)]) dX0_copyTo_24 ?_
          refine h_last X hr hz hlo gput_v (vp_in_nI (by omega) (by omega)) dX0_copyTo_25 (fun H locs hr hz hlo => ?_)
          rw [nI_clamp (n := k) (by omega), gput_av] at hr
          refine lv_iinc (v := nI (k + 1)) (lv' := [(2, .int (nI (k + 1))), (0, .ref (aB a d)), (1, .ref (a + 3))]) X.x X.b dX0_copyTo_26 hl (k := 0) rfl (nI_1 k) (by decide) rfl (fun ls hl => ?_)
          refine lv_goto (tgt := 2) X.x X.b dX0_copyTo_29 (by decide) ?_
          exact ih (k + 1)  (gli g1 1 0 k (g1.2.2 3 d k)) (by omega) (by omega) (hG.trans (by rw [gg_0_copyTo_b_v_2]; rw [if_neg c8, if_neg c14])) _ _ _ hr hz hlo (lv_sub hl [0, 1, 2] rfl)
  refine lv_iconst (v := 0) X.x X.b dX0_copyTo_0 (by decide) ?_
  refine lv_istore_n (lv' := [(2, .int 0), (0, .ref (aB a d)), (1, .ref (a + 3))]) X.x X.b dX0_copyTo_1 rfl hl (by decide) rfl (fun ls hl => ?_)
  have hl : lv_has ls 3 [(2, .int (nI 0)), (0, .ref (aB a d)), (1, .ref (a + 3))] := by rw [nI_0]; exact hl
  exact loop2 11 0  g (by omega) (by omega) (id (by unfold gf_0_copyTo_b_v; rfl)) _ _ _ hr hz hlo (lv_sub hl [0, 1, 2] rfl)

def gf_1_isLive_d (R nd : Nat) (g : GS) (d : Nat)  : Int32 :=
  if (g.2.1 10 d) = 0 then
    if (g.2.1 0 d) = 0 then
      0
    else
      1
  else
    0
set_option maxRecDepth 20000 in
set_option maxHeartbeats 4000000 in
theorem gc_1_isLive_d (l : Launch) (D : hD) (H0 : Heap) (a R nd : Nat) (g : GS) (h0 : hH) (n : Nat) (d : Nat)  (hnd : nd ≤ 10) (hRR : R ≤ 48) (hd : d < 10)  : cM l D H0 yX1_isLive cX1_isLive 1 (some .boolean) 0 0 0 0 [.ref (aD a d)] (gput a R nd g h0) n (cE (some (.int (gf_1_isLive_d R nd g d))) (gput a R nd g h0) n) := by
  refine h_met (by decide) (Nat.le_of_ble_eq_true rfl) ?_
  intro p e s m below meth c H ls X hnm hr hz hl
  have hl : lv_has ls 1 [(0, .ref (aD a d))] := hl
  have hlo : hL H0 ([] : List Loc) := hL.nil
  refine lv_aload_n X.x X.b dX1_isLive_0 rfl (lv_at hl 0 rfl) ?_
  refine h_get X hr fd_X1_34 (gput_aD hd) (v := .int (g.2.1 10 d)) rfl dX1_isLive_1 ?_
  refine lv_if_ne (tgt := 21) X.x X.b dX1_isLive_4 (by decide) (fun c4 => ?_) (fun c4 => ?_)
  · refine lv_iconst (v := 0) X.x X.b dX1_isLive_21 (by decide) ?_
    exact h_zret X hr hz hlo rfl (glfip (id (by unfold gf_1_isLive_d; rw [if_neg c4]))) (Nat.le_of_ble_eq_true rfl) (Nat.le_of_ble_eq_true rfl) dX1_isLive_22
  · refine lv_aload_n X.x X.b dX1_isLive_7 rfl (lv_at hl 0 rfl) ?_
    refine h_get X hr fd_X1_10 (gput_aD hd) (v := .ref (aS a d)) rfl dX1_isLive_8 ?_
    refine h_get X hr fd_X1_38 (gput_aS hd) (v := .int (g.2.1 0 d)) rfl dX1_isLive_11 ?_
    refine lv_if_eq (tgt := 21) X.x X.b dX1_isLive_14 (by decide) (fun c14 => ?_) (fun c14 => ?_)
    · refine lv_iconst (v := 0) X.x X.b dX1_isLive_21 (by decide) ?_
      exact h_zret X hr hz hlo rfl (glfip (id (by unfold gf_1_isLive_d; rw [if_pos c4, if_pos c14]))) (Nat.le_of_ble_eq_true rfl) (Nat.le_of_ble_eq_true rfl) dX1_isLive_22
    · refine lv_iconst (v := 1) X.x X.b dX1_isLive_17 (by decide) ?_
      refine lv_goto (tgt := 22) X.x X.b dX1_isLive_18 (by decide) ?_
      exact h_zret X hr hz hlo rfl (glfip (id (by unfold gf_1_isLive_d; rw [if_pos c4, if_neg c14]))) (Nat.le_of_ble_eq_true rfl) (Nat.le_of_ble_eq_true rfl) dX1_isLive_22

def gf_1_isRebuilding_d (R nd : Nat) (g : GS) (d : Nat)  : Int32 :=
  if (g.2.1 10 d) = 0 then
    if (g.2.1 0 d) = 0 then
      1
    else
      0
  else
    0
set_option maxRecDepth 20000 in
set_option maxHeartbeats 4000000 in
theorem gc_1_isRebuilding_d (l : Launch) (D : hD) (H0 : Heap) (a R nd : Nat) (g : GS) (h0 : hH) (n : Nat) (d : Nat)  (hnd : nd ≤ 10) (hRR : R ≤ 48) (hd : d < 10)  : cM l D H0 yX1_isRebuilding cX1_isRebuilding 1 (some .boolean) 0 0 0 0 [.ref (aD a d)] (gput a R nd g h0) n (cE (some (.int (gf_1_isRebuilding_d R nd g d))) (gput a R nd g h0) n) := by
  refine h_met (by decide) (Nat.le_of_ble_eq_true rfl) ?_
  intro p e s m below meth c H ls X hnm hr hz hl
  have hl : lv_has ls 1 [(0, .ref (aD a d))] := hl
  have hlo : hL H0 ([] : List Loc) := hL.nil
  refine lv_aload_n X.x X.b dX1_isRebuilding_0 rfl (lv_at hl 0 rfl) ?_
  refine h_get X hr fd_X1_34 (gput_aD hd) (v := .int (g.2.1 10 d)) rfl dX1_isRebuilding_1 ?_
  refine lv_if_ne (tgt := 21) X.x X.b dX1_isRebuilding_4 (by decide) (fun c4 => ?_) (fun c4 => ?_)
  · refine lv_iconst (v := 0) X.x X.b dX1_isRebuilding_21 (by decide) ?_
    exact h_zret X hr hz hlo rfl (glfip (id (by unfold gf_1_isRebuilding_d; rw [if_neg c4]))) (Nat.le_of_ble_eq_true rfl) (Nat.le_of_ble_eq_true rfl) dX1_isRebuilding_22
  · refine lv_aload_n X.x X.b dX1_isRebuilding_7 rfl (lv_at hl 0 rfl) ?_
    refine h_get X hr fd_X1_10 (gput_aD hd) (v := .ref (aS a d)) rfl dX1_isRebuilding_8 ?_
    refine h_get X hr fd_X1_38 (gput_aS hd) (v := .int (g.2.1 0 d)) rfl dX1_isRebuilding_11 ?_
    refine lv_if_ne (tgt := 21) X.x X.b dX1_isRebuilding_14 (by decide) (fun c14 => ?_) (fun c14 => ?_)
    · refine lv_iconst (v := 0) X.x X.b dX1_isRebuilding_21 (by decide) ?_
      exact h_zret X hr hz hlo rfl (glfip (id (by unfold gf_1_isRebuilding_d; rw [if_pos c4, if_neg c14]))) (Nat.le_of_ble_eq_true rfl) (Nat.le_of_ble_eq_true rfl) dX1_isRebuilding_22
    · refine lv_iconst (v := 1) X.x X.b dX1_isRebuilding_17 (by decide) ?_
      refine lv_goto (tgt := 22) X.x X.b dX1_isRebuilding_18 (by decide) ?_
      exact h_zret X hr hz hlo rfl (glfip (id (by unfold gf_1_isRebuilding_d; rw [if_pos c4, if_pos c14]))) (Nat.le_of_ble_eq_true rfl) (Nat.le_of_ble_eq_true rfl) dX1_isRebuilding_22

def gf_1_condition_d (R nd : Nat) (g : GS) (d : Nat)  : Int32 :=
  if (g.2.1 10 d) = 0 then
    if (gf_1_isRebuilding_d R nd g d) = 0 then
      0
    else
      2
  else
    1
set_option maxRecDepth 20000 in
set_option maxHeartbeats 4000000 in
theorem gc_1_condition_d (l : Launch) (D : hD) (H0 : Heap) (a R nd : Nat) (g : GS) (h0 : hH) (n : Nat) (d : Nat)  (hnd : nd ≤ 10) (hRR : R ≤ 48) (hd : d < 10)  : cM l D H0 yX1_condition cX1_condition 1 (some .int) 1 20 0 0 [.ref (aD a d)] (gput a R nd g h0) n (cE (some (.int (gf_1_condition_d R nd g d))) (gput a R nd g h0) n) := by
  refine h_met (by decide) (Nat.le_of_ble_eq_true rfl) ?_
  intro p e s m below meth c H ls X hnm hr hz hl
  have hl : lv_has ls 1 [(0, .ref (aD a d))] := hl
  have hlo : hL H0 ([] : List Loc) := hL.nil
  refine lv_aload_n X.x X.b dX1_condition_0 rfl (lv_at hl 0 rfl) ?_
  refine h_get X hr fd_X1_34 (gput_aD hd) (v := .int (g.2.1 10 d)) rfl dX1_condition_1 ?_
  refine lv_if_eq (tgt := 9) X.x X.b dX1_condition_4 (by decide) (fun c4 => ?_) (fun c4 => ?_)
  · refine lv_aload_n X.x X.b dX1_condition_9 rfl (lv_at hl 0 rfl) ?_
    refine h_callV X hr hz hlo (rest := []) (gc_1_isRebuilding_d l D H0 a R nd g h0 n d hnd hRR hd ) (gput_aD hd) rfl yv_X1_isRebuilding ml_X1_42 ⟨(Nat.le_of_ble_eq_true rfl), (Nat.le_of_ble_eq_true rfl)⟩ (Nat.le_of_ble_eq_true rfl) hl.1 ⟨(Nat.le_of_ble_eq_true rfl), (Nat.le_of_ble_eq_true rfl)⟩ rfl dX1_condition_10 (fun v9 h9 n9 H locs hp hr hz hlo => ?_)
    obtain ⟨rfl, rfl, rfl⟩ := hp
    show W p l e _ s m _ below meth c H locs _ _ _ (F0 m 13 ls [.int (gf_1_isRebuilding_d R nd g d)])
    refine lv_if_eq (tgt := 20) X.x X.b dX1_condition_13 (by decide) (fun c13 => ?_) (fun c13 => ?_)
    · refine lv_iconst (v := 0) X.x X.b dX1_condition_20 (by decide) ?_
      exact h_iret X hr hz hlo (glfip (id (by unfold gf_1_condition_d; rw [if_pos c4, if_pos c13]))) (Nat.le_of_ble_eq_true rfl) (Nat.le_of_ble_eq_true rfl) dX1_condition_21
    · refine lv_iconst (v := 2) X.x X.b dX1_condition_16 (by decide) ?_
      refine lv_goto (tgt := 21) X.x X.b dX1_condition_17 (by decide) ?_
      exact h_iret X hr hz hlo (glfip (id (by unfold gf_1_condition_d; rw [if_pos c4, if_neg c13]))) (Nat.le_of_ble_eq_true rfl) (Nat.le_of_ble_eq_true rfl) dX1_condition_21
  · refine lv_iconst (v := 1) X.x X.b dX1_condition_7 (by decide) ?_
    exact h_iret X hr hz hlo (glfip (id (by unfold gf_1_condition_d; rw [if_neg c4]))) (Nat.le_of_ble_eq_true rfl) (Nat.le_of_ble_eq_true rfl) dX1_condition_8

def gf_1_blockAt_d (R nd : Nat) (g : GS) (d : Nat) (row : Int32) : Int64 :=
  if row < 0 then
    0
  else
    if (nI R) ≤ row then
      0
    else
      g.2.2 4 d row.toNatClampNeg
set_option maxRecDepth 20000 in
set_option maxHeartbeats 4000000 in
theorem gc_1_blockAt_d (l : Launch) (D : hD) (H0 : Heap) (a R nd : Nat) (g : GS) (h0 : hH) (n : Nat) (d : Nat) (row : Int32) (hnd : nd ≤ 10) (hRR : R ≤ 48) (hd : d < 10)  : cM l D H0 yX1_blockAt cX1_blockAt 2 (some .long) 0 0 0 0 [.ref (aD a d), .int row] (gput a R nd g h0) n (cE (some (.long (gf_1_blockAt_d R nd g d row))) (gput a R nd g h0) n) := by
  refine h_met (by decide) (Nat.le_of_ble_eq_true rfl) ?_
  intro p e s m below meth c H ls X hnm hr hz hl
  have hl : lv_has ls 2 [(0, .ref (aD a d)), (1, .int row)] := hl
  have hlo : hL H0 ([] : List Loc) := hL.nil
  refine lv_iload_n X.x X.b dX1_blockAt_0 rfl (lv_at hl 1 rfl) ?_
  refine lv_if_lt (tgt := 22) X.x X.b dX1_blockAt_1 (by decide) (fun c1 => ?_) (fun c1 => ?_)
  · refine lv_lconst (v := 0) X.x X.b dX1_blockAt_22 (by decide) ?_
    exact h_lret X hr hz hlo (glflp (id (by unfold gf_1_blockAt_d; rw [if_pos c1]))) (Nat.le_of_ble_eq_true rfl) (Nat.le_of_ble_eq_true rfl) dX1_blockAt_23
  · refine lv_iload_n X.x X.b dX1_blockAt_4 rfl (lv_at hl 1 rfl) ?_
    refine lv_aload_n X.x X.b dX1_blockAt_5 rfl (lv_at hl 0 rfl) ?_
    refine h_get X hr fd_X1_30 (gput_aD hd) (v := .ref (aK a d)) rfl dX1_blockAt_6 ?_
    refine h_alen X hr (by decide) (gput_aK hd) dX1_blockAt_9 ?_
    refine lv_icmp_ge (tgt := 22) X.x X.b dX1_blockAt_10 (by decide) (fun c10 => ?_) (fun c10 => ?_)
    · refine lv_lconst (v := 0) X.x X.b dX1_blockAt_22 (by decide) ?_
      exact h_lret X hr hz hlo (glflp (id (by unfold gf_1_blockAt_d; rw [if_neg c1, if_pos c10]))) (Nat.le_of_ble_eq_true rfl) (Nat.le_of_ble_eq_true rfl) dX1_blockAt_23
    · refine lv_aload_n X.x X.b dX1_blockAt_13 rfl (lv_at hl 0 rfl) ?_
      refine h_get X hr fd_X1_30 (gput_aD hd) (v := .ref (aK a d)) rfl dX1_blockAt_14 ?_
      refine lv_iload_n X.x X.b dX1_blockAt_17 rfl (lv_at hl 1 rfl) ?_
      refine h_lald X hr (gput_aK hd) (ix_of c1 c10 (Nat.le_refl R) (by omega)) (v := .long (g.2.2 4 d row.toNatClampNeg)) rfl dX1_blockAt_18 ?_
      refine lv_goto (tgt := 23) X.x X.b dX1_blockAt_19 (by decide) ?_
      exact h_lret X hr hz hlo (glflp (id (by unfold gf_1_blockAt_d; rw [if_neg c1, if_neg c10]))) (Nat.le_of_ble_eq_true rfl) (Nat.le_of_ble_eq_true rfl) dX1_blockAt_23

def gf_1_takeBlock_d (R nd : Nat) (g : GS) (d : Nat) (row : Int32) (v : Int64) : GS :=
  if row < 0 then
    g
  else
    if (nI R) ≤ row then
      g
    else
      gdi (gli g 4 d row.toNatClampNeg v) 11 d ((g.2.1 11 d) + 1)
set_option maxRecDepth 20000 in
set_option maxHeartbeats 4000000 in
theorem gc_1_takeBlock_d (l : Launch) (D : hD) (H0 : Heap) (a R nd : Nat) (g : GS) (h0 : hH) (n : Nat) (d : Nat) (row : Int32) (v : Int64) (hnd : nd ≤ 10) (hRR : R ≤ 48) (hd : d < 10)  : cM l D H0 yX1_takeBlock cX1_takeBlock 4 none 0 0 0 0 [.ref (aD a d), .int row, .long v] (gput a R nd g h0) n (cE none (gput a R nd (gf_1_takeBlock_d R nd g d row v) h0) n) := by
  refine h_met (by decide) (Nat.le_of_ble_eq_true rfl) ?_
  intro p e s m below meth c H ls X hnm hr hz hl
  have hl : lv_has ls 4 [(0, .ref (aD a d)), (1, .int row), (2, .long v)] := hl
  have hlo : hL H0 ([] : List Loc) := hL.nil
  refine lv_iload_n X.x X.b dX1_takeBlock_0 rfl (lv_at hl 1 rfl) ?_
  refine lv_if_lt (tgt := 30) X.x X.b dX1_takeBlock_1 (by decide) (fun c1 => ?_) (fun c1 => ?_)
  · exact h_vret X hr hz hlo (glfv (id (by unfold gf_1_takeBlock_d; rw [if_pos c1]))) (Nat.le_of_ble_eq_true rfl) (Nat.le_of_ble_eq_true rfl) dX1_takeBlock_30
  · refine lv_iload_n X.x X.b dX1_takeBlock_4 rfl (lv_at hl 1 rfl) ?_
    refine lv_aload_n X.x X.b dX1_takeBlock_5 rfl (lv_at hl 0 rfl) ?_
    refine h_get X hr fd_X1_30 (gput_aD hd) (v := .ref (aK a d)) rfl dX1_takeBlock_6 ?_
    refine h_alen X hr (by decide) (gput_aK hd) dX1_takeBlock_9 ?_
    refine lv_icmp_ge (tgt := 30) X.x X.b dX1_takeBlock_10 (by decide) (fun c10 => ?_) (fun c10 => ?_)
    · exact h_vret X hr hz hlo (glfv (id (by unfold gf_1_takeBlock_d; rw [if_neg c1, if_pos c10]))) (Nat.le_of_ble_eq_true rfl) (Nat.le_of_ble_eq_true rfl) dX1_takeBlock_30
    · refine lv_aload_n X.x X.b dX1_takeBlock_13 rfl (lv_at hl 0 rfl) ?_
      refine h_get X hr fd_X1_30 (gput_aD hd) (v := .ref (aK a d)) rfl dX1_takeBlock_14 ?_
      refine lv_iload_n X.x X.b dX1_takeBlock_17 rfl (lv_at hl 1 rfl) ?_
      refine lv_lload_n X.x X.b dX1_takeBlock_18 rfl (lv_at hl 2 rfl) ?_
      refine h_last X hr hz hlo (gput_aK hd) (ix_of c1 c10 (Nat.le_refl R) (by omega)) dX1_takeBlock_19 (fun H locs hr hz hlo => ?_)
      rw [gput_aK_ hd] at hr
      refine lv_aload_n X.x X.b dX1_takeBlock_20 rfl (lv_at hl 0 rfl) ?_
      refine lv_dup X.x X.b dX1_takeBlock_21 rfl ?_
      refine h_get X hr fd_X1_46 (gput_aD hd) (v := .int (g.2.1 11 d)) rfl dX1_takeBlock_22 ?_
      refine lv_iconst (v := 1) X.x X.b dX1_takeBlock_25 (by decide) ?_
      refine lv_iadd X.x X.b dX1_takeBlock_26 ?_
      refine h_put X hr hz hlo fd_X1_46 tyX1 tyX1_ok nmX1 rfl (gput_aD hd) (v := .int ((g.2.1 11 d) + 1)) rfl rfl (Nat.le_of_ble_eq_true rfl) dX1_takeBlock_27 (fun H locs hr hz hlo => ?_)
      rw [gput_Ds1 hd] at hr
      exact h_vret X hr hz hlo (glfv (id (by unfold gf_1_takeBlock_d; rw [if_neg c1, if_neg c10]))) (Nat.le_of_ble_eq_true rfl) (Nat.le_of_ble_eq_true rfl) dX1_takeBlock_30

def gf_1_takeSuper_d (R nd : Nat) (g : GS) (d : Nat) (q : Int32) (n0 : Int32) (m0 : Int32) (f : Int32) : GS :=
  gdi (gf_3_tell_s R nd g d q n0 m0 f) 11 d (((gf_3_tell_s R nd g d q n0 m0 f).2.1 11 d) + 1)
set_option maxRecDepth 20000 in
set_option maxHeartbeats 4000000 in
theorem gc_1_takeSuper_d (l : Launch) (D : hD) (H0 : Heap) (a R nd : Nat) (g : GS) (h0 : hH) (n : Nat) (d : Nat) (q : Int32) (n0 : Int32) (m0 : Int32) (f : Int32) (hnd : nd ≤ 10) (hRR : R ≤ 48) (hd : d < 10)  : cM l D H0 yX1_takeSuper cX1_takeSuper 5 none 1 24 0 0 [.ref (aD a d), .int q, .int n0, .int m0, .int f] (gput a R nd g h0) n (cE none (gput a R nd (gf_1_takeSuper_d R nd g d q n0 m0 f) h0) n) := by
  refine h_met (by decide) (Nat.le_of_ble_eq_true rfl) ?_
  intro p e s m below meth c H ls X hnm hr hz hl
  have hl : lv_has ls 5 [(0, .ref (aD a d)), (1, .int q), (2, .int n0), (3, .int m0), (4, .int f)] := hl
  have hlo : hL H0 ([] : List Loc) := hL.nil
  refine lv_aload_n X.x X.b dX1_takeSuper_0 rfl (lv_at hl 0 rfl) ?_
  refine h_get X hr fd_X1_10 (gput_aD hd) (v := .ref (aS a d)) rfl dX1_takeSuper_1 ?_
  refine lv_iload_n X.x X.b dX1_takeSuper_4 rfl (lv_at hl 1 rfl) ?_
  refine lv_iload_n X.x X.b dX1_takeSuper_5 rfl (lv_at hl 2 rfl) ?_
  refine lv_iload_n X.x X.b dX1_takeSuper_6 rfl (lv_at hl 3 rfl) ?_
  refine lv_iload X.x X.b dX1_takeSuper_7 (lv_at hl 4 rfl) ?_
  refine h_callV X hr hz hlo (rest := []) (gc_3_tell_s l D H0 a R nd g h0 n d q n0 m0 f hnd hRR hd ) (gput_aS hd) rfl yv_X3_tell ml_X1_49 ⟨(Nat.le_of_ble_eq_true rfl), (Nat.le_of_ble_eq_true rfl)⟩ (Nat.le_of_ble_eq_true rfl) hl.1 ⟨(Nat.le_of_ble_eq_true rfl), (Nat.le_of_ble_eq_true rfl)⟩ rfl dX1_takeSuper_9 (fun v9 h9 n9 H locs hp hr hz hlo => ?_)
  obtain ⟨rfl, rfl, rfl⟩ := hp
  show W p l e _ s m _ below meth c H locs _ _ _ (F0 m 12 ls [])
  refine lv_aload_n X.x X.b dX1_takeSuper_12 rfl (lv_at hl 0 rfl) ?_
  refine lv_dup X.x X.b dX1_takeSuper_13 rfl ?_
  refine h_get X hr fd_X1_46 (gput_aD hd) (v := .int ((gf_3_tell_s R nd g d q n0 m0 f).2.1 11 d)) rfl dX1_takeSuper_14 ?_
  refine lv_iconst (v := 1) X.x X.b dX1_takeSuper_17 (by decide) ?_
  refine lv_iadd X.x X.b dX1_takeSuper_18 ?_
  refine h_put X hr hz hlo fd_X1_46 tyX1 tyX1_ok nmX1 rfl (gput_aD hd) (v := .int (((gf_3_tell_s R nd g d q n0 m0 f).2.1 11 d) + 1)) rfl rfl (Nat.le_of_ble_eq_true rfl) dX1_takeSuper_19 (fun H locs hr hz hlo => ?_)
  rw [gput_Ds1 hd] at hr
  exact h_vret X hr hz hlo (glfv (id (by unfold gf_1_takeSuper_d; rfl))) (Nat.le_of_ble_eq_true rfl) (Nat.le_of_ble_eq_true rfl) dX1_takeSuper_22

def gf_1_takeSuper__d_h (R nd : Nat) (g : GS) (d : Nat)  : GS :=
  gdi (gf_3_copyFrom_s_h R nd g d) 11 d (((gf_3_copyFrom_s_h R nd g d).2.1 11 d) + 1)
set_option maxRecDepth 20000 in
set_option maxHeartbeats 4000000 in
theorem gc_1_takeSuper__d_h (l : Launch) (D : hD) (H0 : Heap) (a R nd : Nat) (g : GS) (h0 : hH) (n : Nat) (d : Nat)  (hnd : nd ≤ 10) (hRR : R ≤ 48) (hd : d < 10)  : cM l D H0 yX1_takeSuper_ cX1_takeSuper_ 2 none 2 45 0 0 [.ref (aD a d), .ref (a + 1)] (gput a R nd g h0) n (cE none (gput a R nd (gf_1_takeSuper__d_h R nd g d) h0) n) := by
  refine h_met (by decide) (Nat.le_of_ble_eq_true rfl) ?_
  intro p e s m below meth c H ls X hnm hr hz hl
  have hl : lv_has ls 2 [(0, .ref (aD a d)), (1, .ref (a + 1))] := hl
  have hlo : hL H0 ([] : List Loc) := hL.nil
  refine lv_aload_n X.x X.b dX1_takeSuper__0 rfl (lv_at hl 0 rfl) ?_
  refine h_get X hr fd_X1_10 (gput_aD hd) (v := .ref (aS a d)) rfl dX1_takeSuper__1 ?_
  refine lv_aload_n X.x X.b dX1_takeSuper__4 rfl (lv_at hl 1 rfl) ?_
  refine h_callV X hr hz hlo (rest := []) (gc_3_copyFrom_s_h l D H0 a R nd g h0 n d hnd hRR hd ) (gput_aS hd) rfl yv_X3_copyFrom ml_X1_53 ⟨(Nat.le_of_ble_eq_true rfl), (Nat.le_of_ble_eq_true rfl)⟩ (Nat.le_of_ble_eq_true rfl) hl.1 ⟨(Nat.le_of_ble_eq_true rfl), (Nat.le_of_ble_eq_true rfl)⟩ rfl dX1_takeSuper__5 (fun v9 h9 n9 H locs hp hr hz hlo => ?_)
  obtain ⟨rfl, rfl, rfl⟩ := hp
  show W p l e _ s m _ below meth c H locs _ _ _ (F0 m 8 ls [])
  refine lv_aload_n X.x X.b dX1_takeSuper__8 rfl (lv_at hl 0 rfl) ?_
  refine lv_dup X.x X.b dX1_takeSuper__9 rfl ?_
  refine h_get X hr fd_X1_46 (gput_aD hd) (v := .int ((gf_3_copyFrom_s_h R nd g d).2.1 11 d)) rfl dX1_takeSuper__10 ?_
  refine lv_iconst (v := 1) X.x X.b dX1_takeSuper__13 (by decide) ?_
  refine lv_iadd X.x X.b dX1_takeSuper__14 ?_
  refine h_put X hr hz hlo fd_X1_46 tyX1 tyX1_ok nmX1 rfl (gput_aD hd) (v := .int (((gf_3_copyFrom_s_h R nd g d).2.1 11 d) + 1)) rfl rfl (Nat.le_of_ble_eq_true rfl) dX1_takeSuper__15 (fun H locs hr hz hlo => ?_)
  rw [gput_Ds1 hd] at hr
  exact h_vret X hr hz hlo (glfv (id (by unfold gf_1_takeSuper__d_h; rfl))) (Nat.le_of_ble_eq_true rfl) (Nat.le_of_ble_eq_true rfl) dX1_takeSuper__18

def gf_1_takeJournal_d_r (R nd : Nat) (g : GS) (d : Nat)  : GS :=
  gdi (gf_2_copyFrom_j_r R nd g d) 11 d (((gf_2_copyFrom_j_r R nd g d).2.1 11 d) + 1)
set_option maxRecDepth 20000 in
set_option maxHeartbeats 4000000 in
theorem gc_1_takeJournal_d_r (l : Launch) (D : hD) (H0 : Heap) (a R nd : Nat) (g : GS) (h0 : hH) (n : Nat) (d : Nat)  (hnd : nd ≤ 10) (hRR : R ≤ 48) (hd : d < 10)  : cM l D H0 yX1_takeJournal cX1_takeJournal 2 none 2 46 0 0 [.ref (aD a d), .ref (a + 2)] (gput a R nd g h0) n (cE none (gput a R nd (gf_1_takeJournal_d_r R nd g d) h0) n) := by
  refine h_met (by decide) (Nat.le_of_ble_eq_true rfl) ?_
  intro p e s m below meth c H ls X hnm hr hz hl
  have hl : lv_has ls 2 [(0, .ref (aD a d)), (1, .ref (a + 2))] := hl
  have hlo : hL H0 ([] : List Loc) := hL.nil
  refine lv_aload_n X.x X.b dX1_takeJournal_0 rfl (lv_at hl 0 rfl) ?_
  refine h_get X hr fd_X1_19 (gput_aD hd) (v := .ref (aJ a d)) rfl dX1_takeJournal_1 ?_
  refine lv_aload_n X.x X.b dX1_takeJournal_4 rfl (lv_at hl 1 rfl) ?_
  refine h_callV X hr hz hlo (rest := []) (gc_2_copyFrom_j_r l D H0 a R nd g h0 n d hnd hRR hd ) (gput_aJ hd) rfl yv_X2_copyFrom ml_X1_57 ⟨(Nat.le_of_ble_eq_true rfl), (Nat.le_of_ble_eq_true rfl)⟩ (Nat.le_of_ble_eq_true rfl) hl.1 ⟨(Nat.le_of_ble_eq_true rfl), (Nat.le_of_ble_eq_true rfl)⟩ rfl dX1_takeJournal_5 (fun v9 h9 n9 H locs hp hr hz hlo => ?_)
  obtain ⟨rfl, rfl, rfl⟩ := hp
  show W p l e _ s m _ below meth c H locs _ _ _ (F0 m 8 ls [])
  refine lv_aload_n X.x X.b dX1_takeJournal_8 rfl (lv_at hl 0 rfl) ?_
  refine lv_dup X.x X.b dX1_takeJournal_9 rfl ?_
  refine h_get X hr fd_X1_46 (gput_aD hd) (v := .int ((gf_2_copyFrom_j_r R nd g d).2.1 11 d)) rfl dX1_takeJournal_10 ?_
  refine lv_iconst (v := 1) X.x X.b dX1_takeJournal_13 (by decide) ?_
  refine lv_iadd X.x X.b dX1_takeJournal_14 ?_
  refine h_put X hr hz hlo fd_X1_46 tyX1 tyX1_ok nmX1 rfl (gput_aD hd) (v := .int (((gf_2_copyFrom_j_r R nd g d).2.1 11 d) + 1)) rfl rfl (Nat.le_of_ble_eq_true rfl) dX1_takeJournal_15 (fun H locs hr hz hlo => ?_)
  rw [gput_Ds1 hd] at hr
  exact h_vret X hr hz hlo (glfv (id (by unfold gf_1_takeJournal_d_r; rfl))) (Nat.le_of_ble_eq_true rfl) (Nat.le_of_ble_eq_true rfl) dX1_takeJournal_18

def gf_1_takeBackup_d_v (R nd : Nat) (g : GS) (d : Nat) (q : Int32) : GS :=
  gdi (gf_0_tell_b_v R nd g d q) 11 d (((gf_0_tell_b_v R nd g d q).2.1 11 d) + 1)
set_option maxRecDepth 20000 in
set_option maxHeartbeats 4000000 in
theorem gc_1_takeBackup_d_v (l : Launch) (D : hD) (H0 : Heap) (a R nd : Nat) (g : GS) (h0 : hH) (n : Nat) (d : Nat) (q : Int32) (hnd : nd ≤ 10) (hRR : R ≤ 48) (hd : d < 10)  : cM l D H0 yX1_takeBackup cX1_takeBackup 3 none 1 23 0 0 [.ref (aD a d), .int q, .ref (a + 3)] (gput a R nd g h0) n (cE none (gput a R nd (gf_1_takeBackup_d_v R nd g d q) h0) n) := by
  refine h_met (by decide) (Nat.le_of_ble_eq_true rfl) ?_
  intro p e s m below meth c H ls X hnm hr hz hl
  have hl : lv_has ls 3 [(0, .ref (aD a d)), (1, .int q), (2, .ref (a + 3))] := hl
  have hlo : hL H0 ([] : List Loc) := hL.nil
  refine lv_aload_n X.x X.b dX1_takeBackup_0 rfl (lv_at hl 0 rfl) ?_
  refine h_get X hr fd_X1_26 (gput_aD hd) (v := .ref (aB a d)) rfl dX1_takeBackup_1 ?_
  refine lv_iload_n X.x X.b dX1_takeBackup_4 rfl (lv_at hl 1 rfl) ?_
  refine lv_aload_n X.x X.b dX1_takeBackup_5 rfl (lv_at hl 2 rfl) ?_
  refine h_callV X hr hz hlo (rest := []) (gc_0_tell_b_v l D H0 a R nd g h0 n d q hnd hRR hd ) (gput_aB hd) rfl yv_X0_tell ml_X1_60 ⟨(Nat.le_of_ble_eq_true rfl), (Nat.le_of_ble_eq_true rfl)⟩ (Nat.le_of_ble_eq_true rfl) hl.1 ⟨(Nat.le_of_ble_eq_true rfl), (Nat.le_of_ble_eq_true rfl)⟩ rfl dX1_takeBackup_6 (fun v9 h9 n9 H locs hp hr hz hlo => ?_)
  obtain ⟨rfl, rfl, rfl⟩ := hp
  show W p l e _ s m _ below meth c H locs _ _ _ (F0 m 9 ls [])
  refine lv_aload_n X.x X.b dX1_takeBackup_9 rfl (lv_at hl 0 rfl) ?_
  refine lv_dup X.x X.b dX1_takeBackup_10 rfl ?_
  refine h_get X hr fd_X1_46 (gput_aD hd) (v := .int ((gf_0_tell_b_v R nd g d q).2.1 11 d)) rfl dX1_takeBackup_11 ?_
  refine lv_iconst (v := 1) X.x X.b dX1_takeBackup_14 (by decide) ?_
  refine lv_iadd X.x X.b dX1_takeBackup_15 ?_
  refine h_put X hr hz hlo fd_X1_46 tyX1 tyX1_ok nmX1 rfl (gput_aD hd) (v := .int (((gf_0_tell_b_v R nd g d q).2.1 11 d) + 1)) rfl rfl (Nat.le_of_ble_eq_true rfl) dX1_takeBackup_16 (fun H locs hr hz hlo => ?_)
  rw [gput_Ds1 hd] at hr
  exact h_vret X hr hz hlo (glfv (id (by unfold gf_1_takeBackup_d_v; rfl))) (Nat.le_of_ble_eq_true rfl) (Nat.le_of_ble_eq_true rfl) dX1_takeBackup_19

def gg_1_renew_d_2 (R nd : Nat) (d : Nat)  : Nat → Nat → GS → GS
  | 0, _, g1 => g1
  | j + 1, k, g1 =>
    if (nI R) ≤ (nI k) then
      gdi (gdi (gdi (gf_2_erase_j R nd (gf_3_tell_s R nd g1 d 0 0 0 0) d) 9 d 0) 10 d 0) 11 d 0
    else
      gg_1_renew_d_2 R nd d   j (k + 1)  (gli g1 4 d k 0)
def gf_1_renew_d (R nd : Nat) (g : GS) (d : Nat)  : GS :=
  gg_1_renew_d_2 R nd d   (R + 1) 0  g
set_option maxRecDepth 20000 in
set_option maxHeartbeats 4000000 in
theorem gc_1_renew_d (l : Launch) (D : hD) (H0 : Heap) (a R nd : Nat) (g : GS) (h0 : hH) (n : Nat) (d : Nat)  (hnd : nd ≤ 10) (hRR : R ≤ 48) (hd : d < 10)  : cM l D H0 yX1_renew cX1_renew 2 none 2 45 0 0 [.ref (aD a d)] (gput a R nd g h0) n (cE none (gput a R nd (gf_1_renew_d R nd g d) h0) n) := by
  refine h_met (by decide) (Nat.le_of_ble_eq_true rfl) ?_
  intro p e s m below meth c H ls X hnm hr hz hl
  have hl : lv_has ls 2 [(0, .ref (aD a d))] := hl
  have hlo : hL H0 ([] : List Loc) := hL.nil
  have loop2 : ∀ (j k : Nat)  (g1 : GS) (hk : k ≤ R) (hj : R < k + j) (hG : gf_1_renew_d R nd g d = gg_1_renew_d_2 R nd d   j k g1) (H : Heap) (locs : List Loc) (ls : Array Slot), hR D H0 (gput a R nd g1 h0) H → H.size = n → hL H0 locs → lv_has ls 2 [(1, .int (nI k)), (0, .ref (aD a d))] → W p l e (rmk 2 45 0 0) s m ([.ref (aD a d)] : List Value).toArray below meth c H locs 0 0 (MQ below (cQ D H0 (cE none (gput a R nd (gf_1_renew_d R nd g d) h0) n)) ([.ref (aD a d)] : List Value).toArray s 0 0 (hF H0)) (F0 m 2 ls []) := by
    intro j
    induction j with
    | zero => intro k g1 hk hj; omega
    | succ j ih =>
      intro k g1 hk hj hG H locs ls hr hz hlo hl
      refine lv_iload_n X.x X.b dX1_renew_2 rfl (lv_at hl 0 rfl) ?_
      refine lv_aload_n X.x X.b dX1_renew_3 rfl (lv_at hl 1 rfl) ?_
      refine h_get X hr fd_X1_30 (gput_aD hd) (v := .ref (aK a d)) rfl dX1_renew_4 ?_
      refine h_alen X hr (by decide) (gput_aK hd) dX1_renew_7 ?_
      refine lv_icmp_ge (tgt := 24) X.x X.b dX1_renew_8 (by decide) (fun c8 => ?_) (fun c8 => ?_)
      · refine lv_aload_n X.x X.b dX1_renew_24 rfl (lv_at hl 1 rfl) ?_
        refine h_get X hr fd_X1_10 (gput_aD hd) (v := .ref (aS a d)) rfl dX1_renew_25 ?_
        refine lv_iconst (v := 0) X.x X.b dX1_renew_28 (by decide) ?_
        refine lv_iconst (v := 0) X.x X.b dX1_renew_29 (by decide) ?_
        refine lv_iconst (v := 0) X.x X.b dX1_renew_30 (by decide) ?_
        refine lv_iconst (v := 0) X.x X.b dX1_renew_31 (by decide) ?_
        refine h_callV X hr hz hlo (rest := []) (gc_3_tell_s l D H0 a R nd g1 h0 n d 0 0 0 0 hnd hRR hd ) (gput_aS hd) rfl yv_X3_tell ml_X1_49 ⟨(Nat.le_of_ble_eq_true rfl), (Nat.le_of_ble_eq_true rfl)⟩ (Nat.le_of_ble_eq_true rfl) hl.1 ⟨(Nat.le_of_ble_eq_true rfl), (Nat.le_of_ble_eq_true rfl)⟩ rfl dX1_renew_32 (fun v9 h9 n9 H locs hp hr hz hlo => ?_)
        obtain ⟨rfl, rfl, rfl⟩ := hp
        show W p l e _ s m _ below meth c H locs _ _ _ (F0 m 35 ls [])
        refine lv_aload_n X.x X.b dX1_renew_35 rfl (lv_at hl 1 rfl) ?_
        refine h_get X hr fd_X1_19 (gput_aD hd) (v := .ref (aJ a d)) rfl dX1_renew_36 ?_
        refine h_callV X hr hz hlo (rest := []) (gc_2_erase_j l D H0 a R nd (gf_3_tell_s R nd g1 d 0 0 0 0) h0 n d hnd hRR hd ) (gput_aJ hd) rfl yv_X2_erase ml_X1_63 ⟨(Nat.le_of_ble_eq_true rfl), (Nat.le_of_ble_eq_true rfl)⟩ (Nat.le_of_ble_eq_true rfl) hl.1 ⟨(Nat.le_of_ble_eq_true rfl), (Nat.le_of_ble_eq_true rfl)⟩ rfl dX1_renew_39 (fun v9 h9 n9 H locs hp hr hz hlo => ?_)
        obtain ⟨rfl, rfl, rfl⟩ := hp
        show W p l e _ s m _ below meth c H locs _ _ _ (F0 m 42 ls [])
        refine lv_aload_n X.x X.b dX1_renew_42 rfl (lv_at hl 1 rfl) ?_
        refine h_get X hr fd_X1_26 (gput_aD hd) (v := .ref (aB a d)) rfl dX1_renew_43 ?_
        refine lv_iconst (v := 0) X.x X.b dX1_renew_46 (by decide) ?_
        refine h_put X hr hz hlo fd_X1_66 tyX0 tyX0_ok nmX0 rfl (gput_aB hd) (v := .int 0) rfl rfl (Nat.le_of_ble_eq_true rfl) dX1_renew_47 (fun H locs hr hz hlo => ?_)
        rw [gput_Bs hd] at hr
        refine lv_aload_n X.x X.b dX1_renew_50 rfl (lv_at hl 1 rfl) ?_
        refine lv_iconst (v := 0) X.x X.b dX1_renew_51 (by decide) ?_
        refine h_put X hr hz hlo fd_X1_34 tyX1 tyX1_ok nmX1 rfl (gput_aD hd) (v := .int 0) rfl rfl (Nat.le_of_ble_eq_true rfl) dX1_renew_52 (fun H locs hr hz hlo => ?_)
        rw [gput_Ds0 hd] at hr
        refine lv_aload_n X.x X.b dX1_renew_55 rfl (lv_at hl 1 rfl) ?_
        refine lv_iconst (v := 0) X.x X.b dX1_renew_56 (by decide) ?_
        refine h_put X hr hz hlo fd_X1_46 tyX1 tyX1_ok nmX1 rfl (gput_aD hd) (v := .int 0) rfl rfl (Nat.le_of_ble_eq_true rfl) dX1_renew_57 (fun H locs hr hz hlo => ?_)
        rw [gput_Ds1 hd] at hr
        exact h_vret X hr hz hlo (glfv (hG.trans (by rw [gg_1_renew_d_2]; rw [if_pos c8]))) (Nat.le_of_ble_eq_true rfl) (Nat.le_of_ble_eq_true rfl) dX1_renew_60
      · have hk9 : k < R := nd_lt c8 (by omega)
        refine lv_aload_n X.x X.b dX1_renew_11 rfl (lv_at hl 1 rfl) ?_
        refine h_get X hr fd_X1_30 (gput_aD hd) (v := .ref (aK a d)) rfl dX1_renew_12 ?_
        refine lv_iload_n X.x X.b dX1_renew_15 rfl (lv_at hl 0 rfl) ?_
        refine lv_lconst (v := 0) X.x X.b dX1_renew_16 (by decide) ?_
        refine h_last X hr hz hlo (gput_aK hd) (vp_in_nI (by omega) (by omega)) dX1_renew_17 (fun H locs hr hz hlo => ?_)
        rw [nI_clamp (n := k) (by omega), gput_aK_ hd] at hr
        refine lv_iinc (v := nI (k + 1)) (lv' := [(1, .int (nI (k + 1))), (0, .ref (aD a d))]) X.x X.b dX1_renew_18 hl (k := 0) rfl (nI_1 k) (by decide) rfl (fun ls hl => ?_)
        refine lv_goto (tgt := 2) X.x X.b dX1_renew_21 (by decide) ?_
        exact ih (k + 1)  (gli g1 4 d k 0) (by omega) (by omega) (hG.trans (by rw [gg_1_renew_d_2]; rw [if_neg c8])) _ _ _ hr hz hlo (lv_sub hl [0, 1] rfl)
  refine lv_iconst (v := 0) X.x X.b dX1_renew_0 (by decide) ?_
  refine lv_istore_n (lv' := [(1, .int 0), (0, .ref (aD a d))]) X.x X.b dX1_renew_1 rfl hl (by decide) rfl (fun ls hl => ?_)
  have hl : lv_has ls 2 [(1, .int (nI 0)), (0, .ref (aD a d))] := by rw [nI_0]; exact hl
  exact loop2 (R + 1) 0  g (by omega) (by omega) (id (by unfold gf_1_renew_d; rfl)) _ _ _ hr hz hlo (lv_sub hl [0, 1] rfl)
