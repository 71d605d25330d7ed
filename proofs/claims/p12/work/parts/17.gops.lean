def gf_4_spendWrite (R nd : Nat) (g : GS)  : Int32 × GS :=
  if (g.1 1) = 0 then
    (0, g)
  else
    if (g.1 2) = 0 then
      (0, gsi (gsi (gsi g 1 0) 7 ((g.1 7) + 1)) 2 (-1))
    else
      if (g.1 2) ≤ 0 then
        (1, gsi g 5 ((g.1 5) + 1))
      else
        (1, gsi (gsi g 2 ((g.1 2) - 1)) 5 ((g.1 5) + 1))
set_option maxRecDepth 20000 in
set_option maxHeartbeats 4000000 in
theorem gc_4_spendWrite (l : Launch) (D : hD) (H0 : Heap) (a R nd : Nat) (g : GS) (h0 : hH) (n : Nat)  (hnd : nd ≤ 10) (hRR : R ≤ 48)  : cM l D H0 yX4_spendWrite cX4_spendWrite 1 (some .boolean) 0 0 0 0 [.ref a] (gput a R nd g h0) n (cE (some (.int (gf_4_spendWrite R nd g).1)) (gput a R nd (gf_4_spendWrite R nd g).2 h0) n) := by
  refine h_met (by decide) (Nat.le_of_ble_eq_true rfl) ?_
  intro p e s m below meth c H ls X hnm hr hz hl
  have hl : lv_has ls 1 [(0, .ref a)] := hl
  have hlo : hL H0 ([] : List Loc) := hL.nil
  refine lv_aload_n X.x X.b dX4_spendWrite_0 rfl (lv_at hl 0 rfl) ?_
  refine h_get X hr fd_X4_54 gput_o (v := .int (g.1 1)) rfl dX4_spendWrite_1 ?_
  refine lv_if_ne (tgt := 9) X.x X.b dX4_spendWrite_4 (by decide) (fun c4 => ?_) (fun c4 => ?_)
  · refine lv_aload_n X.x X.b dX4_spendWrite_9 rfl (lv_at hl 0 rfl) ?_
    refine h_get X hr fd_X4_58 gput_o (v := .int (g.1 2)) rfl dX4_spendWrite_10 ?_
    refine lv_if_ne (tgt := 38) X.x X.b dX4_spendWrite_13 (by decide) (fun c13 => ?_) (fun c13 => ?_)
    · refine lv_aload_n X.x X.b dX4_spendWrite_38 rfl (lv_at hl 0 rfl) ?_
      refine h_get X hr fd_X4_58 gput_o (v := .int (g.1 2)) rfl dX4_spendWrite_39 ?_
      refine lv_if_le (tgt := 55) X.x X.b dX4_spendWrite_42 (by decide) (fun c42 => ?_) (fun c42 => ?_)
      · refine lv_aload_n X.x X.b dX4_spendWrite_55 rfl (lv_at hl 0 rfl) ?_
        refine lv_dup X.x X.b dX4_spendWrite_56 rfl ?_
        refine h_get X hr fd_X4_215 gput_o (v := .int (g.1 5)) rfl dX4_spendWrite_57 ?_
        refine lv_iconst (v := 1) X.x X.b dX4_spendWrite_60 (by decide) ?_
        refine lv_iadd X.x X.b dX4_spendWrite_61 ?_
        refine h_put X hr hz hlo fd_X4_215 tyX4 tyX4_ok nmX4 rfl gput_o (v := .int ((g.1 5) + 1)) rfl rfl (Nat.le_of_ble_eq_true rfl) dX4_spendWrite_62 (fun H locs hr hz hlo => ?_)
        rw [gput_s5] at hr
        refine lv_iconst (v := 1) X.x X.b dX4_spendWrite_65 (by decide) ?_
        exact h_zret X hr hz hlo rfl (glfi (id (by unfold gf_4_spendWrite; rw [if_neg c4, if_neg c13, if_pos c42]))) (Nat.le_of_ble_eq_true rfl) (Nat.le_of_ble_eq_true rfl) dX4_spendWrite_66
      · refine lv_aload_n X.x X.b dX4_spendWrite_45 rfl (lv_at hl 0 rfl) ?_
        refine lv_dup X.x X.b dX4_spendWrite_46 rfl ?_
        refine h_get X hr fd_X4_58 gput_o (v := .int (g.1 2)) rfl dX4_spendWrite_47 ?_
        refine lv_iconst (v := 1) X.x X.b dX4_spendWrite_50 (by decide) ?_
        refine lv_isub X.x X.b dX4_spendWrite_51 ?_
        refine h_put X hr hz hlo fd_X4_58 tyX4 tyX4_ok nmX4 rfl gput_o (v := .int ((g.1 2) - 1)) rfl rfl (Nat.le_of_ble_eq_true rfl) dX4_spendWrite_52 (fun H locs hr hz hlo => ?_)
        rw [gput_s2] at hr
        refine lv_aload_n X.x X.b dX4_spendWrite_55 rfl (lv_at hl 0 rfl) ?_
        refine lv_dup X.x X.b dX4_spendWrite_56 rfl ?_
        refine h_get X hr fd_X4_215 gput_o (v := .int (g.1 5)) rfl dX4_spendWrite_57 ?_
        refine lv_iconst (v := 1) X.x X.b dX4_spendWrite_60 (by decide) ?_
        refine lv_iadd X.x X.b dX4_spendWrite_61 ?_
        refine h_put X hr hz hlo fd_X4_215 tyX4 tyX4_ok nmX4 rfl gput_o (v := .int ((g.1 5) + 1)) rfl rfl (Nat.le_of_ble_eq_true rfl) dX4_spendWrite_62 (fun H locs hr hz hlo => ?_)
        rw [gput_s5] at hr
        refine lv_iconst (v := 1) X.x X.b dX4_spendWrite_65 (by decide) ?_
        exact h_zret X hr hz hlo rfl (glfi (id (by unfold gf_4_spendWrite; rw [if_neg c4, if_neg c13, if_neg c42]))) (Nat.le_of_ble_eq_true rfl) (Nat.le_of_ble_eq_true rfl) dX4_spendWrite_66
    · refine lv_aload_n X.x X.b dX4_spendWrite_16 rfl (lv_at hl 0 rfl) ?_
      refine lv_iconst (v := 0) X.x X.b dX4_spendWrite_17 (by decide) ?_
      refine h_put X hr hz hlo fd_X4_54 tyX4 tyX4_ok nmX4 rfl gput_o (v := .int 0) rfl rfl (Nat.le_of_ble_eq_true rfl) dX4_spendWrite_18 (fun H locs hr hz hlo => ?_)
      rw [gput_s1] at hr
      refine lv_aload_n X.x X.b dX4_spendWrite_21 rfl (lv_at hl 0 rfl) ?_
      refine lv_dup X.x X.b dX4_spendWrite_22 rfl ?_
      refine h_get X hr fd_X4_221 gput_o (v := .int (g.1 7)) rfl dX4_spendWrite_23 ?_
      refine lv_iconst (v := 1) X.x X.b dX4_spendWrite_26 (by decide) ?_
      refine lv_iadd X.x X.b dX4_spendWrite_27 ?_
      refine h_put X hr hz hlo fd_X4_221 tyX4 tyX4_ok nmX4 rfl gput_o (v := .int ((g.1 7) + 1)) rfl rfl (Nat.le_of_ble_eq_true rfl) dX4_spendWrite_28 (fun H locs hr hz hlo => ?_)
      rw [gput_s7] at hr
      refine lv_aload_n X.x X.b dX4_spendWrite_31 rfl (lv_at hl 0 rfl) ?_
      refine lv_iconst (v := -1) X.x X.b dX4_spendWrite_32 (by decide) ?_
      refine h_put X hr hz hlo fd_X4_58 tyX4 tyX4_ok nmX4 rfl gput_o (v := .int (-1)) rfl rfl (Nat.le_of_ble_eq_true rfl) dX4_spendWrite_33 (fun H locs hr hz hlo => ?_)
      rw [gput_s2] at hr
      refine lv_iconst (v := 0) X.x X.b dX4_spendWrite_36 (by decide) ?_
      exact h_zret X hr hz hlo rfl (glfi (id (by unfold gf_4_spendWrite; rw [if_neg c4, if_pos c13]))) (Nat.le_of_ble_eq_true rfl) (Nat.le_of_ble_eq_true rfl) dX4_spendWrite_37
  · refine lv_iconst (v := 0) X.x X.b dX4_spendWrite_7 (by decide) ?_
    exact h_zret X hr hz hlo rfl (glfi (id (by unfold gf_4_spendWrite; rw [if_pos c4]))) (Nat.le_of_ble_eq_true rfl) (Nat.le_of_ble_eq_true rfl) dX4_spendWrite_8

def gf_4_writeBlock (R nd : Nat) (g : GS) (d0 : Int32) (row : Int32) (v : Int64) : GS :=
  if (gf_4_isLive R nd g d0) = 0 then
    if (gf_4_isRebuilt R nd g d0 row) = 0 then
      g
    else
      if ((gf_4_spendWrite R nd g).1) = 0 then
        (gf_4_spendWrite R nd g).2
      else
        gf_1_takeBlock_d R nd ((gf_4_spendWrite R nd g).2) d0.toNatClampNeg row v
  else
    if ((gf_4_spendWrite R nd g).1) = 0 then
      (gf_4_spendWrite R nd g).2
    else
      gf_1_takeBlock_d R nd ((gf_4_spendWrite R nd g).2) d0.toNatClampNeg row v
set_option maxRecDepth 20000 in
set_option maxHeartbeats 4000000 in
theorem gc_4_writeBlock (l : Launch) (D : hD) (H0 : Heap) (a R nd : Nat) (g : GS) (h0 : hH) (n : Nat) (d0 : Int32) (row : Int32) (v : Int64) (hnd : nd ≤ 10) (hRR : R ≤ 48)  : cM l D H0 yX4_writeBlock cX4_writeBlock 5 none 2 43 0 0 [.ref a, .int d0, .int row, .long v] (gput a R nd g h0) n (cE none (gput a R nd (gf_4_writeBlock R nd g d0 row v) h0) n) := by
  refine h_met (by decide) (Nat.le_of_ble_eq_true rfl) ?_
  intro p e s m below meth c H ls X hnm hr hz hl
  have hl : lv_has ls 5 [(0, .ref a), (1, .int d0), (2, .int row), (3, .long v)] := hl
  have hlo : hL H0 ([] : List Loc) := hL.nil
  refine lv_aload_n X.x X.b dX4_writeBlock_0 rfl (lv_at hl 0 rfl) ?_
  refine lv_iload_n X.x X.b dX4_writeBlock_1 rfl (lv_at hl 1 rfl) ?_
  refine h_callV X hr hz hlo (rest := []) (gc_4_isLive l D H0 a R nd g h0 n d0 hnd hRR  ) gput_o rfl yv_X4_isLive ml_X4_257 ⟨(Nat.le_of_ble_eq_true rfl), (Nat.le_of_ble_eq_true rfl)⟩ (Nat.le_of_ble_eq_true rfl) hl.1 ⟨(Nat.le_of_ble_eq_true rfl), (Nat.le_of_ble_eq_true rfl)⟩ rfl dX4_writeBlock_2 (fun v9 h9 n9 H locs hp hr hz hlo => ?_)
  obtain ⟨rfl, rfl, rfl⟩ := hp
  show W p l e _ s m _ below meth c H locs _ _ _ (F0 m 5 ls [.int (gf_4_isLive R nd g d0)])
  refine lv_if_ne (tgt := 17) X.x X.b dX4_writeBlock_5 (by decide) (fun c5 => ?_) (fun c5 => ?_)
  · refine lv_aload_n X.x X.b dX4_writeBlock_17 rfl (lv_at hl 0 rfl) ?_
    refine h_callV X hr hz hlo (rest := []) (gc_4_spendWrite l D H0 a R nd g h0 n  hnd hRR  ) gput_o rfl yv_X4_spendWrite ml_X4_108 ⟨(Nat.le_of_ble_eq_true rfl), (Nat.le_of_ble_eq_true rfl)⟩ (Nat.le_of_ble_eq_true rfl) hl.1 ⟨(Nat.le_of_ble_eq_true rfl), (Nat.le_of_ble_eq_true rfl)⟩ rfl dX4_writeBlock_18 (fun v9 h9 n9 H locs hp hr hz hlo => ?_)
    obtain ⟨rfl, rfl, rfl⟩ := hp
    show W p l e _ s m _ below meth c H locs _ _ _ (F0 m 21 ls [.int ((gf_4_spendWrite R nd g).1)])
    refine lv_if_eq (tgt := 35) X.x X.b dX4_writeBlock_21 (by decide) (fun c21 => ?_) (fun c21 => ?_)
    · exact h_vret X hr hz hlo (glfv (id (by unfold gf_4_writeBlock; rw [if_neg c5, if_pos c21]))) (Nat.le_of_ble_eq_true rfl) (Nat.le_of_ble_eq_true rfl) dX4_writeBlock_35
    · refine lv_aload_n X.x X.b dX4_writeBlock_24 rfl (lv_at hl 0 rfl) ?_
      refine h_get X hr fd_X4_40 gput_o (v := .ref (a + 4)) rfl dX4_writeBlock_25 ?_
      refine lv_iload_n X.x X.b dX4_writeBlock_28 rfl (lv_at hl 1 rfl) ?_
      refine h_aald X hr gput_k (by first | exact gx_live c5 hnd | exact gx_rb c14 hnd) (v := .ref (aD a d0.toNatClampNeg)) rfl dX4_writeBlock_29 ?_
      refine lv_iload_n X.x X.b dX4_writeBlock_30 rfl (lv_at hl 2 rfl) ?_
      refine lv_lload_n X.x X.b dX4_writeBlock_31 rfl (lv_at hl 3 rfl) ?_
      refine h_callV X hr hz hlo (rest := []) (gc_1_takeBlock_d l D H0 a R nd ((gf_4_spendWrite R nd g).2) h0 n d0.toNatClampNeg row v hnd hRR (vp_lt (by first | exact gx_live c5 hnd | exact gx_rb c14 hnd)) ) (gput_aD (vp_lt (by first | exact gx_live c5 hnd | exact gx_rb c14 hnd))) rfl yv_X1_takeBlock ml_X4_166 ⟨(Nat.le_of_ble_eq_true rfl), (Nat.le_of_ble_eq_true rfl)⟩ (Nat.le_of_ble_eq_true rfl) hl.1 ⟨(Nat.le_of_ble_eq_true rfl), (Nat.le_of_ble_eq_true rfl)⟩ rfl dX4_writeBlock_32 (fun v9 h9 n9 H locs hp hr hz hlo => ?_)
      obtain ⟨rfl, rfl, rfl⟩ := hp
      show W p l e _ s m _ below meth c H locs _ _ _ (F0 m 35 ls [])
      exact h_vret X hr hz hlo (glfv (id (by unfold gf_4_writeBlock; rw [if_neg c5, if_neg c21]))) (Nat.le_of_ble_eq_true rfl) (Nat.le_of_ble_eq_true rfl) dX4_writeBlock_35
  · refine lv_aload_n X.x X.b dX4_writeBlock_8 rfl (lv_at hl 0 rfl) ?_
    refine lv_iload_n X.x X.b dX4_writeBlock_9 rfl (lv_at hl 1 rfl) ?_
    refine lv_iload_n X.x X.b dX4_writeBlock_10 rfl (lv_at hl 2 rfl) ?_
    refine h_callV X hr hz hlo (rest := []) (gc_4_isRebuilt l D H0 a R nd g h0 n d0 row hnd hRR  ) gput_o rfl yv_X4_isRebuilt ml_X4_262 ⟨(Nat.le_of_ble_eq_true rfl), (Nat.le_of_ble_eq_true rfl)⟩ (Nat.le_of_ble_eq_true rfl) hl.1 ⟨(Nat.le_of_ble_eq_true rfl), (Nat.le_of_ble_eq_true rfl)⟩ rfl dX4_writeBlock_11 (fun v9 h9 n9 H locs hp hr hz hlo => ?_)
    obtain ⟨rfl, rfl, rfl⟩ := hp
    show W p l e _ s m _ below meth c H locs _ _ _ (F0 m 14 ls [.int (gf_4_isRebuilt R nd g d0 row)])
    refine lv_if_eq (tgt := 35) X.x X.b dX4_writeBlock_14 (by decide) (fun c14 => ?_) (fun c14 => ?_)
    · exact h_vret X hr hz hlo (glfv (id (by unfold gf_4_writeBlock; rw [if_pos c5, if_pos c14]))) (Nat.le_of_ble_eq_true rfl) (Nat.le_of_ble_eq_true rfl) dX4_writeBlock_35
    · refine lv_aload_n X.x X.b dX4_writeBlock_17 rfl (lv_at hl 0 rfl) ?_
      refine h_callV X hr hz hlo (rest := []) (gc_4_spendWrite l D H0 a R nd g h0 n  hnd hRR  ) gput_o rfl yv_X4_spendWrite ml_X4_108 ⟨(Nat.le_of_ble_eq_true rfl), (Nat.le_of_ble_eq_true rfl)⟩ (Nat.le_of_ble_eq_true rfl) hl.1 ⟨(Nat.le_of_ble_eq_true rfl), (Nat.le_of_ble_eq_true rfl)⟩ rfl dX4_writeBlock_18 (fun v9 h9 n9 H locs hp hr hz hlo => ?_)
      obtain ⟨rfl, rfl, rfl⟩ := hp
      show W p l e _ s m _ below meth c H locs _ _ _ (F0 m 21 ls [.int ((gf_4_spendWrite R nd g).1)])
      refine lv_if_eq (tgt := 35) X.x X.b dX4_writeBlock_21 (by decide) (fun c21 => ?_) (fun c21 => ?_)
      · exact h_vret X hr hz hlo (glfv (id (by unfold gf_4_writeBlock; rw [if_pos c5, if_neg c14, if_pos c21]))) (Nat.le_of_ble_eq_true rfl) (Nat.le_of_ble_eq_true rfl) dX4_writeBlock_35
      · refine lv_aload_n X.x X.b dX4_writeBlock_24 rfl (lv_at hl 0 rfl) ?_
        refine h_get X hr fd_X4_40 gput_o (v := .ref (a + 4)) rfl dX4_writeBlock_25 ?_
        refine lv_iload_n X.x X.b dX4_writeBlock_28 rfl (lv_at hl 1 rfl) ?_
        refine h_aald X hr gput_k (by first | exact gx_live c5 hnd | exact gx_rb c14 hnd) (v := .ref (aD a d0.toNatClampNeg)) rfl dX4_writeBlock_29 ?_
        refine lv_iload_n X.x X.b dX4_writeBlock_30 rfl (lv_at hl 2 rfl) ?_
        refine lv_lload_n X.x X.b dX4_writeBlock_31 rfl (lv_at hl 3 rfl) ?_
        refine h_callV X hr hz hlo (rest := []) (gc_1_takeBlock_d l D H0 a R nd ((gf_4_spendWrite R nd g).2) h0 n d0.toNatClampNeg row v hnd hRR (vp_lt (by first | exact gx_live c5 hnd | exact gx_rb c14 hnd)) ) (gput_aD (vp_lt (by first | exact gx_live c5 hnd | exact gx_rb c14 hnd))) rfl yv_X1_takeBlock ml_X4_166 ⟨(Nat.le_of_ble_eq_true rfl), (Nat.le_of_ble_eq_true rfl)⟩ (Nat.le_of_ble_eq_true rfl) hl.1 ⟨(Nat.le_of_ble_eq_true rfl), (Nat.le_of_ble_eq_true rfl)⟩ rfl dX4_writeBlock_32 (fun v9 h9 n9 H locs hp hr hz hlo => ?_)
        obtain ⟨rfl, rfl, rfl⟩ := hp
        show W p l e _ s m _ below meth c H locs _ _ _ (F0 m 35 ls [])
        exact h_vret X hr hz hlo (glfv (id (by unfold gf_4_writeBlock; rw [if_pos c5, if_neg c14, if_neg c21]))) (Nat.le_of_ble_eq_true rfl) (Nat.le_of_ble_eq_true rfl) dX4_writeBlock_35

def gg_4_setSuper_14 (R nd : Nat) (n0 : Int32) (m0 : Int32) (f : Int32) (jo : Int32) : Nat → Nat → Int32 → GS → GS
  | 0, _, _, g1 => g1
  | j + 1, k, sq, g1 =>
    if (nI nd) ≤ (nI k) then
      if (g1.1 1) = 0 then
        g1
      else
        gf_3_tell_h R nd g1 sq n0 m0 f
    else
      if (gf_4_isLive R nd g1 (nI k)) = 0 then
        if (nI k) = jo then
          if ((gf_4_spendWrite R nd g1).1) = 0 then
            gg_4_setSuper_14 R nd n0 m0 f jo  j (k + 1) sq ((gf_4_spendWrite R nd g1).2)
          else
            gg_4_setSuper_14 R nd n0 m0 f jo  j (k + 1) sq (gf_1_takeSuper_d R nd ((gf_4_spendWrite R nd g1).2) k sq n0 m0 f)
        else
          gg_4_setSuper_14 R nd n0 m0 f jo  j (k + 1) sq g1
      else
        if ((gf_4_spendWrite R nd g1).1) = 0 then
          gg_4_setSuper_14 R nd n0 m0 f jo  j (k + 1) sq ((gf_4_spendWrite R nd g1).2)
        else
          gg_4_setSuper_14 R nd n0 m0 f jo  j (k + 1) sq (gf_1_takeSuper_d R nd ((gf_4_spendWrite R nd g1).2) k sq n0 m0 f)
def gf_4_setSuper (R nd : Nat) (g : GS) (n0 : Int32) (m0 : Int32) (f : Int32) (jo : Int32) : GS :=
  gg_4_setSuper_14 R nd n0 m0 f jo  (nd + 1) 0 ((g.1 8) + 1) g
set_option maxRecDepth 20000 in
set_option maxHeartbeats 4000000 in
theorem gc_4_setSuper (l : Launch) (D : hD) (H0 : Heap) (a R nd : Nat) (g : GS) (h0 : hH) (n : Nat) (n0 : Int32) (m0 : Int32) (f : Int32) (jo : Int32) (hnd : nd ≤ 10) (hRR : R ≤ 48)  : cM l D H0 yX4_setSuper cX4_setSuper 7 none 2 48 0 0 [.ref a, .int n0, .int m0, .int f, .int jo] (gput a R nd g h0) n (cE none (gput a R nd (gf_4_setSuper R nd g n0 m0 f jo) h0) n) := by
  refine h_met (by decide) (Nat.le_of_ble_eq_true rfl) ?_
  intro p e s m below meth c H ls X hnm hr hz hl
  have hl : lv_has ls 7 [(0, .ref a), (1, .int n0), (2, .int m0), (3, .int f), (4, .int jo)] := hl
  have hlo : hL H0 ([] : List Loc) := hL.nil
  have loop14 : ∀ (j k : Nat) (sq : Int32) (g1 : GS) (hk : k ≤ nd) (hj : nd < k + j) (hG : gf_4_setSuper R nd g n0 m0 f jo = gg_4_setSuper_14 R nd n0 m0 f jo  j k sq g1) (H : Heap) (locs : List Loc) (ls : Array Slot), hR D H0 (gput a R nd g1 h0) H → H.size = n → hL H0 locs → lv_has ls 7 [(6, .int (nI k)), (5, .int sq), (0, .ref a), (1, .int n0), (2, .int m0), (3, .int f), (4, .int jo)] → W p l e (rmk 2 48 0 0) s m ([.ref a, .int n0, .int m0, .int f, .int jo] : List Value).toArray below meth c H locs 0 0 (MQ below (cQ D H0 (cE none (gput a R nd (gf_4_setSuper R nd g n0 m0 f jo) h0) n)) ([.ref a, .int n0, .int m0, .int f, .int jo] : List Value).toArray s 0 0 (hF H0)) (F0 m 14 ls []) := by
    intro j
    induction j with
    | zero => intro k sq g1 hk hj; omega
    | succ j ih =>
      intro k sq g1 hk hj hG H locs ls hr hz hlo hl
      refine lv_iload X.x X.b dX4_setSuper_14 (lv_at hl 0 rfl) ?_
      refine lv_aload_n X.x X.b dX4_setSuper_16 rfl (lv_at hl 2 rfl) ?_
      refine h_get X hr fd_X4_7 gput_o (v := .int (nI nd)) rfl dX4_setSuper_17 ?_
      refine lv_icmp_ge (tgt := 67) X.x X.b dX4_setSuper_20 (by decide) (fun c20 => ?_) (fun c20 => ?_)
      · refine lv_aload_n X.x X.b dX4_setSuper_67 rfl (lv_at hl 2 rfl) ?_
        refine h_get X hr fd_X4_54 gput_o (v := .int (g1.1 1)) rfl dX4_setSuper_68 ?_
        refine lv_if_eq (tgt := 86) X.x X.b dX4_setSuper_71 (by decide) (fun c71 => ?_) (fun c71 => ?_)
        · exact h_vret X hr hz hlo (glfv (hG.trans (by rw [gg_4_setSuper_14]; rw [if_pos c20, if_pos c71]))) (Nat.le_of_ble_eq_true rfl) (Nat.le_of_ble_eq_true rfl) dX4_setSuper_86
        · refine lv_aload_n X.x X.b dX4_setSuper_74 rfl (lv_at hl 2 rfl) ?_
          refine h_get X hr fd_X4_19 gput_o (v := .ref (a + 1)) rfl dX4_setSuper_75 ?_
          refine lv_iload X.x X.b dX4_setSuper_78 (lv_at hl 1 rfl) ?_
          refine lv_iload_n X.x X.b dX4_setSuper_80 rfl (lv_at hl 3 rfl) ?_
          refine lv_iload_n X.x X.b dX4_setSuper_81 rfl (lv_at hl 4 rfl) ?_
          refine lv_iload_n X.x X.b dX4_setSuper_82 rfl (lv_at hl 5 rfl) ?_
          refine h_callV X hr hz hlo (rest := []) (gc_3_tell_h l D H0 a R nd g1 h0 n sq n0 m0 f hnd hRR  ) gput_h rfl yv_X3_tell ml_X4_23 ⟨(Nat.le_of_ble_eq_true rfl), (Nat.le_of_ble_eq_true rfl)⟩ (Nat.le_of_ble_eq_true rfl) hl.1 ⟨(Nat.le_of_ble_eq_true rfl), (Nat.le_of_ble_eq_true rfl)⟩ rfl dX4_setSuper_83 (fun v9 h9 n9 H locs hp hr hz hlo => ?_)
          obtain ⟨rfl, rfl, rfl⟩ := hp
          show W p l e _ s m _ below meth c H locs _ _ _ (F0 m 86 ls [])
          exact h_vret X hr hz hlo (glfv (hG.trans (by rw [gg_4_setSuper_14]; rw [if_pos c20, if_neg c71]))) (Nat.le_of_ble_eq_true rfl) (Nat.le_of_ble_eq_true rfl) dX4_setSuper_86
      · have hk9 : k < nd := nd_lt c20 (by omega)
        refine lv_aload_n X.x X.b dX4_setSuper_23 rfl (lv_at hl 2 rfl) ?_
        refine lv_iload X.x X.b dX4_setSuper_24 (lv_at hl 0 rfl) ?_
        refine h_callV X hr hz hlo (rest := []) (gc_4_isLive l D H0 a R nd g1 h0 n (nI k) hnd hRR  ) gput_o rfl yv_X4_isLive ml_X4_257 ⟨(Nat.le_of_ble_eq_true rfl), (Nat.le_of_ble_eq_true rfl)⟩ (Nat.le_of_ble_eq_true rfl) hl.1 ⟨(Nat.le_of_ble_eq_true rfl), (Nat.le_of_ble_eq_true rfl)⟩ rfl dX4_setSuper_26 (fun v9 h9 n9 H locs hp hr hz hlo => ?_)
        obtain ⟨rfl, rfl, rfl⟩ := hp
        show W p l e _ s m _ below meth c H locs _ _ _ (F0 m 29 ls [.int (gf_4_isLive R nd g1 (nI k))])
        refine lv_if_ne (tgt := 39) X.x X.b dX4_setSuper_29 (by decide) (fun c29 => ?_) (fun c29 => ?_)
        · refine lv_aload_n X.x X.b dX4_setSuper_39 rfl (lv_at hl 2 rfl) ?_
          refine h_callV X hr hz hlo (rest := []) (gc_4_spendWrite l D H0 a R nd g1 h0 n  hnd hRR  ) gput_o rfl yv_X4_spendWrite ml_X4_108 ⟨(Nat.le_of_ble_eq_true rfl), (Nat.le_of_ble_eq_true rfl)⟩ (Nat.le_of_ble_eq_true rfl) hl.1 ⟨(Nat.le_of_ble_eq_true rfl), (Nat.le_of_ble_eq_true rfl)⟩ rfl dX4_setSuper_40 (fun v9 h9 n9 H locs hp hr hz hlo => ?_)
          obtain ⟨rfl, rfl, rfl⟩ := hp
          show W p l e _ s m _ below meth c H locs _ _ _ (F0 m 43 ls [.int ((gf_4_spendWrite R nd g1).1)])
          refine lv_if_eq (tgt := 61) X.x X.b dX4_setSuper_43 (by decide) (fun c43 => ?_) (fun c43 => ?_)
          · refine lv_iinc (v := nI (k + 1)) (lv' := [(6, .int (nI (k + 1))), (5, .int sq), (0, .ref a), (1, .int n0), (2, .int m0), (3, .int f), (4, .int jo)]) X.x X.b dX4_setSuper_61 hl (k := 0) rfl (nI_1 k) (by decide) rfl (fun ls hl => ?_)
            refine lv_goto (tgt := 14) X.x X.b dX4_setSuper_64 (by decide) ?_
            exact ih (k + 1) sq ((gf_4_spendWrite R nd g1).2) (by omega) (by omega) (hG.trans (by rw [gg_4_setSuper_14]; rw [if_neg c20, if_neg c29, if_pos c43])) _ _ _ hr hz hlo (lv_sub hl [0, 1, 2, 3, 4, 5, 6] rfl)
          · refine lv_aload_n X.x X.b dX4_setSuper_46 rfl (lv_at hl 2 rfl) ?_
            refine h_get X hr fd_X4_40 gput_o (v := .ref (a + 4)) rfl dX4_setSuper_47 ?_
            refine lv_iload X.x X.b dX4_setSuper_50 (lv_at hl 0 rfl) ?_
            refine h_aald X hr gput_k (vp_in_nI (by omega) (by omega)) (v := .ref (aD a k)) (by rw [nI_clamp (n := k) (by omega)]) dX4_setSuper_52 ?_
            refine lv_iload X.x X.b dX4_setSuper_53 (lv_at hl 1 rfl) ?_
            refine lv_iload_n X.x X.b dX4_setSuper_55 rfl (lv_at hl 3 rfl) ?_
            refine lv_iload_n X.x X.b dX4_setSuper_56 rfl (lv_at hl 4 rfl) ?_
            refine lv_iload_n X.x X.b dX4_setSuper_57 rfl (lv_at hl 5 rfl) ?_
            refine h_callV X hr hz hlo (rest := []) (gc_1_takeSuper_d l D H0 a R nd ((gf_4_spendWrite R nd g1).2) h0 n k sq n0 m0 f hnd hRR (show k < 10 by omega) ) (gput_aD (show k < 10 by omega)) rfl yv_X1_takeSuper ml_X4_266 ⟨(Nat.le_of_ble_eq_true rfl), (Nat.le_of_ble_eq_true rfl)⟩ (Nat.le_of_ble_eq_true rfl) hl.1 ⟨(Nat.le_of_ble_eq_true rfl), (Nat.le_of_ble_eq_true rfl)⟩ rfl dX4_setSuper_58 (fun v9 h9 n9 H locs hp hr hz hlo => ?_)
            obtain ⟨rfl, rfl, rfl⟩ := hp
            show W p l e _ s m _ below meth c H locs _ _ _ (F0 m 61 ls [])
            refine lv_iinc (v := nI (k + 1)) (lv' := [(6, .int (nI (k + 1))), (5, .int sq), (0, .ref a), (1, .int n0), (2, .int m0), (3, .int f), (4, .int jo)]) X.x X.b dX4_setSuper_61 hl (k := 0) rfl (nI_1 k) (by decide) rfl (fun ls hl => ?_)
            refine lv_goto (tgt := 14) X.x X.b dX4_setSuper_64 (by decide) ?_
            exact ih (k + 1) sq (gf_1_takeSuper_d R nd ((gf_4_spendWrite R nd g1).2) k sq n0 m0 f) (by omega) (by omega) (hG.trans (by rw [gg_4_setSuper_14]; rw [if_neg c20, if_neg c29, if_neg c43])) _ _ _ hr hz hlo (lv_sub hl [0, 1, 2, 3, 4, 5, 6] rfl)
        · refine lv_iload X.x X.b dX4_setSuper_32 (lv_at hl 0 rfl) ?_
          refine lv_iload X.x X.b dX4_setSuper_34 (lv_at hl 6 rfl) ?_
          refine lv_icmp_ne (tgt := 61) X.x X.b dX4_setSuper_36 (by decide) (fun c36 => ?_) (fun c36 => ?_)
          · refine lv_iinc (v := nI (k + 1)) (lv' := [(6, .int (nI (k + 1))), (5, .int sq), (0, .ref a), (1, .int n0), (2, .int m0), (3, .int f), (4, .int jo)]) X.x X.b dX4_setSuper_61 hl (k := 0) rfl (nI_1 k) (by decide) rfl (fun ls hl => ?_)
            refine lv_goto (tgt := 14) X.x X.b dX4_setSuper_64 (by decide) ?_
            exact ih (k + 1) sq g1 (by omega) (by omega) (hG.trans (by rw [gg_4_setSuper_14]; rw [if_neg c20, if_pos c29, if_neg c36])) _ _ _ hr hz hlo (lv_sub hl [0, 1, 2, 3, 4, 5, 6] rfl)
          · refine lv_aload_n X.x X.b dX4_setSuper_39 rfl (lv_at hl 2 rfl) ?_
            refine h_callV X hr hz hlo (rest := []) (gc_4_spendWrite l D H0 a R nd g1 h0 n  hnd hRR  ) gput_o rfl yv_X4_spendWrite ml_X4_108 ⟨(Nat.le_of_ble_eq_true rfl), (Nat.le_of_ble_eq_true rfl)⟩ (Nat.le_of_ble_eq_true rfl) hl.1 ⟨(Nat.le_of_ble_eq_true rfl), (Nat.le_of_ble_eq_true rfl)⟩ rfl dX4_setSuper_40 (fun v9 h9 n9 H locs hp hr hz hlo => ?_)
            obtain ⟨rfl, rfl, rfl⟩ := hp
            show W p l e _ s m _ below meth c H locs _ _ _ (F0 m 43 ls [.int ((gf_4_spendWrite R nd g1).1)])
            refine lv_if_eq (tgt := 61) X.x X.b dX4_setSuper_43 (by decide) (fun c43 => ?_) (fun c43 => ?_)
            · refine lv_iinc (v := nI (k + 1)) (lv' := [(6, .int (nI (k + 1))), (5, .int sq), (0, .ref a), (1, .int n0), (2, .int m0), (3, .int f), (4, .int jo)]) X.x X.b dX4_setSuper_61 hl (k := 0) rfl (nI_1 k) (by decide) rfl (fun ls hl => ?_)
              refine lv_goto (tgt := 14) X.x X.b dX4_setSuper_64 (by decide) ?_
              exact ih (k + 1) sq ((gf_4_spendWrite R nd g1).2) (by omega) (by omega) (hG.trans (by rw [gg_4_setSuper_14]; rw [if_neg c20, if_pos c29, if_pos c36, if_pos c43])) _ _ _ hr hz hlo (lv_sub hl [0, 1, 2, 3, 4, 5, 6] rfl)
            · refine lv_aload_n X.x X.b dX4_setSuper_46 rfl (lv_at hl 2 rfl) ?_
              refine h_get X hr fd_X4_40 gput_o (v := .ref (a + 4)) rfl dX4_setSuper_47 ?_
              refine lv_iload X.x X.b dX4_setSuper_50 (lv_at hl 0 rfl) ?_
              refine h_aald X hr gput_k (vp_in_nI (by omega) (by omega)) (v := .ref (aD a k)) (by rw [nI_clamp (n := k) (by omega)]) dX4_setSuper_52 ?_
              refine lv_iload X.x X.b dX4_setSuper_53 (lv_at hl 1 rfl) ?_
              refine lv_iload_n X.x X.b dX4_setSuper_55 rfl (lv_at hl 3 rfl) ?_
              refine lv_iload_n X.x X.b dX4_setSuper_56 rfl (lv_at hl 4 rfl) ?_
              refine lv_iload_n X.x X.b dX4_setSuper_57 rfl (lv_at hl 5 rfl) ?_
              refine h_callV X hr hz hlo (rest := []) (gc_1_takeSuper_d l D H0 a R nd ((gf_4_spendWrite R nd g1).2) h0 n k sq n0 m0 f hnd hRR (show k < 10 by omega) ) (gput_aD (show k < 10 by omega)) rfl yv_X1_takeSuper ml_X4_266 ⟨(Nat.le_of_ble_eq_true rfl), (Nat.le_of_ble_eq_true rfl)⟩ (Nat.le_of_ble_eq_true rfl) hl.1 ⟨(Nat.le_of_ble_eq_true rfl), (Nat.le_of_ble_eq_true rfl)⟩ rfl dX4_setSuper_58 (fun v9 h9 n9 H locs hp hr hz hlo => ?_)
              obtain ⟨rfl, rfl, rfl⟩ := hp
              show W p l e _ s m _ below meth c H locs _ _ _ (F0 m 61 ls [])
              refine lv_iinc (v := nI (k + 1)) (lv' := [(6, .int (nI (k + 1))), (5, .int sq), (0, .ref a), (1, .int n0), (2, .int m0), (3, .int f), (4, .int jo)]) X.x X.b dX4_setSuper_61 hl (k := 0) rfl (nI_1 k) (by decide) rfl (fun ls hl => ?_)
              refine lv_goto (tgt := 14) X.x X.b dX4_setSuper_64 (by decide) ?_
              exact ih (k + 1) sq (gf_1_takeSuper_d R nd ((gf_4_spendWrite R nd g1).2) k sq n0 m0 f) (by omega) (by omega) (hG.trans (by rw [gg_4_setSuper_14]; rw [if_neg c20, if_pos c29, if_pos c36, if_neg c43])) _ _ _ hr hz hlo (lv_sub hl [0, 1, 2, 3, 4, 5, 6] rfl)
  refine lv_aload_n X.x X.b dX4_setSuper_0 rfl (lv_at hl 0 rfl) ?_
  refine h_get X hr fd_X4_19 gput_o (v := .ref (a + 1)) rfl dX4_setSuper_1 ?_
  refine h_get X hr fd_X4_81 gput_h (v := .int (g.1 8)) rfl dX4_setSuper_4 ?_
  refine lv_iconst (v := 1) X.x X.b dX4_setSuper_7 (by decide) ?_
  refine lv_iadd X.x X.b dX4_setSuper_8 ?_
  refine lv_istore (lv' := [(5, .int ((g.1 8) + 1)), (0, .ref a), (1, .int n0), (2, .int m0), (3, .int f), (4, .int jo)]) X.x X.b dX4_setSuper_9 hl (by decide) rfl (fun ls hl => ?_)
  refine lv_iconst (v := 0) X.x X.b dX4_setSuper_11 (by decide) ?_
  refine lv_istore (lv' := [(6, .int 0), (5, .int ((g.1 8) + 1)), (0, .ref a), (1, .int n0), (2, .int m0), (3, .int f), (4, .int jo)]) X.x X.b dX4_setSuper_12 hl (by decide) rfl (fun ls hl => ?_)
  have hl : lv_has ls 7 [(6, .int (nI 0)), (5, .int ((g.1 8) + 1)), (0, .ref a), (1, .int n0), (2, .int m0), (3, .int f), (4, .int jo)] := by rw [nI_0]; exact hl
  exact loop14 (nd + 1) 0 ((g.1 8) + 1) g (by omega) (by omega) (id (by unfold gf_4_setSuper; rfl)) _ _ _ hr hz hlo (lv_sub hl [0, 1, 2, 3, 4, 5, 6] rfl)

def gg_4_carryOutOrder_4 (R nd : Nat)  : Nat → Nat → Int32 → GS → GS
  | 0, _, _, g1 => g1
  | j + 1, k, told, g1 =>
    if (nI nd) ≤ (nI k) then
      gf_4_writeBlock R nd (gf_4_writeBlock R nd g1 (g1.1 15) (g1.1 14) (g1.2.2 0 0 0)) ((gf_4_writeBlock R nd g1 (g1.1 15) (g1.1 14) (g1.2.2 0 0 0)).1 16) ((gf_4_writeBlock R nd g1 (g1.1 15) (g1.1 14) (g1.2.2 0 0 0)).1 14) ((gf_4_writeBlock R nd g1 (g1.1 15) (g1.1 14) (g1.2.2 0 0 0)).2.2 0 0 1)
    else
      if 2 ≤ told then
        gf_4_writeBlock R nd (gf_4_writeBlock R nd g1 (g1.1 15) (g1.1 14) (g1.2.2 0 0 0)) ((gf_4_writeBlock R nd g1 (g1.1 15) (g1.1 14) (g1.2.2 0 0 0)).1 16) ((gf_4_writeBlock R nd g1 (g1.1 15) (g1.1 14) (g1.2.2 0 0 0)).1 14) ((gf_4_writeBlock R nd g1 (g1.1 15) (g1.1 14) (g1.2.2 0 0 0)).2.2 0 0 1)
      else
        if (gf_4_isLive R nd g1 (nI k)) = 0 then
          gg_4_carryOutOrder_4 R nd  j (k + 1) told g1
        else
          if ((gf_4_spendWrite R nd g1).1) = 0 then
            gg_4_carryOutOrder_4 R nd  j (k + 1) (told + 1) ((gf_4_spendWrite R nd g1).2)
          else
            gg_4_carryOutOrder_4 R nd  j (k + 1) (told + 1) (gf_1_takeJournal_d_r R nd ((gf_4_spendWrite R nd g1).2) k)
def gf_4_carryOutOrder (R nd : Nat) (g : GS)  : GS :=
  gg_4_carryOutOrder_4 R nd  (nd + 1) 0 0 g
set_option maxRecDepth 20000 in
set_option maxHeartbeats 4000000 in
theorem gc_4_carryOutOrder (l : Launch) (D : hD) (H0 : Heap) (a R nd : Nat) (g : GS) (h0 : hH) (n : Nat)  (hnd : nd ≤ 10) (hRR : R ≤ 48)  : cM l D H0 yX4_carryOutOrder cX4_carryOutOrder 3 none 3 67 0 0 [.ref a] (gput a R nd g h0) n (cE none (gput a R nd (gf_4_carryOutOrder R nd g) h0) n) := by
  refine h_met (by decide) (Nat.le_of_ble_eq_true rfl) ?_
  intro p e s m below meth c H ls X hnm hr hz hl
  have hl : lv_has ls 3 [(0, .ref a)] := hl
  have hlo : hL H0 ([] : List Loc) := hL.nil
  have loop4 : ∀ (j k : Nat) (told : Int32) (g1 : GS) (hk : k ≤ nd) (hj : nd < k + j) (hG : gf_4_carryOutOrder R nd g = gg_4_carryOutOrder_4 R nd  j k told g1) (H : Heap) (locs : List Loc) (ls : Array Slot), hR D H0 (gput a R nd g1 h0) H → H.size = n → hL H0 locs → lv_has ls 3 [(2, .int (nI k)), (1, .int told), (0, .ref a)] → W p l e (rmk 3 67 0 0) s m ([.ref a] : List Value).toArray below meth c H locs 0 0 (MQ below (cQ D H0 (cE none (gput a R nd (gf_4_carryOutOrder R nd g) h0) n)) ([.ref a] : List Value).toArray s 0 0 (hF H0)) (F0 m 4 ls []) := by
    intro j
    induction j with
    | zero => intro k told g1 hk hj; omega
    | succ j ih =>
      intro k told g1 hk hj hG H locs ls hr hz hlo hl
      refine lv_iload_n X.x X.b dX4_carryOutOrder_4 rfl (lv_at hl 0 rfl) ?_
      refine lv_aload_n X.x X.b dX4_carryOutOrder_5 rfl (lv_at hl 2 rfl) ?_
      refine h_get X hr fd_X4_7 gput_o (v := .int (nI nd)) rfl dX4_carryOutOrder_6 ?_
      refine lv_icmp_ge (tgt := 54) X.x X.b dX4_carryOutOrder_9 (by decide) (fun c9 => ?_) (fun c9 => ?_)
      · refine lv_aload_n X.x X.b dX4_carryOutOrder_54 rfl (lv_at hl 2 rfl) ?_
        refine lv_aload_n X.x X.b dX4_carryOutOrder_55 rfl (lv_at hl 2 rfl) ?_
        refine h_get X hr fd_X4_30 gput_o (v := .ref (a + 2)) rfl dX4_carryOutOrder_56 ?_
        refine h_get X hr fd_X4_272 gput_r (v := .int (g1.1 15)) rfl dX4_carryOutOrder_59 ?_
        refine lv_aload_n X.x X.b dX4_carryOutOrder_62 rfl (lv_at hl 2 rfl) ?_
        refine h_get X hr fd_X4_30 gput_o (v := .ref (a + 2)) rfl dX4_carryOutOrder_63 ?_
        refine h_get X hr fd_X4_275 gput_r (v := .int (g1.1 14)) rfl dX4_carryOutOrder_66 ?_
        refine lv_aload_n X.x X.b dX4_carryOutOrder_69 rfl (lv_at hl 2 rfl) ?_
        refine h_get X hr fd_X4_30 gput_o (v := .ref (a + 2)) rfl dX4_carryOutOrder_70 ?_
        refine h_get X hr fd_X4_90 gput_r (v := .long (g1.2.2 0 0 0)) rfl dX4_carryOutOrder_73 ?_
        refine h_callV X hr hz hlo (rest := []) (gc_4_writeBlock l D H0 a R nd g1 h0 n (g1.1 15) (g1.1 14) (g1.2.2 0 0 0) hnd hRR  ) gput_o rfl yv_X4_writeBlock ml_X4_278 ⟨(Nat.le_of_ble_eq_true rfl), (Nat.le_of_ble_eq_true rfl)⟩ (Nat.le_of_ble_eq_true rfl) hl.1 ⟨(Nat.le_of_ble_eq_true rfl), (Nat.le_of_ble_eq_true rfl)⟩ rfl dX4_carryOutOrder_76 (fun v9 h9 n9 H locs hp hr hz hlo => ?_)
        obtain ⟨rfl, rfl, rfl⟩ := hp
        show W p l e _ s m _ below meth c H locs _ _ _ (F0 m 79 ls [])
        refine lv_aload_n X.x X.b dX4_carryOutOrder_79 rfl (lv_at hl 2 rfl) ?_
        refine lv_aload_n X.x X.b dX4_carryOutOrder_80 rfl (lv_at hl 2 rfl) ?_
        refine h_get X hr fd_X4_30 gput_o (v := .ref (a + 2)) rfl dX4_carryOutOrder_81 ?_
        refine h_get X hr fd_X4_282 gput_r (v := .int ((gf_4_writeBlock R nd g1 (g1.1 15) (g1.1 14) (g1.2.2 0 0 0)).1 16)) rfl dX4_carryOutOrder_84 ?_
        refine lv_aload_n X.x X.b dX4_carryOutOrder_87 rfl (lv_at hl 2 rfl) ?_
        refine h_get X hr fd_X4_30 gput_o (v := .ref (a + 2)) rfl dX4_carryOutOrder_88 ?_
        refine h_get X hr fd_X4_275 gput_r (v := .int ((gf_4_writeBlock R nd g1 (g1.1 15) (g1.1 14) (g1.2.2 0 0 0)).1 14)) rfl dX4_carryOutOrder_91 ?_
        refine lv_aload_n X.x X.b dX4_carryOutOrder_94 rfl (lv_at hl 2 rfl) ?_
        refine h_get X hr fd_X4_30 gput_o (v := .ref (a + 2)) rfl dX4_carryOutOrder_95 ?_
        refine h_get X hr fd_X4_98 gput_r (v := .long ((gf_4_writeBlock R nd g1 (g1.1 15) (g1.1 14) (g1.2.2 0 0 0)).2.2 0 0 1)) rfl dX4_carryOutOrder_98 ?_
        refine h_callV X hr hz hlo (rest := []) (gc_4_writeBlock l D H0 a R nd (gf_4_writeBlock R nd g1 (g1.1 15) (g1.1 14) (g1.2.2 0 0 0)) h0 n ((gf_4_writeBlock R nd g1 (g1.1 15) (g1.1 14) (g1.2.2 0 0 0)).1 16) ((gf_4_writeBlock R nd g1 (g1.1 15) (g1.1 14) (g1.2.2 0 0 0)).1 14) ((gf_4_writeBlock R nd g1 (g1.1 15) (g1.1 14) (g1.2.2 0 0 0)).2.2 0 0 1) hnd hRR  ) gput_o rfl yv_X4_writeBlock ml_X4_278 ⟨(Nat.le_of_ble_eq_true rfl), (Nat.le_of_ble_eq_true rfl)⟩ (Nat.le_of_ble_eq_true rfl) hl.1 ⟨(Nat.le_of_ble_eq_true rfl), (Nat.le_of_ble_eq_true rfl)⟩ rfl dX4_carryOutOrder_101 (fun v9 h9 n9 H locs hp hr hz hlo => ?_)
        obtain ⟨rfl, rfl, rfl⟩ := hp
        show W p l e _ s m _ below meth c H locs _ _ _ (F0 m 104 ls [])
        exact h_vret X hr hz hlo (glfv (hG.trans (by rw [gg_4_carryOutOrder_4]; rw [if_pos c9]))) (Nat.le_of_ble_eq_true rfl) (Nat.le_of_ble_eq_true rfl) dX4_carryOutOrder_104
      · have hk9 : k < nd := nd_lt c9 (by omega)
        refine lv_iload_n X.x X.b dX4_carryOutOrder_12 rfl (lv_at hl 1 rfl) ?_
        refine lv_iconst (v := 2) X.x X.b dX4_carryOutOrder_13 (by decide) ?_
        refine lv_icmp_ge (tgt := 54) X.x X.b dX4_carryOutOrder_14 (by decide) (fun c14 => ?_) (fun c14 => ?_)
        · refine lv_aload_n X.x X.b dX4_carryOutOrder_54 rfl (lv_at hl 2 rfl) ?_
          refine lv_aload_n X.x X.b dX4_carryOutOrder_55 rfl (lv_at hl 2 rfl) ?_
          refine h_get X hr fd_X4_30 gput_o (v := .ref (a + 2)) rfl dX4_carryOutOrder_56 ?_
          refine h_get X hr fd_X4_272 gput_r (v := .int (g1.1 15)) rfl dX4_carryOutOrder_59 ?_
          refine lv_aload_n X.x X.b dX4_carryOutOrder_62 rfl (lv_at hl 2 rfl) ?_
          refine h_get X hr fd_X4_30 gput_o (v := .ref (a + 2)) rfl dX4_carryOutOrder_63 ?_
          refine h_get X hr fd_X4_275 gput_r (v := .int (g1.1 14)) rfl dX4_carryOutOrder_66 ?_
          refine lv_aload_n X.x X.b dX4_carryOutOrder_69 rfl (lv_at hl 2 rfl) ?_
          refine h_get X hr fd_X4_30 gput_o (v := .ref (a + 2)) rfl dX4_carryOutOrder_70 ?_
          refine h_get X hr fd_X4_90 gput_r (v := .long (g1.2.2 0 0 0)) rfl dX4_carryOutOrder_73 ?_
          refine h_callV X hr hz hlo (rest := []) (gc_4_writeBlock l D H0 a R nd g1 h0 n (g1.1 15) (g1.1 14) (g1.2.2 0 0 0) hnd hRR  ) gput_o rfl yv_X4_writeBlock ml_X4_278 ⟨(Nat.le_of_ble_eq_true rfl), (Nat.le_of_ble_eq_true rfl)⟩ (Nat.le_of_ble_eq_true rfl) hl.1 ⟨(Nat.le_of_ble_eq_true rfl), (Nat.le_of_ble_eq_true rfl)⟩ rfl dX4_carryOutOrder_76 (fun v9 h9 n9 H locs hp hr hz hlo => ?_)
          obtain ⟨rfl, rfl, rfl⟩ := hp
          show W p l e _ s m _ below meth c H locs _ _ _ (F0 m 79 ls [])
          refine lv_aload_n X.x X.b dX4_carryOutOrder_79 rfl (lv_at hl 2 rfl) ?_
          refine lv_aload_n X.x X.b dX4_carryOutOrder_80 rfl (lv_at hl 2 rfl) ?_
          refine h_get X hr fd_X4_30 gput_o (v := .ref (a + 2)) rfl dX4_carryOutOrder_81 ?_
          refine h_get X hr fd_X4_282 gput_r (v := .int ((gf_4_writeBlock R nd g1 (g1.1 15) (g1.1 14) (g1.2.2 0 0 0)).1 16)) rfl dX4_carryOutOrder_84 ?_
          refine lv_aload_n X.x X.b dX4_carryOutOrder_87 rfl (lv_at hl 2 rfl) ?_
          refine h_get X hr fd_X4_30 gput_o (v := .ref (a + 2)) rfl dX4_carryOutOrder_88 ?_
          refine h_get X hr fd_X4_275 gput_r (v := .int ((gf_4_writeBlock R nd g1 (g1.1 15) (g1.1 14) (g1.2.2 0 0 0)).1 14)) rfl dX4_carryOutOrder_91 ?_
          refine lv_aload_n X.x X.b dX4_carryOutOrder_94 rfl (lv_at hl 2 rfl) ?_
          refine h_get X hr fd_X4_30 gput_o (v := .ref (a + 2)) rfl dX4_carryOutOrder_95 ?_
          refine h_get X hr fd_X4_98 gput_r (v := .long ((gf_4_writeBlock R nd g1 (g1.1 15) (g1.1 14) (g1.2.2 0 0 0)).2.2 0 0 1)) rfl dX4_carryOutOrder_98 ?_
          refine h_callV X hr hz hlo (rest := []) (gc_4_writeBlock l D H0 a R nd (gf_4_writeBlock R nd g1 (g1.1 15) (g1.1 14) (g1.2.2 0 0 0)) h0 n ((gf_4_writeBlock R nd g1 (g1.1 15) (g1.1 14) (g1.2.2 0 0 0)).1 16) ((gf_4_writeBlock R nd g1 (g1.1 15) (g1.1 14) (g1.2.2 0 0 0)).1 14) ((gf_4_writeBlock R nd g1 (g1.1 15) (g1.1 14) (g1.2.2 0 0 0)).2.2 0 0 1) hnd hRR  ) gput_o rfl yv_X4_writeBlock ml_X4_278 ⟨(Nat.le_of_ble_eq_true rfl), (Nat.le_of_ble_eq_true rfl)⟩ (Nat.le_of_ble_eq_true rfl) hl.1 ⟨(Nat.le_of_ble_eq_true rfl), (Nat.le_of_ble_eq_true rfl)⟩ rfl dX4_carryOutOrder_101 (fun v9 h9 n9 H locs hp hr hz hlo => ?_)
          obtain ⟨rfl, rfl, rfl⟩ := hp
          show W p l e _ s m _ below meth c H locs _ _ _ (F0 m 104 ls [])
          exact h_vret X hr hz hlo (glfv (hG.trans (by rw [gg_4_carryOutOrder_4]; rw [if_neg c9, if_pos c14]))) (Nat.le_of_ble_eq_true rfl) (Nat.le_of_ble_eq_true rfl) dX4_carryOutOrder_104
        · refine lv_aload_n X.x X.b dX4_carryOutOrder_17 rfl (lv_at hl 2 rfl) ?_
          refine lv_iload_n X.x X.b dX4_carryOutOrder_18 rfl (lv_at hl 0 rfl) ?_
          refine h_callV X hr hz hlo (rest := []) (gc_4_isLive l D H0 a R nd g1 h0 n (nI k) hnd hRR  ) gput_o rfl yv_X4_isLive ml_X4_257 ⟨(Nat.le_of_ble_eq_true rfl), (Nat.le_of_ble_eq_true rfl)⟩ (Nat.le_of_ble_eq_true rfl) hl.1 ⟨(Nat.le_of_ble_eq_true rfl), (Nat.le_of_ble_eq_true rfl)⟩ rfl dX4_carryOutOrder_19 (fun v9 h9 n9 H locs hp hr hz hlo => ?_)
          obtain ⟨rfl, rfl, rfl⟩ := hp
          show W p l e _ s m _ below meth c H locs _ _ _ (F0 m 22 ls [.int (gf_4_isLive R nd g1 (nI k))])
          refine lv_if_eq (tgt := 48) X.x X.b dX4_carryOutOrder_22 (by decide) (fun c22 => ?_) (fun c22 => ?_)
          · refine lv_iinc (v := nI (k + 1)) (lv' := [(2, .int (nI (k + 1))), (1, .int told), (0, .ref a)]) X.x X.b dX4_carryOutOrder_48 hl (k := 0) rfl (nI_1 k) (by decide) rfl (fun ls hl => ?_)
            refine lv_goto (tgt := 4) X.x X.b dX4_carryOutOrder_51 (by decide) ?_
            exact ih (k + 1) told g1 (by omega) (by omega) (hG.trans (by rw [gg_4_carryOutOrder_4]; rw [if_neg c9, if_neg c14, if_pos c22])) _ _ _ hr hz hlo (lv_sub hl [0, 1, 2] rfl)
          · refine lv_iinc (v := told + 1) (lv' := [(1, .int (told + 1)), (2, .int (nI k)), (0, .ref a)]) X.x X.b dX4_carryOutOrder_25 hl (k := 1) rfl rfl (by decide) rfl (fun ls hl => ?_)
            refine lv_aload_n X.x X.b dX4_carryOutOrder_28 rfl (lv_at hl 2 rfl) ?_
            refine h_callV X hr hz hlo (rest := []) (gc_4_spendWrite l D H0 a R nd g1 h0 n  hnd hRR  ) gput_o rfl yv_X4_spendWrite ml_X4_108 ⟨(Nat.le_of_ble_eq_true rfl), (Nat.le_of_ble_eq_true rfl)⟩ (Nat.le_of_ble_eq_true rfl) hl.1 ⟨(Nat.le_of_ble_eq_true rfl), (Nat.le_of_ble_eq_true rfl)⟩ rfl dX4_carryOutOrder_29 (fun v9 h9 n9 H locs hp hr hz hlo => ?_)
            obtain ⟨rfl, rfl, rfl⟩ := hp
            show W p l e _ s m _ below meth c H locs _ _ _ (F0 m 32 ls [.int ((gf_4_spendWrite R nd g1).1)])
            refine lv_if_eq (tgt := 48) X.x X.b dX4_carryOutOrder_32 (by decide) (fun c32 => ?_) (fun c32 => ?_)
            · refine lv_iinc (v := nI (k + 1)) (lv' := [(2, .int (nI (k + 1))), (1, .int (told + 1)), (0, .ref a)]) X.x X.b dX4_carryOutOrder_48 hl (k := 1) rfl (nI_1 k) (by decide) rfl (fun ls hl => ?_)
              refine lv_goto (tgt := 4) X.x X.b dX4_carryOutOrder_51 (by decide) ?_
              exact ih (k + 1) (told + 1) ((gf_4_spendWrite R nd g1).2) (by omega) (by omega) (hG.trans (by rw [gg_4_carryOutOrder_4]; rw [if_neg c9, if_neg c14, if_neg c22, if_pos c32])) _ _ _ hr hz hlo (lv_sub hl [0, 1, 2] rfl)
            · refine lv_aload_n X.x X.b dX4_carryOutOrder_35 rfl (lv_at hl 2 rfl) ?_
              refine h_get X hr fd_X4_40 gput_o (v := .ref (a + 4)) rfl dX4_carryOutOrder_36 ?_
              refine lv_iload_n X.x X.b dX4_carryOutOrder_39 rfl (lv_at hl 1 rfl) ?_
              refine h_aald X hr gput_k (vp_in_nI (by omega) (by omega)) (v := .ref (aD a k)) (by rw [nI_clamp (n := k) (by omega)]) dX4_carryOutOrder_40 ?_
              refine lv_aload_n X.x X.b dX4_carryOutOrder_41 rfl (lv_at hl 2 rfl) ?_
              refine h_get X hr fd_X4_30 gput_o (v := .ref (a + 2)) rfl dX4_carryOutOrder_42 ?_
              refine h_callV X hr hz hlo (rest := []) (gc_1_takeJournal_d_r l D H0 a R nd ((gf_4_spendWrite R nd g1).2) h0 n k hnd hRR (show k < 10 by omega) ) (gput_aD (show k < 10 by omega)) rfl yv_X1_takeJournal ml_X4_268 ⟨(Nat.le_of_ble_eq_true rfl), (Nat.le_of_ble_eq_true rfl)⟩ (Nat.le_of_ble_eq_true rfl) hl.1 ⟨(Nat.le_of_ble_eq_true rfl), (Nat.le_of_ble_eq_true rfl)⟩ rfl dX4_carryOutOrder_45 (fun v9 h9 n9 H locs hp hr hz hlo => ?_)
              obtain ⟨rfl, rfl, rfl⟩ := hp
              show W p l e _ s m _ below meth c H locs _ _ _ (F0 m 48 ls [])
              refine lv_iinc (v := nI (k + 1)) (lv' := [(2, .int (nI (k + 1))), (1, .int (told + 1)), (0, .ref a)]) X.x X.b dX4_carryOutOrder_48 hl (k := 1) rfl (nI_1 k) (by decide) rfl (fun ls hl => ?_)
              refine lv_goto (tgt := 4) X.x X.b dX4_carryOutOrder_51 (by decide) ?_
              exact ih (k + 1) (told + 1) (gf_1_takeJournal_d_r R nd ((gf_4_spendWrite R nd g1).2) k) (by omega) (by omega) (hG.trans (by rw [gg_4_carryOutOrder_4]; rw [if_neg c9, if_neg c14, if_neg c22, if_neg c32])) _ _ _ hr hz hlo (lv_sub hl [0, 1, 2] rfl)
  refine lv_iconst (v := 0) X.x X.b dX4_carryOutOrder_0 (by decide) ?_
  refine lv_istore_n (lv' := [(1, .int 0), (0, .ref a)]) X.x X.b dX4_carryOutOrder_1 rfl hl (by decide) rfl (fun ls hl => ?_)
  refine lv_iconst (v := 0) X.x X.b dX4_carryOutOrder_2 (by decide) ?_
  refine lv_istore_n (lv' := [(2, .int 0), (1, .int 0), (0, .ref a)]) X.x X.b dX4_carryOutOrder_3 rfl hl (by decide) rfl (fun ls hl => ?_)
  have hl : lv_has ls 3 [(2, .int (nI 0)), (1, .int 0), (0, .ref a)] := by rw [nI_0]; exact hl
  exact loop4 (nd + 1) 0 0 g (by omega) (by omega) (id (by unfold gf_4_carryOutOrder; rfl)) _ _ _ hr hz hlo (lv_sub hl [0, 1, 2] rfl)

def gg_4_gatherRowValues_20 (R nd : Nat)  : Nat → Nat → Int32 → GS → GS
  | 0, _, _, g1 => g1
  | j + 1, k, fs0, g1 =>
    if ((g1.1 10) - 1) ≤ (nI k) then
      g1
    else
      if (nI 10) ≤ (nI k) then
        g1
      else
        if (gf_4_isPlace R nd g1 (fs0 + (nI k))) = 0 then
          gg_4_gatherRowValues_20 R nd  j (k + 1) fs0 (gli g1 1 0 k 0)
        else
          gg_4_gatherRowValues_20 R nd  j (k + 1) fs0 (gli g1 1 0 k (gf_4_valueOf R nd g1 (fs0 + (nI k))))
def gf_4_gatherRowValues (R nd : Nat) (g : GS)  : GS :=
  gg_4_gatherRowValues_20 R nd  11 0 ((g.1 11) * ((g.1 10) - 1)) g
set_option maxRecDepth 20000 in
set_option maxHeartbeats 4000000 in
theorem gc_4_gatherRowValues (l : Launch) (D : hD) (H0 : Heap) (a R nd : Nat) (g : GS) (h0 : hH) (n : Nat)  (hnd : nd ≤ 10) (hRR : R ≤ 48)  : cM l D H0 yX4_gatherRowValues cX4_gatherRowValues 3 none 4 92 0 0 [.ref a] (gput a R nd g h0) n (cE none (gput a R nd (gf_4_gatherRowValues R nd g) h0) n) := by
  refine h_met (by decide) (Nat.le_of_ble_eq_true rfl) ?_
  intro p e s m below meth c H ls X hnm hr hz hl
  have hl : lv_has ls 3 [(0, .ref a)] := hl
  have hlo : hL H0 ([] : List Loc) := hL.nil
  have loop20 : ∀ (j k : Nat) (fs0 : Int32) (g1 : GS) (hk : k ≤ 10) (hj : 10 < k + j) (hG : gf_4_gatherRowValues R nd g = gg_4_gatherRowValues_20 R nd  j k fs0 g1) (H : Heap) (locs : List Loc) (ls : Array Slot), hR D H0 (gput a R nd g1 h0) H → H.size = n → hL H0 locs → lv_has ls 3 [(2, .int (nI k)), (1, .int fs0), (0, .ref a)] → W p l e (rmk 4 92 0 0) s m ([.ref a] : List Value).toArray below meth c H locs 0 0 (MQ below (cQ D H0 (cE none (gput a R nd (gf_4_gatherRowValues R nd g) h0) n)) ([.ref a] : List Value).toArray s 0 0 (hF H0)) (F0 m 20 ls []) := by
    intro j
    induction j with
    | zero => intro k fs0 g1 hk hj; omega
    | succ j ih =>
      intro k fs0 g1 hk hj hG H locs ls hr hz hlo hl
      refine lv_iload_n X.x X.b dX4_gatherRowValues_20 rfl (lv_at hl 0 rfl) ?_
      refine lv_aload_n X.x X.b dX4_gatherRowValues_21 rfl (lv_at hl 2 rfl) ?_
      refine h_get X hr fd_X4_19 gput_o (v := .ref (a + 1)) rfl dX4_gatherRowValues_22 ?_
      refine h_get X hr fd_X4_115 gput_h (v := .int (g1.1 10)) rfl dX4_gatherRowValues_25 ?_
      refine lv_iconst (v := 1) X.x X.b dX4_gatherRowValues_28 (by decide) ?_
      refine lv_isub X.x X.b dX4_gatherRowValues_29 ?_
      refine lv_icmp_ge (tgt := 75) X.x X.b dX4_gatherRowValues_30 (by decide) (fun c30 => ?_) (fun c30 => ?_)
      · exact h_vret X hr hz hlo (glfv (hG.trans (by rw [gg_4_gatherRowValues_20]; rw [if_pos c30]))) (Nat.le_of_ble_eq_true rfl) (Nat.le_of_ble_eq_true rfl) dX4_gatherRowValues_75
      · refine lv_iload_n X.x X.b dX4_gatherRowValues_33 rfl (lv_at hl 0 rfl) ?_
        refine lv_aload_n X.x X.b dX4_gatherRowValues_34 rfl (lv_at hl 2 rfl) ?_
        refine h_get X hr fd_X4_34 gput_o (v := .ref (a + 3)) rfl dX4_gatherRowValues_35 ?_
        refine h_alen X hr (by decide) gput_v dX4_gatherRowValues_38 ?_
        refine lv_icmp_ge (tgt := 75) X.x X.b dX4_gatherRowValues_39 (by decide) (fun c39 => ?_) (fun c39 => ?_)
        · exact h_vret X hr hz hlo (glfv (hG.trans (by rw [gg_4_gatherRowValues_20]; rw [if_neg c30, if_pos c39]))) (Nat.le_of_ble_eq_true rfl) (Nat.le_of_ble_eq_true rfl) dX4_gatherRowValues_75
        · have hk9 : k < 10 := nd_lt c39 (by omega)
          refine lv_aload_n X.x X.b dX4_gatherRowValues_42 rfl (lv_at hl 2 rfl) ?_
          refine h_get X hr fd_X4_34 gput_o (v := .ref (a + 3)) rfl dX4_gatherRowValues_43 ?_
          refine lv_iload_n X.x X.b dX4_gatherRowValues_46 rfl (lv_at hl 0 rfl) ?_
          refine lv_aload_n X.x X.b dX4_gatherRowValues_47 rfl (lv_at hl 2 rfl) ?_
          refine lv_iload_n X.x X.b dX4_gatherRowValues_48 rfl (lv_at hl 1 rfl) ?_
          refine lv_iload_n X.x X.b dX4_gatherRowValues_49 rfl (lv_at hl 0 rfl) ?_
          refine lv_iadd X.x X.b dX4_gatherRowValues_50 ?_
          refine h_callV X hr hz hlo (rest := [.int (nI k), .ref (a + 3)]) (gc_4_isPlace l D H0 a R nd g1 h0 n (fs0 + (nI k)) hnd hRR  ) gput_o rfl yv_X4_isPlace ml_X4_185 ⟨(Nat.le_of_ble_eq_true rfl), (Nat.le_of_ble_eq_true rfl)⟩ (Nat.le_of_ble_eq_true rfl) hl.1 ⟨(Nat.le_of_ble_eq_true rfl), (Nat.le_of_ble_eq_true rfl)⟩ rfl dX4_gatherRowValues_51 (fun v9 h9 n9 H locs hp hr hz hlo => ?_)
          obtain ⟨rfl, rfl, rfl⟩ := hp
          show W p l e _ s m _ below meth c H locs _ _ _ (F0 m 54 ls [.int (gf_4_isPlace R nd g1 (fs0 + (nI k))), .int (nI k), .ref (a + 3)])
          refine lv_if_eq (tgt := 67) X.x X.b dX4_gatherRowValues_54 (by decide) (fun c54 => ?_) (fun c54 => ?_)
          · refine lv_lconst (v := 0) X.x X.b dX4_gatherRowValues_67 (by decide) ?_
            refine h_last X hr hz hlo gput_v (vp_in_nI (by omega) (by omega)) dX4_gatherRowValues_68 (fun H locs hr hz hlo => ?_)
            rw [nI_clamp (n := k) (by omega), gput_av] at hr
            refine lv_iinc (v := nI (k + 1)) (lv' := [(2, .int (nI (k + 1))), (1, .int fs0), (0, .ref a)]) X.x X.b dX4_gatherRowValues_69 hl (k := 0) rfl (nI_1 k) (by decide) rfl (fun ls hl => ?_)
            refine lv_goto (tgt := 20) X.x X.b dX4_gatherRowValues_72 (by decide) ?_
            exact ih (k + 1) fs0 (gli g1 1 0 k 0) (by omega) (by omega) (hG.trans (by rw [gg_4_gatherRowValues_20]; rw [if_neg c30, if_neg c39, if_pos c54])) _ _ _ hr hz hlo (lv_sub hl [0, 1, 2] rfl)
          · refine lv_aload_n X.x X.b dX4_gatherRowValues_57 rfl (lv_at hl 2 rfl) ?_
            refine lv_iload_n X.x X.b dX4_gatherRowValues_58 rfl (lv_at hl 1 rfl) ?_
            refine lv_iload_n X.x X.b dX4_gatherRowValues_59 rfl (lv_at hl 0 rfl) ?_
            refine lv_iadd X.x X.b dX4_gatherRowValues_60 ?_
            refine h_callV X hr hz hlo (rest := [.int (nI k), .ref (a + 3)]) (gc_4_valueOf l D H0 a R nd g1 h0 n (fs0 + (nI k)) hnd hRR  ) gput_o rfl yv_X4_valueOf ml_X4_104 ⟨(Nat.le_of_ble_eq_true rfl), (Nat.le_of_ble_eq_true rfl)⟩ (Nat.le_of_ble_eq_true rfl) hl.1 ⟨(Nat.le_of_ble_eq_true rfl), (Nat.le_of_ble_eq_true rfl)⟩ rfl dX4_gatherRowValues_61 (fun v9 h9 n9 H locs hp hr hz hlo => ?_)
            obtain ⟨rfl, rfl, rfl⟩ := hp
            show W p l e _ s m _ below meth c H locs _ _ _ (F0 m 64 ls [.long (gf_4_valueOf R nd g1 (fs0 + (nI k))), .int (nI k), .ref (a + 3)])
            refine lv_goto (tgt := 68) X.x X.b dX4_gatherRowValues_64 (by decide) ?_
            refine h_last X hr hz hlo gput_v (vp_in_nI (by omega) (by omega)) dX4_gatherRowValues_68 (fun H locs hr hz hlo => ?_)
            rw [nI_clamp (n := k) (by omega), gput_av] at hr
            refine lv_iinc (v := nI (k + 1)) (lv' := [(2, .int (nI (k + 1))), (1, .int fs0), (0, .ref a)]) X.x X.b dX4_gatherRowValues_69 hl (k := 0) rfl (nI_1 k) (by decide) rfl (fun ls hl => ?_)
            refine lv_goto (tgt := 20) X.x X.b dX4_gatherRowValues_72 (by decide) ?_
            exact ih (k + 1) fs0 (gli g1 1 0 k (gf_4_valueOf R nd g1 (fs0 + (nI k)))) (by omega) (by omega) (hG.trans (by rw [gg_4_gatherRowValues_20]; rw [if_neg c30, if_neg c39, if_neg c54])) _ _ _ hr hz hlo (lv_sub hl [0, 1, 2] rfl)
  refine lv_aload_n X.x X.b dX4_gatherRowValues_0 rfl (lv_at hl 0 rfl) ?_
  refine h_get X hr fd_X4_19 gput_o (v := .ref (a + 1)) rfl dX4_gatherRowValues_1 ?_
  refine h_get X hr fd_X4_170 gput_h (v := .int (g.1 11)) rfl dX4_gatherRowValues_4 ?_
  refine lv_aload_n X.x X.b dX4_gatherRowValues_7 rfl (lv_at hl 0 rfl) ?_
  refine h_get X hr fd_X4_19 gput_o (v := .ref (a + 1)) rfl dX4_gatherRowValues_8 ?_
  refine h_get X hr fd_X4_115 gput_h (v := .int (g.1 10)) rfl dX4_gatherRowValues_11 ?_
  refine lv_iconst (v := 1) X.x X.b dX4_gatherRowValues_14 (by decide) ?_
  refine lv_isub X.x X.b dX4_gatherRowValues_15 ?_
  refine lv_imul X.x X.b dX4_gatherRowValues_16 ?_
  refine lv_istore_n (lv' := [(1, .int ((g.1 11) * ((g.1 10) - 1))), (0, .ref a)]) X.x X.b dX4_gatherRowValues_17 rfl hl (by decide) rfl (fun ls hl => ?_)
  refine lv_iconst (v := 0) X.x X.b dX4_gatherRowValues_18 (by decide) ?_
  refine lv_istore_n (lv' := [(2, .int 0), (1, .int ((g.1 11) * ((g.1 10) - 1))), (0, .ref a)]) X.x X.b dX4_gatherRowValues_19 rfl hl (by decide) rfl (fun ls hl => ?_)
  have hl : lv_has ls 3 [(2, .int (nI 0)), (1, .int ((g.1 11) * ((g.1 10) - 1))), (0, .ref a)] := by rw [nI_0]; exact hl
  exact loop20 11 0 ((g.1 11) * ((g.1 10) - 1)) g (by omega) (by omega) (id (by unfold gf_4_gatherRowValues; rfl)) _ _ _ hr hz hlo (lv_sub hl [0, 1, 2] rfl)

def gg_4_writeBackups_2 (R nd : Nat)  : Nat → Nat → GS → GS
  | 0, _, g1 => g1
  | j + 1, k, g1 =>
    if (nI nd) ≤ (nI k) then
      g1
    else
      if (gf_4_isLive R nd g1 (nI k)) = 0 then
        gg_4_writeBackups_2 R nd  j (k + 1)  g1
      else
        if ((gf_4_spendWrite R nd g1).1) = 0 then
          gg_4_writeBackups_2 R nd  j (k + 1)  ((gf_4_spendWrite R nd g1).2)
        else
          gg_4_writeBackups_2 R nd  j (k + 1)  (gf_1_takeBackup_d_v R nd ((gf_4_spendWrite R nd g1).2) k (((gf_4_spendWrite R nd g1).2).1 8))
def gf_4_writeBackups (R nd : Nat) (g : GS)  : GS :=
  gg_4_writeBackups_2 R nd  (nd + 1) 0  g
set_option maxRecDepth 20000 in
set_option maxHeartbeats 4000000 in
theorem gc_4_writeBackups (l : Launch) (D : hD) (H0 : Heap) (a R nd : Nat) (g : GS) (h0 : hH) (n : Nat)  (hnd : nd ≤ 10) (hRR : R ≤ 48)  : cM l D H0 yX4_writeBackups cX4_writeBackups 2 none 2 45 0 0 [.ref a] (gput a R nd g h0) n (cE none (gput a R nd (gf_4_writeBackups R nd g) h0) n) := by
  refine h_met (by decide) (Nat.le_of_ble_eq_true rfl) ?_
  intro p e s m below meth c H ls X hnm hr hz hl
  have hl : lv_has ls 2 [(0, .ref a)] := hl
  have hlo : hL H0 ([] : List Loc) := hL.nil
  have loop2 : ∀ (j k : Nat)  (g1 : GS) (hk : k ≤ nd) (hj : nd < k + j) (hG : gf_4_writeBackups R nd g = gg_4_writeBackups_2 R nd  j k g1) (H : Heap) (locs : List Loc) (ls : Array Slot), hR D H0 (gput a R nd g1 h0) H → H.size = n → hL H0 locs → lv_has ls 2 [(1, .int (nI k)), (0, .ref a)] → W p l e (rmk 2 45 0 0) s m ([.ref a] : List Value).toArray below meth c H locs 0 0 (MQ below (cQ D H0 (cE none (gput a R nd (gf_4_writeBackups R nd g) h0) n)) ([.ref a] : List Value).toArray s 0 0 (hF H0)) (F0 m 2 ls []) := by
    intro j
    induction j with
    | zero => intro k g1 hk hj; omega
    | succ j ih =>
      intro k g1 hk hj hG H locs ls hr hz hlo hl
      refine lv_iload_n X.x X.b dX4_writeBackups_2 rfl (lv_at hl 0 rfl) ?_
      refine lv_aload_n X.x X.b dX4_writeBackups_3 rfl (lv_at hl 1 rfl) ?_
      refine h_get X hr fd_X4_7 gput_o (v := .int (nI nd)) rfl dX4_writeBackups_4 ?_
      refine lv_icmp_ge (tgt := 51) X.x X.b dX4_writeBackups_7 (by decide) (fun c7 => ?_) (fun c7 => ?_)
      · exact h_vret X hr hz hlo (glfv (hG.trans (by rw [gg_4_writeBackups_2]; rw [if_pos c7]))) (Nat.le_of_ble_eq_true rfl) (Nat.le_of_ble_eq_true rfl) dX4_writeBackups_51
      · have hk9 : k < nd := nd_lt c7 (by omega)
        refine lv_aload_n X.x X.b dX4_writeBackups_10 rfl (lv_at hl 1 rfl) ?_
        refine lv_iload_n X.x X.b dX4_writeBackups_11 rfl (lv_at hl 0 rfl) ?_
        refine h_callV X hr hz hlo (rest := []) (gc_4_isLive l D H0 a R nd g1 h0 n (nI k) hnd hRR  ) gput_o rfl yv_X4_isLive ml_X4_257 ⟨(Nat.le_of_ble_eq_true rfl), (Nat.le_of_ble_eq_true rfl)⟩ (Nat.le_of_ble_eq_true rfl) hl.1 ⟨(Nat.le_of_ble_eq_true rfl), (Nat.le_of_ble_eq_true rfl)⟩ rfl dX4_writeBackups_12 (fun v9 h9 n9 H locs hp hr hz hlo => ?_)
        obtain ⟨rfl, rfl, rfl⟩ := hp
        show W p l e _ s m _ below meth c H locs _ _ _ (F0 m 15 ls [.int (gf_4_isLive R nd g1 (nI k))])
        refine lv_if_eq (tgt := 45) X.x X.b dX4_writeBackups_15 (by decide) (fun c15 => ?_) (fun c15 => ?_)
        · refine lv_iinc (v := nI (k + 1)) (lv' := [(1, .int (nI (k + 1))), (0, .ref a)]) X.x X.b dX4_writeBackups_45 hl (k := 0) rfl (nI_1 k) (by decide) rfl (fun ls hl => ?_)
          refine lv_goto (tgt := 2) X.x X.b dX4_writeBackups_48 (by decide) ?_
          exact ih (k + 1)  g1 (by omega) (by omega) (hG.trans (by rw [gg_4_writeBackups_2]; rw [if_neg c7, if_pos c15])) _ _ _ hr hz hlo (lv_sub hl [0, 1] rfl)
        · refine lv_aload_n X.x X.b dX4_writeBackups_18 rfl (lv_at hl 1 rfl) ?_
          refine h_callV X hr hz hlo (rest := []) (gc_4_spendWrite l D H0 a R nd g1 h0 n  hnd hRR  ) gput_o rfl yv_X4_spendWrite ml_X4_108 ⟨(Nat.le_of_ble_eq_true rfl), (Nat.le_of_ble_eq_true rfl)⟩ (Nat.le_of_ble_eq_true rfl) hl.1 ⟨(Nat.le_of_ble_eq_true rfl), (Nat.le_of_ble_eq_true rfl)⟩ rfl dX4_writeBackups_19 (fun v9 h9 n9 H locs hp hr hz hlo => ?_)
          obtain ⟨rfl, rfl, rfl⟩ := hp
          show W p l e _ s m _ below meth c H locs _ _ _ (F0 m 22 ls [.int ((gf_4_spendWrite R nd g1).1)])
          refine lv_if_eq (tgt := 45) X.x X.b dX4_writeBackups_22 (by decide) (fun c22 => ?_) (fun c22 => ?_)
          · refine lv_iinc (v := nI (k + 1)) (lv' := [(1, .int (nI (k + 1))), (0, .ref a)]) X.x X.b dX4_writeBackups_45 hl (k := 0) rfl (nI_1 k) (by decide) rfl (fun ls hl => ?_)
            refine lv_goto (tgt := 2) X.x X.b dX4_writeBackups_48 (by decide) ?_
            exact ih (k + 1)  ((gf_4_spendWrite R nd g1).2) (by omega) (by omega) (hG.trans (by rw [gg_4_writeBackups_2]; rw [if_neg c7, if_neg c15, if_pos c22])) _ _ _ hr hz hlo (lv_sub hl [0, 1] rfl)
          · refine lv_aload_n X.x X.b dX4_writeBackups_25 rfl (lv_at hl 1 rfl) ?_
            refine h_get X hr fd_X4_40 gput_o (v := .ref (a + 4)) rfl dX4_writeBackups_26 ?_
            refine lv_iload_n X.x X.b dX4_writeBackups_29 rfl (lv_at hl 0 rfl) ?_
            refine h_aald X hr gput_k (vp_in_nI (by omega) (by omega)) (v := .ref (aD a k)) (by rw [nI_clamp (n := k) (by omega)]) dX4_writeBackups_30 ?_
            refine lv_aload_n X.x X.b dX4_writeBackups_31 rfl (lv_at hl 1 rfl) ?_
            refine h_get X hr fd_X4_19 gput_o (v := .ref (a + 1)) rfl dX4_writeBackups_32 ?_
            refine h_get X hr fd_X4_81 gput_h (v := .int (((gf_4_spendWrite R nd g1).2).1 8)) rfl dX4_writeBackups_35 ?_
            refine lv_aload_n X.x X.b dX4_writeBackups_38 rfl (lv_at hl 1 rfl) ?_
            refine h_get X hr fd_X4_34 gput_o (v := .ref (a + 3)) rfl dX4_writeBackups_39 ?_
            refine h_callV X hr hz hlo (rest := []) (gc_1_takeBackup_d_v l D H0 a R nd ((gf_4_spendWrite R nd g1).2) h0 n k (((gf_4_spendWrite R nd g1).2).1 8) hnd hRR (show k < 10 by omega) ) (gput_aD (show k < 10 by omega)) rfl yv_X1_takeBackup ml_X4_284 ⟨(Nat.le_of_ble_eq_true rfl), (Nat.le_of_ble_eq_true rfl)⟩ (Nat.le_of_ble_eq_true rfl) hl.1 ⟨(Nat.le_of_ble_eq_true rfl), (Nat.le_of_ble_eq_true rfl)⟩ rfl dX4_writeBackups_42 (fun v9 h9 n9 H locs hp hr hz hlo => ?_)
            obtain ⟨rfl, rfl, rfl⟩ := hp
            show W p l e _ s m _ below meth c H locs _ _ _ (F0 m 45 ls [])
            refine lv_iinc (v := nI (k + 1)) (lv' := [(1, .int (nI (k + 1))), (0, .ref a)]) X.x X.b dX4_writeBackups_45 hl (k := 0) rfl (nI_1 k) (by decide) rfl (fun ls hl => ?_)
            refine lv_goto (tgt := 2) X.x X.b dX4_writeBackups_48 (by decide) ?_
            exact ih (k + 1)  (gf_1_takeBackup_d_v R nd ((gf_4_spendWrite R nd g1).2) k (((gf_4_spendWrite R nd g1).2).1 8)) (by omega) (by omega) (hG.trans (by rw [gg_4_writeBackups_2]; rw [if_neg c7, if_neg c15, if_neg c22])) _ _ _ hr hz hlo (lv_sub hl [0, 1] rfl)
  refine lv_iconst (v := 0) X.x X.b dX4_writeBackups_0 (by decide) ?_
  refine lv_istore_n (lv' := [(1, .int 0), (0, .ref a)]) X.x X.b dX4_writeBackups_1 rfl hl (by decide) rfl (fun ls hl => ?_)
  have hl : lv_has ls 2 [(1, .int (nI 0)), (0, .ref a)] := by rw [nI_0]; exact hl
  exact loop2 (nd + 1) 0  g (by omega) (by omega) (id (by unfold gf_4_writeBackups; rfl)) _ _ _ hr hz hlo (lv_sub hl [0, 1] rfl)

def gg_4_writeMovedRow_51 (R nd : Nat) (row : Int32) (m0 : Int32) : Nat → Nat → Int64 → Int32 → GS → GS
  | 0, _, _, _, g1 => g1
  | j + 1, k, acc, pd, g1 =>
    if m0 ≤ (nI k) then
      g1
    else
      if (nI k) ≤ pd then
        if (nI k) = pd then
          gg_4_writeMovedRow_51 R nd row m0  j (k + 1) acc pd (gf_4_writeBlock R nd g1 (nI k) row acc)
        else
          if ((((nI k) - pd) - 1) + m0) < 0 then
            gg_4_writeMovedRow_51 R nd row m0  j (k + 1) acc pd (gf_4_writeBlock R nd g1 (nI k) row acc)
          else
            if (nI 10) ≤ ((((nI k) - pd) - 1) + m0) then
              gg_4_writeMovedRow_51 R nd row m0  j (k + 1) acc pd (gf_4_writeBlock R nd g1 (nI k) row acc)
            else
              gg_4_writeMovedRow_51 R nd row m0  j (k + 1) acc pd (gf_4_writeBlock R nd g1 (nI k) row (g1.2.2 1 0 (((((nI k) - pd) - 1) + m0).toNatClampNeg)))
      else
        if (nI k) = pd then
          gg_4_writeMovedRow_51 R nd row m0  j (k + 1) acc pd (gf_4_writeBlock R nd g1 (nI k) row acc)
        else
          if (((nI k) - pd) - 1) < 0 then
            gg_4_writeMovedRow_51 R nd row m0  j (k + 1) acc pd (gf_4_writeBlock R nd g1 (nI k) row acc)
          else
            if (nI 10) ≤ (((nI k) - pd) - 1) then
              gg_4_writeMovedRow_51 R nd row m0  j (k + 1) acc pd (gf_4_writeBlock R nd g1 (nI k) row acc)
            else
              gg_4_writeMovedRow_51 R nd row m0  j (k + 1) acc pd (gf_4_writeBlock R nd g1 (nI k) row (g1.2.2 1 0 ((((nI k) - pd) - 1).toNatClampNeg)))
def gg_4_writeMovedRow_12 (R nd : Nat) (row : Int32) (m0 : Int32) : Nat → Nat → Int64 → Int32 → GS → GS
  | 0, _, _, _, g1 => g1
  | j + 1, k, acc, pd, g1 =>
    if (m0 - 1) ≤ (nI k) then
      gg_4_writeMovedRow_51 R nd row m0  (m0.toNatClampNeg + 1) 0 acc pd g1
    else
      if (nI 10) ≤ (nI k) then
        gg_4_writeMovedRow_51 R nd row m0  (m0.toNatClampNeg + 1) 0 acc pd g1
      else
        gg_4_writeMovedRow_12 R nd row m0  j (k + 1) (acc ^^^ (g1.2.2 1 0 k)) pd g1
def gf_4_writeMovedRow (R nd : Nat) (g : GS) (row : Int32) (m0 : Int32) : GS :=
  gg_4_writeMovedRow_12 R nd row m0  11 0 0 (gf_4_parityDisk R nd g m0 row) g
set_option maxRecDepth 20000 in
set_option maxHeartbeats 4000000 in
theorem gc_4_writeMovedRow (l : Launch) (D : hD) (H0 : Heap) (a R nd : Nat) (g : GS) (h0 : hH) (n : Nat) (row : Int32) (m0 : Int32) (hnd : nd ≤ 10) (hRR : R ≤ 48)  : cM l D H0 yX4_writeMovedRow cX4_writeMovedRow 9 none 3 67 0 0 [.ref a, .int row, .int m0] (gput a R nd g h0) n (cE none (gput a R nd (gf_4_writeMovedRow R nd g row m0) h0) n) := by
  refine h_met (by decide) (Nat.le_of_ble_eq_true rfl) ?_
  intro p e s m below meth c H ls X hnm hr hz hl
  have hl : lv_has ls 9 [(0, .ref a), (1, .int row), (2, .int m0)] := hl
  have hlo : hL H0 ([] : List Loc) := hL.nil
  have loop51 : ∀ (j k : Nat) (acc : Int64) (pd : Int32) (g1 : GS) (hk : k ≤ m0.toNatClampNeg) (hj : m0.toNatClampNeg < k + j) (hG : gf_4_writeMovedRow R nd g row m0 = gg_4_writeMovedRow_51 R nd row m0  j k acc pd g1) (H : Heap) (locs : List Loc) (ls : Array Slot), hR D H0 (gput a R nd g1 h0) H → H.size = n → hL H0 locs → lv_has ls 9 [(6, .int (nI k)), (4, .long acc), (3, .int pd), (0, .ref a), (1, .int row), (2, .int m0)] → W p l e (rmk 3 67 0 0) s m ([.ref a, .int row, .int m0] : List Value).toArray below meth c H locs 0 0 (MQ below (cQ D H0 (cE none (gput a R nd (gf_4_writeMovedRow R nd g row m0) h0) n)) ([.ref a, .int row, .int m0] : List Value).toArray s 0 0 (hF H0)) (F0 m 51 ls []) := by
    intro j
    induction j with
    | zero => intro k acc pd g1 hk hj; omega
    | succ j ih =>
      intro k acc pd g1 hk hj hG H locs ls hr hz hlo hl
      refine lv_iload X.x X.b dX4_writeMovedRow_51 (lv_at hl 0 rfl) ?_
      refine lv_iload_n X.x X.b dX4_writeMovedRow_53 rfl (lv_at hl 5 rfl) ?_
      refine lv_icmp_ge (tgt := 140) X.x X.b dX4_writeMovedRow_54 (by decide) (fun c54 => ?_) (fun c54 => ?_)
      · exact h_vret X hr hz hlo (glfv (hG.trans (by rw [gg_4_writeMovedRow_51]; rw [if_pos c54]))) (Nat.le_of_ble_eq_true rfl) (Nat.le_of_ble_eq_true rfl) dX4_writeMovedRow_140
      · have hk9 : k < m0.toNatClampNeg := cl_lt c54 hk
        refine lv_iload X.x X.b dX4_writeMovedRow_57 (lv_at hl 0 rfl) ?_
        refine lv_iload_n X.x X.b dX4_writeMovedRow_59 rfl (lv_at hl 2 rfl) ?_
        refine lv_icmp_le (tgt := 72) X.x X.b dX4_writeMovedRow_60 (by decide) (fun c60 => ?_) (fun c60 => ?_)
        · refine lv_iload X.x X.b dX4_writeMovedRow_72 (lv_at hl 0 rfl) ?_
          refine lv_iload_n X.x X.b dX4_writeMovedRow_74 rfl (lv_at hl 2 rfl) ?_
          refine lv_isub X.x X.b dX4_writeMovedRow_75 ?_
          refine lv_iconst (v := 1) X.x X.b dX4_writeMovedRow_76 (by decide) ?_
          refine lv_isub X.x X.b dX4_writeMovedRow_77 ?_
          refine lv_iload_n X.x X.b dX4_writeMovedRow_78 rfl (lv_at hl 5 rfl) ?_
          refine lv_iadd X.x X.b dX4_writeMovedRow_79 ?_
          refine lv_istore (lv' := [(7, .int ((((nI k) - pd) - 1) + m0)), (6, .int (nI k)), (4, .long acc), (3, .int pd), (0, .ref a), (1, .int row), (2, .int m0)]) X.x X.b dX4_writeMovedRow_80 hl (by decide) rfl (fun ls hl => ?_)
          refine lv_iload X.x X.b dX4_writeMovedRow_82 (lv_at hl 1 rfl) ?_
          refine lv_iload_n X.x X.b dX4_writeMovedRow_84 rfl (lv_at hl 3 rfl) ?_
          refine lv_icmp_eq (tgt := 107) X.x X.b dX4_writeMovedRow_85 (by decide) (fun c85 => ?_) (fun c85 => ?_)
          · refine lv_iconst (v := 0) X.x X.b dX4_writeMovedRow_107 (by decide) ?_
            refine lv_istore (lv' := [(8, .int 0), (7, .int ((((nI k) - pd) - 1) + m0)), (6, .int (nI k)), (4, .long acc), (3, .int pd), (0, .ref a), (1, .int row), (2, .int m0)]) X.x X.b dX4_writeMovedRow_108 hl (by decide) rfl (fun ls hl => ?_)
            refine lv_aload_n X.x X.b dX4_writeMovedRow_110 rfl (lv_at hl 5 rfl) ?_
            refine lv_iload X.x X.b dX4_writeMovedRow_111 (lv_at hl 2 rfl) ?_
            refine lv_iload_n X.x X.b dX4_writeMovedRow_113 rfl (lv_at hl 6 rfl) ?_
            refine lv_iload X.x X.b dX4_writeMovedRow_114 (lv_at hl 0 rfl) ?_
            refine lv_if_eq (tgt := 129) X.x X.b dX4_writeMovedRow_116 (by decide) (fun c116 => ?_) (fun c116 => ?_)
            · refine lv_lload X.x X.b dX4_writeMovedRow_129 (lv_at hl 3 rfl) ?_
              refine h_callV X hr hz hlo (rest := []) (gc_4_writeBlock l D H0 a R nd g1 h0 n (nI k) row acc hnd hRR  ) gput_o rfl yv_X4_writeBlock ml_X4_278 ⟨(Nat.le_of_ble_eq_true rfl), (Nat.le_of_ble_eq_true rfl)⟩ (Nat.le_of_ble_eq_true rfl) hl.1 ⟨(Nat.le_of_ble_eq_true rfl), (Nat.le_of_ble_eq_true rfl)⟩ rfl dX4_writeMovedRow_131 (fun v9 h9 n9 H locs hp hr hz hlo => ?_)
              obtain ⟨rfl, rfl, rfl⟩ := hp
              show W p l e _ s m _ below meth c H locs _ _ _ (F0 m 134 ls [])
              refine lv_iinc (v := nI (k + 1)) (lv' := [(6, .int (nI (k + 1))), (8, .int 0), (7, .int ((((nI k) - pd) - 1) + m0)), (4, .long acc), (3, .int pd), (0, .ref a), (1, .int row), (2, .int m0)]) X.x X.b dX4_writeMovedRow_134 hl (k := 2) rfl (nI_1 k) (by decide) rfl (fun ls hl => ?_)
              refine lv_goto (tgt := 51) X.x X.b dX4_writeMovedRow_137 (by decide) ?_
              exact ih (k + 1) acc pd (gf_4_writeBlock R nd g1 (nI k) row acc) (by omega) (by omega) (hG.trans (by rw [gg_4_writeMovedRow_51]; rw [if_neg c54, if_pos c60, if_pos c85])) _ _ _ hr hz hlo (lv_sub hl [0, 3, 4, 5, 6, 7] rfl)
            · exact absurd (by decide) c116
          · refine lv_iload X.x X.b dX4_writeMovedRow_88 (lv_at hl 0 rfl) ?_
            refine lv_if_lt (tgt := 107) X.x X.b dX4_writeMovedRow_90 (by decide) (fun c90 => ?_) (fun c90 => ?_)
            · refine lv_iconst (v := 0) X.x X.b dX4_writeMovedRow_107 (by decide) ?_
              refine lv_istore (lv' := [(8, .int 0), (7, .int ((((nI k) - pd) - 1) + m0)), (6, .int (nI k)), (4, .long acc), (3, .int pd), (0, .ref a), (1, .int row), (2, .int m0)]) X.x X.b dX4_writeMovedRow_108 hl (by decide) rfl (fun ls hl => ?_)
              refine lv_aload_n X.x X.b dX4_writeMovedRow_110 rfl (lv_at hl 5 rfl) ?_
              refine lv_iload X.x X.b dX4_writeMovedRow_111 (lv_at hl 2 rfl) ?_
              refine lv_iload_n X.x X.b dX4_writeMovedRow_113 rfl (lv_at hl 6 rfl) ?_
              refine lv_iload X.x X.b dX4_writeMovedRow_114 (lv_at hl 0 rfl) ?_
              refine lv_if_eq (tgt := 129) X.x X.b dX4_writeMovedRow_116 (by decide) (fun c116 => ?_) (fun c116 => ?_)
              · refine lv_lload X.x X.b dX4_writeMovedRow_129 (lv_at hl 3 rfl) ?_
                refine h_callV X hr hz hlo (rest := []) (gc_4_writeBlock l D H0 a R nd g1 h0 n (nI k) row acc hnd hRR  ) gput_o rfl yv_X4_writeBlock ml_X4_278 ⟨(Nat.le_of_ble_eq_true rfl), (Nat.le_of_ble_eq_true rfl)⟩ (Nat.le_of_ble_eq_true rfl) hl.1 ⟨(Nat.le_of_ble_eq_true rfl), (Nat.le_of_ble_eq_true rfl)⟩ rfl dX4_writeMovedRow_131 (fun v9 h9 n9 H locs hp hr hz hlo => ?_)
                obtain ⟨rfl, rfl, rfl⟩ := hp
                show W p l e _ s m _ below meth c H locs _ _ _ (F0 m 134 ls [])
                refine lv_iinc (v := nI (k + 1)) (lv' := [(6, .int (nI (k + 1))), (8, .int 0), (7, .int ((((nI k) - pd) - 1) + m0)), (4, .long acc), (3, .int pd), (0, .ref a), (1, .int row), (2, .int m0)]) X.x X.b dX4_writeMovedRow_134 hl (k := 2) rfl (nI_1 k) (by decide) rfl (fun ls hl => ?_)
                refine lv_goto (tgt := 51) X.x X.b dX4_writeMovedRow_137 (by decide) ?_
                exact ih (k + 1) acc pd (gf_4_writeBlock R nd g1 (nI k) row acc) (by omega) (by omega) (hG.trans (by rw [gg_4_writeMovedRow_51]; rw [if_neg c54, if_pos c60, if_neg c85, if_pos c90])) _ _ _ hr hz hlo (lv_sub hl [0, 3, 4, 5, 6, 7] rfl)
              · exact absurd (by decide) c116
            · refine lv_iload X.x X.b dX4_writeMovedRow_93 (lv_at hl 0 rfl) ?_
              refine lv_aload_n X.x X.b dX4_writeMovedRow_95 rfl (lv_at hl 4 rfl) ?_
              refine h_get X hr fd_X4_34 gput_o (v := .ref (a + 3)) rfl dX4_writeMovedRow_96 ?_
              refine h_alen X hr (by decide) gput_v dX4_writeMovedRow_99 ?_
              refine lv_icmp_ge (tgt := 107) X.x X.b dX4_writeMovedRow_100 (by decide) (fun c100 => ?_) (fun c100 => ?_)
              · refine lv_iconst (v := 0) X.x X.b dX4_writeMovedRow_107 (by decide) ?_
                refine lv_istore (lv' := [(8, .int 0), (7, .int ((((nI k) - pd) - 1) + m0)), (6, .int (nI k)), (4, .long acc), (3, .int pd), (0, .ref a), (1, .int row), (2, .int m0)]) X.x X.b dX4_writeMovedRow_108 hl (by decide) rfl (fun ls hl => ?_)
                refine lv_aload_n X.x X.b dX4_writeMovedRow_110 rfl (lv_at hl 5 rfl) ?_
                refine lv_iload X.x X.b dX4_writeMovedRow_111 (lv_at hl 2 rfl) ?_
                refine lv_iload_n X.x X.b dX4_writeMovedRow_113 rfl (lv_at hl 6 rfl) ?_
                refine lv_iload X.x X.b dX4_writeMovedRow_114 (lv_at hl 0 rfl) ?_
                refine lv_if_eq (tgt := 129) X.x X.b dX4_writeMovedRow_116 (by decide) (fun c116 => ?_) (fun c116 => ?_)
                · refine lv_lload X.x X.b dX4_writeMovedRow_129 (lv_at hl 3 rfl) ?_
                  refine h_callV X hr hz hlo (rest := []) (gc_4_writeBlock l D H0 a R nd g1 h0 n (nI k) row acc hnd hRR  ) gput_o rfl yv_X4_writeBlock ml_X4_278 ⟨(Nat.le_of_ble_eq_true rfl), (Nat.le_of_ble_eq_true rfl)⟩ (Nat.le_of_ble_eq_true rfl) hl.1 ⟨(Nat.le_of_ble_eq_true rfl), (Nat.le_of_ble_eq_true rfl)⟩ rfl dX4_writeMovedRow_131 (fun v9 h9 n9 H locs hp hr hz hlo => ?_)
                  obtain ⟨rfl, rfl, rfl⟩ := hp
                  show W p l e _ s m _ below meth c H locs _ _ _ (F0 m 134 ls [])
                  refine lv_iinc (v := nI (k + 1)) (lv' := [(6, .int (nI (k + 1))), (8, .int 0), (7, .int ((((nI k) - pd) - 1) + m0)), (4, .long acc), (3, .int pd), (0, .ref a), (1, .int row), (2, .int m0)]) X.x X.b dX4_writeMovedRow_134 hl (k := 2) rfl (nI_1 k) (by decide) rfl (fun ls hl => ?_)
                  refine lv_goto (tgt := 51) X.x X.b dX4_writeMovedRow_137 (by decide) ?_
                  exact ih (k + 1) acc pd (gf_4_writeBlock R nd g1 (nI k) row acc) (by omega) (by omega) (hG.trans (by rw [gg_4_writeMovedRow_51]; rw [if_neg c54, if_pos c60, if_neg c85, if_neg c90, if_pos c100])) _ _ _ hr hz hlo (lv_sub hl [0, 3, 4, 5, 6, 7] rfl)
                · exact absurd (by decide) c116
              · refine lv_iconst (v := 1) X.x X.b dX4_writeMovedRow_103 (by decide) ?_
                refine lv_goto (tgt := 108) X.x X.b dX4_writeMovedRow_104 (by decide) ?_
                refine lv_istore (lv' := [(8, .int 1), (7, .int ((((nI k) - pd) - 1) + m0)), (6, .int (nI k)), (4, .long acc), (3, .int pd), (0, .ref a), (1, .int row), (2, .int m0)]) X.x X.b dX4_writeMovedRow_108 hl (by decide) rfl (fun ls hl => ?_)
                refine lv_aload_n X.x X.b dX4_writeMovedRow_110 rfl (lv_at hl 5 rfl) ?_
                refine lv_iload X.x X.b dX4_writeMovedRow_111 (lv_at hl 2 rfl) ?_
                refine lv_iload_n X.x X.b dX4_writeMovedRow_113 rfl (lv_at hl 6 rfl) ?_
                refine lv_iload X.x X.b dX4_writeMovedRow_114 (lv_at hl 0 rfl) ?_
                refine lv_if_eq (tgt := 129) X.x X.b dX4_writeMovedRow_116 (by decide) (fun c116 => ?_) (fun c116 => ?_)
                · exact absurd c116 (by decide)
                · refine lv_aload_n X.x X.b dX4_writeMovedRow_119 rfl (lv_at hl 5 rfl) ?_
                  refine h_get X hr fd_X4_34 gput_o (v := .ref (a + 3)) rfl dX4_writeMovedRow_120 ?_
                  refine lv_iload X.x X.b dX4_writeMovedRow_123 (lv_at hl 1 rfl) ?_
                  refine h_lald X hr gput_v (ix_of c90 c100 (Nat.le_refl 10) (by decide)) (v := .long (g1.2.2 1 0 (((((nI k) - pd) - 1) + m0).toNatClampNeg))) rfl dX4_writeMovedRow_125 ?_
                  refine lv_goto (tgt := 131) X.x X.b dX4_writeMovedRow_126 (by decide) ?_
                  refine h_callV X hr hz hlo (rest := []) (gc_4_writeBlock l D H0 a R nd g1 h0 n (nI k) row (g1.2.2 1 0 (((((nI k) - pd) - 1) + m0).toNatClampNeg)) hnd hRR  ) gput_o rfl yv_X4_writeBlock ml_X4_278 ⟨(Nat.le_of_ble_eq_true rfl), (Nat.le_of_ble_eq_true rfl)⟩ (Nat.le_of_ble_eq_true rfl) hl.1 ⟨(Nat.le_of_ble_eq_true rfl), (Nat.le_of_ble_eq_true rfl)⟩ rfl dX4_writeMovedRow_131 (fun v9 h9 n9 H locs hp hr hz hlo => ?_)
                  obtain ⟨rfl, rfl, rfl⟩ := hp
                  show W p l e _ s m _ below meth c H locs _ _ _ (F0 m 134 ls [])
                  refine lv_iinc (v := nI (k + 1)) (lv' := [(6, .int (nI (k + 1))), (8, .int 1), (7, .int ((((nI k) - pd) - 1) + m0)), (4, .long acc), (3, .int pd), (0, .ref a), (1, .int row), (2, .int m0)]) X.x X.b dX4_writeMovedRow_134 hl (k := 2) rfl (nI_1 k) (by decide) rfl (fun ls hl => ?_)
                  refine lv_goto (tgt := 51) X.x X.b dX4_writeMovedRow_137 (by decide) ?_
                  exact ih (k + 1) acc pd (gf_4_writeBlock R nd g1 (nI k) row (g1.2.2 1 0 (((((nI k) - pd) - 1) + m0).toNatClampNeg))) (by omega) (by omega) (hG.trans (by rw [gg_4_writeMovedRow_51]; rw [if_neg c54, if_pos c60, if_neg c85, if_neg c90, if_neg c100])) _ _ _ hr hz hlo (lv_sub hl [0, 3, 4, 5, 6, 7] rfl)
        · refine lv_iload X.x X.b dX4_writeMovedRow_63 (lv_at hl 0 rfl) ?_
          refine lv_iload_n X.x X.b dX4_writeMovedRow_65 rfl (lv_at hl 2 rfl) ?_
          refine lv_isub X.x X.b dX4_writeMovedRow_66 ?_
          refine lv_iconst (v := 1) X.x X.b dX4_writeMovedRow_67 (by decide) ?_
          refine lv_isub X.x X.b dX4_writeMovedRow_68 ?_
          refine lv_goto (tgt := 80) X.x X.b dX4_writeMovedRow_69 (by decide) ?_
          refine lv_istore (lv' := [(7, .int (((nI k) - pd) - 1)), (6, .int (nI k)), (4, .long acc), (3, .int pd), (0, .ref a), (1, .int row), (2, .int m0)]) X.x X.b dX4_writeMovedRow_80 hl (by decide) rfl (fun ls hl => ?_)
          refine lv_iload X.x X.b dX4_writeMovedRow_82 (lv_at hl 1 rfl) ?_
          refine lv_iload_n X.x X.b dX4_writeMovedRow_84 rfl (lv_at hl 3 rfl) ?_
          refine lv_icmp_eq (tgt := 107) X.x X.b dX4_writeMovedRow_85 (by decide) (fun c85 => ?_) (fun c85 => ?_)
          · refine lv_iconst (v := 0) X.x X.b dX4_writeMovedRow_107 (by decide) ?_
            refine lv_istore (lv' := [(8, .int 0), (7, .int (((nI k) - pd) - 1)), (6, .int (nI k)), (4, .long acc), (3, .int pd), (0, .ref a), (1, .int row), (2, .int m0)]) X.x X.b dX4_writeMovedRow_108 hl (by decide) rfl (fun ls hl => ?_)
            refine lv_aload_n X.x X.b dX4_writeMovedRow_110 rfl (lv_at hl 5 rfl) ?_
            refine lv_iload X.x X.b dX4_writeMovedRow_111 (lv_at hl 2 rfl) ?_
            refine lv_iload_n X.x X.b dX4_writeMovedRow_113 rfl (lv_at hl 6 rfl) ?_
            refine lv_iload X.x X.b dX4_writeMovedRow_114 (lv_at hl 0 rfl) ?_
            refine lv_if_eq (tgt := 129) X.x X.b dX4_writeMovedRow_116 (by decide) (fun c116 => ?_) (fun c116 => ?_)
            · refine lv_lload X.x X.b dX4_writeMovedRow_129 (lv_at hl 3 rfl) ?_
              refine h_callV X hr hz hlo (rest := []) (gc_4_writeBlock l D H0 a R nd g1 h0 n (nI k) row acc hnd hRR  ) gput_o rfl yv_X4_writeBlock ml_X4_278 ⟨(Nat.le_of_ble_eq_true rfl), (Nat.le_of_ble_eq_true rfl)⟩ (Nat.le_of_ble_eq_true rfl) hl.1 ⟨(Nat.le_of_ble_eq_true rfl), (Nat.le_of_ble_eq_true rfl)⟩ rfl dX4_writeMovedRow_131 (fun v9 h9 n9 H locs hp hr hz hlo => ?_)
              obtain ⟨rfl, rfl, rfl⟩ := hp
              show W p l e _ s m _ below meth c H locs _ _ _ (F0 m 134 ls [])
              refine lv_iinc (v := nI (k + 1)) (lv' := [(6, .int (nI (k + 1))), (8, .int 0), (7, .int (((nI k) - pd) - 1)), (4, .long acc), (3, .int pd), (0, .ref a), (1, .int row), (2, .int m0)]) X.x X.b dX4_writeMovedRow_134 hl (k := 2) rfl (nI_1 k) (by decide) rfl (fun ls hl => ?_)
              refine lv_goto (tgt := 51) X.x X.b dX4_writeMovedRow_137 (by decide) ?_
              exact ih (k + 1) acc pd (gf_4_writeBlock R nd g1 (nI k) row acc) (by omega) (by omega) (hG.trans (by rw [gg_4_writeMovedRow_51]; rw [if_neg c54, if_neg c60, if_pos c85])) _ _ _ hr hz hlo (lv_sub hl [0, 3, 4, 5, 6, 7] rfl)
            · exact absurd (by decide) c116
          · refine lv_iload X.x X.b dX4_writeMovedRow_88 (lv_at hl 0 rfl) ?_
            refine lv_if_lt (tgt := 107) X.x X.b dX4_writeMovedRow_90 (by decide) (fun c90 => ?_) (fun c90 => ?_)
            · refine lv_iconst (v := 0) X.x X.b dX4_writeMovedRow_107 (by decide) ?_
              refine lv_istore (lv' := [(8, .int 0), (7, .int (((nI k) - pd) - 1)), (6, .int (nI k)), (4, .long acc), (3, .int pd), (0, .ref a), (1, .int row), (2, .int m0)]) X.x X.b dX4_writeMovedRow_108 hl (by decide) rfl (fun ls hl => ?_)
              refine lv_aload_n X.x X.b dX4_writeMovedRow_110 rfl (lv_at hl 5 rfl) ?_
              refine lv_iload X.x X.b dX4_writeMovedRow_111 (lv_at hl 2 rfl) ?_
              refine lv_iload_n X.x X.b dX4_writeMovedRow_113 rfl (lv_at hl 6 rfl) ?_
              refine lv_iload X.x X.b dX4_writeMovedRow_114 (lv_at hl 0 rfl) ?_
              refine lv_if_eq (tgt := 129) X.x X.b dX4_writeMovedRow_116 (by decide) (fun c116 => ?_) (fun c116 => ?_)
              · refine lv_lload X.x X.b dX4_writeMovedRow_129 (lv_at hl 3 rfl) ?_
                refine h_callV X hr hz hlo (rest := []) (gc_4_writeBlock l D H0 a R nd g1 h0 n (nI k) row acc hnd hRR  ) gput_o rfl yv_X4_writeBlock ml_X4_278 ⟨(Nat.le_of_ble_eq_true rfl), (Nat.le_of_ble_eq_true rfl)⟩ (Nat.le_of_ble_eq_true rfl) hl.1 ⟨(Nat.le_of_ble_eq_true rfl), (Nat.le_of_ble_eq_true rfl)⟩ rfl dX4_writeMovedRow_131 (fun v9 h9 n9 H locs hp hr hz hlo => ?_)
                obtain ⟨rfl, rfl, rfl⟩ := hp
                show W p l e _ s m _ below meth c H locs _ _ _ (F0 m 134 ls [])
                refine lv_iinc (v := nI (k + 1)) (lv' := [(6, .int (nI (k + 1))), (8, .int 0), (7, .int (((nI k) - pd) - 1)), (4, .long acc), (3, .int pd), (0, .ref a), (1, .int row), (2, .int m0)]) X.x X.b dX4_writeMovedRow_134 hl (k := 2) rfl (nI_1 k) (by decide) rfl (fun ls hl => ?_)
                refine lv_goto (tgt := 51) X.x X.b dX4_writeMovedRow_137 (by decide) ?_
                exact ih (k + 1) acc pd (gf_4_writeBlock R nd g1 (nI k) row acc) (by omega) (by omega) (hG.trans (by rw [gg_4_writeMovedRow_51]; rw [if_neg c54, if_neg c60, if_neg c85, if_pos c90])) _ _ _ hr hz hlo (lv_sub hl [0, 3, 4, 5, 6, 7] rfl)
              · exact absurd (by decide) c116
            · refine lv_iload X.x X.b dX4_writeMovedRow_93 (lv_at hl 0 rfl) ?_
              refine lv_aload_n X.x X.b dX4_writeMovedRow_95 rfl (lv_at hl 4 rfl) ?_
              refine h_get X hr fd_X4_34 gput_o (v := .ref (a + 3)) rfl dX4_writeMovedRow_96 ?_
              refine h_alen X hr (by decide) gput_v dX4_writeMovedRow_99 ?_
              refine lv_icmp_ge (tgt := 107) X.x X.b dX4_writeMovedRow_100 (by decide) (fun c100 => ?_) (fun c100 => ?_)
              · refine lv_iconst (v := 0) X.x X.b dX4_writeMovedRow_107 (by decide) ?_
                refine lv_istore (lv' := [(8, .int 0), (7, .int (((nI k) - pd) - 1)), (6, .int (nI k)), (4, .long acc), (3, .int pd), (0, .ref a), (1, .int row), (2, .int m0)]) X.x X.b dX4_writeMovedRow_108 hl (by decide) rfl (fun ls hl => ?_)
                refine lv_aload_n X.x X.b dX4_writeMovedRow_110 rfl (lv_at hl 5 rfl) ?_
                refine lv_iload X.x X.b dX4_writeMovedRow_111 (lv_at hl 2 rfl) ?_
                refine lv_iload_n X.x X.b dX4_writeMovedRow_113 rfl (lv_at hl 6 rfl) ?_
                refine lv_iload X.x X.b dX4_writeMovedRow_114 (lv_at hl 0 rfl) ?_
                refine lv_if_eq (tgt := 129) X.x X.b dX4_writeMovedRow_116 (by decide) (fun c116 => ?_) (fun c116 => ?_)
                · refine lv_lload X.x X.b dX4_writeMovedRow_129 (lv_at hl 3 rfl) ?_
                  refine h_callV X hr hz hlo (rest := []) (gc_4_writeBlock l D H0 a R nd g1 h0 n (nI k) row acc hnd hRR  ) gput_o rfl yv_X4_writeBlock ml_X4_278 ⟨(Nat.le_of_ble_eq_true rfl), (Nat.le_of_ble_eq_true rfl)⟩ (Nat.le_of_ble_eq_true rfl) hl.1 ⟨(Nat.le_of_ble_eq_true rfl), (Nat.le_of_ble_eq_true rfl)⟩ rfl dX4_writeMovedRow_131 (fun v9 h9 n9 H locs hp hr hz hlo => ?_)
                  obtain ⟨rfl, rfl, rfl⟩ := hp
                  show W p l e _ s m _ below meth c H locs _ _ _ (F0 m 134 ls [])
                  refine lv_iinc (v := nI (k + 1)) (lv' := [(6, .int (nI (k + 1))), (8, .int 0), (7, .int (((nI k) - pd) - 1)), (4, .long acc), (3, .int pd), (0, .ref a), (1, .int row), (2, .int m0)]) X.x X.b dX4_writeMovedRow_134 hl (k := 2) rfl (nI_1 k) (by decide) rfl (fun ls hl => ?_)
                  refine lv_goto (tgt := 51) X.x X.b dX4_writeMovedRow_137 (by decide) ?_
                  exact ih (k + 1) acc pd (gf_4_writeBlock R nd g1 (nI k) row acc) (by omega) (by omega) (hG.trans (by rw [gg_4_writeMovedRow_51]; rw [if_neg c54, if_neg c60, if_neg c85, if_neg c90, if_pos c100])) _ _ _ hr hz hlo (lv_sub hl [0, 3, 4, 5, 6, 7] rfl)
                · exact absurd (by decide) c116
              · refine lv_iconst (v := 1) X.x X.b dX4_writeMovedRow_103 (by decide) ?_
                refine lv_goto (tgt := 108) X.x X.b dX4_writeMovedRow_104 (by decide) ?_
                refine lv_istore (lv' := [(8, .int 1), (7, .int (((nI k) - pd) - 1)), (6, .int (nI k)), (4, .long acc), (3, .int pd), (0, .ref a), (1, .int row), (2, .int m0)]) X.x X.b dX4_writeMovedRow_108 hl (by decide) rfl (fun ls hl => ?_)
                refine lv_aload_n X.x X.b dX4_writeMovedRow_110 rfl (lv_at hl 5 rfl) ?_
                refine lv_iload X.x X.b dX4_writeMovedRow_111 (lv_at hl 2 rfl) ?_
                refine lv_iload_n X.x X.b dX4_writeMovedRow_113 rfl (lv_at hl 6 rfl) ?_
                refine lv_iload X.x X.b dX4_writeMovedRow_114 (lv_at hl 0 rfl) ?_
                refine lv_if_eq (tgt := 129) X.x X.b dX4_writeMovedRow_116 (by decide) (fun c116 => ?_) (fun c116 => ?_)
                · exact absurd c116 (by decide)
                · refine lv_aload_n X.x X.b dX4_writeMovedRow_119 rfl (lv_at hl 5 rfl) ?_
                  refine h_get X hr fd_X4_34 gput_o (v := .ref (a + 3)) rfl dX4_writeMovedRow_120 ?_
                  refine lv_iload X.x X.b dX4_writeMovedRow_123 (lv_at hl 1 rfl) ?_
                  refine h_lald X hr gput_v (ix_of c90 c100 (Nat.le_refl 10) (by decide)) (v := .long (g1.2.2 1 0 ((((nI k) - pd) - 1).toNatClampNeg))) rfl dX4_writeMovedRow_125 ?_
                  refine lv_goto (tgt := 131) X.x X.b dX4_writeMovedRow_126 (by decide) ?_
                  refine h_callV X hr hz hlo (rest := []) (gc_4_writeBlock l D H0 a R nd g1 h0 n (nI k) row (g1.2.2 1 0 ((((nI k) - pd) - 1).toNatClampNeg)) hnd hRR  ) gput_o rfl yv_X4_writeBlock ml_X4_278 ⟨(Nat.le_of_ble_eq_true rfl), (Nat.le_of_ble_eq_true rfl)⟩ (Nat.le_of_ble_eq_true rfl) hl.1 ⟨(Nat.le_of_ble_eq_true rfl), (Nat.le_of_ble_eq_true rfl)⟩ rfl dX4_writeMovedRow_131 (fun v9 h9 n9 H locs hp hr hz hlo => ?_)
                  obtain ⟨rfl, rfl, rfl⟩ := hp
                  show W p l e _ s m _ below meth c H locs _ _ _ (F0 m 134 ls [])
                  refine lv_iinc (v := nI (k + 1)) (lv' := [(6, .int (nI (k + 1))), (8, .int 1), (7, .int (((nI k) - pd) - 1)), (4, .long acc), (3, .int pd), (0, .ref a), (1, .int row), (2, .int m0)]) X.x X.b dX4_writeMovedRow_134 hl (k := 2) rfl (nI_1 k) (by decide) rfl (fun ls hl => ?_)
                  refine lv_goto (tgt := 51) X.x X.b dX4_writeMovedRow_137 (by decide) ?_
                  exact ih (k + 1) acc pd (gf_4_writeBlock R nd g1 (nI k) row (g1.2.2 1 0 ((((nI k) - pd) - 1).toNatClampNeg))) (by omega) (by omega) (hG.trans (by rw [gg_4_writeMovedRow_51]; rw [if_neg c54, if_neg c60, if_neg c85, if_neg c90, if_neg c100])) _ _ _ hr hz hlo (lv_sub hl [0, 3, 4, 5, 6, 7] rfl)
  have loop12 : ∀ (j k : Nat) (acc : Int64) (pd : Int32) (g1 : GS) (hk : k ≤ 10) (hj : 10 < k + j) (hG : gf_4_writeMovedRow R nd g row m0 = gg_4_writeMovedRow_12 R nd row m0  j k acc pd g1) (H : Heap) (locs : List Loc) (ls : Array Slot), hR D H0 (gput a R nd g1 h0) H → H.size = n → hL H0 locs → lv_has ls 9 [(6, .int (nI k)), (4, .long acc), (3, .int pd), (0, .ref a), (1, .int row), (2, .int m0)] → W p l e (rmk 3 67 0 0) s m ([.ref a, .int row, .int m0] : List Value).toArray below meth c H locs 0 0 (MQ below (cQ D H0 (cE none (gput a R nd (gf_4_writeMovedRow R nd g row m0) h0) n)) ([.ref a, .int row, .int m0] : List Value).toArray s 0 0 (hF H0)) (F0 m 12 ls []) := by
    intro j
    induction j with
    | zero => intro k acc pd g1 hk hj; omega
    | succ j ih =>
      intro k acc pd g1 hk hj hG H locs ls hr hz hlo hl
      refine lv_iload X.x X.b dX4_writeMovedRow_12 (lv_at hl 0 rfl) ?_
      refine lv_iload_n X.x X.b dX4_writeMovedRow_14 rfl (lv_at hl 5 rfl) ?_
      refine lv_iconst (v := 1) X.x X.b dX4_writeMovedRow_15 (by decide) ?_
      refine lv_isub X.x X.b dX4_writeMovedRow_16 ?_
      refine lv_icmp_ge (tgt := 48) X.x X.b dX4_writeMovedRow_17 (by decide) (fun c17 => ?_) (fun c17 => ?_)
      · refine lv_iconst (v := 0) X.x X.b dX4_writeMovedRow_48 (by decide) ?_
        refine lv_istore (lv' := [(6, .int 0), (4, .long acc), (3, .int pd), (0, .ref a), (1, .int row), (2, .int m0)]) X.x X.b dX4_writeMovedRow_49 hl (by decide) rfl (fun ls hl => ?_)
        have hl : lv_has ls 9 [(6, .int (nI 0)), (4, .long acc), (3, .int pd), (0, .ref a), (1, .int row), (2, .int m0)] := by rw [nI_0]; exact hl
        exact loop51 (m0.toNatClampNeg + 1) 0 acc pd g1 (by omega) (by omega) (hG.trans (by rw [gg_4_writeMovedRow_12]; rw [if_pos c17])) _ _ _ hr hz hlo (lv_sub hl [0, 1, 2, 3, 4, 5] rfl)
      · refine lv_iload X.x X.b dX4_writeMovedRow_20 (lv_at hl 0 rfl) ?_
        refine lv_aload_n X.x X.b dX4_writeMovedRow_22 rfl (lv_at hl 3 rfl) ?_
        refine h_get X hr fd_X4_34 gput_o (v := .ref (a + 3)) rfl dX4_writeMovedRow_23 ?_
        refine h_alen X hr (by decide) gput_v dX4_writeMovedRow_26 ?_
        refine lv_icmp_ge (tgt := 48) X.x X.b dX4_writeMovedRow_27 (by decide) (fun c27 => ?_) (fun c27 => ?_)
        · refine lv_iconst (v := 0) X.x X.b dX4_writeMovedRow_48 (by decide) ?_
          refine lv_istore (lv' := [(6, .int 0), (4, .long acc), (3, .int pd), (0, .ref a), (1, .int row), (2, .int m0)]) X.x X.b dX4_writeMovedRow_49 hl (by decide) rfl (fun ls hl => ?_)
          have hl : lv_has ls 9 [(6, .int (nI 0)), (4, .long acc), (3, .int pd), (0, .ref a), (1, .int row), (2, .int m0)] := by rw [nI_0]; exact hl
          exact loop51 (m0.toNatClampNeg + 1) 0 acc pd g1 (by omega) (by omega) (hG.trans (by rw [gg_4_writeMovedRow_12]; rw [if_neg c17, if_pos c27])) _ _ _ hr hz hlo (lv_sub hl [0, 1, 2, 3, 4, 5] rfl)
        · have hk9 : k < 10 := nd_lt c27 (by omega)
          refine lv_lload X.x X.b dX4_writeMovedRow_30 (lv_at hl 1 rfl) ?_
          refine lv_aload_n X.x X.b dX4_writeMovedRow_32 rfl (lv_at hl 3 rfl) ?_
          refine h_get X hr fd_X4_34 gput_o (v := .ref (a + 3)) rfl dX4_writeMovedRow_33 ?_
          refine lv_iload X.x X.b dX4_writeMovedRow_36 (lv_at hl 0 rfl) ?_
          refine h_lald X hr gput_v (vp_in_nI (by omega) (by omega)) (v := .long (g1.2.2 1 0 k)) (by rw [nI_clamp (n := k) (by omega)]) dX4_writeMovedRow_38 ?_
          refine lv_lxor X.x X.b dX4_writeMovedRow_39 ?_
          refine lv_lstore (lv' := [(4, .long (acc ^^^ (g1.2.2 1 0 k))), (6, .int (nI k)), (3, .int pd), (0, .ref a), (1, .int row), (2, .int m0)]) X.x X.b dX4_writeMovedRow_40 hl (by decide) rfl (fun ls hl => ?_)
          refine lv_iinc (v := nI (k + 1)) (lv' := [(6, .int (nI (k + 1))), (4, .long (acc ^^^ (g1.2.2 1 0 k))), (3, .int pd), (0, .ref a), (1, .int row), (2, .int m0)]) X.x X.b dX4_writeMovedRow_42 hl (k := 1) rfl (nI_1 k) (by decide) rfl (fun ls hl => ?_)
          refine lv_goto (tgt := 12) X.x X.b dX4_writeMovedRow_45 (by decide) ?_
          exact ih (k + 1) (acc ^^^ (g1.2.2 1 0 k)) pd g1 (by omega) (by omega) (hG.trans (by rw [gg_4_writeMovedRow_12]; rw [if_neg c17, if_neg c27])) _ _ _ hr hz hlo (lv_sub hl [0, 1, 2, 3, 4, 5] rfl)
  refine lv_iload_n X.x X.b dX4_writeMovedRow_0 rfl (lv_at hl 2 rfl) ?_
  refine lv_iload_n X.x X.b dX4_writeMovedRow_1 rfl (lv_at hl 1 rfl) ?_
  refine h_callS X hr hz hlo (rest := []) (gc_4_parityDisk l D H0 a R nd g h0 n m0 row hnd hRR  ) ys_X4_parityDisk ml_X4_84 ⟨(Nat.le_of_ble_eq_true rfl), (Nat.le_of_ble_eq_true rfl)⟩ (Nat.le_of_ble_eq_true rfl) hl.1 ⟨(Nat.le_of_ble_eq_true rfl), (Nat.le_of_ble_eq_true rfl)⟩ rfl dX4_writeMovedRow_2 (fun v9 h9 n9 H locs hp hr hz hlo => ?_)
  obtain ⟨rfl, rfl, rfl⟩ := hp
  show W p l e _ s m _ below meth c H locs _ _ _ (F0 m 5 ls [.int (gf_4_parityDisk R nd g m0 row)])
  refine lv_istore_n (lv' := [(3, .int (gf_4_parityDisk R nd g m0 row)), (0, .ref a), (1, .int row), (2, .int m0)]) X.x X.b dX4_writeMovedRow_5 rfl hl (by decide) rfl (fun ls hl => ?_)
  refine lv_lconst (v := 0) X.x X.b dX4_writeMovedRow_6 (by decide) ?_
  refine lv_lstore (lv' := [(4, .long 0), (3, .int (gf_4_parityDisk R nd g m0 row)), (0, .ref a), (1, .int row), (2, .int m0)]) X.x X.b dX4_writeMovedRow_7 hl (by decide) rfl (fun ls hl => ?_)
  refine lv_iconst (v := 0) X.x X.b dX4_writeMovedRow_9 (by decide) ?_
  refine lv_istore (lv' := [(6, .int 0), (4, .long 0), (3, .int (gf_4_parityDisk R nd g m0 row)), (0, .ref a), (1, .int row), (2, .int m0)]) X.x X.b dX4_writeMovedRow_10 hl (by decide) rfl (fun ls hl => ?_)
  have hl : lv_has ls 9 [(6, .int (nI 0)), (4, .long 0), (3, .int (gf_4_parityDisk R nd g m0 row)), (0, .ref a), (1, .int row), (2, .int m0)] := by rw [nI_0]; exact hl
  exact loop12 11 0 0 (gf_4_parityDisk R nd g m0 row) g (by omega) (by omega) (id (by unfold gf_4_writeMovedRow; rfl)) _ _ _ hr hz hlo (lv_sub hl [0, 1, 2, 3, 4, 5] rfl)

def gf_4_moveRow (R nd : Nat) (g : GS)  : GS :=
  if (nI R) ≤ ((g.1 11) + 1) then
    if ((gf_4_setSuper R nd (gf_4_writeMovedRow R nd g (g.1 11) (g.1 10)) (g.1 10) (g.1 10) 0 (-1)).1 1) = 0 then
      gf_4_setSuper R nd (gf_4_writeMovedRow R nd g (g.1 11) (g.1 10)) (g.1 10) (g.1 10) 0 (-1)
    else
      gsi (gf_4_setSuper R nd (gf_4_writeMovedRow R nd g (g.1 11) (g.1 10)) (g.1 10) (g.1 10) 0 (-1)) 6 (((gf_4_setSuper R nd (gf_4_writeMovedRow R nd g (g.1 11) (g.1 10)) (g.1 10) (g.1 10) 0 (-1)).1 6) + 1)
  else
    if ((gf_4_setSuper R nd (gf_4_writeMovedRow R nd g (g.1 11) (g.1 10)) ((gf_4_writeMovedRow R nd g (g.1 11) (g.1 10)).1 9) (g.1 10) ((g.1 11) + 1) (-1)).1 1) = 0 then
      gf_4_setSuper R nd (gf_4_writeMovedRow R nd g (g.1 11) (g.1 10)) ((gf_4_writeMovedRow R nd g (g.1 11) (g.1 10)).1 9) (g.1 10) ((g.1 11) + 1) (-1)
    else
      gsi (gf_4_setSuper R nd (gf_4_writeMovedRow R nd g (g.1 11) (g.1 10)) ((gf_4_writeMovedRow R nd g (g.1 11) (g.1 10)).1 9) (g.1 10) ((g.1 11) + 1) (-1)) 6 (((gf_4_setSuper R nd (gf_4_writeMovedRow R nd g (g.1 11) (g.1 10)) ((gf_4_writeMovedRow R nd g (g.1 11) (g.1 10)).1 9) (g.1 10) ((g.1 11) + 1) (-1)).1 6) + 1)
set_option maxRecDepth 20000 in
set_option maxHeartbeats 4000000 in
theorem gc_4_moveRow (l : Launch) (D : hD) (H0 : Heap) (a R nd : Nat) (g : GS) (h0 : hH) (n : Nat)  (hnd : nd ≤ 10) (hRR : R ≤ 48)  : cM l D H0 yX4_moveRow cX4_moveRow 3 none 4 95 0 0 [.ref a] (gput a R nd g h0) n (cE none (gput a R nd (gf_4_moveRow R nd g) h0) n) := by
  refine h_met (by decide) (Nat.le_of_ble_eq_true rfl) ?_
  intro p e s m below meth c H ls X hnm hr hz hl
  have hl : lv_has ls 3 [(0, .ref a)] := hl
  have hlo : hL H0 ([] : List Loc) := hL.nil
  refine lv_aload_n X.x X.b dX4_moveRow_0 rfl (lv_at hl 0 rfl) ?_
  refine h_get X hr fd_X4_19 gput_o (v := .ref (a + 1)) rfl dX4_moveRow_1 ?_
  refine h_get X hr fd_X4_170 gput_h (v := .int (g.1 11)) rfl dX4_moveRow_4 ?_
  refine lv_istore_n (lv' := [(1, .int (g.1 11)), (0, .ref a)]) X.x X.b dX4_moveRow_7 rfl hl (by decide) rfl (fun ls hl => ?_)
  refine lv_aload_n X.x X.b dX4_moveRow_8 rfl (lv_at hl 1 rfl) ?_
  refine h_get X hr fd_X4_19 gput_o (v := .ref (a + 1)) rfl dX4_moveRow_9 ?_
  refine h_get X hr fd_X4_115 gput_h (v := .int (g.1 10)) rfl dX4_moveRow_12 ?_
  refine lv_istore_n (lv' := [(2, .int (g.1 10)), (1, .int (g.1 11)), (0, .ref a)]) X.x X.b dX4_moveRow_15 rfl hl (by decide) rfl (fun ls hl => ?_)
  refine lv_aload_n X.x X.b dX4_moveRow_16 rfl (lv_at hl 2 rfl) ?_
  refine lv_iload_n X.x X.b dX4_moveRow_17 rfl (lv_at hl 1 rfl) ?_
  refine lv_iload_n X.x X.b dX4_moveRow_18 rfl (lv_at hl 0 rfl) ?_
  refine h_callV X hr hz hlo (rest := []) (gc_4_writeMovedRow l D H0 a R nd g h0 n (g.1 11) (g.1 10) hnd hRR  ) gput_o rfl yv_X4_writeMovedRow ml_X4_288 ⟨(Nat.le_of_ble_eq_true rfl), (Nat.le_of_ble_eq_true rfl)⟩ (Nat.le_of_ble_eq_true rfl) hl.1 ⟨(Nat.le_of_ble_eq_true rfl), (Nat.le_of_ble_eq_true rfl)⟩ rfl dX4_moveRow_19 (fun v9 h9 n9 H locs hp hr hz hlo => ?_)
  obtain ⟨rfl, rfl, rfl⟩ := hp
  show W p l e _ s m _ below meth c H locs _ _ _ (F0 m 22 ls [])
  refine lv_iload_n X.x X.b dX4_moveRow_22 rfl (lv_at hl 1 rfl) ?_
  refine lv_iconst (v := 1) X.x X.b dX4_moveRow_23 (by decide) ?_
  refine lv_iadd X.x X.b dX4_moveRow_24 ?_
  refine lv_aload_n X.x X.b dX4_moveRow_25 rfl (lv_at hl 2 rfl) ?_
  refine h_get X hr fd_X4_13 gput_o (v := .int (nI R)) rfl dX4_moveRow_26 ?_
  refine lv_icmp_ge (tgt := 51) X.x X.b dX4_moveRow_29 (by decide) (fun c29 => ?_) (fun c29 => ?_)
  · refine lv_aload_n X.x X.b dX4_moveRow_51 rfl (lv_at hl 2 rfl) ?_
    refine lv_iload_n X.x X.b dX4_moveRow_52 rfl (lv_at hl 0 rfl) ?_
    refine lv_iload_n X.x X.b dX4_moveRow_53 rfl (lv_at hl 0 rfl) ?_
    refine lv_iconst (v := 0) X.x X.b dX4_moveRow_54 (by decide) ?_
    refine lv_iconst (v := -1) X.x X.b dX4_moveRow_55 (by decide) ?_
    refine h_callV X hr hz hlo (rest := []) (gc_4_setSuper l D H0 a R nd (gf_4_writeMovedRow R nd g (g.1 11) (g.1 10)) h0 n (g.1 10) (g.1 10) 0 (-1) hnd hRR  ) gput_o rfl yv_X4_setSuper ml_X4_128 ⟨(Nat.le_of_ble_eq_true rfl), (Nat.le_of_ble_eq_true rfl)⟩ (Nat.le_of_ble_eq_true rfl) hl.1 ⟨(Nat.le_of_ble_eq_true rfl), (Nat.le_of_ble_eq_true rfl)⟩ rfl dX4_moveRow_56 (fun v9 h9 n9 H locs hp hr hz hlo => ?_)
    obtain ⟨rfl, rfl, rfl⟩ := hp
    show W p l e _ s m _ below meth c H locs _ _ _ (F0 m 59 ls [])
    refine lv_aload_n X.x X.b dX4_moveRow_59 rfl (lv_at hl 2 rfl) ?_
    refine h_get X hr fd_X4_54 gput_o (v := .int ((gf_4_setSuper R nd (gf_4_writeMovedRow R nd g (g.1 11) (g.1 10)) (g.1 10) (g.1 10) 0 (-1)).1 1)) rfl dX4_moveRow_60 ?_
    refine lv_if_eq (tgt := 76) X.x X.b dX4_moveRow_63 (by decide) (fun c63 => ?_) (fun c63 => ?_)
    · exact h_vret X hr hz hlo (glfv (id (by unfold gf_4_moveRow; rw [if_pos c29, if_pos c63]))) (Nat.le_of_ble_eq_true rfl) (Nat.le_of_ble_eq_true rfl) dX4_moveRow_76
    · refine lv_aload_n X.x X.b dX4_moveRow_66 rfl (lv_at hl 2 rfl) ?_
      refine lv_dup X.x X.b dX4_moveRow_67 rfl ?_
      refine h_get X hr fd_X4_218 gput_o (v := .int ((gf_4_setSuper R nd (gf_4_writeMovedRow R nd g (g.1 11) (g.1 10)) (g.1 10) (g.1 10) 0 (-1)).1 6)) rfl dX4_moveRow_68 ?_
      refine lv_iconst (v := 1) X.x X.b dX4_moveRow_71 (by decide) ?_
      refine lv_iadd X.x X.b dX4_moveRow_72 ?_
      refine h_put X hr hz hlo fd_X4_218 tyX4 tyX4_ok nmX4 rfl gput_o (v := .int (((gf_4_setSuper R nd (gf_4_writeMovedRow R nd g (g.1 11) (g.1 10)) (g.1 10) (g.1 10) 0 (-1)).1 6) + 1)) rfl rfl (Nat.le_of_ble_eq_true rfl) dX4_moveRow_73 (fun H locs hr hz hlo => ?_)
      rw [gput_s6] at hr
      exact h_vret X hr hz hlo (glfv (id (by unfold gf_4_moveRow; rw [if_pos c29, if_neg c63]))) (Nat.le_of_ble_eq_true rfl) (Nat.le_of_ble_eq_true rfl) dX4_moveRow_76
  · refine lv_aload_n X.x X.b dX4_moveRow_32 rfl (lv_at hl 2 rfl) ?_
    refine lv_aload_n X.x X.b dX4_moveRow_33 rfl (lv_at hl 2 rfl) ?_
    refine h_get X hr fd_X4_19 gput_o (v := .ref (a + 1)) rfl dX4_moveRow_34 ?_
    refine h_get X hr fd_X4_125 gput_h (v := .int ((gf_4_writeMovedRow R nd g (g.1 11) (g.1 10)).1 9)) rfl dX4_moveRow_37 ?_
    refine lv_iload_n X.x X.b dX4_moveRow_40 rfl (lv_at hl 0 rfl) ?_
    refine lv_iload_n X.x X.b dX4_moveRow_41 rfl (lv_at hl 1 rfl) ?_
    refine lv_iconst (v := 1) X.x X.b dX4_moveRow_42 (by decide) ?_
    refine lv_iadd X.x X.b dX4_moveRow_43 ?_
    refine lv_iconst (v := -1) X.x X.b dX4_moveRow_44 (by decide) ?_
    refine h_callV X hr hz hlo (rest := []) (gc_4_setSuper l D H0 a R nd (gf_4_writeMovedRow R nd g (g.1 11) (g.1 10)) h0 n ((gf_4_writeMovedRow R nd g (g.1 11) (g.1 10)).1 9) (g.1 10) ((g.1 11) + 1) (-1) hnd hRR  ) gput_o rfl yv_X4_setSuper ml_X4_128 ⟨(Nat.le_of_ble_eq_true rfl), (Nat.le_of_ble_eq_true rfl)⟩ (Nat.le_of_ble_eq_true rfl) hl.1 ⟨(Nat.le_of_ble_eq_true rfl), (Nat.le_of_ble_eq_true rfl)⟩ rfl dX4_moveRow_45 (fun v9 h9 n9 H locs hp hr hz hlo => ?_)
    obtain ⟨rfl, rfl, rfl⟩ := hp
    show W p l e _ s m _ below meth c H locs _ _ _ (F0 m 48 ls [])
    refine lv_goto (tgt := 59) X.x X.b dX4_moveRow_48 (by decide) ?_
    refine lv_aload_n X.x X.b dX4_moveRow_59 rfl (lv_at hl 2 rfl) ?_
    refine h_get X hr fd_X4_54 gput_o (v := .int ((gf_4_setSuper R nd (gf_4_writeMovedRow R nd g (g.1 11) (g.1 10)) ((gf_4_writeMovedRow R nd g (g.1 11) (g.1 10)).1 9) (g.1 10) ((g.1 11) + 1) (-1)).1 1)) rfl dX4_moveRow_60 ?_
    refine lv_if_eq (tgt := 76) X.x X.b dX4_moveRow_63 (by decide) (fun c63 => ?_) (fun c63 => ?_)
    · exact h_vret X hr hz hlo (glfv (id (by unfold gf_4_moveRow; rw [if_neg c29, if_pos c63]))) (Nat.le_of_ble_eq_true rfl) (Nat.le_of_ble_eq_true rfl) dX4_moveRow_76
    · refine lv_aload_n X.x X.b dX4_moveRow_66 rfl (lv_at hl 2 rfl) ?_
      refine lv_dup X.x X.b dX4_moveRow_67 rfl ?_
      refine h_get X hr fd_X4_218 gput_o (v := .int ((gf_4_setSuper R nd (gf_4_writeMovedRow R nd g (g.1 11) (g.1 10)) ((gf_4_writeMovedRow R nd g (g.1 11) (g.1 10)).1 9) (g.1 10) ((g.1 11) + 1) (-1)).1 6)) rfl dX4_moveRow_68 ?_
      refine lv_iconst (v := 1) X.x X.b dX4_moveRow_71 (by decide) ?_
      refine lv_iadd X.x X.b dX4_moveRow_72 ?_
      refine h_put X hr hz hlo fd_X4_218 tyX4 tyX4_ok nmX4 rfl gput_o (v := .int (((gf_4_setSuper R nd (gf_4_writeMovedRow R nd g (g.1 11) (g.1 10)) ((gf_4_writeMovedRow R nd g (g.1 11) (g.1 10)).1 9) (g.1 10) ((g.1 11) + 1) (-1)).1 6) + 1)) rfl rfl (Nat.le_of_ble_eq_true rfl) dX4_moveRow_73 (fun H locs hr hz hlo => ?_)
      rw [gput_s6] at hr
      exact h_vret X hr hz hlo (glfv (id (by unfold gf_4_moveRow; rw [if_neg c29, if_neg c63]))) (Nat.le_of_ble_eq_true rfl) (Nat.le_of_ble_eq_true rfl) dX4_moveRow_76

def gg_4_findWhatHolds_4 (R nd : Nat)  : Nat → Nat → Int32 → GS → GS
  | 0, _, _, g1 => g1
  | j + 1, k, gr, g1 =>
    if (nI nd) ≤ (nI k) then
      gsi g1 3 0
    else
      if (gf_4_isLive R nd g1 (nI k)) = 0 then
        gg_4_findWhatHolds_4 R nd  j (k + 1) gr g1
      else
        if (g1.2.1 0 k) ≤ gr then
          gg_4_findWhatHolds_4 R nd  j (k + 1) gr g1
        else
          gg_4_findWhatHolds_4 R nd  j (k + 1) (g1.2.1 0 k) (gf_3_copyFrom_h_s R nd g1 k)
def gf_4_findWhatHolds (R nd : Nat) (g : GS)  : GS :=
  gg_4_findWhatHolds_4 R nd  (nd + 1) 0 0 g
set_option maxRecDepth 20000 in
set_option maxHeartbeats 4000000 in
theorem gc_4_findWhatHolds (l : Launch) (D : hD) (H0 : Heap) (a R nd : Nat) (g : GS) (h0 : hH) (n : Nat)  (hnd : nd ≤ 10) (hRR : R ≤ 48)  : cM l D H0 yX4_findWhatHolds cX4_findWhatHolds 4 none 2 45 0 0 [.ref a] (gput a R nd g h0) n (cE none (gput a R nd (gf_4_findWhatHolds R nd g) h0) n) := by
  refine h_met (by decide) (Nat.le_of_ble_eq_true rfl) ?_
  intro p e s m below meth c H ls X hnm hr hz hl
  have hl : lv_has ls 4 [(0, .ref a)] := hl
  have hlo : hL H0 ([] : List Loc) := hL.nil
  have loop4 : ∀ (j k : Nat) (gr : Int32) (g1 : GS) (hk : k ≤ nd) (hj : nd < k + j) (hG : gf_4_findWhatHolds R nd g = gg_4_findWhatHolds_4 R nd  j k gr g1) (H : Heap) (locs : List Loc) (ls : Array Slot), hR D H0 (gput a R nd g1 h0) H → H.size = n → hL H0 locs → lv_has ls 4 [(2, .int (nI k)), (1, .int gr), (0, .ref a)] → W p l e (rmk 2 45 0 0) s m ([.ref a] : List Value).toArray below meth c H locs 0 0 (MQ below (cQ D H0 (cE none (gput a R nd (gf_4_findWhatHolds R nd g) h0) n)) ([.ref a] : List Value).toArray s 0 0 (hF H0)) (F0 m 4 ls []) := by
    intro j
    induction j with
    | zero => intro k gr g1 hk hj; omega
    | succ j ih =>
      intro k gr g1 hk hj hG H locs ls hr hz hlo hl
      refine lv_iload_n X.x X.b dX4_findWhatHolds_4 rfl (lv_at hl 0 rfl) ?_
      refine lv_aload_n X.x X.b dX4_findWhatHolds_5 rfl (lv_at hl 2 rfl) ?_
      refine h_get X hr fd_X4_7 gput_o (v := .int (nI nd)) rfl dX4_findWhatHolds_6 ?_
      refine lv_icmp_ge (tgt := 57) X.x X.b dX4_findWhatHolds_9 (by decide) (fun c9 => ?_) (fun c9 => ?_)
      · refine lv_aload_n X.x X.b dX4_findWhatHolds_57 rfl (lv_at hl 2 rfl) ?_
        refine lv_iconst (v := 0) X.x X.b dX4_findWhatHolds_58 (by decide) ?_
        refine h_put X hr hz hlo fd_X4_159 tyX4 tyX4_ok nmX4 rfl gput_o (v := .int 0) rfl rfl (Nat.le_of_ble_eq_true rfl) dX4_findWhatHolds_59 (fun H locs hr hz hlo => ?_)
        rw [gput_s3] at hr
        exact h_vret X hr hz hlo (glfv (hG.trans (by rw [gg_4_findWhatHolds_4]; rw [if_pos c9]))) (Nat.le_of_ble_eq_true rfl) (Nat.le_of_ble_eq_true rfl) dX4_findWhatHolds_62
      · have hk9 : k < nd := nd_lt c9 (by omega)
        refine lv_aload_n X.x X.b dX4_findWhatHolds_12 rfl (lv_at hl 2 rfl) ?_
        refine h_get X hr fd_X4_40 gput_o (v := .ref (a + 4)) rfl dX4_findWhatHolds_13 ?_
        refine lv_iload_n X.x X.b dX4_findWhatHolds_16 rfl (lv_at hl 0 rfl) ?_
        refine h_aald X hr gput_k (vp_in_nI (by omega) (by omega)) (v := .ref (aD a k)) (by rw [nI_clamp (n := k) (by omega)]) dX4_findWhatHolds_17 ?_
        refine h_get X hr fd_X4_47 (gput_aD (show k < 10 by omega)) (v := .ref (aS a k)) rfl dX4_findWhatHolds_18 ?_
        refine lv_astore_n (lv' := [(3, .ref (aS a k)), (2, .int (nI k)), (1, .int gr), (0, .ref a)]) X.x X.b dX4_findWhatHolds_21 rfl hl (by decide) rfl (fun ls hl => ?_)
        refine lv_aload_n X.x X.b dX4_findWhatHolds_22 rfl (lv_at hl 3 rfl) ?_
        refine lv_iload_n X.x X.b dX4_findWhatHolds_23 rfl (lv_at hl 1 rfl) ?_
        refine h_callV X hr hz hlo (rest := []) (gc_4_isLive l D H0 a R nd g1 h0 n (nI k) hnd hRR  ) gput_o rfl yv_X4_isLive ml_X4_257 ⟨(Nat.le_of_ble_eq_true rfl), (Nat.le_of_ble_eq_true rfl)⟩ (Nat.le_of_ble_eq_true rfl) hl.1 ⟨(Nat.le_of_ble_eq_true rfl), (Nat.le_of_ble_eq_true rfl)⟩ rfl dX4_findWhatHolds_24 (fun v9 h9 n9 H locs hp hr hz hlo => ?_)
        obtain ⟨rfl, rfl, rfl⟩ := hp
        show W p l e _ s m _ below meth c H locs _ _ _ (F0 m 27 ls [.int (gf_4_isLive R nd g1 (nI k))])
        refine lv_if_eq (tgt := 51) X.x X.b dX4_findWhatHolds_27 (by decide) (fun c27 => ?_) (fun c27 => ?_)
        · refine lv_iinc (v := nI (k + 1)) (lv' := [(2, .int (nI (k + 1))), (3, .ref (aS a k)), (1, .int gr), (0, .ref a)]) X.x X.b dX4_findWhatHolds_51 hl (k := 1) rfl (nI_1 k) (by decide) rfl (fun ls hl => ?_)
          refine lv_goto (tgt := 4) X.x X.b dX4_findWhatHolds_54 (by decide) ?_
          exact ih (k + 1) gr g1 (by omega) (by omega) (hG.trans (by rw [gg_4_findWhatHolds_4]; rw [if_neg c9, if_pos c27])) _ _ _ hr hz hlo (lv_sub hl [0, 2, 3] rfl)
        · refine lv_aload_n X.x X.b dX4_findWhatHolds_30 rfl (lv_at hl 0 rfl) ?_
          refine h_get X hr fd_X4_81 (gput_aS (show k < 10 by omega)) (v := .int (g1.2.1 0 k)) rfl dX4_findWhatHolds_31 ?_
          refine lv_iload_n X.x X.b dX4_findWhatHolds_34 rfl (lv_at hl 2 rfl) ?_
          refine lv_icmp_le (tgt := 51) X.x X.b dX4_findWhatHolds_35 (by decide) (fun c35 => ?_) (fun c35 => ?_)
          · refine lv_iinc (v := nI (k + 1)) (lv' := [(2, .int (nI (k + 1))), (3, .ref (aS a k)), (1, .int gr), (0, .ref a)]) X.x X.b dX4_findWhatHolds_51 hl (k := 1) rfl (nI_1 k) (by decide) rfl (fun ls hl => ?_)
            refine lv_goto (tgt := 4) X.x X.b dX4_findWhatHolds_54 (by decide) ?_
            exact ih (k + 1) gr g1 (by omega) (by omega) (hG.trans (by rw [gg_4_findWhatHolds_4]; rw [if_neg c9, if_neg c27, if_pos c35])) _ _ _ hr hz hlo (lv_sub hl [0, 2, 3] rfl)
          · refine lv_aload_n X.x X.b dX4_findWhatHolds_38 rfl (lv_at hl 0 rfl) ?_
            refine h_get X hr fd_X4_81 (gput_aS (show k < 10 by omega)) (v := .int (g1.2.1 0 k)) rfl dX4_findWhatHolds_39 ?_
            refine lv_istore_n (lv' := [(1, .int (g1.2.1 0 k)), (3, .ref (aS a k)), (2, .int (nI k)), (0, .ref a)]) X.x X.b dX4_findWhatHolds_42 rfl hl (by decide) rfl (fun ls hl => ?_)
            refine lv_aload_n X.x X.b dX4_findWhatHolds_43 rfl (lv_at hl 3 rfl) ?_
            refine h_get X hr fd_X4_19 gput_o (v := .ref (a + 1)) rfl dX4_findWhatHolds_44 ?_
            refine lv_aload_n X.x X.b dX4_findWhatHolds_47 rfl (lv_at hl 1 rfl) ?_
            refine h_callV X hr hz hlo (rest := []) (gc_3_copyFrom_h_s l D H0 a R nd g1 h0 n k hnd hRR (show k < 10 by omega) ) gput_h rfl yv_X3_copyFrom ml_X4_50 ⟨(Nat.le_of_ble_eq_true rfl), (Nat.le_of_ble_eq_true rfl)⟩ (Nat.le_of_ble_eq_true rfl) hl.1 ⟨(Nat.le_of_ble_eq_true rfl), (Nat.le_of_ble_eq_true rfl)⟩ rfl dX4_findWhatHolds_48 (fun v9 h9 n9 H locs hp hr hz hlo => ?_)
            obtain ⟨rfl, rfl, rfl⟩ := hp
            show W p l e _ s m _ below meth c H locs _ _ _ (F0 m 51 ls [])
            refine lv_iinc (v := nI (k + 1)) (lv' := [(2, .int (nI (k + 1))), (1, .int (g1.2.1 0 k)), (3, .ref (aS a k)), (0, .ref a)]) X.x X.b dX4_findWhatHolds_51 hl (k := 2) rfl (nI_1 k) (by decide) rfl (fun ls hl => ?_)
            refine lv_goto (tgt := 4) X.x X.b dX4_findWhatHolds_54 (by decide) ?_
            exact ih (k + 1) (g1.2.1 0 k) (gf_3_copyFrom_h_s R nd g1 k) (by omega) (by omega) (hG.trans (by rw [gg_4_findWhatHolds_4]; rw [if_neg c9, if_neg c27, if_neg c35])) _ _ _ hr hz hlo (lv_sub hl [0, 1, 3] rfl)
  refine lv_iconst (v := 0) X.x X.b dX4_findWhatHolds_0 (by decide) ?_
  refine lv_istore_n (lv' := [(1, .int 0), (0, .ref a)]) X.x X.b dX4_findWhatHolds_1 rfl hl (by decide) rfl (fun ls hl => ?_)
  refine lv_iconst (v := 0) X.x X.b dX4_findWhatHolds_2 (by decide) ?_
  refine lv_istore_n (lv' := [(2, .int 0), (1, .int 0), (0, .ref a)]) X.x X.b dX4_findWhatHolds_3 rfl hl (by decide) rfl (fun ls hl => ?_)
  have hl : lv_has ls 4 [(2, .int (nI 0)), (1, .int 0), (0, .ref a)] := by rw [nI_0]; exact hl
  exact loop4 (nd + 1) 0 0 g (by omega) (by omega) (id (by unfold gf_4_findWhatHolds; rfl)) _ _ _ hr hz hlo (lv_sub hl [0, 1, 2] rfl)

def gg_4_levelSupers_2 (R nd : Nat)  : Nat → Nat → GS → GS
  | 0, _, g1 => g1
  | j + 1, k, g1 =>
    if (nI nd) ≤ (nI k) then
      g1
    else
      if (g1.2.1 0 k) = (g1.1 8) then
        if (gf_4_isLive R nd g1 (nI k)) = 0 then
          gg_4_levelSupers_2 R nd  j (k + 1)  g1
        else
          gg_4_levelSupers_2 R nd  j (k + 1)  g1
      else
        if (gf_4_isLive R nd g1 (nI k)) = 0 then
          gg_4_levelSupers_2 R nd  j (k + 1)  g1
        else
          if ((gf_4_spendWrite R nd g1).1) = 0 then
            gg_4_levelSupers_2 R nd  j (k + 1)  ((gf_4_spendWrite R nd g1).2)
          else
            gg_4_levelSupers_2 R nd  j (k + 1)  (gf_1_takeSuper__d_h R nd ((gf_4_spendWrite R nd g1).2) k)
def gf_4_levelSupers (R nd : Nat) (g : GS)  : GS :=
  gg_4_levelSupers_2 R nd  (nd + 1) 0  g
set_option maxRecDepth 20000 in
set_option maxHeartbeats 4000000 in
theorem gc_4_levelSupers (l : Launch) (D : hD) (H0 : Heap) (a R nd : Nat) (g : GS) (h0 : hH) (n : Nat)  (hnd : nd ≤ 10) (hRR : R ≤ 48)  : cM l D H0 yX4_levelSupers cX4_levelSupers 3 none 3 66 0 0 [.ref a] (gput a R nd g h0) n (cE none (gput a R nd (gf_4_levelSupers R nd g) h0) n) := by
  refine h_met (by decide) (Nat.le_of_ble_eq_true rfl) ?_
  intro p e s m below meth c H ls X hnm hr hz hl
  have hl : lv_has ls 3 [(0, .ref a)] := hl
  have hlo : hL H0 ([] : List Loc) := hL.nil
  have loop2 : ∀ (j k : Nat)  (g1 : GS) (hk : k ≤ nd) (hj : nd < k + j) (hG : gf_4_levelSupers R nd g = gg_4_levelSupers_2 R nd  j k g1) (H : Heap) (locs : List Loc) (ls : Array Slot), hR D H0 (gput a R nd g1 h0) H → H.size = n → hL H0 locs → lv_has ls 3 [(1, .int (nI k)), (0, .ref a)] → W p l e (rmk 3 66 0 0) s m ([.ref a] : List Value).toArray below meth c H locs 0 0 (MQ below (cQ D H0 (cE none (gput a R nd (gf_4_levelSupers R nd g) h0) n)) ([.ref a] : List Value).toArray s 0 0 (hF H0)) (F0 m 2 ls []) := by
    intro j
    induction j with
    | zero => intro k g1 hk hj; omega
    | succ j ih =>
      intro k g1 hk hj hG H locs ls hr hz hlo hl
      refine lv_iload_n X.x X.b dX4_levelSupers_2 rfl (lv_at hl 0 rfl) ?_
      refine lv_aload_n X.x X.b dX4_levelSupers_3 rfl (lv_at hl 1 rfl) ?_
      refine h_get X hr fd_X4_7 gput_o (v := .int (nI nd)) rfl dX4_levelSupers_4 ?_
      refine lv_icmp_ge (tgt := 76) X.x X.b dX4_levelSupers_7 (by decide) (fun c7 => ?_) (fun c7 => ?_)
      · exact h_vret X hr hz hlo (glfv (hG.trans (by rw [gg_4_levelSupers_2]; rw [if_pos c7]))) (Nat.le_of_ble_eq_true rfl) (Nat.le_of_ble_eq_true rfl) dX4_levelSupers_76
      · have hk9 : k < nd := nd_lt c7 (by omega)
        refine lv_aload_n X.x X.b dX4_levelSupers_10 rfl (lv_at hl 1 rfl) ?_
        refine h_get X hr fd_X4_40 gput_o (v := .ref (a + 4)) rfl dX4_levelSupers_11 ?_
        refine lv_iload_n X.x X.b dX4_levelSupers_14 rfl (lv_at hl 0 rfl) ?_
        refine h_aald X hr gput_k (vp_in_nI (by omega) (by omega)) (v := .ref (aD a k)) (by rw [nI_clamp (n := k) (by omega)]) dX4_levelSupers_15 ?_
        refine h_get X hr fd_X4_47 (gput_aD (show k < 10 by omega)) (v := .ref (aS a k)) rfl dX4_levelSupers_16 ?_
        refine h_get X hr fd_X4_81 (gput_aS (show k < 10 by omega)) (v := .int (g1.2.1 0 k)) rfl dX4_levelSupers_19 ?_
        refine lv_aload_n X.x X.b dX4_levelSupers_22 rfl (lv_at hl 1 rfl) ?_
        refine h_get X hr fd_X4_19 gput_o (v := .ref (a + 1)) rfl dX4_levelSupers_23 ?_
        refine h_get X hr fd_X4_81 gput_h (v := .int (g1.1 8)) rfl dX4_levelSupers_26 ?_
        refine lv_icmp_eq (tgt := 36) X.x X.b dX4_levelSupers_29 (by decide) (fun c29 => ?_) (fun c29 => ?_)
        · refine lv_iconst (v := 0) X.x X.b dX4_levelSupers_36 (by decide) ?_
          refine lv_istore_n (lv' := [(2, .int 0), (1, .int (nI k)), (0, .ref a)]) X.x X.b dX4_levelSupers_37 rfl hl (by decide) rfl (fun ls hl => ?_)
          refine lv_aload_n X.x X.b dX4_levelSupers_38 rfl (lv_at hl 2 rfl) ?_
          refine lv_iload_n X.x X.b dX4_levelSupers_39 rfl (lv_at hl 1 rfl) ?_
          refine h_callV X hr hz hlo (rest := []) (gc_4_isLive l D H0 a R nd g1 h0 n (nI k) hnd hRR  ) gput_o rfl yv_X4_isLive ml_X4_257 ⟨(Nat.le_of_ble_eq_true rfl), (Nat.le_of_ble_eq_true rfl)⟩ (Nat.le_of_ble_eq_true rfl) hl.1 ⟨(Nat.le_of_ble_eq_true rfl), (Nat.le_of_ble_eq_true rfl)⟩ rfl dX4_levelSupers_40 (fun v9 h9 n9 H locs hp hr hz hlo => ?_)
          obtain ⟨rfl, rfl, rfl⟩ := hp
          show W p l e _ s m _ below meth c H locs _ _ _ (F0 m 43 ls [.int (gf_4_isLive R nd g1 (nI k))])
          refine lv_if_eq (tgt := 70) X.x X.b dX4_levelSupers_43 (by decide) (fun c43 => ?_) (fun c43 => ?_)
          · refine lv_iinc (v := nI (k + 1)) (lv' := [(1, .int (nI (k + 1))), (2, .int 0), (0, .ref a)]) X.x X.b dX4_levelSupers_70 hl (k := 1) rfl (nI_1 k) (by decide) rfl (fun ls hl => ?_)
            refine lv_goto (tgt := 2) X.x X.b dX4_levelSupers_73 (by decide) ?_
            exact ih (k + 1)  g1 (by omega) (by omega) (hG.trans (by rw [gg_4_levelSupers_2]; rw [if_neg c7, if_pos c29, if_pos c43])) _ _ _ hr hz hlo (lv_sub hl [0, 2] rfl)
          · refine lv_iload_n X.x X.b dX4_levelSupers_46 rfl (lv_at hl 0 rfl) ?_
            refine lv_if_eq (tgt := 70) X.x X.b dX4_levelSupers_47 (by decide) (fun c47 => ?_) (fun c47 => ?_)
            · refine lv_iinc (v := nI (k + 1)) (lv' := [(1, .int (nI (k + 1))), (2, .int 0), (0, .ref a)]) X.x X.b dX4_levelSupers_70 hl (k := 1) rfl (nI_1 k) (by decide) rfl (fun ls hl => ?_)
              refine lv_goto (tgt := 2) X.x X.b dX4_levelSupers_73 (by decide) ?_
              exact ih (k + 1)  g1 (by omega) (by omega) (hG.trans (by rw [gg_4_levelSupers_2]; rw [if_neg c7, if_pos c29, if_neg c43])) _ _ _ hr hz hlo (lv_sub hl [0, 2] rfl)
            · exact absurd (by decide) c47
        · refine lv_iconst (v := 1) X.x X.b dX4_levelSupers_32 (by decide) ?_
          refine lv_goto (tgt := 37) X.x X.b dX4_levelSupers_33 (by decide) ?_
          refine lv_istore_n (lv' := [(2, .int 1), (1, .int (nI k)), (0, .ref a)]) X.x X.b dX4_levelSupers_37 rfl hl (by decide) rfl (fun ls hl => ?_)
          refine lv_aload_n X.x X.b dX4_levelSupers_38 rfl (lv_at hl 2 rfl) ?_
          refine lv_iload_n X.x X.b dX4_levelSupers_39 rfl (lv_at hl 1 rfl) ?_
          refine h_callV X hr hz hlo (rest := []) (gc_4_isLive l D H0 a R nd g1 h0 n (nI k) hnd hRR  ) gput_o rfl yv_X4_isLive ml_X4_257 ⟨(Nat.le_of_ble_eq_true rfl), (Nat.le_of_ble_eq_true rfl)⟩ (Nat.le_of_ble_eq_true rfl) hl.1 ⟨(Nat.le_of_ble_eq_true rfl), (Nat.le_of_ble_eq_true rfl)⟩ rfl dX4_levelSupers_40 (fun v9 h9 n9 H locs hp hr hz hlo => ?_)
          obtain ⟨rfl, rfl, rfl⟩ := hp
          show W p l e _ s m _ below meth c H locs _ _ _ (F0 m 43 ls [.int (gf_4_isLive R nd g1 (nI k))])
          refine lv_if_eq (tgt := 70) X.x X.b dX4_levelSupers_43 (by decide) (fun c43 => ?_) (fun c43 => ?_)
          · refine lv_iinc (v := nI (k + 1)) (lv' := [(1, .int (nI (k + 1))), (2, .int 1), (0, .ref a)]) X.x X.b dX4_levelSupers_70 hl (k := 1) rfl (nI_1 k) (by decide) rfl (fun ls hl => ?_)
            refine lv_goto (tgt := 2) X.x X.b dX4_levelSupers_73 (by decide) ?_
            exact ih (k + 1)  g1 (by omega) (by omega) (hG.trans (by rw [gg_4_levelSupers_2]; rw [if_neg c7, if_neg c29, if_pos c43])) _ _ _ hr hz hlo (lv_sub hl [0, 2] rfl)
          · refine lv_iload_n X.x X.b dX4_levelSupers_46 rfl (lv_at hl 0 rfl) ?_
            refine lv_if_eq (tgt := 70) X.x X.b dX4_levelSupers_47 (by decide) (fun c47 => ?_) (fun c47 => ?_)
            · exact absurd c47 (by decide)
            · refine lv_aload_n X.x X.b dX4_levelSupers_50 rfl (lv_at hl 2 rfl) ?_
              refine h_callV X hr hz hlo (rest := []) (gc_4_spendWrite l D H0 a R nd g1 h0 n  hnd hRR  ) gput_o rfl yv_X4_spendWrite ml_X4_108 ⟨(Nat.le_of_ble_eq_true rfl), (Nat.le_of_ble_eq_true rfl)⟩ (Nat.le_of_ble_eq_true rfl) hl.1 ⟨(Nat.le_of_ble_eq_true rfl), (Nat.le_of_ble_eq_true rfl)⟩ rfl dX4_levelSupers_51 (fun v9 h9 n9 H locs hp hr hz hlo => ?_)
              obtain ⟨rfl, rfl, rfl⟩ := hp
              show W p l e _ s m _ below meth c H locs _ _ _ (F0 m 54 ls [.int ((gf_4_spendWrite R nd g1).1)])
              refine lv_if_eq (tgt := 70) X.x X.b dX4_levelSupers_54 (by decide) (fun c54 => ?_) (fun c54 => ?_)
              · refine lv_iinc (v := nI (k + 1)) (lv' := [(1, .int (nI (k + 1))), (2, .int 1), (0, .ref a)]) X.x X.b dX4_levelSupers_70 hl (k := 1) rfl (nI_1 k) (by decide) rfl (fun ls hl => ?_)
                refine lv_goto (tgt := 2) X.x X.b dX4_levelSupers_73 (by decide) ?_
                exact ih (k + 1)  ((gf_4_spendWrite R nd g1).2) (by omega) (by omega) (hG.trans (by rw [gg_4_levelSupers_2]; rw [if_neg c7, if_neg c29, if_neg c43, if_pos c54])) _ _ _ hr hz hlo (lv_sub hl [0, 2] rfl)
              · refine lv_aload_n X.x X.b dX4_levelSupers_57 rfl (lv_at hl 2 rfl) ?_
                refine h_get X hr fd_X4_40 gput_o (v := .ref (a + 4)) rfl dX4_levelSupers_58 ?_
                refine lv_iload_n X.x X.b dX4_levelSupers_61 rfl (lv_at hl 1 rfl) ?_
                refine h_aald X hr gput_k (vp_in_nI (by omega) (by omega)) (v := .ref (aD a k)) (by rw [nI_clamp (n := k) (by omega)]) dX4_levelSupers_62 ?_
                refine lv_aload_n X.x X.b dX4_levelSupers_63 rfl (lv_at hl 2 rfl) ?_
                refine h_get X hr fd_X4_19 gput_o (v := .ref (a + 1)) rfl dX4_levelSupers_64 ?_
                refine h_callV X hr hz hlo (rest := []) (gc_1_takeSuper__d_h l D H0 a R nd ((gf_4_spendWrite R nd g1).2) h0 n k hnd hRR (show k < 10 by omega) ) (gput_aD (show k < 10 by omega)) rfl yv_X1_takeSuper_ ml_X4_112 ⟨(Nat.le_of_ble_eq_true rfl), (Nat.le_of_ble_eq_true rfl)⟩ (Nat.le_of_ble_eq_true rfl) hl.1 ⟨(Nat.le_of_ble_eq_true rfl), (Nat.le_of_ble_eq_true rfl)⟩ rfl dX4_levelSupers_67 (fun v9 h9 n9 H locs hp hr hz hlo => ?_)
                obtain ⟨rfl, rfl, rfl⟩ := hp
                show W p l e _ s m _ below meth c H locs _ _ _ (F0 m 70 ls [])
                refine lv_iinc (v := nI (k + 1)) (lv' := [(1, .int (nI (k + 1))), (2, .int 1), (0, .ref a)]) X.x X.b dX4_levelSupers_70 hl (k := 1) rfl (nI_1 k) (by decide) rfl (fun ls hl => ?_)
                refine lv_goto (tgt := 2) X.x X.b dX4_levelSupers_73 (by decide) ?_
                exact ih (k + 1)  (gf_1_takeSuper__d_h R nd ((gf_4_spendWrite R nd g1).2) k) (by omega) (by omega) (hG.trans (by rw [gg_4_levelSupers_2]; rw [if_neg c7, if_neg c29, if_neg c43, if_neg c54])) _ _ _ hr hz hlo (lv_sub hl [0, 2] rfl)
  refine lv_iconst (v := 0) X.x X.b dX4_levelSupers_0 (by decide) ?_
  refine lv_istore_n (lv' := [(1, .int 0), (0, .ref a)]) X.x X.b dX4_levelSupers_1 rfl hl (by decide) rfl (fun ls hl => ?_)
  have hl : lv_has ls 3 [(1, .int (nI 0)), (0, .ref a)] := by rw [nI_0]; exact hl
  exact loop2 (nd + 1) 0  g (by omega) (by omega) (id (by unfold gf_4_levelSupers; rfl)) _ _ _ hr hz hlo (lv_sub hl [0, 1] rfl)

def gg_4_replayJournal_4 (R nd : Nat)  : Nat → Nat → Int32 → GS → Int32 × GS
  | 0, _, _, g1 => (0, g1)
  | j + 1, k, la, g1 =>
    if (nI nd) ≤ (nI k) then
      if la = 0 then
        (0, g1)
      else
        (1, gf_4_carryOutOrder R nd g1)
    else
      if (gf_4_isLive R nd g1 (nI k)) = 0 then
        gg_4_replayJournal_4 R nd  j (k + 1) la g1
      else
        if (g1.2.1 4 k) = (g1.1 8) then
          if (g1.2.1 5 k) ≤ la then
            gg_4_replayJournal_4 R nd  j (k + 1) la g1
          else
            gg_4_replayJournal_4 R nd  j (k + 1) (g1.2.1 5 k) (gf_2_copyFrom_r_j R nd g1 k)
        else
          gg_4_replayJournal_4 R nd  j (k + 1) la g1
def gf_4_replayJournal (R nd : Nat) (g : GS)  : Int32 × GS :=
  gg_4_replayJournal_4 R nd  (nd + 1) 0 0 g
set_option maxRecDepth 20000 in
set_option maxHeartbeats 4000000 in
theorem gc_4_replayJournal (l : Launch) (D : hD) (H0 : Heap) (a R nd : Nat) (g : GS) (h0 : hH) (n : Nat)  (hnd : nd ≤ 10) (hRR : R ≤ 48)  : cM l D H0 yX4_replayJournal cX4_replayJournal 4 (some .boolean) 4 89 0 0 [.ref a] (gput a R nd g h0) n (cE (some (.int (gf_4_replayJournal R nd g).1)) (gput a R nd (gf_4_replayJournal R nd g).2 h0) n) := by
  refine h_met (by decide) (Nat.le_of_ble_eq_true rfl) ?_
  intro p e s m below meth c H ls X hnm hr hz hl
  have hl : lv_has ls 4 [(0, .ref a)] := hl
  have hlo : hL H0 ([] : List Loc) := hL.nil
  have loop4 : ∀ (j k : Nat) (la : Int32) (g1 : GS) (hk : k ≤ nd) (hj : nd < k + j) (hG : gf_4_replayJournal R nd g = gg_4_replayJournal_4 R nd  j k la g1) (H : Heap) (locs : List Loc) (ls : Array Slot), hR D H0 (gput a R nd g1 h0) H → H.size = n → hL H0 locs → lv_has ls 4 [(2, .int (nI k)), (1, .int la), (0, .ref a)] → W p l e (rmk 4 89 0 0) s m ([.ref a] : List Value).toArray below meth c H locs 0 0 (MQ below (cQ D H0 (cE (some (.int (gf_4_replayJournal R nd g).1)) (gput a R nd (gf_4_replayJournal R nd g).2 h0) n)) ([.ref a] : List Value).toArray s 0 0 (hF H0)) (F0 m 4 ls []) := by
    intro j
    induction j with
    | zero => intro k la g1 hk hj; omega
    | succ j ih =>
      intro k la g1 hk hj hG H locs ls hr hz hlo hl
      refine lv_iload_n X.x X.b dX4_replayJournal_4 rfl (lv_at hl 0 rfl) ?_
      refine lv_aload_n X.x X.b dX4_replayJournal_5 rfl (lv_at hl 2 rfl) ?_
      refine h_get X hr fd_X4_7 gput_o (v := .int (nI nd)) rfl dX4_replayJournal_6 ?_
      refine lv_icmp_ge (tgt := 71) X.x X.b dX4_replayJournal_9 (by decide) (fun c9 => ?_) (fun c9 => ?_)
      · refine lv_iload_n X.x X.b dX4_replayJournal_71 rfl (lv_at hl 1 rfl) ?_
        refine lv_if_ne (tgt := 77) X.x X.b dX4_replayJournal_72 (by decide) (fun c72 => ?_) (fun c72 => ?_)
        · refine lv_aload_n X.x X.b dX4_replayJournal_77 rfl (lv_at hl 2 rfl) ?_
          refine h_callV X hr hz hlo (rest := []) (gc_4_carryOutOrder l D H0 a R nd g1 h0 n  hnd hRR  ) gput_o rfl yv_X4_carryOutOrder ml_X4_101 ⟨(Nat.le_of_ble_eq_true rfl), (Nat.le_of_ble_eq_true rfl)⟩ (Nat.le_of_ble_eq_true rfl) hl.1 ⟨(Nat.le_of_ble_eq_true rfl), (Nat.le_of_ble_eq_true rfl)⟩ rfl dX4_replayJournal_78 (fun v9 h9 n9 H locs hp hr hz hlo => ?_)
          obtain ⟨rfl, rfl, rfl⟩ := hp
          show W p l e _ s m _ below meth c H locs _ _ _ (F0 m 81 ls [])
          refine lv_iconst (v := 1) X.x X.b dX4_replayJournal_81 (by decide) ?_
          exact h_zret X hr hz hlo rfl (glfi (hG.trans (by rw [gg_4_replayJournal_4]; rw [if_pos c9, if_neg c72]))) (Nat.le_of_ble_eq_true rfl) (Nat.le_of_ble_eq_true rfl) dX4_replayJournal_82
        · refine lv_iconst (v := 0) X.x X.b dX4_replayJournal_75 (by decide) ?_
          exact h_zret X hr hz hlo rfl (glfi (hG.trans (by rw [gg_4_replayJournal_4]; rw [if_pos c9, if_pos c72]))) (Nat.le_of_ble_eq_true rfl) (Nat.le_of_ble_eq_true rfl) dX4_replayJournal_76
      · have hk9 : k < nd := nd_lt c9 (by omega)
        refine lv_aload_n X.x X.b dX4_replayJournal_12 rfl (lv_at hl 2 rfl) ?_
        refine h_get X hr fd_X4_40 gput_o (v := .ref (a + 4)) rfl dX4_replayJournal_13 ?_
        refine lv_iload_n X.x X.b dX4_replayJournal_16 rfl (lv_at hl 0 rfl) ?_
        refine h_aald X hr gput_k (vp_in_nI (by omega) (by omega)) (v := .ref (aD a k)) (by rw [nI_clamp (n := k) (by omega)]) dX4_replayJournal_17 ?_
        refine h_get X hr fd_X4_197 (gput_aD (show k < 10 by omega)) (v := .ref (aJ a k)) rfl dX4_replayJournal_18 ?_
        refine lv_astore_n (lv' := [(3, .ref (aJ a k)), (2, .int (nI k)), (1, .int la), (0, .ref a)]) X.x X.b dX4_replayJournal_21 rfl hl (by decide) rfl (fun ls hl => ?_)
        refine lv_aload_n X.x X.b dX4_replayJournal_22 rfl (lv_at hl 3 rfl) ?_
        refine lv_iload_n X.x X.b dX4_replayJournal_23 rfl (lv_at hl 1 rfl) ?_
        refine h_callV X hr hz hlo (rest := []) (gc_4_isLive l D H0 a R nd g1 h0 n (nI k) hnd hRR  ) gput_o rfl yv_X4_isLive ml_X4_257 ⟨(Nat.le_of_ble_eq_true rfl), (Nat.le_of_ble_eq_true rfl)⟩ (Nat.le_of_ble_eq_true rfl) hl.1 ⟨(Nat.le_of_ble_eq_true rfl), (Nat.le_of_ble_eq_true rfl)⟩ rfl dX4_replayJournal_24 (fun v9 h9 n9 H locs hp hr hz hlo => ?_)
        obtain ⟨rfl, rfl, rfl⟩ := hp
        show W p l e _ s m _ below meth c H locs _ _ _ (F0 m 27 ls [.int (gf_4_isLive R nd g1 (nI k))])
        refine lv_if_eq (tgt := 65) X.x X.b dX4_replayJournal_27 (by decide) (fun c27 => ?_) (fun c27 => ?_)
        · refine lv_iinc (v := nI (k + 1)) (lv' := [(2, .int (nI (k + 1))), (3, .ref (aJ a k)), (1, .int la), (0, .ref a)]) X.x X.b dX4_replayJournal_65 hl (k := 1) rfl (nI_1 k) (by decide) rfl (fun ls hl => ?_)
          refine lv_goto (tgt := 4) X.x X.b dX4_replayJournal_68 (by decide) ?_
          exact ih (k + 1) la g1 (by omega) (by omega) (hG.trans (by rw [gg_4_replayJournal_4]; rw [if_neg c9, if_pos c27])) _ _ _ hr hz hlo (lv_sub hl [0, 2, 3] rfl)
        · refine lv_aload_n X.x X.b dX4_replayJournal_30 rfl (lv_at hl 0 rfl) ?_
          refine h_get X hr fd_X4_292 (gput_aJ (show k < 10 by omega)) (v := .int (g1.2.1 4 k)) rfl dX4_replayJournal_31 ?_
          refine lv_aload_n X.x X.b dX4_replayJournal_34 rfl (lv_at hl 3 rfl) ?_
          refine h_get X hr fd_X4_19 gput_o (v := .ref (a + 1)) rfl dX4_replayJournal_35 ?_
          refine h_get X hr fd_X4_81 gput_h (v := .int (g1.1 8)) rfl dX4_replayJournal_38 ?_
          refine lv_icmp_ne (tgt := 65) X.x X.b dX4_replayJournal_41 (by decide) (fun c41 => ?_) (fun c41 => ?_)
          · refine lv_iinc (v := nI (k + 1)) (lv' := [(2, .int (nI (k + 1))), (3, .ref (aJ a k)), (1, .int la), (0, .ref a)]) X.x X.b dX4_replayJournal_65 hl (k := 1) rfl (nI_1 k) (by decide) rfl (fun ls hl => ?_)
            refine lv_goto (tgt := 4) X.x X.b dX4_replayJournal_68 (by decide) ?_
            exact ih (k + 1) la g1 (by omega) (by omega) (hG.trans (by rw [gg_4_replayJournal_4]; rw [if_neg c9, if_neg c27, if_neg c41])) _ _ _ hr hz hlo (lv_sub hl [0, 2, 3] rfl)
          · refine lv_aload_n X.x X.b dX4_replayJournal_44 rfl (lv_at hl 0 rfl) ?_
            refine h_get X hr fd_X4_200 (gput_aJ (show k < 10 by omega)) (v := .int (g1.2.1 5 k)) rfl dX4_replayJournal_45 ?_
            refine lv_iload_n X.x X.b dX4_replayJournal_48 rfl (lv_at hl 2 rfl) ?_
            refine lv_icmp_le (tgt := 65) X.x X.b dX4_replayJournal_49 (by decide) (fun c49 => ?_) (fun c49 => ?_)
            · refine lv_iinc (v := nI (k + 1)) (lv' := [(2, .int (nI (k + 1))), (3, .ref (aJ a k)), (1, .int la), (0, .ref a)]) X.x X.b dX4_replayJournal_65 hl (k := 1) rfl (nI_1 k) (by decide) rfl (fun ls hl => ?_)
              refine lv_goto (tgt := 4) X.x X.b dX4_replayJournal_68 (by decide) ?_
              exact ih (k + 1) la g1 (by omega) (by omega) (hG.trans (by rw [gg_4_replayJournal_4]; rw [if_neg c9, if_neg c27, if_pos c41, if_pos c49])) _ _ _ hr hz hlo (lv_sub hl [0, 2, 3] rfl)
            · refine lv_aload_n X.x X.b dX4_replayJournal_52 rfl (lv_at hl 0 rfl) ?_
              refine h_get X hr fd_X4_200 (gput_aJ (show k < 10 by omega)) (v := .int (g1.2.1 5 k)) rfl dX4_replayJournal_53 ?_
              refine lv_istore_n (lv' := [(1, .int (g1.2.1 5 k)), (3, .ref (aJ a k)), (2, .int (nI k)), (0, .ref a)]) X.x X.b dX4_replayJournal_56 rfl hl (by decide) rfl (fun ls hl => ?_)
              refine lv_aload_n X.x X.b dX4_replayJournal_57 rfl (lv_at hl 3 rfl) ?_
              refine h_get X hr fd_X4_30 gput_o (v := .ref (a + 2)) rfl dX4_replayJournal_58 ?_
              refine lv_aload_n X.x X.b dX4_replayJournal_61 rfl (lv_at hl 1 rfl) ?_
              refine h_callV X hr hz hlo (rest := []) (gc_2_copyFrom_r_j l D H0 a R nd g1 h0 n k hnd hRR (show k < 10 by omega) ) gput_r rfl yv_X2_copyFrom ml_X4_293 ⟨(Nat.le_of_ble_eq_true rfl), (Nat.le_of_ble_eq_true rfl)⟩ (Nat.le_of_ble_eq_true rfl) hl.1 ⟨(Nat.le_of_ble_eq_true rfl), (Nat.le_of_ble_eq_true rfl)⟩ rfl dX4_replayJournal_62 (fun v9 h9 n9 H locs hp hr hz hlo => ?_)
              obtain ⟨rfl, rfl, rfl⟩ := hp
              show W p l e _ s m _ below meth c H locs _ _ _ (F0 m 65 ls [])
              refine lv_iinc (v := nI (k + 1)) (lv' := [(2, .int (nI (k + 1))), (1, .int (g1.2.1 5 k)), (3, .ref (aJ a k)), (0, .ref a)]) X.x X.b dX4_replayJournal_65 hl (k := 2) rfl (nI_1 k) (by decide) rfl (fun ls hl => ?_)
              refine lv_goto (tgt := 4) X.x X.b dX4_replayJournal_68 (by decide) ?_
              exact ih (k + 1) (g1.2.1 5 k) (gf_2_copyFrom_r_j R nd g1 k) (by omega) (by omega) (hG.trans (by rw [gg_4_replayJournal_4]; rw [if_neg c9, if_neg c27, if_pos c41, if_neg c49])) _ _ _ hr hz hlo (lv_sub hl [0, 1, 3] rfl)
  refine lv_iconst (v := 0) X.x X.b dX4_replayJournal_0 (by decide) ?_
  refine lv_istore_n (lv' := [(1, .int 0), (0, .ref a)]) X.x X.b dX4_replayJournal_1 rfl hl (by decide) rfl (fun ls hl => ?_)
  refine lv_iconst (v := 0) X.x X.b dX4_replayJournal_2 (by decide) ?_
  refine lv_istore_n (lv' := [(2, .int 0), (1, .int 0), (0, .ref a)]) X.x X.b dX4_replayJournal_3 rfl hl (by decide) rfl (fun ls hl => ?_)
  have hl : lv_has ls 4 [(2, .int (nI 0)), (1, .int 0), (0, .ref a)] := by rw [nI_0]; exact hl
  exact loop4 (nd + 1) 0 0 g (by omega) (by omega) (id (by unfold gf_4_replayJournal; rfl)) _ _ _ hr hz hlo (lv_sub hl [0, 1, 2] rfl)

def gg_4_recallBackup_2 (R nd : Nat)  : Nat → Nat → GS → Int32 × GS
  | 0, _, g1 => (0, g1)
  | j + 1, k, g1 =>
    if (nI nd) ≤ (nI k) then
      (0, g1)
    else
      if (gf_4_isLive R nd g1 (nI k)) = 0 then
        gg_4_recallBackup_2 R nd  j (k + 1)  g1
      else
        if (g1.2.1 9 k) = (g1.1 8) then
          (1, gf_0_copyTo_b_v R nd g1 k)
        else
          gg_4_recallBackup_2 R nd  j (k + 1)  g1
def gf_4_recallBackup (R nd : Nat) (g : GS)  : Int32 × GS :=
  gg_4_recallBackup_2 R nd  (nd + 1) 0  g
set_option maxRecDepth 20000 in
set_option maxHeartbeats 4000000 in
theorem gc_4_recallBackup (l : Launch) (D : hD) (H0 : Heap) (a R nd : Nat) (g : GS) (h0 : hH) (n : Nat)  (hnd : nd ≤ 10) (hRR : R ≤ 48)  : cM l D H0 yX4_recallBackup cX4_recallBackup 3 (some .boolean) 2 42 0 0 [.ref a] (gput a R nd g h0) n (cE (some (.int (gf_4_recallBackup R nd g).1)) (gput a R nd (gf_4_recallBackup R nd g).2 h0) n) := by
  refine h_met (by decide) (Nat.le_of_ble_eq_true rfl) ?_
  intro p e s m below meth c H ls X hnm hr hz hl
  have hl : lv_has ls 3 [(0, .ref a)] := hl
  have hlo : hL H0 ([] : List Loc) := hL.nil
  have loop2 : ∀ (j k : Nat)  (g1 : GS) (hk : k ≤ nd) (hj : nd < k + j) (hG : gf_4_recallBackup R nd g = gg_4_recallBackup_2 R nd  j k g1) (H : Heap) (locs : List Loc) (ls : Array Slot), hR D H0 (gput a R nd g1 h0) H → H.size = n → hL H0 locs → lv_has ls 3 [(1, .int (nI k)), (0, .ref a)] → W p l e (rmk 2 42 0 0) s m ([.ref a] : List Value).toArray below meth c H locs 0 0 (MQ below (cQ D H0 (cE (some (.int (gf_4_recallBackup R nd g).1)) (gput a R nd (gf_4_recallBackup R nd g).2 h0) n)) ([.ref a] : List Value).toArray s 0 0 (hF H0)) (F0 m 2 ls []) := by
    intro j
    induction j with
    | zero => intro k g1 hk hj; omega
    | succ j ih =>
      intro k g1 hk hj hG H locs ls hr hz hlo hl
      refine lv_iload_n X.x X.b dX4_recallBackup_2 rfl (lv_at hl 0 rfl) ?_
      refine lv_aload_n X.x X.b dX4_recallBackup_3 rfl (lv_at hl 1 rfl) ?_
      refine h_get X hr fd_X4_7 gput_o (v := .int (nI nd)) rfl dX4_recallBackup_4 ?_
      refine lv_icmp_ge (tgt := 58) X.x X.b dX4_recallBackup_7 (by decide) (fun c7 => ?_) (fun c7 => ?_)
      · refine lv_iconst (v := 0) X.x X.b dX4_recallBackup_58 (by decide) ?_
        exact h_zret X hr hz hlo rfl (glfi (hG.trans (by rw [gg_4_recallBackup_2]; rw [if_pos c7]))) (Nat.le_of_ble_eq_true rfl) (Nat.le_of_ble_eq_true rfl) dX4_recallBackup_59
      · have hk9 : k < nd := nd_lt c7 (by omega)
        refine lv_aload_n X.x X.b dX4_recallBackup_10 rfl (lv_at hl 1 rfl) ?_
        refine h_get X hr fd_X4_40 gput_o (v := .ref (a + 4)) rfl dX4_recallBackup_11 ?_
        refine lv_iload_n X.x X.b dX4_recallBackup_14 rfl (lv_at hl 0 rfl) ?_
        refine h_aald X hr gput_k (vp_in_nI (by omega) (by omega)) (v := .ref (aD a k)) (by rw [nI_clamp (n := k) (by omega)]) dX4_recallBackup_15 ?_
        refine h_get X hr fd_X4_203 (gput_aD (show k < 10 by omega)) (v := .ref (aB a k)) rfl dX4_recallBackup_16 ?_
        refine lv_astore_n (lv' := [(2, .ref (aB a k)), (1, .int (nI k)), (0, .ref a)]) X.x X.b dX4_recallBackup_19 rfl hl (by decide) rfl (fun ls hl => ?_)
        refine lv_aload_n X.x X.b dX4_recallBackup_20 rfl (lv_at hl 2 rfl) ?_
        refine lv_iload_n X.x X.b dX4_recallBackup_21 rfl (lv_at hl 1 rfl) ?_
        refine h_callV X hr hz hlo (rest := []) (gc_4_isLive l D H0 a R nd g1 h0 n (nI k) hnd hRR  ) gput_o rfl yv_X4_isLive ml_X4_257 ⟨(Nat.le_of_ble_eq_true rfl), (Nat.le_of_ble_eq_true rfl)⟩ (Nat.le_of_ble_eq_true rfl) hl.1 ⟨(Nat.le_of_ble_eq_true rfl), (Nat.le_of_ble_eq_true rfl)⟩ rfl dX4_recallBackup_22 (fun v9 h9 n9 H locs hp hr hz hlo => ?_)
        obtain ⟨rfl, rfl, rfl⟩ := hp
        show W p l e _ s m _ below meth c H locs _ _ _ (F0 m 25 ls [.int (gf_4_isLive R nd g1 (nI k))])
        refine lv_if_eq (tgt := 52) X.x X.b dX4_recallBackup_25 (by decide) (fun c25 => ?_) (fun c25 => ?_)
        · refine lv_iinc (v := nI (k + 1)) (lv' := [(1, .int (nI (k + 1))), (2, .ref (aB a k)), (0, .ref a)]) X.x X.b dX4_recallBackup_52 hl (k := 1) rfl (nI_1 k) (by decide) rfl (fun ls hl => ?_)
          refine lv_goto (tgt := 2) X.x X.b dX4_recallBackup_55 (by decide) ?_
          exact ih (k + 1)  g1 (by omega) (by omega) (hG.trans (by rw [gg_4_recallBackup_2]; rw [if_neg c7, if_pos c25])) _ _ _ hr hz hlo (lv_sub hl [0, 2] rfl)
        · refine lv_aload_n X.x X.b dX4_recallBackup_28 rfl (lv_at hl 0 rfl) ?_
          refine h_get X hr fd_X4_298 (gput_aB (show k < 10 by omega)) (v := .int (g1.2.1 9 k)) rfl dX4_recallBackup_29 ?_
          refine lv_aload_n X.x X.b dX4_recallBackup_32 rfl (lv_at hl 2 rfl) ?_
          refine h_get X hr fd_X4_19 gput_o (v := .ref (a + 1)) rfl dX4_recallBackup_33 ?_
          refine h_get X hr fd_X4_81 gput_h (v := .int (g1.1 8)) rfl dX4_recallBackup_36 ?_
          refine lv_icmp_ne (tgt := 52) X.x X.b dX4_recallBackup_39 (by decide) (fun c39 => ?_) (fun c39 => ?_)
          · refine lv_iinc (v := nI (k + 1)) (lv' := [(1, .int (nI (k + 1))), (2, .ref (aB a k)), (0, .ref a)]) X.x X.b dX4_recallBackup_52 hl (k := 1) rfl (nI_1 k) (by decide) rfl (fun ls hl => ?_)
            refine lv_goto (tgt := 2) X.x X.b dX4_recallBackup_55 (by decide) ?_
            exact ih (k + 1)  g1 (by omega) (by omega) (hG.trans (by rw [gg_4_recallBackup_2]; rw [if_neg c7, if_neg c25, if_neg c39])) _ _ _ hr hz hlo (lv_sub hl [0, 2] rfl)
          · refine lv_aload_n X.x X.b dX4_recallBackup_42 rfl (lv_at hl 0 rfl) ?_
            refine lv_aload_n X.x X.b dX4_recallBackup_43 rfl (lv_at hl 2 rfl) ?_
            refine h_get X hr fd_X4_34 gput_o (v := .ref (a + 3)) rfl dX4_recallBackup_44 ?_
            refine h_callV X hr hz hlo (rest := []) (gc_0_copyTo_b_v l D H0 a R nd g1 h0 n k hnd hRR (show k < 10 by omega) ) (gput_aB (show k < 10 by omega)) rfl yv_X0_copyTo ml_X4_299 ⟨(Nat.le_of_ble_eq_true rfl), (Nat.le_of_ble_eq_true rfl)⟩ (Nat.le_of_ble_eq_true rfl) hl.1 ⟨(Nat.le_of_ble_eq_true rfl), (Nat.le_of_ble_eq_true rfl)⟩ rfl dX4_recallBackup_47 (fun v9 h9 n9 H locs hp hr hz hlo => ?_)
            obtain ⟨rfl, rfl, rfl⟩ := hp
            show W p l e _ s m _ below meth c H locs _ _ _ (F0 m 50 ls [])
            refine lv_iconst (v := 1) X.x X.b dX4_recallBackup_50 (by decide) ?_
            exact h_zret X hr hz hlo rfl (glfi (hG.trans (by rw [gg_4_recallBackup_2]; rw [if_neg c7, if_neg c25, if_pos c39]))) (Nat.le_of_ble_eq_true rfl) (Nat.le_of_ble_eq_true rfl) dX4_recallBackup_51
  refine lv_iconst (v := 0) X.x X.b dX4_recallBackup_0 (by decide) ?_
  refine lv_istore_n (lv' := [(1, .int 0), (0, .ref a)]) X.x X.b dX4_recallBackup_1 rfl hl (by decide) rfl (fun ls hl => ?_)
  have hl : lv_has ls 3 [(1, .int (nI 0)), (0, .ref a)] := by rw [nI_0]; exact hl
  exact loop2 (nd + 1) 0  g (by omega) (by omega) (id (by unfold gf_4_recallBackup; rfl)) _ _ _ hr hz hlo (lv_sub hl [0, 1] rfl)

def gf_4_resumeReshaping (R nd : Nat) (g : GS)  : Int32 × GS :=
  if (gf_4_isReshaped R nd g) = 0 then
    (0, g)
  else
    if ((gf_4_recallBackup R nd g).1) = 0 then
      if (gf_4_isCritical R nd ((gf_4_recallBackup R nd g).2)) = 0 then
        (1, gf_4_moveRow R nd (gf_4_gatherRowValues R nd ((gf_4_recallBackup R nd g).2)))
      else
        (0, (gf_4_recallBackup R nd g).2)
    else
      (1, gf_4_moveRow R nd (gf_4_writeBackups R nd ((gf_4_recallBackup R nd g).2)))
set_option maxRecDepth 20000 in
set_option maxHeartbeats 4000000 in
theorem gc_4_resumeReshaping (l : Launch) (D : hD) (H0 : Heap) (a R nd : Nat) (g : GS) (h0 : hH) (n : Nat)  (hnd : nd ≤ 10) (hRR : R ≤ 48)  : cM l D H0 yX4_resumeReshaping cX4_resumeReshaping 1 (some .boolean) 5 117 0 0 [.ref a] (gput a R nd g h0) n (cE (some (.int (gf_4_resumeReshaping R nd g).1)) (gput a R nd (gf_4_resumeReshaping R nd g).2 h0) n) := by
  refine h_met (by decide) (Nat.le_of_ble_eq_true rfl) ?_
  intro p e s m below meth c H ls X hnm hr hz hl
  have hl : lv_has ls 1 [(0, .ref a)] := hl
  have hlo : hL H0 ([] : List Loc) := hL.nil
  refine lv_aload_n X.x X.b dX4_resumeReshaping_0 rfl (lv_at hl 0 rfl) ?_
  refine h_callV X hr hz hlo (rest := []) (gc_4_isReshaped l D H0 a R nd g h0 n  hnd hRR  ) gput_o rfl yv_X4_isReshaped ml_X4_118 ⟨(Nat.le_of_ble_eq_true rfl), (Nat.le_of_ble_eq_true rfl)⟩ (Nat.le_of_ble_eq_true rfl) hl.1 ⟨(Nat.le_of_ble_eq_true rfl), (Nat.le_of_ble_eq_true rfl)⟩ rfl dX4_resumeReshaping_1 (fun v9 h9 n9 H locs hp hr hz hlo => ?_)
  obtain ⟨rfl, rfl, rfl⟩ := hp
  show W p l e _ s m _ below meth c H locs _ _ _ (F0 m 4 ls [.int (gf_4_isReshaped R nd g)])
  refine lv_if_ne (tgt := 9) X.x X.b dX4_resumeReshaping_4 (by decide) (fun c4 => ?_) (fun c4 => ?_)
  · refine lv_aload_n X.x X.b dX4_resumeReshaping_9 rfl (lv_at hl 0 rfl) ?_
    refine h_callV X hr hz hlo (rest := []) (gc_4_recallBackup l D H0 a R nd g h0 n  hnd hRR  ) gput_o rfl yv_X4_recallBackup ml_X4_295 ⟨(Nat.le_of_ble_eq_true rfl), (Nat.le_of_ble_eq_true rfl)⟩ (Nat.le_of_ble_eq_true rfl) hl.1 ⟨(Nat.le_of_ble_eq_true rfl), (Nat.le_of_ble_eq_true rfl)⟩ rfl dX4_resumeReshaping_10 (fun v9 h9 n9 H locs hp hr hz hlo => ?_)
    obtain ⟨rfl, rfl, rfl⟩ := hp
    show W p l e _ s m _ below meth c H locs _ _ _ (F0 m 13 ls [.int ((gf_4_recallBackup R nd g).1)])
    refine lv_if_eq (tgt := 23) X.x X.b dX4_resumeReshaping_13 (by decide) (fun c13 => ?_) (fun c13 => ?_)
    · refine lv_aload_n X.x X.b dX4_resumeReshaping_23 rfl (lv_at hl 0 rfl) ?_
      refine h_callV X hr hz hlo (rest := []) (gc_4_isCritical l D H0 a R nd ((gf_4_recallBackup R nd g).2) h0 n  hnd hRR  ) gput_o rfl yv_X4_isCritical ml_X4_134 ⟨(Nat.le_of_ble_eq_true rfl), (Nat.le_of_ble_eq_true rfl)⟩ (Nat.le_of_ble_eq_true rfl) hl.1 ⟨(Nat.le_of_ble_eq_true rfl), (Nat.le_of_ble_eq_true rfl)⟩ rfl dX4_resumeReshaping_24 (fun v9 h9 n9 H locs hp hr hz hlo => ?_)
      obtain ⟨rfl, rfl, rfl⟩ := hp
      show W p l e _ s m _ below meth c H locs _ _ _ (F0 m 27 ls [.int (gf_4_isCritical R nd ((gf_4_recallBackup R nd g).2))])
      refine lv_if_eq (tgt := 32) X.x X.b dX4_resumeReshaping_27 (by decide) (fun c27 => ?_) (fun c27 => ?_)
      · refine lv_aload_n X.x X.b dX4_resumeReshaping_32 rfl (lv_at hl 0 rfl) ?_
        refine h_callV X hr hz hlo (rest := []) (gc_4_gatherRowValues l D H0 a R nd ((gf_4_recallBackup R nd g).2) h0 n  hnd hRR  ) gput_o rfl yv_X4_gatherRowValues ml_X4_131 ⟨(Nat.le_of_ble_eq_true rfl), (Nat.le_of_ble_eq_true rfl)⟩ (Nat.le_of_ble_eq_true rfl) hl.1 ⟨(Nat.le_of_ble_eq_true rfl), (Nat.le_of_ble_eq_true rfl)⟩ rfl dX4_resumeReshaping_33 (fun v9 h9 n9 H locs hp hr hz hlo => ?_)
        obtain ⟨rfl, rfl, rfl⟩ := hp
        show W p l e _ s m _ below meth c H locs _ _ _ (F0 m 36 ls [])
        refine lv_aload_n X.x X.b dX4_resumeReshaping_36 rfl (lv_at hl 0 rfl) ?_
        refine h_callV X hr hz hlo (rest := []) (gc_4_moveRow l D H0 a R nd (gf_4_gatherRowValues R nd ((gf_4_recallBackup R nd g).2)) h0 n  hnd hRR  ) gput_o rfl yv_X4_moveRow ml_X4_140 ⟨(Nat.le_of_ble_eq_true rfl), (Nat.le_of_ble_eq_true rfl)⟩ (Nat.le_of_ble_eq_true rfl) hl.1 ⟨(Nat.le_of_ble_eq_true rfl), (Nat.le_of_ble_eq_true rfl)⟩ rfl dX4_resumeReshaping_37 (fun v9 h9 n9 H locs hp hr hz hlo => ?_)
        obtain ⟨rfl, rfl, rfl⟩ := hp
        show W p l e _ s m _ below meth c H locs _ _ _ (F0 m 40 ls [])
        refine lv_iconst (v := 1) X.x X.b dX4_resumeReshaping_40 (by decide) ?_
        exact h_zret X hr hz hlo rfl (glfi (id (by unfold gf_4_resumeReshaping; rw [if_neg c4, if_pos c13, if_pos c27]))) (Nat.le_of_ble_eq_true rfl) (Nat.le_of_ble_eq_true rfl) dX4_resumeReshaping_41
      · refine lv_iconst (v := 0) X.x X.b dX4_resumeReshaping_30 (by decide) ?_
        exact h_zret X hr hz hlo rfl (glfi (id (by unfold gf_4_resumeReshaping; rw [if_neg c4, if_pos c13, if_neg c27]))) (Nat.le_of_ble_eq_true rfl) (Nat.le_of_ble_eq_true rfl) dX4_resumeReshaping_31
    · refine lv_aload_n X.x X.b dX4_resumeReshaping_16 rfl (lv_at hl 0 rfl) ?_
      refine h_callV X hr hz hlo (rest := []) (gc_4_writeBackups l D H0 a R nd ((gf_4_recallBackup R nd g).2) h0 n  hnd hRR  ) gput_o rfl yv_X4_writeBackups ml_X4_137 ⟨(Nat.le_of_ble_eq_true rfl), (Nat.le_of_ble_eq_true rfl)⟩ (Nat.le_of_ble_eq_true rfl) hl.1 ⟨(Nat.le_of_ble_eq_true rfl), (Nat.le_of_ble_eq_true rfl)⟩ rfl dX4_resumeReshaping_17 (fun v9 h9 n9 H locs hp hr hz hlo => ?_)
      obtain ⟨rfl, rfl, rfl⟩ := hp
      show W p l e _ s m _ below meth c H locs _ _ _ (F0 m 20 ls [])
      refine lv_goto (tgt := 36) X.x X.b dX4_resumeReshaping_20 (by decide) ?_
      refine lv_aload_n X.x X.b dX4_resumeReshaping_36 rfl (lv_at hl 0 rfl) ?_
      refine h_callV X hr hz hlo (rest := []) (gc_4_moveRow l D H0 a R nd (gf_4_writeBackups R nd ((gf_4_recallBackup R nd g).2)) h0 n  hnd hRR  ) gput_o rfl yv_X4_moveRow ml_X4_140 ⟨(Nat.le_of_ble_eq_true rfl), (Nat.le_of_ble_eq_true rfl)⟩ (Nat.le_of_ble_eq_true rfl) hl.1 ⟨(Nat.le_of_ble_eq_true rfl), (Nat.le_of_ble_eq_true rfl)⟩ rfl dX4_resumeReshaping_37 (fun v9 h9 n9 H locs hp hr hz hlo => ?_)
      obtain ⟨rfl, rfl, rfl⟩ := hp
      show W p l e _ s m _ below meth c H locs _ _ _ (F0 m 40 ls [])
      refine lv_iconst (v := 1) X.x X.b dX4_resumeReshaping_40 (by decide) ?_
      exact h_zret X hr hz hlo rfl (glfi (id (by unfold gf_4_resumeReshaping; rw [if_neg c4, if_neg c13]))) (Nat.le_of_ble_eq_true rfl) (Nat.le_of_ble_eq_true rfl) dX4_resumeReshaping_41
  · refine lv_iconst (v := 0) X.x X.b dX4_resumeReshaping_7 (by decide) ?_
    exact h_zret X hr hz hlo rfl (glfi (id (by unfold gf_4_resumeReshaping; rw [if_pos c4]))) (Nat.le_of_ble_eq_true rfl) (Nat.le_of_ble_eq_true rfl) dX4_resumeReshaping_8
