def gf_4_fail (R nd : Nat) (g : GS) (d0 : Int32) : Int32 × GS :=
  if (gf_4_isThere R nd g d0) = 0 then
    (0, g)
  else
    if (gf_4_diskNotLive R nd g) = (-1) then
      (1, gdi g 10 d0.toNatClampNeg 1)
    else
      (0, g)
set_option maxRecDepth 20000 in
set_option maxHeartbeats 4000000 in
theorem gc_4_fail (l : Launch) (D : hD) (H0 : Heap) (a R nd : Nat) (g : GS) (h0 : hH) (n : Nat) (d0 : Int32) (hnd : nd ≤ 10) (hRR : R ≤ 48)  : cM l D H0 yX4_fail cX4_fail 2 (some .boolean) 2 41 0 0 [.ref a, .int d0] (gput a R nd g h0) n (cE (some (.int (gf_4_fail R nd g d0).1)) (gput a R nd (gf_4_fail R nd g d0).2 h0) n) := by
  refine h_met (by decide) (Nat.le_of_ble_eq_true rfl) ?_
  intro p e s m below meth c H ls X hnm hr hz hl
  have hl : lv_has ls 2 [(0, .ref a), (1, .int d0)] := hl
  have hlo : hL H0 ([] : List Loc) := hL.nil
  refine lv_aload_n X.x X.b dX4_fail_0 rfl (lv_at hl 0 rfl) ?_
  refine lv_iload_n X.x X.b dX4_fail_1 rfl (lv_at hl 1 rfl) ?_
  refine h_callV X hr hz hlo (rest := []) (gc_4_isThere l D H0 a R nd g h0 n d0 hnd hRR  ) gput_o rfl yv_X4_isThere ml_X4_143 ⟨(Nat.le_of_ble_eq_true rfl), (Nat.le_of_ble_eq_true rfl)⟩ (Nat.le_of_ble_eq_true rfl) hl.1 ⟨(Nat.le_of_ble_eq_true rfl), (Nat.le_of_ble_eq_true rfl)⟩ rfl dX4_fail_2 (fun v9 h9 n9 H locs hp hr hz hlo => ?_)
  obtain ⟨rfl, rfl, rfl⟩ := hp
  show W p l e _ s m _ below meth c H locs _ _ _ (F0 m 5 ls [.int (gf_4_isThere R nd g d0)])
  refine lv_if_eq (tgt := 16) X.x X.b dX4_fail_5 (by decide) (fun c5 => ?_) (fun c5 => ?_)
  · refine lv_iconst (v := 0) X.x X.b dX4_fail_16 (by decide) ?_
    exact h_zret X hr hz hlo rfl (glfi (id (by unfold gf_4_fail; rw [if_pos c5]))) (Nat.le_of_ble_eq_true rfl) (Nat.le_of_ble_eq_true rfl) dX4_fail_17
  · refine lv_aload_n X.x X.b dX4_fail_8 rfl (lv_at hl 0 rfl) ?_
    refine h_callV X hr hz hlo (rest := []) (gc_4_diskNotLive l D H0 a R nd g h0 n  hnd hRR  ) gput_o rfl yv_X4_diskNotLive ml_X4_147 ⟨(Nat.le_of_ble_eq_true rfl), (Nat.le_of_ble_eq_true rfl)⟩ (Nat.le_of_ble_eq_true rfl) hl.1 ⟨(Nat.le_of_ble_eq_true rfl), (Nat.le_of_ble_eq_true rfl)⟩ rfl dX4_fail_9 (fun v9 h9 n9 H locs hp hr hz hlo => ?_)
    obtain ⟨rfl, rfl, rfl⟩ := hp
    show W p l e _ s m _ below meth c H locs _ _ _ (F0 m 12 ls [.int (gf_4_diskNotLive R nd g)])
    refine lv_iconst (v := -1) X.x X.b dX4_fail_12 (by decide) ?_
    refine lv_icmp_eq (tgt := 18) X.x X.b dX4_fail_13 (by decide) (fun c13 => ?_) (fun c13 => ?_)
    · refine lv_aload_n X.x X.b dX4_fail_18 rfl (lv_at hl 0 rfl) ?_
      refine h_get X hr fd_X4_40 gput_o (v := .ref (a + 4)) rfl dX4_fail_19 ?_
      refine lv_iload_n X.x X.b dX4_fail_22 rfl (lv_at hl 1 rfl) ?_
      refine h_aald X hr gput_k (gx_there c5 hnd) (v := .ref (aD a d0.toNatClampNeg)) rfl dX4_fail_23 ?_
      refine lv_iconst (v := 1) X.x X.b dX4_fail_24 (by decide) ?_
      refine h_put X hr hz hlo fd_X4_150 tyX1 tyX1_ok nmX1 rfl (gput_aD (vp_lt (gx_there c5 hnd))) (v := .int 1) rfl rfl (Nat.le_of_ble_eq_true rfl) dX4_fail_25 (fun H locs hr hz hlo => ?_)
      rw [gput_Ds0 (vp_lt (gx_there c5 hnd))] at hr
      refine lv_iconst (v := 1) X.x X.b dX4_fail_28 (by decide) ?_
      exact h_zret X hr hz hlo rfl (glfi (id (by unfold gf_4_fail; rw [if_neg c5, if_pos c13]))) (Nat.le_of_ble_eq_true rfl) (Nat.le_of_ble_eq_true rfl) dX4_fail_29
    · refine lv_iconst (v := 0) X.x X.b dX4_fail_16 (by decide) ?_
      exact h_zret X hr hz hlo rfl (glfi (id (by unfold gf_4_fail; rw [if_neg c5, if_neg c13]))) (Nat.le_of_ble_eq_true rfl) (Nat.le_of_ble_eq_true rfl) dX4_fail_17

def gf_4_replace (R nd : Nat) (g : GS)  : Int32 × GS :=
  if (g.1 1) = 0 then
    (0, g)
  else
    if (gf_4_diskNotLive R nd g) = (-1) then
      (0, g)
    else
      if (g.2.1 10 ((gf_4_diskNotLive R nd g).toNatClampNeg)) = 0 then
        (0, g)
      else
        if (gf_4_isSpare R nd g (gf_4_diskNotLive R nd g)) = 0 then
          (1, gsi (gf_1_renew_d R nd g ((gf_4_diskNotLive R nd g).toNatClampNeg)) 3 0)
        else
          if ((gf_4_spendWrite R nd g).1) = 0 then
            (0, (gf_4_spendWrite R nd g).2)
          else
            (1, gf_1_takeSuper__d_h R nd (gf_1_renew_d R nd ((gf_4_spendWrite R nd g).2) ((gf_4_diskNotLive R nd g).toNatClampNeg)) ((gf_4_diskNotLive R nd g).toNatClampNeg))
set_option maxRecDepth 20000 in
set_option maxHeartbeats 4000000 in
theorem gc_4_replace (l : Launch) (D : hD) (H0 : Heap) (a R nd : Nat) (g : GS) (h0 : hH) (n : Nat)  (hnd : nd ≤ 10) (hRR : R ≤ 48)  : cM l D H0 yX4_replace cX4_replace 2 (some .boolean) 3 66 0 0 [.ref a] (gput a R nd g h0) n (cE (some (.int (gf_4_replace R nd g).1)) (gput a R nd (gf_4_replace R nd g).2 h0) n) := by
  refine h_met (by decide) (Nat.le_of_ble_eq_true rfl) ?_
  intro p e s m below meth c H ls X hnm hr hz hl
  have hl : lv_has ls 2 [(0, .ref a)] := hl
  have hlo : hL H0 ([] : List Loc) := hL.nil
  refine lv_aload_n X.x X.b dX4_replace_0 rfl (lv_at hl 0 rfl) ?_
  refine h_callV X hr hz hlo (rest := []) (gc_4_diskNotLive l D H0 a R nd g h0 n  hnd hRR  ) gput_o rfl yv_X4_diskNotLive ml_X4_147 ⟨(Nat.le_of_ble_eq_true rfl), (Nat.le_of_ble_eq_true rfl)⟩ (Nat.le_of_ble_eq_true rfl) hl.1 ⟨(Nat.le_of_ble_eq_true rfl), (Nat.le_of_ble_eq_true rfl)⟩ rfl dX4_replace_1 (fun v9 h9 n9 H locs hp hr hz hlo => ?_)
  obtain ⟨rfl, rfl, rfl⟩ := hp
  show W p l e _ s m _ below meth c H locs _ _ _ (F0 m 4 ls [.int (gf_4_diskNotLive R nd g)])
  refine lv_istore_n (lv' := [(1, .int (gf_4_diskNotLive R nd g)), (0, .ref a)]) X.x X.b dX4_replace_4 rfl hl (by decide) rfl (fun ls hl => ?_)
  refine lv_aload_n X.x X.b dX4_replace_5 rfl (lv_at hl 1 rfl) ?_
  refine h_get X hr fd_X4_54 gput_o (v := .int (g.1 1)) rfl dX4_replace_6 ?_
  refine lv_if_eq (tgt := 29) X.x X.b dX4_replace_9 (by decide) (fun c9 => ?_) (fun c9 => ?_)
  · refine lv_iconst (v := 0) X.x X.b dX4_replace_29 (by decide) ?_
    exact h_zret X hr hz hlo rfl (glfi (id (by unfold gf_4_replace; rw [if_pos c9]))) (Nat.le_of_ble_eq_true rfl) (Nat.le_of_ble_eq_true rfl) dX4_replace_30
  · refine lv_iload_n X.x X.b dX4_replace_12 rfl (lv_at hl 0 rfl) ?_
    refine lv_iconst (v := -1) X.x X.b dX4_replace_13 (by decide) ?_
    refine lv_icmp_eq (tgt := 29) X.x X.b dX4_replace_14 (by decide) (fun c14 => ?_) (fun c14 => ?_)
    · refine lv_iconst (v := 0) X.x X.b dX4_replace_29 (by decide) ?_
      exact h_zret X hr hz hlo rfl (glfi (id (by unfold gf_4_replace; rw [if_neg c9, if_pos c14]))) (Nat.le_of_ble_eq_true rfl) (Nat.le_of_ble_eq_true rfl) dX4_replace_30
    · refine lv_aload_n X.x X.b dX4_replace_17 rfl (lv_at hl 1 rfl) ?_
      refine h_get X hr fd_X4_40 gput_o (v := .ref (a + 4)) rfl dX4_replace_18 ?_
      refine lv_iload_n X.x X.b dX4_replace_21 rfl (lv_at hl 0 rfl) ?_
      refine h_aald X hr gput_k (gx_nl hnd c14) (v := .ref (aD a ((gf_4_diskNotLive R nd g).toNatClampNeg))) rfl dX4_replace_22 ?_
      refine h_get X hr fd_X4_150 (gput_aD (vp_lt (gx_nl hnd c14))) (v := .int (g.2.1 10 ((gf_4_diskNotLive R nd g).toNatClampNeg))) rfl dX4_replace_23 ?_
      refine lv_if_ne (tgt := 31) X.x X.b dX4_replace_26 (by decide) (fun c26 => ?_) (fun c26 => ?_)
      · refine lv_aload_n X.x X.b dX4_replace_31 rfl (lv_at hl 1 rfl) ?_
        refine lv_iload_n X.x X.b dX4_replace_32 rfl (lv_at hl 0 rfl) ?_
        refine h_callV X hr hz hlo (rest := []) (gc_4_isSpare l D H0 a R nd g h0 n (gf_4_diskNotLive R nd g) hnd hRR  ) gput_o rfl yv_X4_isSpare ml_X4_153 ⟨(Nat.le_of_ble_eq_true rfl), (Nat.le_of_ble_eq_true rfl)⟩ (Nat.le_of_ble_eq_true rfl) hl.1 ⟨(Nat.le_of_ble_eq_true rfl), (Nat.le_of_ble_eq_true rfl)⟩ rfl dX4_replace_33 (fun v9 h9 n9 H locs hp hr hz hlo => ?_)
        obtain ⟨rfl, rfl, rfl⟩ := hp
        show W p l e _ s m _ below meth c H locs _ _ _ (F0 m 36 ls [.int (gf_4_isSpare R nd g (gf_4_diskNotLive R nd g))])
        refine lv_if_ne (tgt := 55) X.x X.b dX4_replace_36 (by decide) (fun c36 => ?_) (fun c36 => ?_)
        · refine lv_aload_n X.x X.b dX4_replace_55 rfl (lv_at hl 1 rfl) ?_
          refine h_callV X hr hz hlo (rest := []) (gc_4_spendWrite l D H0 a R nd g h0 n  hnd hRR  ) gput_o rfl yv_X4_spendWrite ml_X4_108 ⟨(Nat.le_of_ble_eq_true rfl), (Nat.le_of_ble_eq_true rfl)⟩ (Nat.le_of_ble_eq_true rfl) hl.1 ⟨(Nat.le_of_ble_eq_true rfl), (Nat.le_of_ble_eq_true rfl)⟩ rfl dX4_replace_56 (fun v9 h9 n9 H locs hp hr hz hlo => ?_)
          obtain ⟨rfl, rfl, rfl⟩ := hp
          show W p l e _ s m _ below meth c H locs _ _ _ (F0 m 59 ls [.int ((gf_4_spendWrite R nd g).1)])
          refine lv_if_ne (tgt := 64) X.x X.b dX4_replace_59 (by decide) (fun c59 => ?_) (fun c59 => ?_)
          · refine lv_aload_n X.x X.b dX4_replace_64 rfl (lv_at hl 1 rfl) ?_
            refine h_get X hr fd_X4_40 gput_o (v := .ref (a + 4)) rfl dX4_replace_65 ?_
            refine lv_iload_n X.x X.b dX4_replace_68 rfl (lv_at hl 0 rfl) ?_
            refine h_aald X hr gput_k (gx_nl hnd c14) (v := .ref (aD a ((gf_4_diskNotLive R nd g).toNatClampNeg))) rfl dX4_replace_69 ?_
            refine h_callV X hr hz hlo (rest := []) (gc_1_renew_d l D H0 a R nd ((gf_4_spendWrite R nd g).2) h0 n ((gf_4_diskNotLive R nd g).toNatClampNeg) hnd hRR (vp_lt (gx_nl hnd c14)) ) (gput_aD (vp_lt (gx_nl hnd c14))) rfl yv_X1_renew ml_X4_156 ⟨(Nat.le_of_ble_eq_true rfl), (Nat.le_of_ble_eq_true rfl)⟩ (Nat.le_of_ble_eq_true rfl) hl.1 ⟨(Nat.le_of_ble_eq_true rfl), (Nat.le_of_ble_eq_true rfl)⟩ rfl dX4_replace_70 (fun v9 h9 n9 H locs hp hr hz hlo => ?_)
            obtain ⟨rfl, rfl, rfl⟩ := hp
            show W p l e _ s m _ below meth c H locs _ _ _ (F0 m 73 ls [])
            refine lv_aload_n X.x X.b dX4_replace_73 rfl (lv_at hl 1 rfl) ?_
            refine h_get X hr fd_X4_40 gput_o (v := .ref (a + 4)) rfl dX4_replace_74 ?_
            refine lv_iload_n X.x X.b dX4_replace_77 rfl (lv_at hl 0 rfl) ?_
            refine h_aald X hr gput_k (gx_nl hnd c14) (v := .ref (aD a ((gf_4_diskNotLive R nd g).toNatClampNeg))) rfl dX4_replace_78 ?_
            refine lv_aload_n X.x X.b dX4_replace_79 rfl (lv_at hl 1 rfl) ?_
            refine h_get X hr fd_X4_19 gput_o (v := .ref (a + 1)) rfl dX4_replace_80 ?_
            refine h_callV X hr hz hlo (rest := []) (gc_1_takeSuper__d_h l D H0 a R nd (gf_1_renew_d R nd ((gf_4_spendWrite R nd g).2) ((gf_4_diskNotLive R nd g).toNatClampNeg)) h0 n ((gf_4_diskNotLive R nd g).toNatClampNeg) hnd hRR (vp_lt (gx_nl hnd c14)) ) (gput_aD (vp_lt (gx_nl hnd c14))) rfl yv_X1_takeSuper_ ml_X4_112 ⟨(Nat.le_of_ble_eq_true rfl), (Nat.le_of_ble_eq_true rfl)⟩ (Nat.le_of_ble_eq_true rfl) hl.1 ⟨(Nat.le_of_ble_eq_true rfl), (Nat.le_of_ble_eq_true rfl)⟩ rfl dX4_replace_83 (fun v9 h9 n9 H locs hp hr hz hlo => ?_)
            obtain ⟨rfl, rfl, rfl⟩ := hp
            show W p l e _ s m _ below meth c H locs _ _ _ (F0 m 86 ls [])
            refine lv_iconst (v := 1) X.x X.b dX4_replace_86 (by decide) ?_
            exact h_zret X hr hz hlo rfl (glfi (id (by unfold gf_4_replace; rw [if_neg c9, if_neg c14, if_neg c26, if_neg c36, if_neg c59]))) (Nat.le_of_ble_eq_true rfl) (Nat.le_of_ble_eq_true rfl) dX4_replace_87
          · refine lv_iconst (v := 0) X.x X.b dX4_replace_62 (by decide) ?_
            exact h_zret X hr hz hlo rfl (glfi (id (by unfold gf_4_replace; rw [if_neg c9, if_neg c14, if_neg c26, if_neg c36, if_pos c59]))) (Nat.le_of_ble_eq_true rfl) (Nat.le_of_ble_eq_true rfl) dX4_replace_63
        · refine lv_aload_n X.x X.b dX4_replace_39 rfl (lv_at hl 1 rfl) ?_
          refine h_get X hr fd_X4_40 gput_o (v := .ref (a + 4)) rfl dX4_replace_40 ?_
          refine lv_iload_n X.x X.b dX4_replace_43 rfl (lv_at hl 0 rfl) ?_
          refine h_aald X hr gput_k (gx_nl hnd c14) (v := .ref (aD a ((gf_4_diskNotLive R nd g).toNatClampNeg))) rfl dX4_replace_44 ?_
          refine h_callV X hr hz hlo (rest := []) (gc_1_renew_d l D H0 a R nd g h0 n ((gf_4_diskNotLive R nd g).toNatClampNeg) hnd hRR (vp_lt (gx_nl hnd c14)) ) (gput_aD (vp_lt (gx_nl hnd c14))) rfl yv_X1_renew ml_X4_156 ⟨(Nat.le_of_ble_eq_true rfl), (Nat.le_of_ble_eq_true rfl)⟩ (Nat.le_of_ble_eq_true rfl) hl.1 ⟨(Nat.le_of_ble_eq_true rfl), (Nat.le_of_ble_eq_true rfl)⟩ rfl dX4_replace_45 (fun v9 h9 n9 H locs hp hr hz hlo => ?_)
          obtain ⟨rfl, rfl, rfl⟩ := hp
          show W p l e _ s m _ below meth c H locs _ _ _ (F0 m 48 ls [])
          refine lv_aload_n X.x X.b dX4_replace_48 rfl (lv_at hl 1 rfl) ?_
          refine lv_iconst (v := 0) X.x X.b dX4_replace_49 (by decide) ?_
          refine h_put X hr hz hlo fd_X4_159 tyX4 tyX4_ok nmX4 rfl gput_o (v := .int 0) rfl rfl (Nat.le_of_ble_eq_true rfl) dX4_replace_50 (fun H locs hr hz hlo => ?_)
          rw [gput_s3] at hr
          refine lv_iconst (v := 1) X.x X.b dX4_replace_53 (by decide) ?_
          exact h_zret X hr hz hlo rfl (glfi (id (by unfold gf_4_replace; rw [if_neg c9, if_neg c14, if_neg c26, if_pos c36]))) (Nat.le_of_ble_eq_true rfl) (Nat.le_of_ble_eq_true rfl) dX4_replace_54
      · refine lv_iconst (v := 0) X.x X.b dX4_replace_29 (by decide) ?_
        exact h_zret X hr hz hlo rfl (glfi (id (by unfold gf_4_replace; rw [if_neg c9, if_neg c14, if_pos c26]))) (Nat.le_of_ble_eq_true rfl) (Nat.le_of_ble_eq_true rfl) dX4_replace_30

def gf_4_cut (R nd : Nat) (g : GS) (n0 : Int32) : GS :=
  if 0 ≤ n0 then
    gsi g 2 n0
  else
    gsi g 2 (-1)
set_option maxRecDepth 20000 in
set_option maxHeartbeats 4000000 in
theorem gc_4_cut (l : Launch) (D : hD) (H0 : Heap) (a R nd : Nat) (g : GS) (h0 : hH) (n : Nat) (n0 : Int32) (hnd : nd ≤ 10) (hRR : R ≤ 48)  : cM l D H0 yX4_cut cX4_cut 2 none 0 0 0 0 [.ref a, .int n0] (gput a R nd g h0) n (cE none (gput a R nd (gf_4_cut R nd g n0) h0) n) := by
  refine h_met (by decide) (Nat.le_of_ble_eq_true rfl) ?_
  intro p e s m below meth c H ls X hnm hr hz hl
  have hl : lv_has ls 2 [(0, .ref a), (1, .int n0)] := hl
  have hlo : hL H0 ([] : List Loc) := hL.nil
  refine lv_aload_n X.x X.b dX4_cut_0 rfl (lv_at hl 0 rfl) ?_
  refine lv_iload_n X.x X.b dX4_cut_1 rfl (lv_at hl 1 rfl) ?_
  refine lv_if_ge (tgt := 9) X.x X.b dX4_cut_2 (by decide) (fun c2 => ?_) (fun c2 => ?_)
  · refine lv_iload_n X.x X.b dX4_cut_9 rfl (lv_at hl 1 rfl) ?_
    refine h_put X hr hz hlo fd_X4_58 tyX4 tyX4_ok nmX4 rfl gput_o (v := .int n0) rfl rfl (Nat.le_of_ble_eq_true rfl) dX4_cut_10 (fun H locs hr hz hlo => ?_)
    rw [gput_s2] at hr
    exact h_vret X hr hz hlo (glfv (id (by unfold gf_4_cut; rw [if_pos c2]))) (Nat.le_of_ble_eq_true rfl) (Nat.le_of_ble_eq_true rfl) dX4_cut_13
  · refine lv_iconst (v := -1) X.x X.b dX4_cut_5 (by decide) ?_
    refine lv_goto (tgt := 10) X.x X.b dX4_cut_6 (by decide) ?_
    refine h_put X hr hz hlo fd_X4_58 tyX4 tyX4_ok nmX4 rfl gput_o (v := .int (-1)) rfl rfl (Nat.le_of_ble_eq_true rfl) dX4_cut_10 (fun H locs hr hz hlo => ?_)
    rw [gput_s2] at hr
    exact h_vret X hr hz hlo (glfv (id (by unfold gf_4_cut; rw [if_neg c2]))) (Nat.le_of_ble_eq_true rfl) (Nat.le_of_ble_eq_true rfl) dX4_cut_13

def gf_4_open (R nd : Nat) (g : GS)  : Int32 × GS :=
  if (g.1 1) = 0 then
    if ((gf_4_levelSupers R nd (gf_4_findWhatHolds R nd (gsi g 1 1))).1 1) = 0 then
      if ((gf_4_levelSupers R nd (gf_4_findWhatHolds R nd (gsi g 1 1))).1 1) = 0 then
        if ((gf_4_setSuper R nd (gf_4_levelSupers R nd (gf_4_findWhatHolds R nd (gsi g 1 1))) ((gf_4_levelSupers R nd (gf_4_findWhatHolds R nd (gsi g 1 1))).1 9) ((gf_4_levelSupers R nd (gf_4_findWhatHolds R nd (gsi g 1 1))).1 10) ((gf_4_levelSupers R nd (gf_4_findWhatHolds R nd (gsi g 1 1))).1 11) (-1)).1 1) = 0 then
          (0, gf_4_setSuper R nd (gf_4_levelSupers R nd (gf_4_findWhatHolds R nd (gsi g 1 1))) ((gf_4_levelSupers R nd (gf_4_findWhatHolds R nd (gsi g 1 1))).1 9) ((gf_4_levelSupers R nd (gf_4_findWhatHolds R nd (gsi g 1 1))).1 10) ((gf_4_levelSupers R nd (gf_4_findWhatHolds R nd (gsi g 1 1))).1 11) (-1))
        else
          ((1 + 0) + 0, gf_4_setSuper R nd (gf_4_levelSupers R nd (gf_4_findWhatHolds R nd (gsi g 1 1))) ((gf_4_levelSupers R nd (gf_4_findWhatHolds R nd (gsi g 1 1))).1 9) ((gf_4_levelSupers R nd (gf_4_findWhatHolds R nd (gsi g 1 1))).1 10) ((gf_4_levelSupers R nd (gf_4_findWhatHolds R nd (gsi g 1 1))).1 11) (-1))
      else
        if ((gf_4_resumeReshaping R nd (gf_4_levelSupers R nd (gf_4_findWhatHolds R nd (gsi g 1 1)))).1) = 0 then
          if ((gf_4_setSuper R nd ((gf_4_resumeReshaping R nd (gf_4_levelSupers R nd (gf_4_findWhatHolds R nd (gsi g 1 1)))).2) (((gf_4_resumeReshaping R nd (gf_4_levelSupers R nd (gf_4_findWhatHolds R nd (gsi g 1 1)))).2).1 9) (((gf_4_resumeReshaping R nd (gf_4_levelSupers R nd (gf_4_findWhatHolds R nd (gsi g 1 1)))).2).1 10) (((gf_4_resumeReshaping R nd (gf_4_levelSupers R nd (gf_4_findWhatHolds R nd (gsi g 1 1)))).2).1 11) (-1)).1 1) = 0 then
            (0, gf_4_setSuper R nd ((gf_4_resumeReshaping R nd (gf_4_levelSupers R nd (gf_4_findWhatHolds R nd (gsi g 1 1)))).2) (((gf_4_resumeReshaping R nd (gf_4_levelSupers R nd (gf_4_findWhatHolds R nd (gsi g 1 1)))).2).1 9) (((gf_4_resumeReshaping R nd (gf_4_levelSupers R nd (gf_4_findWhatHolds R nd (gsi g 1 1)))).2).1 10) (((gf_4_resumeReshaping R nd (gf_4_levelSupers R nd (gf_4_findWhatHolds R nd (gsi g 1 1)))).2).1 11) (-1))
          else
            ((1 + 0) + 0, gf_4_setSuper R nd ((gf_4_resumeReshaping R nd (gf_4_levelSupers R nd (gf_4_findWhatHolds R nd (gsi g 1 1)))).2) (((gf_4_resumeReshaping R nd (gf_4_levelSupers R nd (gf_4_findWhatHolds R nd (gsi g 1 1)))).2).1 9) (((gf_4_resumeReshaping R nd (gf_4_levelSupers R nd (gf_4_findWhatHolds R nd (gsi g 1 1)))).2).1 10) (((gf_4_resumeReshaping R nd (gf_4_levelSupers R nd (gf_4_findWhatHolds R nd (gsi g 1 1)))).2).1 11) (-1))
        else
          if (((gf_4_resumeReshaping R nd (gf_4_levelSupers R nd (gf_4_findWhatHolds R nd (gsi g 1 1)))).2).1 1) = 0 then
            (0, (gf_4_resumeReshaping R nd (gf_4_levelSupers R nd (gf_4_findWhatHolds R nd (gsi g 1 1)))).2)
          else
            ((1 + 0) + 4, (gf_4_resumeReshaping R nd (gf_4_levelSupers R nd (gf_4_findWhatHolds R nd (gsi g 1 1)))).2)
    else
      if ((gf_4_replayJournal R nd (gf_4_levelSupers R nd (gf_4_findWhatHolds R nd (gsi g 1 1)))).1) = 0 then
        if (((gf_4_replayJournal R nd (gf_4_levelSupers R nd (gf_4_findWhatHolds R nd (gsi g 1 1)))).2).1 1) = 0 then
          if ((gf_4_setSuper R nd ((gf_4_replayJournal R nd (gf_4_levelSupers R nd (gf_4_findWhatHolds R nd (gsi g 1 1)))).2) (((gf_4_replayJournal R nd (gf_4_levelSupers R nd (gf_4_findWhatHolds R nd (gsi g 1 1)))).2).1 9) (((gf_4_replayJournal R nd (gf_4_levelSupers R nd (gf_4_findWhatHolds R nd (gsi g 1 1)))).2).1 10) (((gf_4_replayJournal R nd (gf_4_levelSupers R nd (gf_4_findWhatHolds R nd (gsi g 1 1)))).2).1 11) (-1)).1 1) = 0 then
            (0, gf_4_setSuper R nd ((gf_4_replayJournal R nd (gf_4_levelSupers R nd (gf_4_findWhatHolds R nd (gsi g 1 1)))).2) (((gf_4_replayJournal R nd (gf_4_levelSupers R nd (gf_4_findWhatHolds R nd (gsi g 1 1)))).2).1 9) (((gf_4_replayJournal R nd (gf_4_levelSupers R nd (gf_4_findWhatHolds R nd (gsi g 1 1)))).2).1 10) (((gf_4_replayJournal R nd (gf_4_levelSupers R nd (gf_4_findWhatHolds R nd (gsi g 1 1)))).2).1 11) (-1))
          else
            ((1 + 0) + 0, gf_4_setSuper R nd ((gf_4_replayJournal R nd (gf_4_levelSupers R nd (gf_4_findWhatHolds R nd (gsi g 1 1)))).2) (((gf_4_replayJournal R nd (gf_4_levelSupers R nd (gf_4_findWhatHolds R nd (gsi g 1 1)))).2).1 9) (((gf_4_replayJournal R nd (gf_4_levelSupers R nd (gf_4_findWhatHolds R nd (gsi g 1 1)))).2).1 10) (((gf_4_replayJournal R nd (gf_4_levelSupers R nd (gf_4_findWhatHolds R nd (gsi g 1 1)))).2).1 11) (-1))
        else
          if ((gf_4_resumeReshaping R nd ((gf_4_replayJournal R nd (gf_4_levelSupers R nd (gf_4_findWhatHolds R nd (gsi g 1 1)))).2)).1) = 0 then
            if ((gf_4_setSuper R nd ((gf_4_resumeReshaping R nd ((gf_4_replayJournal R nd (gf_4_levelSupers R nd (gf_4_findWhatHolds R nd (gsi g 1 1)))).2)).2) (((gf_4_resumeReshaping R nd ((gf_4_replayJournal R nd (gf_4_levelSupers R nd (gf_4_findWhatHolds R nd (gsi g 1 1)))).2)).2).1 9) (((gf_4_resumeReshaping R nd ((gf_4_replayJournal R nd (gf_4_levelSupers R nd (gf_4_findWhatHolds R nd (gsi g 1 1)))).2)).2).1 10) (((gf_4_resumeReshaping R nd ((gf_4_replayJournal R nd (gf_4_levelSupers R nd (gf_4_findWhatHolds R nd (gsi g 1 1)))).2)).2).1 11) (-1)).1 1) = 0 then
              (0, gf_4_setSuper R nd ((gf_4_resumeReshaping R nd ((gf_4_replayJournal R nd (gf_4_levelSupers R nd (gf_4_findWhatHolds R nd (gsi g 1 1)))).2)).2) (((gf_4_resumeReshaping R nd ((gf_4_replayJournal R nd (gf_4_levelSupers R nd (gf_4_findWhatHolds R nd (gsi g 1 1)))).2)).2).1 9) (((gf_4_resumeReshaping R nd ((gf_4_replayJournal R nd (gf_4_levelSupers R nd (gf_4_findWhatHolds R nd (gsi g 1 1)))).2)).2).1 10) (((gf_4_resumeReshaping R nd ((gf_4_replayJournal R nd (gf_4_levelSupers R nd (gf_4_findWhatHolds R nd (gsi g 1 1)))).2)).2).1 11) (-1))
            else
              ((1 + 0) + 0, gf_4_setSuper R nd ((gf_4_resumeReshaping R nd ((gf_4_replayJournal R nd (gf_4_levelSupers R nd (gf_4_findWhatHolds R nd (gsi g 1 1)))).2)).2) (((gf_4_resumeReshaping R nd ((gf_4_replayJournal R nd (gf_4_levelSupers R nd (gf_4_findWhatHolds R nd (gsi g 1 1)))).2)).2).1 9) (((gf_4_resumeReshaping R nd ((gf_4_replayJournal R nd (gf_4_levelSupers R nd (gf_4_findWhatHolds R nd (gsi g 1 1)))).2)).2).1 10) (((gf_4_resumeReshaping R nd ((gf_4_replayJournal R nd (gf_4_levelSupers R nd (gf_4_findWhatHolds R nd (gsi g 1 1)))).2)).2).1 11) (-1))
          else
            if (((gf_4_resumeReshaping R nd ((gf_4_replayJournal R nd (gf_4_levelSupers R nd (gf_4_findWhatHolds R nd (gsi g 1 1)))).2)).2).1 1) = 0 then
              (0, (gf_4_resumeReshaping R nd ((gf_4_replayJournal R nd (gf_4_levelSupers R nd (gf_4_findWhatHolds R nd (gsi g 1 1)))).2)).2)
            else
              ((1 + 0) + 4, (gf_4_resumeReshaping R nd ((gf_4_replayJournal R nd (gf_4_levelSupers R nd (gf_4_findWhatHolds R nd (gsi g 1 1)))).2)).2)
      else
        if (((gf_4_replayJournal R nd (gf_4_levelSupers R nd (gf_4_findWhatHolds R nd (gsi g 1 1)))).2).1 1) = 0 then
          if ((gf_4_setSuper R nd ((gf_4_replayJournal R nd (gf_4_levelSupers R nd (gf_4_findWhatHolds R nd (gsi g 1 1)))).2) (((gf_4_replayJournal R nd (gf_4_levelSupers R nd (gf_4_findWhatHolds R nd (gsi g 1 1)))).2).1 9) (((gf_4_replayJournal R nd (gf_4_levelSupers R nd (gf_4_findWhatHolds R nd (gsi g 1 1)))).2).1 10) (((gf_4_replayJournal R nd (gf_4_levelSupers R nd (gf_4_findWhatHolds R nd (gsi g 1 1)))).2).1 11) (-1)).1 1) = 0 then
            (0, gf_4_setSuper R nd ((gf_4_replayJournal R nd (gf_4_levelSupers R nd (gf_4_findWhatHolds R nd (gsi g 1 1)))).2) (((gf_4_replayJournal R nd (gf_4_levelSupers R nd (gf_4_findWhatHolds R nd (gsi g 1 1)))).2).1 9) (((gf_4_replayJournal R nd (gf_4_levelSupers R nd (gf_4_findWhatHolds R nd (gsi g 1 1)))).2).1 10) (((gf_4_replayJournal R nd (gf_4_levelSupers R nd (gf_4_findWhatHolds R nd (gsi g 1 1)))).2).1 11) (-1))
          else
            ((1 + 2) + 0, gf_4_setSuper R nd ((gf_4_replayJournal R nd (gf_4_levelSupers R nd (gf_4_findWhatHolds R nd (gsi g 1 1)))).2) (((gf_4_replayJournal R nd (gf_4_levelSupers R nd (gf_4_findWhatHolds R nd (gsi g 1 1)))).2).1 9) (((gf_4_replayJournal R nd (gf_4_levelSupers R nd (gf_4_findWhatHolds R nd (gsi g 1 1)))).2).1 10) (((gf_4_replayJournal R nd (gf_4_levelSupers R nd (gf_4_findWhatHolds R nd (gsi g 1 1)))).2).1 11) (-1))
        else
          if ((gf_4_resumeReshaping R nd ((gf_4_replayJournal R nd (gf_4_levelSupers R nd (gf_4_findWhatHolds R nd (gsi g 1 1)))).2)).1) = 0 then
            if ((gf_4_setSuper R nd ((gf_4_resumeReshaping R nd ((gf_4_replayJournal R nd (gf_4_levelSupers R nd (gf_4_findWhatHolds R nd (gsi g 1 1)))).2)).2) (((gf_4_resumeReshaping R nd ((gf_4_replayJournal R nd (gf_4_levelSupers R nd (gf_4_findWhatHolds R nd (gsi g 1 1)))).2)).2).1 9) (((gf_4_resumeReshaping R nd ((gf_4_replayJournal R nd (gf_4_levelSupers R nd (gf_4_findWhatHolds R nd (gsi g 1 1)))).2)).2).1 10) (((gf_4_resumeReshaping R nd ((gf_4_replayJournal R nd (gf_4_levelSupers R nd (gf_4_findWhatHolds R nd (gsi g 1 1)))).2)).2).1 11) (-1)).1 1) = 0 then
              (0, gf_4_setSuper R nd ((gf_4_resumeReshaping R nd ((gf_4_replayJournal R nd (gf_4_levelSupers R nd (gf_4_findWhatHolds R nd (gsi g 1 1)))).2)).2) (((gf_4_resumeReshaping R nd ((gf_4_replayJournal R nd (gf_4_levelSupers R nd (gf_4_findWhatHolds R nd (gsi g 1 1)))).2)).2).1 9) (((gf_4_resumeReshaping R nd ((gf_4_replayJournal R nd (gf_4_levelSupers R nd (gf_4_findWhatHolds R nd (gsi g 1 1)))).2)).2).1 10) (((gf_4_resumeReshaping R nd ((gf_4_replayJournal R nd (gf_4_levelSupers R nd (gf_4_findWhatHolds R nd (gsi g 1 1)))).2)).2).1 11) (-1))
            else
              ((1 + 2) + 0, gf_4_setSuper R nd ((gf_4_resumeReshaping R nd ((gf_4_replayJournal R nd (gf_4_levelSupers R nd (gf_4_findWhatHolds R nd (gsi g 1 1)))).2)).2) (((gf_4_resumeReshaping R nd ((gf_4_replayJournal R nd (gf_4_levelSupers R nd (gf_4_findWhatHolds R nd (gsi g 1 1)))).2)).2).1 9) (((gf_4_resumeReshaping R nd ((gf_4_replayJournal R nd (gf_4_levelSupers R nd (gf_4_findWhatHolds R nd (gsi g 1 1)))).2)).2).1 10) (((gf_4_resumeReshaping R nd ((gf_4_replayJournal R nd (gf_4_levelSupers R nd (gf_4_findWhatHolds R nd (gsi g 1 1)))).2)).2).1 11) (-1))
          else
            if (((gf_4_resumeReshaping R nd ((gf_4_replayJournal R nd (gf_4_levelSupers R nd (gf_4_findWhatHolds R nd (gsi g 1 1)))).2)).2).1 1) = 0 then
              (0, (gf_4_resumeReshaping R nd ((gf_4_replayJournal R nd (gf_4_levelSupers R nd (gf_4_findWhatHolds R nd (gsi g 1 1)))).2)).2)
            else
              ((1 + 2) + 4, (gf_4_resumeReshaping R nd ((gf_4_replayJournal R nd (gf_4_levelSupers R nd (gf_4_findWhatHolds R nd (gsi g 1 1)))).2)).2)
  else
    ((-1), g)
set_option maxRecDepth 20000 in
set_option maxHeartbeats 4000000 in
theorem gc_4_open (l : Launch) (D : hD) (H0 : Heap) (a R nd : Nat) (g : GS) (h0 : hH) (n : Nat)  (hnd : nd ≤ 10) (hRR : R ≤ 48)  : cM l D H0 yX4_open cX4_open 3 (some .int) 6 137 0 0 [.ref a] (gput a R nd g h0) n (cE (some (.int (gf_4_open R nd g).1)) (gput a R nd (gf_4_open R nd g).2 h0) n) := by
  refine h_met (by decide) (Nat.le_of_ble_eq_true rfl) ?_
  intro p e s m below meth c H ls X hnm hr hz hl
  have hl : lv_has ls 3 [(0, .ref a)] := hl
  have hlo : hL H0 ([] : List Loc) := hL.nil
  refine lv_aload_n X.x X.b dX4_open_0 rfl (lv_at hl 0 rfl) ?_
  refine h_get X hr fd_X4_54 gput_o (v := .int (g.1 1)) rfl dX4_open_1 ?_
  refine lv_if_eq (tgt := 9) X.x X.b dX4_open_4 (by decide) (fun c4 => ?_) (fun c4 => ?_)
  · refine lv_aload_n X.x X.b dX4_open_9 rfl (lv_at hl 0 rfl) ?_
    refine lv_iconst (v := 1) X.x X.b dX4_open_10 (by decide) ?_
    refine h_put X hr hz hlo fd_X4_54 tyX4 tyX4_ok nmX4 rfl gput_o (v := .int 1) rfl rfl (Nat.le_of_ble_eq_true rfl) dX4_open_11 (fun H locs hr hz hlo => ?_)
    rw [gput_s1] at hr
    refine lv_aload_n X.x X.b dX4_open_14 rfl (lv_at hl 0 rfl) ?_
    refine h_callV X hr hz hlo (rest := []) (gc_4_findWhatHolds l D H0 a R nd (gsi g 1 1) h0 n  hnd hRR  ) gput_o rfl yv_X4_findWhatHolds ml_X4_173 ⟨(Nat.le_of_ble_eq_true rfl), (Nat.le_of_ble_eq_true rfl)⟩ (Nat.le_of_ble_eq_true rfl) hl.1 ⟨(Nat.le_of_ble_eq_true rfl), (Nat.le_of_ble_eq_true rfl)⟩ rfl dX4_open_15 (fun v9 h9 n9 H locs hp hr hz hlo => ?_)
    obtain ⟨rfl, rfl, rfl⟩ := hp
    show W p l e _ s m _ below meth c H locs _ _ _ (F0 m 18 ls [])
    refine lv_aload_n X.x X.b dX4_open_18 rfl (lv_at hl 0 rfl) ?_
    refine h_callV X hr hz hlo (rest := []) (gc_4_levelSupers l D H0 a R nd (gf_4_findWhatHolds R nd (gsi g 1 1)) h0 n  hnd hRR  ) gput_o rfl yv_X4_levelSupers ml_X4_176 ⟨(Nat.le_of_ble_eq_true rfl), (Nat.le_of_ble_eq_true rfl)⟩ (Nat.le_of_ble_eq_true rfl) hl.1 ⟨(Nat.le_of_ble_eq_true rfl), (Nat.le_of_ble_eq_true rfl)⟩ rfl dX4_open_19 (fun v9 h9 n9 H locs hp hr hz hlo => ?_)
    obtain ⟨rfl, rfl, rfl⟩ := hp
    show W p l e _ s m _ below meth c H locs _ _ _ (F0 m 22 ls [])
    refine lv_aload_n X.x X.b dX4_open_22 rfl (lv_at hl 0 rfl) ?_
    refine h_get X hr fd_X4_54 gput_o (v := .int ((gf_4_levelSupers R nd (gf_4_findWhatHolds R nd (gsi g 1 1))).1 1)) rfl dX4_open_23 ?_
    refine lv_if_eq (tgt := 40) X.x X.b dX4_open_26 (by decide) (fun c26 => ?_) (fun c26 => ?_)
    · refine lv_iconst (v := 0) X.x X.b dX4_open_40 (by decide) ?_
      refine lv_istore_n (lv' := [(1, .int 0), (0, .ref a)]) X.x X.b dX4_open_41 rfl hl (by decide) rfl (fun ls hl => ?_)
      refine lv_aload_n X.x X.b dX4_open_42 rfl (lv_at hl 1 rfl) ?_
      refine h_get X hr fd_X4_54 gput_o (v := .int ((gf_4_levelSupers R nd (gf_4_findWhatHolds R nd (gsi g 1 1))).1 1)) rfl dX4_open_43 ?_
      refine lv_if_eq (tgt := 60) X.x X.b dX4_open_46 (by decide) (fun c46 => ?_) (fun c46 => ?_)
      · refine lv_iconst (v := 0) X.x X.b dX4_open_60 (by decide) ?_
        refine lv_istore_n (lv' := [(2, .int 0), (1, .int 0), (0, .ref a)]) X.x X.b dX4_open_61 rfl hl (by decide) rfl (fun ls hl => ?_)
        refine lv_iload_n X.x X.b dX4_open_62 rfl (lv_at hl 0 rfl) ?_
        refine lv_if_ne (tgt := 92) X.x X.b dX4_open_63 (by decide) (fun c63 => ?_) (fun c63 => ?_)
        · exact absurd (by decide) c63
        · refine lv_aload_n X.x X.b dX4_open_66 rfl (lv_at hl 2 rfl) ?_
          refine lv_aload_n X.x X.b dX4_open_67 rfl (lv_at hl 2 rfl) ?_
          refine h_get X hr fd_X4_19 gput_o (v := .ref (a + 1)) rfl dX4_open_68 ?_
          refine h_get X hr fd_X4_125 gput_h (v := .int ((gf_4_levelSupers R nd (gf_4_findWhatHolds R nd (gsi g 1 1))).1 9)) rfl dX4_open_71 ?_
          refine lv_aload_n X.x X.b dX4_open_74 rfl (lv_at hl 2 rfl) ?_
          refine h_get X hr fd_X4_19 gput_o (v := .ref (a + 1)) rfl dX4_open_75 ?_
          refine h_get X hr fd_X4_115 gput_h (v := .int ((gf_4_levelSupers R nd (gf_4_findWhatHolds R nd (gsi g 1 1))).1 10)) rfl dX4_open_78 ?_
          refine lv_aload_n X.x X.b dX4_open_81 rfl (lv_at hl 2 rfl) ?_
          refine h_get X hr fd_X4_19 gput_o (v := .ref (a + 1)) rfl dX4_open_82 ?_
          refine h_get X hr fd_X4_170 gput_h (v := .int ((gf_4_levelSupers R nd (gf_4_findWhatHolds R nd (gsi g 1 1))).1 11)) rfl dX4_open_85 ?_
          refine lv_iconst (v := -1) X.x X.b dX4_open_88 (by decide) ?_
          refine h_callV X hr hz hlo (rest := []) (gc_4_setSuper l D H0 a R nd (gf_4_levelSupers R nd (gf_4_findWhatHolds R nd (gsi g 1 1))) h0 n ((gf_4_levelSupers R nd (gf_4_findWhatHolds R nd (gsi g 1 1))).1 9) ((gf_4_levelSupers R nd (gf_4_findWhatHolds R nd (gsi g 1 1))).1 10) ((gf_4_levelSupers R nd (gf_4_findWhatHolds R nd (gsi g 1 1))).1 11) (-1) hnd hRR  ) gput_o rfl yv_X4_setSuper ml_X4_128 ⟨(Nat.le_of_ble_eq_true rfl), (Nat.le_of_ble_eq_true rfl)⟩ (Nat.le_of_ble_eq_true rfl) hl.1 ⟨(Nat.le_of_ble_eq_true rfl), (Nat.le_of_ble_eq_true rfl)⟩ rfl dX4_open_89 (fun v9 h9 n9 H locs hp hr hz hlo => ?_)
          obtain ⟨rfl, rfl, rfl⟩ := hp
          show W p l e _ s m _ below meth c H locs _ _ _ (F0 m 92 ls [])
          refine lv_aload_n X.x X.b dX4_open_92 rfl (lv_at hl 2 rfl) ?_
          refine h_get X hr fd_X4_54 gput_o (v := .int ((gf_4_setSuper R nd (gf_4_levelSupers R nd (gf_4_findWhatHolds R nd (gsi g 1 1))) ((gf_4_levelSupers R nd (gf_4_findWhatHolds R nd (gsi g 1 1))).1 9) ((gf_4_levelSupers R nd (gf_4_findWhatHolds R nd (gsi g 1 1))).1 10) ((gf_4_levelSupers R nd (gf_4_findWhatHolds R nd (gsi g 1 1))).1 11) (-1)).1 1)) rfl dX4_open_93 ?_
          refine lv_if_ne (tgt := 101) X.x X.b dX4_open_96 (by decide) (fun c96 => ?_) (fun c96 => ?_)
          · refine lv_iconst (v := 1) X.x X.b dX4_open_101 (by decide) ?_
            refine lv_iload_n X.x X.b dX4_open_102 rfl (lv_at hl 1 rfl) ?_
            refine lv_if_eq (tgt := 110) X.x X.b dX4_open_103 (by decide) (fun c103 => ?_) (fun c103 => ?_)
            · refine lv_iconst (v := 0) X.x X.b dX4_open_110 (by decide) ?_
              refine lv_iadd X.x X.b dX4_open_111 ?_
              refine lv_iload_n X.x X.b dX4_open_112 rfl (lv_at hl 0 rfl) ?_
              refine lv_if_eq (tgt := 120) X.x X.b dX4_open_113 (by decide) (fun c113 => ?_) (fun c113 => ?_)
              · refine lv_iconst (v := 0) X.x X.b dX4_open_120 (by decide) ?_
                refine lv_iadd X.x X.b dX4_open_121 ?_
                exact h_iret X hr hz hlo (glfi (id (by unfold gf_4_open; rw [if_pos c4, if_pos c26, if_pos c46, if_neg c96]))) (Nat.le_of_ble_eq_true rfl) (Nat.le_of_ble_eq_true rfl) dX4_open_122
              · exact absurd (by decide) c113
            · exact absurd (by decide) c103
          · refine lv_iconst (v := 0) X.x X.b dX4_open_99 (by decide) ?_
            exact h_iret X hr hz hlo (glfi (id (by unfold gf_4_open; rw [if_pos c4, if_pos c26, if_pos c46, if_pos c96]))) (Nat.le_of_ble_eq_true rfl) (Nat.le_of_ble_eq_true rfl) dX4_open_100
      · refine lv_aload_n X.x X.b dX4_open_49 rfl (lv_at hl 1 rfl) ?_
        refine h_callV X hr hz hlo (rest := []) (gc_4_resumeReshaping l D H0 a R nd (gf_4_levelSupers R nd (gf_4_findWhatHolds R nd (gsi g 1 1))) h0 n  hnd hRR  ) gput_o rfl yv_X4_resumeReshaping ml_X4_182 ⟨(Nat.le_of_ble_eq_true rfl), (Nat.le_of_ble_eq_true rfl)⟩ (Nat.le_of_ble_eq_true rfl) hl.1 ⟨(Nat.le_of_ble_eq_true rfl), (Nat.le_of_ble_eq_true rfl)⟩ rfl dX4_open_50 (fun v9 h9 n9 H locs hp hr hz hlo => ?_)
        obtain ⟨rfl, rfl, rfl⟩ := hp
        show W p l e _ s m _ below meth c H locs _ _ _ (F0 m 53 ls [.int ((gf_4_resumeReshaping R nd (gf_4_levelSupers R nd (gf_4_findWhatHolds R nd (gsi g 1 1)))).1)])
        refine lv_if_eq (tgt := 60) X.x X.b dX4_open_53 (by decide) (fun c53 => ?_) (fun c53 => ?_)
        · refine lv_iconst (v := 0) X.x X.b dX4_open_60 (by decide) ?_
          refine lv_istore_n (lv' := [(2, .int 0), (1, .int 0), (0, .ref a)]) X.x X.b dX4_open_61 rfl hl (by decide) rfl (fun ls hl => ?_)
          refine lv_iload_n X.x X.b dX4_open_62 rfl (lv_at hl 0 rfl) ?_
          refine lv_if_ne (tgt := 92) X.x X.b dX4_open_63 (by decide) (fun c63 => ?_) (fun c63 => ?_)
          · exact absurd (by decide) c63
          · refine lv_aload_n X.x X.b dX4_open_66 rfl (lv_at hl 2 rfl) ?_
            refine lv_aload_n X.x X.b dX4_open_67 rfl (lv_at hl 2 rfl) ?_
            refine h_get X hr fd_X4_19 gput_o (v := .ref (a + 1)) rfl dX4_open_68 ?_
            refine h_get X hr fd_X4_125 gput_h (v := .int (((gf_4_resumeReshaping R nd (gf_4_levelSupers R nd (gf_4_findWhatHolds R nd (gsi g 1 1)))).2).1 9)) rfl dX4_open_71 ?_
            refine lv_aload_n X.x X.b dX4_open_74 rfl (lv_at hl 2 rfl) ?_
            refine h_get X hr fd_X4_19 gput_o (v := .ref (a + 1)) rfl dX4_open_75 ?_
            refine h_get X hr fd_X4_115 gput_h (v := .int (((gf_4_resumeReshaping R nd (gf_4_levelSupers R nd (gf_4_findWhatHolds R nd (gsi g 1 1)))).2).1 10)) rfl dX4_open_78 ?_
            refine lv_aload_n X.x X.b dX4_open_81 rfl (lv_at hl 2 rfl) ?_
            refine h_get X hr fd_X4_19 gput_o (v := .ref (a + 1)) rfl dX4_open_82 ?_
            refine h_get X hr fd_X4_170 gput_h (v := .int (((gf_4_resumeReshaping R nd (gf_4_levelSupers R nd (gf_4_findWhatHolds R nd (gsi g 1 1)))).2).1 11)) rfl dX4_open_85 ?_
            refine lv_iconst (v := -1) X.x X.b dX4_open_88 (by decide) ?_
            refine h_callV X hr hz hlo (rest := []) (gc_4_setSuper l D H0 a R nd ((gf_4_resumeReshaping R nd (gf_4_levelSupers R nd (gf_4_findWhatHolds R nd (gsi g 1 1)))).2) h0 n (((gf_4_resumeReshaping R nd (gf_4_levelSupers R nd (gf_4_findWhatHolds R nd (gsi g 1 1)))).2).1 9) (((gf_4_resumeReshaping R nd (gf_4_levelSupers R nd (gf_4_findWhatHolds R nd (gsi g 1 1)))).2).1 10) (((gf_4_resumeReshaping R nd (gf_4_levelSupers R nd (gf_4_findWhatHolds R nd (gsi g 1 1)))).2).1 11) (-1) hnd hRR  ) gput_o rfl yv_X4_setSuper ml_X4_128 ⟨(Nat.le_of_ble_eq_true rfl), (Nat.le_of_ble_eq_true rfl)⟩ (Nat.le_of_ble_eq_true rfl) hl.1 ⟨(Nat.le_of_ble_eq_true rfl), (Nat.le_of_ble_eq_true rfl)⟩ rfl dX4_open_89 (fun v9 h9 n9 H locs hp hr hz hlo => ?_)
            obtain ⟨rfl, rfl, rfl⟩ := hp
            show W p l e _ s m _ below meth c H locs _ _ _ (F0 m 92 ls [])
            refine lv_aload_n X.x X.b dX4_open_92 rfl (lv_at hl 2 rfl) ?_
            refine h_get X hr fd_X4_54 gput_o (v := .int ((gf_4_setSuper R nd ((gf_4_resumeReshaping R nd (gf_4_levelSupers R nd (gf_4_findWhatHolds R nd (gsi g 1 1)))).2) (((gf_4_resumeReshaping R nd (gf_4_levelSupers R nd (gf_4_findWhatHolds R nd (gsi g 1 1)))).2).1 9) (((gf_4_resumeReshaping R nd (gf_4_levelSupers R nd (gf_4_findWhatHolds R nd (gsi g 1 1)))).2).1 10) (((gf_4_resumeReshaping R nd (gf_4_levelSupers R nd (gf_4_findWhatHolds R nd (gsi g 1 1)))).2).1 11) (-1)).1 1)) rfl dX4_open_93 ?_
            refine lv_if_ne (tgt := 101) X.x X.b dX4_open_96 (by decide) (fun c96 => ?_) (fun c96 => ?_)
            · refine lv_iconst (v := 1) X.x X.b dX4_open_101 (by decide) ?_
              refine lv_iload_n X.x X.b dX4_open_102 rfl (lv_at hl 1 rfl) ?_
              refine lv_if_eq (tgt := 110) X.x X.b dX4_open_103 (by decide) (fun c103 => ?_) (fun c103 => ?_)
              · refine lv_iconst (v := 0) X.x X.b dX4_open_110 (by decide) ?_
                refine lv_iadd X.x X.b dX4_open_111 ?_
                refine lv_iload_n X.x X.b dX4_open_112 rfl (lv_at hl 0 rfl) ?_
                refine lv_if_eq (tgt := 120) X.x X.b dX4_open_113 (by decide) (fun c113 => ?_) (fun c113 => ?_)
                · refine lv_iconst (v := 0) X.x X.b dX4_open_120 (by decide) ?_
                  refine lv_iadd X.x X.b dX4_open_121 ?_
                  exact h_iret X hr hz hlo (glfi (id (by unfold gf_4_open; rw [if_pos c4, if_pos c26, if_neg c46, if_pos c53, if_neg c96]))) (Nat.le_of_ble_eq_true rfl) (Nat.le_of_ble_eq_true rfl) dX4_open_122
                · exact absurd (by decide) c113
              · exact absurd (by decide) c103
            · refine lv_iconst (v := 0) X.x X.b dX4_open_99 (by decide) ?_
              exact h_iret X hr hz hlo (glfi (id (by unfold gf_4_open; rw [if_pos c4, if_pos c26, if_neg c46, if_pos c53, if_pos c96]))) (Nat.le_of_ble_eq_true rfl) (Nat.le_of_ble_eq_true rfl) dX4_open_100
        · refine lv_iconst (v := 1) X.x X.b dX4_open_56 (by decide) ?_
          refine lv_goto (tgt := 61) X.x X.b dX4_open_57 (by decide) ?_
          refine lv_istore_n (lv' := [(2, .int 1), (1, .int 0), (0, .ref a)]) X.x X.b dX4_open_61 rfl hl (by decide) rfl (fun ls hl => ?_)
          refine lv_iload_n X.x X.b dX4_open_62 rfl (lv_at hl 0 rfl) ?_
          refine lv_if_ne (tgt := 92) X.x X.b dX4_open_63 (by decide) (fun c63 => ?_) (fun c63 => ?_)
          · refine lv_aload_n X.x X.b dX4_open_92 rfl (lv_at hl 2 rfl) ?_
            refine h_get X hr fd_X4_54 gput_o (v := .int (((gf_4_resumeReshaping R nd (gf_4_levelSupers R nd (gf_4_findWhatHolds R nd (gsi g 1 1)))).2).1 1)) rfl dX4_open_93 ?_
            refine lv_if_ne (tgt := 101) X.x X.b dX4_open_96 (by decide) (fun c96 => ?_) (fun c96 => ?_)
            · refine lv_iconst (v := 1) X.x X.b dX4_open_101 (by decide) ?_
              refine lv_iload_n X.x X.b dX4_open_102 rfl (lv_at hl 1 rfl) ?_
              refine lv_if_eq (tgt := 110) X.x X.b dX4_open_103 (by decide) (fun c103 => ?_) (fun c103 => ?_)
              · refine lv_iconst (v := 0) X.x X.b dX4_open_110 (by decide) ?_
                refine lv_iadd X.x X.b dX4_open_111 ?_
                refine lv_iload_n X.x X.b dX4_open_112 rfl (lv_at hl 0 rfl) ?_
                refine lv_if_eq (tgt := 120) X.x X.b dX4_open_113 (by decide) (fun c113 => ?_) (fun c113 => ?_)
                · exact absurd c113 (by decide)
                · refine lv_iconst (v := 4) X.x X.b dX4_open_116 (by decide) ?_
                  refine lv_goto (tgt := 121) X.x X.b dX4_open_117 (by decide) ?_
                  refine lv_iadd X.x X.b dX4_open_121 ?_
                  exact h_iret X hr hz hlo (glfi (id (by unfold gf_4_open; rw [if_pos c4, if_pos c26, if_neg c46, if_neg c53, if_neg c96]))) (Nat.le_of_ble_eq_true rfl) (Nat.le_of_ble_eq_true rfl) dX4_open_122
              · exact absurd (by decide) c103
            · refine lv_iconst (v := 0) X.x X.b dX4_open_99 (by decide) ?_
              exact h_iret X hr hz hlo (glfi (id (by unfold gf_4_open; rw [if_pos c4, if_pos c26, if_neg c46, if_neg c53, if_pos c96]))) (Nat.le_of_ble_eq_true rfl) (Nat.le_of_ble_eq_true rfl) dX4_open_100
          · exact absurd c63 (by decide)
    · refine lv_aload_n X.x X.b dX4_open_29 rfl (lv_at hl 0 rfl) ?_
      refine h_callV X hr hz hlo (rest := []) (gc_4_replayJournal l D H0 a R nd (gf_4_levelSupers R nd (gf_4_findWhatHolds R nd (gsi g 1 1))) h0 n  hnd hRR  ) gput_o rfl yv_X4_replayJournal ml_X4_179 ⟨(Nat.le_of_ble_eq_true rfl), (Nat.le_of_ble_eq_true rfl)⟩ (Nat.le_of_ble_eq_true rfl) hl.1 ⟨(Nat.le_of_ble_eq_true rfl), (Nat.le_of_ble_eq_true rfl)⟩ rfl dX4_open_30 (fun v9 h9 n9 H locs hp hr hz hlo => ?_)
      obtain ⟨rfl, rfl, rfl⟩ := hp
      show W p l e _ s m _ below meth c H locs _ _ _ (F0 m 33 ls [.int ((gf_4_replayJournal R nd (gf_4_levelSupers R nd (gf_4_findWhatHolds R nd (gsi g 1 1)))).1)])
      refine lv_if_eq (tgt := 40) X.x X.b dX4_open_33 (by decide) (fun c33 => ?_) (fun c33 => ?_)
      · refine lv_iconst (v := 0) X.x X.b dX4_open_40 (by decide) ?_
        refine lv_istore_n (lv' := [(1, .int 0), (0, .ref a)]) X.x X.b dX4_open_41 rfl hl (by decide) rfl (fun ls hl => ?_)
        refine lv_aload_n X.x X.b dX4_open_42 rfl (lv_at hl 1 rfl) ?_
        refine h_get X hr fd_X4_54 gput_o (v := .int (((gf_4_replayJournal R nd (gf_4_levelSupers R nd (gf_4_findWhatHolds R nd (gsi g 1 1)))).2).1 1)) rfl dX4_open_43 ?_
        refine lv_if_eq (tgt := 60) X.x X.b dX4_open_46 (by decide) (fun c46 => ?_) (fun c46 => ?_)
        · refine lv_iconst (v := 0) X.x X.b dX4_open_60 (by decide) ?_
          refine lv_istore_n (lv' := [(2, .int 0), (1, .int 0), (0, .ref a)]) X.x X.b dX4_open_61 rfl hl (by decide) rfl (fun ls hl => ?_)
          refine lv_iload_n X.x X.b dX4_open_62 rfl (lv_at hl 0 rfl) ?_
          refine lv_if_ne (tgt := 92) X.x X.b dX4_open_63 (by decide) (fun c63 => ?_) (fun c63 => ?_)
          · exact absurd (by decide) c63
          · refine lv_aload_n X.x X.b dX4_open_66 rfl (lv_at hl 2 rfl) ?_
            refine lv_aload_n X.x X.b dX4_open_67 rfl (lv_at hl 2 rfl) ?_
            refine h_get X hr fd_X4_19 gput_o (v := .ref (a + 1)) rfl dX4_open_68 ?_
            refine h_get X hr fd_X4_125 gput_h (v := .int (((gf_4_replayJournal R nd (gf_4_levelSupers R nd (gf_4_findWhatHolds R nd (gsi g 1 1)))).2).1 9)) rfl dX4_open_71 ?_
            refine lv_aload_n X.x X.b dX4_open_74 rfl (lv_at hl 2 rfl) ?_
            refine h_get X hr fd_X4_19 gput_o (v := .ref (a + 1)) rfl dX4_open_75 ?_
            refine h_get X hr fd_X4_115 gput_h (v := .int (((gf_4_replayJournal R nd (gf_4_levelSupers R nd (gf_4_findWhatHolds R nd (gsi g 1 1)))).2).1 10)) rfl dX4_open_78 ?_
            refine lv_aload_n X.x X.b dX4_open_81 rfl (lv_at hl 2 rfl) ?_
            refine h_get X hr fd_X4_19 gput_o (v := .ref (a + 1)) rfl dX4_open_82 ?_
            refine h_get X hr fd_X4_170 gput_h (v := .int (((gf_4_replayJournal R nd (gf_4_levelSupers R nd (gf_4_findWhatHolds R nd (gsi g 1 1)))).2).1 11)) rfl dX4_open_85 ?_
            refine lv_iconst (v := -1) X.x X.b dX4_open_88 (by decide) ?_
            refine h_callV X hr hz hlo (rest := []) (gc_4_setSuper l D H0 a R nd ((gf_4_replayJournal R nd (gf_4_levelSupers R nd (gf_4_findWhatHolds R nd (gsi g 1 1)))).2) h0 n (((gf_4_replayJournal R nd (gf_4_levelSupers R nd (gf_4_findWhatHolds R nd (gsi g 1 1)))).2).1 9) (((gf_4_replayJournal R nd (gf_4_levelSupers R nd (gf_4_findWhatHolds R nd (gsi g 1 1)))).2).1 10) (((gf_4_replayJournal R nd (gf_4_levelSupers R nd (gf_4_findWhatHolds R nd (gsi g 1 1)))).2).1 11) (-1) hnd hRR  ) gput_o rfl yv_X4_setSuper ml_X4_128 ⟨(Nat.le_of_ble_eq_true rfl), (Nat.le_of_ble_eq_true rfl)⟩ (Nat.le_of_ble_eq_true rfl) hl.1 ⟨(Nat.le_of_ble_eq_true rfl), (Nat.le_of_ble_eq_true rfl)⟩ rfl dX4_open_89 (fun v9 h9 n9 H locs hp hr hz hlo => ?_)
            obtain ⟨rfl, rfl, rfl⟩ := hp
            show W p l e _ s m _ below meth c H locs _ _ _ (F0 m 92 ls [])
            refine lv_aload_n X.x X.b dX4_open_92 rfl (lv_at hl 2 rfl) ?_
            refine h_get X hr fd_X4_54 gput_o (v := .int ((gf_4_setSuper R nd ((gf_4_replayJournal R nd (gf_4_levelSupers R nd (gf_4_findWhatHolds R nd (gsi g 1 1)))).2) (((gf_4_replayJournal R nd (gf_4_levelSupers R nd (gf_4_findWhatHolds R nd (gsi g 1 1)))).2).1 9) (((gf_4_replayJournal R nd (gf_4_levelSupers R nd (gf_4_findWhatHolds R nd (gsi g 1 1)))).2).1 10) (((gf_4_replayJournal R nd (gf_4_levelSupers R nd (gf_4_findWhatHolds R nd (gsi g 1 1)))).2).1 11) (-1)).1 1)) rfl dX4_open_93 ?_
            refine lv_if_ne (tgt := 101) X.x X.b dX4_open_96 (by decide) (fun c96 => ?_) (fun c96 => ?_)
            · refine lv_iconst (v := 1) X.x X.b dX4_open_101 (by decide) ?_
              refine lv_iload_n X.x X.b dX4_open_102 rfl (lv_at hl 1 rfl) ?_
              refine lv_if_eq (tgt := 110) X.x X.b dX4_open_103 (by decide) (fun c103 => ?_) (fun c103 => ?_)
              · refine lv_iconst (v := 0) X.x X.b dX4_open_110 (by decide) ?_
                refine lv_iadd X.x X.b dX4_open_111 ?_
                refine lv_iload_n X.x X.b dX4_open_112 rfl (lv_at hl 0 rfl) ?_
                refine lv_if_eq (tgt := 120) X.x X.b dX4_open_113 (by decide) (fun c113 => ?_) (fun c113 => ?_)
                · refine lv_iconst (v := 0) X.x X.b dX4_open_120 (by decide) ?_
                  refine lv_iadd X.x X.b dX4_open_121 ?_
                  exact h_iret X hr hz hlo (glfi (id (by unfold gf_4_open; rw [if_pos c4, if_neg c26, if_pos c33, if_pos c46, if_neg c96]))) (Nat.le_of_ble_eq_true rfl) (Nat.le_of_ble_eq_true rfl) dX4_open_122
                · exact absurd (by decide) c113
              · exact absurd (by decide) c103
            · refine lv_iconst (v := 0) X.x X.b dX4_open_99 (by decide) ?_
              exact h_iret X hr hz hlo (glfi (id (by unfold gf_4_open; rw [if_pos c4, if_neg c26, if_pos c33, if_pos c46, if_pos c96]))) (Nat.le_of_ble_eq_true rfl) (Nat.le_of_ble_eq_true rfl) dX4_open_100
        · refine lv_aload_n X.x X.b dX4_open_49 rfl (lv_at hl 1 rfl) ?_
          refine h_callV X hr hz hlo (rest := []) (gc_4_resumeReshaping l D H0 a R nd ((gf_4_replayJournal R nd (gf_4_levelSupers R nd (gf_4_findWhatHolds R nd (gsi g 1 1)))).2) h0 n  hnd hRR  ) gput_o rfl yv_X4_resumeReshaping ml_X4_182 ⟨(Nat.le_of_ble_eq_true rfl), (Nat.le_of_ble_eq_true rfl)⟩ (Nat.le_of_ble_eq_true rfl) hl.1 ⟨(Nat.le_of_ble_eq_true rfl), (Nat.le_of_ble_eq_true rfl)⟩ rfl dX4_open_50 (fun v9 h9 n9 H locs hp hr hz hlo => ?_)
          obtain ⟨rfl, rfl, rfl⟩ := hp
          show W p l e _ s m _ below meth c H locs _ _ _ (F0 m 53 ls [.int ((gf_4_resumeReshaping R nd ((gf_4_replayJournal R nd (gf_4_levelSupers R nd (gf_4_findWhatHolds R nd (gsi g 1 1)))).2)).1)])
          refine lv_if_eq (tgt := 60) X.x X.b dX4_open_53 (by decide) (fun c53 => ?_) (fun c53 => ?_)
          · refine lv_iconst (v := 0) X.x X.b dX4_open_60 (by decide) ?_
            refine lv_istore_n (lv' := [(2, .int 0), (1, .int 0), (0, .ref a)]) X.x X.b dX4_open_61 rfl hl (by decide) rfl (fun ls hl => ?_)
            refine lv_iload_n X.x X.b dX4_open_62 rfl (lv_at hl 0 rfl) ?_
            refine lv_if_ne (tgt := 92) X.x X.b dX4_open_63 (by decide) (fun c63 => ?_) (fun c63 => ?_)
            · exact absurd (by decide) c63
            · refine lv_aload_n X.x X.b dX4_open_66 rfl (lv_at hl 2 rfl) ?_
              refine lv_aload_n X.x X.b dX4_open_67 rfl (lv_at hl 2 rfl) ?_
              refine h_get X hr fd_X4_19 gput_o (v := .ref (a + 1)) rfl dX4_open_68 ?_
              refine h_get X hr fd_X4_125 gput_h (v := .int (((gf_4_resumeReshaping R nd ((gf_4_replayJournal R nd (gf_4_levelSupers R nd (gf_4_findWhatHolds R nd (gsi g 1 1)))).2)).2).1 9)) rfl dX4_open_71 ?_
              refine lv_aload_n X.x X.b dX4_open_74 rfl (lv_at hl 2 rfl) ?_
              refine h_get X hr fd_X4_19 gput_o (v := .ref (a + 1)) rfl dX4_open_75 ?_
              refine h_get X hr fd_X4_115 gput_h (v := .int (((gf_4_resumeReshaping R nd ((gf_4_replayJournal R nd (gf_4_levelSupers R nd (gf_4_findWhatHolds R nd (gsi g 1 1)))).2)).2).1 10)) rfl dX4_open_78 ?_
              refine lv_aload_n X.x X.b dX4_open_81 rfl (lv_at hl 2 rfl) ?_
              refine h_get X hr fd_X4_19 gput_o (v := .ref (a + 1)) rfl dX4_open_82 ?_
              refine h_get X hr fd_X4_170 gput_h (v := .int (((gf_4_resumeReshaping R nd ((gf_4_replayJournal R nd (gf_4_levelSupers R nd (gf_4_findWhatHolds R nd (gsi g 1 1)))).2)).2).1 11)) rfl dX4_open_85 ?_
              refine lv_iconst (v := -1) X.x X.b dX4_open_88 (by decide) ?_
              refine h_callV X hr hz hlo (rest := []) (gc_4_setSuper l D H0 a R nd ((gf_4_resumeReshaping R nd ((gf_4_replayJournal R nd (gf_4_levelSupers R nd (gf_4_findWhatHolds R nd (gsi g 1 1)))).2)).2) h0 n (((gf_4_resumeReshaping R nd ((gf_4_replayJournal R nd (gf_4_levelSupers R nd (gf_4_findWhatHolds R nd (gsi g 1 1)))).2)).2).1 9) (((gf_4_resumeReshaping R nd ((gf_4_replayJournal R nd (gf_4_levelSupers R nd (gf_4_findWhatHolds R nd (gsi g 1 1)))).2)).2).1 10) (((gf_4_resumeReshaping R nd ((gf_4_replayJournal R nd (gf_4_levelSupers R nd (gf_4_findWhatHolds R nd (gsi g 1 1)))).2)).2).1 11) (-1) hnd hRR  ) gput_o rfl yv_X4_setSuper ml_X4_128 ⟨(Nat.le_of_ble_eq_true rfl), (Nat.le_of_ble_eq_true rfl)⟩ (Nat.le_of_ble_eq_true rfl) hl.1 ⟨(Nat.le_of_ble_eq_true rfl), (Nat.le_of_ble_eq_true rfl)⟩ rfl dX4_open_89 (fun v9 h9 n9 H locs hp hr hz hlo => ?_)
              obtain ⟨rfl, rfl, rfl⟩ := hp
              show W p l e _ s m _ below meth c H locs _ _ _ (F0 m 92 ls [])
              refine lv_aload_n X.x X.b dX4_open_92 rfl (lv_at hl 2 rfl) ?_
              refine h_get X hr fd_X4_54 gput_o (v := .int ((gf_4_setSuper R nd ((gf_4_resumeReshaping R nd ((gf_4_replayJournal R nd (gf_4_levelSupers R nd (gf_4_findWhatHolds R nd (gsi g 1 1)))).2)).2) (((gf_4_resumeReshaping R nd ((gf_4_replayJournal R nd (gf_4_levelSupers R nd (gf_4_findWhatHolds R nd (gsi g 1 1)))).2)).2).1 9) (((gf_4_resumeReshaping R nd ((gf_4_replayJournal R nd (gf_4_levelSupers R nd (gf_4_findWhatHolds R nd (gsi g 1 1)))).2)).2).1 10) (((gf_4_resumeReshaping R nd ((gf_4_replayJournal R nd (gf_4_levelSupers R nd (gf_4_findWhatHolds R nd (gsi g 1 1)))).2)).2).1 11) (-1)).1 1)) rfl dX4_open_93 ?_
              refine lv_if_ne (tgt := 101) X.x X.b dX4_open_96 (by decide) (fun c96 => ?_) (fun c96 => ?_)
              · refine lv_iconst (v := 1) X.x X.b dX4_open_101 (by decide) ?_
                refine lv_iload_n X.x X.b dX4_open_102 rfl (lv_at hl 1 rfl) ?_
                refine lv_if_eq (tgt := 110) X.x X.b dX4_open_103 (by decide) (fun c103 => ?_) (fun c103 => ?_)
                · refine lv_iconst (v := 0) X.x X.b dX4_open_110 (by decide) ?_
                  refine lv_iadd X.x X.b dX4_open_111 ?_
                  refine lv_iload_n X.x X.b dX4_open_112 rfl (lv_at hl 0 rfl) ?_
                  refine lv_if_eq (tgt := 120) X.x X.b dX4_open_113 (by decide) (fun c113 => ?_) (fun c113 => ?_)
                  · refine lv_iconst (v := 0) X.x X.b dX4_open_120 (by decide) ?_
                    refine lv_iadd X.x X.b dX4_open_121 ?_
                    exact h_iret X hr hz hlo (glfi (id (by unfold gf_4_open; rw [if_pos c4, if_neg c26, if_pos c33, if_neg c46, if_pos c53, if_neg c96]))) (Nat.le_of_ble_eq_true rfl) (Nat.le_of_ble_eq_true rfl) dX4_open_122
                  · exact absurd (by decide) c113
                · exact absurd (by decide) c103
              · refine lv_iconst (v := 0) X.x X.b dX4_open_99 (by decide) ?_
                exact h_iret X hr hz hlo (glfi (id (by unfold gf_4_open; rw [if_pos c4, if_neg c26, if_pos c33, if_neg c46, if_pos c53, if_pos c96]))) (Nat.le_of_ble_eq_true rfl) (Nat.le_of_ble_eq_true rfl) dX4_open_100
          · refine lv_iconst (v := 1) X.x X.b dX4_open_56 (by decide) ?_
            refine lv_goto (tgt := 61) X.x X.b dX4_open_57 (by decide) ?_
            refine lv_istore_n (lv' := [(2, .int 1), (1, .int 0), (0, .ref a)]) X.x X.b dX4_open_61 rfl hl (by decide) rfl (fun ls hl => ?_)
            refine lv_iload_n X.x X.b dX4_open_62 rfl (lv_at hl 0 rfl) ?_
            refine lv_if_ne (tgt := 92) X.x X.b dX4_open_63 (by decide) (fun c63 => ?_) (fun c63 => ?_)
            · refine lv_aload_n X.x X.b dX4_open_92 rfl (lv_at hl 2 rfl) ?_
              refine h_get X hr fd_X4_54 gput_o (v := .int (((gf_4_resumeReshaping R nd ((gf_4_replayJournal R nd (gf_4_levelSupers R nd (gf_4_findWhatHolds R nd (gsi g 1 1)))).2)).2).1 1)) rfl dX4_open_93 ?_
              refine lv_if_ne (tgt := 101) X.x X.b dX4_open_96 (by decide) (fun c96 => ?_) (fun c96 => ?_)
              · refine lv_iconst (v := 1) X.x X.b dX4_open_101 (by decide) ?_
                refine lv_iload_n X.x X.b dX4_open_102 rfl (lv_at hl 1 rfl) ?_
                refine lv_if_eq (tgt := 110) X.x X.b dX4_open_103 (by decide) (fun c103 => ?_) (fun c103 => ?_)
                · refine lv_iconst (v := 0) X.x X.b dX4_open_110 (by decide) ?_
                  refine lv_iadd X.x X.b dX4_open_111 ?_
                  refine lv_iload_n X.x X.b dX4_open_112 rfl (lv_at hl 0 rfl) ?_
                  refine lv_if_eq (tgt := 120) X.x X.b dX4_open_113 (by decide) (fun c113 => ?_) (fun c113 => ?_)
                  · exact absurd c113 (by decide)
                  · refine lv_iconst (v := 4) X.x X.b dX4_open_116 (by decide) ?_
                    refine lv_goto (tgt := 121) X.x X.b dX4_open_117 (by decide) ?_
                    refine lv_iadd X.x X.b dX4_open_121 ?_
                    exact h_iret X hr hz hlo (glfi (id (by unfold gf_4_open; rw [if_pos c4, if_neg c26, if_pos c33, if_neg c46, if_neg c53, if_neg c96]))) (Nat.le_of_ble_eq_true rfl) (Nat.le_of_ble_eq_true rfl) dX4_open_122
                · exact absurd (by decide) c103
              · refine lv_iconst (v := 0) X.x X.b dX4_open_99 (by decide) ?_
                exact h_iret X hr hz hlo (glfi (id (by unfold gf_4_open; rw [if_pos c4, if_neg c26, if_pos c33, if_neg c46, if_neg c53, if_pos c96]))) (Nat.le_of_ble_eq_true rfl) (Nat.le_of_ble_eq_true rfl) dX4_open_100
            · exact absurd c63 (by decide)
      · refine lv_iconst (v := 1) X.x X.b dX4_open_36 (by decide) ?_
        refine lv_goto (tgt := 41) X.x X.b dX4_open_37 (by decide) ?_
        refine lv_istore_n (lv' := [(1, .int 1), (0, .ref a)]) X.x X.b dX4_open_41 rfl hl (by decide) rfl (fun ls hl => ?_)
        refine lv_aload_n X.x X.b dX4_open_42 rfl (lv_at hl 1 rfl) ?_
        refine h_get X hr fd_X4_54 gput_o (v := .int (((gf_4_replayJournal R nd (gf_4_levelSupers R nd (gf_4_findWhatHolds R nd (gsi g 1 1)))).2).1 1)) rfl dX4_open_43 ?_
        refine lv_if_eq (tgt := 60) X.x X.b dX4_open_46 (by decide) (fun c46 => ?_) (fun c46 => ?_)
        · refine lv_iconst (v := 0) X.x X.b dX4_open_60 (by decide) ?_
          refine lv_istore_n (lv' := [(2, .int 0), (1, .int 1), (0, .ref a)]) X.x X.b dX4_open_61 rfl hl (by decide) rfl (fun ls hl => ?_)
          refine lv_iload_n X.x X.b dX4_open_62 rfl (lv_at hl 0 rfl) ?_
          refine lv_if_ne (tgt := 92) X.x X.b dX4_open_63 (by decide) (fun c63 => ?_) (fun c63 => ?_)
          · exact absurd (by decide) c63
          · refine lv_aload_n X.x X.b dX4_open_66 rfl (lv_at hl 2 rfl) ?_
            refine lv_aload_n X.x X.b dX4_open_67 rfl (lv_at hl 2 rfl) ?_
            refine h_get X hr fd_X4_19 gput_o (v := .ref (a + 1)) rfl dX4_open_68 ?_
            refine h_get X hr fd_X4_125 gput_h (v := .int (((gf_4_replayJournal R nd (gf_4_levelSupers R nd (gf_4_findWhatHolds R nd (gsi g 1 1)))).2).1 9)) rfl dX4_open_71 ?_
            refine lv_aload_n X.x X.b dX4_open_74 rfl (lv_at hl 2 rfl) ?_
            refine h_get X hr fd_X4_19 gput_o (v := .ref (a + 1)) rfl dX4_open_75 ?_
            refine h_get X hr fd_X4_115 gput_h (v := .int (((gf_4_replayJournal R nd (gf_4_levelSupers R nd (gf_4_findWhatHolds R nd (gsi g 1 1)))).2).1 10)) rfl dX4_open_78 ?_
            refine lv_aload_n X.x X.b dX4_open_81 rfl (lv_at hl 2 rfl) ?_
            refine h_get X hr fd_X4_19 gput_o (v := .ref (a + 1)) rfl dX4_open_82 ?_
            refine h_get X hr fd_X4_170 gput_h (v := .int (((gf_4_replayJournal R nd (gf_4_levelSupers R nd (gf_4_findWhatHolds R nd (gsi g 1 1)))).2).1 11)) rfl dX4_open_85 ?_
            refine lv_iconst (v := -1) X.x X.b dX4_open_88 (by decide) ?_
            refine h_callV X hr hz hlo (rest := []) (gc_4_setSuper l D H0 a R nd ((gf_4_replayJournal R nd (gf_4_levelSupers R nd (gf_4_findWhatHolds R nd (gsi g 1 1)))).2) h0 n (((gf_4_replayJournal R nd (gf_4_levelSupers R nd (gf_4_findWhatHolds R nd (gsi g 1 1)))).2).1 9) (((gf_4_replayJournal R nd (gf_4_levelSupers R nd (gf_4_findWhatHolds R nd (gsi g 1 1)))).2).1 10) (((gf_4_replayJournal R nd (gf_4_levelSupers R nd (gf_4_findWhatHolds R nd (gsi g 1 1)))).2).1 11) (-1) hnd hRR  ) gput_o rfl yv_X4_setSuper ml_X4_128 ⟨(Nat.le_of_ble_eq_true rfl), (Nat.le_of_ble_eq_true rfl)⟩ (Nat.le_of_ble_eq_true rfl) hl.1 ⟨(Nat.le_of_ble_eq_true rfl), (Nat.le_of_ble_eq_true rfl)⟩ rfl dX4_open_89 (fun v9 h9 n9 H locs hp hr hz hlo => ?_)
            obtain ⟨rfl, rfl, rfl⟩ := hp
            show W p l e _ s m _ below meth c H locs _ _ _ (F0 m 92 ls [])
            refine lv_aload_n X.x X.b dX4_open_92 rfl (lv_at hl 2 rfl) ?_
            refine h_get X hr fd_X4_54 gput_o (v := .int ((gf_4_setSuper R nd ((gf_4_replayJournal R nd (gf_4_levelSupers R nd (gf_4_findWhatHolds R nd (gsi g 1 1)))).2) (((gf_4_replayJournal R nd (gf_4_levelSupers R nd (gf_4_findWhatHolds R nd (gsi g 1 1)))).2).1 9) (((gf_4_replayJournal R nd (gf_4_levelSupers R nd (gf_4_findWhatHolds R nd (gsi g 1 1)))).2).1 10) (((gf_4_replayJournal R nd (gf_4_levelSupers R nd (gf_4_findWhatHolds R nd (gsi g 1 1)))).2).1 11) (-1)).1 1)) rfl dX4_open_93 ?_
            refine lv_if_ne (tgt := 101) X.x X.b dX4_open_96 (by decide) (fun c96 => ?_) (fun c96 => ?_)
            · refine lv_iconst (v := 1) X.x X.b dX4_open_101 (by decide) ?_
              refine lv_iload_n X.x X.b dX4_open_102 rfl (lv_at hl 1 rfl) ?_
              refine lv_if_eq (tgt := 110) X.x X.b dX4_open_103 (by decide) (fun c103 => ?_) (fun c103 => ?_)
              · exact absurd c103 (by decide)
              · refine lv_iconst (v := 2) X.x X.b dX4_open_106 (by decide) ?_
                refine lv_goto (tgt := 111) X.x X.b dX4_open_107 (by decide) ?_
                refine lv_iadd X.x X.b dX4_open_111 ?_
                refine lv_iload_n X.x X.b dX4_open_112 rfl (lv_at hl 0 rfl) ?_
                refine lv_if_eq (tgt := 120) X.x X.b dX4_open_113 (by decide) (fun c113 => ?_) (fun c113 => ?_)
                · refine lv_iconst (v := 0) X.x X.b dX4_open_120 (by decide) ?_
                  refine lv_iadd X.x X.b dX4_open_121 ?_
                  exact h_iret X hr hz hlo (glfi (id (by unfold gf_4_open; rw [if_pos c4, if_neg c26, if_neg c33, if_pos c46, if_neg c96]))) (Nat.le_of_ble_eq_true rfl) (Nat.le_of_ble_eq_true rfl) dX4_open_122
                · exact absurd (by decide) c113
            · refine lv_iconst (v := 0) X.x X.b dX4_open_99 (by decide) ?_
              exact h_iret X hr hz hlo (glfi (id (by unfold gf_4_open; rw [if_pos c4, if_neg c26, if_neg c33, if_pos c46, if_pos c96]))) (Nat.le_of_ble_eq_true rfl) (Nat.le_of_ble_eq_true rfl) dX4_open_100
        · refine lv_aload_n X.x X.b dX4_open_49 rfl (lv_at hl 1 rfl) ?_
          refine h_callV X hr hz hlo (rest := []) (gc_4_resumeReshaping l D H0 a R nd ((gf_4_replayJournal R nd (gf_4_levelSupers R nd (gf_4_findWhatHolds R nd (gsi g 1 1)))).2) h0 n  hnd hRR  ) gput_o rfl yv_X4_resumeReshaping ml_X4_182 ⟨(Nat.le_of_ble_eq_true rfl), (Nat.le_of_ble_eq_true rfl)⟩ (Nat.le_of_ble_eq_true rfl) hl.1 ⟨(Nat.le_of_ble_eq_true rfl), (Nat.le_of_ble_eq_true rfl)⟩ rfl dX4_open_50 (fun v9 h9 n9 H locs hp hr hz hlo => ?_)
          obtain ⟨rfl, rfl, rfl⟩ := hp
          show W p l e _ s m _ below meth c H locs _ _ _ (F0 m 53 ls [.int ((gf_4_resumeReshaping R nd ((gf_4_replayJournal R nd (gf_4_levelSupers R nd (gf_4_findWhatHolds R nd (gsi g 1 1)))).2)).1)])
          refine lv_if_eq (tgt := 60) X.x X.b dX4_open_53 (by decide) (fun c53 => ?_) (fun c53 => ?_)
          · refine lv_iconst (v := 0) X.x X.b dX4_open_60 (by decide) ?_
            refine lv_istore_n (lv' := [(2, .int 0), (1, .int 1), (0, .ref a)]) X.x X.b dX4_open_61 rfl hl (by decide) rfl (fun ls hl => ?_)
            refine lv_iload_n X.x X.b dX4_open_62 rfl (lv_at hl 0 rfl) ?_
            refine lv_if_ne (tgt := 92) X.x X.b dX4_open_63 (by decide) (fun c63 => ?_) (fun c63 => ?_)
            · exact absurd (by decide) c63
            · refine lv_aload_n X.x X.b dX4_open_66 rfl (lv_at hl 2 rfl) ?_
              refine lv_aload_n X.x X.b dX4_open_67 rfl (lv_at hl 2 rfl) ?_
              refine h_get X hr fd_X4_19 gput_o (v := .ref (a + 1)) rfl dX4_open_68 ?_
              refine h_get X hr fd_X4_125 gput_h (v := .int (((gf_4_resumeReshaping R nd ((gf_4_replayJournal R nd (gf_4_levelSupers R nd (gf_4_findWhatHolds R nd (gsi g 1 1)))).2)).2).1 9)) rfl dX4_open_71 ?_
              refine lv_aload_n X.x X.b dX4_open_74 rfl (lv_at hl 2 rfl) ?_
              refine h_get X hr fd_X4_19 gput_o (v := .ref (a + 1)) rfl dX4_open_75 ?_
              refine h_get X hr fd_X4_115 gput_h (v := .int (((gf_4_resumeReshaping R nd ((gf_4_replayJournal R nd (gf_4_levelSupers R nd (gf_4_findWhatHolds R nd (gsi g 1 1)))).2)).2).1 10)) rfl dX4_open_78 ?_
              refine lv_aload_n X.x X.b dX4_open_81 rfl (lv_at hl 2 rfl) ?_
              refine h_get X hr fd_X4_19 gput_o (v := .ref (a + 1)) rfl dX4_open_82 ?_
              refine h_get X hr fd_X4_170 gput_h (v := .int (((gf_4_resumeReshaping R nd ((gf_4_replayJournal R nd (gf_4_levelSupers R nd (gf_4_findWhatHolds R nd (gsi g 1 1)))).2)).2).1 11)) rfl dX4_open_85 ?_
              refine lv_iconst (v := -1) X.x X.b dX4_open_88 (by decide) ?_
              refine h_callV X hr hz hlo (rest := []) (gc_4_setSuper l D H0 a R nd ((gf_4_resumeReshaping R nd ((gf_4_replayJournal R nd (gf_4_levelSupers R nd (gf_4_findWhatHolds R nd (gsi g 1 1)))).2)).2) h0 n (((gf_4_resumeReshaping R nd ((gf_4_replayJournal R nd (gf_4_levelSupers R nd (gf_4_findWhatHolds R nd (gsi g 1 1)))).2)).2).1 9) (((gf_4_resumeReshaping R nd ((gf_4_replayJournal R nd (gf_4_levelSupers R nd (gf_4_findWhatHolds R nd (gsi g 1 1)))).2)).2).1 10) (((gf_4_resumeReshaping R nd ((gf_4_replayJournal R nd (gf_4_levelSupers R nd (gf_4_findWhatHolds R nd (gsi g 1 1)))).2)).2).1 11) (-1) hnd hRR  ) gput_o rfl yv_X4_setSuper ml_X4_128 ⟨(Nat.le_of_ble_eq_true rfl), (Nat.le_of_ble_eq_true rfl)⟩ (Nat.le_of_ble_eq_true rfl) hl.1 ⟨(Nat.le_of_ble_eq_true rfl), (Nat.le_of_ble_eq_true rfl)⟩ rfl dX4_open_89 (fun v9 h9 n9 H locs hp hr hz hlo => ?_)
              obtain ⟨rfl, rfl, rfl⟩ := hp
              show W p l e _ s m _ below meth c H locs _ _ _ (F0 m 92 ls [])
              refine lv_aload_n X.x X.b dX4_open_92 rfl (lv_at hl 2 rfl) ?_
              refine h_get X hr fd_X4_54 gput_o (v := .int ((gf_4_setSuper R nd ((gf_4_resumeReshaping R nd ((gf_4_replayJournal R nd (gf_4_levelSupers R nd (gf_4_findWhatHolds R nd (gsi g 1 1)))).2)).2) (((gf_4_resumeReshaping R nd ((gf_4_replayJournal R nd (gf_4_levelSupers R nd (gf_4_findWhatHolds R nd (gsi g 1 1)))).2)).2).1 9) (((gf_4_resumeReshaping R nd ((gf_4_replayJournal R nd (gf_4_levelSupers R nd (gf_4_findWhatHolds R nd (gsi g 1 1)))).2)).2).1 10) (((gf_4_resumeReshaping R nd ((gf_4_replayJournal R nd (gf_4_levelSupers R nd (gf_4_findWhatHolds R nd (gsi g 1 1)))).2)).2).1 11) (-1)).1 1)) rfl dX4_open_93 ?_
              refine lv_if_ne (tgt := 101) X.x X.b dX4_open_96 (by decide) (fun c96 => ?_) (fun c96 => ?_)
              · refine lv_iconst (v := 1) X.x X.b dX4_open_101 (by decide) ?_
                refine lv_iload_n X.x X.b dX4_open_102 rfl (lv_at hl 1 rfl) ?_
                refine lv_if_eq (tgt := 110) X.x X.b dX4_open_103 (by decide) (fun c103 => ?_) (fun c103 => ?_)
                · exact absurd c103 (by decide)
                · refine lv_iconst (v := 2) X.x X.b dX4_open_106 (by decide) ?_
                  refine lv_goto (tgt := 111) X.x X.b dX4_open_107 (by decide) ?_
                  refine lv_iadd X.x X.b dX4_open_111 ?_
                  refine lv_iload_n X.x X.b dX4_open_112 rfl (lv_at hl 0 rfl) ?_
                  refine lv_if_eq (tgt := 120) X.x X.b dX4_open_113 (by decide) (fun c113 => ?_) (fun c113 => ?_)
                  · refine lv_iconst (v := 0) X.x X.b dX4_open_120 (by decide) ?_
                    refine lv_iadd X.x X.b dX4_open_121 ?_
                    exact h_iret X hr hz hlo (glfi (id (by unfold gf_4_open; rw [if_pos c4, if_neg c26, if_neg c33, if_neg c46, if_pos c53, if_neg c96]))) (Nat.le_of_ble_eq_true rfl) (Nat.le_of_ble_eq_true rfl) dX4_open_122
                  · exact absurd (by decide) c113
              · refine lv_iconst (v := 0) X.x X.b dX4_open_99 (by decide) ?_
                exact h_iret X hr hz hlo (glfi (id (by unfold gf_4_open; rw [if_pos c4, if_neg c26, if_neg c33, if_neg c46, if_pos c53, if_pos c96]))) (Nat.le_of_ble_eq_true rfl) (Nat.le_of_ble_eq_true rfl) dX4_open_100
          · refine lv_iconst (v := 1) X.x X.b dX4_open_56 (by decide) ?_
            refine lv_goto (tgt := 61) X.x X.b dX4_open_57 (by decide) ?_
            refine lv_istore_n (lv' := [(2, .int 1), (1, .int 1), (0, .ref a)]) X.x X.b dX4_open_61 rfl hl (by decide) rfl (fun ls hl => ?_)
            refine lv_iload_n X.x X.b dX4_open_62 rfl (lv_at hl 0 rfl) ?_
            refine lv_if_ne (tgt := 92) X.x X.b dX4_open_63 (by decide) (fun c63 => ?_) (fun c63 => ?_)
            · refine lv_aload_n X.x X.b dX4_open_92 rfl (lv_at hl 2 rfl) ?_
              refine h_get X hr fd_X4_54 gput_o (v := .int (((gf_4_resumeReshaping R nd ((gf_4_replayJournal R nd (gf_4_levelSupers R nd (gf_4_findWhatHolds R nd (gsi g 1 1)))).2)).2).1 1)) rfl dX4_open_93 ?_
              refine lv_if_ne (tgt := 101) X.x X.b dX4_open_96 (by decide) (fun c96 => ?_) (fun c96 => ?_)
              · refine lv_iconst (v := 1) X.x X.b dX4_open_101 (by decide) ?_
                refine lv_iload_n X.x X.b dX4_open_102 rfl (lv_at hl 1 rfl) ?_
                refine lv_if_eq (tgt := 110) X.x X.b dX4_open_103 (by decide) (fun c103 => ?_) (fun c103 => ?_)
                · exact absurd c103 (by decide)
                · refine lv_iconst (v := 2) X.x X.b dX4_open_106 (by decide) ?_
                  refine lv_goto (tgt := 111) X.x X.b dX4_open_107 (by decide) ?_
                  refine lv_iadd X.x X.b dX4_open_111 ?_
                  refine lv_iload_n X.x X.b dX4_open_112 rfl (lv_at hl 0 rfl) ?_
                  refine lv_if_eq (tgt := 120) X.x X.b dX4_open_113 (by decide) (fun c113 => ?_) (fun c113 => ?_)
                  · exact absurd c113 (by decide)
                  · refine lv_iconst (v := 4) X.x X.b dX4_open_116 (by decide) ?_
                    refine lv_goto (tgt := 121) X.x X.b dX4_open_117 (by decide) ?_
                    refine lv_iadd X.x X.b dX4_open_121 ?_
                    exact h_iret X hr hz hlo (glfi (id (by unfold gf_4_open; rw [if_pos c4, if_neg c26, if_neg c33, if_neg c46, if_neg c53, if_neg c96]))) (Nat.le_of_ble_eq_true rfl) (Nat.le_of_ble_eq_true rfl) dX4_open_122
              · refine lv_iconst (v := 0) X.x X.b dX4_open_99 (by decide) ?_
                exact h_iret X hr hz hlo (glfi (id (by unfold gf_4_open; rw [if_pos c4, if_neg c26, if_neg c33, if_neg c46, if_neg c53, if_pos c96]))) (Nat.le_of_ble_eq_true rfl) (Nat.le_of_ble_eq_true rfl) dX4_open_100
            · exact absurd c63 (by decide)
  · refine lv_iconst (v := -1) X.x X.b dX4_open_7 (by decide) ?_
    exact h_iret X hr hz hlo (glfi (id (by unfold gf_4_open; rw [if_neg c4]))) (Nat.le_of_ble_eq_true rfl) (Nat.le_of_ble_eq_true rfl) dX4_open_8

def gf_4_place (R nd : Nat) (g : GS) (x : Int32) (what : Int32) : Int32 :=
  if (gf_4_isPlace R nd g x) = 0 then
    (-1)
  else
    if what = 0 then
      gf_4_diskIn R nd g (gf_4_widthOf R nd g x) x
    else
      if what = 1 then
        gf_4_rowIn R nd g (gf_4_widthOf R nd g x) x
      else
        if what = 2 then
          gf_4_parityDisk R nd g (gf_4_widthOf R nd g x) (gf_4_rowIn R nd g (gf_4_widthOf R nd g x) x)
        else
          if what = 3 then
            if (gf_4_isMoved R nd g x) = 0 then
              0
            else
              1
          else
            (-1)
set_option maxRecDepth 20000 in
set_option maxHeartbeats 4000000 in
theorem gc_4_place (l : Launch) (D : hD) (H0 : Heap) (a R nd : Nat) (g : GS) (h0 : hH) (n : Nat) (x : Int32) (what : Int32) (hnd : nd ≤ 10) (hRR : R ≤ 48)  : cM l D H0 yX4_place cX4_place 4 (some .int) 2 42 0 0 [.ref a, .int x, .int what] (gput a R nd g h0) n (cE (some (.int (gf_4_place R nd g x what))) (gput a R nd g h0) n) := by
  refine h_met (by decide) (Nat.le_of_ble_eq_true rfl) ?_
  intro p e s m below meth c H ls X hnm hr hz hl
  have hl : lv_has ls 4 [(0, .ref a), (1, .int x), (2, .int what)] := hl
  have hlo : hL H0 ([] : List Loc) := hL.nil
  refine lv_aload_n X.x X.b dX4_place_0 rfl (lv_at hl 0 rfl) ?_
  refine lv_iload_n X.x X.b dX4_place_1 rfl (lv_at hl 1 rfl) ?_
  refine h_callV X hr hz hlo (rest := []) (gc_4_isPlace l D H0 a R nd g h0 n x hnd hRR  ) gput_o rfl yv_X4_isPlace ml_X4_185 ⟨(Nat.le_of_ble_eq_true rfl), (Nat.le_of_ble_eq_true rfl)⟩ (Nat.le_of_ble_eq_true rfl) hl.1 ⟨(Nat.le_of_ble_eq_true rfl), (Nat.le_of_ble_eq_true rfl)⟩ rfl dX4_place_2 (fun v9 h9 n9 H locs hp hr hz hlo => ?_)
  obtain ⟨rfl, rfl, rfl⟩ := hp
  show W p l e _ s m _ below meth c H locs _ _ _ (F0 m 5 ls [.int (gf_4_isPlace R nd g x)])
  refine lv_if_ne (tgt := 10) X.x X.b dX4_place_5 (by decide) (fun c5 => ?_) (fun c5 => ?_)
  · refine lv_aload_n X.x X.b dX4_place_10 rfl (lv_at hl 0 rfl) ?_
    refine lv_iload_n X.x X.b dX4_place_11 rfl (lv_at hl 1 rfl) ?_
    refine h_callV X hr hz hlo (rest := []) (gc_4_widthOf l D H0 a R nd g h0 n x hnd hRR  ) gput_o rfl yv_X4_widthOf ml_X4_67 ⟨(Nat.le_of_ble_eq_true rfl), (Nat.le_of_ble_eq_true rfl)⟩ (Nat.le_of_ble_eq_true rfl) hl.1 ⟨(Nat.le_of_ble_eq_true rfl), (Nat.le_of_ble_eq_true rfl)⟩ rfl dX4_place_12 (fun v9 h9 n9 H locs hp hr hz hlo => ?_)
    obtain ⟨rfl, rfl, rfl⟩ := hp
    show W p l e _ s m _ below meth c H locs _ _ _ (F0 m 15 ls [.int (gf_4_widthOf R nd g x)])
    refine lv_istore_n (lv' := [(3, .int (gf_4_widthOf R nd g x)), (0, .ref a), (1, .int x), (2, .int what)]) X.x X.b dX4_place_15 rfl hl (by decide) rfl (fun ls hl => ?_)
    refine lv_iload_n X.x X.b dX4_place_16 rfl (lv_at hl 3 rfl) ?_
    by_cases c17_0 : what = 0
    · refine lv_tableIn (off := 31) (tgt := 48) X.x X.b dX4_place_17 (by rw [c17_0]; decide) (by rw [c17_0]; decide) (by rw [c17_0]; rfl) (by decide) ?_
      refine lv_iload_n X.x X.b dX4_place_48 rfl (lv_at hl 0 rfl) ?_
      refine lv_iload_n X.x X.b dX4_place_49 rfl (lv_at hl 2 rfl) ?_
      refine h_callS X hr hz hlo (rest := []) (gc_4_diskIn l D H0 a R nd g h0 n (gf_4_widthOf R nd g x) x hnd hRR  ) ys_X4_diskIn ml_X4_75 ⟨(Nat.le_of_ble_eq_true rfl), (Nat.le_of_ble_eq_true rfl)⟩ (Nat.le_of_ble_eq_true rfl) hl.1 ⟨(Nat.le_of_ble_eq_true rfl), (Nat.le_of_ble_eq_true rfl)⟩ rfl dX4_place_50 (fun v9 h9 n9 H locs hp hr hz hlo => ?_)
      obtain ⟨rfl, rfl, rfl⟩ := hp
      show W p l e _ s m _ below meth c H locs _ _ _ (F0 m 53 ls [.int (gf_4_diskIn R nd g (gf_4_widthOf R nd g x) x)])
      exact h_iret X hr hz hlo (glfip (id (by unfold gf_4_place; rw [if_neg c5, if_pos c17_0]))) (Nat.le_of_ble_eq_true rfl) (Nat.le_of_ble_eq_true rfl) dX4_place_53
    by_cases c17_1 : what = 1
    · refine lv_tableIn (off := 37) (tgt := 54) X.x X.b dX4_place_17 (by rw [c17_1]; decide) (by rw [c17_1]; decide) (by rw [c17_1]; rfl) (by decide) ?_
      refine lv_iload_n X.x X.b dX4_place_54 rfl (lv_at hl 0 rfl) ?_
      refine lv_iload_n X.x X.b dX4_place_55 rfl (lv_at hl 2 rfl) ?_
      refine h_callS X hr hz hlo (rest := []) (gc_4_rowIn l D H0 a R nd g h0 n (gf_4_widthOf R nd g x) x hnd hRR  ) ys_X4_rowIn ml_X4_71 ⟨(Nat.le_of_ble_eq_true rfl), (Nat.le_of_ble_eq_true rfl)⟩ (Nat.le_of_ble_eq_true rfl) hl.1 ⟨(Nat.le_of_ble_eq_true rfl), (Nat.le_of_ble_eq_true rfl)⟩ rfl dX4_place_56 (fun v9 h9 n9 H locs hp hr hz hlo => ?_)
      obtain ⟨rfl, rfl, rfl⟩ := hp
      show W p l e _ s m _ below meth c H locs _ _ _ (F0 m 59 ls [.int (gf_4_rowIn R nd g (gf_4_widthOf R nd g x) x)])
      exact h_iret X hr hz hlo (glfip (id (by unfold gf_4_place; rw [if_neg c5, if_neg c17_0, if_pos c17_1]))) (Nat.le_of_ble_eq_true rfl) (Nat.le_of_ble_eq_true rfl) dX4_place_59
    by_cases c17_2 : what = 2
    · refine lv_tableIn (off := 43) (tgt := 60) X.x X.b dX4_place_17 (by rw [c17_2]; decide) (by rw [c17_2]; decide) (by rw [c17_2]; rfl) (by decide) ?_
      refine lv_iload_n X.x X.b dX4_place_60 rfl (lv_at hl 0 rfl) ?_
      refine lv_iload_n X.x X.b dX4_place_61 rfl (lv_at hl 0 rfl) ?_
      refine lv_iload_n X.x X.b dX4_place_62 rfl (lv_at hl 2 rfl) ?_
      refine h_callS X hr hz hlo (rest := [.int (gf_4_widthOf R nd g x)]) (gc_4_rowIn l D H0 a R nd g h0 n (gf_4_widthOf R nd g x) x hnd hRR  ) ys_X4_rowIn ml_X4_71 ⟨(Nat.le_of_ble_eq_true rfl), (Nat.le_of_ble_eq_true rfl)⟩ (Nat.le_of_ble_eq_true rfl) hl.1 ⟨(Nat.le_of_ble_eq_true rfl), (Nat.le_of_ble_eq_true rfl)⟩ rfl dX4_place_63 (fun v9 h9 n9 H locs hp hr hz hlo => ?_)
      obtain ⟨rfl, rfl, rfl⟩ := hp
      show W p l e _ s m _ below meth c H locs _ _ _ (F0 m 66 ls [.int (gf_4_rowIn R nd g (gf_4_widthOf R nd g x) x), .int (gf_4_widthOf R nd g x)])
      refine h_callS X hr hz hlo (rest := []) (gc_4_parityDisk l D H0 a R nd g h0 n (gf_4_widthOf R nd g x) (gf_4_rowIn R nd g (gf_4_widthOf R nd g x) x) hnd hRR  ) ys_X4_parityDisk ml_X4_84 ⟨(Nat.le_of_ble_eq_true rfl), (Nat.le_of_ble_eq_true rfl)⟩ (Nat.le_of_ble_eq_true rfl) hl.1 ⟨(Nat.le_of_ble_eq_true rfl), (Nat.le_of_ble_eq_true rfl)⟩ rfl dX4_place_66 (fun v9 h9 n9 H locs hp hr hz hlo => ?_)
      obtain ⟨rfl, rfl, rfl⟩ := hp
      show W p l e _ s m _ below meth c H locs _ _ _ (F0 m 69 ls [.int (gf_4_parityDisk R nd g (gf_4_widthOf R nd g x) (gf_4_rowIn R nd g (gf_4_widthOf R nd g x) x))])
      exact h_iret X hr hz hlo (glfip (id (by unfold gf_4_place; rw [if_neg c5, if_neg c17_0, if_neg c17_1, if_pos c17_2]))) (Nat.le_of_ble_eq_true rfl) (Nat.le_of_ble_eq_true rfl) dX4_place_69
    by_cases c17_3 : what = 3
    · refine lv_tableIn (off := 53) (tgt := 70) X.x X.b dX4_place_17 (by rw [c17_3]; decide) (by rw [c17_3]; decide) (by rw [c17_3]; rfl) (by decide) ?_
      refine lv_aload_n X.x X.b dX4_place_70 rfl (lv_at hl 1 rfl) ?_
      refine lv_iload_n X.x X.b dX4_place_71 rfl (lv_at hl 2 rfl) ?_
      refine h_callV X hr hz hlo (rest := []) (gc_4_isMoved l D H0 a R nd g h0 n x hnd hRR  ) gput_o rfl yv_X4_isMoved ml_X4_188 ⟨(Nat.le_of_ble_eq_true rfl), (Nat.le_of_ble_eq_true rfl)⟩ (Nat.le_of_ble_eq_true rfl) hl.1 ⟨(Nat.le_of_ble_eq_true rfl), (Nat.le_of_ble_eq_true rfl)⟩ rfl dX4_place_72 (fun v9 h9 n9 H locs hp hr hz hlo => ?_)
      obtain ⟨rfl, rfl, rfl⟩ := hp
      show W p l e _ s m _ below meth c H locs _ _ _ (F0 m 75 ls [.int (gf_4_isMoved R nd g x)])
      refine lv_if_eq (tgt := 82) X.x X.b dX4_place_75 (by decide) (fun c75 => ?_) (fun c75 => ?_)
      · refine lv_iconst (v := 0) X.x X.b dX4_place_82 (by decide) ?_
        exact h_iret X hr hz hlo (glfip (id (by unfold gf_4_place; rw [if_neg c5, if_neg c17_0, if_neg c17_1, if_neg c17_2, if_pos c17_3, if_pos c75]))) (Nat.le_of_ble_eq_true rfl) (Nat.le_of_ble_eq_true rfl) dX4_place_83
      · refine lv_iconst (v := 1) X.x X.b dX4_place_78 (by decide) ?_
        refine lv_goto (tgt := 83) X.x X.b dX4_place_79 (by decide) ?_
        exact h_iret X hr hz hlo (glfip (id (by unfold gf_4_place; rw [if_neg c5, if_neg c17_0, if_neg c17_1, if_neg c17_2, if_pos c17_3, if_neg c75]))) (Nat.le_of_ble_eq_true rfl) (Nat.le_of_ble_eq_true rfl) dX4_place_83
    refine lv_tableOut (tgt := 84) X.x X.b dX4_place_17 (tbo (N := 3) (by intro i9 h9; match i9, h9 with | 0, _ => exact c17_0 | 1, _ => exact c17_1 | 2, _ => exact c17_2 | 3, _ => exact c17_3 | (k9 + 4), h9 => omega) (by decide)) (by decide) ?_
    refine lv_iconst (v := -1) X.x X.b dX4_place_84 (by decide) ?_
    exact h_iret X hr hz hlo (glfip (id (by unfold gf_4_place; rw [if_neg c5, if_neg c17_0, if_neg c17_1, if_neg c17_2, if_neg c17_3]))) (Nat.le_of_ble_eq_true rfl) (Nat.le_of_ble_eq_true rfl) dX4_place_85
  · refine lv_iconst (v := -1) X.x X.b dX4_place_8 (by decide) ?_
    exact h_iret X hr hz hlo (glfip (id (by unfold gf_4_place; rw [if_pos c5]))) (Nat.le_of_ble_eq_true rfl) (Nat.le_of_ble_eq_true rfl) dX4_place_9

def gf_4_disk (R nd : Nat) (g : GS) (d0 : Int32) (what : Int32) : Int32 :=
  if (gf_4_isThere R nd g d0) = 0 then
    (-1)
  else
    if what = 0 then
      gf_1_condition_d R nd g d0.toNatClampNeg
    else
      if what = 1 then
        if (gf_4_isSpare R nd g d0) = 0 then
          0
        else
          1
      else
        if what = 2 then
          g.2.1 11 d0.toNatClampNeg
        else
          if what = 3 then
            if (g.2.1 10 d0.toNatClampNeg) = 0 then
              g.2.1 0 d0.toNatClampNeg
            else
              (-1)
          else
            if what = 4 then
              if (g.2.1 10 d0.toNatClampNeg) = 0 then
                g.2.1 5 d0.toNatClampNeg
              else
                (-1)
            else
              if what = 5 then
                if (g.2.1 10 d0.toNatClampNeg) = 0 then
                  if (gf_0_isBlank_b R nd g d0.toNatClampNeg) = 0 then
                    1
                  else
                    0
                else
                  (-1)
              else
                (-1)
set_option maxRecDepth 20000 in
set_option maxHeartbeats 4000000 in
theorem gc_4_disk (l : Launch) (D : hD) (H0 : Heap) (a R nd : Nat) (g : GS) (h0 : hH) (n : Nat) (d0 : Int32) (what : Int32) (hnd : nd ≤ 10) (hRR : R ≤ 48)  : cM l D H0 yX4_disk cX4_disk 4 (some .int) 2 40 0 0 [.ref a, .int d0, .int what] (gput a R nd g h0) n (cE (some (.int (gf_4_disk R nd g d0 what))) (gput a R nd g h0) n) := by
  refine h_met (by decide) (Nat.le_of_ble_eq_true rfl) ?_
  intro p e s m below meth c H ls X hnm hr hz hl
  have hl : lv_has ls 4 [(0, .ref a), (1, .int d0), (2, .int what)] := hl
  have hlo : hL H0 ([] : List Loc) := hL.nil
  refine lv_aload_n X.x X.b dX4_disk_0 rfl (lv_at hl 0 rfl) ?_
  refine lv_iload_n X.x X.b dX4_disk_1 rfl (lv_at hl 1 rfl) ?_
  refine h_callV X hr hz hlo (rest := []) (gc_4_isThere l D H0 a R nd g h0 n d0 hnd hRR  ) gput_o rfl yv_X4_isThere ml_X4_143 ⟨(Nat.le_of_ble_eq_true rfl), (Nat.le_of_ble_eq_true rfl)⟩ (Nat.le_of_ble_eq_true rfl) hl.1 ⟨(Nat.le_of_ble_eq_true rfl), (Nat.le_of_ble_eq_true rfl)⟩ rfl dX4_disk_2 (fun v9 h9 n9 H locs hp hr hz hlo => ?_)
  obtain ⟨rfl, rfl, rfl⟩ := hp
  show W p l e _ s m _ below meth c H locs _ _ _ (F0 m 5 ls [.int (gf_4_isThere R nd g d0)])
  refine lv_if_ne (tgt := 10) X.x X.b dX4_disk_5 (by decide) (fun c5 => ?_) (fun c5 => ?_)
  · refine lv_aload_n X.x X.b dX4_disk_10 rfl (lv_at hl 0 rfl) ?_
    refine h_get X hr fd_X4_40 gput_o (v := .ref (a + 4)) rfl dX4_disk_11 ?_
    refine lv_iload_n X.x X.b dX4_disk_14 rfl (lv_at hl 1 rfl) ?_
    refine h_aald X hr gput_k (gx_there c5 hnd) (v := .ref (aD a d0.toNatClampNeg)) rfl dX4_disk_15 ?_
    refine lv_astore_n (lv' := [(3, .ref (aD a d0.toNatClampNeg)), (0, .ref a), (1, .int d0), (2, .int what)]) X.x X.b dX4_disk_16 rfl hl (by decide) rfl (fun ls hl => ?_)
    refine lv_iload_n X.x X.b dX4_disk_17 rfl (lv_at hl 3 rfl) ?_
    by_cases c18_0 : what = 0
    · refine lv_tableIn (off := 38) (tgt := 56) X.x X.b dX4_disk_18 (by rw [c18_0]; decide) (by rw [c18_0]; decide) (by rw [c18_0]; rfl) (by decide) ?_
      refine lv_aload_n X.x X.b dX4_disk_56 rfl (lv_at hl 0 rfl) ?_
      refine h_callV X hr hz hlo (rest := []) (gc_1_condition_d l D H0 a R nd g h0 n d0.toNatClampNeg hnd hRR (vp_lt (gx_there c5 hnd)) ) (gput_aD (vp_lt (gx_there c5 hnd))) rfl yv_X1_condition ml_X4_191 ⟨(Nat.le_of_ble_eq_true rfl), (Nat.le_of_ble_eq_true rfl)⟩ (Nat.le_of_ble_eq_true rfl) hl.1 ⟨(Nat.le_of_ble_eq_true rfl), (Nat.le_of_ble_eq_true rfl)⟩ rfl dX4_disk_57 (fun v9 h9 n9 H locs hp hr hz hlo => ?_)
      obtain ⟨rfl, rfl, rfl⟩ := hp
      show W p l e _ s m _ below meth c H locs _ _ _ (F0 m 60 ls [.int (gf_1_condition_d R nd g d0.toNatClampNeg)])
      exact h_iret X hr hz hlo (glfip (id (by unfold gf_4_disk; rw [if_neg c5, if_pos c18_0]))) (Nat.le_of_ble_eq_true rfl) (Nat.le_of_ble_eq_true rfl) dX4_disk_60
    by_cases c18_1 : what = 1
    · refine lv_tableIn (off := 43) (tgt := 61) X.x X.b dX4_disk_18 (by rw [c18_1]; decide) (by rw [c18_1]; decide) (by rw [c18_1]; rfl) (by decide) ?_
      refine lv_aload_n X.x X.b dX4_disk_61 rfl (lv_at hl 1 rfl) ?_
      refine lv_iload_n X.x X.b dX4_disk_62 rfl (lv_at hl 2 rfl) ?_
      refine h_callV X hr hz hlo (rest := []) (gc_4_isSpare l D H0 a R nd g h0 n d0 hnd hRR  ) gput_o rfl yv_X4_isSpare ml_X4_153 ⟨(Nat.le_of_ble_eq_true rfl), (Nat.le_of_ble_eq_true rfl)⟩ (Nat.le_of_ble_eq_true rfl) hl.1 ⟨(Nat.le_of_ble_eq_true rfl), (Nat.le_of_ble_eq_true rfl)⟩ rfl dX4_disk_63 (fun v9 h9 n9 H locs hp hr hz hlo => ?_)
      obtain ⟨rfl, rfl, rfl⟩ := hp
      show W p l e _ s m _ below meth c H locs _ _ _ (F0 m 66 ls [.int (gf_4_isSpare R nd g d0)])
      refine lv_if_eq (tgt := 73) X.x X.b dX4_disk_66 (by decide) (fun c66 => ?_) (fun c66 => ?_)
      · refine lv_iconst (v := 0) X.x X.b dX4_disk_73 (by decide) ?_
        exact h_iret X hr hz hlo (glfip (id (by unfold gf_4_disk; rw [if_neg c5, if_neg c18_0, if_pos c18_1, if_pos c66]))) (Nat.le_of_ble_eq_true rfl) (Nat.le_of_ble_eq_true rfl) dX4_disk_74
      · refine lv_iconst (v := 1) X.x X.b dX4_disk_69 (by decide) ?_
        refine lv_goto (tgt := 74) X.x X.b dX4_disk_70 (by decide) ?_
        exact h_iret X hr hz hlo (glfip (id (by unfold gf_4_disk; rw [if_neg c5, if_neg c18_0, if_pos c18_1, if_neg c66]))) (Nat.le_of_ble_eq_true rfl) (Nat.le_of_ble_eq_true rfl) dX4_disk_74
    by_cases c18_2 : what = 2
    · refine lv_tableIn (off := 57) (tgt := 75) X.x X.b dX4_disk_18 (by rw [c18_2]; decide) (by rw [c18_2]; decide) (by rw [c18_2]; rfl) (by decide) ?_
      refine lv_aload_n X.x X.b dX4_disk_75 rfl (lv_at hl 0 rfl) ?_
      refine h_get X hr fd_X4_194 (gput_aD (vp_lt (gx_there c5 hnd))) (v := .int (g.2.1 11 d0.toNatClampNeg)) rfl dX4_disk_76 ?_
      exact h_iret X hr hz hlo (glfip (id (by unfold gf_4_disk; rw [if_neg c5, if_neg c18_0, if_neg c18_1, if_pos c18_2]))) (Nat.le_of_ble_eq_true rfl) (Nat.le_of_ble_eq_true rfl) dX4_disk_79
    by_cases c18_3 : what = 3
    · refine lv_tableIn (off := 62) (tgt := 80) X.x X.b dX4_disk_18 (by rw [c18_3]; decide) (by rw [c18_3]; decide) (by rw [c18_3]; rfl) (by decide) ?_
      refine lv_aload_n X.x X.b dX4_disk_80 rfl (lv_at hl 0 rfl) ?_
      refine h_get X hr fd_X4_150 (gput_aD (vp_lt (gx_there c5 hnd))) (v := .int (g.2.1 10 d0.toNatClampNeg)) rfl dX4_disk_81 ?_
      refine lv_if_eq (tgt := 91) X.x X.b dX4_disk_84 (by decide) (fun c84 => ?_) (fun c84 => ?_)
      · refine lv_aload_n X.x X.b dX4_disk_91 rfl (lv_at hl 0 rfl) ?_
        refine h_get X hr fd_X4_47 (gput_aD (vp_lt (gx_there c5 hnd))) (v := .ref (aS a d0.toNatClampNeg)) rfl dX4_disk_92 ?_
        refine h_get X hr fd_X4_81 (gput_aS (vp_lt (gx_there c5 hnd))) (v := .int (g.2.1 0 d0.toNatClampNeg)) rfl dX4_disk_95 ?_
        exact h_iret X hr hz hlo (glfip (id (by unfold gf_4_disk; rw [if_neg c5, if_neg c18_0, if_neg c18_1, if_neg c18_2, if_pos c18_3, if_pos c84]))) (Nat.le_of_ble_eq_true rfl) (Nat.le_of_ble_eq_true rfl) dX4_disk_98
      · refine lv_iconst (v := -1) X.x X.b dX4_disk_87 (by decide) ?_
        refine lv_goto (tgt := 98) X.x X.b dX4_disk_88 (by decide) ?_
        exact h_iret X hr hz hlo (glfip (id (by unfold gf_4_disk; rw [if_neg c5, if_neg c18_0, if_neg c18_1, if_neg c18_2, if_pos c18_3, if_neg c84]))) (Nat.le_of_ble_eq_true rfl) (Nat.le_of_ble_eq_true rfl) dX4_disk_98
    by_cases c18_4 : what = 4
    · refine lv_tableIn (off := 81) (tgt := 99) X.x X.b dX4_disk_18 (by rw [c18_4]; decide) (by rw [c18_4]; decide) (by rw [c18_4]; rfl) (by decide) ?_
      refine lv_aload_n X.x X.b dX4_disk_99 rfl (lv_at hl 0 rfl) ?_
      refine h_get X hr fd_X4_150 (gput_aD (vp_lt (gx_there c5 hnd))) (v := .int (g.2.1 10 d0.toNatClampNeg)) rfl dX4_disk_100 ?_
      refine lv_if_eq (tgt := 110) X.x X.b dX4_disk_103 (by decide) (fun c103 => ?_) (fun c103 => ?_)
      · refine lv_aload_n X.x X.b dX4_disk_110 rfl (lv_at hl 0 rfl) ?_
        refine h_get X hr fd_X4_197 (gput_aD (vp_lt (gx_there c5 hnd))) (v := .ref (aJ a d0.toNatClampNeg)) rfl dX4_disk_111 ?_
        refine h_get X hr fd_X4_200 (gput_aJ (vp_lt (gx_there c5 hnd))) (v := .int (g.2.1 5 d0.toNatClampNeg)) rfl dX4_disk_114 ?_
        exact h_iret X hr hz hlo (glfip (id (by unfold gf_4_disk; rw [if_neg c5, if_neg c18_0, if_neg c18_1, if_neg c18_2, if_neg c18_3, if_pos c18_4, if_pos c103]))) (Nat.le_of_ble_eq_true rfl) (Nat.le_of_ble_eq_true rfl) dX4_disk_117
      · refine lv_iconst (v := -1) X.x X.b dX4_disk_106 (by decide) ?_
        refine lv_goto (tgt := 117) X.x X.b dX4_disk_107 (by decide) ?_
        exact h_iret X hr hz hlo (glfip (id (by unfold gf_4_disk; rw [if_neg c5, if_neg c18_0, if_neg c18_1, if_neg c18_2, if_neg c18_3, if_pos c18_4, if_neg c103]))) (Nat.le_of_ble_eq_true rfl) (Nat.le_of_ble_eq_true rfl) dX4_disk_117
    by_cases c18_5 : what = 5
    · refine lv_tableIn (off := 100) (tgt := 118) X.x X.b dX4_disk_18 (by rw [c18_5]; decide) (by rw [c18_5]; decide) (by rw [c18_5]; rfl) (by decide) ?_
      refine lv_aload_n X.x X.b dX4_disk_118 rfl (lv_at hl 0 rfl) ?_
      refine h_get X hr fd_X4_150 (gput_aD (vp_lt (gx_there c5 hnd))) (v := .int (g.2.1 10 d0.toNatClampNeg)) rfl dX4_disk_119 ?_
      refine lv_if_eq (tgt := 129) X.x X.b dX4_disk_122 (by decide) (fun c122 => ?_) (fun c122 => ?_)
      · refine lv_aload_n X.x X.b dX4_disk_129 rfl (lv_at hl 0 rfl) ?_
        refine h_get X hr fd_X4_203 (gput_aD (vp_lt (gx_there c5 hnd))) (v := .ref (aB a d0.toNatClampNeg)) rfl dX4_disk_130 ?_
        refine h_callV X hr hz hlo (rest := []) (gc_0_isBlank_b l D H0 a R nd g h0 n d0.toNatClampNeg hnd hRR (vp_lt (gx_there c5 hnd)) ) (gput_aB (vp_lt (gx_there c5 hnd))) rfl yv_X0_isBlank ml_X4_207 ⟨(Nat.le_of_ble_eq_true rfl), (Nat.le_of_ble_eq_true rfl)⟩ (Nat.le_of_ble_eq_true rfl) hl.1 ⟨(Nat.le_of_ble_eq_true rfl), (Nat.le_of_ble_eq_true rfl)⟩ rfl dX4_disk_133 (fun v9 h9 n9 H locs hp hr hz hlo => ?_)
        obtain ⟨rfl, rfl, rfl⟩ := hp
        show W p l e _ s m _ below meth c H locs _ _ _ (F0 m 136 ls [.int (gf_0_isBlank_b R nd g d0.toNatClampNeg)])
        refine lv_if_eq (tgt := 143) X.x X.b dX4_disk_136 (by decide) (fun c136 => ?_) (fun c136 => ?_)
        · refine lv_iconst (v := 1) X.x X.b dX4_disk_143 (by decide) ?_
          exact h_iret X hr hz hlo (glfip (id (by unfold gf_4_disk; rw [if_neg c5, if_neg c18_0, if_neg c18_1, if_neg c18_2, if_neg c18_3, if_neg c18_4, if_pos c18_5, if_pos c122, if_pos c136]))) (Nat.le_of_ble_eq_true rfl) (Nat.le_of_ble_eq_true rfl) dX4_disk_144
        · refine lv_iconst (v := 0) X.x X.b dX4_disk_139 (by decide) ?_
          refine lv_goto (tgt := 144) X.x X.b dX4_disk_140 (by decide) ?_
          exact h_iret X hr hz hlo (glfip (id (by unfold gf_4_disk; rw [if_neg c5, if_neg c18_0, if_neg c18_1, if_neg c18_2, if_neg c18_3, if_neg c18_4, if_pos c18_5, if_pos c122, if_neg c136]))) (Nat.le_of_ble_eq_true rfl) (Nat.le_of_ble_eq_true rfl) dX4_disk_144
      · refine lv_iconst (v := -1) X.x X.b dX4_disk_125 (by decide) ?_
        refine lv_goto (tgt := 144) X.x X.b dX4_disk_126 (by decide) ?_
        exact h_iret X hr hz hlo (glfip (id (by unfold gf_4_disk; rw [if_neg c5, if_neg c18_0, if_neg c18_1, if_neg c18_2, if_neg c18_3, if_neg c18_4, if_pos c18_5, if_neg c122]))) (Nat.le_of_ble_eq_true rfl) (Nat.le_of_ble_eq_true rfl) dX4_disk_144
    refine lv_tableOut (tgt := 145) X.x X.b dX4_disk_18 (tbo (N := 5) (by intro i9 h9; match i9, h9 with | 0, _ => exact c18_0 | 1, _ => exact c18_1 | 2, _ => exact c18_2 | 3, _ => exact c18_3 | 4, _ => exact c18_4 | 5, _ => exact c18_5 | (k9 + 6), h9 => omega) (by decide)) (by decide) ?_
    refine lv_iconst (v := -1) X.x X.b dX4_disk_145 (by decide) ?_
    exact h_iret X hr hz hlo (glfip (id (by unfold gf_4_disk; rw [if_neg c5, if_neg c18_0, if_neg c18_1, if_neg c18_2, if_neg c18_3, if_neg c18_4, if_neg c18_5]))) (Nat.le_of_ble_eq_true rfl) (Nat.le_of_ble_eq_true rfl) dX4_disk_146
  · refine lv_iconst (v := -1) X.x X.b dX4_disk_8 (by decide) ?_
    exact h_iret X hr hz hlo (glfip (id (by unfold gf_4_disk; rw [if_pos c5]))) (Nat.le_of_ble_eq_true rfl) (Nat.le_of_ble_eq_true rfl) dX4_disk_9

def gf_4_count (R nd : Nat) (g : GS) (what : Int32) : Int32 :=
  if what = 0 then
    nI nd
  else
    if what = 1 then
      g.1 9
    else
      if what = 2 then
        g.1 10
      else
        if what = 3 then
          g.1 11
        else
          if what = 4 then
            gf_4_placeCount R nd g
          else
            if what = 5 then
              if (g.1 1) = 0 then
                0
              else
                1
            else
              if what = 6 then
                if (gf_4_isReshaped R nd g) = 0 then
                  0
                else
                  1
              else
                if what = 7 then
                  gf_4_diskNotLive R nd g
                else
                  if what = 8 then
                    g.1 3
                  else
                    if what = 9 then
                      g.1 8
                    else
                      if what = 10 then
                        g.1 4
                      else
                        if what = 11 then
                          g.1 5
                        else
                          if what = 12 then
                            g.1 6
                          else
                            if what = 13 then
                              g.1 7
                            else
                              if what = 14 then
                                nI R
                              else
                                (-1)
set_option maxRecDepth 20000 in
set_option maxHeartbeats 4000000 in
theorem gc_4_count (l : Launch) (D : hD) (H0 : Heap) (a R nd : Nat) (g : GS) (h0 : hH) (n : Nat) (what : Int32) (hnd : nd ≤ 10) (hRR : R ≤ 48)  : cM l D H0 yX4_count cX4_count 2 (some .int) 2 41 0 0 [.ref a, .int what] (gput a R nd g h0) n (cE (some (.int (gf_4_count R nd g what))) (gput a R nd g h0) n) := by
  refine h_met (by decide) (Nat.le_of_ble_eq_true rfl) ?_
  intro p e s m below meth c H ls X hnm hr hz hl
  have hl : lv_has ls 2 [(0, .ref a), (1, .int what)] := hl
  have hlo : hL H0 ([] : List Loc) := hL.nil
  refine lv_iload_n X.x X.b dX4_count_0 rfl (lv_at hl 1 rfl) ?_
  by_cases c1_0 : what = 0
  · refine lv_tableIn (off := 75) (tgt := 76) X.x X.b dX4_count_1 (by rw [c1_0]; decide) (by rw [c1_0]; decide) (by rw [c1_0]; rfl) (by decide) ?_
    refine lv_aload_n X.x X.b dX4_count_76 rfl (lv_at hl 0 rfl) ?_
    refine h_get X hr fd_X4_7 gput_o (v := .int (nI nd)) rfl dX4_count_77 ?_
    exact h_iret X hr hz hlo (glfip (id (by unfold gf_4_count; rw [if_pos c1_0]))) (Nat.le_of_ble_eq_true rfl) (Nat.le_of_ble_eq_true rfl) dX4_count_80
  by_cases c1_1 : what = 1
  · refine lv_tableIn (off := 80) (tgt := 81) X.x X.b dX4_count_1 (by rw [c1_1]; decide) (by rw [c1_1]; decide) (by rw [c1_1]; rfl) (by decide) ?_
    refine lv_aload_n X.x X.b dX4_count_81 rfl (lv_at hl 0 rfl) ?_
    refine h_get X hr fd_X4_19 gput_o (v := .ref (a + 1)) rfl dX4_count_82 ?_
    refine h_get X hr fd_X4_125 gput_h (v := .int (g.1 9)) rfl dX4_count_85 ?_
    exact h_iret X hr hz hlo (glfip (id (by unfold gf_4_count; rw [if_neg c1_0, if_pos c1_1]))) (Nat.le_of_ble_eq_true rfl) (Nat.le_of_ble_eq_true rfl) dX4_count_88
  by_cases c1_2 : what = 2
  · refine lv_tableIn (off := 88) (tgt := 89) X.x X.b dX4_count_1 (by rw [c1_2]; decide) (by rw [c1_2]; decide) (by rw [c1_2]; rfl) (by decide) ?_
    refine lv_aload_n X.x X.b dX4_count_89 rfl (lv_at hl 0 rfl) ?_
    refine h_get X hr fd_X4_19 gput_o (v := .ref (a + 1)) rfl dX4_count_90 ?_
    refine h_get X hr fd_X4_115 gput_h (v := .int (g.1 10)) rfl dX4_count_93 ?_
    exact h_iret X hr hz hlo (glfip (id (by unfold gf_4_count; rw [if_neg c1_0, if_neg c1_1, if_pos c1_2]))) (Nat.le_of_ble_eq_true rfl) (Nat.le_of_ble_eq_true rfl) dX4_count_96
  by_cases c1_3 : what = 3
  · refine lv_tableIn (off := 96) (tgt := 97) X.x X.b dX4_count_1 (by rw [c1_3]; decide) (by rw [c1_3]; decide) (by rw [c1_3]; rfl) (by decide) ?_
    refine lv_aload_n X.x X.b dX4_count_97 rfl (lv_at hl 0 rfl) ?_
    refine h_get X hr fd_X4_19 gput_o (v := .ref (a + 1)) rfl dX4_count_98 ?_
    refine h_get X hr fd_X4_170 gput_h (v := .int (g.1 11)) rfl dX4_count_101 ?_
    exact h_iret X hr hz hlo (glfip (id (by unfold gf_4_count; rw [if_neg c1_0, if_neg c1_1, if_neg c1_2, if_pos c1_3]))) (Nat.le_of_ble_eq_true rfl) (Nat.le_of_ble_eq_true rfl) dX4_count_104
  by_cases c1_4 : what = 4
  · refine lv_tableIn (off := 104) (tgt := 105) X.x X.b dX4_count_1 (by rw [c1_4]; decide) (by rw [c1_4]; decide) (by rw [c1_4]; rfl) (by decide) ?_
    refine lv_aload_n X.x X.b dX4_count_105 rfl (lv_at hl 0 rfl) ?_
    refine h_callV X hr hz hlo (rest := []) (gc_4_placeCount l D H0 a R nd g h0 n  hnd hRR  ) gput_o rfl yv_X4_placeCount ml_X4_212 ⟨(Nat.le_of_ble_eq_true rfl), (Nat.le_of_ble_eq_true rfl)⟩ (Nat.le_of_ble_eq_true rfl) hl.1 ⟨(Nat.le_of_ble_eq_true rfl), (Nat.le_of_ble_eq_true rfl)⟩ rfl dX4_count_106 (fun v9 h9 n9 H locs hp hr hz hlo => ?_)
    obtain ⟨rfl, rfl, rfl⟩ := hp
    show W p l e _ s m _ below meth c H locs _ _ _ (F0 m 109 ls [.int (gf_4_placeCount R nd g)])
    exact h_iret X hr hz hlo (glfip (id (by unfold gf_4_count; rw [if_neg c1_0, if_neg c1_1, if_neg c1_2, if_neg c1_3, if_pos c1_4]))) (Nat.le_of_ble_eq_true rfl) (Nat.le_of_ble_eq_true rfl) dX4_count_109
  by_cases c1_5 : what = 5
  · refine lv_tableIn (off := 109) (tgt := 110) X.x X.b dX4_count_1 (by rw [c1_5]; decide) (by rw [c1_5]; decide) (by rw [c1_5]; rfl) (by decide) ?_
    refine lv_aload_n X.x X.b dX4_count_110 rfl (lv_at hl 0 rfl) ?_
    refine h_get X hr fd_X4_54 gput_o (v := .int (g.1 1)) rfl dX4_count_111 ?_
    refine lv_if_eq (tgt := 121) X.x X.b dX4_count_114 (by decide) (fun c114 => ?_) (fun c114 => ?_)
    · refine lv_iconst (v := 0) X.x X.b dX4_count_121 (by decide) ?_
      exact h_iret X hr hz hlo (glfip (id (by unfold gf_4_count; rw [if_neg c1_0, if_neg c1_1, if_neg c1_2, if_neg c1_3, if_neg c1_4, if_pos c1_5, if_pos c114]))) (Nat.le_of_ble_eq_true rfl) (Nat.le_of_ble_eq_true rfl) dX4_count_122
    · refine lv_iconst (v := 1) X.x X.b dX4_count_117 (by decide) ?_
      refine lv_goto (tgt := 122) X.x X.b dX4_count_118 (by decide) ?_
      exact h_iret X hr hz hlo (glfip (id (by unfold gf_4_count; rw [if_neg c1_0, if_neg c1_1, if_neg c1_2, if_neg c1_3, if_neg c1_4, if_pos c1_5, if_neg c114]))) (Nat.le_of_ble_eq_true rfl) (Nat.le_of_ble_eq_true rfl) dX4_count_122
  by_cases c1_6 : what = 6
  · refine lv_tableIn (off := 122) (tgt := 123) X.x X.b dX4_count_1 (by rw [c1_6]; decide) (by rw [c1_6]; decide) (by rw [c1_6]; rfl) (by decide) ?_
    refine lv_aload_n X.x X.b dX4_count_123 rfl (lv_at hl 0 rfl) ?_
    refine h_callV X hr hz hlo (rest := []) (gc_4_isReshaped l D H0 a R nd g h0 n  hnd hRR  ) gput_o rfl yv_X4_isReshaped ml_X4_118 ⟨(Nat.le_of_ble_eq_true rfl), (Nat.le_of_ble_eq_true rfl)⟩ (Nat.le_of_ble_eq_true rfl) hl.1 ⟨(Nat.le_of_ble_eq_true rfl), (Nat.le_of_ble_eq_true rfl)⟩ rfl dX4_count_124 (fun v9 h9 n9 H locs hp hr hz hlo => ?_)
    obtain ⟨rfl, rfl, rfl⟩ := hp
    show W p l e _ s m _ below meth c H locs _ _ _ (F0 m 127 ls [.int (gf_4_isReshaped R nd g)])
    refine lv_if_eq (tgt := 134) X.x X.b dX4_count_127 (by decide) (fun c127 => ?_) (fun c127 => ?_)
    · refine lv_iconst (v := 0) X.x X.b dX4_count_134 (by decide) ?_
      exact h_iret X hr hz hlo (glfip (id (by unfold gf_4_count; rw [if_neg c1_0, if_neg c1_1, if_neg c1_2, if_neg c1_3, if_neg c1_4, if_neg c1_5, if_pos c1_6, if_pos c127]))) (Nat.le_of_ble_eq_true rfl) (Nat.le_of_ble_eq_true rfl) dX4_count_135
    · refine lv_iconst (v := 1) X.x X.b dX4_count_130 (by decide) ?_
      refine lv_goto (tgt := 135) X.x X.b dX4_count_131 (by decide) ?_
      exact h_iret X hr hz hlo (glfip (id (by unfold gf_4_count; rw [if_neg c1_0, if_neg c1_1, if_neg c1_2, if_neg c1_3, if_neg c1_4, if_neg c1_5, if_pos c1_6, if_neg c127]))) (Nat.le_of_ble_eq_true rfl) (Nat.le_of_ble_eq_true rfl) dX4_count_135
  by_cases c1_7 : what = 7
  · refine lv_tableIn (off := 135) (tgt := 136) X.x X.b dX4_count_1 (by rw [c1_7]; decide) (by rw [c1_7]; decide) (by rw [c1_7]; rfl) (by decide) ?_
    refine lv_aload_n X.x X.b dX4_count_136 rfl (lv_at hl 0 rfl) ?_
    refine h_callV X hr hz hlo (rest := []) (gc_4_diskNotLive l D H0 a R nd g h0 n  hnd hRR  ) gput_o rfl yv_X4_diskNotLive ml_X4_147 ⟨(Nat.le_of_ble_eq_true rfl), (Nat.le_of_ble_eq_true rfl)⟩ (Nat.le_of_ble_eq_true rfl) hl.1 ⟨(Nat.le_of_ble_eq_true rfl), (Nat.le_of_ble_eq_true rfl)⟩ rfl dX4_count_137 (fun v9 h9 n9 H locs hp hr hz hlo => ?_)
    obtain ⟨rfl, rfl, rfl⟩ := hp
    show W p l e _ s m _ below meth c H locs _ _ _ (F0 m 140 ls [.int (gf_4_diskNotLive R nd g)])
    exact h_iret X hr hz hlo (glfip (id (by unfold gf_4_count; rw [if_neg c1_0, if_neg c1_1, if_neg c1_2, if_neg c1_3, if_neg c1_4, if_neg c1_5, if_neg c1_6, if_pos c1_7]))) (Nat.le_of_ble_eq_true rfl) (Nat.le_of_ble_eq_true rfl) dX4_count_140
  by_cases c1_8 : what = 8
  · refine lv_tableIn (off := 140) (tgt := 141) X.x X.b dX4_count_1 (by rw [c1_8]; decide) (by rw [c1_8]; decide) (by rw [c1_8]; rfl) (by decide) ?_
    refine lv_aload_n X.x X.b dX4_count_141 rfl (lv_at hl 0 rfl) ?_
    refine h_get X hr fd_X4_159 gput_o (v := .int (g.1 3)) rfl dX4_count_142 ?_
    exact h_iret X hr hz hlo (glfip (id (by unfold gf_4_count; rw [if_neg c1_0, if_neg c1_1, if_neg c1_2, if_neg c1_3, if_neg c1_4, if_neg c1_5, if_neg c1_6, if_neg c1_7, if_pos c1_8]))) (Nat.le_of_ble_eq_true rfl) (Nat.le_of_ble_eq_true rfl) dX4_count_145
  by_cases c1_9 : what = 9
  · refine lv_tableIn (off := 145) (tgt := 146) X.x X.b dX4_count_1 (by rw [c1_9]; decide) (by rw [c1_9]; decide) (by rw [c1_9]; rfl) (by decide) ?_
    refine lv_aload_n X.x X.b dX4_count_146 rfl (lv_at hl 0 rfl) ?_
    refine h_get X hr fd_X4_19 gput_o (v := .ref (a + 1)) rfl dX4_count_147 ?_
    refine h_get X hr fd_X4_81 gput_h (v := .int (g.1 8)) rfl dX4_count_150 ?_
    exact h_iret X hr hz hlo (glfip (id (by unfold gf_4_count; rw [if_neg c1_0, if_neg c1_1, if_neg c1_2, if_neg c1_3, if_neg c1_4, if_neg c1_5, if_neg c1_6, if_neg c1_7, if_neg c1_8, if_pos c1_9]))) (Nat.le_of_ble_eq_true rfl) (Nat.le_of_ble_eq_true rfl) dX4_count_153
  by_cases c1_10 : what = 10
  · refine lv_tableIn (off := 153) (tgt := 154) X.x X.b dX4_count_1 (by rw [c1_10]; decide) (by rw [c1_10]; decide) (by rw [c1_10]; rfl) (by decide) ?_
    refine lv_aload_n X.x X.b dX4_count_154 rfl (lv_at hl 0 rfl) ?_
    refine h_get X hr fd_X4_78 gput_o (v := .int (g.1 4)) rfl dX4_count_155 ?_
    exact h_iret X hr hz hlo (glfip (id (by unfold gf_4_count; rw [if_neg c1_0, if_neg c1_1, if_neg c1_2, if_neg c1_3, if_neg c1_4, if_neg c1_5, if_neg c1_6, if_neg c1_7, if_neg c1_8, if_neg c1_9, if_pos c1_10]))) (Nat.le_of_ble_eq_true rfl) (Nat.le_of_ble_eq_true rfl) dX4_count_158
  by_cases c1_11 : what = 11
  · refine lv_tableIn (off := 158) (tgt := 159) X.x X.b dX4_count_1 (by rw [c1_11]; decide) (by rw [c1_11]; decide) (by rw [c1_11]; rfl) (by decide) ?_
    refine lv_aload_n X.x X.b dX4_count_159 rfl (lv_at hl 0 rfl) ?_
    refine h_get X hr fd_X4_215 gput_o (v := .int (g.1 5)) rfl dX4_count_160 ?_
    exact h_iret X hr hz hlo (glfip (id (by unfold gf_4_count; rw [if_neg c1_0, if_neg c1_1, if_neg c1_2, if_neg c1_3, if_neg c1_4, if_neg c1_5, if_neg c1_6, if_neg c1_7, if_neg c1_8, if_neg c1_9, if_neg c1_10, if_pos c1_11]))) (Nat.le_of_ble_eq_true rfl) (Nat.le_of_ble_eq_true rfl) dX4_count_163
  by_cases c1_12 : what = 12
  · refine lv_tableIn (off := 163) (tgt := 164) X.x X.b dX4_count_1 (by rw [c1_12]; decide) (by rw [c1_12]; decide) (by rw [c1_12]; rfl) (by decide) ?_
    refine lv_aload_n X.x X.b dX4_count_164 rfl (lv_at hl 0 rfl) ?_
    refine h_get X hr fd_X4_218 gput_o (v := .int (g.1 6)) rfl dX4_count_165 ?_
    exact h_iret X hr hz hlo (glfip (id (by unfold gf_4_count; rw [if_neg c1_0, if_neg c1_1, if_neg c1_2, if_neg c1_3, if_neg c1_4, if_neg c1_5, if_neg c1_6, if_neg c1_7, if_neg c1_8, if_neg c1_9, if_neg c1_10, if_neg c1_11, if_pos c1_12]))) (Nat.le_of_ble_eq_true rfl) (Nat.le_of_ble_eq_true rfl) dX4_count_168
  by_cases c1_13 : what = 13
  · refine lv_tableIn (off := 168) (tgt := 169) X.x X.b dX4_count_1 (by rw [c1_13]; decide) (by rw [c1_13]; decide) (by rw [c1_13]; rfl) (by decide) ?_
    refine lv_aload_n X.x X.b dX4_count_169 rfl (lv_at hl 0 rfl) ?_
    refine h_get X hr fd_X4_221 gput_o (v := .int (g.1 7)) rfl dX4_count_170 ?_
    exact h_iret X hr hz hlo (glfip (id (by unfold gf_4_count; rw [if_neg c1_0, if_neg c1_1, if_neg c1_2, if_neg c1_3, if_neg c1_4, if_neg c1_5, if_neg c1_6, if_neg c1_7, if_neg c1_8, if_neg c1_9, if_neg c1_10, if_neg c1_11, if_neg c1_12, if_pos c1_13]))) (Nat.le_of_ble_eq_true rfl) (Nat.le_of_ble_eq_true rfl) dX4_count_173
  by_cases c1_14 : what = 14
  · refine lv_tableIn (off := 173) (tgt := 174) X.x X.b dX4_count_1 (by rw [c1_14]; decide) (by rw [c1_14]; decide) (by rw [c1_14]; rfl) (by decide) ?_
    refine lv_aload_n X.x X.b dX4_count_174 rfl (lv_at hl 0 rfl) ?_
    refine h_get X hr fd_X4_13 gput_o (v := .int (nI R)) rfl dX4_count_175 ?_
    exact h_iret X hr hz hlo (glfip (id (by unfold gf_4_count; rw [if_neg c1_0, if_neg c1_1, if_neg c1_2, if_neg c1_3, if_neg c1_4, if_neg c1_5, if_neg c1_6, if_neg c1_7, if_neg c1_8, if_neg c1_9, if_neg c1_10, if_neg c1_11, if_neg c1_12, if_neg c1_13, if_pos c1_14]))) (Nat.le_of_ble_eq_true rfl) (Nat.le_of_ble_eq_true rfl) dX4_count_178
  refine lv_tableOut (tgt := 179) X.x X.b dX4_count_1 (tbo (N := 14) (by intro i9 h9; match i9, h9 with | 0, _ => exact c1_0 | 1, _ => exact c1_1 | 2, _ => exact c1_2 | 3, _ => exact c1_3 | 4, _ => exact c1_4 | 5, _ => exact c1_5 | 6, _ => exact c1_6 | 7, _ => exact c1_7 | 8, _ => exact c1_8 | 9, _ => exact c1_9 | 10, _ => exact c1_10 | 11, _ => exact c1_11 | 12, _ => exact c1_12 | 13, _ => exact c1_13 | 14, _ => exact c1_14 | (k9 + 15), h9 => omega) (by decide)) (by decide) ?_
  refine lv_iconst (v := -1) X.x X.b dX4_count_179 (by decide) ?_
  exact h_iret X hr hz hlo (glfip (id (by unfold gf_4_count; rw [if_neg c1_0, if_neg c1_1, if_neg c1_2, if_neg c1_3, if_neg c1_4, if_neg c1_5, if_neg c1_6, if_neg c1_7, if_neg c1_8, if_neg c1_9, if_neg c1_10, if_neg c1_11, if_neg c1_12, if_neg c1_13, if_neg c1_14]))) (Nat.le_of_ble_eq_true rfl) (Nat.le_of_ble_eq_true rfl) dX4_count_180

def gg_4_astray_20 (R nd : Nat) (g : GS)  : Nat → Nat → Int32 → Int32
  | 0, _, _ => 0
  | j + 1, k, fd =>
    if (nI R) ≤ (nI k) then
      fd
    else
      if (lg_cmp (gf_4_exclusiveOr R nd g (gf_4_widthOfRow R nd g (nI k)) (nI k) (-1)) 0) = 0 then
        gg_4_astray_20 R nd g  j (k + 1) fd
      else
        gg_4_astray_20 R nd g  j (k + 1) (fd + 1)
def gf_4_astray (R nd : Nat) (g : GS)  : Int32 :=
  if (g.1 1) = 0 then
    (-1)
  else
    if (gf_4_isArrayDegraded R nd g) = 0 then
      gg_4_astray_20 R nd g  (R + 1) 0 0
    else
      (-1)
set_option maxRecDepth 20000 in
set_option maxHeartbeats 4000000 in
theorem gc_4_astray (l : Launch) (D : hD) (H0 : Heap) (a R nd : Nat) (g : GS) (h0 : hH) (n : Nat)  (hnd : nd ≤ 10) (hRR : R ≤ 48)  : cM l D H0 yX4_astray cX4_astray 3 (some .int) 3 62 0 0 [.ref a] (gput a R nd g h0) n (cE (some (.int (gf_4_astray R nd g))) (gput a R nd g h0) n) := by
  refine h_met (by decide) (Nat.le_of_ble_eq_true rfl) ?_
  intro p e s m below meth c H ls X hnm hr hz hl
  have hl : lv_has ls 3 [(0, .ref a)] := hl
  have hlo : hL H0 ([] : List Loc) := hL.nil
  have loop20 : ∀ (j k : Nat) (fd : Int32) (hk : k ≤ R) (hj : R < k + j) (hG : gf_4_astray R nd g = gg_4_astray_20 R nd g  j k fd) (H : Heap) (locs : List Loc) (ls : Array Slot), hR D H0 (gput a R nd g h0) H → H.size = n → hL H0 locs → lv_has ls 3 [(2, .int (nI k)), (1, .int fd), (0, .ref a)] → W p l e (rmk 3 62 0 0) s m ([.ref a] : List Value).toArray below meth c H locs 0 0 (MQ below (cQ D H0 (cE (some (.int (gf_4_astray R nd g))) (gput a R nd g h0) n)) ([.ref a] : List Value).toArray s 0 0 (hF H0)) (F0 m 20 ls []) := by
    intro j
    induction j with
    | zero => intro k fd hk hj; omega
    | succ j ih =>
      intro k fd hk hj hG H locs ls hr hz hlo hl
      refine lv_iload_n X.x X.b dX4_astray_20 rfl (lv_at hl 0 rfl) ?_
      refine lv_aload_n X.x X.b dX4_astray_21 rfl (lv_at hl 2 rfl) ?_
      refine h_get X hr fd_X4_13 gput_o (v := .int (nI R)) rfl dX4_astray_22 ?_
      refine lv_icmp_ge (tgt := 53) X.x X.b dX4_astray_25 (by decide) (fun c25 => ?_) (fun c25 => ?_)
      · refine lv_iload_n X.x X.b dX4_astray_53 rfl (lv_at hl 1 rfl) ?_
        exact h_iret X hr hz hlo (glfip (hG.trans (by rw [gg_4_astray_20]; rw [if_pos c25]))) (Nat.le_of_ble_eq_true rfl) (Nat.le_of_ble_eq_true rfl) dX4_astray_54
      · have hk9 : k < R := nd_lt c25 (by omega)
        refine lv_aload_n X.x X.b dX4_astray_28 rfl (lv_at hl 2 rfl) ?_
        refine lv_aload_n X.x X.b dX4_astray_29 rfl (lv_at hl 2 rfl) ?_
        refine lv_iload_n X.x X.b dX4_astray_30 rfl (lv_at hl 0 rfl) ?_
        refine h_callV X hr hz hlo (rest := [.ref a]) (gc_4_widthOfRow l D H0 a R nd g h0 n (nI k) hnd hRR  ) gput_o rfl yv_X4_widthOfRow ml_X4_227 ⟨(Nat.le_of_ble_eq_true rfl), (Nat.le_of_ble_eq_true rfl)⟩ (Nat.le_of_ble_eq_true rfl) hl.1 ⟨(Nat.le_of_ble_eq_true rfl), (Nat.le_of_ble_eq_true rfl)⟩ rfl dX4_astray_31 (fun v9 h9 n9 H locs hp hr hz hlo => ?_)
        obtain ⟨rfl, rfl, rfl⟩ := hp
        show W p l e _ s m _ below meth c H locs _ _ _ (F0 m 34 ls [.int (gf_4_widthOfRow R nd g (nI k)), .ref a])
        refine lv_iload_n X.x X.b dX4_astray_34 rfl (lv_at hl 0 rfl) ?_
        refine lv_iconst (v := -1) X.x X.b dX4_astray_35 (by decide) ?_
        refine h_callV X hr hz hlo (rest := []) (gc_4_exclusiveOr l D H0 a R nd g h0 n (gf_4_widthOfRow R nd g (nI k)) (nI k) (-1) hnd hRR  ) gput_o rfl yv_X4_exclusiveOr ml_X4_230 ⟨(Nat.le_of_ble_eq_true rfl), (Nat.le_of_ble_eq_true rfl)⟩ (Nat.le_of_ble_eq_true rfl) hl.1 ⟨(Nat.le_of_ble_eq_true rfl), (Nat.le_of_ble_eq_true rfl)⟩ rfl dX4_astray_36 (fun v9 h9 n9 H locs hp hr hz hlo => ?_)
        obtain ⟨rfl, rfl, rfl⟩ := hp
        show W p l e _ s m _ below meth c H locs _ _ _ (F0 m 39 ls [.long (gf_4_exclusiveOr R nd g (gf_4_widthOfRow R nd g (nI k)) (nI k) (-1))])
        refine lv_lconst (v := 0) X.x X.b dX4_astray_39 (by decide) ?_
        refine W.lcmp X.x X.b dX4_astray_40 ?_
        refine lv_if_eq (tgt := 47) X.x X.b dX4_astray_41 (by decide) (fun c41 => ?_) (fun c41 => ?_)
        · refine lv_iinc (v := nI (k + 1)) (lv' := [(2, .int (nI (k + 1))), (1, .int fd), (0, .ref a)]) X.x X.b dX4_astray_47 hl (k := 0) rfl (nI_1 k) (by decide) rfl (fun ls hl => ?_)
          refine lv_goto (tgt := 20) X.x X.b dX4_astray_50 (by decide) ?_
          exact ih (k + 1) fd (by omega) (by omega) (hG.trans (by rw [gg_4_astray_20]; rw [if_neg c25, if_pos c41])) _ _ _ hr hz hlo (lv_sub hl [0, 1, 2] rfl)
        · refine lv_iinc (v := fd + 1) (lv' := [(1, .int (fd + 1)), (2, .int (nI k)), (0, .ref a)]) X.x X.b dX4_astray_44 hl (k := 1) rfl rfl (by decide) rfl (fun ls hl => ?_)
          refine lv_iinc (v := nI (k + 1)) (lv' := [(2, .int (nI (k + 1))), (1, .int (fd + 1)), (0, .ref a)]) X.x X.b dX4_astray_47 hl (k := 1) rfl (nI_1 k) (by decide) rfl (fun ls hl => ?_)
          refine lv_goto (tgt := 20) X.x X.b dX4_astray_50 (by decide) ?_
          exact ih (k + 1) (fd + 1) (by omega) (by omega) (hG.trans (by rw [gg_4_astray_20]; rw [if_neg c25, if_neg c41])) _ _ _ hr hz hlo (lv_sub hl [0, 1, 2] rfl)
  refine lv_aload_n X.x X.b dX4_astray_0 rfl (lv_at hl 0 rfl) ?_
  refine h_get X hr fd_X4_54 gput_o (v := .int (g.1 1)) rfl dX4_astray_1 ?_
  refine lv_if_eq (tgt := 14) X.x X.b dX4_astray_4 (by decide) (fun c4 => ?_) (fun c4 => ?_)
  · refine lv_iconst (v := -1) X.x X.b dX4_astray_14 (by decide) ?_
    exact h_iret X hr hz hlo (glfip (id (by unfold gf_4_astray; rw [if_pos c4]))) (Nat.le_of_ble_eq_true rfl) (Nat.le_of_ble_eq_true rfl) dX4_astray_15
  · refine lv_aload_n X.x X.b dX4_astray_7 rfl (lv_at hl 0 rfl) ?_
    refine h_callV X hr hz hlo (rest := []) (gc_4_isArrayDegraded l D H0 a R nd g h0 n  hnd hRR  ) gput_o rfl yv_X4_isArrayDegraded ml_X4_224 ⟨(Nat.le_of_ble_eq_true rfl), (Nat.le_of_ble_eq_true rfl)⟩ (Nat.le_of_ble_eq_true rfl) hl.1 ⟨(Nat.le_of_ble_eq_true rfl), (Nat.le_of_ble_eq_true rfl)⟩ rfl dX4_astray_8 (fun v9 h9 n9 H locs hp hr hz hlo => ?_)
    obtain ⟨rfl, rfl, rfl⟩ := hp
    show W p l e _ s m _ below meth c H locs _ _ _ (F0 m 11 ls [.int (gf_4_isArrayDegraded R nd g)])
    refine lv_if_eq (tgt := 16) X.x X.b dX4_astray_11 (by decide) (fun c11 => ?_) (fun c11 => ?_)
    · refine lv_iconst (v := 0) X.x X.b dX4_astray_16 (by decide) ?_
      refine lv_istore_n (lv' := [(1, .int 0), (0, .ref a)]) X.x X.b dX4_astray_17 rfl hl (by decide) rfl (fun ls hl => ?_)
      refine lv_iconst (v := 0) X.x X.b dX4_astray_18 (by decide) ?_
      refine lv_istore_n (lv' := [(2, .int 0), (1, .int 0), (0, .ref a)]) X.x X.b dX4_astray_19 rfl hl (by decide) rfl (fun ls hl => ?_)
      have hl : lv_has ls 3 [(2, .int (nI 0)), (1, .int 0), (0, .ref a)] := by rw [nI_0]; exact hl
      exact loop20 (R + 1) 0 0 (by omega) (by omega) (id (by unfold gf_4_astray; rw [if_neg c4, if_pos c11])) _ _ _ hr hz hlo (lv_sub hl [0, 1, 2] rfl)
    · refine lv_iconst (v := -1) X.x X.b dX4_astray_14 (by decide) ?_
      exact h_iret X hr hz hlo (glfip (id (by unfold gf_4_astray; rw [if_neg c4, if_neg c11]))) (Nat.le_of_ble_eq_true rfl) (Nat.le_of_ble_eq_true rfl) dX4_astray_15
