def mf_add (R nd : Nat) (t : MS)  : Int32 × Nat × MS :=
  if (t.1 5) = 0 then
    (0, nd, si t 0 1)
  else
    if (nI nd) = 10 then
      ((-1), nd, si t 0 0)
    else
      if ((mf_lasts R nd (si t 0 0)).1) = 0 then
        (0, nd, (mf_lasts R nd (si t 0 0)).2)
      else
        (nI (nd + 1), nd + 1, mf_fresh R nd (si ((mf_lasts R nd (si t 0 0)).2) 9 ((((mf_lasts R nd (si t 0 0)).2).1 9) + 1)) (nI nd))
set_option maxRecDepth 20000 in
set_option maxHeartbeats 4000000 in
theorem mc_add (l : Launch) (D : hD) (H0 : Heap) (b R nd : Nat) (t : MS) (h0 : hH) (n : Nat)  (hnd : nd ≤ 10)   : cM l D H0 yX5_add cX5_add 1 (some .int) 2 46 0 0 [.ref b] (mput b R nd t h0) n (cE (some (.int (mf_add R nd t).1)) (mput b R (mf_add R nd t).2.1 (mf_add R nd t).2.2 h0) n) := by
  refine h_met (by decide) (Nat.le_of_ble_eq_true rfl) ?_
  intro p e s m below meth c H ls X hnm hr hz hl
  have hl : lv_has ls 1 [(0, .ref b)] := hl
  have hlo : hL H0 ([] : List Loc) := hL.nil
  refine lv_aload_n X.x X.b dX5_add_0 rfl (lv_at hl 0 rfl) ?_
  refine lv_aload_n X.x X.b dX5_add_1 rfl (lv_at hl 0 rfl) ?_
  refine h_get X hr fd_X5_44 mput_o (v := .int (t.1 5)) rfl dX5_add_2 ?_
  refine lv_if_eq (tgt := 12) X.x X.b dX5_add_5 (by decide) (fun c5 => ?_) (fun c5 => ?_)
  · refine lv_iconst (v := 1) X.x X.b dX5_add_12 (by decide) ?_
    refine h_put X hr hz hlo fd_X5_74 tyX5 tyX5_ok nmX5 rfl mput_o (v := .int 1) rfl rfl (Nat.le_of_ble_eq_true rfl) dX5_add_13 (fun H locs hr hz hlo => ?_)
    rw [mput_s0] at hr
    refine lv_aload_n X.x X.b dX5_add_16 rfl (lv_at hl 0 rfl) ?_
    refine h_get X hr fd_X5_74 mput_o (v := .int 1) rfl dX5_add_17 ?_
    refine lv_if_le (tgt := 25) X.x X.b dX5_add_20 (by decide) (fun c20 => ?_) (fun c20 => ?_)
    · exact absurd c20 (by decide)
    · refine lv_iconst (v := 0) X.x X.b dX5_add_23 (by decide) ?_
      exact h_iret X hr hz hlo (lfn (id (by unfold mf_add; rw [if_pos c5]))) (Nat.le_of_ble_eq_true rfl) (Nat.le_of_ble_eq_true rfl) dX5_add_24
  · refine lv_iconst (v := 0) X.x X.b dX5_add_8 (by decide) ?_
    refine lv_goto (tgt := 13) X.x X.b dX5_add_9 (by decide) ?_
    refine h_put X hr hz hlo fd_X5_74 tyX5 tyX5_ok nmX5 rfl mput_o (v := .int 0) rfl rfl (Nat.le_of_ble_eq_true rfl) dX5_add_13 (fun H locs hr hz hlo => ?_)
    rw [mput_s0] at hr
    refine lv_aload_n X.x X.b dX5_add_16 rfl (lv_at hl 0 rfl) ?_
    refine h_get X hr fd_X5_74 mput_o (v := .int 0) rfl dX5_add_17 ?_
    refine lv_if_le (tgt := 25) X.x X.b dX5_add_20 (by decide) (fun c20 => ?_) (fun c20 => ?_)
    · refine lv_aload_n X.x X.b dX5_add_25 rfl (lv_at hl 0 rfl) ?_
      refine h_get X hr fd_X5_58 mput_o (v := .int (nI nd)) rfl dX5_add_26 ?_
      refine lv_bipush (v := 10) X.x X.b dX5_add_29 (by decide) ?_
      refine lv_icmp_ne (tgt := 36) X.x X.b dX5_add_31 (by decide) (fun c31 => ?_) (fun c31 => ?_)
      · refine lv_aload_n X.x X.b dX5_add_36 rfl (lv_at hl 0 rfl) ?_
        refine h_callV X hr hz hlo (rest := []) (mc_lasts l D H0 b R nd (si t 0 0) h0 n  hnd ) mput_o rfl yv_X5_lasts ml_X5_83 ⟨(Nat.le_of_ble_eq_true rfl), (Nat.le_of_ble_eq_true rfl)⟩ (Nat.le_of_ble_eq_true rfl) hl.1 ⟨(Nat.le_of_ble_eq_true rfl), (Nat.le_of_ble_eq_true rfl)⟩ rfl dX5_add_37 (fun v9 h9 n9 H locs hp hr hz hlo => ?_)
        obtain ⟨rfl, rfl, rfl⟩ := hp
        show W p l e _ s m _ below meth c H locs _ _ _ (F0 m 40 ls [.int ((mf_lasts R nd (si t 0 0)).1)])
        refine lv_if_ne (tgt := 45) X.x X.b dX5_add_40 (by decide) (fun c40 => ?_) (fun c40 => ?_)
        · refine lv_aload_n X.x X.b dX5_add_45 rfl (lv_at hl 0 rfl) ?_
          refine lv_dup X.x X.b dX5_add_46 rfl ?_
          refine h_get X hr fd_X5_87 mput_o (v := .int (((mf_lasts R nd (si t 0 0)).2).1 9)) rfl dX5_add_47 ?_
          refine lv_iconst (v := 1) X.x X.b dX5_add_50 (by decide) ?_
          refine lv_iadd X.x X.b dX5_add_51 ?_
          refine h_put X hr hz hlo fd_X5_87 tyX5 tyX5_ok nmX5 rfl mput_o (v := .int ((((mf_lasts R nd (si t 0 0)).2).1 9) + 1)) rfl rfl (Nat.le_of_ble_eq_true rfl) dX5_add_52 (fun H locs hr hz hlo => ?_)
          rw [mput_s9] at hr
          refine lv_aload_n X.x X.b dX5_add_55 rfl (lv_at hl 0 rfl) ?_
          refine lv_aload_n X.x X.b dX5_add_56 rfl (lv_at hl 0 rfl) ?_
          refine h_get X hr fd_X5_58 mput_o (v := .int (nI nd)) rfl dX5_add_57 ?_
          refine h_callV X hr hz hlo (rest := []) (mc_fresh l D H0 b R nd (si ((mf_lasts R nd (si t 0 0)).2) 9 ((((mf_lasts R nd (si t 0 0)).2).1 9) + 1)) h0 n (nI nd) hnd (vp_in_nI (nd10 c31 hnd) (by decide))) mput_o rfl yv_X5_fresh ml_X5_131 ⟨(Nat.le_of_ble_eq_true rfl), (Nat.le_of_ble_eq_true rfl)⟩ (Nat.le_of_ble_eq_true rfl) hl.1 ⟨(Nat.le_of_ble_eq_true rfl), (Nat.le_of_ble_eq_true rfl)⟩ rfl dX5_add_60 (fun v9 h9 n9 H locs hp hr hz hlo => ?_)
          obtain ⟨rfl, rfl, rfl⟩ := hp
          show W p l e _ s m _ below meth c H locs _ _ _ (F0 m 63 ls [])
          refine lv_aload_n X.x X.b dX5_add_63 rfl (lv_at hl 0 rfl) ?_
          refine lv_dup X.x X.b dX5_add_64 rfl ?_
          refine h_get X hr fd_X5_58 mput_o (v := .int (nI nd)) rfl dX5_add_65 ?_
          refine lv_iconst (v := 1) X.x X.b dX5_add_68 (by decide) ?_
          refine lv_iadd X.x X.b dX5_add_69 ?_
          refine h_put X hr hz hlo fd_X5_58 tyX5 tyX5_ok nmX5 rfl mput_o (v := .int ((nI nd) + 1)) rfl rfl (Nat.le_of_ble_eq_true rfl) dX5_add_70 (fun H locs hr hz hlo => ?_)
          rw [mput_nd] at hr
          refine lv_aload_n X.x X.b dX5_add_73 rfl (lv_at hl 0 rfl) ?_
          refine h_get X hr fd_X5_58 mput_o (v := .int (nI (nd + 1))) rfl dX5_add_74 ?_
          exact h_iret X hr hz hlo (lfn (id (by unfold mf_add; rw [if_neg c5, if_neg c31, if_neg c40]))) (Nat.le_of_ble_eq_true rfl) (Nat.le_of_ble_eq_true rfl) dX5_add_77
        · refine lv_iconst (v := 0) X.x X.b dX5_add_43 (by decide) ?_
          exact h_iret X hr hz hlo (lfn (id (by unfold mf_add; rw [if_neg c5, if_neg c31, if_pos c40]))) (Nat.le_of_ble_eq_true rfl) (Nat.le_of_ble_eq_true rfl) dX5_add_44
      · refine lv_iconst (v := -1) X.x X.b dX5_add_34 (by decide) ?_
        exact h_iret X hr hz hlo (lfn (id (by unfold mf_add; rw [if_neg c5, if_pos c31]))) (Nat.le_of_ble_eq_true rfl) (Nat.le_of_ble_eq_true rfl) dX5_add_35
    · exact absurd (by decide) c20

def mf_rebuild (R nd : Nat) (t : MS)  : Int32 × MS :=
  if (t.1 5) = 0 then
    (0, si t 0 1)
  else
    if (mf_isRebuilding R nd (si t 0 0)) = 0 then
      ((-1), si t 0 0)
    else
      if ((mf_pokes R nd (si t 0 0) (mf_notLive R nd (si t 0 0))).1) = 0 then
        (0, (mf_pokes R nd (si t 0 0) (mf_notLive R nd (si t 0 0))).2)
      else
        if (nI R) ≤ ((((mf_pokes R nd (si t 0 0) (mf_notLive R nd (si t 0 0))).2).1 7) + 1) then
          if ((mf_sets R nd ((mf_pokes R nd (si t 0 0) (mf_notLive R nd (si t 0 0))).2) (((mf_pokes R nd (si t 0 0) (mf_notLive R nd (si t 0 0))).2).1 2) (((mf_pokes R nd (si t 0 0) (mf_notLive R nd (si t 0 0))).2).1 3) (((mf_pokes R nd (si t 0 0) (mf_notLive R nd (si t 0 0))).2).1 4) (mf_notLive R nd (si t 0 0))).1) = 0 then
            (0, (mf_sets R nd ((mf_pokes R nd (si t 0 0) (mf_notLive R nd (si t 0 0))).2) (((mf_pokes R nd (si t 0 0) (mf_notLive R nd (si t 0 0))).2).1 2) (((mf_pokes R nd (si t 0 0) (mf_notLive R nd (si t 0 0))).2).1 3) (((mf_pokes R nd (si t 0 0) (mf_notLive R nd (si t 0 0))).2).1 4) (mf_notLive R nd (si t 0 0))).2)
          else
            (2, si (ti ((mf_sets R nd ((mf_pokes R nd (si t 0 0) (mf_notLive R nd (si t 0 0))).2) (((mf_pokes R nd (si t 0 0) (mf_notLive R nd (si t 0 0))).2).1 2) (((mf_pokes R nd (si t 0 0) (mf_notLive R nd (si t 0 0))).2).1 3) (((mf_pokes R nd (si t 0 0) (mf_notLive R nd (si t 0 0))).2).1 4) (mf_notLive R nd (si t 0 0))).2) 0 ((mf_notLive R nd (si t 0 0)).toNatClampNeg) 0) 7 0)
        else
          (1, si ((mf_pokes R nd (si t 0 0) (mf_notLive R nd (si t 0 0))).2) 7 ((((mf_pokes R nd (si t 0 0) (mf_notLive R nd (si t 0 0))).2).1 7) + 1))
set_option maxRecDepth 20000 in
set_option maxHeartbeats 4000000 in
theorem mc_rebuild (l : Launch) (D : hD) (H0 : Heap) (b R nd : Nat) (t : MS) (h0 : hH) (n : Nat)  (hnd : nd ≤ 10)   : cM l D H0 yX5_rebuild cX5_rebuild 2 (some .int) 3 67 0 0 [.ref b] (mput b R nd t h0) n (cE (some (.int (mf_rebuild R nd t).1)) (mput b R nd (mf_rebuild R nd t).2 h0) n) := by
  refine h_met (by decide) (Nat.le_of_ble_eq_true rfl) ?_
  intro p e s m below meth c H ls X hnm hr hz hl
  have hl : lv_has ls 2 [(0, .ref b)] := hl
  have hlo : hL H0 ([] : List Loc) := hL.nil
  refine lv_aload_n X.x X.b dX5_rebuild_0 rfl (lv_at hl 0 rfl) ?_
  refine lv_aload_n X.x X.b dX5_rebuild_1 rfl (lv_at hl 0 rfl) ?_
  refine h_get X hr fd_X5_44 mput_o (v := .int (t.1 5)) rfl dX5_rebuild_2 ?_
  refine lv_if_eq (tgt := 12) X.x X.b dX5_rebuild_5 (by decide) (fun c5 => ?_) (fun c5 => ?_)
  · refine lv_iconst (v := 1) X.x X.b dX5_rebuild_12 (by decide) ?_
    refine h_put X hr hz hlo fd_X5_74 tyX5 tyX5_ok nmX5 rfl mput_o (v := .int 1) rfl rfl (Nat.le_of_ble_eq_true rfl) dX5_rebuild_13 (fun H locs hr hz hlo => ?_)
    rw [mput_s0] at hr
    refine lv_aload_n X.x X.b dX5_rebuild_16 rfl (lv_at hl 0 rfl) ?_
    refine h_get X hr fd_X5_74 mput_o (v := .int 1) rfl dX5_rebuild_17 ?_
    refine lv_if_le (tgt := 25) X.x X.b dX5_rebuild_20 (by decide) (fun c20 => ?_) (fun c20 => ?_)
    · exact absurd c20 (by decide)
    · refine lv_iconst (v := 0) X.x X.b dX5_rebuild_23 (by decide) ?_
      exact h_iret X hr hz hlo (lfi (id (by unfold mf_rebuild; rw [if_pos c5]))) (Nat.le_of_ble_eq_true rfl) (Nat.le_of_ble_eq_true rfl) dX5_rebuild_24
  · refine lv_iconst (v := 0) X.x X.b dX5_rebuild_8 (by decide) ?_
    refine lv_goto (tgt := 13) X.x X.b dX5_rebuild_9 (by decide) ?_
    refine h_put X hr hz hlo fd_X5_74 tyX5 tyX5_ok nmX5 rfl mput_o (v := .int 0) rfl rfl (Nat.le_of_ble_eq_true rfl) dX5_rebuild_13 (fun H locs hr hz hlo => ?_)
    rw [mput_s0] at hr
    refine lv_aload_n X.x X.b dX5_rebuild_16 rfl (lv_at hl 0 rfl) ?_
    refine h_get X hr fd_X5_74 mput_o (v := .int 0) rfl dX5_rebuild_17 ?_
    refine lv_if_le (tgt := 25) X.x X.b dX5_rebuild_20 (by decide) (fun c20 => ?_) (fun c20 => ?_)
    · refine lv_aload_n X.x X.b dX5_rebuild_25 rfl (lv_at hl 0 rfl) ?_
      refine h_callV X hr hz hlo (rest := []) (mc_isRebuilding l D H0 b R nd (si t 0 0) h0 n  hnd ) mput_o rfl yv_X5_isRebuilding ml_X5_135 ⟨(Nat.le_of_ble_eq_true rfl), (Nat.le_of_ble_eq_true rfl)⟩ (Nat.le_of_ble_eq_true rfl) hl.1 ⟨(Nat.le_of_ble_eq_true rfl), (Nat.le_of_ble_eq_true rfl)⟩ rfl dX5_rebuild_26 (fun v9 h9 n9 H locs hp hr hz hlo => ?_)
      obtain ⟨rfl, rfl, rfl⟩ := hp
      show W p l e _ s m _ below meth c H locs _ _ _ (F0 m 29 ls [.int (mf_isRebuilding R nd (si t 0 0))])
      refine lv_if_ne (tgt := 34) X.x X.b dX5_rebuild_29 (by decide) (fun c29 => ?_) (fun c29 => ?_)
      · refine lv_aload_n X.x X.b dX5_rebuild_34 rfl (lv_at hl 0 rfl) ?_
        refine h_callV X hr hz hlo (rest := []) (mc_notLive l D H0 b R nd (si t 0 0) h0 n  hnd ) mput_o rfl yv_X5_notLive ml_X5_154 ⟨(Nat.le_of_ble_eq_true rfl), (Nat.le_of_ble_eq_true rfl)⟩ (Nat.le_of_ble_eq_true rfl) hl.1 ⟨(Nat.le_of_ble_eq_true rfl), (Nat.le_of_ble_eq_true rfl)⟩ rfl dX5_rebuild_35 (fun v9 h9 n9 H locs hp hr hz hlo => ?_)
        obtain ⟨rfl, rfl, rfl⟩ := hp
        show W p l e _ s m _ below meth c H locs _ _ _ (F0 m 38 ls [.int (mf_notLive R nd (si t 0 0))])
        refine lv_istore_n (lv' := [(1, .int (mf_notLive R nd (si t 0 0))), (0, .ref b)]) X.x X.b dX5_rebuild_38 rfl hl (by decide) rfl (fun ls hl => ?_)
        refine lv_aload_n X.x X.b dX5_rebuild_39 rfl (lv_at hl 1 rfl) ?_
        refine lv_iload_n X.x X.b dX5_rebuild_40 rfl (lv_at hl 0 rfl) ?_
        refine h_callV X hr hz hlo (rest := []) (mc_pokes l D H0 b R nd (si t 0 0) h0 n (mf_notLive R nd (si t 0 0)) hnd (mf_notLive_ix hnd (mf_rebuilding_nl hnd c29))) mput_o rfl yv_X5_pokes ml_X5_90 ⟨(Nat.le_of_ble_eq_true rfl), (Nat.le_of_ble_eq_true rfl)⟩ (Nat.le_of_ble_eq_true rfl) hl.1 ⟨(Nat.le_of_ble_eq_true rfl), (Nat.le_of_ble_eq_true rfl)⟩ rfl dX5_rebuild_41 (fun v9 h9 n9 H locs hp hr hz hlo => ?_)
        obtain ⟨rfl, rfl, rfl⟩ := hp
        show W p l e _ s m _ below meth c H locs _ _ _ (F0 m 44 ls [.int ((mf_pokes R nd (si t 0 0) (mf_notLive R nd (si t 0 0))).1)])
        refine lv_if_ne (tgt := 49) X.x X.b dX5_rebuild_44 (by decide) (fun c44 => ?_) (fun c44 => ?_)
        · refine lv_aload_n X.x X.b dX5_rebuild_49 rfl (lv_at hl 1 rfl) ?_
          refine h_get X hr fd_X5_80 mput_o (v := .int (((mf_pokes R nd (si t 0 0) (mf_notLive R nd (si t 0 0))).2).1 7)) rfl dX5_rebuild_50 ?_
          refine lv_iconst (v := 1) X.x X.b dX5_rebuild_53 (by decide) ?_
          refine lv_iadd X.x X.b dX5_rebuild_54 ?_
          refine lv_aload_n X.x X.b dX5_rebuild_55 rfl (lv_at hl 1 rfl) ?_
          refine h_get X hr fd_X5_55 mput_o (v := .int (nI R)) rfl dX5_rebuild_56 ?_
          refine lv_icmp_ge (tgt := 74) X.x X.b dX5_rebuild_59 (by decide) (fun c59 => ?_) (fun c59 => ?_)
          · refine lv_aload_n X.x X.b dX5_rebuild_74 rfl (lv_at hl 1 rfl) ?_
            refine lv_aload_n X.x X.b dX5_rebuild_75 rfl (lv_at hl 1 rfl) ?_
            refine h_get X hr fd_X5_64 mput_o (v := .int (((mf_pokes R nd (si t 0 0) (mf_notLive R nd (si t 0 0))).2).1 2)) rfl dX5_rebuild_76 ?_
            refine lv_aload_n X.x X.b dX5_rebuild_79 rfl (lv_at hl 1 rfl) ?_
            refine h_get X hr fd_X5_67 mput_o (v := .int (((mf_pokes R nd (si t 0 0) (mf_notLive R nd (si t 0 0))).2).1 3)) rfl dX5_rebuild_80 ?_
            refine lv_aload_n X.x X.b dX5_rebuild_83 rfl (lv_at hl 1 rfl) ?_
            refine h_get X hr fd_X5_94 mput_o (v := .int (((mf_pokes R nd (si t 0 0) (mf_notLive R nd (si t 0 0))).2).1 4)) rfl dX5_rebuild_84 ?_
            refine lv_iload_n X.x X.b dX5_rebuild_87 rfl (lv_at hl 0 rfl) ?_
            refine h_callV X hr hz hlo (rest := []) (mc_sets l D H0 b R nd ((mf_pokes R nd (si t 0 0) (mf_notLive R nd (si t 0 0))).2) h0 n (((mf_pokes R nd (si t 0 0) (mf_notLive R nd (si t 0 0))).2).1 2) (((mf_pokes R nd (si t 0 0) (mf_notLive R nd (si t 0 0))).2).1 3) (((mf_pokes R nd (si t 0 0) (mf_notLive R nd (si t 0 0))).2).1 4) (mf_notLive R nd (si t 0 0)) hnd ) mput_o rfl yv_X5_sets ml_X5_138 ⟨(Nat.le_of_ble_eq_true rfl), (Nat.le_of_ble_eq_true rfl)⟩ (Nat.le_of_ble_eq_true rfl) hl.1 ⟨(Nat.le_of_ble_eq_true rfl), (Nat.le_of_ble_eq_true rfl)⟩ rfl dX5_rebuild_88 (fun v9 h9 n9 H locs hp hr hz hlo => ?_)
            obtain ⟨rfl, rfl, rfl⟩ := hp
            show W p l e _ s m _ below meth c H locs _ _ _ (F0 m 91 ls [.int ((mf_sets R nd ((mf_pokes R nd (si t 0 0) (mf_notLive R nd (si t 0 0))).2) (((mf_pokes R nd (si t 0 0) (mf_notLive R nd (si t 0 0))).2).1 2) (((mf_pokes R nd (si t 0 0) (mf_notLive R nd (si t 0 0))).2).1 3) (((mf_pokes R nd (si t 0 0) (mf_notLive R nd (si t 0 0))).2).1 4) (mf_notLive R nd (si t 0 0))).1)])
            refine lv_if_ne (tgt := 96) X.x X.b dX5_rebuild_91 (by decide) (fun c91 => ?_) (fun c91 => ?_)
            · refine lv_aload_n X.x X.b dX5_rebuild_96 rfl (lv_at hl 1 rfl) ?_
              refine h_get X hr fd_X5_9 mput_o (v := .ref (b + 1)) rfl dX5_rebuild_97 ?_
              refine lv_iload_n X.x X.b dX5_rebuild_100 rfl (lv_at hl 0 rfl) ?_
              refine lv_iconst (v := 0) X.x X.b dX5_rebuild_101 (by decide) ?_
              refine h_iast X hr hz hlo mput_1 (mf_notLive_ix hnd (mf_rebuilding_nl hnd c29)) dX5_rebuild_102 (fun H locs hr hz hlo => ?_)
              rw [mput_a1] at hr
              refine lv_aload_n X.x X.b dX5_rebuild_103 rfl (lv_at hl 1 rfl) ?_
              refine lv_iconst (v := 0) X.x X.b dX5_rebuild_104 (by decide) ?_
              refine h_put X hr hz hlo fd_X5_80 tyX5 tyX5_ok nmX5 rfl mput_o (v := .int 0) rfl rfl (Nat.le_of_ble_eq_true rfl) dX5_rebuild_105 (fun H locs hr hz hlo => ?_)
              rw [mput_s7] at hr
              refine lv_iconst (v := 2) X.x X.b dX5_rebuild_108 (by decide) ?_
              exact h_iret X hr hz hlo (lfi (id (by unfold mf_rebuild; rw [if_neg c5, if_neg c29, if_neg c44, if_pos c59, if_neg c91]))) (Nat.le_of_ble_eq_true rfl) (Nat.le_of_ble_eq_true rfl) dX5_rebuild_109
            · refine lv_iconst (v := 0) X.x X.b dX5_rebuild_94 (by decide) ?_
              exact h_iret X hr hz hlo (lfi (id (by unfold mf_rebuild; rw [if_neg c5, if_neg c29, if_neg c44, if_pos c59, if_pos c91]))) (Nat.le_of_ble_eq_true rfl) (Nat.le_of_ble_eq_true rfl) dX5_rebuild_95
          · refine lv_aload_n X.x X.b dX5_rebuild_62 rfl (lv_at hl 1 rfl) ?_
            refine lv_dup X.x X.b dX5_rebuild_63 rfl ?_
            refine h_get X hr fd_X5_80 mput_o (v := .int (((mf_pokes R nd (si t 0 0) (mf_notLive R nd (si t 0 0))).2).1 7)) rfl dX5_rebuild_64 ?_
            refine lv_iconst (v := 1) X.x X.b dX5_rebuild_67 (by decide) ?_
            refine lv_iadd X.x X.b dX5_rebuild_68 ?_
            refine h_put X hr hz hlo fd_X5_80 tyX5 tyX5_ok nmX5 rfl mput_o (v := .int ((((mf_pokes R nd (si t 0 0) (mf_notLive R nd (si t 0 0))).2).1 7) + 1)) rfl rfl (Nat.le_of_ble_eq_true rfl) dX5_rebuild_69 (fun H locs hr hz hlo => ?_)
            rw [mput_s7] at hr
            refine lv_iconst (v := 1) X.x X.b dX5_rebuild_72 (by decide) ?_
            exact h_iret X hr hz hlo (lfi (id (by unfold mf_rebuild; rw [if_neg c5, if_neg c29, if_neg c44, if_neg c59]))) (Nat.le_of_ble_eq_true rfl) (Nat.le_of_ble_eq_true rfl) dX5_rebuild_73
        · refine lv_iconst (v := 0) X.x X.b dX5_rebuild_47 (by decide) ?_
          exact h_iret X hr hz hlo (lfi (id (by unfold mf_rebuild; rw [if_neg c5, if_neg c29, if_pos c44]))) (Nat.le_of_ble_eq_true rfl) (Nat.le_of_ble_eq_true rfl) dX5_rebuild_48
      · refine lv_iconst (v := -1) X.x X.b dX5_rebuild_32 (by decide) ?_
        exact h_iret X hr hz hlo (lfi (id (by unfold mf_rebuild; rw [if_neg c5, if_pos c29]))) (Nat.le_of_ble_eq_true rfl) (Nat.le_of_ble_eq_true rfl) dX5_rebuild_33
    · exact absurd (by decide) c20

def mf_place (R nd : Nat) (t : MS) (a : Int32) (what : Int32) : Int32 × MS :=
  if a < 0 then
    ((-1), si t 0 0)
  else
    if a < (mf_places R nd (si t 0 0)) then
      if what = 0 then
        (mf_diskOf R nd (si t 0 0) a, si t 0 0)
      else
        if what = 1 then
          (mf_rowOf R nd (si t 0 0) a, si t 0 0)
        else
          if what = 2 then
            (mf_parityOf R nd (si t 0 0) a, si t 0 0)
          else
            if what = 3 then
              if (mf_isByM R nd (si t 0 0) a) = 0 then
                (0, si t 0 0)
              else
                (1, si t 0 0)
            else
              ((-1), si t 0 0)
    else
      ((-1), si t 0 0)
set_option maxRecDepth 20000 in
set_option maxHeartbeats 4000000 in
theorem mc_place (l : Launch) (D : hD) (H0 : Heap) (b R nd : Nat) (t : MS) (h0 : hH) (n : Nat) (a : Int32) (what : Int32) (hnd : nd ≤ 10)  (hI : GV t) (hpl : ¬ a < 0 → a < mf_places R nd t → vp_in a 432) : cM l D H0 yX5_place cX5_place 3 (some .int) 6 125 0 0 [.ref b, .int a, .int what] (mput b R nd t h0) n (cE (some (.int (mf_place R nd t a what).1)) (mput b R nd (mf_place R nd t a what).2 h0) n) := by
  refine h_met (by decide) (Nat.le_of_ble_eq_true rfl) ?_
  intro p e s m below meth c H ls X hnm hr hz hl
  have hl : lv_has ls 3 [(0, .ref b), (1, .int a), (2, .int what)] := hl
  have hlo : hL H0 ([] : List Loc) := hL.nil
  refine lv_aload_n X.x X.b dX5_place_0 rfl (lv_at hl 0 rfl) ?_
  refine lv_iconst (v := 0) X.x X.b dX5_place_1 (by decide) ?_
  refine h_put X hr hz hlo fd_X5_74 tyX5 tyX5_ok nmX5 rfl mput_o (v := .int 0) rfl rfl (Nat.le_of_ble_eq_true rfl) dX5_place_2 (fun H locs hr hz hlo => ?_)
  rw [mput_s0] at hr
  refine lv_iload_n X.x X.b dX5_place_5 rfl (lv_at hl 1 rfl) ?_
  refine lv_if_lt (tgt := 17) X.x X.b dX5_place_6 (by decide) (fun c6 => ?_) (fun c6 => ?_)
  · refine lv_iconst (v := -1) X.x X.b dX5_place_17 (by decide) ?_
    exact h_iret X hr hz hlo (lfi (id (by unfold mf_place; rw [if_pos c6]))) (Nat.le_of_ble_eq_true rfl) (Nat.le_of_ble_eq_true rfl) dX5_place_18
  · refine lv_iload_n X.x X.b dX5_place_9 rfl (lv_at hl 1 rfl) ?_
    refine lv_aload_n X.x X.b dX5_place_10 rfl (lv_at hl 0 rfl) ?_
    refine h_callV X hr hz hlo (rest := [.int a]) (mc_places l D H0 b R nd (si t 0 0) h0 n  hnd ) mput_o rfl yv_X5_places ml_X5_120 ⟨(Nat.le_of_ble_eq_true rfl), (Nat.le_of_ble_eq_true rfl)⟩ (Nat.le_of_ble_eq_true rfl) hl.1 ⟨(Nat.le_of_ble_eq_true rfl), (Nat.le_of_ble_eq_true rfl)⟩ rfl dX5_place_11 (fun v9 h9 n9 H locs hp hr hz hlo => ?_)
    obtain ⟨rfl, rfl, rfl⟩ := hp
    show W p l e _ s m _ below meth c H locs _ _ _ (F0 m 14 ls [.int (mf_places R nd (si t 0 0)), .int a])
    refine lv_icmp_lt (tgt := 19) X.x X.b dX5_place_14 (by decide) (fun c14 => ?_) (fun c14 => ?_)
    · refine lv_iload_n X.x X.b dX5_place_19 rfl (lv_at hl 2 rfl) ?_
      by_cases c20_0 : what = 0
      · refine lv_tableIn (off := 32) (tgt := 52) X.x X.b dX5_place_20 (by rw [c20_0]; decide) (by rw [c20_0]; decide) (by rw [c20_0]; rfl) (by decide) ?_
        refine lv_aload_n X.x X.b dX5_place_52 rfl (lv_at hl 0 rfl) ?_
        refine lv_iload_n X.x X.b dX5_place_53 rfl (lv_at hl 1 rfl) ?_
        refine h_callV X hr hz hlo (rest := []) (mc_diskOf l D H0 b R nd (si t 0 0) h0 n a hnd (MG_gv (R := R) (nd := nd) (t := si t 0 0) hI (hpl c6 c14)).1 (MG_gv (R := R) (nd := nd) (t := si t 0 0) hI (hpl c6 c14)).2.1) mput_o rfl yv_X5_diskOf ml_X5_113 ⟨(Nat.le_of_ble_eq_true rfl), (Nat.le_of_ble_eq_true rfl)⟩ (Nat.le_of_ble_eq_true rfl) hl.1 ⟨(Nat.le_of_ble_eq_true rfl), (Nat.le_of_ble_eq_true rfl)⟩ rfl dX5_place_54 (fun v9 h9 n9 H locs hp hr hz hlo => ?_)
        obtain ⟨rfl, rfl, rfl⟩ := hp
        show W p l e _ s m _ below meth c H locs _ _ _ (F0 m 57 ls [.int (mf_diskOf R nd (si t 0 0) a)])
        exact h_iret X hr hz hlo (lfi (id (by unfold mf_place; rw [if_neg c6, if_pos c14, if_pos c20_0]))) (Nat.le_of_ble_eq_true rfl) (Nat.le_of_ble_eq_true rfl) dX5_place_57
      by_cases c20_1 : what = 1
      · refine lv_tableIn (off := 38) (tgt := 58) X.x X.b dX5_place_20 (by rw [c20_1]; decide) (by rw [c20_1]; decide) (by rw [c20_1]; rfl) (by decide) ?_
        refine lv_aload_n X.x X.b dX5_place_58 rfl (lv_at hl 0 rfl) ?_
        refine lv_iload_n X.x X.b dX5_place_59 rfl (lv_at hl 1 rfl) ?_
        refine h_callV X hr hz hlo (rest := []) (mc_rowOf l D H0 b R nd (si t 0 0) h0 n a hnd (MG_gv (R := R) (nd := nd) (t := si t 0 0) hI (hpl c6 c14)).1) mput_o rfl yv_X5_rowOf ml_X5_107 ⟨(Nat.le_of_ble_eq_true rfl), (Nat.le_of_ble_eq_true rfl)⟩ (Nat.le_of_ble_eq_true rfl) hl.1 ⟨(Nat.le_of_ble_eq_true rfl), (Nat.le_of_ble_eq_true rfl)⟩ rfl dX5_place_60 (fun v9 h9 n9 H locs hp hr hz hlo => ?_)
        obtain ⟨rfl, rfl, rfl⟩ := hp
        show W p l e _ s m _ below meth c H locs _ _ _ (F0 m 63 ls [.int (mf_rowOf R nd (si t 0 0) a)])
        exact h_iret X hr hz hlo (lfi (id (by unfold mf_place; rw [if_neg c6, if_pos c14, if_neg c20_0, if_pos c20_1]))) (Nat.le_of_ble_eq_true rfl) (Nat.le_of_ble_eq_true rfl) dX5_place_63
      by_cases c20_2 : what = 2
      · refine lv_tableIn (off := 44) (tgt := 64) X.x X.b dX5_place_20 (by rw [c20_2]; decide) (by rw [c20_2]; decide) (by rw [c20_2]; rfl) (by decide) ?_
        refine lv_aload_n X.x X.b dX5_place_64 rfl (lv_at hl 0 rfl) ?_
        refine lv_iload_n X.x X.b dX5_place_65 rfl (lv_at hl 1 rfl) ?_
        refine h_callV X hr hz hlo (rest := []) (mc_parityOf l D H0 b R nd (si t 0 0) h0 n a hnd (MG_gv (R := R) (nd := nd) (t := si t 0 0) hI (hpl c6 c14)).1 (MG_gv (R := R) (nd := nd) (t := si t 0 0) hI (hpl c6 c14)).2.1) mput_o rfl yv_X5_parityOf ml_X5_110 ⟨(Nat.le_of_ble_eq_true rfl), (Nat.le_of_ble_eq_true rfl)⟩ (Nat.le_of_ble_eq_true rfl) hl.1 ⟨(Nat.le_of_ble_eq_true rfl), (Nat.le_of_ble_eq_true rfl)⟩ rfl dX5_place_66 (fun v9 h9 n9 H locs hp hr hz hlo => ?_)
        obtain ⟨rfl, rfl, rfl⟩ := hp
        show W p l e _ s m _ below meth c H locs _ _ _ (F0 m 69 ls [.int (mf_parityOf R nd (si t 0 0) a)])
        exact h_iret X hr hz hlo (lfi (id (by unfold mf_place; rw [if_neg c6, if_pos c14, if_neg c20_0, if_neg c20_1, if_pos c20_2]))) (Nat.le_of_ble_eq_true rfl) (Nat.le_of_ble_eq_true rfl) dX5_place_69
      by_cases c20_3 : what = 3
      · refine lv_tableIn (off := 50) (tgt := 70) X.x X.b dX5_place_20 (by rw [c20_3]; decide) (by rw [c20_3]; decide) (by rw [c20_3]; rfl) (by decide) ?_
        refine lv_aload_n X.x X.b dX5_place_70 rfl (lv_at hl 0 rfl) ?_
        refine lv_iload_n X.x X.b dX5_place_71 rfl (lv_at hl 1 rfl) ?_
        refine h_callV X hr hz hlo (rest := []) (mc_isByM l D H0 b R nd (si t 0 0) h0 n a hnd ) mput_o rfl yv_X5_isByM ml_X5_100 ⟨(Nat.le_of_ble_eq_true rfl), (Nat.le_of_ble_eq_true rfl)⟩ (Nat.le_of_ble_eq_true rfl) hl.1 ⟨(Nat.le_of_ble_eq_true rfl), (Nat.le_of_ble_eq_true rfl)⟩ rfl dX5_place_72 (fun v9 h9 n9 H locs hp hr hz hlo => ?_)
        obtain ⟨rfl, rfl, rfl⟩ := hp
        show W p l e _ s m _ below meth c H locs _ _ _ (F0 m 75 ls [.int (mf_isByM R nd (si t 0 0) a)])
        refine lv_if_eq (tgt := 82) X.x X.b dX5_place_75 (by decide) (fun c75 => ?_) (fun c75 => ?_)
        · refine lv_iconst (v := 0) X.x X.b dX5_place_82 (by decide) ?_
          exact h_iret X hr hz hlo (lfi (id (by unfold mf_place; rw [if_neg c6, if_pos c14, if_neg c20_0, if_neg c20_1, if_neg c20_2, if_pos c20_3, if_pos c75]))) (Nat.le_of_ble_eq_true rfl) (Nat.le_of_ble_eq_true rfl) dX5_place_83
        · refine lv_iconst (v := 1) X.x X.b dX5_place_78 (by decide) ?_
          refine lv_goto (tgt := 83) X.x X.b dX5_place_79 (by decide) ?_
          exact h_iret X hr hz hlo (lfi (id (by unfold mf_place; rw [if_neg c6, if_pos c14, if_neg c20_0, if_neg c20_1, if_neg c20_2, if_pos c20_3, if_neg c75]))) (Nat.le_of_ble_eq_true rfl) (Nat.le_of_ble_eq_true rfl) dX5_place_83
      refine lv_tableOut (tgt := 84) X.x X.b dX5_place_20 (tbo (N := 3) (by intro i9 h9; match i9, h9 with | 0, _ => exact c20_0 | 1, _ => exact c20_1 | 2, _ => exact c20_2 | 3, _ => exact c20_3 | (k9 + 4), h9 => omega) (by decide)) (by decide) ?_
      refine lv_iconst (v := -1) X.x X.b dX5_place_84 (by decide) ?_
      exact h_iret X hr hz hlo (lfi (id (by unfold mf_place; rw [if_neg c6, if_pos c14, if_neg c20_0, if_neg c20_1, if_neg c20_2, if_neg c20_3]))) (Nat.le_of_ble_eq_true rfl) (Nat.le_of_ble_eq_true rfl) dX5_place_85
    · refine lv_iconst (v := -1) X.x X.b dX5_place_17 (by decide) ?_
      exact h_iret X hr hz hlo (lfi (id (by unfold mf_place; rw [if_neg c6, if_neg c14]))) (Nat.le_of_ble_eq_true rfl) (Nat.le_of_ble_eq_true rfl) dX5_place_18

def mf_disk (R nd : Nat) (t : MS) (disk : Int32) (what : Int32) : Int32 × MS :=
  if disk < 0 then
    ((-1), si t 0 0)
  else
    if disk < (nI nd) then
      if (t.2.1 0 disk.toNatClampNeg) = 1 then
        if what = 0 then
          (t.2.1 0 disk.toNatClampNeg, si t 0 0)
        else
          if what = 1 then
            if (t.1 3) ≤ disk then
              (1, si t 0 0)
            else
              (0, si t 0 0)
          else
            if what = 2 then
              (t.2.1 1 disk.toNatClampNeg, si t 0 0)
            else
              if what = 3 then
                ((-1), si t 0 0)
              else
                if what = 4 then
                  ((-1), si t 0 0)
                else
                  if what = 5 then
                    ((-1), si t 0 0)
                  else
                    ((-1), si t 0 0)
      else
        if what = 0 then
          (t.2.1 0 disk.toNatClampNeg, si t 0 0)
        else
          if what = 1 then
            if (t.1 3) ≤ disk then
              (1, si t 0 0)
            else
              (0, si t 0 0)
          else
            if what = 2 then
              (t.2.1 1 disk.toNatClampNeg, si t 0 0)
            else
              if what = 3 then
                (t.2.1 2 disk.toNatClampNeg, si t 0 0)
              else
                if what = 4 then
                  (t.2.1 6 disk.toNatClampNeg, si t 0 0)
                else
                  if what = 5 then
                    if (t.2.1 9 disk.toNatClampNeg) ≤ 0 then
                      (0, si t 0 0)
                    else
                      (1, si t 0 0)
                  else
                    ((-1), si t 0 0)
    else
      ((-1), si t 0 0)
set_option maxRecDepth 20000 in
set_option maxHeartbeats 4000000 in
theorem mc_disk (l : Launch) (D : hD) (H0 : Heap) (b R nd : Nat) (t : MS) (h0 : hH) (n : Nat) (disk : Int32) (what : Int32) (hnd : nd ≤ 10)   : cM l D H0 yX5_disk cX5_disk 4 (some .int) 0 0 0 0 [.ref b, .int disk, .int what] (mput b R nd t h0) n (cE (some (.int (mf_disk R nd t disk what).1)) (mput b R nd (mf_disk R nd t disk what).2 h0) n) := by
  refine h_met (by decide) (Nat.le_of_ble_eq_true rfl) ?_
  intro p e s m below meth c H ls X hnm hr hz hl
  have hl : lv_has ls 4 [(0, .ref b), (1, .int disk), (2, .int what)] := hl
  have hlo : hL H0 ([] : List Loc) := hL.nil
  refine lv_aload_n X.x X.b dX5_disk_0 rfl (lv_at hl 0 rfl) ?_
  refine lv_iconst (v := 0) X.x X.b dX5_disk_1 (by decide) ?_
  refine h_put X hr hz hlo fd_X5_74 tyX5 tyX5_ok nmX5 rfl mput_o (v := .int 0) rfl rfl (Nat.le_of_ble_eq_true rfl) dX5_disk_2 (fun H locs hr hz hlo => ?_)
  rw [mput_s0] at hr
  refine lv_iload_n X.x X.b dX5_disk_5 rfl (lv_at hl 1 rfl) ?_
  refine lv_if_lt (tgt := 17) X.x X.b dX5_disk_6 (by decide) (fun c6 => ?_) (fun c6 => ?_)
  · refine lv_iconst (v := -1) X.x X.b dX5_disk_17 (by decide) ?_
    exact h_iret X hr hz hlo (lfi (id (by unfold mf_disk; rw [if_pos c6]))) (Nat.le_of_ble_eq_true rfl) (Nat.le_of_ble_eq_true rfl) dX5_disk_18
  · refine lv_iload_n X.x X.b dX5_disk_9 rfl (lv_at hl 1 rfl) ?_
    refine lv_aload_n X.x X.b dX5_disk_10 rfl (lv_at hl 0 rfl) ?_
    refine h_get X hr fd_X5_58 mput_o (v := .int (nI nd)) rfl dX5_disk_11 ?_
    refine lv_icmp_lt (tgt := 19) X.x X.b dX5_disk_14 (by decide) (fun c14 => ?_) (fun c14 => ?_)
    · refine lv_aload_n X.x X.b dX5_disk_19 rfl (lv_at hl 0 rfl) ?_
      refine h_get X hr fd_X5_9 mput_o (v := .ref (b + 1)) rfl dX5_disk_20 ?_
      refine lv_iload_n X.x X.b dX5_disk_23 rfl (lv_at hl 1 rfl) ?_
      refine h_iald X hr mput_1 (ix_lt c6 c14 hnd (by decide)) (v := .int (t.2.1 0 disk.toNatClampNeg)) rfl dX5_disk_24 ?_
      refine lv_iconst (v := 1) X.x X.b dX5_disk_25 (by decide) ?_
      refine lv_icmp_eq (tgt := 33) X.x X.b dX5_disk_26 (by decide) (fun c26 => ?_) (fun c26 => ?_)
      · refine lv_iconst (v := 0) X.x X.b dX5_disk_33 (by decide) ?_
        refine lv_istore_n (lv' := [(3, .int 0), (0, .ref b), (1, .int disk), (2, .int what)]) X.x X.b dX5_disk_34 rfl hl (by decide) rfl (fun ls hl => ?_)
        refine lv_iload_n X.x X.b dX5_disk_35 rfl (lv_at hl 3 rfl) ?_
        by_cases c36_0 : what = 0
        · refine lv_tableIn (off := 40) (tgt := 76) X.x X.b dX5_disk_36 (by rw [c36_0]; decide) (by rw [c36_0]; decide) (by rw [c36_0]; rfl) (by decide) ?_
          refine lv_aload_n X.x X.b dX5_disk_76 rfl (lv_at hl 1 rfl) ?_
          refine h_get X hr fd_X5_9 mput_o (v := .ref (b + 1)) rfl dX5_disk_77 ?_
          refine lv_iload_n X.x X.b dX5_disk_80 rfl (lv_at hl 2 rfl) ?_
          refine h_iald X hr mput_1 (ix_lt c6 c14 hnd (by decide)) (v := .int (t.2.1 0 disk.toNatClampNeg)) rfl dX5_disk_81 ?_
          exact h_iret X hr hz hlo (lfi (id (by unfold mf_disk; rw [if_neg c6, if_pos c14, if_pos c26, if_pos c36_0]))) (Nat.le_of_ble_eq_true rfl) (Nat.le_of_ble_eq_true rfl) dX5_disk_82
        by_cases c36_1 : what = 1
        · refine lv_tableIn (off := 47) (tgt := 83) X.x X.b dX5_disk_36 (by rw [c36_1]; decide) (by rw [c36_1]; decide) (by rw [c36_1]; rfl) (by decide) ?_
          refine lv_iload_n X.x X.b dX5_disk_83 rfl (lv_at hl 2 rfl) ?_
          refine lv_aload_n X.x X.b dX5_disk_84 rfl (lv_at hl 1 rfl) ?_
          refine h_get X hr fd_X5_67 mput_o (v := .int (t.1 3)) rfl dX5_disk_85 ?_
          refine lv_icmp_ge (tgt := 95) X.x X.b dX5_disk_88 (by decide) (fun c88 => ?_) (fun c88 => ?_)
          · refine lv_iconst (v := 1) X.x X.b dX5_disk_95 (by decide) ?_
            exact h_iret X hr hz hlo (lfi (id (by unfold mf_disk; rw [if_neg c6, if_pos c14, if_pos c26, if_neg c36_0, if_pos c36_1, if_pos c88]))) (Nat.le_of_ble_eq_true rfl) (Nat.le_of_ble_eq_true rfl) dX5_disk_96
          · refine lv_iconst (v := 0) X.x X.b dX5_disk_91 (by decide) ?_
            refine lv_goto (tgt := 96) X.x X.b dX5_disk_92 (by decide) ?_
            exact h_iret X hr hz hlo (lfi (id (by unfold mf_disk; rw [if_neg c6, if_pos c14, if_pos c26, if_neg c36_0, if_pos c36_1, if_neg c88]))) (Nat.le_of_ble_eq_true rfl) (Nat.le_of_ble_eq_true rfl) dX5_disk_96
        by_cases c36_2 : what = 2
        · refine lv_tableIn (off := 61) (tgt := 97) X.x X.b dX5_disk_36 (by rw [c36_2]; decide) (by rw [c36_2]; decide) (by rw [c36_2]; rfl) (by decide) ?_
          refine lv_aload_n X.x X.b dX5_disk_97 rfl (lv_at hl 1 rfl) ?_
          refine h_get X hr fd_X5_13 mput_o (v := .ref (b + 2)) rfl dX5_disk_98 ?_
          refine lv_iload_n X.x X.b dX5_disk_101 rfl (lv_at hl 2 rfl) ?_
          refine h_iald X hr mput_2 (ix_lt c6 c14 hnd (by decide)) (v := .int (t.2.1 1 disk.toNatClampNeg)) rfl dX5_disk_102 ?_
          exact h_iret X hr hz hlo (lfi (id (by unfold mf_disk; rw [if_neg c6, if_pos c14, if_pos c26, if_neg c36_0, if_neg c36_1, if_pos c36_2]))) (Nat.le_of_ble_eq_true rfl) (Nat.le_of_ble_eq_true rfl) dX5_disk_103
        by_cases c36_3 : what = 3
        · refine lv_tableIn (off := 68) (tgt := 104) X.x X.b dX5_disk_36 (by rw [c36_3]; decide) (by rw [c36_3]; decide) (by rw [c36_3]; rfl) (by decide) ?_
          refine lv_iload_n X.x X.b dX5_disk_104 rfl (lv_at hl 0 rfl) ?_
          refine lv_if_eq (tgt := 117) X.x X.b dX5_disk_105 (by decide) (fun c105 => ?_) (fun c105 => ?_)
          · refine lv_iconst (v := -1) X.x X.b dX5_disk_117 (by decide) ?_
            exact h_iret X hr hz hlo (lfi (id (by unfold mf_disk; rw [if_neg c6, if_pos c14, if_pos c26, if_neg c36_0, if_neg c36_1, if_neg c36_2, if_pos c36_3]))) (Nat.le_of_ble_eq_true rfl) (Nat.le_of_ble_eq_true rfl) dX5_disk_118
          · exact absurd (by decide) c105
        by_cases c36_4 : what = 4
        · refine lv_tableIn (off := 83) (tgt := 119) X.x X.b dX5_disk_36 (by rw [c36_4]; decide) (by rw [c36_4]; decide) (by rw [c36_4]; rfl) (by decide) ?_
          refine lv_iload_n X.x X.b dX5_disk_119 rfl (lv_at hl 0 rfl) ?_
          refine lv_if_eq (tgt := 132) X.x X.b dX5_disk_120 (by decide) (fun c120 => ?_) (fun c120 => ?_)
          · refine lv_iconst (v := -1) X.x X.b dX5_disk_132 (by decide) ?_
            exact h_iret X hr hz hlo (lfi (id (by unfold mf_disk; rw [if_neg c6, if_pos c14, if_pos c26, if_neg c36_0, if_neg c36_1, if_neg c36_2, if_neg c36_3, if_pos c36_4]))) (Nat.le_of_ble_eq_true rfl) (Nat.le_of_ble_eq_true rfl) dX5_disk_133
          · exact absurd (by decide) c120
        by_cases c36_5 : what = 5
        · refine lv_tableIn (off := 98) (tgt := 134) X.x X.b dX5_disk_36 (by rw [c36_5]; decide) (by rw [c36_5]; decide) (by rw [c36_5]; rfl) (by decide) ?_
          refine lv_iload_n X.x X.b dX5_disk_134 rfl (lv_at hl 0 rfl) ?_
          refine lv_if_ne (tgt := 142) X.x X.b dX5_disk_135 (by decide) (fun c135 => ?_) (fun c135 => ?_)
          · exact absurd (by decide) c135
          · refine lv_iconst (v := -1) X.x X.b dX5_disk_138 (by decide) ?_
            refine lv_goto (tgt := 156) X.x X.b dX5_disk_139 (by decide) ?_
            exact h_iret X hr hz hlo (lfi (id (by unfold mf_disk; rw [if_neg c6, if_pos c14, if_pos c26, if_neg c36_0, if_neg c36_1, if_neg c36_2, if_neg c36_3, if_neg c36_4, if_pos c36_5]))) (Nat.le_of_ble_eq_true rfl) (Nat.le_of_ble_eq_true rfl) dX5_disk_156
        refine lv_tableOut (tgt := 157) X.x X.b dX5_disk_36 (tbo (N := 5) (by intro i9 h9; match i9, h9 with | 0, _ => exact c36_0 | 1, _ => exact c36_1 | 2, _ => exact c36_2 | 3, _ => exact c36_3 | 4, _ => exact c36_4 | 5, _ => exact c36_5 | (k9 + 6), h9 => omega) (by decide)) (by decide) ?_
        refine lv_iconst (v := -1) X.x X.b dX5_disk_157 (by decide) ?_
        exact h_iret X hr hz hlo (lfi (id (by unfold mf_disk; rw [if_neg c6, if_pos c14, if_pos c26, if_neg c36_0, if_neg c36_1, if_neg c36_2, if_neg c36_3, if_neg c36_4, if_neg c36_5]))) (Nat.le_of_ble_eq_true rfl) (Nat.le_of_ble_eq_true rfl) dX5_disk_158
      · refine lv_iconst (v := 1) X.x X.b dX5_disk_29 (by decide) ?_
        refine lv_goto (tgt := 34) X.x X.b dX5_disk_30 (by decide) ?_
        refine lv_istore_n (lv' := [(3, .int 1), (0, .ref b), (1, .int disk), (2, .int what)]) X.x X.b dX5_disk_34 rfl hl (by decide) rfl (fun ls hl => ?_)
        refine lv_iload_n X.x X.b dX5_disk_35 rfl (lv_at hl 3 rfl) ?_
        by_cases c36_0 : what = 0
        · refine lv_tableIn (off := 40) (tgt := 76) X.x X.b dX5_disk_36 (by rw [c36_0]; decide) (by rw [c36_0]; decide) (by rw [c36_0]; rfl) (by decide) ?_
          refine lv_aload_n X.x X.b dX5_disk_76 rfl (lv_at hl 1 rfl) ?_
          refine h_get X hr fd_X5_9 mput_o (v := .ref (b + 1)) rfl dX5_disk_77 ?_
          refine lv_iload_n X.x X.b dX5_disk_80 rfl (lv_at hl 2 rfl) ?_
          refine h_iald X hr mput_1 (ix_lt c6 c14 hnd (by decide)) (v := .int (t.2.1 0 disk.toNatClampNeg)) rfl dX5_disk_81 ?_
          exact h_iret X hr hz hlo (lfi (id (by unfold mf_disk; rw [if_neg c6, if_pos c14, if_neg c26, if_pos c36_0]))) (Nat.le_of_ble_eq_true rfl) (Nat.le_of_ble_eq_true rfl) dX5_disk_82
        by_cases c36_1 : what = 1
        · refine lv_tableIn (off := 47) (tgt := 83) X.x X.b dX5_disk_36 (by rw [c36_1]; decide) (by rw [c36_1]; decide) (by rw [c36_1]; rfl) (by decide) ?_
          refine lv_iload_n X.x X.b dX5_disk_83 rfl (lv_at hl 2 rfl) ?_
          refine lv_aload_n X.x X.b dX5_disk_84 rfl (lv_at hl 1 rfl) ?_
          refine h_get X hr fd_X5_67 mput_o (v := .int (t.1 3)) rfl dX5_disk_85 ?_
          refine lv_icmp_ge (tgt := 95) X.x X.b dX5_disk_88 (by decide) (fun c88 => ?_) (fun c88 => ?_)
          · refine lv_iconst (v := 1) X.x X.b dX5_disk_95 (by decide) ?_
            exact h_iret X hr hz hlo (lfi (id (by unfold mf_disk; rw [if_neg c6, if_pos c14, if_neg c26, if_neg c36_0, if_pos c36_1, if_pos c88]))) (Nat.le_of_ble_eq_true rfl) (Nat.le_of_ble_eq_true rfl) dX5_disk_96
          · refine lv_iconst (v := 0) X.x X.b dX5_disk_91 (by decide) ?_
            refine lv_goto (tgt := 96) X.x X.b dX5_disk_92 (by decide) ?_
            exact h_iret X hr hz hlo (lfi (id (by unfold mf_disk; rw [if_neg c6, if_pos c14, if_neg c26, if_neg c36_0, if_pos c36_1, if_neg c88]))) (Nat.le_of_ble_eq_true rfl) (Nat.le_of_ble_eq_true rfl) dX5_disk_96
        by_cases c36_2 : what = 2
        · refine lv_tableIn (off := 61) (tgt := 97) X.x X.b dX5_disk_36 (by rw [c36_2]; decide) (by rw [c36_2]; decide) (by rw [c36_2]; rfl) (by decide) ?_
          refine lv_aload_n X.x X.b dX5_disk_97 rfl (lv_at hl 1 rfl) ?_
          refine h_get X hr fd_X5_13 mput_o (v := .ref (b + 2)) rfl dX5_disk_98 ?_
          refine lv_iload_n X.x X.b dX5_disk_101 rfl (lv_at hl 2 rfl) ?_
          refine h_iald X hr mput_2 (ix_lt c6 c14 hnd (by decide)) (v := .int (t.2.1 1 disk.toNatClampNeg)) rfl dX5_disk_102 ?_
          exact h_iret X hr hz hlo (lfi (id (by unfold mf_disk; rw [if_neg c6, if_pos c14, if_neg c26, if_neg c36_0, if_neg c36_1, if_pos c36_2]))) (Nat.le_of_ble_eq_true rfl) (Nat.le_of_ble_eq_true rfl) dX5_disk_103
        by_cases c36_3 : what = 3
        · refine lv_tableIn (off := 68) (tgt := 104) X.x X.b dX5_disk_36 (by rw [c36_3]; decide) (by rw [c36_3]; decide) (by rw [c36_3]; rfl) (by decide) ?_
          refine lv_iload_n X.x X.b dX5_disk_104 rfl (lv_at hl 0 rfl) ?_
          refine lv_if_eq (tgt := 117) X.x X.b dX5_disk_105 (by decide) (fun c105 => ?_) (fun c105 => ?_)
          · exact absurd c105 (by decide)
          · refine lv_aload_n X.x X.b dX5_disk_108 rfl (lv_at hl 1 rfl) ?_
            refine h_get X hr fd_X5_16 mput_o (v := .ref (b + 3)) rfl dX5_disk_109 ?_
            refine lv_iload_n X.x X.b dX5_disk_112 rfl (lv_at hl 2 rfl) ?_
            refine h_iald X hr mput_3 (ix_lt c6 c14 hnd (by decide)) (v := .int (t.2.1 2 disk.toNatClampNeg)) rfl dX5_disk_113 ?_
            refine lv_goto (tgt := 118) X.x X.b dX5_disk_114 (by decide) ?_
            exact h_iret X hr hz hlo (lfi (id (by unfold mf_disk; rw [if_neg c6, if_pos c14, if_neg c26, if_neg c36_0, if_neg c36_1, if_neg c36_2, if_pos c36_3]))) (Nat.le_of_ble_eq_true rfl) (Nat.le_of_ble_eq_true rfl) dX5_disk_118
        by_cases c36_4 : what = 4
        · refine lv_tableIn (off := 83) (tgt := 119) X.x X.b dX5_disk_36 (by rw [c36_4]; decide) (by rw [c36_4]; decide) (by rw [c36_4]; rfl) (by decide) ?_
          refine lv_iload_n X.x X.b dX5_disk_119 rfl (lv_at hl 0 rfl) ?_
          refine lv_if_eq (tgt := 132) X.x X.b dX5_disk_120 (by decide) (fun c120 => ?_) (fun c120 => ?_)
          · exact absurd c120 (by decide)
          · refine lv_aload_n X.x X.b dX5_disk_123 rfl (lv_at hl 1 rfl) ?_
            refine h_get X hr fd_X5_28 mput_o (v := .ref (b + 7)) rfl dX5_disk_124 ?_
            refine lv_iload_n X.x X.b dX5_disk_127 rfl (lv_at hl 2 rfl) ?_
            refine h_iald X hr mput_7 (ix_lt c6 c14 hnd (by decide)) (v := .int (t.2.1 6 disk.toNatClampNeg)) rfl dX5_disk_128 ?_
            refine lv_goto (tgt := 133) X.x X.b dX5_disk_129 (by decide) ?_
            exact h_iret X hr hz hlo (lfi (id (by unfold mf_disk; rw [if_neg c6, if_pos c14, if_neg c26, if_neg c36_0, if_neg c36_1, if_neg c36_2, if_neg c36_3, if_pos c36_4]))) (Nat.le_of_ble_eq_true rfl) (Nat.le_of_ble_eq_true rfl) dX5_disk_133
        by_cases c36_5 : what = 5
        · refine lv_tableIn (off := 98) (tgt := 134) X.x X.b dX5_disk_36 (by rw [c36_5]; decide) (by rw [c36_5]; decide) (by rw [c36_5]; rfl) (by decide) ?_
          refine lv_iload_n X.x X.b dX5_disk_134 rfl (lv_at hl 0 rfl) ?_
          refine lv_if_ne (tgt := 142) X.x X.b dX5_disk_135 (by decide) (fun c135 => ?_) (fun c135 => ?_)
          · refine lv_aload_n X.x X.b dX5_disk_142 rfl (lv_at hl 1 rfl) ?_
            refine h_get X hr fd_X5_37 mput_o (v := .ref (b + 10)) rfl dX5_disk_143 ?_
            refine lv_iload_n X.x X.b dX5_disk_146 rfl (lv_at hl 2 rfl) ?_
            refine h_iald X hr mput_10 (ix_lt c6 c14 hnd (by decide)) (v := .int (t.2.1 9 disk.toNatClampNeg)) rfl dX5_disk_147 ?_
            refine lv_if_le (tgt := 155) X.x X.b dX5_disk_148 (by decide) (fun c148 => ?_) (fun c148 => ?_)
            · refine lv_iconst (v := 0) X.x X.b dX5_disk_155 (by decide) ?_
              exact h_iret X hr hz hlo (lfi (id (by unfold mf_disk; rw [if_neg c6, if_pos c14, if_neg c26, if_neg c36_0, if_neg c36_1, if_neg c36_2, if_neg c36_3, if_neg c36_4, if_pos c36_5, if_pos c148]))) (Nat.le_of_ble_eq_true rfl) (Nat.le_of_ble_eq_true rfl) dX5_disk_156
            · refine lv_iconst (v := 1) X.x X.b dX5_disk_151 (by decide) ?_
              refine lv_goto (tgt := 156) X.x X.b dX5_disk_152 (by decide) ?_
              exact h_iret X hr hz hlo (lfi (id (by unfold mf_disk; rw [if_neg c6, if_pos c14, if_neg c26, if_neg c36_0, if_neg c36_1, if_neg c36_2, if_neg c36_3, if_neg c36_4, if_pos c36_5, if_neg c148]))) (Nat.le_of_ble_eq_true rfl) (Nat.le_of_ble_eq_true rfl) dX5_disk_156
          · exact absurd c135 (by decide)
        refine lv_tableOut (tgt := 157) X.x X.b dX5_disk_36 (tbo (N := 5) (by intro i9 h9; match i9, h9 with | 0, _ => exact c36_0 | 1, _ => exact c36_1 | 2, _ => exact c36_2 | 3, _ => exact c36_3 | 4, _ => exact c36_4 | 5, _ => exact c36_5 | (k9 + 6), h9 => omega) (by decide)) (by decide) ?_
        refine lv_iconst (v := -1) X.x X.b dX5_disk_157 (by decide) ?_
        exact h_iret X hr hz hlo (lfi (id (by unfold mf_disk; rw [if_neg c6, if_pos c14, if_neg c26, if_neg c36_0, if_neg c36_1, if_neg c36_2, if_neg c36_3, if_neg c36_4, if_neg c36_5]))) (Nat.le_of_ble_eq_true rfl) (Nat.le_of_ble_eq_true rfl) dX5_disk_158
    · refine lv_iconst (v := -1) X.x X.b dX5_disk_17 (by decide) ?_
      exact h_iret X hr hz hlo (lfi (id (by unfold mf_disk; rw [if_neg c6, if_neg c14]))) (Nat.le_of_ble_eq_true rfl) (Nat.le_of_ble_eq_true rfl) dX5_disk_18

def mf_count (R nd : Nat) (t : MS) (what : Int32) : Int32 × MS :=
  if what = 0 then
    (nI nd, si t 0 0)
  else
    if what = 1 then
      (t.1 2, si t 0 0)
    else
      if what = 2 then
        (t.1 3, si t 0 0)
      else
        if what = 3 then
          (t.1 4, si t 0 0)
        else
          if what = 4 then
            (mf_places R nd (si t 0 0), si t 0 0)
          else
            if what = 5 then
              if (t.1 5) = 0 then
                (0, si t 0 0)
              else
                (1, si t 0 0)
            else
              if what = 6 then
                if (mf_isReshaped R nd (si t 0 0)) = 0 then
                  (0, si t 0 0)
                else
                  (1, si t 0 0)
              else
                if what = 7 then
                  (mf_notLive R nd (si t 0 0), si t 0 0)
                else
                  if what = 8 then
                    (t.1 7, si t 0 0)
                  else
                    if what = 9 then
                      (t.1 1, si t 0 0)
                    else
                      if what = 10 then
                        (t.1 8, si t 0 0)
                      else
                        if what = 11 then
                          (t.1 9, si t 0 0)
                        else
                          if what = 12 then
                            (t.1 10, si t 0 0)
                          else
                            if what = 13 then
                              (t.1 11, si t 0 0)
                            else
                              if what = 14 then
                                (nI R, si t 0 0)
                              else
                                ((-1), si t 0 0)
set_option maxRecDepth 20000 in
set_option maxHeartbeats 4000000 in
theorem mc_count (l : Launch) (D : hD) (H0 : Heap) (b R nd : Nat) (t : MS) (h0 : hH) (n : Nat) (what : Int32) (hnd : nd ≤ 10)   : cM l D H0 yX5_count cX5_count 2 (some .int) 1 22 0 0 [.ref b, .int what] (mput b R nd t h0) n (cE (some (.int (mf_count R nd t what).1)) (mput b R nd (mf_count R nd t what).2 h0) n) := by
  refine h_met (by decide) (Nat.le_of_ble_eq_true rfl) ?_
  intro p e s m below meth c H ls X hnm hr hz hl
  have hl : lv_has ls 2 [(0, .ref b), (1, .int what)] := hl
  have hlo : hL H0 ([] : List Loc) := hL.nil
  refine lv_aload_n X.x X.b dX5_count_0 rfl (lv_at hl 0 rfl) ?_
  refine lv_iconst (v := 0) X.x X.b dX5_count_1 (by decide) ?_
  refine h_put X hr hz hlo fd_X5_74 tyX5 tyX5_ok nmX5 rfl mput_o (v := .int 0) rfl rfl (Nat.le_of_ble_eq_true rfl) dX5_count_2 (fun H locs hr hz hlo => ?_)
  rw [mput_s0] at hr
  refine lv_iload_n X.x X.b dX5_count_5 rfl (lv_at hl 1 rfl) ?_
  by_cases c6_0 : what = 0
  · refine lv_tableIn (off := 74) (tgt := 80) X.x X.b dX5_count_6 (by rw [c6_0]; decide) (by rw [c6_0]; decide) (by rw [c6_0]; rfl) (by decide) ?_
    refine lv_aload_n X.x X.b dX5_count_80 rfl (lv_at hl 0 rfl) ?_
    refine h_get X hr fd_X5_58 mput_o (v := .int (nI nd)) rfl dX5_count_81 ?_
    exact h_iret X hr hz hlo (lfi (id (by unfold mf_count; rw [if_pos c6_0]))) (Nat.le_of_ble_eq_true rfl) (Nat.le_of_ble_eq_true rfl) dX5_count_84
  by_cases c6_1 : what = 1
  · refine lv_tableIn (off := 79) (tgt := 85) X.x X.b dX5_count_6 (by rw [c6_1]; decide) (by rw [c6_1]; decide) (by rw [c6_1]; rfl) (by decide) ?_
    refine lv_aload_n X.x X.b dX5_count_85 rfl (lv_at hl 0 rfl) ?_
    refine h_get X hr fd_X5_64 mput_o (v := .int (t.1 2)) rfl dX5_count_86 ?_
    exact h_iret X hr hz hlo (lfi (id (by unfold mf_count; rw [if_neg c6_0, if_pos c6_1]))) (Nat.le_of_ble_eq_true rfl) (Nat.le_of_ble_eq_true rfl) dX5_count_89
  by_cases c6_2 : what = 2
  · refine lv_tableIn (off := 84) (tgt := 90) X.x X.b dX5_count_6 (by rw [c6_2]; decide) (by rw [c6_2]; decide) (by rw [c6_2]; rfl) (by decide) ?_
    refine lv_aload_n X.x X.b dX5_count_90 rfl (lv_at hl 0 rfl) ?_
    refine h_get X hr fd_X5_67 mput_o (v := .int (t.1 3)) rfl dX5_count_91 ?_
    exact h_iret X hr hz hlo (lfi (id (by unfold mf_count; rw [if_neg c6_0, if_neg c6_1, if_pos c6_2]))) (Nat.le_of_ble_eq_true rfl) (Nat.le_of_ble_eq_true rfl) dX5_count_94
  by_cases c6_3 : what = 3
  · refine lv_tableIn (off := 89) (tgt := 95) X.x X.b dX5_count_6 (by rw [c6_3]; decide) (by rw [c6_3]; decide) (by rw [c6_3]; rfl) (by decide) ?_
    refine lv_aload_n X.x X.b dX5_count_95 rfl (lv_at hl 0 rfl) ?_
    refine h_get X hr fd_X5_94 mput_o (v := .int (t.1 4)) rfl dX5_count_96 ?_
    exact h_iret X hr hz hlo (lfi (id (by unfold mf_count; rw [if_neg c6_0, if_neg c6_1, if_neg c6_2, if_pos c6_3]))) (Nat.le_of_ble_eq_true rfl) (Nat.le_of_ble_eq_true rfl) dX5_count_99
  by_cases c6_4 : what = 4
  · refine lv_tableIn (off := 94) (tgt := 100) X.x X.b dX5_count_6 (by rw [c6_4]; decide) (by rw [c6_4]; decide) (by rw [c6_4]; rfl) (by decide) ?_
    refine lv_aload_n X.x X.b dX5_count_100 rfl (lv_at hl 0 rfl) ?_
    refine h_callV X hr hz hlo (rest := []) (mc_places l D H0 b R nd (si t 0 0) h0 n  hnd ) mput_o rfl yv_X5_places ml_X5_120 ⟨(Nat.le_of_ble_eq_true rfl), (Nat.le_of_ble_eq_true rfl)⟩ (Nat.le_of_ble_eq_true rfl) hl.1 ⟨(Nat.le_of_ble_eq_true rfl), (Nat.le_of_ble_eq_true rfl)⟩ rfl dX5_count_101 (fun v9 h9 n9 H locs hp hr hz hlo => ?_)
    obtain ⟨rfl, rfl, rfl⟩ := hp
    show W p l e _ s m _ below meth c H locs _ _ _ (F0 m 104 ls [.int (mf_places R nd (si t 0 0))])
    exact h_iret X hr hz hlo (lfi (id (by unfold mf_count; rw [if_neg c6_0, if_neg c6_1, if_neg c6_2, if_neg c6_3, if_pos c6_4]))) (Nat.le_of_ble_eq_true rfl) (Nat.le_of_ble_eq_true rfl) dX5_count_104
  by_cases c6_5 : what = 5
  · refine lv_tableIn (off := 99) (tgt := 105) X.x X.b dX5_count_6 (by rw [c6_5]; decide) (by rw [c6_5]; decide) (by rw [c6_5]; rfl) (by decide) ?_
    refine lv_aload_n X.x X.b dX5_count_105 rfl (lv_at hl 0 rfl) ?_
    refine h_get X hr fd_X5_44 mput_o (v := .int (t.1 5)) rfl dX5_count_106 ?_
    refine lv_if_eq (tgt := 116) X.x X.b dX5_count_109 (by decide) (fun c109 => ?_) (fun c109 => ?_)
    · refine lv_iconst (v := 0) X.x X.b dX5_count_116 (by decide) ?_
      exact h_iret X hr hz hlo (lfi (id (by unfold mf_count; rw [if_neg c6_0, if_neg c6_1, if_neg c6_2, if_neg c6_3, if_neg c6_4, if_pos c6_5, if_pos c109]))) (Nat.le_of_ble_eq_true rfl) (Nat.le_of_ble_eq_true rfl) dX5_count_117
    · refine lv_iconst (v := 1) X.x X.b dX5_count_112 (by decide) ?_
      refine lv_goto (tgt := 117) X.x X.b dX5_count_113 (by decide) ?_
      exact h_iret X hr hz hlo (lfi (id (by unfold mf_count; rw [if_neg c6_0, if_neg c6_1, if_neg c6_2, if_neg c6_3, if_neg c6_4, if_pos c6_5, if_neg c109]))) (Nat.le_of_ble_eq_true rfl) (Nat.le_of_ble_eq_true rfl) dX5_count_117
  by_cases c6_6 : what = 6
  · refine lv_tableIn (off := 112) (tgt := 118) X.x X.b dX5_count_6 (by rw [c6_6]; decide) (by rw [c6_6]; decide) (by rw [c6_6]; rfl) (by decide) ?_
    refine lv_aload_n X.x X.b dX5_count_118 rfl (lv_at hl 0 rfl) ?_
    refine h_callV X hr hz hlo (rest := []) (mc_isReshaped l D H0 b R nd (si t 0 0) h0 n  hnd ) mput_o rfl yv_X5_isReshaped ml_X5_97 ⟨(Nat.le_of_ble_eq_true rfl), (Nat.le_of_ble_eq_true rfl)⟩ (Nat.le_of_ble_eq_true rfl) hl.1 ⟨(Nat.le_of_ble_eq_true rfl), (Nat.le_of_ble_eq_true rfl)⟩ rfl dX5_count_119 (fun v9 h9 n9 H locs hp hr hz hlo => ?_)
    obtain ⟨rfl, rfl, rfl⟩ := hp
    show W p l e _ s m _ below meth c H locs _ _ _ (F0 m 122 ls [.int (mf_isReshaped R nd (si t 0 0))])
    refine lv_if_eq (tgt := 129) X.x X.b dX5_count_122 (by decide) (fun c122 => ?_) (fun c122 => ?_)
    · refine lv_iconst (v := 0) X.x X.b dX5_count_129 (by decide) ?_
      exact h_iret X hr hz hlo (lfi (id (by unfold mf_count; rw [if_neg c6_0, if_neg c6_1, if_neg c6_2, if_neg c6_3, if_neg c6_4, if_neg c6_5, if_pos c6_6, if_pos c122]))) (Nat.le_of_ble_eq_true rfl) (Nat.le_of_ble_eq_true rfl) dX5_count_130
    · refine lv_iconst (v := 1) X.x X.b dX5_count_125 (by decide) ?_
      refine lv_goto (tgt := 130) X.x X.b dX5_count_126 (by decide) ?_
      exact h_iret X hr hz hlo (lfi (id (by unfold mf_count; rw [if_neg c6_0, if_neg c6_1, if_neg c6_2, if_neg c6_3, if_neg c6_4, if_neg c6_5, if_pos c6_6, if_neg c122]))) (Nat.le_of_ble_eq_true rfl) (Nat.le_of_ble_eq_true rfl) dX5_count_130
  by_cases c6_7 : what = 7
  · refine lv_tableIn (off := 125) (tgt := 131) X.x X.b dX5_count_6 (by rw [c6_7]; decide) (by rw [c6_7]; decide) (by rw [c6_7]; rfl) (by decide) ?_
    refine lv_aload_n X.x X.b dX5_count_131 rfl (lv_at hl 0 rfl) ?_
    refine h_callV X hr hz hlo (rest := []) (mc_notLive l D H0 b R nd (si t 0 0) h0 n  hnd ) mput_o rfl yv_X5_notLive ml_X5_154 ⟨(Nat.le_of_ble_eq_true rfl), (Nat.le_of_ble_eq_true rfl)⟩ (Nat.le_of_ble_eq_true rfl) hl.1 ⟨(Nat.le_of_ble_eq_true rfl), (Nat.le_of_ble_eq_true rfl)⟩ rfl dX5_count_132 (fun v9 h9 n9 H locs hp hr hz hlo => ?_)
    obtain ⟨rfl, rfl, rfl⟩ := hp
    show W p l e _ s m _ below meth c H locs _ _ _ (F0 m 135 ls [.int (mf_notLive R nd (si t 0 0))])
    exact h_iret X hr hz hlo (lfi (id (by unfold mf_count; rw [if_neg c6_0, if_neg c6_1, if_neg c6_2, if_neg c6_3, if_neg c6_4, if_neg c6_5, if_neg c6_6, if_pos c6_7]))) (Nat.le_of_ble_eq_true rfl) (Nat.le_of_ble_eq_true rfl) dX5_count_135
  by_cases c6_8 : what = 8
  · refine lv_tableIn (off := 130) (tgt := 136) X.x X.b dX5_count_6 (by rw [c6_8]; decide) (by rw [c6_8]; decide) (by rw [c6_8]; rfl) (by decide) ?_
    refine lv_aload_n X.x X.b dX5_count_136 rfl (lv_at hl 0 rfl) ?_
    refine h_get X hr fd_X5_80 mput_o (v := .int (t.1 7)) rfl dX5_count_137 ?_
    exact h_iret X hr hz hlo (lfi (id (by unfold mf_count; rw [if_neg c6_0, if_neg c6_1, if_neg c6_2, if_neg c6_3, if_neg c6_4, if_neg c6_5, if_neg c6_6, if_neg c6_7, if_pos c6_8]))) (Nat.le_of_ble_eq_true rfl) (Nat.le_of_ble_eq_true rfl) dX5_count_140
  by_cases c6_9 : what = 9
  · refine lv_tableIn (off := 135) (tgt := 141) X.x X.b dX5_count_6 (by rw [c6_9]; decide) (by rw [c6_9]; decide) (by rw [c6_9]; rfl) (by decide) ?_
    refine lv_aload_n X.x X.b dX5_count_141 rfl (lv_at hl 0 rfl) ?_
    refine h_get X hr fd_X5_61 mput_o (v := .int (t.1 1)) rfl dX5_count_142 ?_
    exact h_iret X hr hz hlo (lfi (id (by unfold mf_count; rw [if_neg c6_0, if_neg c6_1, if_neg c6_2, if_neg c6_3, if_neg c6_4, if_neg c6_5, if_neg c6_6, if_neg c6_7, if_neg c6_8, if_pos c6_9]))) (Nat.le_of_ble_eq_true rfl) (Nat.le_of_ble_eq_true rfl) dX5_count_145
  by_cases c6_10 : what = 10
  · refine lv_tableIn (off := 140) (tgt := 146) X.x X.b dX5_count_6 (by rw [c6_10]; decide) (by rw [c6_10]; decide) (by rw [c6_10]; rfl) (by decide) ?_
    refine lv_aload_n X.x X.b dX5_count_146 rfl (lv_at hl 0 rfl) ?_
    refine h_get X hr fd_X5_124 mput_o (v := .int (t.1 8)) rfl dX5_count_147 ?_
    exact h_iret X hr hz hlo (lfi (id (by unfold mf_count; rw [if_neg c6_0, if_neg c6_1, if_neg c6_2, if_neg c6_3, if_neg c6_4, if_neg c6_5, if_neg c6_6, if_neg c6_7, if_neg c6_8, if_neg c6_9, if_pos c6_10]))) (Nat.le_of_ble_eq_true rfl) (Nat.le_of_ble_eq_true rfl) dX5_count_150
  by_cases c6_11 : what = 11
  · refine lv_tableIn (off := 145) (tgt := 151) X.x X.b dX5_count_6 (by rw [c6_11]; decide) (by rw [c6_11]; decide) (by rw [c6_11]; rfl) (by decide) ?_
    refine lv_aload_n X.x X.b dX5_count_151 rfl (lv_at hl 0 rfl) ?_
    refine h_get X hr fd_X5_87 mput_o (v := .int (t.1 9)) rfl dX5_count_152 ?_
    exact h_iret X hr hz hlo (lfi (id (by unfold mf_count; rw [if_neg c6_0, if_neg c6_1, if_neg c6_2, if_neg c6_3, if_neg c6_4, if_neg c6_5, if_neg c6_6, if_neg c6_7, if_neg c6_8, if_neg c6_9, if_neg c6_10, if_pos c6_11]))) (Nat.le_of_ble_eq_true rfl) (Nat.le_of_ble_eq_true rfl) dX5_count_155
  by_cases c6_12 : what = 12
  · refine lv_tableIn (off := 150) (tgt := 156) X.x X.b dX5_count_6 (by rw [c6_12]; decide) (by rw [c6_12]; decide) (by rw [c6_12]; rfl) (by decide) ?_
    refine lv_aload_n X.x X.b dX5_count_156 rfl (lv_at hl 0 rfl) ?_
    refine h_get X hr fd_X5_142 mput_o (v := .int (t.1 10)) rfl dX5_count_157 ?_
    exact h_iret X hr hz hlo (lfi (id (by unfold mf_count; rw [if_neg c6_0, if_neg c6_1, if_neg c6_2, if_neg c6_3, if_neg c6_4, if_neg c6_5, if_neg c6_6, if_neg c6_7, if_neg c6_8, if_neg c6_9, if_neg c6_10, if_neg c6_11, if_pos c6_12]))) (Nat.le_of_ble_eq_true rfl) (Nat.le_of_ble_eq_true rfl) dX5_count_160
  by_cases c6_13 : what = 13
  · refine lv_tableIn (off := 155) (tgt := 161) X.x X.b dX5_count_6 (by rw [c6_13]; decide) (by rw [c6_13]; decide) (by rw [c6_13]; rfl) (by decide) ?_
    refine lv_aload_n X.x X.b dX5_count_161 rfl (lv_at hl 0 rfl) ?_
    refine h_get X hr fd_X5_77 mput_o (v := .int (t.1 11)) rfl dX5_count_162 ?_
    exact h_iret X hr hz hlo (lfi (id (by unfold mf_count; rw [if_neg c6_0, if_neg c6_1, if_neg c6_2, if_neg c6_3, if_neg c6_4, if_neg c6_5, if_neg c6_6, if_neg c6_7, if_neg c6_8, if_neg c6_9, if_neg c6_10, if_neg c6_11, if_neg c6_12, if_pos c6_13]))) (Nat.le_of_ble_eq_true rfl) (Nat.le_of_ble_eq_true rfl) dX5_count_165
  by_cases c6_14 : what = 14
  · refine lv_tableIn (off := 160) (tgt := 166) X.x X.b dX5_count_6 (by rw [c6_14]; decide) (by rw [c6_14]; decide) (by rw [c6_14]; rfl) (by decide) ?_
    refine lv_aload_n X.x X.b dX5_count_166 rfl (lv_at hl 0 rfl) ?_
    refine h_get X hr fd_X5_55 mput_o (v := .int (nI R)) rfl dX5_count_167 ?_
    exact h_iret X hr hz hlo (lfi (id (by unfold mf_count; rw [if_neg c6_0, if_neg c6_1, if_neg c6_2, if_neg c6_3, if_neg c6_4, if_neg c6_5, if_neg c6_6, if_neg c6_7, if_neg c6_8, if_neg c6_9, if_neg c6_10, if_neg c6_11, if_neg c6_12, if_neg c6_13, if_pos c6_14]))) (Nat.le_of_ble_eq_true rfl) (Nat.le_of_ble_eq_true rfl) dX5_count_170
  refine lv_tableOut (tgt := 171) X.x X.b dX5_count_6 (tbo (N := 14) (by intro i9 h9; match i9, h9 with | 0, _ => exact c6_0 | 1, _ => exact c6_1 | 2, _ => exact c6_2 | 3, _ => exact c6_3 | 4, _ => exact c6_4 | 5, _ => exact c6_5 | 6, _ => exact c6_6 | 7, _ => exact c6_7 | 8, _ => exact c6_8 | 9, _ => exact c6_9 | 10, _ => exact c6_10 | 11, _ => exact c6_11 | 12, _ => exact c6_12 | 13, _ => exact c6_13 | 14, _ => exact c6_14 | (k9 + 15), h9 => omega) (by decide)) (by decide) ?_
  refine lv_iconst (v := -1) X.x X.b dX5_count_171 (by decide) ?_
  exact h_iret X hr hz hlo (lfi (id (by unfold mf_count; rw [if_neg c6_0, if_neg c6_1, if_neg c6_2, if_neg c6_3, if_neg c6_4, if_neg c6_5, if_neg c6_6, if_neg c6_7, if_neg c6_8, if_neg c6_9, if_neg c6_10, if_neg c6_11, if_neg c6_12, if_neg c6_13, if_neg c6_14]))) (Nat.le_of_ble_eq_true rfl) (Nat.le_of_ble_eq_true rfl) dX5_count_172

def mg_sum_29 (R nd : Nat)  : Nat → Nat → Int64 → MS → Int64 × MS
  | 0, _, _, t1 => (0, t1)
  | j + 1, k, acc, t1 =>
    if (mf_places R nd t1) ≤ (nI k) then
      (acc, t1)
    else
      mg_sum_29 R nd  j (k + 1) ((31 * acc) + (t1.2.2 1 k)) t1
def mf_sum (R nd : Nat) (t : MS)  : Int64 × MS :=
  if (t.1 5) = 0 then
    (0, si t 0 1)
  else
    mg_sum_29 R nd  433 0 0 (si t 0 0)
set_option maxRecDepth 20000 in
set_option maxHeartbeats 4000000 in
theorem mc_sum (l : Launch) (D : hD) (H0 : Heap) (b R nd : Nat) (t : MS) (h0 : hH) (n : Nat)  (hnd : nd ≤ 10)  (P9 : Nat) (hP : P9 ≤ 432) (hp : mf_places R nd t = nI P9) : cM l D H0 yX5_sum cX5_sum 4 (some .long) 1 20 0 0 [.ref b] (mput b R nd t h0) n (cE (some (.long (mf_sum R nd t).1)) (mput b R nd (mf_sum R nd t).2 h0) n) := by
  refine h_met (by decide) (Nat.le_of_ble_eq_true rfl) ?_
  intro p e s m below meth c H ls X hnm hr hz hl
  have hl : lv_has ls 4 [(0, .ref b)] := hl
  have hlo : hL H0 ([] : List Loc) := hL.nil
  have loop29 : ∀ (j k : Nat) (acc : Int64) (t1 : MS) (hk : k ≤ P9) (hj : P9 < k + j) (hp1 : mf_places R nd t1 = nI P9) (hG : mf_sum R nd t = mg_sum_29 R nd  j k acc t1) (H : Heap) (locs : List Loc) (ls : Array Slot), hR D H0 (mput b R nd t1 h0) H → H.size = n → hL H0 locs → lv_has ls 4 [(3, .int (nI k)), (1, .long acc), (0, .ref b)] → W p l e (rmk 1 20 0 0) s m ([.ref b] : List Value).toArray below meth c H locs 0 0 (MQ below (cQ D H0 (cE (some (.long (mf_sum R nd t).1)) (mput b R nd (mf_sum R nd t).2 h0) n)) ([.ref b] : List Value).toArray s 0 0 (hF H0)) (F0 m 29 ls []) := by
    intro j
    induction j with
    | zero => intro k acc t1 hk hj; omega
    | succ j ih =>
      intro k acc t1 hk hj hp1 hG H locs ls hr hz hlo hl
      refine lv_iload_n X.x X.b dX5_sum_29 rfl (lv_at hl 0 rfl) ?_
      refine lv_aload_n X.x X.b dX5_sum_30 rfl (lv_at hl 2 rfl) ?_
      refine h_callV X hr hz hlo (rest := [.int (nI k)]) (mc_places l D H0 b R nd t1 h0 n  hnd ) mput_o rfl yv_X5_places ml_X5_120 ⟨(Nat.le_of_ble_eq_true rfl), (Nat.le_of_ble_eq_true rfl)⟩ (Nat.le_of_ble_eq_true rfl) hl.1 ⟨(Nat.le_of_ble_eq_true rfl), (Nat.le_of_ble_eq_true rfl)⟩ rfl dX5_sum_31 (fun v9 h9 n9 H locs hp hr hz hlo => ?_)
      obtain ⟨rfl, rfl, rfl⟩ := hp
      show W p l e _ s m _ below meth c H locs _ _ _ (F0 m 34 ls [.int (mf_places R nd t1), .int (nI k)])
      refine lv_icmp_ge (tgt := 56) X.x X.b dX5_sum_34 (by decide) (fun c34 => ?_) (fun c34 => ?_)
      · refine lv_lload_n X.x X.b dX5_sum_56 rfl (lv_at hl 1 rfl) ?_
        exact h_lret X hr hz hlo (lfl (hG.trans (by rw [mg_sum_29]; rw [if_pos c34]))) (Nat.le_of_ble_eq_true rfl) (Nat.le_of_ble_eq_true rfl) dX5_sum_57
      · have hk9 : k < P9 := nd_lt (by rw [← hp1]; exact c34) (by omega)
        refine lv_ldc2 (v := 31) X.x X.b X.ow (X.w kc_X5_157) dX5_sum_37 ?_
        refine lv_lload_n X.x X.b dX5_sum_40 rfl (lv_at hl 1 rfl) ?_
        refine lv_lmul X.x X.b dX5_sum_41 ?_
        refine lv_aload_n X.x X.b dX5_sum_42 rfl (lv_at hl 2 rfl) ?_
        refine h_get X hr fd_X5_52 mput_o (v := .ref (b + 12)) rfl dX5_sum_43 ?_
        refine lv_iload_n X.x X.b dX5_sum_46 rfl (lv_at hl 0 rfl) ?_
        refine h_lald X hr mput_12 (vp_in_nI (by omega) (by decide)) (v := .long (t1.2.2 1 k)) (by rw [nI_clamp (n := k) (by omega)]) dX5_sum_47 ?_
        refine lv_ladd X.x X.b dX5_sum_48 ?_
        refine lv_lstore_n (lv' := [(1, .long ((31 * acc) + (t1.2.2 1 k))), (3, .int (nI k)), (0, .ref b)]) X.x X.b dX5_sum_49 rfl hl (by decide) rfl (fun ls hl => ?_)
        refine lv_iinc (v := nI (k + 1)) (lv' := [(3, .int (nI (k + 1))), (1, .long ((31 * acc) + (t1.2.2 1 k))), (0, .ref b)]) X.x X.b dX5_sum_50 hl (k := 1) rfl (nI_1 k) (by decide) rfl (fun ls hl => ?_)
        refine lv_goto (tgt := 29) X.x X.b dX5_sum_53 (by decide) ?_
        exact ih (k + 1) ((31 * acc) + (t1.2.2 1 k)) t1 (by omega) (by omega) hp1 (hG.trans (by rw [mg_sum_29]; rw [if_neg c34])) _ _ _ hr hz hlo (lv_sub hl [0, 1, 2] rfl)
  refine lv_aload_n X.x X.b dX5_sum_0 rfl (lv_at hl 0 rfl) ?_
  refine lv_aload_n X.x X.b dX5_sum_1 rfl (lv_at hl 0 rfl) ?_
  refine h_get X hr fd_X5_44 mput_o (v := .int (t.1 5)) rfl dX5_sum_2 ?_
  refine lv_if_eq (tgt := 12) X.x X.b dX5_sum_5 (by decide) (fun c5 => ?_) (fun c5 => ?_)
  · refine lv_iconst (v := 1) X.x X.b dX5_sum_12 (by decide) ?_
    refine h_put X hr hz hlo fd_X5_74 tyX5 tyX5_ok nmX5 rfl mput_o (v := .int 1) rfl rfl (Nat.le_of_ble_eq_true rfl) dX5_sum_13 (fun H locs hr hz hlo => ?_)
    rw [mput_s0] at hr
    refine lv_aload_n X.x X.b dX5_sum_16 rfl (lv_at hl 0 rfl) ?_
    refine h_get X hr fd_X5_74 mput_o (v := .int 1) rfl dX5_sum_17 ?_
    refine lv_if_le (tgt := 25) X.x X.b dX5_sum_20 (by decide) (fun c20 => ?_) (fun c20 => ?_)
    · exact absurd c20 (by decide)
    · refine lv_lconst (v := 0) X.x X.b dX5_sum_23 (by decide) ?_
      exact h_lret X hr hz hlo (lfl (id (by unfold mf_sum; rw [if_pos c5]))) (Nat.le_of_ble_eq_true rfl) (Nat.le_of_ble_eq_true rfl) dX5_sum_24
  · refine lv_iconst (v := 0) X.x X.b dX5_sum_8 (by decide) ?_
    refine lv_goto (tgt := 13) X.x X.b dX5_sum_9 (by decide) ?_
    refine h_put X hr hz hlo fd_X5_74 tyX5 tyX5_ok nmX5 rfl mput_o (v := .int 0) rfl rfl (Nat.le_of_ble_eq_true rfl) dX5_sum_13 (fun H locs hr hz hlo => ?_)
    rw [mput_s0] at hr
    refine lv_aload_n X.x X.b dX5_sum_16 rfl (lv_at hl 0 rfl) ?_
    refine h_get X hr fd_X5_74 mput_o (v := .int 0) rfl dX5_sum_17 ?_
    refine lv_if_le (tgt := 25) X.x X.b dX5_sum_20 (by decide) (fun c20 => ?_) (fun c20 => ?_)
    · refine lv_lconst (v := 0) X.x X.b dX5_sum_25 (by decide) ?_
      refine lv_lstore_n (lv' := [(1, .long 0), (0, .ref b)]) X.x X.b dX5_sum_26 rfl hl (by decide) rfl (fun ls hl => ?_)
      refine lv_iconst (v := 0) X.x X.b dX5_sum_27 (by decide) ?_
      refine lv_istore_n (lv' := [(3, .int 0), (1, .long 0), (0, .ref b)]) X.x X.b dX5_sum_28 rfl hl (by decide) rfl (fun ls hl => ?_)
      have hl : lv_has ls 4 [(3, .int (nI 0)), (1, .long 0), (0, .ref b)] := by rw [nI_0]; exact hl
      exact loop29 433 0 0 (si t 0 0) (by omega) (by omega) hp (id (by unfold mf_sum; rw [if_neg c5])) _ _ _ hr hz hlo (lv_sub hl [0, 1, 2] rfl)
    · exact absurd (by decide) c20
