def mg_moves_2 (R nd : Nat)  : Nat → Nat → MS → Int32 × MS
  | 0, _, t1 => (0, t1)
  | j + 1, k, t1 =>
    if (t1.1 3) ≤ (nI k) then
      if ((t1.1 4) + 1) = (nI R) then
        if ((mf_sets R nd t1 (t1.1 3) (t1.1 3) 0 (-1)).1) = 0 then
          (0, (mf_sets R nd t1 (t1.1 3) (t1.1 3) 0 (-1)).2)
        else
          (2, si ((mf_sets R nd t1 (t1.1 3) (t1.1 3) 0 (-1)).2) 10 ((((mf_sets R nd t1 (t1.1 3) (t1.1 3) 0 (-1)).2).1 10) + 1))
      else
        if ((mf_sets R nd t1 (t1.1 2) (t1.1 3) ((t1.1 4) + 1) (-1)).1) = 0 then
          (0, (mf_sets R nd t1 (t1.1 2) (t1.1 3) ((t1.1 4) + 1) (-1)).2)
        else
          (1, si ((mf_sets R nd t1 (t1.1 2) (t1.1 3) ((t1.1 4) + 1) (-1)).2) 10 ((((mf_sets R nd t1 (t1.1 2) (t1.1 3) ((t1.1 4) + 1) (-1)).2).1 10) + 1))
    else
      if ((mf_block R nd t1 (nI k) (t1.1 4)).1) = 0 then
        (0, (mf_block R nd t1 (nI k) (t1.1 4)).2)
      else
        mg_moves_2 R nd  j (k + 1)  ((mf_block R nd t1 (nI k) (t1.1 4)).2)
def mf_moves (R nd : Nat) (t : MS)  : Int32 × MS :=
  mg_moves_2 R nd  11 0  t
set_option maxRecDepth 20000 in
set_option maxHeartbeats 4000000 in
theorem mc_moves (l : Launch) (D : hD) (H0 : Heap) (b R nd : Nat) (t : MS) (h0 : hH) (n : Nat)  (hnd : nd ≤ 10)  (hI0 : GV t) : cM l D H0 yX5_moves cX5_moves 3 (some .int) 3 67 0 0 [.ref b] (mput b R nd t h0) n (cE (some (.int (mf_moves R nd t).1)) (mput b R nd (mf_moves R nd t).2 h0) n) := by
  refine h_met (by decide) (Nat.le_of_ble_eq_true rfl) ?_
  intro p e s m below meth c H ls X hnm hr hz hl
  have hl : lv_has ls 3 [(0, .ref b)] := hl
  have hlo : hL H0 ([] : List Loc) := hL.nil
  obtain ⟨N9, M, hN9, hm, hb1, hb2, hb3, hM⟩ := hI0
  have loop2 : ∀ (j k : Nat)  (t1 : MS) (hk : k ≤ M) (hj : M < k + j) (hm1 : t1.1 3 = nI M) (hG : mf_moves R nd t = mg_moves_2 R nd  j k t1) (H : Heap) (locs : List Loc) (ls : Array Slot), hR D H0 (mput b R nd t1 h0) H → H.size = n → hL H0 locs → lv_has ls 3 [(1, .int (nI k)), (0, .ref b)] → W p l e (rmk 3 67 0 0) s m ([.ref b] : List Value).toArray below meth c H locs 0 0 (MQ below (cQ D H0 (cE (some (.int (mf_moves R nd t).1)) (mput b R nd (mf_moves R nd t).2 h0) n)) ([.ref b] : List Value).toArray s 0 0 (hF H0)) (F0 m 2 ls []) := by
    intro j
    induction j with
    | zero => intro k t1 hk hj; omega
    | succ j ih =>
      intro k t1 hk hj hm1 hG H locs ls hr hz hlo hl
      refine lv_iload_n X.x X.b dX5_moves_2 rfl (lv_at hl 0 rfl) ?_
      refine lv_aload_n X.x X.b dX5_moves_3 rfl (lv_at hl 1 rfl) ?_
      refine h_get X hr fd_X5_67 mput_o (v := .int (t1.1 3)) rfl dX5_moves_4 ?_
      refine lv_icmp_ge (tgt := 30) X.x X.b dX5_moves_7 (by decide) (fun c7 => ?_) (fun c7 => ?_)
      · refine lv_aload_n X.x X.b dX5_moves_30 rfl (lv_at hl 1 rfl) ?_
        refine h_get X hr fd_X5_94 mput_o (v := .int (t1.1 4)) rfl dX5_moves_31 ?_
        refine lv_iconst (v := 1) X.x X.b dX5_moves_34 (by decide) ?_
        refine lv_iadd X.x X.b dX5_moves_35 ?_
        refine lv_aload_n X.x X.b dX5_moves_36 rfl (lv_at hl 1 rfl) ?_
        refine h_get X hr fd_X5_55 mput_o (v := .int (nI R)) rfl dX5_moves_37 ?_
        refine lv_icmp_ne (tgt := 47) X.x X.b dX5_moves_40 (by decide) (fun c40 => ?_) (fun c40 => ?_)
        · refine lv_iconst (v := 0) X.x X.b dX5_moves_47 (by decide) ?_
          refine lv_istore_n (lv' := [(1, .int 0), (0, .ref b)]) X.x X.b dX5_moves_48 rfl hl (by decide) rfl (fun ls hl => ?_)
          refine lv_iload_n X.x X.b dX5_moves_49 rfl (lv_at hl 0 rfl) ?_
          refine lv_if_eq (tgt := 70) X.x X.b dX5_moves_50 (by decide) (fun c50 => ?_) (fun c50 => ?_)
          · refine lv_aload_n X.x X.b dX5_moves_70 rfl (lv_at hl 1 rfl) ?_
            refine lv_aload_n X.x X.b dX5_moves_71 rfl (lv_at hl 1 rfl) ?_
            refine h_get X hr fd_X5_64 mput_o (v := .int (t1.1 2)) rfl dX5_moves_72 ?_
            refine lv_aload_n X.x X.b dX5_moves_75 rfl (lv_at hl 1 rfl) ?_
            refine h_get X hr fd_X5_67 mput_o (v := .int (t1.1 3)) rfl dX5_moves_76 ?_
            refine lv_aload_n X.x X.b dX5_moves_79 rfl (lv_at hl 1 rfl) ?_
            refine h_get X hr fd_X5_94 mput_o (v := .int (t1.1 4)) rfl dX5_moves_80 ?_
            refine lv_iconst (v := 1) X.x X.b dX5_moves_83 (by decide) ?_
            refine lv_iadd X.x X.b dX5_moves_84 ?_
            refine lv_iconst (v := -1) X.x X.b dX5_moves_85 (by decide) ?_
            refine h_callV X hr hz hlo (rest := []) (mc_sets l D H0 b R nd t1 h0 n (t1.1 2) (t1.1 3) ((t1.1 4) + 1) (-1) hnd ) mput_o rfl yv_X5_sets ml_X5_138 ⟨(Nat.le_of_ble_eq_true rfl), (Nat.le_of_ble_eq_true rfl)⟩ (Nat.le_of_ble_eq_true rfl) hl.1 ⟨(Nat.le_of_ble_eq_true rfl), (Nat.le_of_ble_eq_true rfl)⟩ rfl dX5_moves_86 (fun v9 h9 n9 H locs hp hr hz hlo => ?_)
            obtain ⟨rfl, rfl, rfl⟩ := hp
            show W p l e _ s m _ below meth c H locs _ _ _ (F0 m 89 ls [.int ((mf_sets R nd t1 (t1.1 2) (t1.1 3) ((t1.1 4) + 1) (-1)).1)])
            refine lv_istore_n (lv' := [(2, .int ((mf_sets R nd t1 (t1.1 2) (t1.1 3) ((t1.1 4) + 1) (-1)).1)), (1, .int 0), (0, .ref b)]) X.x X.b dX5_moves_89 rfl hl (by decide) rfl (fun ls hl => ?_)
            refine lv_iload_n X.x X.b dX5_moves_90 rfl (lv_at hl 0 rfl) ?_
            refine lv_if_ne (tgt := 96) X.x X.b dX5_moves_91 (by decide) (fun c91 => ?_) (fun c91 => ?_)
            · refine lv_aload_n X.x X.b dX5_moves_96 rfl (lv_at hl 2 rfl) ?_
              refine lv_dup X.x X.b dX5_moves_97 rfl ?_
              refine h_get X hr fd_X5_142 mput_o (v := .int (((mf_sets R nd t1 (t1.1 2) (t1.1 3) ((t1.1 4) + 1) (-1)).2).1 10)) rfl dX5_moves_98 ?_
              refine lv_iconst (v := 1) X.x X.b dX5_moves_101 (by decide) ?_
              refine lv_iadd X.x X.b dX5_moves_102 ?_
              refine h_put X hr hz hlo fd_X5_142 tyX5 tyX5_ok nmX5 rfl mput_o (v := .int ((((mf_sets R nd t1 (t1.1 2) (t1.1 3) ((t1.1 4) + 1) (-1)).2).1 10) + 1)) rfl rfl (Nat.le_of_ble_eq_true rfl) dX5_moves_103 (fun H locs hr hz hlo => ?_)
              rw [mput_s10] at hr
              refine lv_iload_n X.x X.b dX5_moves_106 rfl (lv_at hl 1 rfl) ?_
              refine lv_if_eq (tgt := 114) X.x X.b dX5_moves_107 (by decide) (fun c107 => ?_) (fun c107 => ?_)
              · refine lv_iconst (v := 1) X.x X.b dX5_moves_114 (by decide) ?_
                exact h_iret X hr hz hlo (lfi (hG.trans (by rw [mg_moves_2]; rw [if_pos c7, if_neg c40, if_neg c91]))) (Nat.le_of_ble_eq_true rfl) (Nat.le_of_ble_eq_true rfl) dX5_moves_115
              · exact absurd (by decide) c107
            · refine lv_iconst (v := 0) X.x X.b dX5_moves_94 (by decide) ?_
              exact h_iret X hr hz hlo (lfi (hG.trans (by rw [mg_moves_2]; rw [if_pos c7, if_neg c40, if_pos c91]))) (Nat.le_of_ble_eq_true rfl) (Nat.le_of_ble_eq_true rfl) dX5_moves_95
          · exact absurd (by decide) c50
        · refine lv_iconst (v := 1) X.x X.b dX5_moves_43 (by decide) ?_
          refine lv_goto (tgt := 48) X.x X.b dX5_moves_44 (by decide) ?_
          refine lv_istore_n (lv' := [(1, .int 1), (0, .ref b)]) X.x X.b dX5_moves_48 rfl hl (by decide) rfl (fun ls hl => ?_)
          refine lv_iload_n X.x X.b dX5_moves_49 rfl (lv_at hl 0 rfl) ?_
          refine lv_if_eq (tgt := 70) X.x X.b dX5_moves_50 (by decide) (fun c50 => ?_) (fun c50 => ?_)
          · exact absurd c50 (by decide)
          · refine lv_aload_n X.x X.b dX5_moves_53 rfl (lv_at hl 1 rfl) ?_
            refine lv_aload_n X.x X.b dX5_moves_54 rfl (lv_at hl 1 rfl) ?_
            refine h_get X hr fd_X5_67 mput_o (v := .int (t1.1 3)) rfl dX5_moves_55 ?_
            refine lv_aload_n X.x X.b dX5_moves_58 rfl (lv_at hl 1 rfl) ?_
            refine h_get X hr fd_X5_67 mput_o (v := .int (t1.1 3)) rfl dX5_moves_59 ?_
            refine lv_iconst (v := 0) X.x X.b dX5_moves_62 (by decide) ?_
            refine lv_iconst (v := -1) X.x X.b dX5_moves_63 (by decide) ?_
            refine h_callV X hr hz hlo (rest := []) (mc_sets l D H0 b R nd t1 h0 n (t1.1 3) (t1.1 3) 0 (-1) hnd ) mput_o rfl yv_X5_sets ml_X5_138 ⟨(Nat.le_of_ble_eq_true rfl), (Nat.le_of_ble_eq_true rfl)⟩ (Nat.le_of_ble_eq_true rfl) hl.1 ⟨(Nat.le_of_ble_eq_true rfl), (Nat.le_of_ble_eq_true rfl)⟩ rfl dX5_moves_64 (fun v9 h9 n9 H locs hp hr hz hlo => ?_)
            obtain ⟨rfl, rfl, rfl⟩ := hp
            show W p l e _ s m _ below meth c H locs _ _ _ (F0 m 67 ls [.int ((mf_sets R nd t1 (t1.1 3) (t1.1 3) 0 (-1)).1)])
            refine lv_goto (tgt := 89) X.x X.b dX5_moves_67 (by decide) ?_
            refine lv_istore_n (lv' := [(2, .int ((mf_sets R nd t1 (t1.1 3) (t1.1 3) 0 (-1)).1)), (1, .int 1), (0, .ref b)]) X.x X.b dX5_moves_89 rfl hl (by decide) rfl (fun ls hl => ?_)
            refine lv_iload_n X.x X.b dX5_moves_90 rfl (lv_at hl 0 rfl) ?_
            refine lv_if_ne (tgt := 96) X.x X.b dX5_moves_91 (by decide) (fun c91 => ?_) (fun c91 => ?_)
            · refine lv_aload_n X.x X.b dX5_moves_96 rfl (lv_at hl 2 rfl) ?_
              refine lv_dup X.x X.b dX5_moves_97 rfl ?_
              refine h_get X hr fd_X5_142 mput_o (v := .int (((mf_sets R nd t1 (t1.1 3) (t1.1 3) 0 (-1)).2).1 10)) rfl dX5_moves_98 ?_
              refine lv_iconst (v := 1) X.x X.b dX5_moves_101 (by decide) ?_
              refine lv_iadd X.x X.b dX5_moves_102 ?_
              refine h_put X hr hz hlo fd_X5_142 tyX5 tyX5_ok nmX5 rfl mput_o (v := .int ((((mf_sets R nd t1 (t1.1 3) (t1.1 3) 0 (-1)).2).1 10) + 1)) rfl rfl (Nat.le_of_ble_eq_true rfl) dX5_moves_103 (fun H locs hr hz hlo => ?_)
              rw [mput_s10] at hr
              refine lv_iload_n X.x X.b dX5_moves_106 rfl (lv_at hl 1 rfl) ?_
              refine lv_if_eq (tgt := 114) X.x X.b dX5_moves_107 (by decide) (fun c107 => ?_) (fun c107 => ?_)
              · exact absurd c107 (by decide)
              · refine lv_iconst (v := 2) X.x X.b dX5_moves_110 (by decide) ?_
                refine lv_goto (tgt := 115) X.x X.b dX5_moves_111 (by decide) ?_
                exact h_iret X hr hz hlo (lfi (hG.trans (by rw [mg_moves_2]; rw [if_pos c7, if_pos c40, if_neg c91]))) (Nat.le_of_ble_eq_true rfl) (Nat.le_of_ble_eq_true rfl) dX5_moves_115
            · refine lv_iconst (v := 0) X.x X.b dX5_moves_94 (by decide) ?_
              exact h_iret X hr hz hlo (lfi (hG.trans (by rw [mg_moves_2]; rw [if_pos c7, if_pos c40, if_pos c91]))) (Nat.le_of_ble_eq_true rfl) (Nat.le_of_ble_eq_true rfl) dX5_moves_95
      · have hk9 : k < M := nd_lt (by rw [← hm1]; exact c7) (by omega)
        refine lv_aload_n X.x X.b dX5_moves_10 rfl (lv_at hl 1 rfl) ?_
        refine lv_iload_n X.x X.b dX5_moves_11 rfl (lv_at hl 0 rfl) ?_
        refine lv_aload_n X.x X.b dX5_moves_12 rfl (lv_at hl 1 rfl) ?_
        refine h_get X hr fd_X5_94 mput_o (v := .int (t1.1 4)) rfl dX5_moves_13 ?_
        refine h_callV X hr hz hlo (rest := []) (mc_block l D H0 b R nd t1 h0 n (nI k) (t1.1 4) hnd (vp_in_nI (by omega) (by decide))) mput_o rfl yv_X5_block ml_X5_116 ⟨(Nat.le_of_ble_eq_true rfl), (Nat.le_of_ble_eq_true rfl)⟩ (Nat.le_of_ble_eq_true rfl) hl.1 ⟨(Nat.le_of_ble_eq_true rfl), (Nat.le_of_ble_eq_true rfl)⟩ rfl dX5_moves_16 (fun v9 h9 n9 H locs hp hr hz hlo => ?_)
        obtain ⟨rfl, rfl, rfl⟩ := hp
        show W p l e _ s m _ below meth c H locs _ _ _ (F0 m 19 ls [.int ((mf_block R nd t1 (nI k) (t1.1 4)).1)])
        refine lv_if_ne (tgt := 24) X.x X.b dX5_moves_19 (by decide) (fun c19 => ?_) (fun c19 => ?_)
        · refine lv_iinc (v := nI (k + 1)) (lv' := [(1, .int (nI (k + 1))), (0, .ref b)]) X.x X.b dX5_moves_24 hl (k := 0) rfl (nI_1 k) (by decide) rfl (fun ls hl => ?_)
          refine lv_goto (tgt := 2) X.x X.b dX5_moves_27 (by decide) ?_
          exact ih (k + 1)  ((mf_block R nd t1 (nI k) (t1.1 4)).2) (by omega) (by omega) (((mf_block_keep ..).1 3 (by decide)).trans hm1) (hG.trans (by rw [mg_moves_2]; rw [if_neg c7, if_neg c19])) _ _ _ hr hz hlo (lv_sub hl [0, 1] rfl)
        · refine lv_iconst (v := 0) X.x X.b dX5_moves_22 (by decide) ?_
          exact h_iret X hr hz hlo (lfi (hG.trans (by rw [mg_moves_2]; rw [if_neg c7, if_pos c19]))) (Nat.le_of_ble_eq_true rfl) (Nat.le_of_ble_eq_true rfl) dX5_moves_23
  refine lv_iconst (v := 0) X.x X.b dX5_moves_0 (by decide) ?_
  refine lv_istore_n (lv' := [(1, .int 0), (0, .ref b)]) X.x X.b dX5_moves_1 rfl hl (by decide) rfl (fun ls hl => ?_)
  have hl : lv_has ls 3 [(1, .int (nI 0)), (0, .ref b)] := by rw [nI_0]; exact hl
  exact loop2 11 0  t (by omega) (by omega) hm (id (by unfold mf_moves; rfl)) _ _ _ hr hz hlo (lv_sub hl [0, 1] rfl)

def mg_journaled_6 (R nd : Nat) (q : Int32) (a : Int32) (v : Int64) : Nat → Nat → Int32 → MS → Int32 × MS
  | 0, _, _, t1 => (0, t1)
  | j + 1, k, many, t1 =>
    if (nI nd) ≤ (nI k) then
      if ((mf_block R nd t1 (mf_diskOf R nd t1 a) (mf_rowOf R nd t1 a)).1) = 0 then
        (0, (mf_block R nd t1 (mf_diskOf R nd t1 a) (mf_rowOf R nd t1 a)).2)
      else
        if ((mf_block R nd ((mf_block R nd t1 (mf_diskOf R nd t1 a) (mf_rowOf R nd t1 a)).2) (mf_parityOf R nd ((mf_block R nd t1 (mf_diskOf R nd t1 a) (mf_rowOf R nd t1 a)).2) a) (mf_rowOf R nd ((mf_block R nd t1 (mf_diskOf R nd t1 a) (mf_rowOf R nd t1 a)).2) a)).1) = 0 then
          (0, (mf_block R nd ((mf_block R nd t1 (mf_diskOf R nd t1 a) (mf_rowOf R nd t1 a)).2) (mf_parityOf R nd ((mf_block R nd t1 (mf_diskOf R nd t1 a) (mf_rowOf R nd t1 a)).2) a) (mf_rowOf R nd ((mf_block R nd t1 (mf_diskOf R nd t1 a) (mf_rowOf R nd t1 a)).2) a)).2)
        else
          (1, tl ((mf_block R nd ((mf_block R nd t1 (mf_diskOf R nd t1 a) (mf_rowOf R nd t1 a)).2) (mf_parityOf R nd ((mf_block R nd t1 (mf_diskOf R nd t1 a) (mf_rowOf R nd t1 a)).2) a) (mf_rowOf R nd ((mf_block R nd t1 (mf_diskOf R nd t1 a) (mf_rowOf R nd t1 a)).2) a)).2) 1 a.toNatClampNeg v)
    else
      if 2 ≤ many then
        if ((mf_block R nd t1 (mf_diskOf R nd t1 a) (mf_rowOf R nd t1 a)).1) = 0 then
          (0, (mf_block R nd t1 (mf_diskOf R nd t1 a) (mf_rowOf R nd t1 a)).2)
        else
          if ((mf_block R nd ((mf_block R nd t1 (mf_diskOf R nd t1 a) (mf_rowOf R nd t1 a)).2) (mf_parityOf R nd ((mf_block R nd t1 (mf_diskOf R nd t1 a) (mf_rowOf R nd t1 a)).2) a) (mf_rowOf R nd ((mf_block R nd t1 (mf_diskOf R nd t1 a) (mf_rowOf R nd t1 a)).2) a)).1) = 0 then
            (0, (mf_block R nd ((mf_block R nd t1 (mf_diskOf R nd t1 a) (mf_rowOf R nd t1 a)).2) (mf_parityOf R nd ((mf_block R nd t1 (mf_diskOf R nd t1 a) (mf_rowOf R nd t1 a)).2) a) (mf_rowOf R nd ((mf_block R nd t1 (mf_diskOf R nd t1 a) (mf_rowOf R nd t1 a)).2) a)).2)
          else
            (1, tl ((mf_block R nd ((mf_block R nd t1 (mf_diskOf R nd t1 a) (mf_rowOf R nd t1 a)).2) (mf_parityOf R nd ((mf_block R nd t1 (mf_diskOf R nd t1 a) (mf_rowOf R nd t1 a)).2) a) (mf_rowOf R nd ((mf_block R nd t1 (mf_diskOf R nd t1 a) (mf_rowOf R nd t1 a)).2) a)).2) 1 a.toNatClampNeg v)
      else
        if (t1.2.1 0 k) = 0 then
          if ((mf_pokes R nd t1 (nI k)).1) = 0 then
            (0, (mf_pokes R nd t1 (nI k)).2)
          else
            mg_journaled_6 R nd q a v j (k + 1) (many + 1) (tl (ti (ti (ti ((mf_pokes R nd t1 (nI k)).2) 6 k q) 7 k (((mf_pokes R nd t1 (nI k)).2).1 1)) 8 k a) 0 k v)
        else
          mg_journaled_6 R nd q a v j (k + 1) many t1
def mf_journaled (R nd : Nat) (t : MS) (q : Int32) (a : Int32) (v : Int64) : Int32 × MS :=
  mg_journaled_6 R nd q a v (nd + 1) 0 0 t
set_option maxRecDepth 20000 in
set_option maxHeartbeats 4000000 in
theorem mc_journaled (l : Launch) (D : hD) (H0 : Heap) (b R nd : Nat) (t : MS) (h0 : hH) (n : Nat) (q : Int32) (a : Int32) (v : Int64) (hnd : nd ≤ 10)  (hI0 : GV t) (ha : vp_in a 432) : cM l D H0 yX5_journaled cX5_journaled 7 (some .boolean) 6 125 0 0 [.ref b, .int q, .int a, .long v] (mput b R nd t h0) n (cE (some (.int (mf_journaled R nd t q a v).1)) (mput b R nd (mf_journaled R nd t q a v).2 h0) n) := by
  refine h_met (by decide) (Nat.le_of_ble_eq_true rfl) ?_
  intro p e s m below meth c H ls X hnm hr hz hl
  have hl : lv_has ls 7 [(0, .ref b), (1, .int q), (2, .int a), (3, .long v)] := hl
  have hlo : hL H0 ([] : List Loc) := hL.nil
  have loop6 : ∀ (j k : Nat) (many : Int32) (t1 : MS) (hk : k ≤ nd) (hj : nd < k + j) (hI : GV t1) (hG : mf_journaled R nd t q a v = mg_journaled_6 R nd q a v j k many t1) (H : Heap) (locs : List Loc) (ls : Array Slot), hR D H0 (mput b R nd t1 h0) H → H.size = n → hL H0 locs → lv_has ls 7 [(6, .int (nI k)), (0, .ref b), (1, .int q), (2, .int a), (3, .long v), (5, .int many)] → W p l e (rmk 6 125 0 0) s m ([.ref b, .int q, .int a, .long v] : List Value).toArray below meth c H locs 0 0 (MQ below (cQ D H0 (cE (some (.int (mf_journaled R nd t q a v).1)) (mput b R nd (mf_journaled R nd t q a v).2 h0) n)) ([.ref b, .int q, .int a, .long v] : List Value).toArray s 0 0 (hF H0)) (F0 m 6 ls []) := by
    intro j
    induction j with
    | zero => intro k many t1 hk hj; omega
    | succ j ih =>
      intro k many t1 hk hj hI hG H locs ls hr hz hlo hl
      refine lv_iload X.x X.b dX5_journaled_6 (lv_at hl 0 rfl) ?_
      refine lv_aload_n X.x X.b dX5_journaled_8 rfl (lv_at hl 1 rfl) ?_
      refine h_get X hr fd_X5_58 mput_o (v := .int (nI nd)) rfl dX5_journaled_9 ?_
      refine lv_icmp_ge (tgt := 89) X.x X.b dX5_journaled_12 (by decide) (fun c12 => ?_) (fun c12 => ?_)
      · refine lv_aload_n X.x X.b dX5_journaled_89 rfl (lv_at hl 1 rfl) ?_
        refine lv_aload_n X.x X.b dX5_journaled_90 rfl (lv_at hl 1 rfl) ?_
        refine lv_iload_n X.x X.b dX5_journaled_91 rfl (lv_at hl 3 rfl) ?_
        refine h_callV X hr hz hlo (rest := [.ref b]) (mc_diskOf l D H0 b R nd t1 h0 n a hnd (MG_gv (R := R) (nd := nd) (t := t1) hI ha).1 (MG_gv (R := R) (nd := nd) (t := t1) hI ha).2.1) mput_o rfl yv_X5_diskOf ml_X5_113 ⟨(Nat.le_of_ble_eq_true rfl), (Nat.le_of_ble_eq_true rfl)⟩ (Nat.le_of_ble_eq_true rfl) hl.1 ⟨(Nat.le_of_ble_eq_true rfl), (Nat.le_of_ble_eq_true rfl)⟩ rfl dX5_journaled_92 (fun v9 h9 n9 H locs hp hr hz hlo => ?_)
        obtain ⟨rfl, rfl, rfl⟩ := hp
        show W p l e _ s m _ below meth c H locs _ _ _ (F0 m 95 ls [.int (mf_diskOf R nd t1 a), .ref b])
        refine lv_aload_n X.x X.b dX5_journaled_95 rfl (lv_at hl 1 rfl) ?_
        refine lv_iload_n X.x X.b dX5_journaled_96 rfl (lv_at hl 3 rfl) ?_
        refine h_callV X hr hz hlo (rest := [.int (mf_diskOf R nd t1 a), .ref b]) (mc_rowOf l D H0 b R nd t1 h0 n a hnd (MG_gv (R := R) (nd := nd) (t := t1) hI ha).1) mput_o rfl yv_X5_rowOf ml_X5_107 ⟨(Nat.le_of_ble_eq_true rfl), (Nat.le_of_ble_eq_true rfl)⟩ (Nat.le_of_ble_eq_true rfl) hl.1 ⟨(Nat.le_of_ble_eq_true rfl), (Nat.le_of_ble_eq_true rfl)⟩ rfl dX5_journaled_97 (fun v9 h9 n9 H locs hp hr hz hlo => ?_)
        obtain ⟨rfl, rfl, rfl⟩ := hp
        show W p l e _ s m _ below meth c H locs _ _ _ (F0 m 100 ls [.int (mf_rowOf R nd t1 a), .int (mf_diskOf R nd t1 a), .ref b])
        refine h_callV X hr hz hlo (rest := []) (mc_block l D H0 b R nd t1 h0 n (mf_diskOf R nd t1 a) (mf_rowOf R nd t1 a) hnd (MG_gv (R := R) (nd := nd) (t := t1) hI ha).2.2.1) mput_o rfl yv_X5_block ml_X5_116 ⟨(Nat.le_of_ble_eq_true rfl), (Nat.le_of_ble_eq_true rfl)⟩ (Nat.le_of_ble_eq_true rfl) hl.1 ⟨(Nat.le_of_ble_eq_true rfl), (Nat.le_of_ble_eq_true rfl)⟩ rfl dX5_journaled_100 (fun v9 h9 n9 H locs hp hr hz hlo => ?_)
        obtain ⟨rfl, rfl, rfl⟩ := hp
        show W p l e _ s m _ below meth c H locs _ _ _ (F0 m 103 ls [.int ((mf_block R nd t1 (mf_diskOf R nd t1 a) (mf_rowOf R nd t1 a)).1)])
        refine lv_if_eq (tgt := 123) X.x X.b dX5_journaled_103 (by decide) (fun c103 => ?_) (fun c103 => ?_)
        · refine lv_iconst (v := 0) X.x X.b dX5_journaled_123 (by decide) ?_
          exact h_zret X hr hz hlo rfl (lfi (hG.trans (by rw [mg_journaled_6]; rw [if_pos c12, if_pos c103]))) (Nat.le_of_ble_eq_true rfl) (Nat.le_of_ble_eq_true rfl) dX5_journaled_124
        · refine lv_aload_n X.x X.b dX5_journaled_106 rfl (lv_at hl 1 rfl) ?_
          refine lv_aload_n X.x X.b dX5_journaled_107 rfl (lv_at hl 1 rfl) ?_
          refine lv_iload_n X.x X.b dX5_journaled_108 rfl (lv_at hl 3 rfl) ?_
          refine h_callV X hr hz hlo (rest := [.ref b]) (mc_parityOf l D H0 b R nd ((mf_block R nd t1 (mf_diskOf R nd t1 a) (mf_rowOf R nd t1 a)).2) h0 n a hnd (MG_gv (R := R) (nd := nd) (t := (mf_block R nd t1 (mf_diskOf R nd t1 a) (mf_rowOf R nd t1 a)).2) (GV_of ((mf_block_keep ..).1 2 (by decide)) ((mf_block_keep ..).1 3 (by decide)) hI) ha).1 (MG_gv (R := R) (nd := nd) (t := (mf_block R nd t1 (mf_diskOf R nd t1 a) (mf_rowOf R nd t1 a)).2) (GV_of ((mf_block_keep ..).1 2 (by decide)) ((mf_block_keep ..).1 3 (by decide)) hI) ha).2.1) mput_o rfl yv_X5_parityOf ml_X5_110 ⟨(Nat.le_of_ble_eq_true rfl), (Nat.le_of_ble_eq_true rfl)⟩ (Nat.le_of_ble_eq_true rfl) hl.1 ⟨(Nat.le_of_ble_eq_true rfl), (Nat.le_of_ble_eq_true rfl)⟩ rfl dX5_journaled_109 (fun v9 h9 n9 H locs hp hr hz hlo => ?_)
          obtain ⟨rfl, rfl, rfl⟩ := hp
          show W p l e _ s m _ below meth c H locs _ _ _ (F0 m 112 ls [.int (mf_parityOf R nd ((mf_block R nd t1 (mf_diskOf R nd t1 a) (mf_rowOf R nd t1 a)).2) a), .ref b])
          refine lv_aload_n X.x X.b dX5_journaled_112 rfl (lv_at hl 1 rfl) ?_
          refine lv_iload_n X.x X.b dX5_journaled_113 rfl (lv_at hl 3 rfl) ?_
          refine h_callV X hr hz hlo (rest := [.int (mf_parityOf R nd ((mf_block R nd t1 (mf_diskOf R nd t1 a) (mf_rowOf R nd t1 a)).2) a), .ref b]) (mc_rowOf l D H0 b R nd ((mf_block R nd t1 (mf_diskOf R nd t1 a) (mf_rowOf R nd t1 a)).2) h0 n a hnd (MG_gv (R := R) (nd := nd) (t := (mf_block R nd t1 (mf_diskOf R nd t1 a) (mf_rowOf R nd t1 a)).2) (GV_of ((mf_block_keep ..).1 2 (by decide)) ((mf_block_keep ..).1 3 (by decide)) hI) ha).1) mput_o rfl yv_X5_rowOf ml_X5_107 ⟨(Nat.le_of_ble_eq_true rfl), (Nat.le_of_ble_eq_true rfl)⟩ (Nat.le_of_ble_eq_true rfl) hl.1 ⟨(Nat.le_of_ble_eq_true rfl), (Nat.le_of_ble_eq_true rfl)⟩ rfl dX5_journaled_114 (fun v9 h9 n9 H locs hp hr hz hlo => ?_)
          obtain ⟨rfl, rfl, rfl⟩ := hp
          show W p l e _ s m _ below meth c H locs _ _ _ (F0 m 117 ls [.int (mf_rowOf R nd ((mf_block R nd t1 (mf_diskOf R nd t1 a) (mf_rowOf R nd t1 a)).2) a), .int (mf_parityOf R nd ((mf_block R nd t1 (mf_diskOf R nd t1 a) (mf_rowOf R nd t1 a)).2) a), .ref b])
          refine h_callV X hr hz hlo (rest := []) (mc_block l D H0 b R nd ((mf_block R nd t1 (mf_diskOf R nd t1 a) (mf_rowOf R nd t1 a)).2) h0 n (mf_parityOf R nd ((mf_block R nd t1 (mf_diskOf R nd t1 a) (mf_rowOf R nd t1 a)).2) a) (mf_rowOf R nd ((mf_block R nd t1 (mf_diskOf R nd t1 a) (mf_rowOf R nd t1 a)).2) a) hnd (MG_gv (R := R) (nd := nd) (t := (mf_block R nd t1 (mf_diskOf R nd t1 a) (mf_rowOf R nd t1 a)).2) (GV_of ((mf_block_keep ..).1 2 (by decide)) ((mf_block_keep ..).1 3 (by decide)) hI) ha).2.2.2) mput_o rfl yv_X5_block ml_X5_116 ⟨(Nat.le_of_ble_eq_true rfl), (Nat.le_of_ble_eq_true rfl)⟩ (Nat.le_of_ble_eq_true rfl) hl.1 ⟨(Nat.le_of_ble_eq_true rfl), (Nat.le_of_ble_eq_true rfl)⟩ rfl dX5_journaled_117 (fun v9 h9 n9 H locs hp hr hz hlo => ?_)
          obtain ⟨rfl, rfl, rfl⟩ := hp
          show W p l e _ s m _ below meth c H locs _ _ _ (F0 m 120 ls [.int ((mf_block R nd ((mf_block R nd t1 (mf_diskOf R nd t1 a) (mf_rowOf R nd t1 a)).2) (mf_parityOf R nd ((mf_block R nd t1 (mf_diskOf R nd t1 a) (mf_rowOf R nd t1 a)).2) a) (mf_rowOf R nd ((mf_block R nd t1 (mf_diskOf R nd t1 a) (mf_rowOf R nd t1 a)).2) a)).1)])
          refine lv_if_ne (tgt := 125) X.x X.b dX5_journaled_120 (by decide) (fun c120 => ?_) (fun c120 => ?_)
          · refine lv_aload_n X.x X.b dX5_journaled_125 rfl (lv_at hl 1 rfl) ?_
            refine h_get X hr fd_X5_52 mput_o (v := .ref (b + 12)) rfl dX5_journaled_126 ?_
            refine lv_iload_n X.x X.b dX5_journaled_129 rfl (lv_at hl 3 rfl) ?_
            refine lv_lload_n X.x X.b dX5_journaled_130 rfl (lv_at hl 4 rfl) ?_
            refine h_last X hr hz hlo mput_12 ha dX5_journaled_131 (fun H locs hr hz hlo => ?_)
            rw [mput_a12] at hr
            refine lv_iconst (v := 1) X.x X.b dX5_journaled_132 (by decide) ?_
            exact h_zret X hr hz hlo rfl (lfi (hG.trans (by rw [mg_journaled_6]; rw [if_pos c12, if_neg c103, if_neg c120]))) (Nat.le_of_ble_eq_true rfl) (Nat.le_of_ble_eq_true rfl) dX5_journaled_133
          · refine lv_iconst (v := 0) X.x X.b dX5_journaled_123 (by decide) ?_
            exact h_zret X hr hz hlo rfl (lfi (hG.trans (by rw [mg_journaled_6]; rw [if_pos c12, if_neg c103, if_pos c120]))) (Nat.le_of_ble_eq_true rfl) (Nat.le_of_ble_eq_true rfl) dX5_journaled_124
      · have hk9 : k < nd := nd_lt c12 (by omega)
        refine lv_iload X.x X.b dX5_journaled_15 (lv_at hl 5 rfl) ?_
        refine lv_iconst (v := 2) X.x X.b dX5_journaled_17 (by decide) ?_
        refine lv_icmp_ge (tgt := 89) X.x X.b dX5_journaled_18 (by decide) (fun c18 => ?_) (fun c18 => ?_)
        · refine lv_aload_n X.x X.b dX5_journaled_89 rfl (lv_at hl 1 rfl) ?_
          refine lv_aload_n X.x X.b dX5_journaled_90 rfl (lv_at hl 1 rfl) ?_
          refine lv_iload_n X.x X.b dX5_journaled_91 rfl (lv_at hl 3 rfl) ?_
          refine h_callV X hr hz hlo (rest := [.ref b]) (mc_diskOf l D H0 b R nd t1 h0 n a hnd (MG_gv (R := R) (nd := nd) (t := t1) hI ha).1 (MG_gv (R := R) (nd := nd) (t := t1) hI ha).2.1) mput_o rfl yv_X5_diskOf ml_X5_113 ⟨(Nat.le_of_ble_eq_true rfl), (Nat.le_of_ble_eq_true rfl)⟩ (Nat.le_of_ble_eq_true rfl) hl.1 ⟨(Nat.le_of_ble_eq_true rfl), (Nat.le_of_ble_eq_true rfl)⟩ rfl dX5_journaled_92 (fun v9 h9 n9 H locs hp hr hz hlo => ?_)
          obtain ⟨rfl, rfl, rfl⟩ := hp
          show W p l e _ s m _ below meth c H locs _ _ _ (F0 m 95 ls [.int (mf_diskOf R nd t1 a), .ref b])
          refine lv_aload_n X.x X.b dX5_journaled_95 rfl (lv_at hl 1 rfl) ?_
          refine lv_iload_n X.x X.b dX5_journaled_96 rfl (lv_at hl 3 rfl) ?_
          refine h_callV X hr hz hlo (rest := [.int (mf_diskOf R nd t1 a), .ref b]) (mc_rowOf l D H0 b R nd t1 h0 n a hnd (MG_gv (R := R) (nd := nd) (t := t1) hI ha).1) mput_o rfl yv_X5_rowOf ml_X5_107 ⟨(Nat.le_of_ble_eq_true rfl), (Nat.le_of_ble_eq_true rfl)⟩ (Nat.le_of_ble_eq_true rfl) hl.1 ⟨(Nat.le_of_ble_eq_true rfl), (Nat.le_of_ble_eq_true rfl)⟩ rfl dX5_journaled_97 (fun v9 h9 n9 H locs hp hr hz hlo => ?_)
          obtain ⟨rfl, rfl, rfl⟩ := hp
          show W p l e _ s m _ below meth c H locs _ _ _ (F0 m 100 ls [.int (mf_rowOf R nd t1 a), .int (mf_diskOf R nd t1 a), .ref b])
          refine h_callV X hr hz hlo (rest := []) (mc_block l D H0 b R nd t1 h0 n (mf_diskOf R nd t1 a) (mf_rowOf R nd t1 a) hnd (MG_gv (R := R) (nd := nd) (t := t1) hI ha).2.2.1) mput_o rfl yv_X5_block ml_X5_116 ⟨(Nat.le_of_ble_eq_true rfl), (Nat.le_of_ble_eq_true rfl)⟩ (Nat.le_of_ble_eq_true rfl) hl.1 ⟨(Nat.le_of_ble_eq_true rfl), (Nat.le_of_ble_eq_true rfl)⟩ rfl dX5_journaled_100 (fun v9 h9 n9 H locs hp hr hz hlo => ?_)
          obtain ⟨rfl, rfl, rfl⟩ := hp
          show W p l e _ s m _ below meth c H locs _ _ _ (F0 m 103 ls [.int ((mf_block R nd t1 (mf_diskOf R nd t1 a) (mf_rowOf R nd t1 a)).1)])
          refine lv_if_eq (tgt := 123) X.x X.b dX5_journaled_103 (by decide) (fun c103 => ?_) (fun c103 => ?_)
          · refine lv_iconst (v := 0) X.x X.b dX5_journaled_123 (by decide) ?_
            exact h_zret X hr hz hlo rfl (lfi (hG.trans (by rw [mg_journaled_6]; rw [if_neg c12, if_pos c18, if_pos c103]))) (Nat.le_of_ble_eq_true rfl) (Nat.le_of_ble_eq_true rfl) dX5_journaled_124
          · refine lv_aload_n X.x X.b dX5_journaled_106 rfl (lv_at hl 1 rfl) ?_
            refine lv_aload_n X.x X.b dX5_journaled_107 rfl (lv_at hl 1 rfl) ?_
            refine lv_iload_n X.x X.b dX5_journaled_108 rfl (lv_at hl 3 rfl) ?_
            refine h_callV X hr hz hlo (rest := [.ref b]) (mc_parityOf l D H0 b R nd ((mf_block R nd t1 (mf_diskOf R nd t1 a) (mf_rowOf R nd t1 a)).2) h0 n a hnd (MG_gv (R := R) (nd := nd) (t := (mf_block R nd t1 (mf_diskOf R nd t1 a) (mf_rowOf R nd t1 a)).2) (GV_of ((mf_block_keep ..).1 2 (by decide)) ((mf_block_keep ..).1 3 (by decide)) hI) ha).1 (MG_gv (R := R) (nd := nd) (t := (mf_block R nd t1 (mf_diskOf R nd t1 a) (mf_rowOf R nd t1 a)).2) (GV_of ((mf_block_keep ..).1 2 (by decide)) ((mf_block_keep ..).1 3 (by decide)) hI) ha).2.1) mput_o rfl yv_X5_parityOf ml_X5_110 ⟨(Nat.le_of_ble_eq_true rfl), (Nat.le_of_ble_eq_true rfl)⟩ (Nat.le_of_ble_eq_true rfl) hl.1 ⟨(Nat.le_of_ble_eq_true rfl), (Nat.le_of_ble_eq_true rfl)⟩ rfl dX5_journaled_109 (fun v9 h9 n9 H locs hp hr hz hlo => ?_)
            obtain ⟨rfl, rfl, rfl⟩ := hp
            show W p l e _ s m _ below meth c H locs _ _ _ (F0 m 112 ls [.int (mf_parityOf R nd ((mf_block R nd t1 (mf_diskOf R nd t1 a) (mf_rowOf R nd t1 a)).2) a), .ref b])
            refine lv_aload_n X.x X.b dX5_journaled_112 rfl (lv_at hl 1 rfl) ?_
            refine lv_iload_n X.x X.b dX5_journaled_113 rfl (lv_at hl 3 rfl) ?_
            refine h_callV X hr hz hlo (rest := [.int (mf_parityOf R nd ((mf_block R nd t1 (mf_diskOf R nd t1 a) (mf_rowOf R nd t1 a)).2) a), .ref b]) (mc_rowOf l D H0 b R nd ((mf_block R nd t1 (mf_diskOf R nd t1 a) (mf_rowOf R nd t1 a)).2) h0 n a hnd (MG_gv (R := R) (nd := nd) (t := (mf_block R nd t1 (mf_diskOf R nd t1 a) (mf_rowOf R nd t1 a)).2) (GV_of ((mf_block_keep ..).1 2 (by decide)) ((mf_block_keep ..).1 3 (by decide)) hI) ha).1) mput_o rfl yv_X5_rowOf ml_X5_107 ⟨(Nat.le_of_ble_eq_true rfl), (Nat.le_of_ble_eq_true rfl)⟩ (Nat.le_of_ble_eq_true rfl) hl.1 ⟨(Nat.le_of_ble_eq_true rfl), (Nat.le_of_ble_eq_true rfl)⟩ rfl dX5_journaled_114 (fun v9 h9 n9 H locs hp hr hz hlo => ?_)
            obtain ⟨rfl, rfl, rfl⟩ := hp
            show W p l e _ s m _ below meth c H locs _ _ _ (F0 m 117 ls [.int (mf_rowOf R nd ((mf_block R nd t1 (mf_diskOf R nd t1 a) (mf_rowOf R nd t1 a)).2) a), .int (mf_parityOf R nd ((mf_block R nd t1 (mf_diskOf R nd t1 a) (mf_rowOf R nd t1 a)).2) a), .ref b])
            refine h_callV X hr hz hlo (rest := []) (mc_block l D H0 b R nd ((mf_block R nd t1 (mf_diskOf R nd t1 a) (mf_rowOf R nd t1 a)).2) h0 n (mf_parityOf R nd ((mf_block R nd t1 (mf_diskOf R nd t1 a) (mf_rowOf R nd t1 a)).2) a) (mf_rowOf R nd ((mf_block R nd t1 (mf_diskOf R nd t1 a) (mf_rowOf R nd t1 a)).2) a) hnd (MG_gv (R := R) (nd := nd) (t := (mf_block R nd t1 (mf_diskOf R nd t1 a) (mf_rowOf R nd t1 a)).2) (GV_of ((mf_block_keep ..).1 2 (by decide)) ((mf_block_keep ..).1 3 (by decide)) hI) ha).2.2.2) mput_o rfl yv_X5_block ml_X5_116 ⟨(Nat.le_of_ble_eq_true rfl), (Nat.le_of_ble_eq_true rfl)⟩ (Nat.le_of_ble_eq_true rfl) hl.1 ⟨(Nat.le_of_ble_eq_true rfl), (Nat.le_of_ble_eq_true rfl)⟩ rfl dX5_journaled_117 (fun v9 h9 n9 H locs hp hr hz hlo => ?_)
            obtain ⟨rfl, rfl, rfl⟩ := hp
            show W p l e _ s m _ below meth c H locs _ _ _ (F0 m 120 ls [.int ((mf_block R nd ((mf_block R nd t1 (mf_diskOf R nd t1 a) (mf_rowOf R nd t1 a)).2) (mf_parityOf R nd ((mf_block R nd t1 (mf_diskOf R nd t1 a) (mf_rowOf R nd t1 a)).2) a) (mf_rowOf R nd ((mf_block R nd t1 (mf_diskOf R nd t1 a) (mf_rowOf R nd t1 a)).2) a)).1)])
            refine lv_if_ne (tgt := 125) X.x X.b dX5_journaled_120 (by decide) (fun c120 => ?_) (fun c120 => ?_)
            · refine lv_aload_n X.x X.b dX5_journaled_125 rfl (lv_at hl 1 rfl) ?_
              refine h_get X hr fd_X5_52 mput_o (v := .ref (b + 12)) rfl dX5_journaled_126 ?_
              refine lv_iload_n X.x X.b dX5_journaled_129 rfl (lv_at hl 3 rfl) ?_
              refine lv_lload_n X.x X.b dX5_journaled_130 rfl (lv_at hl 4 rfl) ?_
              refine h_last X hr hz hlo mput_12 ha dX5_journaled_131 (fun H locs hr hz hlo => ?_)
              rw [mput_a12] at hr
              refine lv_iconst (v := 1) X.x X.b dX5_journaled_132 (by decide) ?_
              exact h_zret X hr hz hlo rfl (lfi (hG.trans (by rw [mg_journaled_6]; rw [if_neg c12, if_pos c18, if_neg c103, if_neg c120]))) (Nat.le_of_ble_eq_true rfl) (Nat.le_of_ble_eq_true rfl) dX5_journaled_133
            · refine lv_iconst (v := 0) X.x X.b dX5_journaled_123 (by decide) ?_
              exact h_zret X hr hz hlo rfl (lfi (hG.trans (by rw [mg_journaled_6]; rw [if_neg c12, if_pos c18, if_neg c103, if_pos c120]))) (Nat.le_of_ble_eq_true rfl) (Nat.le_of_ble_eq_true rfl) dX5_journaled_124
        · refine lv_aload_n X.x X.b dX5_journaled_21 rfl (lv_at hl 1 rfl) ?_
          refine h_get X hr fd_X5_9 mput_o (v := .ref (b + 1)) rfl dX5_journaled_22 ?_
          refine lv_iload X.x X.b dX5_journaled_25 (lv_at hl 0 rfl) ?_
          refine h_iald X hr mput_1 (vp_in_nI (by omega) (by decide)) (v := .int (t1.2.1 0 k)) (by rw [nI_clamp (n := k) (by omega)]) dX5_journaled_27 ?_
          refine lv_if_eq (tgt := 34) X.x X.b dX5_journaled_28 (by decide) (fun c28 => ?_) (fun c28 => ?_)
          · refine lv_aload_n X.x X.b dX5_journaled_34 rfl (lv_at hl 1 rfl) ?_
            refine lv_iload X.x X.b dX5_journaled_35 (lv_at hl 0 rfl) ?_
            refine h_callV X hr hz hlo (rest := []) (mc_pokes l D H0 b R nd t1 h0 n (nI k) hnd (vp_in_nI (by omega) (by decide))) mput_o rfl yv_X5_pokes ml_X5_90 ⟨(Nat.le_of_ble_eq_true rfl), (Nat.le_of_ble_eq_true rfl)⟩ (Nat.le_of_ble_eq_true rfl) hl.1 ⟨(Nat.le_of_ble_eq_true rfl), (Nat.le_of_ble_eq_true rfl)⟩ rfl dX5_journaled_37 (fun v9 h9 n9 H locs hp hr hz hlo => ?_)
            obtain ⟨rfl, rfl, rfl⟩ := hp
            show W p l e _ s m _ below meth c H locs _ _ _ (F0 m 40 ls [.int ((mf_pokes R nd t1 (nI k)).1)])
            refine lv_if_ne (tgt := 45) X.x X.b dX5_journaled_40 (by decide) (fun c40 => ?_) (fun c40 => ?_)
            · refine lv_aload_n X.x X.b dX5_journaled_45 rfl (lv_at hl 1 rfl) ?_
              refine h_get X hr fd_X5_28 mput_o (v := .ref (b + 7)) rfl dX5_journaled_46 ?_
              refine lv_iload X.x X.b dX5_journaled_49 (lv_at hl 0 rfl) ?_
              refine lv_iload_n X.x X.b dX5_journaled_51 rfl (lv_at hl 2 rfl) ?_
              refine h_iast X hr hz hlo mput_7 (vp_in_nI (by omega) (by decide)) dX5_journaled_52 (fun H locs hr hz hlo => ?_)
              rw [nI_clamp (n := k) (by omega), mput_a7] at hr
              refine lv_aload_n X.x X.b dX5_journaled_53 rfl (lv_at hl 1 rfl) ?_
              refine h_get X hr fd_X5_31 mput_o (v := .ref (b + 8)) rfl dX5_journaled_54 ?_
              refine lv_iload X.x X.b dX5_journaled_57 (lv_at hl 0 rfl) ?_
              refine lv_aload_n X.x X.b dX5_journaled_59 rfl (lv_at hl 1 rfl) ?_
              refine h_get X hr fd_X5_61 mput_o (v := .int (((mf_pokes R nd t1 (nI k)).2).1 1)) rfl dX5_journaled_60 ?_
              refine h_iast X hr hz hlo mput_8 (vp_in_nI (by omega) (by decide)) dX5_journaled_63 (fun H locs hr hz hlo => ?_)
              rw [nI_clamp (n := k) (by omega), mput_a8] at hr
              refine lv_aload_n X.x X.b dX5_journaled_64 rfl (lv_at hl 1 rfl) ?_
              refine h_get X hr fd_X5_34 mput_o (v := .ref (b + 9)) rfl dX5_journaled_65 ?_
              refine lv_iload X.x X.b dX5_journaled_68 (lv_at hl 0 rfl) ?_
              refine lv_iload_n X.x X.b dX5_journaled_70 rfl (lv_at hl 3 rfl) ?_
              refine h_iast X hr hz hlo mput_9 (vp_in_nI (by omega) (by decide)) dX5_journaled_71 (fun H locs hr hz hlo => ?_)
              rw [nI_clamp (n := k) (by omega), mput_a9] at hr
              refine lv_aload_n X.x X.b dX5_journaled_72 rfl (lv_at hl 1 rfl) ?_
              refine h_get X hr fd_X5_40 mput_o (v := .ref (b + 11)) rfl dX5_journaled_73 ?_
              refine lv_iload X.x X.b dX5_journaled_76 (lv_at hl 0 rfl) ?_
              refine lv_lload_n X.x X.b dX5_journaled_78 rfl (lv_at hl 4 rfl) ?_
              refine h_last X hr hz hlo mput_11 (vp_in_nI (by omega) (by decide)) dX5_journaled_79 (fun H locs hr hz hlo => ?_)
              rw [nI_clamp (n := k) (by omega), mput_a11] at hr
              refine lv_iinc (v := many + 1) (lv' := [(5, .int (many + 1)), (6, .int (nI k)), (0, .ref b), (1, .int q), (2, .int a), (3, .long v)]) X.x X.b dX5_journaled_80 hl (k := 5) rfl rfl (by decide) rfl (fun ls hl => ?_)
              refine lv_iinc (v := nI (k + 1)) (lv' := [(6, .int (nI (k + 1))), (5, .int (many + 1)), (0, .ref b), (1, .int q), (2, .int a), (3, .long v)]) X.x X.b dX5_journaled_83 hl (k := 1) rfl (nI_1 k) (by decide) rfl (fun ls hl => ?_)
              refine lv_goto (tgt := 6) X.x X.b dX5_journaled_86 (by decide) ?_
              exact ih (k + 1) (many + 1) (tl (ti (ti (ti ((mf_pokes R nd t1 (nI k)).2) 6 k q) 7 k (((mf_pokes R nd t1 (nI k)).2).1 1)) 8 k a) 0 k v) (by omega) (by omega) (GV_of ((mf_pokes_keep ..).1 2 (by decide)) ((mf_pokes_keep ..).1 3 (by decide)) hI) (hG.trans (by rw [mg_journaled_6]; rw [if_neg c12, if_neg c18, if_pos c28, if_neg c40])) _ _ _ hr hz hlo (lv_sub hl [0, 2, 3, 4, 5, 1] rfl)
            · refine lv_iconst (v := 0) X.x X.b dX5_journaled_43 (by decide) ?_
              exact h_zret X hr hz hlo rfl (lfi (hG.trans (by rw [mg_journaled_6]; rw [if_neg c12, if_neg c18, if_pos c28, if_pos c40]))) (Nat.le_of_ble_eq_true rfl) (Nat.le_of_ble_eq_true rfl) dX5_journaled_44
          · refine lv_goto (tgt := 83) X.x X.b dX5_journaled_31 (by decide) ?_
            refine lv_iinc (v := nI (k + 1)) (lv' := [(6, .int (nI (k + 1))), (0, .ref b), (1, .int q), (2, .int a), (3, .long v), (5, .int many)]) X.x X.b dX5_journaled_83 hl (k := 0) rfl (nI_1 k) (by decide) rfl (fun ls hl => ?_)
            refine lv_goto (tgt := 6) X.x X.b dX5_journaled_86 (by decide) ?_
            exact ih (k + 1) many t1 (by omega) (by omega) hI (hG.trans (by rw [mg_journaled_6]; rw [if_neg c12, if_neg c18, if_neg c28])) _ _ _ hr hz hlo (lv_sub hl [0, 1, 2, 3, 4, 5] rfl)
  refine lv_iconst (v := 0) X.x X.b dX5_journaled_0 (by decide) ?_
  refine lv_istore (lv' := [(5, .int 0), (0, .ref b), (1, .int q), (2, .int a), (3, .long v)]) X.x X.b dX5_journaled_1 hl (by decide) rfl (fun ls hl => ?_)
  refine lv_iconst (v := 0) X.x X.b dX5_journaled_3 (by decide) ?_
  refine lv_istore (lv' := [(6, .int 0), (5, .int 0), (0, .ref b), (1, .int q), (2, .int a), (3, .long v)]) X.x X.b dX5_journaled_4 hl (by decide) rfl (fun ls hl => ?_)
  have hl : lv_has ls 7 [(6, .int (nI 0)), (5, .int 0), (0, .ref b), (1, .int q), (2, .int a), (3, .long v)] := by rw [nI_0]; exact hl
  exact loop6 (nd + 1) 0 0 t (by omega) (by omega) hI0 (id (by unfold mf_journaled; rfl)) _ _ _ hr hz hlo (lv_sub hl [0, 2, 3, 4, 5, 1] rfl)

theorem mg_journaled_b {R nd : Nat} (q a : Int32) (v : Int64) : ∀ (j k : Nat) (many : Int32) (t1 : MS), (mg_journaled_6 R nd q a v j k many t1).1 = 0 ∨ (mg_journaled_6 R nd q a v j k many t1).1 = 1 := by
  intro j
  induction j with
  | zero => intro k many t1; exact Or.inl rfl
  | succ j ih =>
    intro k many t1
    rw [mg_journaled_6]
    repeat' split
    all_goals first | exact Or.inl rfl | exact Or.inr rfl | exact ih _ _ _
theorem mb_journaled {R nd : Nat} (t : MS) (q a : Int32) (v : Int64) : (mf_journaled R nd t q a v).1 = 0 ∨ (mf_journaled R nd t q a v).1 = 1 := by
  unfold mf_journaled
  exact mg_journaled_b _ _ _ _ _ _ _

def mf_write (R nd : Nat) (t : MS) (a : Int32) (v : Int64) : Int32 × MS :=
  if (t.1 5) = 0 then
    (0, si t 0 1)
  else
    if a < 0 then
      (0, si t 0 2)
    else
      if a < (mf_places R nd t) then
        ((mf_journaled R nd (si (si t 0 0) 8 ((t.1 8) + 1)) ((t.1 8) + 1) a v).1, (mf_journaled R nd (si (si t 0 0) 8 ((t.1 8) + 1)) ((t.1 8) + 1) a v).2)
      else
        (0, si t 0 2)
set_option maxRecDepth 20000 in
set_option maxHeartbeats 4000000 in
theorem mc_write (l : Launch) (D : hD) (H0 : Heap) (b R nd : Nat) (t : MS) (h0 : hH) (n : Nat) (a : Int32) (v : Int64) (hnd : nd ≤ 10)  (hI : GV t) (hpl : ¬ a < 0 → a < mf_places R nd t → vp_in a 432) : cM l D H0 yX5_write cX5_write 4 (some .boolean) 7 151 0 0 [.ref b, .int a, .long v] (mput b R nd t h0) n (cE (some (.int (mf_write R nd t a v).1)) (mput b R nd (mf_write R nd t a v).2 h0) n) := by
  refine h_met (by decide) (Nat.le_of_ble_eq_true rfl) ?_
  intro p e s m below meth c H ls X hnm hr hz hl
  have hl : lv_has ls 4 [(0, .ref b), (1, .int a), (2, .long v)] := hl
  have hlo : hL H0 ([] : List Loc) := hL.nil
  refine lv_aload_n X.x X.b dX5_write_0 rfl (lv_at hl 0 rfl) ?_
  refine lv_aload_n X.x X.b dX5_write_1 rfl (lv_at hl 0 rfl) ?_
  refine h_get X hr fd_X5_44 mput_o (v := .int (t.1 5)) rfl dX5_write_2 ?_
  refine lv_if_ne (tgt := 12) X.x X.b dX5_write_5 (by decide) (fun c5 => ?_) (fun c5 => ?_)
  · refine lv_iload_n X.x X.b dX5_write_12 rfl (lv_at hl 1 rfl) ?_
    refine lv_if_lt (tgt := 24) X.x X.b dX5_write_13 (by decide) (fun c13 => ?_) (fun c13 => ?_)
    · refine lv_iconst (v := 2) X.x X.b dX5_write_24 (by decide) ?_
      refine lv_goto (tgt := 29) X.x X.b dX5_write_25 (by decide) ?_
      refine h_put X hr hz hlo fd_X5_74 tyX5 tyX5_ok nmX5 rfl mput_o (v := .int 2) rfl rfl (Nat.le_of_ble_eq_true rfl) dX5_write_29 (fun H locs hr hz hlo => ?_)
      rw [mput_s0] at hr
      refine lv_aload_n X.x X.b dX5_write_32 rfl (lv_at hl 0 rfl) ?_
      refine h_get X hr fd_X5_74 mput_o (v := .int 2) rfl dX5_write_33 ?_
      refine lv_if_le (tgt := 41) X.x X.b dX5_write_36 (by decide) (fun c36 => ?_) (fun c36 => ?_)
      · exact absurd c36 (by decide)
      · refine lv_iconst (v := 0) X.x X.b dX5_write_39 (by decide) ?_
        exact h_zret X hr hz hlo rfl (lfi (id (by unfold mf_write; rw [if_neg c5, if_pos c13]))) (Nat.le_of_ble_eq_true rfl) (Nat.le_of_ble_eq_true rfl) dX5_write_40
    · refine lv_iload_n X.x X.b dX5_write_16 rfl (lv_at hl 1 rfl) ?_
      refine lv_aload_n X.x X.b dX5_write_17 rfl (lv_at hl 0 rfl) ?_
      refine h_callV X hr hz hlo (rest := [.int a, .ref b]) (mc_places l D H0 b R nd t h0 n  hnd ) mput_o rfl yv_X5_places ml_X5_120 ⟨(Nat.le_of_ble_eq_true rfl), (Nat.le_of_ble_eq_true rfl)⟩ (Nat.le_of_ble_eq_true rfl) hl.1 ⟨(Nat.le_of_ble_eq_true rfl), (Nat.le_of_ble_eq_true rfl)⟩ rfl dX5_write_18 (fun v9 h9 n9 H locs hp hr hz hlo => ?_)
      obtain ⟨rfl, rfl, rfl⟩ := hp
      show W p l e _ s m _ below meth c H locs _ _ _ (F0 m 21 ls [.int (mf_places R nd t), .int a, .ref b])
      refine lv_icmp_lt (tgt := 28) X.x X.b dX5_write_21 (by decide) (fun c21 => ?_) (fun c21 => ?_)
      · refine lv_iconst (v := 0) X.x X.b dX5_write_28 (by decide) ?_
        refine h_put X hr hz hlo fd_X5_74 tyX5 tyX5_ok nmX5 rfl mput_o (v := .int 0) rfl rfl (Nat.le_of_ble_eq_true rfl) dX5_write_29 (fun H locs hr hz hlo => ?_)
        rw [mput_s0] at hr
        refine lv_aload_n X.x X.b dX5_write_32 rfl (lv_at hl 0 rfl) ?_
        refine h_get X hr fd_X5_74 mput_o (v := .int 0) rfl dX5_write_33 ?_
        refine lv_if_le (tgt := 41) X.x X.b dX5_write_36 (by decide) (fun c36 => ?_) (fun c36 => ?_)
        · refine lv_aload_n X.x X.b dX5_write_41 rfl (lv_at hl 0 rfl) ?_
          refine lv_dup X.x X.b dX5_write_42 rfl ?_
          refine h_get X hr fd_X5_124 mput_o (v := .int (t.1 8)) rfl dX5_write_43 ?_
          refine lv_iconst (v := 1) X.x X.b dX5_write_46 (by decide) ?_
          refine lv_iadd X.x X.b dX5_write_47 ?_
          refine h_put X hr hz hlo fd_X5_124 tyX5 tyX5_ok nmX5 rfl mput_o (v := .int ((t.1 8) + 1)) rfl rfl (Nat.le_of_ble_eq_true rfl) dX5_write_48 (fun H locs hr hz hlo => ?_)
          rw [mput_s8] at hr
          refine lv_aload_n X.x X.b dX5_write_51 rfl (lv_at hl 0 rfl) ?_
          refine lv_aload_n X.x X.b dX5_write_52 rfl (lv_at hl 0 rfl) ?_
          refine h_get X hr fd_X5_124 mput_o (v := .int ((t.1 8) + 1)) rfl dX5_write_53 ?_
          refine lv_iload_n X.x X.b dX5_write_56 rfl (lv_at hl 1 rfl) ?_
          refine lv_lload_n X.x X.b dX5_write_57 rfl (lv_at hl 2 rfl) ?_
          refine h_callV X hr hz hlo (rest := []) (mc_journaled l D H0 b R nd (si (si t 0 0) 8 ((t.1 8) + 1)) h0 n ((t.1 8) + 1) a v hnd hI (hpl c13 c21)) mput_o rfl yv_X5_journaled ml_X5_127 ⟨(Nat.le_of_ble_eq_true rfl), (Nat.le_of_ble_eq_true rfl)⟩ (Nat.le_of_ble_eq_true rfl) hl.1 ⟨(Nat.le_of_ble_eq_true rfl), (Nat.le_of_ble_eq_true rfl)⟩ rfl dX5_write_58 (fun v9 h9 n9 H locs hp hr hz hlo => ?_)
          obtain ⟨rfl, rfl, rfl⟩ := hp
          show W p l e _ s m _ below meth c H locs _ _ _ (F0 m 61 ls [.int ((mf_journaled R nd (si (si t 0 0) 8 ((t.1 8) + 1)) ((t.1 8) + 1) a v).1)])
          exact h_zret X hr hz hlo (nb (mb_journaled ..)) (lfi (id (by unfold mf_write; rw [if_neg c5, if_neg c13, if_pos c21]))) (Nat.le_of_ble_eq_true rfl) (Nat.le_of_ble_eq_true rfl) dX5_write_61
        · exact absurd (by decide) c36
      · refine lv_iconst (v := 2) X.x X.b dX5_write_24 (by decide) ?_
        refine lv_goto (tgt := 29) X.x X.b dX5_write_25 (by decide) ?_
        refine h_put X hr hz hlo fd_X5_74 tyX5 tyX5_ok nmX5 rfl mput_o (v := .int 2) rfl rfl (Nat.le_of_ble_eq_true rfl) dX5_write_29 (fun H locs hr hz hlo => ?_)
        rw [mput_s0] at hr
        refine lv_aload_n X.x X.b dX5_write_32 rfl (lv_at hl 0 rfl) ?_
        refine h_get X hr fd_X5_74 mput_o (v := .int 2) rfl dX5_write_33 ?_
        refine lv_if_le (tgt := 41) X.x X.b dX5_write_36 (by decide) (fun c36 => ?_) (fun c36 => ?_)
        · exact absurd c36 (by decide)
        · refine lv_iconst (v := 0) X.x X.b dX5_write_39 (by decide) ?_
          exact h_zret X hr hz hlo rfl (lfi (id (by unfold mf_write; rw [if_neg c5, if_neg c13, if_neg c21]))) (Nat.le_of_ble_eq_true rfl) (Nat.le_of_ble_eq_true rfl) dX5_write_40
  · refine lv_iconst (v := 1) X.x X.b dX5_write_8 (by decide) ?_
    refine lv_goto (tgt := 29) X.x X.b dX5_write_9 (by decide) ?_
    refine h_put X hr hz hlo fd_X5_74 tyX5 tyX5_ok nmX5 rfl mput_o (v := .int 1) rfl rfl (Nat.le_of_ble_eq_true rfl) dX5_write_29 (fun H locs hr hz hlo => ?_)
    rw [mput_s0] at hr
    refine lv_aload_n X.x X.b dX5_write_32 rfl (lv_at hl 0 rfl) ?_
    refine h_get X hr fd_X5_74 mput_o (v := .int 1) rfl dX5_write_33 ?_
    refine lv_if_le (tgt := 41) X.x X.b dX5_write_36 (by decide) (fun c36 => ?_) (fun c36 => ?_)
    · exact absurd c36 (by decide)
    · refine lv_iconst (v := 0) X.x X.b dX5_write_39 (by decide) ?_
      exact h_zret X hr hz hlo rfl (lfi (id (by unfold mf_write; rw [if_pos c5]))) (Nat.le_of_ble_eq_true rfl) (Nat.le_of_ble_eq_true rfl) dX5_write_40

def mf_read (R nd : Nat) (t : MS) (a : Int32) : Int64 × MS :=
  if (t.1 5) = 0 then
    (0, si t 0 1)
  else
    if a < 0 then
      (0, si t 0 2)
    else
      if a < (mf_places R nd t) then
        (t.2.2 1 a.toNatClampNeg, si t 0 0)
      else
        (0, si t 0 2)
set_option maxRecDepth 20000 in
set_option maxHeartbeats 4000000 in
theorem mc_read (l : Launch) (D : hD) (H0 : Heap) (b R nd : Nat) (t : MS) (h0 : hH) (n : Nat) (a : Int32) (hnd : nd ≤ 10)  (hpl : ¬ a < 0 → a < mf_places R nd t → vp_in a 432) : cM l D H0 yX5_read cX5_read 2 (some .long) 1 20 0 0 [.ref b, .int a] (mput b R nd t h0) n (cE (some (.long (mf_read R nd t a).1)) (mput b R nd (mf_read R nd t a).2 h0) n) := by
  refine h_met (by decide) (Nat.le_of_ble_eq_true rfl) ?_
  intro p e s m below meth c H ls X hnm hr hz hl
  have hl : lv_has ls 2 [(0, .ref b), (1, .int a)] := hl
  have hlo : hL H0 ([] : List Loc) := hL.nil
  refine lv_aload_n X.x X.b dX5_read_0 rfl (lv_at hl 0 rfl) ?_
  refine lv_aload_n X.x X.b dX5_read_1 rfl (lv_at hl 0 rfl) ?_
  refine h_get X hr fd_X5_44 mput_o (v := .int (t.1 5)) rfl dX5_read_2 ?_
  refine lv_if_ne (tgt := 12) X.x X.b dX5_read_5 (by decide) (fun c5 => ?_) (fun c5 => ?_)
  · refine lv_iload_n X.x X.b dX5_read_12 rfl (lv_at hl 1 rfl) ?_
    refine lv_if_lt (tgt := 24) X.x X.b dX5_read_13 (by decide) (fun c13 => ?_) (fun c13 => ?_)
    · refine lv_iconst (v := 2) X.x X.b dX5_read_24 (by decide) ?_
      refine lv_goto (tgt := 29) X.x X.b dX5_read_25 (by decide) ?_
      refine h_put X hr hz hlo fd_X5_74 tyX5 tyX5_ok nmX5 rfl mput_o (v := .int 2) rfl rfl (Nat.le_of_ble_eq_true rfl) dX5_read_29 (fun H locs hr hz hlo => ?_)
      rw [mput_s0] at hr
      refine lv_aload_n X.x X.b dX5_read_32 rfl (lv_at hl 0 rfl) ?_
      refine h_get X hr fd_X5_74 mput_o (v := .int 2) rfl dX5_read_33 ?_
      refine lv_if_le (tgt := 43) X.x X.b dX5_read_36 (by decide) (fun c36 => ?_) (fun c36 => ?_)
      · exact absurd c36 (by decide)
      · refine lv_lconst (v := 0) X.x X.b dX5_read_39 (by decide) ?_
        refine lv_goto (tgt := 49) X.x X.b dX5_read_40 (by decide) ?_
        exact h_lret X hr hz hlo (lfl (id (by unfold mf_read; rw [if_neg c5, if_pos c13]))) (Nat.le_of_ble_eq_true rfl) (Nat.le_of_ble_eq_true rfl) dX5_read_49
    · refine lv_iload_n X.x X.b dX5_read_16 rfl (lv_at hl 1 rfl) ?_
      refine lv_aload_n X.x X.b dX5_read_17 rfl (lv_at hl 0 rfl) ?_
      refine h_callV X hr hz hlo (rest := [.int a, .ref b]) (mc_places l D H0 b R nd t h0 n  hnd ) mput_o rfl yv_X5_places ml_X5_120 ⟨(Nat.le_of_ble_eq_true rfl), (Nat.le_of_ble_eq_true rfl)⟩ (Nat.le_of_ble_eq_true rfl) hl.1 ⟨(Nat.le_of_ble_eq_true rfl), (Nat.le_of_ble_eq_true rfl)⟩ rfl dX5_read_18 (fun v9 h9 n9 H locs hp hr hz hlo => ?_)
      obtain ⟨rfl, rfl, rfl⟩ := hp
      show W p l e _ s m _ below meth c H locs _ _ _ (F0 m 21 ls [.int (mf_places R nd t), .int a, .ref b])
      refine lv_icmp_lt (tgt := 28) X.x X.b dX5_read_21 (by decide) (fun c21 => ?_) (fun c21 => ?_)
      · refine lv_iconst (v := 0) X.x X.b dX5_read_28 (by decide) ?_
        refine h_put X hr hz hlo fd_X5_74 tyX5 tyX5_ok nmX5 rfl mput_o (v := .int 0) rfl rfl (Nat.le_of_ble_eq_true rfl) dX5_read_29 (fun H locs hr hz hlo => ?_)
        rw [mput_s0] at hr
        refine lv_aload_n X.x X.b dX5_read_32 rfl (lv_at hl 0 rfl) ?_
        refine h_get X hr fd_X5_74 mput_o (v := .int 0) rfl dX5_read_33 ?_
        refine lv_if_le (tgt := 43) X.x X.b dX5_read_36 (by decide) (fun c36 => ?_) (fun c36 => ?_)
        · refine lv_aload_n X.x X.b dX5_read_43 rfl (lv_at hl 0 rfl) ?_
          refine h_get X hr fd_X5_52 mput_o (v := .ref (b + 12)) rfl dX5_read_44 ?_
          refine lv_iload_n X.x X.b dX5_read_47 rfl (lv_at hl 1 rfl) ?_
          refine h_lald X hr mput_12 (hpl c13 c21) (v := .long (t.2.2 1 a.toNatClampNeg)) rfl dX5_read_48 ?_
          exact h_lret X hr hz hlo (lfl (id (by unfold mf_read; rw [if_neg c5, if_neg c13, if_pos c21]))) (Nat.le_of_ble_eq_true rfl) (Nat.le_of_ble_eq_true rfl) dX5_read_49
        · exact absurd (by decide) c36
      · refine lv_iconst (v := 2) X.x X.b dX5_read_24 (by decide) ?_
        refine lv_goto (tgt := 29) X.x X.b dX5_read_25 (by decide) ?_
        refine h_put X hr hz hlo fd_X5_74 tyX5 tyX5_ok nmX5 rfl mput_o (v := .int 2) rfl rfl (Nat.le_of_ble_eq_true rfl) dX5_read_29 (fun H locs hr hz hlo => ?_)
        rw [mput_s0] at hr
        refine lv_aload_n X.x X.b dX5_read_32 rfl (lv_at hl 0 rfl) ?_
        refine h_get X hr fd_X5_74 mput_o (v := .int 2) rfl dX5_read_33 ?_
        refine lv_if_le (tgt := 43) X.x X.b dX5_read_36 (by decide) (fun c36 => ?_) (fun c36 => ?_)
        · exact absurd c36 (by decide)
        · refine lv_lconst (v := 0) X.x X.b dX5_read_39 (by decide) ?_
          refine lv_goto (tgt := 49) X.x X.b dX5_read_40 (by decide) ?_
          exact h_lret X hr hz hlo (lfl (id (by unfold mf_read; rw [if_neg c5, if_neg c13, if_neg c21]))) (Nat.le_of_ble_eq_true rfl) (Nat.le_of_ble_eq_true rfl) dX5_read_49
  · refine lv_iconst (v := 1) X.x X.b dX5_read_8 (by decide) ?_
    refine lv_goto (tgt := 29) X.x X.b dX5_read_9 (by decide) ?_
    refine h_put X hr hz hlo fd_X5_74 tyX5 tyX5_ok nmX5 rfl mput_o (v := .int 1) rfl rfl (Nat.le_of_ble_eq_true rfl) dX5_read_29 (fun H locs hr hz hlo => ?_)
    rw [mput_s0] at hr
    refine lv_aload_n X.x X.b dX5_read_32 rfl (lv_at hl 0 rfl) ?_
    refine h_get X hr fd_X5_74 mput_o (v := .int 1) rfl dX5_read_33 ?_
    refine lv_if_le (tgt := 43) X.x X.b dX5_read_36 (by decide) (fun c36 => ?_) (fun c36 => ?_)
    · exact absurd c36 (by decide)
    · refine lv_lconst (v := 0) X.x X.b dX5_read_39 (by decide) ?_
      refine lv_goto (tgt := 49) X.x X.b dX5_read_40 (by decide) ?_
      exact h_lret X hr hz hlo (lfl (id (by unfold mf_read; rw [if_pos c5]))) (Nat.le_of_ble_eq_true rfl) (Nat.le_of_ble_eq_true rfl) dX5_read_49

def mf_grow (R nd : Nat) (t : MS)  : Int32 × MS :=
  if (t.1 5) = 0 then
    (0, si t 0 1)
  else
    if (nI nd) = (t.1 2) then
      ((-1), si t 0 0)
    else
      if (mf_isReshaped R nd (si t 0 0)) = 0 then
        if (mf_isRebuilding R nd (si t 0 0)) = 0 then
          if ((mf_sets R nd (si t 0 0) (t.1 2) (nI nd) 0 (-1)).1) = 0 then
            (0, (mf_sets R nd (si t 0 0) (t.1 2) (nI nd) 0 (-1)).2)
          else
            (((mf_sets R nd (si t 0 0) (t.1 2) (nI nd) 0 (-1)).2).1 3, (mf_sets R nd (si t 0 0) (t.1 2) (nI nd) 0 (-1)).2)
        else
          ((-1), si t 0 0)
      else
        ((-1), si t 0 0)
set_option maxRecDepth 20000 in
set_option maxHeartbeats 4000000 in
theorem mc_grow (l : Launch) (D : hD) (H0 : Heap) (b R nd : Nat) (t : MS) (h0 : hH) (n : Nat)  (hnd : nd ≤ 10)   : cM l D H0 yX5_grow cX5_grow 1 (some .int) 3 67 0 0 [.ref b] (mput b R nd t h0) n (cE (some (.int (mf_grow R nd t).1)) (mput b R nd (mf_grow R nd t).2 h0) n) := by
  refine h_met (by decide) (Nat.le_of_ble_eq_true rfl) ?_
  intro p e s m below meth c H ls X hnm hr hz hl
  have hl : lv_has ls 1 [(0, .ref b)] := hl
  have hlo : hL H0 ([] : List Loc) := hL.nil
  refine lv_aload_n X.x X.b dX5_grow_0 rfl (lv_at hl 0 rfl) ?_
  refine lv_aload_n X.x X.b dX5_grow_1 rfl (lv_at hl 0 rfl) ?_
  refine h_get X hr fd_X5_44 mput_o (v := .int (t.1 5)) rfl dX5_grow_2 ?_
  refine lv_if_eq (tgt := 12) X.x X.b dX5_grow_5 (by decide) (fun c5 => ?_) (fun c5 => ?_)
  · refine lv_iconst (v := 1) X.x X.b dX5_grow_12 (by decide) ?_
    refine h_put X hr hz hlo fd_X5_74 tyX5 tyX5_ok nmX5 rfl mput_o (v := .int 1) rfl rfl (Nat.le_of_ble_eq_true rfl) dX5_grow_13 (fun H locs hr hz hlo => ?_)
    rw [mput_s0] at hr
    refine lv_aload_n X.x X.b dX5_grow_16 rfl (lv_at hl 0 rfl) ?_
    refine h_get X hr fd_X5_74 mput_o (v := .int 1) rfl dX5_grow_17 ?_
    refine lv_if_le (tgt := 25) X.x X.b dX5_grow_20 (by decide) (fun c20 => ?_) (fun c20 => ?_)
    · exact absurd c20 (by decide)
    · refine lv_iconst (v := 0) X.x X.b dX5_grow_23 (by decide) ?_
      exact h_iret X hr hz hlo (lfi (id (by unfold mf_grow; rw [if_pos c5]))) (Nat.le_of_ble_eq_true rfl) (Nat.le_of_ble_eq_true rfl) dX5_grow_24
  · refine lv_iconst (v := 0) X.x X.b dX5_grow_8 (by decide) ?_
    refine lv_goto (tgt := 13) X.x X.b dX5_grow_9 (by decide) ?_
    refine h_put X hr hz hlo fd_X5_74 tyX5 tyX5_ok nmX5 rfl mput_o (v := .int 0) rfl rfl (Nat.le_of_ble_eq_true rfl) dX5_grow_13 (fun H locs hr hz hlo => ?_)
    rw [mput_s0] at hr
    refine lv_aload_n X.x X.b dX5_grow_16 rfl (lv_at hl 0 rfl) ?_
    refine h_get X hr fd_X5_74 mput_o (v := .int 0) rfl dX5_grow_17 ?_
    refine lv_if_le (tgt := 25) X.x X.b dX5_grow_20 (by decide) (fun c20 => ?_) (fun c20 => ?_)
    · refine lv_aload_n X.x X.b dX5_grow_25 rfl (lv_at hl 0 rfl) ?_
      refine h_get X hr fd_X5_58 mput_o (v := .int (nI nd)) rfl dX5_grow_26 ?_
      refine lv_aload_n X.x X.b dX5_grow_29 rfl (lv_at hl 0 rfl) ?_
      refine h_get X hr fd_X5_64 mput_o (v := .int (t.1 2)) rfl dX5_grow_30 ?_
      refine lv_icmp_eq (tgt := 50) X.x X.b dX5_grow_33 (by decide) (fun c33 => ?_) (fun c33 => ?_)
      · refine lv_iconst (v := -1) X.x X.b dX5_grow_50 (by decide) ?_
        exact h_iret X hr hz hlo (lfi (id (by unfold mf_grow; rw [if_neg c5, if_pos c33]))) (Nat.le_of_ble_eq_true rfl) (Nat.le_of_ble_eq_true rfl) dX5_grow_51
      · refine lv_aload_n X.x X.b dX5_grow_36 rfl (lv_at hl 0 rfl) ?_
        refine h_callV X hr hz hlo (rest := []) (mc_isReshaped l D H0 b R nd (si t 0 0) h0 n  hnd ) mput_o rfl yv_X5_isReshaped ml_X5_97 ⟨(Nat.le_of_ble_eq_true rfl), (Nat.le_of_ble_eq_true rfl)⟩ (Nat.le_of_ble_eq_true rfl) hl.1 ⟨(Nat.le_of_ble_eq_true rfl), (Nat.le_of_ble_eq_true rfl)⟩ rfl dX5_grow_37 (fun v9 h9 n9 H locs hp hr hz hlo => ?_)
        obtain ⟨rfl, rfl, rfl⟩ := hp
        show W p l e _ s m _ below meth c H locs _ _ _ (F0 m 40 ls [.int (mf_isReshaped R nd (si t 0 0))])
        refine lv_if_ne (tgt := 50) X.x X.b dX5_grow_40 (by decide) (fun c40 => ?_) (fun c40 => ?_)
        · refine lv_iconst (v := -1) X.x X.b dX5_grow_50 (by decide) ?_
          exact h_iret X hr hz hlo (lfi (id (by unfold mf_grow; rw [if_neg c5, if_neg c33, if_neg c40]))) (Nat.le_of_ble_eq_true rfl) (Nat.le_of_ble_eq_true rfl) dX5_grow_51
        · refine lv_aload_n X.x X.b dX5_grow_43 rfl (lv_at hl 0 rfl) ?_
          refine h_callV X hr hz hlo (rest := []) (mc_isRebuilding l D H0 b R nd (si t 0 0) h0 n  hnd ) mput_o rfl yv_X5_isRebuilding ml_X5_135 ⟨(Nat.le_of_ble_eq_true rfl), (Nat.le_of_ble_eq_true rfl)⟩ (Nat.le_of_ble_eq_true rfl) hl.1 ⟨(Nat.le_of_ble_eq_true rfl), (Nat.le_of_ble_eq_true rfl)⟩ rfl dX5_grow_44 (fun v9 h9 n9 H locs hp hr hz hlo => ?_)
          obtain ⟨rfl, rfl, rfl⟩ := hp
          show W p l e _ s m _ below meth c H locs _ _ _ (F0 m 47 ls [.int (mf_isRebuilding R nd (si t 0 0))])
          refine lv_if_eq (tgt := 52) X.x X.b dX5_grow_47 (by decide) (fun c47 => ?_) (fun c47 => ?_)
          · refine lv_aload_n X.x X.b dX5_grow_52 rfl (lv_at hl 0 rfl) ?_
            refine lv_aload_n X.x X.b dX5_grow_53 rfl (lv_at hl 0 rfl) ?_
            refine h_get X hr fd_X5_64 mput_o (v := .int (t.1 2)) rfl dX5_grow_54 ?_
            refine lv_aload_n X.x X.b dX5_grow_57 rfl (lv_at hl 0 rfl) ?_
            refine h_get X hr fd_X5_58 mput_o (v := .int (nI nd)) rfl dX5_grow_58 ?_
            refine lv_iconst (v := 0) X.x X.b dX5_grow_61 (by decide) ?_
            refine lv_iconst (v := -1) X.x X.b dX5_grow_62 (by decide) ?_
            refine h_callV X hr hz hlo (rest := []) (mc_sets l D H0 b R nd (si t 0 0) h0 n (t.1 2) (nI nd) 0 (-1) hnd ) mput_o rfl yv_X5_sets ml_X5_138 ⟨(Nat.le_of_ble_eq_true rfl), (Nat.le_of_ble_eq_true rfl)⟩ (Nat.le_of_ble_eq_true rfl) hl.1 ⟨(Nat.le_of_ble_eq_true rfl), (Nat.le_of_ble_eq_true rfl)⟩ rfl dX5_grow_63 (fun v9 h9 n9 H locs hp hr hz hlo => ?_)
            obtain ⟨rfl, rfl, rfl⟩ := hp
            show W p l e _ s m _ below meth c H locs _ _ _ (F0 m 66 ls [.int ((mf_sets R nd (si t 0 0) (t.1 2) (nI nd) 0 (-1)).1)])
            refine lv_if_eq (tgt := 76) X.x X.b dX5_grow_66 (by decide) (fun c66 => ?_) (fun c66 => ?_)
            · refine lv_iconst (v := 0) X.x X.b dX5_grow_76 (by decide) ?_
              exact h_iret X hr hz hlo (lfi (id (by unfold mf_grow; rw [if_neg c5, if_neg c33, if_pos c40, if_pos c47, if_pos c66]))) (Nat.le_of_ble_eq_true rfl) (Nat.le_of_ble_eq_true rfl) dX5_grow_77
            · refine lv_aload_n X.x X.b dX5_grow_69 rfl (lv_at hl 0 rfl) ?_
              refine h_get X hr fd_X5_67 mput_o (v := .int (((mf_sets R nd (si t 0 0) (t.1 2) (nI nd) 0 (-1)).2).1 3)) rfl dX5_grow_70 ?_
              refine lv_goto (tgt := 77) X.x X.b dX5_grow_73 (by decide) ?_
              exact h_iret X hr hz hlo (lfi (id (by unfold mf_grow; rw [if_neg c5, if_neg c33, if_pos c40, if_pos c47, if_neg c66]))) (Nat.le_of_ble_eq_true rfl) (Nat.le_of_ble_eq_true rfl) dX5_grow_77
          · refine lv_iconst (v := -1) X.x X.b dX5_grow_50 (by decide) ?_
            exact h_iret X hr hz hlo (lfi (id (by unfold mf_grow; rw [if_neg c5, if_neg c33, if_pos c40, if_neg c47]))) (Nat.le_of_ble_eq_true rfl) (Nat.le_of_ble_eq_true rfl) dX5_grow_51
    · exact absurd (by decide) c20

def mf_step (R nd : Nat) (t : MS)  : Int32 × MS :=
  if (t.1 5) = 0 then
    (0, si t 0 1)
  else
    if (mf_isReshaped R nd (si t 0 0)) = 0 then
      ((-1), si t 0 0)
    else
      if (mf_isRebuilding R nd (si t 0 0)) = 0 then
        if (mf_isCritical R nd (si t 0 0)) = 0 then
          ((mf_moves R nd (si t 0 0)).1, (mf_moves R nd (si t 0 0)).2)
        else
          if ((mf_backups R nd (si t 0 0)).1) = 0 then
            (0, (mf_backups R nd (si t 0 0)).2)
          else
            ((mf_moves R nd ((mf_backups R nd (si t 0 0)).2)).1, (mf_moves R nd ((mf_backups R nd (si t 0 0)).2)).2)
      else
        ((-1), si t 0 0)
set_option maxRecDepth 20000 in
set_option maxHeartbeats 4000000 in
theorem mc_step (l : Launch) (D : hD) (H0 : Heap) (b R nd : Nat) (t : MS) (h0 : hH) (n : Nat)  (hnd : nd ≤ 10)  (hI : GV t) : cM l D H0 yX5_step cX5_step 1 (some .int) 4 89 0 0 [.ref b] (mput b R nd t h0) n (cE (some (.int (mf_step R nd t).1)) (mput b R nd (mf_step R nd t).2 h0) n) := by
  refine h_met (by decide) (Nat.le_of_ble_eq_true rfl) ?_
  intro p e s m below meth c H ls X hnm hr hz hl
  have hl : lv_has ls 1 [(0, .ref b)] := hl
  have hlo : hL H0 ([] : List Loc) := hL.nil
  refine lv_aload_n X.x X.b dX5_step_0 rfl (lv_at hl 0 rfl) ?_
  refine lv_aload_n X.x X.b dX5_step_1 rfl (lv_at hl 0 rfl) ?_
  refine h_get X hr fd_X5_44 mput_o (v := .int (t.1 5)) rfl dX5_step_2 ?_
  refine lv_if_eq (tgt := 12) X.x X.b dX5_step_5 (by decide) (fun c5 => ?_) (fun c5 => ?_)
  · refine lv_iconst (v := 1) X.x X.b dX5_step_12 (by decide) ?_
    refine h_put X hr hz hlo fd_X5_74 tyX5 tyX5_ok nmX5 rfl mput_o (v := .int 1) rfl rfl (Nat.le_of_ble_eq_true rfl) dX5_step_13 (fun H locs hr hz hlo => ?_)
    rw [mput_s0] at hr
    refine lv_aload_n X.x X.b dX5_step_16 rfl (lv_at hl 0 rfl) ?_
    refine h_get X hr fd_X5_74 mput_o (v := .int 1) rfl dX5_step_17 ?_
    refine lv_if_le (tgt := 25) X.x X.b dX5_step_20 (by decide) (fun c20 => ?_) (fun c20 => ?_)
    · exact absurd c20 (by decide)
    · refine lv_iconst (v := 0) X.x X.b dX5_step_23 (by decide) ?_
      exact h_iret X hr hz hlo (lfi (id (by unfold mf_step; rw [if_pos c5]))) (Nat.le_of_ble_eq_true rfl) (Nat.le_of_ble_eq_true rfl) dX5_step_24
  · refine lv_iconst (v := 0) X.x X.b dX5_step_8 (by decide) ?_
    refine lv_goto (tgt := 13) X.x X.b dX5_step_9 (by decide) ?_
    refine h_put X hr hz hlo fd_X5_74 tyX5 tyX5_ok nmX5 rfl mput_o (v := .int 0) rfl rfl (Nat.le_of_ble_eq_true rfl) dX5_step_13 (fun H locs hr hz hlo => ?_)
    rw [mput_s0] at hr
    refine lv_aload_n X.x X.b dX5_step_16 rfl (lv_at hl 0 rfl) ?_
    refine h_get X hr fd_X5_74 mput_o (v := .int 0) rfl dX5_step_17 ?_
    refine lv_if_le (tgt := 25) X.x X.b dX5_step_20 (by decide) (fun c20 => ?_) (fun c20 => ?_)
    · refine lv_aload_n X.x X.b dX5_step_25 rfl (lv_at hl 0 rfl) ?_
      refine h_callV X hr hz hlo (rest := []) (mc_isReshaped l D H0 b R nd (si t 0 0) h0 n  hnd ) mput_o rfl yv_X5_isReshaped ml_X5_97 ⟨(Nat.le_of_ble_eq_true rfl), (Nat.le_of_ble_eq_true rfl)⟩ (Nat.le_of_ble_eq_true rfl) hl.1 ⟨(Nat.le_of_ble_eq_true rfl), (Nat.le_of_ble_eq_true rfl)⟩ rfl dX5_step_26 (fun v9 h9 n9 H locs hp hr hz hlo => ?_)
      obtain ⟨rfl, rfl, rfl⟩ := hp
      show W p l e _ s m _ below meth c H locs _ _ _ (F0 m 29 ls [.int (mf_isReshaped R nd (si t 0 0))])
      refine lv_if_eq (tgt := 39) X.x X.b dX5_step_29 (by decide) (fun c29 => ?_) (fun c29 => ?_)
      · refine lv_iconst (v := -1) X.x X.b dX5_step_39 (by decide) ?_
        exact h_iret X hr hz hlo (lfi (id (by unfold mf_step; rw [if_neg c5, if_pos c29]))) (Nat.le_of_ble_eq_true rfl) (Nat.le_of_ble_eq_true rfl) dX5_step_40
      · refine lv_aload_n X.x X.b dX5_step_32 rfl (lv_at hl 0 rfl) ?_
        refine h_callV X hr hz hlo (rest := []) (mc_isRebuilding l D H0 b R nd (si t 0 0) h0 n  hnd ) mput_o rfl yv_X5_isRebuilding ml_X5_135 ⟨(Nat.le_of_ble_eq_true rfl), (Nat.le_of_ble_eq_true rfl)⟩ (Nat.le_of_ble_eq_true rfl) hl.1 ⟨(Nat.le_of_ble_eq_true rfl), (Nat.le_of_ble_eq_true rfl)⟩ rfl dX5_step_33 (fun v9 h9 n9 H locs hp hr hz hlo => ?_)
        obtain ⟨rfl, rfl, rfl⟩ := hp
        show W p l e _ s m _ below meth c H locs _ _ _ (F0 m 36 ls [.int (mf_isRebuilding R nd (si t 0 0))])
        refine lv_if_eq (tgt := 41) X.x X.b dX5_step_36 (by decide) (fun c36 => ?_) (fun c36 => ?_)
        · refine lv_aload_n X.x X.b dX5_step_41 rfl (lv_at hl 0 rfl) ?_
          refine h_callV X hr hz hlo (rest := []) (mc_isCritical l D H0 b R nd (si t 0 0) h0 n  hnd ) mput_o rfl yv_X5_isCritical ml_X5_145 ⟨(Nat.le_of_ble_eq_true rfl), (Nat.le_of_ble_eq_true rfl)⟩ (Nat.le_of_ble_eq_true rfl) hl.1 ⟨(Nat.le_of_ble_eq_true rfl), (Nat.le_of_ble_eq_true rfl)⟩ rfl dX5_step_42 (fun v9 h9 n9 H locs hp hr hz hlo => ?_)
          obtain ⟨rfl, rfl, rfl⟩ := hp
          show W p l e _ s m _ below meth c H locs _ _ _ (F0 m 45 ls [.int (mf_isCritical R nd (si t 0 0))])
          refine lv_if_eq (tgt := 57) X.x X.b dX5_step_45 (by decide) (fun c45 => ?_) (fun c45 => ?_)
          · refine lv_aload_n X.x X.b dX5_step_57 rfl (lv_at hl 0 rfl) ?_
            refine h_callV X hr hz hlo (rest := []) (mc_moves l D H0 b R nd (si t 0 0) h0 n  hnd hI) mput_o rfl yv_X5_moves ml_X5_151 ⟨(Nat.le_of_ble_eq_true rfl), (Nat.le_of_ble_eq_true rfl)⟩ (Nat.le_of_ble_eq_true rfl) hl.1 ⟨(Nat.le_of_ble_eq_true rfl), (Nat.le_of_ble_eq_true rfl)⟩ rfl dX5_step_58 (fun v9 h9 n9 H locs hp hr hz hlo => ?_)
            obtain ⟨rfl, rfl, rfl⟩ := hp
            show W p l e _ s m _ below meth c H locs _ _ _ (F0 m 61 ls [.int ((mf_moves R nd (si t 0 0)).1)])
            exact h_iret X hr hz hlo (lfi (id (by unfold mf_step; rw [if_neg c5, if_neg c29, if_pos c36, if_pos c45]))) (Nat.le_of_ble_eq_true rfl) (Nat.le_of_ble_eq_true rfl) dX5_step_61
          · refine lv_aload_n X.x X.b dX5_step_48 rfl (lv_at hl 0 rfl) ?_
            refine h_callV X hr hz hlo (rest := []) (mc_backups l D H0 b R nd (si t 0 0) h0 n  hnd ) mput_o rfl yv_X5_backups ml_X5_148 ⟨(Nat.le_of_ble_eq_true rfl), (Nat.le_of_ble_eq_true rfl)⟩ (Nat.le_of_ble_eq_true rfl) hl.1 ⟨(Nat.le_of_ble_eq_true rfl), (Nat.le_of_ble_eq_true rfl)⟩ rfl dX5_step_49 (fun v9 h9 n9 H locs hp hr hz hlo => ?_)
            obtain ⟨rfl, rfl, rfl⟩ := hp
            show W p l e _ s m _ below meth c H locs _ _ _ (F0 m 52 ls [.int ((mf_backups R nd (si t 0 0)).1)])
            refine lv_if_ne (tgt := 57) X.x X.b dX5_step_52 (by decide) (fun c52 => ?_) (fun c52 => ?_)
            · refine lv_aload_n X.x X.b dX5_step_57 rfl (lv_at hl 0 rfl) ?_
              refine h_callV X hr hz hlo (rest := []) (mc_moves l D H0 b R nd ((mf_backups R nd (si t 0 0)).2) h0 n  hnd (GV_of ((mf_backups_keep ..).1 2 (by decide)) ((mf_backups_keep ..).1 3 (by decide)) hI)) mput_o rfl yv_X5_moves ml_X5_151 ⟨(Nat.le_of_ble_eq_true rfl), (Nat.le_of_ble_eq_true rfl)⟩ (Nat.le_of_ble_eq_true rfl) hl.1 ⟨(Nat.le_of_ble_eq_true rfl), (Nat.le_of_ble_eq_true rfl)⟩ rfl dX5_step_58 (fun v9 h9 n9 H locs hp hr hz hlo => ?_)
              obtain ⟨rfl, rfl, rfl⟩ := hp
              show W p l e _ s m _ below meth c H locs _ _ _ (F0 m 61 ls [.int ((mf_moves R nd ((mf_backups R nd (si t 0 0)).2)).1)])
              exact h_iret X hr hz hlo (lfi (id (by unfold mf_step; rw [if_neg c5, if_neg c29, if_pos c36, if_neg c45, if_neg c52]))) (Nat.le_of_ble_eq_true rfl) (Nat.le_of_ble_eq_true rfl) dX5_step_61
            · refine lv_iconst (v := 0) X.x X.b dX5_step_55 (by decide) ?_
              exact h_iret X hr hz hlo (lfi (id (by unfold mf_step; rw [if_neg c5, if_neg c29, if_pos c36, if_neg c45, if_pos c52]))) (Nat.le_of_ble_eq_true rfl) (Nat.le_of_ble_eq_true rfl) dX5_step_56
        · refine lv_iconst (v := -1) X.x X.b dX5_step_39 (by decide) ?_
          exact h_iret X hr hz hlo (lfi (id (by unfold mf_step; rw [if_neg c5, if_neg c29, if_neg c36]))) (Nat.le_of_ble_eq_true rfl) (Nat.le_of_ble_eq_true rfl) dX5_step_40
    · exact absurd (by decide) c20

def mf_fail (R nd : Nat) (t : MS) (disk : Int32) : Int32 × MS :=
  if disk < 0 then
    (0, si t 0 0)
  else
    if (nI nd) ≤ disk then
      (0, si t 0 0)
    else
      if (mf_notLive R nd (si t 0 0)) = (-1) then
        (1, ti (si t 0 0) 0 disk.toNatClampNeg 1)
      else
        (0, si t 0 0)
set_option maxRecDepth 20000 in
set_option maxHeartbeats 4000000 in
theorem mc_fail (l : Launch) (D : hD) (H0 : Heap) (b R nd : Nat) (t : MS) (h0 : hH) (n : Nat) (disk : Int32) (hnd : nd ≤ 10)   : cM l D H0 yX5_fail cX5_fail 2 (some .boolean) 1 22 0 0 [.ref b, .int disk] (mput b R nd t h0) n (cE (some (.int (mf_fail R nd t disk).1)) (mput b R nd (mf_fail R nd t disk).2 h0) n) := by
  refine h_met (by decide) (Nat.le_of_ble_eq_true rfl) ?_
  intro p e s m below meth c H ls X hnm hr hz hl
  have hl : lv_has ls 2 [(0, .ref b), (1, .int disk)] := hl
  have hlo : hL H0 ([] : List Loc) := hL.nil
  refine lv_aload_n X.x X.b dX5_fail_0 rfl (lv_at hl 0 rfl) ?_
  refine lv_iconst (v := 0) X.x X.b dX5_fail_1 (by decide) ?_
  refine h_put X hr hz hlo fd_X5_74 tyX5 tyX5_ok nmX5 rfl mput_o (v := .int 0) rfl rfl (Nat.le_of_ble_eq_true rfl) dX5_fail_2 (fun H locs hr hz hlo => ?_)
  rw [mput_s0] at hr
  refine lv_iload_n X.x X.b dX5_fail_5 rfl (lv_at hl 1 rfl) ?_
  refine lv_if_lt (tgt := 25) X.x X.b dX5_fail_6 (by decide) (fun c6 => ?_) (fun c6 => ?_)
  · refine lv_iconst (v := 0) X.x X.b dX5_fail_25 (by decide) ?_
    exact h_zret X hr hz hlo rfl (lfi (id (by unfold mf_fail; rw [if_pos c6]))) (Nat.le_of_ble_eq_true rfl) (Nat.le_of_ble_eq_true rfl) dX5_fail_26
  · refine lv_iload_n X.x X.b dX5_fail_9 rfl (lv_at hl 1 rfl) ?_
    refine lv_aload_n X.x X.b dX5_fail_10 rfl (lv_at hl 0 rfl) ?_
    refine h_get X hr fd_X5_58 mput_o (v := .int (nI nd)) rfl dX5_fail_11 ?_
    refine lv_icmp_ge (tgt := 25) X.x X.b dX5_fail_14 (by decide) (fun c14 => ?_) (fun c14 => ?_)
    · refine lv_iconst (v := 0) X.x X.b dX5_fail_25 (by decide) ?_
      exact h_zret X hr hz hlo rfl (lfi (id (by unfold mf_fail; rw [if_neg c6, if_pos c14]))) (Nat.le_of_ble_eq_true rfl) (Nat.le_of_ble_eq_true rfl) dX5_fail_26
    · refine lv_aload_n X.x X.b dX5_fail_17 rfl (lv_at hl 0 rfl) ?_
      refine h_callV X hr hz hlo (rest := []) (mc_notLive l D H0 b R nd (si t 0 0) h0 n  hnd ) mput_o rfl yv_X5_notLive ml_X5_154 ⟨(Nat.le_of_ble_eq_true rfl), (Nat.le_of_ble_eq_true rfl)⟩ (Nat.le_of_ble_eq_true rfl) hl.1 ⟨(Nat.le_of_ble_eq_true rfl), (Nat.le_of_ble_eq_true rfl)⟩ rfl dX5_fail_18 (fun v9 h9 n9 H locs hp hr hz hlo => ?_)
      obtain ⟨rfl, rfl, rfl⟩ := hp
      show W p l e _ s m _ below meth c H locs _ _ _ (F0 m 21 ls [.int (mf_notLive R nd (si t 0 0))])
      refine lv_iconst (v := -1) X.x X.b dX5_fail_21 (by decide) ?_
      refine lv_icmp_eq (tgt := 27) X.x X.b dX5_fail_22 (by decide) (fun c22 => ?_) (fun c22 => ?_)
      · refine lv_aload_n X.x X.b dX5_fail_27 rfl (lv_at hl 0 rfl) ?_
        refine h_get X hr fd_X5_9 mput_o (v := .ref (b + 1)) rfl dX5_fail_28 ?_
        refine lv_iload_n X.x X.b dX5_fail_31 rfl (lv_at hl 1 rfl) ?_
        refine lv_iconst (v := 1) X.x X.b dX5_fail_32 (by decide) ?_
        refine h_iast X hr hz hlo mput_1 (ix_of c6 c14 hnd (by decide)) dX5_fail_33 (fun H locs hr hz hlo => ?_)
        rw [mput_a1] at hr
        refine lv_iconst (v := 1) X.x X.b dX5_fail_34 (by decide) ?_
        exact h_zret X hr hz hlo rfl (lfi (id (by unfold mf_fail; rw [if_neg c6, if_neg c14, if_pos c22]))) (Nat.le_of_ble_eq_true rfl) (Nat.le_of_ble_eq_true rfl) dX5_fail_35
      · refine lv_iconst (v := 0) X.x X.b dX5_fail_25 (by decide) ?_
        exact h_zret X hr hz hlo rfl (lfi (id (by unfold mf_fail; rw [if_neg c6, if_neg c14, if_neg c22]))) (Nat.le_of_ble_eq_true rfl) (Nat.le_of_ble_eq_true rfl) dX5_fail_26

def mf_replace (R nd : Nat) (t : MS)  : Int32 × MS :=
  if (t.1 5) = 0 then
    (0, si t 0 0)
  else
    if (mf_notLive R nd (si t 0 0)) = (-1) then
      (0, si t 0 0)
    else
      if (t.2.1 0 ((mf_notLive R nd (si t 0 0)).toNatClampNeg)) = 1 then
        if (mf_notLive R nd (si t 0 0)) < (t.1 3) then
          (1, si (mf_tells R nd (ti (ti (ti (ti (si t 0 0) 0 ((mf_notLive R nd (si t 0 0)).toNatClampNeg) 2) 1 ((mf_notLive R nd (si t 0 0)).toNatClampNeg) 0) 6 ((mf_notLive R nd (si t 0 0)).toNatClampNeg) 0) 9 ((mf_notLive R nd (si t 0 0)).toNatClampNeg) 0) (mf_notLive R nd (si t 0 0)) 0 0 0 0) 7 0)
        else
          if ((mf_lasts R nd (si t 0 0)).1) = 0 then
            (0, (mf_lasts R nd (si t 0 0)).2)
          else
            (1, mf_fresh R nd (si ((mf_lasts R nd (si t 0 0)).2) 9 ((((mf_lasts R nd (si t 0 0)).2).1 9) + 1)) (mf_notLive R nd (si t 0 0)))
      else
        (0, si t 0 0)
set_option maxRecDepth 20000 in
set_option maxHeartbeats 4000000 in
theorem mc_replace (l : Launch) (D : hD) (H0 : Heap) (b R nd : Nat) (t : MS) (h0 : hH) (n : Nat)  (hnd : nd ≤ 10)   : cM l D H0 yX5_replace cX5_replace 2 (some .boolean) 2 46 0 0 [.ref b] (mput b R nd t h0) n (cE (some (.int (mf_replace R nd t).1)) (mput b R nd (mf_replace R nd t).2 h0) n) := by
  refine h_met (by decide) (Nat.le_of_ble_eq_true rfl) ?_
  intro p e s m below meth c H ls X hnm hr hz hl
  have hl : lv_has ls 2 [(0, .ref b)] := hl
  have hlo : hL H0 ([] : List Loc) := hL.nil
  refine lv_aload_n X.x X.b dX5_replace_0 rfl (lv_at hl 0 rfl) ?_
  refine lv_iconst (v := 0) X.x X.b dX5_replace_1 (by decide) ?_
  refine h_put X hr hz hlo fd_X5_74 tyX5 tyX5_ok nmX5 rfl mput_o (v := .int 0) rfl rfl (Nat.le_of_ble_eq_true rfl) dX5_replace_2 (fun H locs hr hz hlo => ?_)
  rw [mput_s0] at hr
  refine lv_aload_n X.x X.b dX5_replace_5 rfl (lv_at hl 0 rfl) ?_
  refine h_callV X hr hz hlo (rest := []) (mc_notLive l D H0 b R nd (si t 0 0) h0 n  hnd ) mput_o rfl yv_X5_notLive ml_X5_154 ⟨(Nat.le_of_ble_eq_true rfl), (Nat.le_of_ble_eq_true rfl)⟩ (Nat.le_of_ble_eq_true rfl) hl.1 ⟨(Nat.le_of_ble_eq_true rfl), (Nat.le_of_ble_eq_true rfl)⟩ rfl dX5_replace_6 (fun v9 h9 n9 H locs hp hr hz hlo => ?_)
  obtain ⟨rfl, rfl, rfl⟩ := hp
  show W p l e _ s m _ below meth c H locs _ _ _ (F0 m 9 ls [.int (mf_notLive R nd (si t 0 0))])
  refine lv_istore_n (lv' := [(1, .int (mf_notLive R nd (si t 0 0))), (0, .ref b)]) X.x X.b dX5_replace_9 rfl hl (by decide) rfl (fun ls hl => ?_)
  refine lv_aload_n X.x X.b dX5_replace_10 rfl (lv_at hl 1 rfl) ?_
  refine h_get X hr fd_X5_44 mput_o (v := .int (t.1 5)) rfl dX5_replace_11 ?_
  refine lv_if_eq (tgt := 32) X.x X.b dX5_replace_14 (by decide) (fun c14 => ?_) (fun c14 => ?_)
  · refine lv_iconst (v := 0) X.x X.b dX5_replace_32 (by decide) ?_
    exact h_zret X hr hz hlo rfl (lfi (id (by unfold mf_replace; rw [if_pos c14]))) (Nat.le_of_ble_eq_true rfl) (Nat.le_of_ble_eq_true rfl) dX5_replace_33
  · refine lv_iload_n X.x X.b dX5_replace_17 rfl (lv_at hl 0 rfl) ?_
    refine lv_iconst (v := -1) X.x X.b dX5_replace_18 (by decide) ?_
    refine lv_icmp_eq (tgt := 32) X.x X.b dX5_replace_19 (by decide) (fun c19 => ?_) (fun c19 => ?_)
    · refine lv_iconst (v := 0) X.x X.b dX5_replace_32 (by decide) ?_
      exact h_zret X hr hz hlo rfl (lfi (id (by unfold mf_replace; rw [if_neg c14, if_pos c19]))) (Nat.le_of_ble_eq_true rfl) (Nat.le_of_ble_eq_true rfl) dX5_replace_33
    · refine lv_aload_n X.x X.b dX5_replace_22 rfl (lv_at hl 1 rfl) ?_
      refine h_get X hr fd_X5_9 mput_o (v := .ref (b + 1)) rfl dX5_replace_23 ?_
      refine lv_iload_n X.x X.b dX5_replace_26 rfl (lv_at hl 0 rfl) ?_
      refine h_iald X hr mput_1 (mf_notLive_ix hnd c19) (v := .int (t.2.1 0 ((mf_notLive R nd (si t 0 0)).toNatClampNeg))) rfl dX5_replace_27 ?_
      refine lv_iconst (v := 1) X.x X.b dX5_replace_28 (by decide) ?_
      refine lv_icmp_eq (tgt := 34) X.x X.b dX5_replace_29 (by decide) (fun c29 => ?_) (fun c29 => ?_)
      · refine lv_iload_n X.x X.b dX5_replace_34 rfl (lv_at hl 0 rfl) ?_
        refine lv_aload_n X.x X.b dX5_replace_35 rfl (lv_at hl 1 rfl) ?_
        refine h_get X hr fd_X5_67 mput_o (v := .int (t.1 3)) rfl dX5_replace_36 ?_
        refine lv_icmp_lt (tgt := 68) X.x X.b dX5_replace_39 (by decide) (fun c39 => ?_) (fun c39 => ?_)
        · refine lv_aload_n X.x X.b dX5_replace_68 rfl (lv_at hl 1 rfl) ?_
          refine h_get X hr fd_X5_9 mput_o (v := .ref (b + 1)) rfl dX5_replace_69 ?_
          refine lv_iload_n X.x X.b dX5_replace_72 rfl (lv_at hl 0 rfl) ?_
          refine lv_iconst (v := 2) X.x X.b dX5_replace_73 (by decide) ?_
          refine h_iast X hr hz hlo mput_1 (mf_notLive_ix hnd c19) dX5_replace_74 (fun H locs hr hz hlo => ?_)
          rw [mput_a1] at hr
          refine lv_aload_n X.x X.b dX5_replace_75 rfl (lv_at hl 1 rfl) ?_
          refine h_get X hr fd_X5_13 mput_o (v := .ref (b + 2)) rfl dX5_replace_76 ?_
          refine lv_iload_n X.x X.b dX5_replace_79 rfl (lv_at hl 0 rfl) ?_
          refine lv_iconst (v := 0) X.x X.b dX5_replace_80 (by decide) ?_
          refine h_iast X hr hz hlo mput_2 (mf_notLive_ix hnd c19) dX5_replace_81 (fun H locs hr hz hlo => ?_)
          rw [mput_a2] at hr
          refine lv_aload_n X.x X.b dX5_replace_82 rfl (lv_at hl 1 rfl) ?_
          refine h_get X hr fd_X5_28 mput_o (v := .ref (b + 7)) rfl dX5_replace_83 ?_
          refine lv_iload_n X.x X.b dX5_replace_86 rfl (lv_at hl 0 rfl) ?_
          refine lv_iconst (v := 0) X.x X.b dX5_replace_87 (by decide) ?_
          refine h_iast X hr hz hlo mput_7 (mf_notLive_ix hnd c19) dX5_replace_88 (fun H locs hr hz hlo => ?_)
          rw [mput_a7] at hr
          refine lv_aload_n X.x X.b dX5_replace_89 rfl (lv_at hl 1 rfl) ?_
          refine h_get X hr fd_X5_37 mput_o (v := .ref (b + 10)) rfl dX5_replace_90 ?_
          refine lv_iload_n X.x X.b dX5_replace_93 rfl (lv_at hl 0 rfl) ?_
          refine lv_iconst (v := 0) X.x X.b dX5_replace_94 (by decide) ?_
          refine h_iast X hr hz hlo mput_10 (mf_notLive_ix hnd c19) dX5_replace_95 (fun H locs hr hz hlo => ?_)
          rw [mput_a10] at hr
          refine lv_aload_n X.x X.b dX5_replace_96 rfl (lv_at hl 1 rfl) ?_
          refine lv_iload_n X.x X.b dX5_replace_97 rfl (lv_at hl 0 rfl) ?_
          refine lv_iconst (v := 0) X.x X.b dX5_replace_98 (by decide) ?_
          refine lv_iconst (v := 0) X.x X.b dX5_replace_99 (by decide) ?_
          refine lv_iconst (v := 0) X.x X.b dX5_replace_100 (by decide) ?_
          refine lv_iconst (v := 0) X.x X.b dX5_replace_101 (by decide) ?_
          refine h_callV X hr hz hlo (rest := []) (mc_tells l D H0 b R nd (ti (ti (ti (ti (si t 0 0) 0 ((mf_notLive R nd (si t 0 0)).toNatClampNeg) 2) 1 ((mf_notLive R nd (si t 0 0)).toNatClampNeg) 0) 6 ((mf_notLive R nd (si t 0 0)).toNatClampNeg) 0) 9 ((mf_notLive R nd (si t 0 0)).toNatClampNeg) 0) h0 n (mf_notLive R nd (si t 0 0)) 0 0 0 0 hnd (mf_notLive_ix hnd c19)) mput_o rfl yv_X5_tells ml_X5_70 ⟨(Nat.le_of_ble_eq_true rfl), (Nat.le_of_ble_eq_true rfl)⟩ (Nat.le_of_ble_eq_true rfl) hl.1 ⟨(Nat.le_of_ble_eq_true rfl), (Nat.le_of_ble_eq_true rfl)⟩ rfl dX5_replace_102 (fun v9 h9 n9 H locs hp hr hz hlo => ?_)
          obtain ⟨rfl, rfl, rfl⟩ := hp
          show W p l e _ s m _ below meth c H locs _ _ _ (F0 m 105 ls [])
          refine lv_aload_n X.x X.b dX5_replace_105 rfl (lv_at hl 1 rfl) ?_
          refine lv_iconst (v := 0) X.x X.b dX5_replace_106 (by decide) ?_
          refine h_put X hr hz hlo fd_X5_80 tyX5 tyX5_ok nmX5 rfl mput_o (v := .int 0) rfl rfl (Nat.le_of_ble_eq_true rfl) dX5_replace_107 (fun H locs hr hz hlo => ?_)
          rw [mput_s7] at hr
          refine lv_iconst (v := 1) X.x X.b dX5_replace_110 (by decide) ?_
          exact h_zret X hr hz hlo rfl (lfi (id (by unfold mf_replace; rw [if_neg c14, if_neg c19, if_pos c29, if_pos c39]))) (Nat.le_of_ble_eq_true rfl) (Nat.le_of_ble_eq_true rfl) dX5_replace_111
        · refine lv_aload_n X.x X.b dX5_replace_42 rfl (lv_at hl 1 rfl) ?_
          refine h_callV X hr hz hlo (rest := []) (mc_lasts l D H0 b R nd (si t 0 0) h0 n  hnd ) mput_o rfl yv_X5_lasts ml_X5_83 ⟨(Nat.le_of_ble_eq_true rfl), (Nat.le_of_ble_eq_true rfl)⟩ (Nat.le_of_ble_eq_true rfl) hl.1 ⟨(Nat.le_of_ble_eq_true rfl), (Nat.le_of_ble_eq_true rfl)⟩ rfl dX5_replace_43 (fun v9 h9 n9 H locs hp hr hz hlo => ?_)
          obtain ⟨rfl, rfl, rfl⟩ := hp
          show W p l e _ s m _ below meth c H locs _ _ _ (F0 m 46 ls [.int ((mf_lasts R nd (si t 0 0)).1)])
          refine lv_if_ne (tgt := 51) X.x X.b dX5_replace_46 (by decide) (fun c46 => ?_) (fun c46 => ?_)
          · refine lv_aload_n X.x X.b dX5_replace_51 rfl (lv_at hl 1 rfl) ?_
            refine lv_dup X.x X.b dX5_replace_52 rfl ?_
            refine h_get X hr fd_X5_87 mput_o (v := .int (((mf_lasts R nd (si t 0 0)).2).1 9)) rfl dX5_replace_53 ?_
            refine lv_iconst (v := 1) X.x X.b dX5_replace_56 (by decide) ?_
            refine lv_iadd X.x X.b dX5_replace_57 ?_
            refine h_put X hr hz hlo fd_X5_87 tyX5 tyX5_ok nmX5 rfl mput_o (v := .int ((((mf_lasts R nd (si t 0 0)).2).1 9) + 1)) rfl rfl (Nat.le_of_ble_eq_true rfl) dX5_replace_58 (fun H locs hr hz hlo => ?_)
            rw [mput_s9] at hr
            refine lv_aload_n X.x X.b dX5_replace_61 rfl (lv_at hl 1 rfl) ?_
            refine lv_iload_n X.x X.b dX5_replace_62 rfl (lv_at hl 0 rfl) ?_
            refine h_callV X hr hz hlo (rest := []) (mc_fresh l D H0 b R nd (si ((mf_lasts R nd (si t 0 0)).2) 9 ((((mf_lasts R nd (si t 0 0)).2).1 9) + 1)) h0 n (mf_notLive R nd (si t 0 0)) hnd (mf_notLive_ix hnd c19)) mput_o rfl yv_X5_fresh ml_X5_131 ⟨(Nat.le_of_ble_eq_true rfl), (Nat.le_of_ble_eq_true rfl)⟩ (Nat.le_of_ble_eq_true rfl) hl.1 ⟨(Nat.le_of_ble_eq_true rfl), (Nat.le_of_ble_eq_true rfl)⟩ rfl dX5_replace_63 (fun v9 h9 n9 H locs hp hr hz hlo => ?_)
            obtain ⟨rfl, rfl, rfl⟩ := hp
            show W p l e _ s m _ below meth c H locs _ _ _ (F0 m 66 ls [])
            refine lv_iconst (v := 1) X.x X.b dX5_replace_66 (by decide) ?_
            exact h_zret X hr hz hlo rfl (lfi (id (by unfold mf_replace; rw [if_neg c14, if_neg c19, if_pos c29, if_neg c39, if_neg c46]))) (Nat.le_of_ble_eq_true rfl) (Nat.le_of_ble_eq_true rfl) dX5_replace_67
          · refine lv_iconst (v := 0) X.x X.b dX5_replace_49 (by decide) ?_
            exact h_zret X hr hz hlo rfl (lfi (id (by unfold mf_replace; rw [if_neg c14, if_neg c19, if_pos c29, if_neg c39, if_pos c46]))) (Nat.le_of_ble_eq_true rfl) (Nat.le_of_ble_eq_true rfl) dX5_replace_50
      · refine lv_iconst (v := 0) X.x X.b dX5_replace_32 (by decide) ?_
        exact h_zret X hr hz hlo rfl (lfi (id (by unfold mf_replace; rw [if_neg c14, if_neg c19, if_neg c29]))) (Nat.le_of_ble_eq_true rfl) (Nat.le_of_ble_eq_true rfl) dX5_replace_33

def mf_astray (R nd : Nat) (t : MS)  : Int32 × MS :=
  if (t.1 5) = 0 then
    ((-1), si t 0 0)
  else
    if (mf_notLive R nd (si t 0 0)) = (-1) then
      (0, si t 0 0)
    else
      if (t.1 3) ≤ (mf_notLive R nd (si t 0 0)) then
        (0, si t 0 0)
      else
        ((-1), si t 0 0)
set_option maxRecDepth 20000 in
set_option maxHeartbeats 4000000 in
theorem mc_astray (l : Launch) (D : hD) (H0 : Heap) (b R nd : Nat) (t : MS) (h0 : hH) (n : Nat)  (hnd : nd ≤ 10)   : cM l D H0 yX5_astray cX5_astray 2 (some .int) 1 22 0 0 [.ref b] (mput b R nd t h0) n (cE (some (.int (mf_astray R nd t).1)) (mput b R nd (mf_astray R nd t).2 h0) n) := by
  refine h_met (by decide) (Nat.le_of_ble_eq_true rfl) ?_
  intro p e s m below meth c H ls X hnm hr hz hl
  have hl : lv_has ls 2 [(0, .ref b)] := hl
  have hlo : hL H0 ([] : List Loc) := hL.nil
  refine lv_aload_n X.x X.b dX5_astray_0 rfl (lv_at hl 0 rfl) ?_
  refine lv_iconst (v := 0) X.x X.b dX5_astray_1 (by decide) ?_
  refine h_put X hr hz hlo fd_X5_74 tyX5 tyX5_ok nmX5 rfl mput_o (v := .int 0) rfl rfl (Nat.le_of_ble_eq_true rfl) dX5_astray_2 (fun H locs hr hz hlo => ?_)
  rw [mput_s0] at hr
  refine lv_aload_n X.x X.b dX5_astray_5 rfl (lv_at hl 0 rfl) ?_
  refine h_callV X hr hz hlo (rest := []) (mc_notLive l D H0 b R nd (si t 0 0) h0 n  hnd ) mput_o rfl yv_X5_notLive ml_X5_154 ⟨(Nat.le_of_ble_eq_true rfl), (Nat.le_of_ble_eq_true rfl)⟩ (Nat.le_of_ble_eq_true rfl) hl.1 ⟨(Nat.le_of_ble_eq_true rfl), (Nat.le_of_ble_eq_true rfl)⟩ rfl dX5_astray_6 (fun v9 h9 n9 H locs hp hr hz hlo => ?_)
  obtain ⟨rfl, rfl, rfl⟩ := hp
  show W p l e _ s m _ below meth c H locs _ _ _ (F0 m 9 ls [.int (mf_notLive R nd (si t 0 0))])
  refine lv_istore_n (lv' := [(1, .int (mf_notLive R nd (si t 0 0))), (0, .ref b)]) X.x X.b dX5_astray_9 rfl hl (by decide) rfl (fun ls hl => ?_)
  refine lv_aload_n X.x X.b dX5_astray_10 rfl (lv_at hl 1 rfl) ?_
  refine h_get X hr fd_X5_44 mput_o (v := .int (t.1 5)) rfl dX5_astray_11 ?_
  refine lv_if_eq (tgt := 30) X.x X.b dX5_astray_14 (by decide) (fun c14 => ?_) (fun c14 => ?_)
  · refine lv_iconst (v := -1) X.x X.b dX5_astray_30 (by decide) ?_
    refine lv_goto (tgt := 35) X.x X.b dX5_astray_31 (by decide) ?_
    exact h_iret X hr hz hlo (lfi (id (by unfold mf_astray; rw [if_pos c14]))) (Nat.le_of_ble_eq_true rfl) (Nat.le_of_ble_eq_true rfl) dX5_astray_35
  · refine lv_iload_n X.x X.b dX5_astray_17 rfl (lv_at hl 0 rfl) ?_
    refine lv_iconst (v := -1) X.x X.b dX5_astray_18 (by decide) ?_
    refine lv_icmp_eq (tgt := 34) X.x X.b dX5_astray_19 (by decide) (fun c19 => ?_) (fun c19 => ?_)
    · refine lv_iconst (v := 0) X.x X.b dX5_astray_34 (by decide) ?_
      exact h_iret X hr hz hlo (lfi (id (by unfold mf_astray; rw [if_neg c14, if_pos c19]))) (Nat.le_of_ble_eq_true rfl) (Nat.le_of_ble_eq_true rfl) dX5_astray_35
    · refine lv_iload_n X.x X.b dX5_astray_22 rfl (lv_at hl 0 rfl) ?_
      refine lv_aload_n X.x X.b dX5_astray_23 rfl (lv_at hl 1 rfl) ?_
      refine h_get X hr fd_X5_67 mput_o (v := .int (t.1 3)) rfl dX5_astray_24 ?_
      refine lv_icmp_ge (tgt := 34) X.x X.b dX5_astray_27 (by decide) (fun c27 => ?_) (fun c27 => ?_)
      · refine lv_iconst (v := 0) X.x X.b dX5_astray_34 (by decide) ?_
        exact h_iret X hr hz hlo (lfi (id (by unfold mf_astray; rw [if_neg c14, if_neg c19, if_pos c27]))) (Nat.le_of_ble_eq_true rfl) (Nat.le_of_ble_eq_true rfl) dX5_astray_35
      · refine lv_iconst (v := -1) X.x X.b dX5_astray_30 (by decide) ?_
        refine lv_goto (tgt := 35) X.x X.b dX5_astray_31 (by decide) ?_
        exact h_iret X hr hz hlo (lfi (id (by unfold mf_astray; rw [if_neg c14, if_neg c19, if_neg c27]))) (Nat.le_of_ble_eq_true rfl) (Nat.le_of_ble_eq_true rfl) dX5_astray_35
