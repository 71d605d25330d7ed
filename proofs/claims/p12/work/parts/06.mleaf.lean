def mf_thrown (R nd : Nat) (t : MS)  : Int32 :=
  t.1 0
def mf_tells (R nd : Nat) (t : MS) (d : Int32) (q : Int32) (n0 : Int32) (m0 : Int32) (f : Int32) : MS :=
  ti (ti (ti (ti t 2 d.toNatClampNeg q) 3 d.toNatClampNeg n0) 4 d.toNatClampNeg m0) 5 d.toNatClampNeg f
set_option maxRecDepth 20000 in
set_option maxHeartbeats 4000000 in
theorem mc_tells (l : Launch) (D : hD) (H0 : Heap) (b R nd : Nat) (t : MS) (h0 : hH) (n : Nat) (d : Int32) (q : Int32) (n0 : Int32) (m0 : Int32) (f : Int32) (hnd : nd ≤ 10) (h_d : vp_in d 10)  : cM l D H0 yX5_tells cX5_tells 6 none 0 0 0 0 [.ref b, .int d, .int q, .int n0, .int m0, .int f] (mput b R nd t h0) n (cE none (mput b R nd (mf_tells R nd t d q n0 m0 f) h0) n) := by
  refine h_met (by decide) (Nat.le_of_ble_eq_true rfl) ?_
  intro p e s m below meth c H ls X hnm hr hz hl
  have hl : lv_has ls 6 [(0, .ref b), (1, .int d), (2, .int q), (3, .int n0), (4, .int m0), (5, .int f)] := hl
  have hlo : hL H0 ([] : List Loc) := hL.nil
  refine lv_aload_n X.x X.b dX5_tells_0 rfl (lv_at hl 0 rfl) ?_
  refine h_get X hr fd_X5_16 mput_o (v := .ref (b + 3)) rfl dX5_tells_1 ?_
  refine lv_iload_n X.x X.b dX5_tells_4 rfl (lv_at hl 1 rfl) ?_
  refine lv_iload_n X.x X.b dX5_tells_5 rfl (lv_at hl 2 rfl) ?_
  refine h_iast X hr hz hlo mput_3 h_d dX5_tells_6 (fun H locs hr hz hlo => ?_)
  rw [mput_a3] at hr
  refine lv_aload_n X.x X.b dX5_tells_7 rfl (lv_at hl 0 rfl) ?_
  refine h_get X hr fd_X5_19 mput_o (v := .ref (b + 4)) rfl dX5_tells_8 ?_
  refine lv_iload_n X.x X.b dX5_tells_11 rfl (lv_at hl 1 rfl) ?_
  refine lv_iload_n X.x X.b dX5_tells_12 rfl (lv_at hl 3 rfl) ?_
  refine h_iast X hr hz hlo mput_4 h_d dX5_tells_13 (fun H locs hr hz hlo => ?_)
  rw [mput_a4] at hr
  refine lv_aload_n X.x X.b dX5_tells_14 rfl (lv_at hl 0 rfl) ?_
  refine h_get X hr fd_X5_22 mput_o (v := .ref (b + 5)) rfl dX5_tells_15 ?_
  refine lv_iload_n X.x X.b dX5_tells_18 rfl (lv_at hl 1 rfl) ?_
  refine lv_iload X.x X.b dX5_tells_19 (lv_at hl 4 rfl) ?_
  refine h_iast X hr hz hlo mput_5 h_d dX5_tells_21 (fun H locs hr hz hlo => ?_)
  rw [mput_a5] at hr
  refine lv_aload_n X.x X.b dX5_tells_22 rfl (lv_at hl 0 rfl) ?_
  refine h_get X hr fd_X5_25 mput_o (v := .ref (b + 6)) rfl dX5_tells_23 ?_
  refine lv_iload_n X.x X.b dX5_tells_26 rfl (lv_at hl 1 rfl) ?_
  refine lv_iload X.x X.b dX5_tells_27 (lv_at hl 5 rfl) ?_
  refine h_iast X hr hz hlo mput_6 h_d dX5_tells_29 (fun H locs hr hz hlo => ?_)
  rw [mput_a6] at hr
  exact h_vret X hr hz hlo (lfv (id (by unfold mf_tells; rfl))) (Nat.le_of_ble_eq_true rfl) (Nat.le_of_ble_eq_true rfl) dX5_tells_30

def mg_lasts_57 (R nd : Nat)  : Nat → Nat → MS → Int32 × MS
  | 0, _, t1 => (0, t1)
  | j + 1, k, t1 =>
    if (nI nd) ≤ (nI k) then
      (0, t1)
    else
      if (t1.2.1 0 k) = 1 then
        mg_lasts_57 R nd  j (k + 1)  t1
      else
        if (t1.2.1 2 k) ≤ 0 then
          mg_lasts_57 R nd  j (k + 1)  (ti t1 0 k 2)
        else
          mg_lasts_57 R nd  j (k + 1)  (ti t1 0 k 0)
def mf_lasts (R nd : Nat) (t : MS)  : Int32 × MS :=
  if (t.1 6) = 0 then
    mg_lasts_57 R nd  (nd + 1) 0  (si (si (si (si t 6 (-1)) 5 0) 11 ((t.1 11) + 1)) 7 0)
  else
    if (t.1 6) ≤ 0 then
      (1, si t 6 ((t.1 6) - 0))
    else
      (1, si t 6 ((t.1 6) - 1))
set_option maxRecDepth 20000 in
set_option maxHeartbeats 4000000 in
theorem mc_lasts (l : Launch) (D : hD) (H0 : Heap) (b R nd : Nat) (t : MS) (h0 : hH) (n : Nat)  (hnd : nd ≤ 10)   : cM l D H0 yX5_lasts cX5_lasts 2 (some .boolean) 0 0 0 0 [.ref b] (mput b R nd t h0) n (cE (some (.int (mf_lasts R nd t).1)) (mput b R nd (mf_lasts R nd t).2 h0) n) := by
  refine h_met (by decide) (Nat.le_of_ble_eq_true rfl) ?_
  intro p e s m below meth c H ls X hnm hr hz hl
  have hl : lv_has ls 2 [(0, .ref b)] := hl
  have hlo : hL H0 ([] : List Loc) := hL.nil
  have loop57 : ∀ (j k : Nat)  (t1 : MS) (hk : k ≤ nd) (hj : nd < k + j) (hG : mf_lasts R nd t = mg_lasts_57 R nd  j k t1) (H : Heap) (locs : List Loc) (ls : Array Slot), hR D H0 (mput b R nd t1 h0) H → H.size = n → hL H0 locs → lv_has ls 2 [(1, .int (nI k)), (0, .ref b)] → W p l e (rmk 0 0 0 0) s m ([.ref b] : List Value).toArray below meth c H locs 0 0 (MQ below (cQ D H0 (cE (some (.int (mf_lasts R nd t).1)) (mput b R nd (mf_lasts R nd t).2 h0) n)) ([.ref b] : List Value).toArray s 0 0 (hF H0)) (F0 m 57 ls []) := by
    intro j
    induction j with
    | zero => intro k t1 hk hj; omega
    | succ j ih =>
      intro k t1 hk hj hG H locs ls hr hz hlo hl
      refine lv_iload_n X.x X.b dX5_lasts_57 rfl (lv_at hl 0 rfl) ?_
      refine lv_aload_n X.x X.b dX5_lasts_58 rfl (lv_at hl 1 rfl) ?_
      refine h_get X hr fd_X5_58 mput_o (v := .int (nI nd)) rfl dX5_lasts_59 ?_
      refine lv_icmp_ge (tgt := 101) X.x X.b dX5_lasts_62 (by decide) (fun c62 => ?_) (fun c62 => ?_)
      · refine lv_iconst (v := 0) X.x X.b dX5_lasts_101 (by decide) ?_
        exact h_zret X hr hz hlo rfl (lfi (hG.trans (by rw [mg_lasts_57]; rw [if_pos c62]))) (Nat.le_of_ble_eq_true rfl) (Nat.le_of_ble_eq_true rfl) dX5_lasts_102
      · have hk9 : k < nd := nd_lt c62 (by omega)
        refine lv_aload_n X.x X.b dX5_lasts_65 rfl (lv_at hl 1 rfl) ?_
        refine h_get X hr fd_X5_9 mput_o (v := .ref (b + 1)) rfl dX5_lasts_66 ?_
        refine lv_iload_n X.x X.b dX5_lasts_69 rfl (lv_at hl 0 rfl) ?_
        refine h_iald X hr mput_1 (vp_in_nI (by omega) (by decide)) (v := .int (t1.2.1 0 k)) (by rw [nI_clamp (n := k) (by omega)]) dX5_lasts_70 ?_
        refine lv_iconst (v := 1) X.x X.b dX5_lasts_71 (by decide) ?_
        refine lv_icmp_eq (tgt := 95) X.x X.b dX5_lasts_72 (by decide) (fun c72 => ?_) (fun c72 => ?_)
        · refine lv_iinc (v := nI (k + 1)) (lv' := [(1, .int (nI (k + 1))), (0, .ref b)]) X.x X.b dX5_lasts_95 hl (k := 0) rfl (nI_1 k) (by decide) rfl (fun ls hl => ?_)
          refine lv_goto (tgt := 57) X.x X.b dX5_lasts_98 (by decide) ?_
          exact ih (k + 1)  t1 (by omega) (by omega) (hG.trans (by rw [mg_lasts_57]; rw [if_neg c62, if_pos c72])) _ _ _ hr hz hlo (lv_sub hl [0, 1] rfl)
        · refine lv_aload_n X.x X.b dX5_lasts_75 rfl (lv_at hl 1 rfl) ?_
          refine h_get X hr fd_X5_9 mput_o (v := .ref (b + 1)) rfl dX5_lasts_76 ?_
          refine lv_iload_n X.x X.b dX5_lasts_79 rfl (lv_at hl 0 rfl) ?_
          refine lv_aload_n X.x X.b dX5_lasts_80 rfl (lv_at hl 1 rfl) ?_
          refine h_get X hr fd_X5_16 mput_o (v := .ref (b + 3)) rfl dX5_lasts_81 ?_
          refine lv_iload_n X.x X.b dX5_lasts_84 rfl (lv_at hl 0 rfl) ?_
          refine h_iald X hr mput_3 (vp_in_nI (by omega) (by decide)) (v := .int (t1.2.1 2 k)) (by rw [nI_clamp (n := k) (by omega)]) dX5_lasts_85 ?_
          refine lv_if_le (tgt := 93) X.x X.b dX5_lasts_86 (by decide) (fun c86 => ?_) (fun c86 => ?_)
          · refine lv_iconst (v := 2) X.x X.b dX5_lasts_93 (by decide) ?_
            refine h_iast X hr hz hlo mput_1 (vp_in_nI (by omega) (by decide)) dX5_lasts_94 (fun H locs hr hz hlo => ?_)
            rw [nI_clamp (n := k) (by omega), mput_a1] at hr
            refine lv_iinc (v := nI (k + 1)) (lv' := [(1, .int (nI (k + 1))), (0, .ref b)]) X.x X.b dX5_lasts_95 hl (k := 0) rfl (nI_1 k) (by decide) rfl (fun ls hl => ?_)
            refine lv_goto (tgt := 57) X.x X.b dX5_lasts_98 (by decide) ?_
            exact ih (k + 1)  (ti t1 0 k 2) (by omega) (by omega) (hG.trans (by rw [mg_lasts_57]; rw [if_neg c62, if_neg c72, if_pos c86])) _ _ _ hr hz hlo (lv_sub hl [0, 1] rfl)
          · refine lv_iconst (v := 0) X.x X.b dX5_lasts_89 (by decide) ?_
            refine lv_goto (tgt := 94) X.x X.b dX5_lasts_90 (by decide) ?_
            refine h_iast X hr hz hlo mput_1 (vp_in_nI (by omega) (by decide)) dX5_lasts_94 (fun H locs hr hz hlo => ?_)
            rw [nI_clamp (n := k) (by omega), mput_a1] at hr
            refine lv_iinc (v := nI (k + 1)) (lv' := [(1, .int (nI (k + 1))), (0, .ref b)]) X.x X.b dX5_lasts_95 hl (k := 0) rfl (nI_1 k) (by decide) rfl (fun ls hl => ?_)
            refine lv_goto (tgt := 57) X.x X.b dX5_lasts_98 (by decide) ?_
            exact ih (k + 1)  (ti t1 0 k 0) (by omega) (by omega) (hG.trans (by rw [mg_lasts_57]; rw [if_neg c62, if_neg c72, if_neg c86])) _ _ _ hr hz hlo (lv_sub hl [0, 1] rfl)
  refine lv_aload_n X.x X.b dX5_lasts_0 rfl (lv_at hl 0 rfl) ?_
  refine h_get X hr fd_X5_48 mput_o (v := .int (t.1 6)) rfl dX5_lasts_1 ?_
  refine lv_if_eq (tgt := 30) X.x X.b dX5_lasts_4 (by decide) (fun c4 => ?_) (fun c4 => ?_)
  · refine lv_aload_n X.x X.b dX5_lasts_30 rfl (lv_at hl 0 rfl) ?_
    refine lv_iconst (v := -1) X.x X.b dX5_lasts_31 (by decide) ?_
    refine h_put X hr hz hlo fd_X5_48 tyX5 tyX5_ok nmX5 rfl mput_o (v := .int (-1)) rfl rfl (Nat.le_of_ble_eq_true rfl) dX5_lasts_32 (fun H locs hr hz hlo => ?_)
    rw [mput_s6] at hr
    refine lv_aload_n X.x X.b dX5_lasts_35 rfl (lv_at hl 0 rfl) ?_
    refine lv_iconst (v := 0) X.x X.b dX5_lasts_36 (by decide) ?_
    refine h_put X hr hz hlo fd_X5_44 tyX5 tyX5_ok nmX5 rfl mput_o (v := .int 0) rfl rfl (Nat.le_of_ble_eq_true rfl) dX5_lasts_37 (fun H locs hr hz hlo => ?_)
    rw [mput_s5] at hr
    refine lv_aload_n X.x X.b dX5_lasts_40 rfl (lv_at hl 0 rfl) ?_
    refine lv_dup X.x X.b dX5_lasts_41 rfl ?_
    refine h_get X hr fd_X5_77 mput_o (v := .int (t.1 11)) rfl dX5_lasts_42 ?_
    refine lv_iconst (v := 1) X.x X.b dX5_lasts_45 (by decide) ?_
    refine lv_iadd X.x X.b dX5_lasts_46 ?_
    refine h_put X hr hz hlo fd_X5_77 tyX5 tyX5_ok nmX5 rfl mput_o (v := .int ((t.1 11) + 1)) rfl rfl (Nat.le_of_ble_eq_true rfl) dX5_lasts_47 (fun H locs hr hz hlo => ?_)
    rw [mput_s11] at hr
    refine lv_aload_n X.x X.b dX5_lasts_50 rfl (lv_at hl 0 rfl) ?_
    refine lv_iconst (v := 0) X.x X.b dX5_lasts_51 (by decide) ?_
    refine h_put X hr hz hlo fd_X5_80 tyX5 tyX5_ok nmX5 rfl mput_o (v := .int 0) rfl rfl (Nat.le_of_ble_eq_true rfl) dX5_lasts_52 (fun H locs hr hz hlo => ?_)
    rw [mput_s7] at hr
    refine lv_iconst (v := 0) X.x X.b dX5_lasts_55 (by decide) ?_
    refine lv_istore_n (lv' := [(1, .int 0), (0, .ref b)]) X.x X.b dX5_lasts_56 rfl hl (by decide) rfl (fun ls hl => ?_)
    have hl : lv_has ls 2 [(1, .int (nI 0)), (0, .ref b)] := by rw [nI_0]; exact hl
    exact loop57 (nd + 1) 0  (si (si (si (si t 6 (-1)) 5 0) 11 ((t.1 11) + 1)) 7 0) (by omega) (by omega) (id (by unfold mf_lasts; rw [if_pos c4])) _ _ _ hr hz hlo (lv_sub hl [0, 1] rfl)
  · refine lv_aload_n X.x X.b dX5_lasts_7 rfl (lv_at hl 0 rfl) ?_
    refine lv_dup X.x X.b dX5_lasts_8 rfl ?_
    refine h_get X hr fd_X5_48 mput_o (v := .int (t.1 6)) rfl dX5_lasts_9 ?_
    refine lv_aload_n X.x X.b dX5_lasts_12 rfl (lv_at hl 0 rfl) ?_
    refine h_get X hr fd_X5_48 mput_o (v := .int (t.1 6)) rfl dX5_lasts_13 ?_
    refine lv_if_le (tgt := 23) X.x X.b dX5_lasts_16 (by decide) (fun c16 => ?_) (fun c16 => ?_)
    · refine lv_iconst (v := 0) X.x X.b dX5_lasts_23 (by decide) ?_
      refine lv_isub X.x X.b dX5_lasts_24 ?_
      refine h_put X hr hz hlo fd_X5_48 tyX5 tyX5_ok nmX5 rfl mput_o (v := .int ((t.1 6) - 0)) rfl rfl (Nat.le_of_ble_eq_true rfl) dX5_lasts_25 (fun H locs hr hz hlo => ?_)
      rw [mput_s6] at hr
      refine lv_iconst (v := 1) X.x X.b dX5_lasts_28 (by decide) ?_
      exact h_zret X hr hz hlo rfl (lfi (id (by unfold mf_lasts; rw [if_neg c4, if_pos c16]))) (Nat.le_of_ble_eq_true rfl) (Nat.le_of_ble_eq_true rfl) dX5_lasts_29
    · refine lv_iconst (v := 1) X.x X.b dX5_lasts_19 (by decide) ?_
      refine lv_goto (tgt := 24) X.x X.b dX5_lasts_20 (by decide) ?_
      refine lv_isub X.x X.b dX5_lasts_24 ?_
      refine h_put X hr hz hlo fd_X5_48 tyX5 tyX5_ok nmX5 rfl mput_o (v := .int ((t.1 6) - 1)) rfl rfl (Nat.le_of_ble_eq_true rfl) dX5_lasts_25 (fun H locs hr hz hlo => ?_)
      rw [mput_s6] at hr
      refine lv_iconst (v := 1) X.x X.b dX5_lasts_28 (by decide) ?_
      exact h_zret X hr hz hlo rfl (lfi (id (by unfold mf_lasts; rw [if_neg c4, if_neg c16]))) (Nat.le_of_ble_eq_true rfl) (Nat.le_of_ble_eq_true rfl) dX5_lasts_29

def mf_isReshaped (R nd : Nat) (t : MS)  : Int32 :=
  if (t.1 3) = (t.1 2) then
    0
  else
    1
set_option maxRecDepth 20000 in
set_option maxHeartbeats 4000000 in
theorem mc_isReshaped (l : Launch) (D : hD) (H0 : Heap) (b R nd : Nat) (t : MS) (h0 : hH) (n : Nat)  (hnd : nd ≤ 10)   : cM l D H0 yX5_isReshaped cX5_isReshaped 1 (some .boolean) 0 0 0 0 [.ref b] (mput b R nd t h0) n (cE (some (.int (mf_isReshaped R nd t))) (mput b R nd t h0) n) := by
  refine h_met (by decide) (Nat.le_of_ble_eq_true rfl) ?_
  intro p e s m below meth c H ls X hnm hr hz hl
  have hl : lv_has ls 1 [(0, .ref b)] := hl
  have hlo : hL H0 ([] : List Loc) := hL.nil
  refine lv_aload_n X.x X.b dX5_isReshaped_0 rfl (lv_at hl 0 rfl) ?_
  refine h_get X hr fd_X5_67 mput_o (v := .int (t.1 3)) rfl dX5_isReshaped_1 ?_
  refine lv_aload_n X.x X.b dX5_isReshaped_4 rfl (lv_at hl 0 rfl) ?_
  refine h_get X hr fd_X5_64 mput_o (v := .int (t.1 2)) rfl dX5_isReshaped_5 ?_
  refine lv_icmp_eq (tgt := 15) X.x X.b dX5_isReshaped_8 (by decide) (fun c8 => ?_) (fun c8 => ?_)
  · refine lv_iconst (v := 0) X.x X.b dX5_isReshaped_15 (by decide) ?_
    exact h_zret X hr hz hlo rfl (lfip (id (by unfold mf_isReshaped; rw [if_pos c8]))) (Nat.le_of_ble_eq_true rfl) (Nat.le_of_ble_eq_true rfl) dX5_isReshaped_16
  · refine lv_iconst (v := 1) X.x X.b dX5_isReshaped_11 (by decide) ?_
    refine lv_goto (tgt := 16) X.x X.b dX5_isReshaped_12 (by decide) ?_
    exact h_zret X hr hz hlo rfl (lfip (id (by unfold mf_isReshaped; rw [if_neg c8]))) (Nat.le_of_ble_eq_true rfl) (Nat.le_of_ble_eq_true rfl) dX5_isReshaped_16

def mg_notLive_4 (R nd : Nat) (t : MS)  : Nat → Nat → Int32 → Int32
  | 0, _, _ => 0
  | j + 1, k, out =>
    if (nI nd) ≤ (nI k) then
      out
    else
      if (t.2.1 0 k) = 0 then
        mg_notLive_4 R nd t  j (k + 1) out
      else
        mg_notLive_4 R nd t  j (k + 1) (nI k)
def mf_notLive (R nd : Nat) (t : MS)  : Int32 :=
  mg_notLive_4 R nd t  (nd + 1) 0 (-1)
set_option maxRecDepth 20000 in
set_option maxHeartbeats 4000000 in
theorem mc_notLive (l : Launch) (D : hD) (H0 : Heap) (b R nd : Nat) (t : MS) (h0 : hH) (n : Nat)  (hnd : nd ≤ 10)   : cM l D H0 yX5_notLive cX5_notLive 3 (some .int) 0 0 0 0 [.ref b] (mput b R nd t h0) n (cE (some (.int (mf_notLive R nd t))) (mput b R nd t h0) n) := by
  refine h_met (by decide) (Nat.le_of_ble_eq_true rfl) ?_
  intro p e s m below meth c H ls X hnm hr hz hl
  have hl : lv_has ls 3 [(0, .ref b)] := hl
  have hlo : hL H0 ([] : List Loc) := hL.nil
  have loop4 : ∀ (j k : Nat) (out : Int32) (hk : k ≤ nd) (hj : nd < k + j) (hG : mf_notLive R nd t = mg_notLive_4 R nd t  j k out) (H : Heap) (locs : List Loc) (ls : Array Slot), hR D H0 (mput b R nd t h0) H → H.size = n → hL H0 locs → lv_has ls 3 [(2, .int (nI k)), (1, .int out), (0, .ref b)] → W p l e (rmk 0 0 0 0) s m ([.ref b] : List Value).toArray below meth c H locs 0 0 (MQ below (cQ D H0 (cE (some (.int (mf_notLive R nd t))) (mput b R nd t h0) n)) ([.ref b] : List Value).toArray s 0 0 (hF H0)) (F0 m 4 ls []) := by
    intro j
    induction j with
    | zero => intro k out hk hj; omega
    | succ j ih =>
      intro k out hk hj hG H locs ls hr hz hlo hl
      refine lv_iload_n X.x X.b dX5_notLive_4 rfl (lv_at hl 0 rfl) ?_
      refine lv_aload_n X.x X.b dX5_notLive_5 rfl (lv_at hl 2 rfl) ?_
      refine h_get X hr fd_X5_58 mput_o (v := .int (nI nd)) rfl dX5_notLive_6 ?_
      refine lv_icmp_ge (tgt := 33) X.x X.b dX5_notLive_9 (by decide) (fun c9 => ?_) (fun c9 => ?_)
      · refine lv_iload_n X.x X.b dX5_notLive_33 rfl (lv_at hl 1 rfl) ?_
        exact h_iret X hr hz hlo (lfip (hG.trans (by rw [mg_notLive_4]; rw [if_pos c9]))) (Nat.le_of_ble_eq_true rfl) (Nat.le_of_ble_eq_true rfl) dX5_notLive_34
      · have hk9 : k < nd := nd_lt c9 (by omega)
        refine lv_aload_n X.x X.b dX5_notLive_12 rfl (lv_at hl 2 rfl) ?_
        refine h_get X hr fd_X5_9 mput_o (v := .ref (b + 1)) rfl dX5_notLive_13 ?_
        refine lv_iload_n X.x X.b dX5_notLive_16 rfl (lv_at hl 0 rfl) ?_
        refine h_iald X hr mput_1 (vp_in_nI (by omega) (by decide)) (v := .int (t.2.1 0 k)) (by rw [nI_clamp (n := k) (by omega)]) dX5_notLive_17 ?_
        refine lv_if_ne (tgt := 25) X.x X.b dX5_notLive_18 (by decide) (fun c18 => ?_) (fun c18 => ?_)
        · refine lv_iload_n X.x X.b dX5_notLive_25 rfl (lv_at hl 0 rfl) ?_
          refine lv_istore_n (lv' := [(1, .int (nI k)), (2, .int (nI k)), (0, .ref b)]) X.x X.b dX5_notLive_26 rfl hl (by decide) rfl (fun ls hl => ?_)
          refine lv_iinc (v := nI (k + 1)) (lv' := [(2, .int (nI (k + 1))), (1, .int (nI k)), (0, .ref b)]) X.x X.b dX5_notLive_27 hl (k := 1) rfl (nI_1 k) (by decide) rfl (fun ls hl => ?_)
          refine lv_goto (tgt := 4) X.x X.b dX5_notLive_30 (by decide) ?_
          exact ih (k + 1) (nI k) (by omega) (by omega) (hG.trans (by rw [mg_notLive_4]; rw [if_neg c9, if_neg c18])) _ _ _ hr hz hlo (lv_sub hl [0, 1, 2] rfl)
        · refine lv_iload_n X.x X.b dX5_notLive_21 rfl (lv_at hl 1 rfl) ?_
          refine lv_goto (tgt := 26) X.x X.b dX5_notLive_22 (by decide) ?_
          refine lv_istore_n (lv' := [(1, .int out), (2, .int (nI k)), (0, .ref b)]) X.x X.b dX5_notLive_26 rfl hl (by decide) rfl (fun ls hl => ?_)
          refine lv_iinc (v := nI (k + 1)) (lv' := [(2, .int (nI (k + 1))), (1, .int out), (0, .ref b)]) X.x X.b dX5_notLive_27 hl (k := 1) rfl (nI_1 k) (by decide) rfl (fun ls hl => ?_)
          refine lv_goto (tgt := 4) X.x X.b dX5_notLive_30 (by decide) ?_
          exact ih (k + 1) out (by omega) (by omega) (hG.trans (by rw [mg_notLive_4]; rw [if_neg c9, if_pos c18])) _ _ _ hr hz hlo (lv_sub hl [0, 1, 2] rfl)
  refine lv_iconst (v := -1) X.x X.b dX5_notLive_0 (by decide) ?_
  refine lv_istore_n (lv' := [(1, .int (-1)), (0, .ref b)]) X.x X.b dX5_notLive_1 rfl hl (by decide) rfl (fun ls hl => ?_)
  refine lv_iconst (v := 0) X.x X.b dX5_notLive_2 (by decide) ?_
  refine lv_istore_n (lv' := [(2, .int 0), (1, .int (-1)), (0, .ref b)]) X.x X.b dX5_notLive_3 rfl hl (by decide) rfl (fun ls hl => ?_)
  have hl : lv_has ls 3 [(2, .int (nI 0)), (1, .int (-1)), (0, .ref b)] := by rw [nI_0]; exact hl
  exact loop4 (nd + 1) 0 (-1) (by omega) (by omega) (id (by unfold mf_notLive; rfl)) _ _ _ hr hz hlo (lv_sub hl [0, 1, 2] rfl)

def mg_isRebuilding_4 (R nd : Nat) (t : MS)  : Nat → Nat → Int32 → Int32
  | 0, _, _ => 0
  | j + 1, k, is1 =>
    if (nI nd) ≤ (nI k) then
      is1
    else
      if is1 = 0 then
        if (t.2.1 0 k) = 2 then
          mg_isRebuilding_4 R nd t  j (k + 1) 1
        else
          mg_isRebuilding_4 R nd t  j (k + 1) 0
      else
        mg_isRebuilding_4 R nd t  j (k + 1) 1
def mf_isRebuilding (R nd : Nat) (t : MS)  : Int32 :=
  mg_isRebuilding_4 R nd t  (nd + 1) 0 0
set_option maxRecDepth 20000 in
set_option maxHeartbeats 4000000 in
theorem mc_isRebuilding (l : Launch) (D : hD) (H0 : Heap) (b R nd : Nat) (t : MS) (h0 : hH) (n : Nat)  (hnd : nd ≤ 10)   : cM l D H0 yX5_isRebuilding cX5_isRebuilding 3 (some .boolean) 0 0 0 0 [.ref b] (mput b R nd t h0) n (cE (some (.int (mf_isRebuilding R nd t))) (mput b R nd t h0) n) := by
  refine h_met (by decide) (Nat.le_of_ble_eq_true rfl) ?_
  intro p e s m below meth c H ls X hnm hr hz hl
  have hl : lv_has ls 3 [(0, .ref b)] := hl
  have hlo : hL H0 ([] : List Loc) := hL.nil
  have loop4 : ∀ (j k : Nat) (is1 : Int32) (hk : k ≤ nd) (hj : nd < k + j) (hb : is1 = 0 ∨ is1 = 1) (hG : mf_isRebuilding R nd t = mg_isRebuilding_4 R nd t  j k is1) (H : Heap) (locs : List Loc) (ls : Array Slot), hR D H0 (mput b R nd t h0) H → H.size = n → hL H0 locs → lv_has ls 3 [(2, .int (nI k)), (1, .int is1), (0, .ref b)] → W p l e (rmk 0 0 0 0) s m ([.ref b] : List Value).toArray below meth c H locs 0 0 (MQ below (cQ D H0 (cE (some (.int (mf_isRebuilding R nd t))) (mput b R nd t h0) n)) ([.ref b] : List Value).toArray s 0 0 (hF H0)) (F0 m 4 ls []) := by
    intro j
    induction j with
    | zero => intro k is1 hk hj; omega
    | succ j ih =>
      intro k is1 hk hj hb hG H locs ls hr hz hlo hl
      refine lv_iload_n X.x X.b dX5_isRebuilding_4 rfl (lv_at hl 0 rfl) ?_
      refine lv_aload_n X.x X.b dX5_isRebuilding_5 rfl (lv_at hl 2 rfl) ?_
      refine h_get X hr fd_X5_58 mput_o (v := .int (nI nd)) rfl dX5_isRebuilding_6 ?_
      refine lv_icmp_ge (tgt := 38) X.x X.b dX5_isRebuilding_9 (by decide) (fun c9 => ?_) (fun c9 => ?_)
      · refine lv_iload_n X.x X.b dX5_isRebuilding_38 rfl (lv_at hl 1 rfl) ?_
        exact h_zret X hr hz hlo (nb hb) (lfip (hG.trans (by rw [mg_isRebuilding_4]; rw [if_pos c9]))) (Nat.le_of_ble_eq_true rfl) (Nat.le_of_ble_eq_true rfl) dX5_isRebuilding_39
      · have hk9 : k < nd := nd_lt c9 (by omega)
        refine lv_iload_n X.x X.b dX5_isRebuilding_12 rfl (lv_at hl 1 rfl) ?_
        refine lv_if_ne (tgt := 26) X.x X.b dX5_isRebuilding_13 (by decide) (fun c13 => ?_) (fun c13 => ?_)
        · refine lv_iconst (v := 1) X.x X.b dX5_isRebuilding_26 (by decide) ?_
          refine lv_goto (tgt := 31) X.x X.b dX5_isRebuilding_27 (by decide) ?_
          refine lv_istore_n (lv' := [(1, .int 1), (2, .int (nI k)), (0, .ref b)]) X.x X.b dX5_isRebuilding_31 rfl hl (by decide) rfl (fun ls hl => ?_)
          refine lv_iinc (v := nI (k + 1)) (lv' := [(2, .int (nI (k + 1))), (1, .int 1), (0, .ref b)]) X.x X.b dX5_isRebuilding_32 hl (k := 1) rfl (nI_1 k) (by decide) rfl (fun ls hl => ?_)
          refine lv_goto (tgt := 4) X.x X.b dX5_isRebuilding_35 (by decide) ?_
          exact ih (k + 1) 1 (by omega) (by omega) (Or.inr rfl) (hG.trans (by rw [mg_isRebuilding_4]; rw [if_neg c9, if_neg c13])) _ _ _ hr hz hlo (lv_sub hl [0, 1, 2] rfl)
        · refine lv_aload_n X.x X.b dX5_isRebuilding_16 rfl (lv_at hl 2 rfl) ?_
          refine h_get X hr fd_X5_9 mput_o (v := .ref (b + 1)) rfl dX5_isRebuilding_17 ?_
          refine lv_iload_n X.x X.b dX5_isRebuilding_20 rfl (lv_at hl 0 rfl) ?_
          refine h_iald X hr mput_1 (vp_in_nI (by omega) (by decide)) (v := .int (t.2.1 0 k)) (by rw [nI_clamp (n := k) (by omega)]) dX5_isRebuilding_21 ?_
          refine lv_iconst (v := 2) X.x X.b dX5_isRebuilding_22 (by decide) ?_
          refine lv_icmp_ne (tgt := 30) X.x X.b dX5_isRebuilding_23 (by decide) (fun c23 => ?_) (fun c23 => ?_)
          · refine lv_iconst (v := 0) X.x X.b dX5_isRebuilding_30 (by decide) ?_
            refine lv_istore_n (lv' := [(1, .int 0), (2, .int (nI k)), (0, .ref b)]) X.x X.b dX5_isRebuilding_31 rfl hl (by decide) rfl (fun ls hl => ?_)
            refine lv_iinc (v := nI (k + 1)) (lv' := [(2, .int (nI (k + 1))), (1, .int 0), (0, .ref b)]) X.x X.b dX5_isRebuilding_32 hl (k := 1) rfl (nI_1 k) (by decide) rfl (fun ls hl => ?_)
            refine lv_goto (tgt := 4) X.x X.b dX5_isRebuilding_35 (by decide) ?_
            exact ih (k + 1) 0 (by omega) (by omega) (Or.inl rfl) (hG.trans (by rw [mg_isRebuilding_4]; rw [if_neg c9, if_pos c13, if_neg c23])) _ _ _ hr hz hlo (lv_sub hl [0, 1, 2] rfl)
          · refine lv_iconst (v := 1) X.x X.b dX5_isRebuilding_26 (by decide) ?_
            refine lv_goto (tgt := 31) X.x X.b dX5_isRebuilding_27 (by decide) ?_
            refine lv_istore_n (lv' := [(1, .int 1), (2, .int (nI k)), (0, .ref b)]) X.x X.b dX5_isRebuilding_31 rfl hl (by decide) rfl (fun ls hl => ?_)
            refine lv_iinc (v := nI (k + 1)) (lv' := [(2, .int (nI (k + 1))), (1, .int 1), (0, .ref b)]) X.x X.b dX5_isRebuilding_32 hl (k := 1) rfl (nI_1 k) (by decide) rfl (fun ls hl => ?_)
            refine lv_goto (tgt := 4) X.x X.b dX5_isRebuilding_35 (by decide) ?_
            exact ih (k + 1) 1 (by omega) (by omega) (Or.inr rfl) (hG.trans (by rw [mg_isRebuilding_4]; rw [if_neg c9, if_pos c13, if_pos c23])) _ _ _ hr hz hlo (lv_sub hl [0, 1, 2] rfl)
  refine lv_iconst (v := 0) X.x X.b dX5_isRebuilding_0 (by decide) ?_
  refine lv_istore_n (lv' := [(1, .int 0), (0, .ref b)]) X.x X.b dX5_isRebuilding_1 rfl hl (by decide) rfl (fun ls hl => ?_)
  refine lv_iconst (v := 0) X.x X.b dX5_isRebuilding_2 (by decide) ?_
  refine lv_istore_n (lv' := [(2, .int 0), (1, .int 0), (0, .ref b)]) X.x X.b dX5_isRebuilding_3 rfl hl (by decide) rfl (fun ls hl => ?_)
  have hl : lv_has ls 3 [(2, .int (nI 0)), (1, .int 0), (0, .ref b)] := by rw [nI_0]; exact hl
  exact loop4 (nd + 1) 0 0 (by omega) (by omega) (Or.inl rfl) (id (by unfold mf_isRebuilding; rfl)) _ _ _ hr hz hlo (lv_sub hl [0, 1, 2] rfl)

def mf_places (R nd : Nat) (t : MS)  : Int32 :=
  (nI R) * ((t.1 2) - 1)
set_option maxRecDepth 20000 in
set_option maxHeartbeats 4000000 in
theorem mc_places (l : Launch) (D : hD) (H0 : Heap) (b R nd : Nat) (t : MS) (h0 : hH) (n : Nat)  (hnd : nd ≤ 10)   : cM l D H0 yX5_places cX5_places 1 (some .int) 0 0 0 0 [.ref b] (mput b R nd t h0) n (cE (some (.int (mf_places R nd t))) (mput b R nd t h0) n) := by
  refine h_met (by decide) (Nat.le_of_ble_eq_true rfl) ?_
  intro p e s m below meth c H ls X hnm hr hz hl
  have hl : lv_has ls 1 [(0, .ref b)] := hl
  have hlo : hL H0 ([] : List Loc) := hL.nil
  refine lv_aload_n X.x X.b dX5_places_0 rfl (lv_at hl 0 rfl) ?_
  refine h_get X hr fd_X5_55 mput_o (v := .int (nI R)) rfl dX5_places_1 ?_
  refine lv_aload_n X.x X.b dX5_places_4 rfl (lv_at hl 0 rfl) ?_
  refine h_get X hr fd_X5_64 mput_o (v := .int (t.1 2)) rfl dX5_places_5 ?_
  refine lv_iconst (v := 1) X.x X.b dX5_places_8 (by decide) ?_
  refine lv_isub X.x X.b dX5_places_9 ?_
  refine lv_imul X.x X.b dX5_places_10 ?_
  exact h_iret X hr hz hlo (lfip (id (by unfold mf_places; rfl))) (Nat.le_of_ble_eq_true rfl) (Nat.le_of_ble_eq_true rfl) dX5_places_11

def mf_isCritical (R nd : Nat) (t : MS)  : Int32 :=
  if ((t.1 2) - 1) ≤ ((t.1 4) * ((t.1 3) - (t.1 2))) then
    0
  else
    1
set_option maxRecDepth 20000 in
set_option maxHeartbeats 4000000 in
theorem mc_isCritical (l : Launch) (D : hD) (H0 : Heap) (b R nd : Nat) (t : MS) (h0 : hH) (n : Nat)  (hnd : nd ≤ 10)   : cM l D H0 yX5_isCritical cX5_isCritical 1 (some .boolean) 0 0 0 0 [.ref b] (mput b R nd t h0) n (cE (some (.int (mf_isCritical R nd t))) (mput b R nd t h0) n) := by
  refine h_met (by decide) (Nat.le_of_ble_eq_true rfl) ?_
  intro p e s m below meth c H ls X hnm hr hz hl
  have hl : lv_has ls 1 [(0, .ref b)] := hl
  have hlo : hL H0 ([] : List Loc) := hL.nil
  refine lv_aload_n X.x X.b dX5_isCritical_0 rfl (lv_at hl 0 rfl) ?_
  refine h_get X hr fd_X5_94 mput_o (v := .int (t.1 4)) rfl dX5_isCritical_1 ?_
  refine lv_aload_n X.x X.b dX5_isCritical_4 rfl (lv_at hl 0 rfl) ?_
  refine h_get X hr fd_X5_67 mput_o (v := .int (t.1 3)) rfl dX5_isCritical_5 ?_
  refine lv_aload_n X.x X.b dX5_isCritical_8 rfl (lv_at hl 0 rfl) ?_
  refine h_get X hr fd_X5_64 mput_o (v := .int (t.1 2)) rfl dX5_isCritical_9 ?_
  refine lv_isub X.x X.b dX5_isCritical_12 ?_
  refine lv_imul X.x X.b dX5_isCritical_13 ?_
  refine lv_aload_n X.x X.b dX5_isCritical_14 rfl (lv_at hl 0 rfl) ?_
  refine h_get X hr fd_X5_64 mput_o (v := .int (t.1 2)) rfl dX5_isCritical_15 ?_
  refine lv_iconst (v := 1) X.x X.b dX5_isCritical_18 (by decide) ?_
  refine lv_isub X.x X.b dX5_isCritical_19 ?_
  refine lv_icmp_ge (tgt := 27) X.x X.b dX5_isCritical_20 (by decide) (fun c20 => ?_) (fun c20 => ?_)
  · refine lv_iconst (v := 0) X.x X.b dX5_isCritical_27 (by decide) ?_
    exact h_zret X hr hz hlo rfl (lfip (id (by unfold mf_isCritical; rw [if_pos c20]))) (Nat.le_of_ble_eq_true rfl) (Nat.le_of_ble_eq_true rfl) dX5_isCritical_28
  · refine lv_iconst (v := 1) X.x X.b dX5_isCritical_23 (by decide) ?_
    refine lv_goto (tgt := 28) X.x X.b dX5_isCritical_24 (by decide) ?_
    exact h_zret X hr hz hlo rfl (lfip (id (by unfold mf_isCritical; rw [if_neg c20]))) (Nat.le_of_ble_eq_true rfl) (Nat.le_of_ble_eq_true rfl) dX5_isCritical_28

def mf_cut (R nd : Nat) (t : MS) (n0 : Int32) : MS :=
  if 0 ≤ n0 then
    si (si t 0 0) 6 n0
  else
    si (si t 0 0) 6 (-1)
set_option maxRecDepth 20000 in
set_option maxHeartbeats 4000000 in
theorem mc_cut (l : Launch) (D : hD) (H0 : Heap) (b R nd : Nat) (t : MS) (h0 : hH) (n : Nat) (n0 : Int32) (hnd : nd ≤ 10)   : cM l D H0 yX5_cut cX5_cut 2 none 0 0 0 0 [.ref b, .int n0] (mput b R nd t h0) n (cE none (mput b R nd (mf_cut R nd t n0) h0) n) := by
  refine h_met (by decide) (Nat.le_of_ble_eq_true rfl) ?_
  intro p e s m below meth c H ls X hnm hr hz hl
  have hl : lv_has ls 2 [(0, .ref b), (1, .int n0)] := hl
  have hlo : hL H0 ([] : List Loc) := hL.nil
  refine lv_aload_n X.x X.b dX5_cut_0 rfl (lv_at hl 0 rfl) ?_
  refine lv_iconst (v := 0) X.x X.b dX5_cut_1 (by decide) ?_
  refine h_put X hr hz hlo fd_X5_74 tyX5 tyX5_ok nmX5 rfl mput_o (v := .int 0) rfl rfl (Nat.le_of_ble_eq_true rfl) dX5_cut_2 (fun H locs hr hz hlo => ?_)
  rw [mput_s0] at hr
  refine lv_aload_n X.x X.b dX5_cut_5 rfl (lv_at hl 0 rfl) ?_
  refine lv_iload_n X.x X.b dX5_cut_6 rfl (lv_at hl 1 rfl) ?_
  refine lv_if_ge (tgt := 14) X.x X.b dX5_cut_7 (by decide) (fun c7 => ?_) (fun c7 => ?_)
  · refine lv_iload_n X.x X.b dX5_cut_14 rfl (lv_at hl 1 rfl) ?_
    refine h_put X hr hz hlo fd_X5_48 tyX5 tyX5_ok nmX5 rfl mput_o (v := .int n0) rfl rfl (Nat.le_of_ble_eq_true rfl) dX5_cut_15 (fun H locs hr hz hlo => ?_)
    rw [mput_s6] at hr
    exact h_vret X hr hz hlo (lfv (id (by unfold mf_cut; rw [if_pos c7]))) (Nat.le_of_ble_eq_true rfl) (Nat.le_of_ble_eq_true rfl) dX5_cut_18
  · refine lv_iconst (v := -1) X.x X.b dX5_cut_10 (by decide) ?_
    refine lv_goto (tgt := 15) X.x X.b dX5_cut_11 (by decide) ?_
    refine h_put X hr hz hlo fd_X5_48 tyX5 tyX5_ok nmX5 rfl mput_o (v := .int (-1)) rfl rfl (Nat.le_of_ble_eq_true rfl) dX5_cut_15 (fun H locs hr hz hlo => ?_)
    rw [mput_s6] at hr
    exact h_vret X hr hz hlo (lfv (id (by unfold mf_cut; rw [if_neg c7]))) (Nat.le_of_ble_eq_true rfl) (Nat.le_of_ble_eq_true rfl) dX5_cut_18

def mf_isByM (R nd : Nat) (t : MS) (a : Int32) : Int32 :=
  if (mf_isReshaped R nd t) = 0 then
    0
  else
    if ((t.1 4) * ((t.1 3) - 1)) ≤ a then
      0
    else
      1
set_option maxRecDepth 20000 in
set_option maxHeartbeats 4000000 in
theorem mc_isByM (l : Launch) (D : hD) (H0 : Heap) (b R nd : Nat) (t : MS) (h0 : hH) (n : Nat) (a : Int32) (hnd : nd ≤ 10)   : cM l D H0 yX5_isByM cX5_isByM 2 (some .boolean) 1 20 0 0 [.ref b, .int a] (mput b R nd t h0) n (cE (some (.int (mf_isByM R nd t a))) (mput b R nd t h0) n) := by
  refine h_met (by decide) (Nat.le_of_ble_eq_true rfl) ?_
  intro p e s m below meth c H ls X hnm hr hz hl
  have hl : lv_has ls 2 [(0, .ref b), (1, .int a)] := hl
  have hlo : hL H0 ([] : List Loc) := hL.nil
  refine lv_aload_n X.x X.b dX5_isByM_0 rfl (lv_at hl 0 rfl) ?_
  refine h_callV X hr hz hlo (rest := []) (mc_isReshaped l D H0 b R nd t h0 n  hnd ) mput_o rfl yv_X5_isReshaped ml_X5_97 ⟨(Nat.le_of_ble_eq_true rfl), (Nat.le_of_ble_eq_true rfl)⟩ (Nat.le_of_ble_eq_true rfl) hl.1 ⟨(Nat.le_of_ble_eq_true rfl), (Nat.le_of_ble_eq_true rfl)⟩ rfl dX5_isByM_1 (fun v9 h9 n9 H locs hp hr hz hlo => ?_)
  obtain ⟨rfl, rfl, rfl⟩ := hp
  show W p l e _ s m _ below meth c H locs _ _ _ (F0 m 4 ls [.int (mf_isReshaped R nd t)])
  refine lv_if_eq (tgt := 26) X.x X.b dX5_isByM_4 (by decide) (fun c4 => ?_) (fun c4 => ?_)
  · refine lv_iconst (v := 0) X.x X.b dX5_isByM_26 (by decide) ?_
    exact h_zret X hr hz hlo rfl (lfip (id (by unfold mf_isByM; rw [if_pos c4]))) (Nat.le_of_ble_eq_true rfl) (Nat.le_of_ble_eq_true rfl) dX5_isByM_27
  · refine lv_iload_n X.x X.b dX5_isByM_7 rfl (lv_at hl 1 rfl) ?_
    refine lv_aload_n X.x X.b dX5_isByM_8 rfl (lv_at hl 0 rfl) ?_
    refine h_get X hr fd_X5_94 mput_o (v := .int (t.1 4)) rfl dX5_isByM_9 ?_
    refine lv_aload_n X.x X.b dX5_isByM_12 rfl (lv_at hl 0 rfl) ?_
    refine h_get X hr fd_X5_67 mput_o (v := .int (t.1 3)) rfl dX5_isByM_13 ?_
    refine lv_iconst (v := 1) X.x X.b dX5_isByM_16 (by decide) ?_
    refine lv_isub X.x X.b dX5_isByM_17 ?_
    refine lv_imul X.x X.b dX5_isByM_18 ?_
    refine lv_icmp_ge (tgt := 26) X.x X.b dX5_isByM_19 (by decide) (fun c19 => ?_) (fun c19 => ?_)
    · refine lv_iconst (v := 0) X.x X.b dX5_isByM_26 (by decide) ?_
      exact h_zret X hr hz hlo rfl (lfip (id (by unfold mf_isByM; rw [if_neg c4, if_pos c19]))) (Nat.le_of_ble_eq_true rfl) (Nat.le_of_ble_eq_true rfl) dX5_isByM_27
    · refine lv_iconst (v := 1) X.x X.b dX5_isByM_22 (by decide) ?_
      refine lv_goto (tgt := 27) X.x X.b dX5_isByM_23 (by decide) ?_
      exact h_zret X hr hz hlo rfl (lfip (id (by unfold mf_isByM; rw [if_neg c4, if_neg c19]))) (Nat.le_of_ble_eq_true rfl) (Nat.le_of_ble_eq_true rfl) dX5_isByM_27

def mf_width (R nd : Nat) (t : MS) (a : Int32) : Int32 :=
  if (mf_isByM R nd t a) = 0 then
    t.1 2
  else
    t.1 3
set_option maxRecDepth 20000 in
set_option maxHeartbeats 4000000 in
theorem mc_width (l : Launch) (D : hD) (H0 : Heap) (b R nd : Nat) (t : MS) (h0 : hH) (n : Nat) (a : Int32) (hnd : nd ≤ 10)   : cM l D H0 yX5_width cX5_width 2 (some .int) 2 41 0 0 [.ref b, .int a] (mput b R nd t h0) n (cE (some (.int (mf_width R nd t a))) (mput b R nd t h0) n) := by
  refine h_met (by decide) (Nat.le_of_ble_eq_true rfl) ?_
  intro p e s m below meth c H ls X hnm hr hz hl
  have hl : lv_has ls 2 [(0, .ref b), (1, .int a)] := hl
  have hlo : hL H0 ([] : List Loc) := hL.nil
  refine lv_aload_n X.x X.b dX5_width_0 rfl (lv_at hl 0 rfl) ?_
  refine lv_iload_n X.x X.b dX5_width_1 rfl (lv_at hl 1 rfl) ?_
  refine h_callV X hr hz hlo (rest := []) (mc_isByM l D H0 b R nd t h0 n a hnd ) mput_o rfl yv_X5_isByM ml_X5_100 ⟨(Nat.le_of_ble_eq_true rfl), (Nat.le_of_ble_eq_true rfl)⟩ (Nat.le_of_ble_eq_true rfl) hl.1 ⟨(Nat.le_of_ble_eq_true rfl), (Nat.le_of_ble_eq_true rfl)⟩ rfl dX5_width_2 (fun v9 h9 n9 H locs hp hr hz hlo => ?_)
  obtain ⟨rfl, rfl, rfl⟩ := hp
  show W p l e _ s m _ below meth c H locs _ _ _ (F0 m 5 ls [.int (mf_isByM R nd t a)])
  refine lv_if_eq (tgt := 15) X.x X.b dX5_width_5 (by decide) (fun c5 => ?_) (fun c5 => ?_)
  · refine lv_aload_n X.x X.b dX5_width_15 rfl (lv_at hl 0 rfl) ?_
    refine h_get X hr fd_X5_64 mput_o (v := .int (t.1 2)) rfl dX5_width_16 ?_
    exact h_iret X hr hz hlo (lfip (id (by unfold mf_width; rw [if_pos c5]))) (Nat.le_of_ble_eq_true rfl) (Nat.le_of_ble_eq_true rfl) dX5_width_19
  · refine lv_aload_n X.x X.b dX5_width_8 rfl (lv_at hl 0 rfl) ?_
    refine h_get X hr fd_X5_67 mput_o (v := .int (t.1 3)) rfl dX5_width_9 ?_
    refine lv_goto (tgt := 19) X.x X.b dX5_width_12 (by decide) ?_
    exact h_iret X hr hz hlo (lfip (id (by unfold mf_width; rw [if_neg c5]))) (Nat.le_of_ble_eq_true rfl) (Nat.le_of_ble_eq_true rfl) dX5_width_19

def mf_rowOf (R nd : Nat) (t : MS) (a : Int32) : Int32 :=
  a / ((mf_width R nd t a) - 1)
set_option maxRecDepth 20000 in
set_option maxHeartbeats 4000000 in
theorem mc_rowOf (l : Launch) (D : hD) (H0 : Heap) (b R nd : Nat) (t : MS) (h0 : hH) (n : Nat) (a : Int32) (hnd : nd ≤ 10)  (hw1 : ¬ mf_width R nd t a - 1 = 0) : cM l D H0 yX5_rowOf cX5_rowOf 2 (some .int) 3 62 0 0 [.ref b, .int a] (mput b R nd t h0) n (cE (some (.int (mf_rowOf R nd t a))) (mput b R nd t h0) n) := by
  refine h_met (by decide) (Nat.le_of_ble_eq_true rfl) ?_
  intro p e s m below meth c H ls X hnm hr hz hl
  have hl : lv_has ls 2 [(0, .ref b), (1, .int a)] := hl
  have hlo : hL H0 ([] : List Loc) := hL.nil
  refine lv_iload_n X.x X.b dX5_rowOf_0 rfl (lv_at hl 1 rfl) ?_
  refine lv_aload_n X.x X.b dX5_rowOf_1 rfl (lv_at hl 0 rfl) ?_
  refine lv_iload_n X.x X.b dX5_rowOf_2 rfl (lv_at hl 1 rfl) ?_
  refine h_callV X hr hz hlo (rest := [.int a]) (mc_width l D H0 b R nd t h0 n a hnd ) mput_o rfl yv_X5_width ml_X5_103 ⟨(Nat.le_of_ble_eq_true rfl), (Nat.le_of_ble_eq_true rfl)⟩ (Nat.le_of_ble_eq_true rfl) hl.1 ⟨(Nat.le_of_ble_eq_true rfl), (Nat.le_of_ble_eq_true rfl)⟩ rfl dX5_rowOf_3 (fun v9 h9 n9 H locs hp hr hz hlo => ?_)
  obtain ⟨rfl, rfl, rfl⟩ := hp
  show W p l e _ s m _ below meth c H locs _ _ _ (F0 m 6 ls [.int (mf_width R nd t a), .int a])
  refine lv_iconst (v := 1) X.x X.b dX5_rowOf_6 (by decide) ?_
  refine lv_isub X.x X.b dX5_rowOf_7 ?_
  refine lv_idiv X.x X.b dX5_rowOf_8 hw1 ?_
  exact h_iret X hr hz hlo (lfip (id (by unfold mf_rowOf; rfl))) (Nat.le_of_ble_eq_true rfl) (Nat.le_of_ble_eq_true rfl) dX5_rowOf_9

def mf_parityOf (R nd : Nat) (t : MS) (a : Int32) : Int32 :=
  ((mf_width R nd t a) - 1) - ((mf_rowOf R nd t a) - (mf_rowOf R nd t a) / (mf_width R nd t a) * (mf_width R nd t a))
set_option maxRecDepth 20000 in
set_option maxHeartbeats 4000000 in
theorem mc_parityOf (l : Launch) (D : hD) (H0 : Heap) (b R nd : Nat) (t : MS) (h0 : hH) (n : Nat) (a : Int32) (hnd : nd ≤ 10)  (hw1 : ¬ mf_width R nd t a - 1 = 0) (hw0 : ¬ mf_width R nd t a = 0) : cM l D H0 yX5_parityOf cX5_parityOf 2 (some .int) 4 83 0 0 [.ref b, .int a] (mput b R nd t h0) n (cE (some (.int (mf_parityOf R nd t a))) (mput b R nd t h0) n) := by
  refine h_met (by decide) (Nat.le_of_ble_eq_true rfl) ?_
  intro p e s m below meth c H ls X hnm hr hz hl
  have hl : lv_has ls 2 [(0, .ref b), (1, .int a)] := hl
  have hlo : hL H0 ([] : List Loc) := hL.nil
  refine lv_aload_n X.x X.b dX5_parityOf_0 rfl (lv_at hl 0 rfl) ?_
  refine lv_iload_n X.x X.b dX5_parityOf_1 rfl (lv_at hl 1 rfl) ?_
  refine h_callV X hr hz hlo (rest := []) (mc_width l D H0 b R nd t h0 n a hnd ) mput_o rfl yv_X5_width ml_X5_103 ⟨(Nat.le_of_ble_eq_true rfl), (Nat.le_of_ble_eq_true rfl)⟩ (Nat.le_of_ble_eq_true rfl) hl.1 ⟨(Nat.le_of_ble_eq_true rfl), (Nat.le_of_ble_eq_true rfl)⟩ rfl dX5_parityOf_2 (fun v9 h9 n9 H locs hp hr hz hlo => ?_)
  obtain ⟨rfl, rfl, rfl⟩ := hp
  show W p l e _ s m _ below meth c H locs _ _ _ (F0 m 5 ls [.int (mf_width R nd t a)])
  refine lv_iconst (v := 1) X.x X.b dX5_parityOf_5 (by decide) ?_
  refine lv_isub X.x X.b dX5_parityOf_6 ?_
  refine lv_aload_n X.x X.b dX5_parityOf_7 rfl (lv_at hl 0 rfl) ?_
  refine lv_iload_n X.x X.b dX5_parityOf_8 rfl (lv_at hl 1 rfl) ?_
  refine h_callV X hr hz hlo (rest := [.int ((mf_width R nd t a) - 1)]) (mc_rowOf l D H0 b R nd t h0 n a hnd hw1) mput_o rfl yv_X5_rowOf ml_X5_107 ⟨(Nat.le_of_ble_eq_true rfl), (Nat.le_of_ble_eq_true rfl)⟩ (Nat.le_of_ble_eq_true rfl) hl.1 ⟨(Nat.le_of_ble_eq_true rfl), (Nat.le_of_ble_eq_true rfl)⟩ rfl dX5_parityOf_9 (fun v9 h9 n9 H locs hp hr hz hlo => ?_)
  obtain ⟨rfl, rfl, rfl⟩ := hp
  show W p l e _ s m _ below meth c H locs _ _ _ (F0 m 12 ls [.int (mf_rowOf R nd t a), .int ((mf_width R nd t a) - 1)])
  refine lv_aload_n X.x X.b dX5_parityOf_12 rfl (lv_at hl 0 rfl) ?_
  refine lv_iload_n X.x X.b dX5_parityOf_13 rfl (lv_at hl 1 rfl) ?_
  refine h_callV X hr hz hlo (rest := [.int (mf_rowOf R nd t a), .int ((mf_width R nd t a) - 1)]) (mc_width l D H0 b R nd t h0 n a hnd ) mput_o rfl yv_X5_width ml_X5_103 ⟨(Nat.le_of_ble_eq_true rfl), (Nat.le_of_ble_eq_true rfl)⟩ (Nat.le_of_ble_eq_true rfl) hl.1 ⟨(Nat.le_of_ble_eq_true rfl), (Nat.le_of_ble_eq_true rfl)⟩ rfl dX5_parityOf_14 (fun v9 h9 n9 H locs hp hr hz hlo => ?_)
  obtain ⟨rfl, rfl, rfl⟩ := hp
  show W p l e _ s m _ below meth c H locs _ _ _ (F0 m 17 ls [.int (mf_width R nd t a), .int (mf_rowOf R nd t a), .int ((mf_width R nd t a) - 1)])
  refine lv_irem X.x X.b dX5_parityOf_17 hw0 ?_
  refine lv_isub X.x X.b dX5_parityOf_18 ?_
  exact h_iret X hr hz hlo (lfip (id (by unfold mf_parityOf; rfl))) (Nat.le_of_ble_eq_true rfl) (Nat.le_of_ble_eq_true rfl) dX5_parityOf_19

def mf_diskOf (R nd : Nat) (t : MS) (a : Int32) : Int32 :=
  (((mf_parityOf R nd t a) + 1) + (a - a / ((mf_width R nd t a) - 1) * ((mf_width R nd t a) - 1))) - (((mf_parityOf R nd t a) + 1) + (a - a / ((mf_width R nd t a) - 1) * ((mf_width R nd t a) - 1))) / (mf_width R nd t a) * (mf_width R nd t a)
set_option maxRecDepth 20000 in
set_option maxHeartbeats 4000000 in
theorem mc_diskOf (l : Launch) (D : hD) (H0 : Heap) (b R nd : Nat) (t : MS) (h0 : hH) (n : Nat) (a : Int32) (hnd : nd ≤ 10)  (hw1 : ¬ mf_width R nd t a - 1 = 0) (hw0 : ¬ mf_width R nd t a = 0) : cM l D H0 yX5_diskOf cX5_diskOf 2 (some .int) 5 104 0 0 [.ref b, .int a] (mput b R nd t h0) n (cE (some (.int (mf_diskOf R nd t a))) (mput b R nd t h0) n) := by
  refine h_met (by decide) (Nat.le_of_ble_eq_true rfl) ?_
  intro p e s m below meth c H ls X hnm hr hz hl
  have hl : lv_has ls 2 [(0, .ref b), (1, .int a)] := hl
  have hlo : hL H0 ([] : List Loc) := hL.nil
  refine lv_aload_n X.x X.b dX5_diskOf_0 rfl (lv_at hl 0 rfl) ?_
  refine lv_iload_n X.x X.b dX5_diskOf_1 rfl (lv_at hl 1 rfl) ?_
  refine h_callV X hr hz hlo (rest := []) (mc_parityOf l D H0 b R nd t h0 n a hnd hw1 hw0) mput_o rfl yv_X5_parityOf ml_X5_110 ⟨(Nat.le_of_ble_eq_true rfl), (Nat.le_of_ble_eq_true rfl)⟩ (Nat.le_of_ble_eq_true rfl) hl.1 ⟨(Nat.le_of_ble_eq_true rfl), (Nat.le_of_ble_eq_true rfl)⟩ rfl dX5_diskOf_2 (fun v9 h9 n9 H locs hp hr hz hlo => ?_)
  obtain ⟨rfl, rfl, rfl⟩ := hp
  show W p l e _ s m _ below meth c H locs _ _ _ (F0 m 5 ls [.int (mf_parityOf R nd t a)])
  refine lv_iconst (v := 1) X.x X.b dX5_diskOf_5 (by decide) ?_
  refine lv_iadd X.x X.b dX5_diskOf_6 ?_
  refine lv_iload_n X.x X.b dX5_diskOf_7 rfl (lv_at hl 1 rfl) ?_
  refine lv_aload_n X.x X.b dX5_diskOf_8 rfl (lv_at hl 0 rfl) ?_
  refine lv_iload_n X.x X.b dX5_diskOf_9 rfl (lv_at hl 1 rfl) ?_
  refine h_callV X hr hz hlo (rest := [.int a, .int ((mf_parityOf R nd t a) + 1)]) (mc_width l D H0 b R nd t h0 n a hnd ) mput_o rfl yv_X5_width ml_X5_103 ⟨(Nat.le_of_ble_eq_true rfl), (Nat.le_of_ble_eq_true rfl)⟩ (Nat.le_of_ble_eq_true rfl) hl.1 ⟨(Nat.le_of_ble_eq_true rfl), (Nat.le_of_ble_eq_true rfl)⟩ rfl dX5_diskOf_10 (fun v9 h9 n9 H locs hp hr hz hlo => ?_)
  obtain ⟨rfl, rfl, rfl⟩ := hp
  show W p l e _ s m _ below meth c H locs _ _ _ (F0 m 13 ls [.int (mf_width R nd t a), .int a, .int ((mf_parityOf R nd t a) + 1)])
  refine lv_iconst (v := 1) X.x X.b dX5_diskOf_13 (by decide) ?_
  refine lv_isub X.x X.b dX5_diskOf_14 ?_
  refine lv_irem X.x X.b dX5_diskOf_15 hw1 ?_
  refine lv_iadd X.x X.b dX5_diskOf_16 ?_
  refine lv_aload_n X.x X.b dX5_diskOf_17 rfl (lv_at hl 0 rfl) ?_
  refine lv_iload_n X.x X.b dX5_diskOf_18 rfl (lv_at hl 1 rfl) ?_
  refine h_callV X hr hz hlo (rest := [.int (((mf_parityOf R nd t a) + 1) + (a - a / ((mf_width R nd t a) - 1) * ((mf_width R nd t a) - 1)))]) (mc_width l D H0 b R nd t h0 n a hnd ) mput_o rfl yv_X5_width ml_X5_103 ⟨(Nat.le_of_ble_eq_true rfl), (Nat.le_of_ble_eq_true rfl)⟩ (Nat.le_of_ble_eq_true rfl) hl.1 ⟨(Nat.le_of_ble_eq_true rfl), (Nat.le_of_ble_eq_true rfl)⟩ rfl dX5_diskOf_19 (fun v9 h9 n9 H locs hp hr hz hlo => ?_)
  obtain ⟨rfl, rfl, rfl⟩ := hp
  show W p l e _ s m _ below meth c H locs _ _ _ (F0 m 22 ls [.int (mf_width R nd t a), .int (((mf_parityOf R nd t a) + 1) + (a - a / ((mf_width R nd t a) - 1) * ((mf_width R nd t a) - 1)))])
  refine lv_irem X.x X.b dX5_diskOf_22 hw0 ?_
  exact h_iret X hr hz hlo (lfip (id (by unfold mf_diskOf; rfl))) (Nat.le_of_ble_eq_true rfl) (Nat.le_of_ble_eq_true rfl) dX5_diskOf_23

def mf_pokes (R nd : Nat) (t : MS) (d : Int32) : Int32 × MS :=
  if ((mf_lasts R nd t).1) = 0 then
    (0, (mf_lasts R nd t).2)
  else
    (1, si (ti ((mf_lasts R nd t).2) 1 d.toNatClampNeg ((((mf_lasts R nd t).2).2.1 1 d.toNatClampNeg) + 1)) 9 ((((mf_lasts R nd t).2).1 9) + 1))
set_option maxRecDepth 20000 in
set_option maxHeartbeats 4000000 in
theorem mc_pokes (l : Launch) (D : hD) (H0 : Heap) (b R nd : Nat) (t : MS) (h0 : hH) (n : Nat) (d : Int32) (hnd : nd ≤ 10) (h_d : vp_in d 10)  : cM l D H0 yX5_pokes cX5_pokes 2 (some .boolean) 1 21 0 0 [.ref b, .int d] (mput b R nd t h0) n (cE (some (.int (mf_pokes R nd t d).1)) (mput b R nd (mf_pokes R nd t d).2 h0) n) := by
  refine h_met (by decide) (Nat.le_of_ble_eq_true rfl) ?_
  intro p e s m below meth c H ls X hnm hr hz hl
  have hl : lv_has ls 2 [(0, .ref b), (1, .int d)] := hl
  have hlo : hL H0 ([] : List Loc) := hL.nil
  refine lv_aload_n X.x X.b dX5_pokes_0 rfl (lv_at hl 0 rfl) ?_
  refine h_callV X hr hz hlo (rest := []) (mc_lasts l D H0 b R nd t h0 n  hnd ) mput_o rfl yv_X5_lasts ml_X5_83 ⟨(Nat.le_of_ble_eq_true rfl), (Nat.le_of_ble_eq_true rfl)⟩ (Nat.le_of_ble_eq_true rfl) hl.1 ⟨(Nat.le_of_ble_eq_true rfl), (Nat.le_of_ble_eq_true rfl)⟩ rfl dX5_pokes_1 (fun v9 h9 n9 H locs hp hr hz hlo => ?_)
  obtain ⟨rfl, rfl, rfl⟩ := hp
  show W p l e _ s m _ below meth c H locs _ _ _ (F0 m 4 ls [.int ((mf_lasts R nd t).1)])
  refine lv_if_ne (tgt := 9) X.x X.b dX5_pokes_4 (by decide) (fun c4 => ?_) (fun c4 => ?_)
  · refine lv_aload_n X.x X.b dX5_pokes_9 rfl (lv_at hl 0 rfl) ?_
    refine h_get X hr fd_X5_13 mput_o (v := .ref (b + 2)) rfl dX5_pokes_10 ?_
    refine lv_iload_n X.x X.b dX5_pokes_13 rfl (lv_at hl 1 rfl) ?_
    refine lv_dup2_11 X.x X.b dX5_pokes_14 rfl rfl ?_
    refine h_iald X hr mput_2 h_d (v := .int (((mf_lasts R nd t).2).2.1 1 d.toNatClampNeg)) rfl dX5_pokes_15 ?_
    refine lv_iconst (v := 1) X.x X.b dX5_pokes_16 (by decide) ?_
    refine lv_iadd X.x X.b dX5_pokes_17 ?_
    refine h_iast X hr hz hlo mput_2 h_d dX5_pokes_18 (fun H locs hr hz hlo => ?_)
    rw [mput_a2] at hr
    refine lv_aload_n X.x X.b dX5_pokes_19 rfl (lv_at hl 0 rfl) ?_
    refine lv_dup X.x X.b dX5_pokes_20 rfl ?_
    refine h_get X hr fd_X5_87 mput_o (v := .int (((mf_lasts R nd t).2).1 9)) rfl dX5_pokes_21 ?_
    refine lv_iconst (v := 1) X.x X.b dX5_pokes_24 (by decide) ?_
    refine lv_iadd X.x X.b dX5_pokes_25 ?_
    refine h_put X hr hz hlo fd_X5_87 tyX5 tyX5_ok nmX5 rfl mput_o (v := .int ((((mf_lasts R nd t).2).1 9) + 1)) rfl rfl (Nat.le_of_ble_eq_true rfl) dX5_pokes_26 (fun H locs hr hz hlo => ?_)
    rw [mput_s9] at hr
    refine lv_iconst (v := 1) X.x X.b dX5_pokes_29 (by decide) ?_
    exact h_zret X hr hz hlo rfl (lfi (id (by unfold mf_pokes; rw [if_neg c4]))) (Nat.le_of_ble_eq_true rfl) (Nat.le_of_ble_eq_true rfl) dX5_pokes_30
  · refine lv_iconst (v := 0) X.x X.b dX5_pokes_7 (by decide) ?_
    exact h_zret X hr hz hlo rfl (lfi (id (by unfold mf_pokes; rw [if_pos c4]))) (Nat.le_of_ble_eq_true rfl) (Nat.le_of_ble_eq_true rfl) dX5_pokes_8

def mf_block (R nd : Nat) (t : MS) (d : Int32) (row : Int32) : Int32 × MS :=
  if (t.2.1 0 d.toNatClampNeg) = 0 then
    if ((mf_pokes R nd t d).1) = 0 then
      (0, (mf_pokes R nd t d).2)
    else
      (1, (mf_pokes R nd t d).2)
  else
    if (t.2.1 0 d.toNatClampNeg) = 2 then
      if (t.1 7) ≤ row then
        (1, t)
      else
        if ((mf_pokes R nd t d).1) = 0 then
          (0, (mf_pokes R nd t d).2)
        else
          (1, (mf_pokes R nd t d).2)
    else
      (1, t)
set_option maxRecDepth 20000 in
set_option maxHeartbeats 4000000 in
theorem mc_block (l : Launch) (D : hD) (H0 : Heap) (b R nd : Nat) (t : MS) (h0 : hH) (n : Nat) (d : Int32) (row : Int32) (hnd : nd ≤ 10) (h_d : vp_in d 10)  : cM l D H0 yX5_block cX5_block 4 (some .boolean) 2 42 0 0 [.ref b, .int d, .int row] (mput b R nd t h0) n (cE (some (.int (mf_block R nd t d row).1)) (mput b R nd (mf_block R nd t d row).2 h0) n) := by
  refine h_met (by decide) (Nat.le_of_ble_eq_true rfl) ?_
  intro p e s m below meth c H ls X hnm hr hz hl
  have hl : lv_has ls 4 [(0, .ref b), (1, .int d), (2, .int row)] := hl
  have hlo : hL H0 ([] : List Loc) := hL.nil
  refine lv_aload_n X.x X.b dX5_block_0 rfl (lv_at hl 0 rfl) ?_
  refine h_get X hr fd_X5_9 mput_o (v := .ref (b + 1)) rfl dX5_block_1 ?_
  refine lv_iload_n X.x X.b dX5_block_4 rfl (lv_at hl 1 rfl) ?_
  refine h_iald X hr mput_1 h_d (v := .int (t.2.1 0 d.toNatClampNeg)) rfl dX5_block_5 ?_
  refine lv_if_eq (tgt := 27) X.x X.b dX5_block_6 (by decide) (fun c6 => ?_) (fun c6 => ?_)
  · refine lv_iconst (v := 1) X.x X.b dX5_block_27 (by decide) ?_
    refine lv_goto (tgt := 32) X.x X.b dX5_block_28 (by decide) ?_
    refine lv_istore_n (lv' := [(3, .int 1), (0, .ref b), (1, .int d), (2, .int row)]) X.x X.b dX5_block_32 rfl hl (by decide) rfl (fun ls hl => ?_)
    refine lv_iload_n X.x X.b dX5_block_33 rfl (lv_at hl 0 rfl) ?_
    refine lv_if_eq (tgt := 45) X.x X.b dX5_block_34 (by decide) (fun c34 => ?_) (fun c34 => ?_)
    · exact absurd c34 (by decide)
    · refine lv_aload_n X.x X.b dX5_block_37 rfl (lv_at hl 1 rfl) ?_
      refine lv_iload_n X.x X.b dX5_block_38 rfl (lv_at hl 2 rfl) ?_
      refine h_callV X hr hz hlo (rest := []) (mc_pokes l D H0 b R nd t h0 n d hnd h_d) mput_o rfl yv_X5_pokes ml_X5_90 ⟨(Nat.le_of_ble_eq_true rfl), (Nat.le_of_ble_eq_true rfl)⟩ (Nat.le_of_ble_eq_true rfl) hl.1 ⟨(Nat.le_of_ble_eq_true rfl), (Nat.le_of_ble_eq_true rfl)⟩ rfl dX5_block_39 (fun v9 h9 n9 H locs hp hr hz hlo => ?_)
      obtain ⟨rfl, rfl, rfl⟩ := hp
      show W p l e _ s m _ below meth c H locs _ _ _ (F0 m 42 ls [.int ((mf_pokes R nd t d).1)])
      refine lv_if_eq (tgt := 49) X.x X.b dX5_block_42 (by decide) (fun c42 => ?_) (fun c42 => ?_)
      · refine lv_iconst (v := 0) X.x X.b dX5_block_49 (by decide) ?_
        exact h_zret X hr hz hlo rfl (lfi (id (by unfold mf_block; rw [if_pos c6, if_pos c42]))) (Nat.le_of_ble_eq_true rfl) (Nat.le_of_ble_eq_true rfl) dX5_block_50
      · refine lv_iconst (v := 1) X.x X.b dX5_block_45 (by decide) ?_
        refine lv_goto (tgt := 50) X.x X.b dX5_block_46 (by decide) ?_
        exact h_zret X hr hz hlo rfl (lfi (id (by unfold mf_block; rw [if_pos c6, if_neg c42]))) (Nat.le_of_ble_eq_true rfl) (Nat.le_of_ble_eq_true rfl) dX5_block_50
  · refine lv_aload_n X.x X.b dX5_block_9 rfl (lv_at hl 0 rfl) ?_
    refine h_get X hr fd_X5_9 mput_o (v := .ref (b + 1)) rfl dX5_block_10 ?_
    refine lv_iload_n X.x X.b dX5_block_13 rfl (lv_at hl 1 rfl) ?_
    refine h_iald X hr mput_1 h_d (v := .int (t.2.1 0 d.toNatClampNeg)) rfl dX5_block_14 ?_
    refine lv_iconst (v := 2) X.x X.b dX5_block_15 (by decide) ?_
    refine lv_icmp_ne (tgt := 31) X.x X.b dX5_block_16 (by decide) (fun c16 => ?_) (fun c16 => ?_)
    · refine lv_iconst (v := 0) X.x X.b dX5_block_31 (by decide) ?_
      refine lv_istore_n (lv' := [(3, .int 0), (0, .ref b), (1, .int d), (2, .int row)]) X.x X.b dX5_block_32 rfl hl (by decide) rfl (fun ls hl => ?_)
      refine lv_iload_n X.x X.b dX5_block_33 rfl (lv_at hl 0 rfl) ?_
      refine lv_if_eq (tgt := 45) X.x X.b dX5_block_34 (by decide) (fun c34 => ?_) (fun c34 => ?_)
      · refine lv_iconst (v := 1) X.x X.b dX5_block_45 (by decide) ?_
        refine lv_goto (tgt := 50) X.x X.b dX5_block_46 (by decide) ?_
        exact h_zret X hr hz hlo rfl (lfi (id (by unfold mf_block; rw [if_neg c6, if_neg c16]))) (Nat.le_of_ble_eq_true rfl) (Nat.le_of_ble_eq_true rfl) dX5_block_50
      · exact absurd (by decide) c34
    · refine lv_iload_n X.x X.b dX5_block_19 rfl (lv_at hl 2 rfl) ?_
      refine lv_aload_n X.x X.b dX5_block_20 rfl (lv_at hl 0 rfl) ?_
      refine h_get X hr fd_X5_80 mput_o (v := .int (t.1 7)) rfl dX5_block_21 ?_
      refine lv_icmp_ge (tgt := 31) X.x X.b dX5_block_24 (by decide) (fun c24 => ?_) (fun c24 => ?_)
      · refine lv_iconst (v := 0) X.x X.b dX5_block_31 (by decide) ?_
        refine lv_istore_n (lv' := [(3, .int 0), (0, .ref b), (1, .int d), (2, .int row)]) X.x X.b dX5_block_32 rfl hl (by decide) rfl (fun ls hl => ?_)
        refine lv_iload_n X.x X.b dX5_block_33 rfl (lv_at hl 0 rfl) ?_
        refine lv_if_eq (tgt := 45) X.x X.b dX5_block_34 (by decide) (fun c34 => ?_) (fun c34 => ?_)
        · refine lv_iconst (v := 1) X.x X.b dX5_block_45 (by decide) ?_
          refine lv_goto (tgt := 50) X.x X.b dX5_block_46 (by decide) ?_
          exact h_zret X hr hz hlo rfl (lfi (id (by unfold mf_block; rw [if_neg c6, if_pos c16, if_pos c24]))) (Nat.le_of_ble_eq_true rfl) (Nat.le_of_ble_eq_true rfl) dX5_block_50
        · exact absurd (by decide) c34
      · refine lv_iconst (v := 1) X.x X.b dX5_block_27 (by decide) ?_
        refine lv_goto (tgt := 32) X.x X.b dX5_block_28 (by decide) ?_
        refine lv_istore_n (lv' := [(3, .int 1), (0, .ref b), (1, .int d), (2, .int row)]) X.x X.b dX5_block_32 rfl hl (by decide) rfl (fun ls hl => ?_)
        refine lv_iload_n X.x X.b dX5_block_33 rfl (lv_at hl 0 rfl) ?_
        refine lv_if_eq (tgt := 45) X.x X.b dX5_block_34 (by decide) (fun c34 => ?_) (fun c34 => ?_)
        · exact absurd c34 (by decide)
        · refine lv_aload_n X.x X.b dX5_block_37 rfl (lv_at hl 1 rfl) ?_
          refine lv_iload_n X.x X.b dX5_block_38 rfl (lv_at hl 2 rfl) ?_
          refine h_callV X hr hz hlo (rest := []) (mc_pokes l D H0 b R nd t h0 n d hnd h_d) mput_o rfl yv_X5_pokes ml_X5_90 ⟨(Nat.le_of_ble_eq_true rfl), (Nat.le_of_ble_eq_true rfl)⟩ (Nat.le_of_ble_eq_true rfl) hl.1 ⟨(Nat.le_of_ble_eq_true rfl), (Nat.le_of_ble_eq_true rfl)⟩ rfl dX5_block_39 (fun v9 h9 n9 H locs hp hr hz hlo => ?_)
          obtain ⟨rfl, rfl, rfl⟩ := hp
          show W p l e _ s m _ below meth c H locs _ _ _ (F0 m 42 ls [.int ((mf_pokes R nd t d).1)])
          refine lv_if_eq (tgt := 49) X.x X.b dX5_block_42 (by decide) (fun c42 => ?_) (fun c42 => ?_)
          · refine lv_iconst (v := 0) X.x X.b dX5_block_49 (by decide) ?_
            exact h_zret X hr hz hlo rfl (lfi (id (by unfold mf_block; rw [if_neg c6, if_pos c16, if_neg c24, if_pos c42]))) (Nat.le_of_ble_eq_true rfl) (Nat.le_of_ble_eq_true rfl) dX5_block_50
          · refine lv_iconst (v := 1) X.x X.b dX5_block_45 (by decide) ?_
            refine lv_goto (tgt := 50) X.x X.b dX5_block_46 (by decide) ?_
            exact h_zret X hr hz hlo rfl (lfi (id (by unfold mf_block; rw [if_neg c6, if_pos c16, if_neg c24, if_neg c42]))) (Nat.le_of_ble_eq_true rfl) (Nat.le_of_ble_eq_true rfl) dX5_block_50

def mg_sets_3 (R nd : Nat) (n0 : Int32) (m0 : Int32) (f : Int32) (also : Int32) : Nat → Nat → MS → Int32 × MS
  | 0, _, t1 => (0, t1)
  | j + 1, k, t1 =>
    if (nI nd) ≤ (nI k) then
      (1, si (si (si (si t1 1 ((t1.1 1) + 1)) 2 n0) 3 m0) 4 f)
    else
      if (t1.2.1 0 k) = 0 then
        if ((mf_pokes R nd t1 (nI k)).1) = 0 then
          (0, (mf_pokes R nd t1 (nI k)).2)
        else
          mg_sets_3 R nd n0 m0 f also j (k + 1)  (mf_tells R nd ((mf_pokes R nd t1 (nI k)).2) (nI k) ((((mf_pokes R nd t1 (nI k)).2).1 1) + 1) n0 m0 f)
      else
        if (nI k) = also then
          if ((mf_pokes R nd t1 (nI k)).1) = 0 then
            (0, (mf_pokes R nd t1 (nI k)).2)
          else
            mg_sets_3 R nd n0 m0 f also j (k + 1)  (mf_tells R nd ((mf_pokes R nd t1 (nI k)).2) (nI k) ((((mf_pokes R nd t1 (nI k)).2).1 1) + 1) n0 m0 f)
        else
          mg_sets_3 R nd n0 m0 f also j (k + 1)  t1
def mf_sets (R nd : Nat) (t : MS) (n0 : Int32) (m0 : Int32) (f : Int32) (also : Int32) : Int32 × MS :=
  mg_sets_3 R nd n0 m0 f also (nd + 1) 0  t
set_option maxRecDepth 20000 in
set_option maxHeartbeats 4000000 in
theorem mc_sets (l : Launch) (D : hD) (H0 : Heap) (b R nd : Nat) (t : MS) (h0 : hH) (n : Nat) (n0 : Int32) (m0 : Int32) (f : Int32) (also : Int32) (hnd : nd ≤ 10)   : cM l D H0 yX5_sets cX5_sets 6 (some .boolean) 2 42 0 0 [.ref b, .int n0, .int m0, .int f, .int also] (mput b R nd t h0) n (cE (some (.int (mf_sets R nd t n0 m0 f also).1)) (mput b R nd (mf_sets R nd t n0 m0 f also).2 h0) n) := by
  refine h_met (by decide) (Nat.le_of_ble_eq_true rfl) ?_
  intro p e s m below meth c H ls X hnm hr hz hl
  have hl : lv_has ls 6 [(0, .ref b), (1, .int n0), (2, .int m0), (3, .int f), (4, .int also)] := hl
  have hlo : hL H0 ([] : List Loc) := hL.nil
  have loop3 : ∀ (j k : Nat)  (t1 : MS) (hk : k ≤ nd) (hj : nd < k + j) (hG : mf_sets R nd t n0 m0 f also = mg_sets_3 R nd n0 m0 f also j k t1) (H : Heap) (locs : List Loc) (ls : Array Slot), hR D H0 (mput b R nd t1 h0) H → H.size = n → hL H0 locs → lv_has ls 6 [(5, .int (nI k)), (0, .ref b), (1, .int n0), (2, .int m0), (3, .int f), (4, .int also)] → W p l e (rmk 2 42 0 0) s m ([.ref b, .int n0, .int m0, .int f, .int also] : List Value).toArray below meth c H locs 0 0 (MQ below (cQ D H0 (cE (some (.int (mf_sets R nd t n0 m0 f also).1)) (mput b R nd (mf_sets R nd t n0 m0 f also).2 h0) n)) ([.ref b, .int n0, .int m0, .int f, .int also] : List Value).toArray s 0 0 (hF H0)) (F0 m 3 ls []) := by
    intro j
    induction j with
    | zero => intro k t1 hk hj; omega
    | succ j ih =>
      intro k t1 hk hj hG H locs ls hr hz hlo hl
      refine lv_iload X.x X.b dX5_sets_3 (lv_at hl 0 rfl) ?_
      refine lv_aload_n X.x X.b dX5_sets_5 rfl (lv_at hl 1 rfl) ?_
      refine h_get X hr fd_X5_58 mput_o (v := .int (nI nd)) rfl dX5_sets_6 ?_
      refine lv_icmp_ge (tgt := 64) X.x X.b dX5_sets_9 (by decide) (fun c9 => ?_) (fun c9 => ?_)
      · refine lv_aload_n X.x X.b dX5_sets_64 rfl (lv_at hl 1 rfl) ?_
        refine lv_dup X.x X.b dX5_sets_65 rfl ?_
        refine h_get X hr fd_X5_61 mput_o (v := .int (t1.1 1)) rfl dX5_sets_66 ?_
        refine lv_iconst (v := 1) X.x X.b dX5_sets_69 (by decide) ?_
        refine lv_iadd X.x X.b dX5_sets_70 ?_
        refine h_put X hr hz hlo fd_X5_61 tyX5 tyX5_ok nmX5 rfl mput_o (v := .int ((t1.1 1) + 1)) rfl rfl (Nat.le_of_ble_eq_true rfl) dX5_sets_71 (fun H locs hr hz hlo => ?_)
        rw [mput_s1] at hr
        refine lv_aload_n X.x X.b dX5_sets_74 rfl (lv_at hl 1 rfl) ?_
        refine lv_iload_n X.x X.b dX5_sets_75 rfl (lv_at hl 2 rfl) ?_
        refine h_put X hr hz hlo fd_X5_64 tyX5 tyX5_ok nmX5 rfl mput_o (v := .int n0) rfl rfl (Nat.le_of_ble_eq_true rfl) dX5_sets_76 (fun H locs hr hz hlo => ?_)
        rw [mput_s2] at hr
        refine lv_aload_n X.x X.b dX5_sets_79 rfl (lv_at hl 1 rfl) ?_
        refine lv_iload_n X.x X.b dX5_sets_80 rfl (lv_at hl 3 rfl) ?_
        refine h_put X hr hz hlo fd_X5_67 tyX5 tyX5_ok nmX5 rfl mput_o (v := .int m0) rfl rfl (Nat.le_of_ble_eq_true rfl) dX5_sets_81 (fun H locs hr hz hlo => ?_)
        rw [mput_s3] at hr
        refine lv_aload_n X.x X.b dX5_sets_84 rfl (lv_at hl 1 rfl) ?_
        refine lv_iload_n X.x X.b dX5_sets_85 rfl (lv_at hl 4 rfl) ?_
        refine h_put X hr hz hlo fd_X5_94 tyX5 tyX5_ok nmX5 rfl mput_o (v := .int f) rfl rfl (Nat.le_of_ble_eq_true rfl) dX5_sets_86 (fun H locs hr hz hlo => ?_)
        rw [mput_s4] at hr
        refine lv_iconst (v := 1) X.x X.b dX5_sets_89 (by decide) ?_
        exact h_zret X hr hz hlo rfl (lfi (hG.trans (by rw [mg_sets_3]; rw [if_pos c9]))) (Nat.le_of_ble_eq_true rfl) (Nat.le_of_ble_eq_true rfl) dX5_sets_90
      · have hk9 : k < nd := nd_lt c9 (by omega)
        refine lv_aload_n X.x X.b dX5_sets_12 rfl (lv_at hl 1 rfl) ?_
        refine h_get X hr fd_X5_9 mput_o (v := .ref (b + 1)) rfl dX5_sets_13 ?_
        refine lv_iload X.x X.b dX5_sets_16 (lv_at hl 0 rfl) ?_
        refine h_iald X hr mput_1 (vp_in_nI (by omega) (by decide)) (v := .int (t1.2.1 0 k)) (by rw [nI_clamp (n := k) (by omega)]) dX5_sets_18 ?_
        refine lv_if_eq (tgt := 32) X.x X.b dX5_sets_19 (by decide) (fun c19 => ?_) (fun c19 => ?_)
        · refine lv_aload_n X.x X.b dX5_sets_32 rfl (lv_at hl 1 rfl) ?_
          refine lv_iload X.x X.b dX5_sets_33 (lv_at hl 0 rfl) ?_
          refine h_callV X hr hz hlo (rest := []) (mc_pokes l D H0 b R nd t1 h0 n (nI k) hnd (vp_in_nI (by omega) (by decide))) mput_o rfl yv_X5_pokes ml_X5_90 ⟨(Nat.le_of_ble_eq_true rfl), (Nat.le_of_ble_eq_true rfl)⟩ (Nat.le_of_ble_eq_true rfl) hl.1 ⟨(Nat.le_of_ble_eq_true rfl), (Nat.le_of_ble_eq_true rfl)⟩ rfl dX5_sets_35 (fun v9 h9 n9 H locs hp hr hz hlo => ?_)
          obtain ⟨rfl, rfl, rfl⟩ := hp
          show W p l e _ s m _ below meth c H locs _ _ _ (F0 m 38 ls [.int ((mf_pokes R nd t1 (nI k)).1)])
          refine lv_if_ne (tgt := 43) X.x X.b dX5_sets_38 (by decide) (fun c38 => ?_) (fun c38 => ?_)
          · refine lv_aload_n X.x X.b dX5_sets_43 rfl (lv_at hl 1 rfl) ?_
            refine lv_iload X.x X.b dX5_sets_44 (lv_at hl 0 rfl) ?_
            refine lv_aload_n X.x X.b dX5_sets_46 rfl (lv_at hl 1 rfl) ?_
            refine h_get X hr fd_X5_61 mput_o (v := .int (((mf_pokes R nd t1 (nI k)).2).1 1)) rfl dX5_sets_47 ?_
            refine lv_iconst (v := 1) X.x X.b dX5_sets_50 (by decide) ?_
            refine lv_iadd X.x X.b dX5_sets_51 ?_
            refine lv_iload_n X.x X.b dX5_sets_52 rfl (lv_at hl 2 rfl) ?_
            refine lv_iload_n X.x X.b dX5_sets_53 rfl (lv_at hl 3 rfl) ?_
            refine lv_iload_n X.x X.b dX5_sets_54 rfl (lv_at hl 4 rfl) ?_
            refine h_callV X hr hz hlo (rest := []) (mc_tells l D H0 b R nd ((mf_pokes R nd t1 (nI k)).2) h0 n (nI k) ((((mf_pokes R nd t1 (nI k)).2).1 1) + 1) n0 m0 f hnd (vp_in_nI (by omega) (by decide))) mput_o rfl yv_X5_tells ml_X5_70 ⟨(Nat.le_of_ble_eq_true rfl), (Nat.le_of_ble_eq_true rfl)⟩ (Nat.le_of_ble_eq_true rfl) hl.1 ⟨(Nat.le_of_ble_eq_true rfl), (Nat.le_of_ble_eq_true rfl)⟩ rfl dX5_sets_55 (fun v9 h9 n9 H locs hp hr hz hlo => ?_)
            obtain ⟨rfl, rfl, rfl⟩ := hp
            show W p l e _ s m _ below meth c H locs _ _ _ (F0 m 58 ls [])
            refine lv_iinc (v := nI (k + 1)) (lv' := [(5, .int (nI (k + 1))), (0, .ref b), (1, .int n0), (2, .int m0), (3, .int f), (4, .int also)]) X.x X.b dX5_sets_58 hl (k := 0) rfl (nI_1 k) (by decide) rfl (fun ls hl => ?_)
            refine lv_goto (tgt := 3) X.x X.b dX5_sets_61 (by decide) ?_
            exact ih (k + 1)  (mf_tells R nd ((mf_pokes R nd t1 (nI k)).2) (nI k) ((((mf_pokes R nd t1 (nI k)).2).1 1) + 1) n0 m0 f) (by omega) (by omega) (hG.trans (by rw [mg_sets_3]; rw [if_neg c9, if_pos c19, if_neg c38])) _ _ _ hr hz hlo (lv_sub hl [0, 1, 2, 3, 4, 5] rfl)
          · refine lv_iconst (v := 0) X.x X.b dX5_sets_41 (by decide) ?_
            exact h_zret X hr hz hlo rfl (lfi (hG.trans (by rw [mg_sets_3]; rw [if_neg c9, if_pos c19, if_pos c38]))) (Nat.le_of_ble_eq_true rfl) (Nat.le_of_ble_eq_true rfl) dX5_sets_42
        · refine lv_iload X.x X.b dX5_sets_22 (lv_at hl 0 rfl) ?_
          refine lv_iload X.x X.b dX5_sets_24 (lv_at hl 5 rfl) ?_
          refine lv_icmp_eq (tgt := 32) X.x X.b dX5_sets_26 (by decide) (fun c26 => ?_) (fun c26 => ?_)
          · refine lv_aload_n X.x X.b dX5_sets_32 rfl (lv_at hl 1 rfl) ?_
            refine lv_iload X.x X.b dX5_sets_33 (lv_at hl 0 rfl) ?_
            refine h_callV X hr hz hlo (rest := []) (mc_pokes l D H0 b R nd t1 h0 n (nI k) hnd (vp_in_nI (by omega) (by decide))) mput_o rfl yv_X5_pokes ml_X5_90 ⟨(Nat.le_of_ble_eq_true rfl), (Nat.le_of_ble_eq_true rfl)⟩ (Nat.le_of_ble_eq_true rfl) hl.1 ⟨(Nat.le_of_ble_eq_true rfl), (Nat.le_of_ble_eq_true rfl)⟩ rfl dX5_sets_35 (fun v9 h9 n9 H locs hp hr hz hlo => ?_)
            obtain ⟨rfl, rfl, rfl⟩ := hp
            show W p l e _ s m _ below meth c H locs _ _ _ (F0 m 38 ls [.int ((mf_pokes R nd t1 (nI k)).1)])
            refine lv_if_ne (tgt := 43) X.x X.b dX5_sets_38 (by decide) (fun c38 => ?_) (fun c38 => ?_)
            · refine lv_aload_n X.x X.b dX5_sets_43 rfl (lv_at hl 1 rfl) ?_
              refine lv_iload X.x X.b dX5_sets_44 (lv_at hl 0 rfl) ?_
              refine lv_aload_n X.x X.b dX5_sets_46 rfl (lv_at hl 1 rfl) ?_
              refine h_get X hr fd_X5_61 mput_o (v := .int (((mf_pokes R nd t1 (nI k)).2).1 1)) rfl dX5_sets_47 ?_
              refine lv_iconst (v := 1) X.x X.b dX5_sets_50 (by decide) ?_
              refine lv_iadd X.x X.b dX5_sets_51 ?_
              refine lv_iload_n X.x X.b dX5_sets_52 rfl (lv_at hl 2 rfl) ?_
              refine lv_iload_n X.x X.b dX5_sets_53 rfl (lv_at hl 3 rfl) ?_
              refine lv_iload_n X.x X.b dX5_sets_54 rfl (lv_at hl 4 rfl) ?_
              refine h_callV X hr hz hlo (rest := []) (mc_tells l D H0 b R nd ((mf_pokes R nd t1 (nI k)).2) h0 n (nI k) ((((mf_pokes R nd t1 (nI k)).2).1 1) + 1) n0 m0 f hnd (vp_in_nI (by omega) (by decide))) mput_o rfl yv_X5_tells ml_X5_70 ⟨(Nat.le_of_ble_eq_true rfl), (Nat.le_of_ble_eq_true rfl)⟩ (Nat.le_of_ble_eq_true rfl) hl.1 ⟨(Nat.le_of_ble_eq_true rfl), (Nat.le_of_ble_eq_true rfl)⟩ rfl dX5_sets_55 (fun v9 h9 n9 H locs hp hr hz hlo => ?_)
              obtain ⟨rfl, rfl, rfl⟩ := hp
              show W p l e _ s m _ below meth c H locs _ _ _ (F0 m 58 ls [])
              refine lv_iinc (v := nI (k + 1)) (lv' := [(5, .int (nI (k + 1))), (0, .ref b), (1, .int n0), (2, .int m0), (3, .int f), (4, .int also)]) X.x X.b dX5_sets_58 hl (k := 0) rfl (nI_1 k) (by decide) rfl (fun ls hl => ?_)
              refine lv_goto (tgt := 3) X.x X.b dX5_sets_61 (by decide) ?_
              exact ih (k + 1)  (mf_tells R nd ((mf_pokes R nd t1 (nI k)).2) (nI k) ((((mf_pokes R nd t1 (nI k)).2).1 1) + 1) n0 m0 f) (by omega) (by omega) (hG.trans (by rw [mg_sets_3]; rw [if_neg c9, if_neg c19, if_pos c26, if_neg c38])) _ _ _ hr hz hlo (lv_sub hl [0, 1, 2, 3, 4, 5] rfl)
            · refine lv_iconst (v := 0) X.x X.b dX5_sets_41 (by decide) ?_
              exact h_zret X hr hz hlo rfl (lfi (hG.trans (by rw [mg_sets_3]; rw [if_neg c9, if_neg c19, if_pos c26, if_pos c38]))) (Nat.le_of_ble_eq_true rfl) (Nat.le_of_ble_eq_true rfl) dX5_sets_42
          · refine lv_goto (tgt := 58) X.x X.b dX5_sets_29 (by decide) ?_
            refine lv_iinc (v := nI (k + 1)) (lv' := [(5, .int (nI (k + 1))), (0, .ref b), (1, .int n0), (2, .int m0), (3, .int f), (4, .int also)]) X.x X.b dX5_sets_58 hl (k := 0) rfl (nI_1 k) (by decide) rfl (fun ls hl => ?_)
            refine lv_goto (tgt := 3) X.x X.b dX5_sets_61 (by decide) ?_
            exact ih (k + 1)  t1 (by omega) (by omega) (hG.trans (by rw [mg_sets_3]; rw [if_neg c9, if_neg c19, if_neg c26])) _ _ _ hr hz hlo (lv_sub hl [0, 1, 2, 3, 4, 5] rfl)
  refine lv_iconst (v := 0) X.x X.b dX5_sets_0 (by decide) ?_
  refine lv_istore (lv' := [(5, .int 0), (0, .ref b), (1, .int n0), (2, .int m0), (3, .int f), (4, .int also)]) X.x X.b dX5_sets_1 hl (by decide) rfl (fun ls hl => ?_)
  have hl : lv_has ls 6 [(5, .int (nI 0)), (0, .ref b), (1, .int n0), (2, .int m0), (3, .int f), (4, .int also)] := by rw [nI_0]; exact hl
  exact loop3 (nd + 1) 0  t (by omega) (by omega) (id (by unfold mf_sets; rfl)) _ _ _ hr hz hlo (lv_sub hl [0, 1, 2, 3, 4, 5] rfl)

def mf_fresh (R nd : Nat) (t : MS) (d : Int32) : MS :=
  mf_tells R nd (ti (ti (ti (ti t 0 d.toNatClampNeg 0) 1 d.toNatClampNeg 1) 6 d.toNatClampNeg 0) 9 d.toNatClampNeg 0) d (t.1 1) (t.1 2) (t.1 3) (t.1 4)
set_option maxRecDepth 20000 in
set_option maxHeartbeats 4000000 in
theorem mc_fresh (l : Launch) (D : hD) (H0 : Heap) (b R nd : Nat) (t : MS) (h0 : hH) (n : Nat) (d : Int32) (hnd : nd ≤ 10) (h_d : vp_in d 10)  : cM l D H0 yX5_fresh cX5_fresh 2 none 1 25 0 0 [.ref b, .int d] (mput b R nd t h0) n (cE none (mput b R nd (mf_fresh R nd t d) h0) n) := by
  refine h_met (by decide) (Nat.le_of_ble_eq_true rfl) ?_
  intro p e s m below meth c H ls X hnm hr hz hl
  have hl : lv_has ls 2 [(0, .ref b), (1, .int d)] := hl
  have hlo : hL H0 ([] : List Loc) := hL.nil
  refine lv_aload_n X.x X.b dX5_fresh_0 rfl (lv_at hl 0 rfl) ?_
  refine h_get X hr fd_X5_9 mput_o (v := .ref (b + 1)) rfl dX5_fresh_1 ?_
  refine lv_iload_n X.x X.b dX5_fresh_4 rfl (lv_at hl 1 rfl) ?_
  refine lv_iconst (v := 0) X.x X.b dX5_fresh_5 (by decide) ?_
  refine h_iast X hr hz hlo mput_1 h_d dX5_fresh_6 (fun H locs hr hz hlo => ?_)
  rw [mput_a1] at hr
  refine lv_aload_n X.x X.b dX5_fresh_7 rfl (lv_at hl 0 rfl) ?_
  refine h_get X hr fd_X5_13 mput_o (v := .ref (b + 2)) rfl dX5_fresh_8 ?_
  refine lv_iload_n X.x X.b dX5_fresh_11 rfl (lv_at hl 1 rfl) ?_
  refine lv_iconst (v := 1) X.x X.b dX5_fresh_12 (by decide) ?_
  refine h_iast X hr hz hlo mput_2 h_d dX5_fresh_13 (fun H locs hr hz hlo => ?_)
  rw [mput_a2] at hr
  refine lv_aload_n X.x X.b dX5_fresh_14 rfl (lv_at hl 0 rfl) ?_
  refine h_get X hr fd_X5_28 mput_o (v := .ref (b + 7)) rfl dX5_fresh_15 ?_
  refine lv_iload_n X.x X.b dX5_fresh_18 rfl (lv_at hl 1 rfl) ?_
  refine lv_iconst (v := 0) X.x X.b dX5_fresh_19 (by decide) ?_
  refine h_iast X hr hz hlo mput_7 h_d dX5_fresh_20 (fun H locs hr hz hlo => ?_)
  rw [mput_a7] at hr
  refine lv_aload_n X.x X.b dX5_fresh_21 rfl (lv_at hl 0 rfl) ?_
  refine h_get X hr fd_X5_37 mput_o (v := .ref (b + 10)) rfl dX5_fresh_22 ?_
  refine lv_iload_n X.x X.b dX5_fresh_25 rfl (lv_at hl 1 rfl) ?_
  refine lv_iconst (v := 0) X.x X.b dX5_fresh_26 (by decide) ?_
  refine h_iast X hr hz hlo mput_10 h_d dX5_fresh_27 (fun H locs hr hz hlo => ?_)
  rw [mput_a10] at hr
  refine lv_aload_n X.x X.b dX5_fresh_28 rfl (lv_at hl 0 rfl) ?_
  refine lv_iload_n X.x X.b dX5_fresh_29 rfl (lv_at hl 1 rfl) ?_
  refine lv_aload_n X.x X.b dX5_fresh_30 rfl (lv_at hl 0 rfl) ?_
  refine h_get X hr fd_X5_61 mput_o (v := .int (t.1 1)) rfl dX5_fresh_31 ?_
  refine lv_aload_n X.x X.b dX5_fresh_34 rfl (lv_at hl 0 rfl) ?_
  refine h_get X hr fd_X5_64 mput_o (v := .int (t.1 2)) rfl dX5_fresh_35 ?_
  refine lv_aload_n X.x X.b dX5_fresh_38 rfl (lv_at hl 0 rfl) ?_
  refine h_get X hr fd_X5_67 mput_o (v := .int (t.1 3)) rfl dX5_fresh_39 ?_
  refine lv_aload_n X.x X.b dX5_fresh_42 rfl (lv_at hl 0 rfl) ?_
  refine h_get X hr fd_X5_94 mput_o (v := .int (t.1 4)) rfl dX5_fresh_43 ?_
  refine h_callV X hr hz hlo (rest := []) (mc_tells l D H0 b R nd (ti (ti (ti (ti t 0 d.toNatClampNeg 0) 1 d.toNatClampNeg 1) 6 d.toNatClampNeg 0) 9 d.toNatClampNeg 0) h0 n d (t.1 1) (t.1 2) (t.1 3) (t.1 4) hnd h_d) mput_o rfl yv_X5_tells ml_X5_70 ⟨(Nat.le_of_ble_eq_true rfl), (Nat.le_of_ble_eq_true rfl)⟩ (Nat.le_of_ble_eq_true rfl) hl.1 ⟨(Nat.le_of_ble_eq_true rfl), (Nat.le_of_ble_eq_true rfl)⟩ rfl dX5_fresh_46 (fun v9 h9 n9 H locs hp hr hz hlo => ?_)
  obtain ⟨rfl, rfl, rfl⟩ := hp
  show W p l e _ s m _ below meth c H locs _ _ _ (F0 m 49 ls [])
  exact h_vret X hr hz hlo (lfv (id (by unfold mf_fresh; rfl))) (Nat.le_of_ble_eq_true rfl) (Nat.le_of_ble_eq_true rfl) dX5_fresh_49

def mg_backups_2 (R nd : Nat)  : Nat → Nat → MS → Int32 × MS
  | 0, _, t1 => (0, t1)
  | j + 1, k, t1 =>
    if (nI nd) ≤ (nI k) then
      (1, t1)
    else
      if (t1.2.1 0 k) = 0 then
        if ((mf_pokes R nd t1 (nI k)).1) = 0 then
          (0, (mf_pokes R nd t1 (nI k)).2)
        else
          mg_backups_2 R nd  j (k + 1)  (ti ((mf_pokes R nd t1 (nI k)).2) 9 k (((mf_pokes R nd t1 (nI k)).2).1 1))
      else
        mg_backups_2 R nd  j (k + 1)  t1
def mf_backups (R nd : Nat) (t : MS)  : Int32 × MS :=
  mg_backups_2 R nd  (nd + 1) 0  t
set_option maxRecDepth 20000 in
set_option maxHeartbeats 4000000 in
theorem mc_backups (l : Launch) (D : hD) (H0 : Heap) (b R nd : Nat) (t : MS) (h0 : hH) (n : Nat)  (hnd : nd ≤ 10)   : cM l D H0 yX5_backups cX5_backups 2 (some .boolean) 2 42 0 0 [.ref b] (mput b R nd t h0) n (cE (some (.int (mf_backups R nd t).1)) (mput b R nd (mf_backups R nd t).2 h0) n) := by
  refine h_met (by decide) (Nat.le_of_ble_eq_true rfl) ?_
  intro p e s m below meth c H ls X hnm hr hz hl
  have hl : lv_has ls 2 [(0, .ref b)] := hl
  have hlo : hL H0 ([] : List Loc) := hL.nil
  have loop2 : ∀ (j k : Nat)  (t1 : MS) (hk : k ≤ nd) (hj : nd < k + j) (hG : mf_backups R nd t = mg_backups_2 R nd  j k t1) (H : Heap) (locs : List Loc) (ls : Array Slot), hR D H0 (mput b R nd t1 h0) H → H.size = n → hL H0 locs → lv_has ls 2 [(1, .int (nI k)), (0, .ref b)] → W p l e (rmk 2 42 0 0) s m ([.ref b] : List Value).toArray below meth c H locs 0 0 (MQ below (cQ D H0 (cE (some (.int (mf_backups R nd t).1)) (mput b R nd (mf_backups R nd t).2 h0) n)) ([.ref b] : List Value).toArray s 0 0 (hF H0)) (F0 m 2 ls []) := by
    intro j
    induction j with
    | zero => intro k t1 hk hj; omega
    | succ j ih =>
      intro k t1 hk hj hG H locs ls hr hz hlo hl
      refine lv_iload_n X.x X.b dX5_backups_2 rfl (lv_at hl 0 rfl) ?_
      refine lv_aload_n X.x X.b dX5_backups_3 rfl (lv_at hl 1 rfl) ?_
      refine h_get X hr fd_X5_58 mput_o (v := .int (nI nd)) rfl dX5_backups_4 ?_
      refine lv_icmp_ge (tgt := 48) X.x X.b dX5_backups_7 (by decide) (fun c7 => ?_) (fun c7 => ?_)
      · refine lv_iconst (v := 1) X.x X.b dX5_backups_48 (by decide) ?_
        exact h_zret X hr hz hlo rfl (lfi (hG.trans (by rw [mg_backups_2]; rw [if_pos c7]))) (Nat.le_of_ble_eq_true rfl) (Nat.le_of_ble_eq_true rfl) dX5_backups_49
      · have hk9 : k < nd := nd_lt c7 (by omega)
        refine lv_aload_n X.x X.b dX5_backups_10 rfl (lv_at hl 1 rfl) ?_
        refine h_get X hr fd_X5_9 mput_o (v := .ref (b + 1)) rfl dX5_backups_11 ?_
        refine lv_iload_n X.x X.b dX5_backups_14 rfl (lv_at hl 0 rfl) ?_
        refine h_iald X hr mput_1 (vp_in_nI (by omega) (by decide)) (v := .int (t1.2.1 0 k)) (by rw [nI_clamp (n := k) (by omega)]) dX5_backups_15 ?_
        refine lv_if_eq (tgt := 22) X.x X.b dX5_backups_16 (by decide) (fun c16 => ?_) (fun c16 => ?_)
        · refine lv_aload_n X.x X.b dX5_backups_22 rfl (lv_at hl 1 rfl) ?_
          refine lv_iload_n X.x X.b dX5_backups_23 rfl (lv_at hl 0 rfl) ?_
          refine h_callV X hr hz hlo (rest := []) (mc_pokes l D H0 b R nd t1 h0 n (nI k) hnd (vp_in_nI (by omega) (by decide))) mput_o rfl yv_X5_pokes ml_X5_90 ⟨(Nat.le_of_ble_eq_true rfl), (Nat.le_of_ble_eq_true rfl)⟩ (Nat.le_of_ble_eq_true rfl) hl.1 ⟨(Nat.le_of_ble_eq_true rfl), (Nat.le_of_ble_eq_true rfl)⟩ rfl dX5_backups_24 (fun v9 h9 n9 H locs hp hr hz hlo => ?_)
          obtain ⟨rfl, rfl, rfl⟩ := hp
          show W p l e _ s m _ below meth c H locs _ _ _ (F0 m 27 ls [.int ((mf_pokes R nd t1 (nI k)).1)])
          refine lv_if_ne (tgt := 32) X.x X.b dX5_backups_27 (by decide) (fun c27 => ?_) (fun c27 => ?_)
          · refine lv_aload_n X.x X.b dX5_backups_32 rfl (lv_at hl 1 rfl) ?_
            refine h_get X hr fd_X5_37 mput_o (v := .ref (b + 10)) rfl dX5_backups_33 ?_
            refine lv_iload_n X.x X.b dX5_backups_36 rfl (lv_at hl 0 rfl) ?_
            refine lv_aload_n X.x X.b dX5_backups_37 rfl (lv_at hl 1 rfl) ?_
            refine h_get X hr fd_X5_61 mput_o (v := .int (((mf_pokes R nd t1 (nI k)).2).1 1)) rfl dX5_backups_38 ?_
            refine h_iast X hr hz hlo mput_10 (vp_in_nI (by omega) (by decide)) dX5_backups_41 (fun H locs hr hz hlo => ?_)
            rw [nI_clamp (n := k) (by omega), mput_a10] at hr
            refine lv_iinc (v := nI (k + 1)) (lv' := [(1, .int (nI (k + 1))), (0, .ref b)]) X.x X.b dX5_backups_42 hl (k := 0) rfl (nI_1 k) (by decide) rfl (fun ls hl => ?_)
            refine lv_goto (tgt := 2) X.x X.b dX5_backups_45 (by decide) ?_
            exact ih (k + 1)  (ti ((mf_pokes R nd t1 (nI k)).2) 9 k (((mf_pokes R nd t1 (nI k)).2).1 1)) (by omega) (by omega) (hG.trans (by rw [mg_backups_2]; rw [if_neg c7, if_pos c16, if_neg c27])) _ _ _ hr hz hlo (lv_sub hl [0, 1] rfl)
          · refine lv_iconst (v := 0) X.x X.b dX5_backups_30 (by decide) ?_
            exact h_zret X hr hz hlo rfl (lfi (hG.trans (by rw [mg_backups_2]; rw [if_neg c7, if_pos c16, if_pos c27]))) (Nat.le_of_ble_eq_true rfl) (Nat.le_of_ble_eq_true rfl) dX5_backups_31
        · refine lv_goto (tgt := 42) X.x X.b dX5_backups_19 (by decide) ?_
          refine lv_iinc (v := nI (k + 1)) (lv' := [(1, .int (nI (k + 1))), (0, .ref b)]) X.x X.b dX5_backups_42 hl (k := 0) rfl (nI_1 k) (by decide) rfl (fun ls hl => ?_)
          refine lv_goto (tgt := 2) X.x X.b dX5_backups_45 (by decide) ?_
          exact ih (k + 1)  t1 (by omega) (by omega) (hG.trans (by rw [mg_backups_2]; rw [if_neg c7, if_neg c16])) _ _ _ hr hz hlo (lv_sub hl [0, 1] rfl)
  refine lv_iconst (v := 0) X.x X.b dX5_backups_0 (by decide) ?_
  refine lv_istore_n (lv' := [(1, .int 0), (0, .ref b)]) X.x X.b dX5_backups_1 rfl hl (by decide) rfl (fun ls hl => ?_)
  have hl : lv_has ls 2 [(1, .int (nI 0)), (0, .ref b)] := by rw [nI_0]; exact hl
  exact loop2 (nd + 1) 0  t (by omega) (by omega) (id (by unfold mf_backups; rfl)) _ _ _ hr hz hlo (lv_sub hl [0, 1] rfl)
