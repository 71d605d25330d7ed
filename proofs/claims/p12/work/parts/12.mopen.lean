def mg_open_193 (R nd : Nat)  : Nat → Nat → Int32 → Int32 → MS → Int32 × MS
  | 0, _, _, _, t1 => (0, t1)
  | j + 1, k, jn, hbk, t1 =>
    if (nI nd) ≤ (nI k) then
      if jn = (-1) then
        if (mf_isReshaped R nd t1) = 0 then
          if ((mf_sets R nd t1 (t1.1 2) (t1.1 3) (t1.1 4) (-1)).1) = 0 then
            (0, (mf_sets R nd t1 (t1.1 2) (t1.1 3) (t1.1 4) (-1)).2)
          else
            (1, si ((mf_sets R nd t1 (t1.1 2) (t1.1 3) (t1.1 4) (-1)).2) 5 1)
        else
          if hbk = 0 then
            if (mf_isCritical R nd t1) = 0 then
              if hbk = 0 then
                if ((mf_moves R nd t1).1) = 0 then
                  (0, (mf_moves R nd t1).2)
                else
                  (1 + 4, si ((mf_moves R nd t1).2) 5 1)
              else
                if ((mf_backups R nd t1).1) = 0 then
                  (0, (mf_backups R nd t1).2)
                else
                  if ((mf_moves R nd ((mf_backups R nd t1).2)).1) = 0 then
                    (0, (mf_moves R nd ((mf_backups R nd t1).2)).2)
                  else
                    (1 + 4, si ((mf_moves R nd ((mf_backups R nd t1).2)).2) 5 1)
            else
              if ((mf_sets R nd t1 (t1.1 2) (t1.1 3) (t1.1 4) (-1)).1) = 0 then
                (0, (mf_sets R nd t1 (t1.1 2) (t1.1 3) (t1.1 4) (-1)).2)
              else
                (1, si ((mf_sets R nd t1 (t1.1 2) (t1.1 3) (t1.1 4) (-1)).2) 5 1)
          else
            if hbk = 0 then
              if ((mf_moves R nd t1).1) = 0 then
                (0, (mf_moves R nd t1).2)
              else
                (1 + 4, si ((mf_moves R nd t1).2) 5 1)
            else
              if ((mf_backups R nd t1).1) = 0 then
                (0, (mf_backups R nd t1).2)
              else
                if ((mf_moves R nd ((mf_backups R nd t1).2)).1) = 0 then
                  (0, (mf_moves R nd ((mf_backups R nd t1).2)).2)
                else
                  (1 + 4, si ((mf_moves R nd ((mf_backups R nd t1).2)).2) 5 1)
      else
        if ((mf_journaled R nd t1 (t1.2.1 6 jn.toNatClampNeg) (t1.2.1 8 jn.toNatClampNeg) (t1.2.2 0 jn.toNatClampNeg)).1) = 0 then
          (0, (mf_journaled R nd t1 (t1.2.1 6 jn.toNatClampNeg) (t1.2.1 8 jn.toNatClampNeg) (t1.2.2 0 jn.toNatClampNeg)).2)
        else
          if (mf_isReshaped R nd ((mf_journaled R nd t1 (t1.2.1 6 jn.toNatClampNeg) (t1.2.1 8 jn.toNatClampNeg) (t1.2.2 0 jn.toNatClampNeg)).2)) = 0 then
            if ((mf_sets R nd ((mf_journaled R nd t1 (t1.2.1 6 jn.toNatClampNeg) (t1.2.1 8 jn.toNatClampNeg) (t1.2.2 0 jn.toNatClampNeg)).2) (((mf_journaled R nd t1 (t1.2.1 6 jn.toNatClampNeg) (t1.2.1 8 jn.toNatClampNeg) (t1.2.2 0 jn.toNatClampNeg)).2).1 2) (((mf_journaled R nd t1 (t1.2.1 6 jn.toNatClampNeg) (t1.2.1 8 jn.toNatClampNeg) (t1.2.2 0 jn.toNatClampNeg)).2).1 3) (((mf_journaled R nd t1 (t1.2.1 6 jn.toNatClampNeg) (t1.2.1 8 jn.toNatClampNeg) (t1.2.2 0 jn.toNatClampNeg)).2).1 4) (-1)).1) = 0 then
              (0, (mf_sets R nd ((mf_journaled R nd t1 (t1.2.1 6 jn.toNatClampNeg) (t1.2.1 8 jn.toNatClampNeg) (t1.2.2 0 jn.toNatClampNeg)).2) (((mf_journaled R nd t1 (t1.2.1 6 jn.toNatClampNeg) (t1.2.1 8 jn.toNatClampNeg) (t1.2.2 0 jn.toNatClampNeg)).2).1 2) (((mf_journaled R nd t1 (t1.2.1 6 jn.toNatClampNeg) (t1.2.1 8 jn.toNatClampNeg) (t1.2.2 0 jn.toNatClampNeg)).2).1 3) (((mf_journaled R nd t1 (t1.2.1 6 jn.toNatClampNeg) (t1.2.1 8 jn.toNatClampNeg) (t1.2.2 0 jn.toNatClampNeg)).2).1 4) (-1)).2)
            else
              (1 + 2, si ((mf_sets R nd ((mf_journaled R nd t1 (t1.2.1 6 jn.toNatClampNeg) (t1.2.1 8 jn.toNatClampNeg) (t1.2.2 0 jn.toNatClampNeg)).2) (((mf_journaled R nd t1 (t1.2.1 6 jn.toNatClampNeg) (t1.2.1 8 jn.toNatClampNeg) (t1.2.2 0 jn.toNatClampNeg)).2).1 2) (((mf_journaled R nd t1 (t1.2.1 6 jn.toNatClampNeg) (t1.2.1 8 jn.toNatClampNeg) (t1.2.2 0 jn.toNatClampNeg)).2).1 3) (((mf_journaled R nd t1 (t1.2.1 6 jn.toNatClampNeg) (t1.2.1 8 jn.toNatClampNeg) (t1.2.2 0 jn.toNatClampNeg)).2).1 4) (-1)).2) 5 1)
          else
            if hbk = 0 then
              if (mf_isCritical R nd ((mf_journaled R nd t1 (t1.2.1 6 jn.toNatClampNeg) (t1.2.1 8 jn.toNatClampNeg) (t1.2.2 0 jn.toNatClampNeg)).2)) = 0 then
                if hbk = 0 then
                  if ((mf_moves R nd ((mf_journaled R nd t1 (t1.2.1 6 jn.toNatClampNeg) (t1.2.1 8 jn.toNatClampNeg) (t1.2.2 0 jn.toNatClampNeg)).2)).1) = 0 then
                    (0, (mf_moves R nd ((mf_journaled R nd t1 (t1.2.1 6 jn.toNatClampNeg) (t1.2.1 8 jn.toNatClampNeg) (t1.2.2 0 jn.toNatClampNeg)).2)).2)
                  else
                    ((1 + 2) + 4, si ((mf_moves R nd ((mf_journaled R nd t1 (t1.2.1 6 jn.toNatClampNeg) (t1.2.1 8 jn.toNatClampNeg) (t1.2.2 0 jn.toNatClampNeg)).2)).2) 5 1)
                else
                  if ((mf_backups R nd ((mf_journaled R nd t1 (t1.2.1 6 jn.toNatClampNeg) (t1.2.1 8 jn.toNatClampNeg) (t1.2.2 0 jn.toNatClampNeg)).2)).1) = 0 then
                    (0, (mf_backups R nd ((mf_journaled R nd t1 (t1.2.1 6 jn.toNatClampNeg) (t1.2.1 8 jn.toNatClampNeg) (t1.2.2 0 jn.toNatClampNeg)).2)).2)
                  else
                    if ((mf_moves R nd ((mf_backups R nd ((mf_journaled R nd t1 (t1.2.1 6 jn.toNatClampNeg) (t1.2.1 8 jn.toNatClampNeg) (t1.2.2 0 jn.toNatClampNeg)).2)).2)).1) = 0 then
                      (0, (mf_moves R nd ((mf_backups R nd ((mf_journaled R nd t1 (t1.2.1 6 jn.toNatClampNeg) (t1.2.1 8 jn.toNatClampNeg) (t1.2.2 0 jn.toNatClampNeg)).2)).2)).2)
                    else
                      ((1 + 2) + 4, si ((mf_moves R nd ((mf_backups R nd ((mf_journaled R nd t1 (t1.2.1 6 jn.toNatClampNeg) (t1.2.1 8 jn.toNatClampNeg) (t1.2.2 0 jn.toNatClampNeg)).2)).2)).2) 5 1)
              else
                if ((mf_sets R nd ((mf_journaled R nd t1 (t1.2.1 6 jn.toNatClampNeg) (t1.2.1 8 jn.toNatClampNeg) (t1.2.2 0 jn.toNatClampNeg)).2) (((mf_journaled R nd t1 (t1.2.1 6 jn.toNatClampNeg) (t1.2.1 8 jn.toNatClampNeg) (t1.2.2 0 jn.toNatClampNeg)).2).1 2) (((mf_journaled R nd t1 (t1.2.1 6 jn.toNatClampNeg) (t1.2.1 8 jn.toNatClampNeg) (t1.2.2 0 jn.toNatClampNeg)).2).1 3) (((mf_journaled R nd t1 (t1.2.1 6 jn.toNatClampNeg) (t1.2.1 8 jn.toNatClampNeg) (t1.2.2 0 jn.toNatClampNeg)).2).1 4) (-1)).1) = 0 then
                  (0, (mf_sets R nd ((mf_journaled R nd t1 (t1.2.1 6 jn.toNatClampNeg) (t1.2.1 8 jn.toNatClampNeg) (t1.2.2 0 jn.toNatClampNeg)).2) (((mf_journaled R nd t1 (t1.2.1 6 jn.toNatClampNeg) (t1.2.1 8 jn.toNatClampNeg) (t1.2.2 0 jn.toNatClampNeg)).2).1 2) (((mf_journaled R nd t1 (t1.2.1 6 jn.toNatClampNeg) (t1.2.1 8 jn.toNatClampNeg) (t1.2.2 0 jn.toNatClampNeg)).2).1 3) (((mf_journaled R nd t1 (t1.2.1 6 jn.toNatClampNeg) (t1.2.1 8 jn.toNatClampNeg) (t1.2.2 0 jn.toNatClampNeg)).2).1 4) (-1)).2)
                else
                  (1 + 2, si ((mf_sets R nd ((mf_journaled R nd t1 (t1.2.1 6 jn.toNatClampNeg) (t1.2.1 8 jn.toNatClampNeg) (t1.2.2 0 jn.toNatClampNeg)).2) (((mf_journaled R nd t1 (t1.2.1 6 jn.toNatClampNeg) (t1.2.1 8 jn.toNatClampNeg) (t1.2.2 0 jn.toNatClampNeg)).2).1 2) (((mf_journaled R nd t1 (t1.2.1 6 jn.toNatClampNeg) (t1.2.1 8 jn.toNatClampNeg) (t1.2.2 0 jn.toNatClampNeg)).2).1 3) (((mf_journaled R nd t1 (t1.2.1 6 jn.toNatClampNeg) (t1.2.1 8 jn.toNatClampNeg) (t1.2.2 0 jn.toNatClampNeg)).2).1 4) (-1)).2) 5 1)
            else
              if hbk = 0 then
                if ((mf_moves R nd ((mf_journaled R nd t1 (t1.2.1 6 jn.toNatClampNeg) (t1.2.1 8 jn.toNatClampNeg) (t1.2.2 0 jn.toNatClampNeg)).2)).1) = 0 then
                  (0, (mf_moves R nd ((mf_journaled R nd t1 (t1.2.1 6 jn.toNatClampNeg) (t1.2.1 8 jn.toNatClampNeg) (t1.2.2 0 jn.toNatClampNeg)).2)).2)
                else
                  ((1 + 2) + 4, si ((mf_moves R nd ((mf_journaled R nd t1 (t1.2.1 6 jn.toNatClampNeg) (t1.2.1 8 jn.toNatClampNeg) (t1.2.2 0 jn.toNatClampNeg)).2)).2) 5 1)
              else
                if ((mf_backups R nd ((mf_journaled R nd t1 (t1.2.1 6 jn.toNatClampNeg) (t1.2.1 8 jn.toNatClampNeg) (t1.2.2 0 jn.toNatClampNeg)).2)).1) = 0 then
                  (0, (mf_backups R nd ((mf_journaled R nd t1 (t1.2.1 6 jn.toNatClampNeg) (t1.2.1 8 jn.toNatClampNeg) (t1.2.2 0 jn.toNatClampNeg)).2)).2)
                else
                  if ((mf_moves R nd ((mf_backups R nd ((mf_journaled R nd t1 (t1.2.1 6 jn.toNatClampNeg) (t1.2.1 8 jn.toNatClampNeg) (t1.2.2 0 jn.toNatClampNeg)).2)).2)).1) = 0 then
                    (0, (mf_moves R nd ((mf_backups R nd ((mf_journaled R nd t1 (t1.2.1 6 jn.toNatClampNeg) (t1.2.1 8 jn.toNatClampNeg) (t1.2.2 0 jn.toNatClampNeg)).2)).2)).2)
                  else
                    ((1 + 2) + 4, si ((mf_moves R nd ((mf_backups R nd ((mf_journaled R nd t1 (t1.2.1 6 jn.toNatClampNeg) (t1.2.1 8 jn.toNatClampNeg) (t1.2.2 0 jn.toNatClampNeg)).2)).2)).2) 5 1)
    else
      if (t1.2.1 0 k) = 0 then
        if hbk = 0 then
          if (t1.2.1 9 k) = (t1.1 1) then
            if (t1.2.1 6 k) ≤ 0 then
              mg_open_193 R nd  j (k + 1) jn 1 t1
            else
              if (t1.2.1 7 k) = (t1.1 1) then
                if jn = (-1) then
                  mg_open_193 R nd  j (k + 1) (nI k) 1 t1
                else
                  if (t1.2.1 6 k) ≤ (t1.2.1 6 jn.toNatClampNeg) then
                    mg_open_193 R nd  j (k + 1) jn 1 t1
                  else
                    mg_open_193 R nd  j (k + 1) (nI k) 1 t1
              else
                mg_open_193 R nd  j (k + 1) jn 1 t1
          else
            if (t1.2.1 6 k) ≤ 0 then
              mg_open_193 R nd  j (k + 1) jn 0 t1
            else
              if (t1.2.1 7 k) = (t1.1 1) then
                if jn = (-1) then
                  mg_open_193 R nd  j (k + 1) (nI k) 0 t1
                else
                  if (t1.2.1 6 k) ≤ (t1.2.1 6 jn.toNatClampNeg) then
                    mg_open_193 R nd  j (k + 1) jn 0 t1
                  else
                    mg_open_193 R nd  j (k + 1) (nI k) 0 t1
              else
                mg_open_193 R nd  j (k + 1) jn 0 t1
        else
          if (t1.2.1 6 k) ≤ 0 then
            mg_open_193 R nd  j (k + 1) jn 1 t1
          else
            if (t1.2.1 7 k) = (t1.1 1) then
              if jn = (-1) then
                mg_open_193 R nd  j (k + 1) (nI k) 1 t1
              else
                if (t1.2.1 6 k) ≤ (t1.2.1 6 jn.toNatClampNeg) then
                  mg_open_193 R nd  j (k + 1) jn 1 t1
                else
                  mg_open_193 R nd  j (k + 1) (nI k) 1 t1
            else
              mg_open_193 R nd  j (k + 1) jn 1 t1
      else
        mg_open_193 R nd  j (k + 1) jn hbk t1
def mg_open_115 (R nd : Nat)  : Nat → Nat → MS → Int32 × MS
  | 0, _, t1 => (0, t1)
  | j + 1, k, t1 =>
    if (nI nd) ≤ (nI k) then
      mg_open_193 R nd  (nd + 1) 0 (-1) 0 t1
    else
      if (t1.2.1 0 k) = 0 then
        if (t1.2.1 2 k) = (t1.1 1) then
          mg_open_115 R nd  j (k + 1)  t1
        else
          if ((mf_pokes R nd t1 (nI k)).1) = 0 then
            (0, (mf_pokes R nd t1 (nI k)).2)
          else
            mg_open_115 R nd  j (k + 1)  (mf_tells R nd ((mf_pokes R nd t1 (nI k)).2) (nI k) (((mf_pokes R nd t1 (nI k)).2).1 1) (((mf_pokes R nd t1 (nI k)).2).1 2) (((mf_pokes R nd t1 (nI k)).2).1 3) (((mf_pokes R nd t1 (nI k)).2).1 4))
      else
        mg_open_115 R nd  j (k + 1)  t1
def mg_open_23 (R nd : Nat)  : Nat → Nat → Int32 → MS → Int32 × MS
  | 0, _, _, t1 => (0, t1)
  | j + 1, k, best, t1 =>
    if (nI nd) ≤ (nI k) then
      mg_open_115 R nd  (nd + 1) 0  (si (si (si (si t1 1 (t1.2.1 2 best.toNatClampNeg)) 2 (t1.2.1 3 best.toNatClampNeg)) 3 (t1.2.1 4 best.toNatClampNeg)) 4 (t1.2.1 5 best.toNatClampNeg))
    else
      if (t1.2.1 0 k) = 0 then
        if best = (-1) then
          mg_open_23 R nd  j (k + 1) (nI k) t1
        else
          if (t1.2.1 2 k) ≤ (t1.2.1 2 best.toNatClampNeg) then
            mg_open_23 R nd  j (k + 1) best t1
          else
            mg_open_23 R nd  j (k + 1) (nI k) t1
      else
        mg_open_23 R nd  j (k + 1) best t1
def mf_open (R nd : Nat) (t : MS)  : Int32 × MS :=
  if (t.1 5) = 0 then
    mg_open_23 R nd  (nd + 1) 0 (-1) (si t 0 0)
  else
    ((-1), si t 0 0)
set_option maxRecDepth 20000 in
set_option maxHeartbeats 4000000 in
theorem mc_open (l : Launch) (D : hD) (H0 : Heap) (b R nd : Nat) (t : MS) (h0 : hH) (n : Nat)  (hnd : nd ≤ 10)  (hlive : ∃ i, i < nd ∧ t.2.1 0 i = 0) (hS : ∀ i, i < nd → t.2.1 0 i = 0 → SV t i) (hJ : ∀ i, i < nd → vp_in (t.2.1 8 i) 432) : cM l D H0 yX5_open cX5_open 6 (some .int) 7 151 0 0 [.ref b] (mput b R nd t h0) n (cE (some (.int (mf_open R nd t).1)) (mput b R nd (mf_open R nd t).2 h0) n) := by
  refine h_met (by decide) (Nat.le_of_ble_eq_true rfl) ?_
  intro p e s m below meth c H ls X hnm hr hz hl
  have hl : lv_has ls 6 [(0, .ref b)] := hl
  have hlo : hL H0 ([] : List Loc) := hL.nil
  have loop193 : ∀ (j k : Nat) (jn : Int32) (hbk : Int32) (t1 : MS) (hk : k ≤ nd) (hj : nd < k + j) (hO : OI nd t1) (hjn : Jst nd jn) (hG : mf_open R nd t = mg_open_193 R nd  j k jn hbk t1) (H : Heap) (locs : List Loc) (ls : Array Slot), hR D H0 (mput b R nd t1 h0) H → H.size = n → hL H0 locs → lv_has ls 6 [(4, .int (nI k)), (2, .int jn), (3, .int hbk), (0, .ref b)] → W p l e (rmk 7 151 0 0) s m ([.ref b] : List Value).toArray below meth c H locs 0 0 (MQ below (cQ D H0 (cE (some (.int (mf_open R nd t).1)) (mput b R nd (mf_open R nd t).2 h0) n)) ([.ref b] : List Value).toArray s 0 0 (hF H0)) (F0 m 193 ls []) := by
    intro j
    induction j with
    | zero => intro k jn hbk t1 hk hj; omega
    | succ j ih =>
      intro k jn hbk t1 hk hj hO hjn hG H locs ls hr hz hlo hl
      refine lv_iload X.x X.b dX5_open_193 (lv_at hl 0 rfl) ?_
      refine lv_aload_n X.x X.b dX5_open_195 rfl (lv_at hl 3 rfl) ?_
      refine h_get X hr fd_X5_58 mput_o (v := .int (nI nd)) rfl dX5_open_196 ?_
      refine lv_icmp_ge (tgt := 305) X.x X.b dX5_open_199 (by decide) (fun c199 => ?_) (fun c199 => ?_)
      · refine lv_iconst (v := 1) X.x X.b dX5_open_305 (by decide) ?_
        refine lv_istore (lv' := [(4, .int 1), (2, .int jn), (3, .int hbk), (0, .ref b)]) X.x X.b dX5_open_306 hl (by decide) rfl (fun ls hl => ?_)
        refine lv_iload_n X.x X.b dX5_open_308 rfl (lv_at hl 1 rfl) ?_
        refine lv_iconst (v := -1) X.x X.b dX5_open_309 (by decide) ?_
        refine lv_icmp_eq (tgt := 343) X.x X.b dX5_open_310 (by decide) (fun c310 => ?_) (fun c310 => ?_)
        · refine lv_aload_n X.x X.b dX5_open_343 rfl (lv_at hl 3 rfl) ?_
          refine h_callV X hr hz hlo (rest := []) (mc_isReshaped l D H0 b R nd t1 h0 n  hnd ) mput_o rfl yv_X5_isReshaped ml_X5_97 ⟨(Nat.le_of_ble_eq_true rfl), (Nat.le_of_ble_eq_true rfl)⟩ (Nat.le_of_ble_eq_true rfl) hl.1 ⟨(Nat.le_of_ble_eq_true rfl), (Nat.le_of_ble_eq_true rfl)⟩ rfl dX5_open_344 (fun v9 h9 n9 H locs hp hr hz hlo => ?_)
          obtain ⟨rfl, rfl, rfl⟩ := hp
          show W p l e _ s m _ below meth c H locs _ _ _ (F0 m 347 ls [.int (mf_isReshaped R nd t1)])
          refine lv_if_eq (tgt := 389) X.x X.b dX5_open_347 (by decide) (fun c347 => ?_) (fun c347 => ?_)
          · refine lv_aload_n X.x X.b dX5_open_389 rfl (lv_at hl 3 rfl) ?_
            refine lv_aload_n X.x X.b dX5_open_390 rfl (lv_at hl 3 rfl) ?_
            refine h_get X hr fd_X5_64 mput_o (v := .int (t1.1 2)) rfl dX5_open_391 ?_
            refine lv_aload_n X.x X.b dX5_open_394 rfl (lv_at hl 3 rfl) ?_
            refine h_get X hr fd_X5_67 mput_o (v := .int (t1.1 3)) rfl dX5_open_395 ?_
            refine lv_aload_n X.x X.b dX5_open_398 rfl (lv_at hl 3 rfl) ?_
            refine h_get X hr fd_X5_94 mput_o (v := .int (t1.1 4)) rfl dX5_open_399 ?_
            refine lv_iconst (v := -1) X.x X.b dX5_open_402 (by decide) ?_
            refine h_callV X hr hz hlo (rest := []) (mc_sets l D H0 b R nd t1 h0 n (t1.1 2) (t1.1 3) (t1.1 4) (-1) hnd ) mput_o rfl yv_X5_sets ml_X5_138 ⟨(Nat.le_of_ble_eq_true rfl), (Nat.le_of_ble_eq_true rfl)⟩ (Nat.le_of_ble_eq_true rfl) hl.1 ⟨(Nat.le_of_ble_eq_true rfl), (Nat.le_of_ble_eq_true rfl)⟩ rfl dX5_open_403 (fun v9 h9 n9 H locs hp hr hz hlo => ?_)
            obtain ⟨rfl, rfl, rfl⟩ := hp
            show W p l e _ s m _ below meth c H locs _ _ _ (F0 m 406 ls [.int ((mf_sets R nd t1 (t1.1 2) (t1.1 3) (t1.1 4) (-1)).1)])
            refine lv_if_ne (tgt := 411) X.x X.b dX5_open_406 (by decide) (fun c406 => ?_) (fun c406 => ?_)
            · refine lv_aload_n X.x X.b dX5_open_411 rfl (lv_at hl 3 rfl) ?_
              refine lv_iconst (v := 1) X.x X.b dX5_open_412 (by decide) ?_
              refine h_put X hr hz hlo fd_X5_44 tyX5 tyX5_ok nmX5 rfl mput_o (v := .int 1) rfl rfl (Nat.le_of_ble_eq_true rfl) dX5_open_413 (fun H locs hr hz hlo => ?_)
              rw [mput_s5] at hr
              refine lv_iload X.x X.b dX5_open_416 (lv_at hl 0 rfl) ?_
              exact h_iret X hr hz hlo (lfi (hG.trans (by rw [mg_open_193]; rw [if_pos c199, if_pos c310, if_pos c347, if_neg c406]))) (Nat.le_of_ble_eq_true rfl) (Nat.le_of_ble_eq_true rfl) dX5_open_418
            · refine lv_iconst (v := 0) X.x X.b dX5_open_409 (by decide) ?_
              exact h_iret X hr hz hlo (lfi (hG.trans (by rw [mg_open_193]; rw [if_pos c199, if_pos c310, if_pos c347, if_pos c406]))) (Nat.le_of_ble_eq_true rfl) (Nat.le_of_ble_eq_true rfl) dX5_open_410
          · refine lv_iload_n X.x X.b dX5_open_350 rfl (lv_at hl 2 rfl) ?_
            refine lv_if_ne (tgt := 361) X.x X.b dX5_open_351 (by decide) (fun c351 => ?_) (fun c351 => ?_)
            · refine lv_iload_n X.x X.b dX5_open_361 rfl (lv_at hl 2 rfl) ?_
              refine lv_if_eq (tgt := 374) X.x X.b dX5_open_362 (by decide) (fun c362 => ?_) (fun c362 => ?_)
              · refine lv_aload_n X.x X.b dX5_open_374 rfl (lv_at hl 3 rfl) ?_
                refine h_callV X hr hz hlo (rest := []) (mc_moves l D H0 b R nd t1 h0 n  hnd hO.1) mput_o rfl yv_X5_moves ml_X5_151 ⟨(Nat.le_of_ble_eq_true rfl), (Nat.le_of_ble_eq_true rfl)⟩ (Nat.le_of_ble_eq_true rfl) hl.1 ⟨(Nat.le_of_ble_eq_true rfl), (Nat.le_of_ble_eq_true rfl)⟩ rfl dX5_open_375 (fun v9 h9 n9 H locs hp hr hz hlo => ?_)
                obtain ⟨rfl, rfl, rfl⟩ := hp
                show W p l e _ s m _ below meth c H locs _ _ _ (F0 m 378 ls [.int ((mf_moves R nd t1).1)])
                refine lv_if_ne (tgt := 383) X.x X.b dX5_open_378 (by decide) (fun c378 => ?_) (fun c378 => ?_)
                · refine lv_iinc (v := 1 + 4) (lv' := [(4, .int (1 + 4)), (2, .int jn), (3, .int hbk), (0, .ref b)]) X.x X.b dX5_open_383 hl (k := 0) rfl rfl (by decide) rfl (fun ls hl => ?_)
                  refine lv_goto (tgt := 411) X.x X.b dX5_open_386 (by decide) ?_
                  refine lv_aload_n X.x X.b dX5_open_411 rfl (lv_at hl 3 rfl) ?_
                  refine lv_iconst (v := 1) X.x X.b dX5_open_412 (by decide) ?_
                  refine h_put X hr hz hlo fd_X5_44 tyX5 tyX5_ok nmX5 rfl mput_o (v := .int 1) rfl rfl (Nat.le_of_ble_eq_true rfl) dX5_open_413 (fun H locs hr hz hlo => ?_)
                  rw [mput_s5] at hr
                  refine lv_iload X.x X.b dX5_open_416 (lv_at hl 0 rfl) ?_
                  exact h_iret X hr hz hlo (lfi (hG.trans (by rw [mg_open_193]; rw [if_pos c199, if_pos c310, if_neg c347, if_neg c351, if_pos c362, if_neg c378]))) (Nat.le_of_ble_eq_true rfl) (Nat.le_of_ble_eq_true rfl) dX5_open_418
                · refine lv_iconst (v := 0) X.x X.b dX5_open_381 (by decide) ?_
                  exact h_iret X hr hz hlo (lfi (hG.trans (by rw [mg_open_193]; rw [if_pos c199, if_pos c310, if_neg c347, if_neg c351, if_pos c362, if_pos c378]))) (Nat.le_of_ble_eq_true rfl) (Nat.le_of_ble_eq_true rfl) dX5_open_382
              · refine lv_aload_n X.x X.b dX5_open_365 rfl (lv_at hl 3 rfl) ?_
                refine h_callV X hr hz hlo (rest := []) (mc_backups l D H0 b R nd t1 h0 n  hnd ) mput_o rfl yv_X5_backups ml_X5_148 ⟨(Nat.le_of_ble_eq_true rfl), (Nat.le_of_ble_eq_true rfl)⟩ (Nat.le_of_ble_eq_true rfl) hl.1 ⟨(Nat.le_of_ble_eq_true rfl), (Nat.le_of_ble_eq_true rfl)⟩ rfl dX5_open_366 (fun v9 h9 n9 H locs hp hr hz hlo => ?_)
                obtain ⟨rfl, rfl, rfl⟩ := hp
                show W p l e _ s m _ below meth c H locs _ _ _ (F0 m 369 ls [.int ((mf_backups R nd t1).1)])
                refine lv_if_ne (tgt := 374) X.x X.b dX5_open_369 (by decide) (fun c369 => ?_) (fun c369 => ?_)
                · refine lv_aload_n X.x X.b dX5_open_374 rfl (lv_at hl 3 rfl) ?_
                  refine h_callV X hr hz hlo (rest := []) (mc_moves l D H0 b R nd ((mf_backups R nd t1).2) h0 n  hnd (GV_of ((mf_backups_keep ..).1 2 (by decide)) ((mf_backups_keep ..).1 3 (by decide)) hO.1)) mput_o rfl yv_X5_moves ml_X5_151 ⟨(Nat.le_of_ble_eq_true rfl), (Nat.le_of_ble_eq_true rfl)⟩ (Nat.le_of_ble_eq_true rfl) hl.1 ⟨(Nat.le_of_ble_eq_true rfl), (Nat.le_of_ble_eq_true rfl)⟩ rfl dX5_open_375 (fun v9 h9 n9 H locs hp hr hz hlo => ?_)
                  obtain ⟨rfl, rfl, rfl⟩ := hp
                  show W p l e _ s m _ below meth c H locs _ _ _ (F0 m 378 ls [.int ((mf_moves R nd ((mf_backups R nd t1).2)).1)])
                  refine lv_if_ne (tgt := 383) X.x X.b dX5_open_378 (by decide) (fun c378 => ?_) (fun c378 => ?_)
                  · refine lv_iinc (v := 1 + 4) (lv' := [(4, .int (1 + 4)), (2, .int jn), (3, .int hbk), (0, .ref b)]) X.x X.b dX5_open_383 hl (k := 0) rfl rfl (by decide) rfl (fun ls hl => ?_)
                    refine lv_goto (tgt := 411) X.x X.b dX5_open_386 (by decide) ?_
                    refine lv_aload_n X.x X.b dX5_open_411 rfl (lv_at hl 3 rfl) ?_
                    refine lv_iconst (v := 1) X.x X.b dX5_open_412 (by decide) ?_
                    refine h_put X hr hz hlo fd_X5_44 tyX5 tyX5_ok nmX5 rfl mput_o (v := .int 1) rfl rfl (Nat.le_of_ble_eq_true rfl) dX5_open_413 (fun H locs hr hz hlo => ?_)
                    rw [mput_s5] at hr
                    refine lv_iload X.x X.b dX5_open_416 (lv_at hl 0 rfl) ?_
                    exact h_iret X hr hz hlo (lfi (hG.trans (by rw [mg_open_193]; rw [if_pos c199, if_pos c310, if_neg c347, if_neg c351, if_neg c362, if_neg c369, if_neg c378]))) (Nat.le_of_ble_eq_true rfl) (Nat.le_of_ble_eq_true rfl) dX5_open_418
                  · refine lv_iconst (v := 0) X.x X.b dX5_open_381 (by decide) ?_
                    exact h_iret X hr hz hlo (lfi (hG.trans (by rw [mg_open_193]; rw [if_pos c199, if_pos c310, if_neg c347, if_neg c351, if_neg c362, if_neg c369, if_pos c378]))) (Nat.le_of_ble_eq_true rfl) (Nat.le_of_ble_eq_true rfl) dX5_open_382
                · refine lv_iconst (v := 0) X.x X.b dX5_open_372 (by decide) ?_
                  exact h_iret X hr hz hlo (lfi (hG.trans (by rw [mg_open_193]; rw [if_pos c199, if_pos c310, if_neg c347, if_neg c351, if_neg c362, if_pos c369]))) (Nat.le_of_ble_eq_true rfl) (Nat.le_of_ble_eq_true rfl) dX5_open_373
            · refine lv_aload_n X.x X.b dX5_open_354 rfl (lv_at hl 3 rfl) ?_
              refine h_callV X hr hz hlo (rest := []) (mc_isCritical l D H0 b R nd t1 h0 n  hnd ) mput_o rfl yv_X5_isCritical ml_X5_145 ⟨(Nat.le_of_ble_eq_true rfl), (Nat.le_of_ble_eq_true rfl)⟩ (Nat.le_of_ble_eq_true rfl) hl.1 ⟨(Nat.le_of_ble_eq_true rfl), (Nat.le_of_ble_eq_true rfl)⟩ rfl dX5_open_355 (fun v9 h9 n9 H locs hp hr hz hlo => ?_)
              obtain ⟨rfl, rfl, rfl⟩ := hp
              show W p l e _ s m _ below meth c H locs _ _ _ (F0 m 358 ls [.int (mf_isCritical R nd t1)])
              refine lv_if_ne (tgt := 389) X.x X.b dX5_open_358 (by decide) (fun c358 => ?_) (fun c358 => ?_)
              · refine lv_aload_n X.x X.b dX5_open_389 rfl (lv_at hl 3 rfl) ?_
                refine lv_aload_n X.x X.b dX5_open_390 rfl (lv_at hl 3 rfl) ?_
                refine h_get X hr fd_X5_64 mput_o (v := .int (t1.1 2)) rfl dX5_open_391 ?_
                refine lv_aload_n X.x X.b dX5_open_394 rfl (lv_at hl 3 rfl) ?_
                refine h_get X hr fd_X5_67 mput_o (v := .int (t1.1 3)) rfl dX5_open_395 ?_
                refine lv_aload_n X.x X.b dX5_open_398 rfl (lv_at hl 3 rfl) ?_
                refine h_get X hr fd_X5_94 mput_o (v := .int (t1.1 4)) rfl dX5_open_399 ?_
                refine lv_iconst (v := -1) X.x X.b dX5_open_402 (by decide) ?_
                refine h_callV X hr hz hlo (rest := []) (mc_sets l D H0 b R nd t1 h0 n (t1.1 2) (t1.1 3) (t1.1 4) (-1) hnd ) mput_o rfl yv_X5_sets ml_X5_138 ⟨(Nat.le_of_ble_eq_true rfl), (Nat.le_of_ble_eq_true rfl)⟩ (Nat.le_of_ble_eq_true rfl) hl.1 ⟨(Nat.le_of_ble_eq_true rfl), (Nat.le_of_ble_eq_true rfl)⟩ rfl dX5_open_403 (fun v9 h9 n9 H locs hp hr hz hlo => ?_)
                obtain ⟨rfl, rfl, rfl⟩ := hp
                show W p l e _ s m _ below meth c H locs _ _ _ (F0 m 406 ls [.int ((mf_sets R nd t1 (t1.1 2) (t1.1 3) (t1.1 4) (-1)).1)])
                refine lv_if_ne (tgt := 411) X.x X.b dX5_open_406 (by decide) (fun c406 => ?_) (fun c406 => ?_)
                · refine lv_aload_n X.x X.b dX5_open_411 rfl (lv_at hl 3 rfl) ?_
                  refine lv_iconst (v := 1) X.x X.b dX5_open_412 (by decide) ?_
                  refine h_put X hr hz hlo fd_X5_44 tyX5 tyX5_ok nmX5 rfl mput_o (v := .int 1) rfl rfl (Nat.le_of_ble_eq_true rfl) dX5_open_413 (fun H locs hr hz hlo => ?_)
                  rw [mput_s5] at hr
                  refine lv_iload X.x X.b dX5_open_416 (lv_at hl 0 rfl) ?_
                  exact h_iret X hr hz hlo (lfi (hG.trans (by rw [mg_open_193]; rw [if_pos c199, if_pos c310, if_neg c347, if_pos c351, if_neg c358, if_neg c406]))) (Nat.le_of_ble_eq_true rfl) (Nat.le_of_ble_eq_true rfl) dX5_open_418
                · refine lv_iconst (v := 0) X.x X.b dX5_open_409 (by decide) ?_
                  exact h_iret X hr hz hlo (lfi (hG.trans (by rw [mg_open_193]; rw [if_pos c199, if_pos c310, if_neg c347, if_pos c351, if_neg c358, if_pos c406]))) (Nat.le_of_ble_eq_true rfl) (Nat.le_of_ble_eq_true rfl) dX5_open_410
              · refine lv_iload_n X.x X.b dX5_open_361 rfl (lv_at hl 2 rfl) ?_
                refine lv_if_eq (tgt := 374) X.x X.b dX5_open_362 (by decide) (fun c362 => ?_) (fun c362 => ?_)
                · refine lv_aload_n X.x X.b dX5_open_374 rfl (lv_at hl 3 rfl) ?_
                  refine h_callV X hr hz hlo (rest := []) (mc_moves l D H0 b R nd t1 h0 n  hnd hO.1) mput_o rfl yv_X5_moves ml_X5_151 ⟨(Nat.le_of_ble_eq_true rfl), (Nat.le_of_ble_eq_true rfl)⟩ (Nat.le_of_ble_eq_true rfl) hl.1 ⟨(Nat.le_of_ble_eq_true rfl), (Nat.le_of_ble_eq_true rfl)⟩ rfl dX5_open_375 (fun v9 h9 n9 H locs hp hr hz hlo => ?_)
                  obtain ⟨rfl, rfl, rfl⟩ := hp
                  show W p l e _ s m _ below meth c H locs _ _ _ (F0 m 378 ls [.int ((mf_moves R nd t1).1)])
                  refine lv_if_ne (tgt := 383) X.x X.b dX5_open_378 (by decide) (fun c378 => ?_) (fun c378 => ?_)
                  · refine lv_iinc (v := 1 + 4) (lv' := [(4, .int (1 + 4)), (2, .int jn), (3, .int hbk), (0, .ref b)]) X.x X.b dX5_open_383 hl (k := 0) rfl rfl (by decide) rfl (fun ls hl => ?_)
                    refine lv_goto (tgt := 411) X.x X.b dX5_open_386 (by decide) ?_
                    refine lv_aload_n X.x X.b dX5_open_411 rfl (lv_at hl 3 rfl) ?_
                    refine lv_iconst (v := 1) X.x X.b dX5_open_412 (by decide) ?_
                    refine h_put X hr hz hlo fd_X5_44 tyX5 tyX5_ok nmX5 rfl mput_o (v := .int 1) rfl rfl (Nat.le_of_ble_eq_true rfl) dX5_open_413 (fun H locs hr hz hlo => ?_)
                    rw [mput_s5] at hr
                    refine lv_iload X.x X.b dX5_open_416 (lv_at hl 0 rfl) ?_
                    exact h_iret X hr hz hlo (lfi (hG.trans (by rw [mg_open_193]; rw [if_pos c199, if_pos c310, if_neg c347, if_pos c351, if_pos c358, if_pos c362, if_neg c378]))) (Nat.le_of_ble_eq_true rfl) (Nat.le_of_ble_eq_true rfl) dX5_open_418
                  · refine lv_iconst (v := 0) X.x X.b dX5_open_381 (by decide) ?_
                    exact h_iret X hr hz hlo (lfi (hG.trans (by rw [mg_open_193]; rw [if_pos c199, if_pos c310, if_neg c347, if_pos c351, if_pos c358, if_pos c362, if_pos c378]))) (Nat.le_of_ble_eq_true rfl) (Nat.le_of_ble_eq_true rfl) dX5_open_382
                · refine lv_aload_n X.x X.b dX5_open_365 rfl (lv_at hl 3 rfl) ?_
                  refine h_callV X hr hz hlo (rest := []) (mc_backups l D H0 b R nd t1 h0 n  hnd ) mput_o rfl yv_X5_backups ml_X5_148 ⟨(Nat.le_of_ble_eq_true rfl), (Nat.le_of_ble_eq_true rfl)⟩ (Nat.le_of_ble_eq_true rfl) hl.1 ⟨(Nat.le_of_ble_eq_true rfl), (Nat.le_of_ble_eq_true rfl)⟩ rfl dX5_open_366 (fun v9 h9 n9 H locs hp hr hz hlo => ?_)
                  obtain ⟨rfl, rfl, rfl⟩ := hp
                  show W p l e _ s m _ below meth c H locs _ _ _ (F0 m 369 ls [.int ((mf_backups R nd t1).1)])
                  refine lv_if_ne (tgt := 374) X.x X.b dX5_open_369 (by decide) (fun c369 => ?_) (fun c369 => ?_)
                  · refine lv_aload_n X.x X.b dX5_open_374 rfl (lv_at hl 3 rfl) ?_
                    refine h_callV X hr hz hlo (rest := []) (mc_moves l D H0 b R nd ((mf_backups R nd t1).2) h0 n  hnd (GV_of ((mf_backups_keep ..).1 2 (by decide)) ((mf_backups_keep ..).1 3 (by decide)) hO.1)) mput_o rfl yv_X5_moves ml_X5_151 ⟨(Nat.le_of_ble_eq_true rfl), (Nat.le_of_ble_eq_true rfl)⟩ (Nat.le_of_ble_eq_true rfl) hl.1 ⟨(Nat.le_of_ble_eq_true rfl), (Nat.le_of_ble_eq_true rfl)⟩ rfl dX5_open_375 (fun v9 h9 n9 H locs hp hr hz hlo => ?_)
                    obtain ⟨rfl, rfl, rfl⟩ := hp
                    show W p l e _ s m _ below meth c H locs _ _ _ (F0 m 378 ls [.int ((mf_moves R nd ((mf_backups R nd t1).2)).1)])
                    refine lv_if_ne (tgt := 383) X.x X.b dX5_open_378 (by decide) (fun c378 => ?_) (fun c378 => ?_)
                    · refine lv_iinc (v := 1 + 4) (lv' := [(4, .int (1 + 4)), (2, .int jn), (3, .int hbk), (0, .ref b)]) X.x X.b dX5_open_383 hl (k := 0) rfl rfl (by decide) rfl (fun ls hl => ?_)
                      refine lv_goto (tgt := 411) X.x X.b dX5_open_386 (by decide) ?_
                      refine lv_aload_n X.x X.b dX5_open_411 rfl (lv_at hl 3 rfl) ?_
                      refine lv_iconst (v := 1) X.x X.b dX5_open_412 (by decide) ?_
                      refine h_put X hr hz hlo fd_X5_44 tyX5 tyX5_ok nmX5 rfl mput_o (v := .int 1) rfl rfl (Nat.le_of_ble_eq_true rfl) dX5_open_413 (fun H locs hr hz hlo => ?_)
                      rw [mput_s5] at hr
                      refine lv_iload X.x X.b dX5_open_416 (lv_at hl 0 rfl) ?_
                      exact h_iret X hr hz hlo (lfi (hG.trans (by rw [mg_open_193]; rw [if_pos c199, if_pos c310, if_neg c347, if_pos c351, if_pos c358, if_neg c362, if_neg c369, if_neg c378]))) (Nat.le_of_ble_eq_true rfl) (Nat.le_of_ble_eq_true rfl) dX5_open_418
                    · refine lv_iconst (v := 0) X.x X.b dX5_open_381 (by decide) ?_
                      exact h_iret X hr hz hlo (lfi (hG.trans (by rw [mg_open_193]; rw [if_pos c199, if_pos c310, if_neg c347, if_pos c351, if_pos c358, if_neg c362, if_neg c369, if_pos c378]))) (Nat.le_of_ble_eq_true rfl) (Nat.le_of_ble_eq_true rfl) dX5_open_382
                  · refine lv_iconst (v := 0) X.x X.b dX5_open_372 (by decide) ?_
                    exact h_iret X hr hz hlo (lfi (hG.trans (by rw [mg_open_193]; rw [if_pos c199, if_pos c310, if_neg c347, if_pos c351, if_pos c358, if_neg c362, if_pos c369]))) (Nat.le_of_ble_eq_true rfl) (Nat.le_of_ble_eq_true rfl) dX5_open_373
        · refine lv_aload_n X.x X.b dX5_open_313 rfl (lv_at hl 3 rfl) ?_
          refine lv_aload_n X.x X.b dX5_open_314 rfl (lv_at hl 3 rfl) ?_
          refine h_get X hr fd_X5_28 mput_o (v := .ref (b + 7)) rfl dX5_open_315 ?_
          refine lv_iload_n X.x X.b dX5_open_318 rfl (lv_at hl 1 rfl) ?_
          refine h_iald X hr mput_7 (hjn.ix c310 hnd) (v := .int (t1.2.1 6 jn.toNatClampNeg)) rfl dX5_open_319 ?_
          refine lv_aload_n X.x X.b dX5_open_320 rfl (lv_at hl 3 rfl) ?_
          refine h_get X hr fd_X5_34 mput_o (v := .ref (b + 9)) rfl dX5_open_321 ?_
          refine lv_iload_n X.x X.b dX5_open_324 rfl (lv_at hl 1 rfl) ?_
          refine h_iald X hr mput_9 (hjn.ix c310 hnd) (v := .int (t1.2.1 8 jn.toNatClampNeg)) rfl dX5_open_325 ?_
          refine lv_aload_n X.x X.b dX5_open_326 rfl (lv_at hl 3 rfl) ?_
          refine h_get X hr fd_X5_40 mput_o (v := .ref (b + 11)) rfl dX5_open_327 ?_
          refine lv_iload_n X.x X.b dX5_open_330 rfl (lv_at hl 1 rfl) ?_
          refine h_lald X hr mput_11 (hjn.ix c310 hnd) (v := .long (t1.2.2 0 jn.toNatClampNeg)) rfl dX5_open_331 ?_
          refine h_callV X hr hz hlo (rest := []) (mc_journaled l D H0 b R nd t1 h0 n (t1.2.1 6 jn.toNatClampNeg) (t1.2.1 8 jn.toNatClampNeg) (t1.2.2 0 jn.toNatClampNeg) hnd hO.1 (hjn.pl c310 hnd hO)) mput_o rfl yv_X5_journaled ml_X5_127 ⟨(Nat.le_of_ble_eq_true rfl), (Nat.le_of_ble_eq_true rfl)⟩ (Nat.le_of_ble_eq_true rfl) hl.1 ⟨(Nat.le_of_ble_eq_true rfl), (Nat.le_of_ble_eq_true rfl)⟩ rfl dX5_open_332 (fun v9 h9 n9 H locs hp hr hz hlo => ?_)
          obtain ⟨rfl, rfl, rfl⟩ := hp
          show W p l e _ s m _ below meth c H locs _ _ _ (F0 m 335 ls [.int ((mf_journaled R nd t1 (t1.2.1 6 jn.toNatClampNeg) (t1.2.1 8 jn.toNatClampNeg) (t1.2.2 0 jn.toNatClampNeg)).1)])
          refine lv_if_ne (tgt := 340) X.x X.b dX5_open_335 (by decide) (fun c335 => ?_) (fun c335 => ?_)
          · refine lv_iinc (v := 1 + 2) (lv' := [(4, .int (1 + 2)), (2, .int jn), (3, .int hbk), (0, .ref b)]) X.x X.b dX5_open_340 hl (k := 0) rfl rfl (by decide) rfl (fun ls hl => ?_)
            refine lv_aload_n X.x X.b dX5_open_343 rfl (lv_at hl 3 rfl) ?_
            refine h_callV X hr hz hlo (rest := []) (mc_isReshaped l D H0 b R nd ((mf_journaled R nd t1 (t1.2.1 6 jn.toNatClampNeg) (t1.2.1 8 jn.toNatClampNeg) (t1.2.2 0 jn.toNatClampNeg)).2) h0 n  hnd ) mput_o rfl yv_X5_isReshaped ml_X5_97 ⟨(Nat.le_of_ble_eq_true rfl), (Nat.le_of_ble_eq_true rfl)⟩ (Nat.le_of_ble_eq_true rfl) hl.1 ⟨(Nat.le_of_ble_eq_true rfl), (Nat.le_of_ble_eq_true rfl)⟩ rfl dX5_open_344 (fun v9 h9 n9 H locs hp hr hz hlo => ?_)
            obtain ⟨rfl, rfl, rfl⟩ := hp
            show W p l e _ s m _ below meth c H locs _ _ _ (F0 m 347 ls [.int (mf_isReshaped R nd ((mf_journaled R nd t1 (t1.2.1 6 jn.toNatClampNeg) (t1.2.1 8 jn.toNatClampNeg) (t1.2.2 0 jn.toNatClampNeg)).2))])
            refine lv_if_eq (tgt := 389) X.x X.b dX5_open_347 (by decide) (fun c347 => ?_) (fun c347 => ?_)
            · refine lv_aload_n X.x X.b dX5_open_389 rfl (lv_at hl 3 rfl) ?_
              refine lv_aload_n X.x X.b dX5_open_390 rfl (lv_at hl 3 rfl) ?_
              refine h_get X hr fd_X5_64 mput_o (v := .int (((mf_journaled R nd t1 (t1.2.1 6 jn.toNatClampNeg) (t1.2.1 8 jn.toNatClampNeg) (t1.2.2 0 jn.toNatClampNeg)).2).1 2)) rfl dX5_open_391 ?_
              refine lv_aload_n X.x X.b dX5_open_394 rfl (lv_at hl 3 rfl) ?_
              refine h_get X hr fd_X5_67 mput_o (v := .int (((mf_journaled R nd t1 (t1.2.1 6 jn.toNatClampNeg) (t1.2.1 8 jn.toNatClampNeg) (t1.2.2 0 jn.toNatClampNeg)).2).1 3)) rfl dX5_open_395 ?_
              refine lv_aload_n X.x X.b dX5_open_398 rfl (lv_at hl 3 rfl) ?_
              refine h_get X hr fd_X5_94 mput_o (v := .int (((mf_journaled R nd t1 (t1.2.1 6 jn.toNatClampNeg) (t1.2.1 8 jn.toNatClampNeg) (t1.2.2 0 jn.toNatClampNeg)).2).1 4)) rfl dX5_open_399 ?_
              refine lv_iconst (v := -1) X.x X.b dX5_open_402 (by decide) ?_
              refine h_callV X hr hz hlo (rest := []) (mc_sets l D H0 b R nd ((mf_journaled R nd t1 (t1.2.1 6 jn.toNatClampNeg) (t1.2.1 8 jn.toNatClampNeg) (t1.2.2 0 jn.toNatClampNeg)).2) h0 n (((mf_journaled R nd t1 (t1.2.1 6 jn.toNatClampNeg) (t1.2.1 8 jn.toNatClampNeg) (t1.2.2 0 jn.toNatClampNeg)).2).1 2) (((mf_journaled R nd t1 (t1.2.1 6 jn.toNatClampNeg) (t1.2.1 8 jn.toNatClampNeg) (t1.2.2 0 jn.toNatClampNeg)).2).1 3) (((mf_journaled R nd t1 (t1.2.1 6 jn.toNatClampNeg) (t1.2.1 8 jn.toNatClampNeg) (t1.2.2 0 jn.toNatClampNeg)).2).1 4) (-1) hnd ) mput_o rfl yv_X5_sets ml_X5_138 ⟨(Nat.le_of_ble_eq_true rfl), (Nat.le_of_ble_eq_true rfl)⟩ (Nat.le_of_ble_eq_true rfl) hl.1 ⟨(Nat.le_of_ble_eq_true rfl), (Nat.le_of_ble_eq_true rfl)⟩ rfl dX5_open_403 (fun v9 h9 n9 H locs hp hr hz hlo => ?_)
              obtain ⟨rfl, rfl, rfl⟩ := hp
              show W p l e _ s m _ below meth c H locs _ _ _ (F0 m 406 ls [.int ((mf_sets R nd ((mf_journaled R nd t1 (t1.2.1 6 jn.toNatClampNeg) (t1.2.1 8 jn.toNatClampNeg) (t1.2.2 0 jn.toNatClampNeg)).2) (((mf_journaled R nd t1 (t1.2.1 6 jn.toNatClampNeg) (t1.2.1 8 jn.toNatClampNeg) (t1.2.2 0 jn.toNatClampNeg)).2).1 2) (((mf_journaled R nd t1 (t1.2.1 6 jn.toNatClampNeg) (t1.2.1 8 jn.toNatClampNeg) (t1.2.2 0 jn.toNatClampNeg)).2).1 3) (((mf_journaled R nd t1 (t1.2.1 6 jn.toNatClampNeg) (t1.2.1 8 jn.toNatClampNeg) (t1.2.2 0 jn.toNatClampNeg)).2).1 4) (-1)).1)])
              refine lv_if_ne (tgt := 411) X.x X.b dX5_open_406 (by decide) (fun c406 => ?_) (fun c406 => ?_)
              · refine lv_aload_n X.x X.b dX5_open_411 rfl (lv_at hl 3 rfl) ?_
                refine lv_iconst (v := 1) X.x X.b dX5_open_412 (by decide) ?_
                refine h_put X hr hz hlo fd_X5_44 tyX5 tyX5_ok nmX5 rfl mput_o (v := .int 1) rfl rfl (Nat.le_of_ble_eq_true rfl) dX5_open_413 (fun H locs hr hz hlo => ?_)
                rw [mput_s5] at hr
                refine lv_iload X.x X.b dX5_open_416 (lv_at hl 0 rfl) ?_
                exact h_iret X hr hz hlo (lfi (hG.trans (by rw [mg_open_193]; rw [if_pos c199, if_neg c310, if_neg c335, if_pos c347, if_neg c406]))) (Nat.le_of_ble_eq_true rfl) (Nat.le_of_ble_eq_true rfl) dX5_open_418
              · refine lv_iconst (v := 0) X.x X.b dX5_open_409 (by decide) ?_
                exact h_iret X hr hz hlo (lfi (hG.trans (by rw [mg_open_193]; rw [if_pos c199, if_neg c310, if_neg c335, if_pos c347, if_pos c406]))) (Nat.le_of_ble_eq_true rfl) (Nat.le_of_ble_eq_true rfl) dX5_open_410
            · refine lv_iload_n X.x X.b dX5_open_350 rfl (lv_at hl 2 rfl) ?_
              refine lv_if_ne (tgt := 361) X.x X.b dX5_open_351 (by decide) (fun c351 => ?_) (fun c351 => ?_)
              · refine lv_iload_n X.x X.b dX5_open_361 rfl (lv_at hl 2 rfl) ?_
                refine lv_if_eq (tgt := 374) X.x X.b dX5_open_362 (by decide) (fun c362 => ?_) (fun c362 => ?_)
                · refine lv_aload_n X.x X.b dX5_open_374 rfl (lv_at hl 3 rfl) ?_
                  refine h_callV X hr hz hlo (rest := []) (mc_moves l D H0 b R nd ((mf_journaled R nd t1 (t1.2.1 6 jn.toNatClampNeg) (t1.2.1 8 jn.toNatClampNeg) (t1.2.2 0 jn.toNatClampNeg)).2) h0 n  hnd (GV_of (mf_journaled_s 2 (by decide)) (mf_journaled_s 3 (by decide)) hO.1)) mput_o rfl yv_X5_moves ml_X5_151 ⟨(Nat.le_of_ble_eq_true rfl), (Nat.le_of_ble_eq_true rfl)⟩ (Nat.le_of_ble_eq_true rfl) hl.1 ⟨(Nat.le_of_ble_eq_true rfl), (Nat.le_of_ble_eq_true rfl)⟩ rfl dX5_open_375 (fun v9 h9 n9 H locs hp hr hz hlo => ?_)
                  obtain ⟨rfl, rfl, rfl⟩ := hp
                  show W p l e _ s m _ below meth c H locs _ _ _ (F0 m 378 ls [.int ((mf_moves R nd ((mf_journaled R nd t1 (t1.2.1 6 jn.toNatClampNeg) (t1.2.1 8 jn.toNatClampNeg) (t1.2.2 0 jn.toNatClampNeg)).2)).1)])
                  refine lv_if_ne (tgt := 383) X.x X.b dX5_open_378 (by decide) (fun c378 => ?_) (fun c378 => ?_)
                  · refine lv_iinc (v := (1 + 2) + 4) (lv' := [(4, .int ((1 + 2) + 4)), (2, .int jn), (3, .int hbk), (0, .ref b)]) X.x X.b dX5_open_383 hl (k := 0) rfl rfl (by decide) rfl (fun ls hl => ?_)
                    refine lv_goto (tgt := 411) X.x X.b dX5_open_386 (by decide) ?_
                    refine lv_aload_n X.x X.b dX5_open_411 rfl (lv_at hl 3 rfl) ?_
                    refine lv_iconst (v := 1) X.x X.b dX5_open_412 (by decide) ?_
                    refine h_put X hr hz hlo fd_X5_44 tyX5 tyX5_ok nmX5 rfl mput_o (v := .int 1) rfl rfl (Nat.le_of_ble_eq_true rfl) dX5_open_413 (fun H locs hr hz hlo => ?_)
                    rw [mput_s5] at hr
                    refine lv_iload X.x X.b dX5_open_416 (lv_at hl 0 rfl) ?_
                    exact h_iret X hr hz hlo (lfi (hG.trans (by rw [mg_open_193]; rw [if_pos c199, if_neg c310, if_neg c335, if_neg c347, if_neg c351, if_pos c362, if_neg c378]))) (Nat.le_of_ble_eq_true rfl) (Nat.le_of_ble_eq_true rfl) dX5_open_418
                  · refine lv_iconst (v := 0) X.x X.b dX5_open_381 (by decide) ?_
                    exact h_iret X hr hz hlo (lfi (hG.trans (by rw [mg_open_193]; rw [if_pos c199, if_neg c310, if_neg c335, if_neg c347, if_neg c351, if_pos c362, if_pos c378]))) (Nat.le_of_ble_eq_true rfl) (Nat.le_of_ble_eq_true rfl) dX5_open_382
                · refine lv_aload_n X.x X.b dX5_open_365 rfl (lv_at hl 3 rfl) ?_
                  refine h_callV X hr hz hlo (rest := []) (mc_backups l D H0 b R nd ((mf_journaled R nd t1 (t1.2.1 6 jn.toNatClampNeg) (t1.2.1 8 jn.toNatClampNeg) (t1.2.2 0 jn.toNatClampNeg)).2) h0 n  hnd ) mput_o rfl yv_X5_backups ml_X5_148 ⟨(Nat.le_of_ble_eq_true rfl), (Nat.le_of_ble_eq_true rfl)⟩ (Nat.le_of_ble_eq_true rfl) hl.1 ⟨(Nat.le_of_ble_eq_true rfl), (Nat.le_of_ble_eq_true rfl)⟩ rfl dX5_open_366 (fun v9 h9 n9 H locs hp hr hz hlo => ?_)
                  obtain ⟨rfl, rfl, rfl⟩ := hp
                  show W p l e _ s m _ below meth c H locs _ _ _ (F0 m 369 ls [.int ((mf_backups R nd ((mf_journaled R nd t1 (t1.2.1 6 jn.toNatClampNeg) (t1.2.1 8 jn.toNatClampNeg) (t1.2.2 0 jn.toNatClampNeg)).2)).1)])
                  refine lv_if_ne (tgt := 374) X.x X.b dX5_open_369 (by decide) (fun c369 => ?_) (fun c369 => ?_)
                  · refine lv_aload_n X.x X.b dX5_open_374 rfl (lv_at hl 3 rfl) ?_
                    refine h_callV X hr hz hlo (rest := []) (mc_moves l D H0 b R nd ((mf_backups R nd ((mf_journaled R nd t1 (t1.2.1 6 jn.toNatClampNeg) (t1.2.1 8 jn.toNatClampNeg) (t1.2.2 0 jn.toNatClampNeg)).2)).2) h0 n  hnd (GV_of ((mf_backups_keep ..).1 2 (by decide)) ((mf_backups_keep ..).1 3 (by decide)) (GV_of (mf_journaled_s 2 (by decide)) (mf_journaled_s 3 (by decide)) hO.1))) mput_o rfl yv_X5_moves ml_X5_151 ⟨(Nat.le_of_ble_eq_true rfl), (Nat.le_of_ble_eq_true rfl)⟩ (Nat.le_of_ble_eq_true rfl) hl.1 ⟨(Nat.le_of_ble_eq_true rfl), (Nat.le_of_ble_eq_true rfl)⟩ rfl dX5_open_375 (fun v9 h9 n9 H locs hp hr hz hlo => ?_)
                    obtain ⟨rfl, rfl, rfl⟩ := hp
                    show W p l e _ s m _ below meth c H locs _ _ _ (F0 m 378 ls [.int ((mf_moves R nd ((mf_backups R nd ((mf_journaled R nd t1 (t1.2.1 6 jn.toNatClampNeg) (t1.2.1 8 jn.toNatClampNeg) (t1.2.2 0 jn.toNatClampNeg)).2)).2)).1)])
                    refine lv_if_ne (tgt := 383) X.x X.b dX5_open_378 (by decide) (fun c378 => ?_) (fun c378 => ?_)
                    · refine lv_iinc (v := (1 + 2) + 4) (lv' := [(4, .int ((1 + 2) + 4)), (2, .int jn), (3, .int hbk), (0, .ref b)]) X.x X.b dX5_open_383 hl (k := 0) rfl rfl (by decide) rfl (fun ls hl => ?_)
                      refine lv_goto (tgt := 411) X.x X.b dX5_open_386 (by decide) ?_
                      refine lv_aload_n X.x X.b dX5_open_411 rfl (lv_at hl 3 rfl) ?_
                      refine lv_iconst (v := 1) X.x X.b dX5_open_412 (by decide) ?_
                      refine h_put X hr hz hlo fd_X5_44 tyX5 tyX5_ok nmX5 rfl mput_o (v := .int 1) rfl rfl (Nat.le_of_ble_eq_true rfl) dX5_open_413 (fun H locs hr hz hlo => ?_)
                      rw [mput_s5] at hr
                      refine lv_iload X.x X.b dX5_open_416 (lv_at hl 0 rfl) ?_
                      exact h_iret X hr hz hlo (lfi (hG.trans (by rw [mg_open_193]; rw [if_pos c199, if_neg c310, if_neg c335, if_neg c347, if_neg c351, if_neg c362, if_neg c369, if_neg c378]))) (Nat.le_of_ble_eq_true rfl) (Nat.le_of_ble_eq_true rfl) dX5_open_418
                    · refine lv_iconst (v := 0) X.x X.b dX5_open_381 (by decide) ?_
                      exact h_iret X hr hz hlo (lfi (hG.trans (by rw [mg_open_193]; rw [if_pos c199, if_neg c310, if_neg c335, if_neg c347, if_neg c351, if_neg c362, if_neg c369, if_pos c378]))) (Nat.le_of_ble_eq_true rfl) (Nat.le_of_ble_eq_true rfl) dX5_open_382
                  · refine lv_iconst (v := 0) X.x X.b dX5_open_372 (by decide) ?_
                    exact h_iret X hr hz hlo (lfi (hG.trans (by rw [mg_open_193]; rw [if_pos c199, if_neg c310, if_neg c335, if_neg c347, if_neg c351, if_neg c362, if_pos c369]))) (Nat.le_of_ble_eq_true rfl) (Nat.le_of_ble_eq_true rfl) dX5_open_373
              · refine lv_aload_n X.x X.b dX5_open_354 rfl (lv_at hl 3 rfl) ?_
                refine h_callV X hr hz hlo (rest := []) (mc_isCritical l D H0 b R nd ((mf_journaled R nd t1 (t1.2.1 6 jn.toNatClampNeg) (t1.2.1 8 jn.toNatClampNeg) (t1.2.2 0 jn.toNatClampNeg)).2) h0 n  hnd ) mput_o rfl yv_X5_isCritical ml_X5_145 ⟨(Nat.le_of_ble_eq_true rfl), (Nat.le_of_ble_eq_true rfl)⟩ (Nat.le_of_ble_eq_true rfl) hl.1 ⟨(Nat.le_of_ble_eq_true rfl), (Nat.le_of_ble_eq_true rfl)⟩ rfl dX5_open_355 (fun v9 h9 n9 H locs hp hr hz hlo => ?_)
                obtain ⟨rfl, rfl, rfl⟩ := hp
                show W p l e _ s m _ below meth c H locs _ _ _ (F0 m 358 ls [.int (mf_isCritical R nd ((mf_journaled R nd t1 (t1.2.1 6 jn.toNatClampNeg) (t1.2.1 8 jn.toNatClampNeg) (t1.2.2 0 jn.toNatClampNeg)).2))])
                refine lv_if_ne (tgt := 389) X.x X.b dX5_open_358 (by decide) (fun c358 => ?_) (fun c358 => ?_)
                · refine lv_aload_n X.x X.b dX5_open_389 rfl (lv_at hl 3 rfl) ?_
                  refine lv_aload_n X.x X.b dX5_open_390 rfl (lv_at hl 3 rfl) ?_
                  refine h_get X hr fd_X5_64 mput_o (v := .int (((mf_journaled R nd t1 (t1.2.1 6 jn.toNatClampNeg) (t1.2.1 8 jn.toNatClampNeg) (t1.2.2 0 jn.toNatClampNeg)).2).1 2)) rfl dX5_open_391 ?_
                  refine lv_aload_n X.x X.b dX5_open_394 rfl (lv_at hl 3 rfl) ?_
                  refine h_get X hr fd_X5_67 mput_o (v := .int (((mf_journaled R nd t1 (t1.2.1 6 jn.toNatClampNeg) (t1.2.1 8 jn.toNatClampNeg) (t1.2.2 0 jn.toNatClampNeg)).2).1 3)) rfl dX5_open_395 ?_
                  refine lv_aload_n X.x X.b dX5_open_398 rfl (lv_at hl 3 rfl) ?_
                  refine h_get X hr fd_X5_94 mput_o (v := .int (((mf_journaled R nd t1 (t1.2.1 6 jn.toNatClampNeg) (t1.2.1 8 jn.toNatClampNeg) (t1.2.2 0 jn.toNatClampNeg)).2).1 4)) rfl dX5_open_399 ?_
                  refine lv_iconst (v := -1) X.x X.b dX5_open_402 (by decide) ?_
                  refine h_callV X hr hz hlo (rest := []) (mc_sets l D H0 b R nd ((mf_journaled R nd t1 (t1.2.1 6 jn.toNatClampNeg) (t1.2.1 8 jn.toNatClampNeg) (t1.2.2 0 jn.toNatClampNeg)).2) h0 n (((mf_journaled R nd t1 (t1.2.1 6 jn.toNatClampNeg) (t1.2.1 8 jn.toNatClampNeg) (t1.2.2 0 jn.toNatClampNeg)).2).1 2) (((mf_journaled R nd t1 (t1.2.1 6 jn.toNatClampNeg) (t1.2.1 8 jn.toNatClampNeg) (t1.2.2 0 jn.toNatClampNeg)).2).1 3) (((mf_journaled R nd t1 (t1.2.1 6 jn.toNatClampNeg) (t1.2.1 8 jn.toNatClampNeg) (t1.2.2 0 jn.toNatClampNeg)).2).1 4) (-1) hnd ) mput_o rfl yv_X5_sets ml_X5_138 ⟨(Nat.le_of_ble_eq_true rfl), (Nat.le_of_ble_eq_true rfl)⟩ (Nat.le_of_ble_eq_true rfl) hl.1 ⟨(Nat.le_of_ble_eq_true rfl), (Nat.le_of_ble_eq_true rfl)⟩ rfl dX5_open_403 (fun v9 h9 n9 H locs hp hr hz hlo => ?_)
                  obtain ⟨rfl, rfl, rfl⟩ := hp
                  show W p l e _ s m _ below meth c H locs _ _ _ (F0 m 406 ls [.int ((mf_sets R nd ((mf_journaled R nd t1 (t1.2.1 6 jn.toNatClampNeg) (t1.2.1 8 jn.toNatClampNeg) (t1.2.2 0 jn.toNatClampNeg)).2) (((mf_journaled R nd t1 (t1.2.1 6 jn.toNatClampNeg) (t1.2.1 8 jn.toNatClampNeg) (t1.2.2 0 jn.toNatClampNeg)).2).1 2) (((mf_journaled R nd t1 (t1.2.1 6 jn.toNatClampNeg) (t1.2.1 8 jn.toNatClampNeg) (t1.2.2 0 jn.toNatClampNeg)).2).1 3) (((mf_journaled R nd t1 (t1.2.1 6 jn.toNatClampNeg) (t1.2.1 8 jn.toNatClampNeg) (t1.2.2 0 jn.toNatClampNeg)).2).1 4) (-1)).1)])
                  refine lv_if_ne (tgt := 411) X.x X.b dX5_open_406 (by decide) (fun c406 => ?_) (fun c406 => ?_)
                  · refine lv_aload_n X.x X.b dX5_open_411 rfl (lv_at hl 3 rfl) ?_
                    refine lv_iconst (v := 1) X.x X.b dX5_open_412 (by decide) ?_
                    refine h_put X hr hz hlo fd_X5_44 tyX5 tyX5_ok nmX5 rfl mput_o (v := .int 1) rfl rfl (Nat.le_of_ble_eq_true rfl) dX5_open_413 (fun H locs hr hz hlo => ?_)
                    rw [mput_s5] at hr
                    refine lv_iload X.x X.b dX5_open_416 (lv_at hl 0 rfl) ?_
                    exact h_iret X hr hz hlo (lfi (hG.trans (by rw [mg_open_193]; rw [if_pos c199, if_neg c310, if_neg c335, if_neg c347, if_pos c351, if_neg c358, if_neg c406]))) (Nat.le_of_ble_eq_true rfl) (Nat.le_of_ble_eq_true rfl) dX5_open_418
                  · refine lv_iconst (v := 0) X.x X.b dX5_open_409 (by decide) ?_
                    exact h_iret X hr hz hlo (lfi (hG.trans (by rw [mg_open_193]; rw [if_pos c199, if_neg c310, if_neg c335, if_neg c347, if_pos c351, if_neg c358, if_pos c406]))) (Nat.le_of_ble_eq_true rfl) (Nat.le_of_ble_eq_true rfl) dX5_open_410
                · refine lv_iload_n X.x X.b dX5_open_361 rfl (lv_at hl 2 rfl) ?_
                  refine lv_if_eq (tgt := 374) X.x X.b dX5_open_362 (by decide) (fun c362 => ?_) (fun c362 => ?_)
                  · refine lv_aload_n X.x X.b dX5_open_374 rfl (lv_at hl 3 rfl) ?_
                    refine h_callV X hr hz hlo (rest := []) (mc_moves l D H0 b R nd ((mf_journaled R nd t1 (t1.2.1 6 jn.toNatClampNeg) (t1.2.1 8 jn.toNatClampNeg) (t1.2.2 0 jn.toNatClampNeg)).2) h0 n  hnd (GV_of (mf_journaled_s 2 (by decide)) (mf_journaled_s 3 (by decide)) hO.1)) mput_o rfl yv_X5_moves ml_X5_151 ⟨(Nat.le_of_ble_eq_true rfl), (Nat.le_of_ble_eq_true rfl)⟩ (Nat.le_of_ble_eq_true rfl) hl.1 ⟨(Nat.le_of_ble_eq_true rfl), (Nat.le_of_ble_eq_true rfl)⟩ rfl dX5_open_375 (fun v9 h9 n9 H locs hp hr hz hlo => ?_)
                    obtain ⟨rfl, rfl, rfl⟩ := hp
                    show W p l e _ s m _ below meth c H locs _ _ _ (F0 m 378 ls [.int ((mf_moves R nd ((mf_journaled R nd t1 (t1.2.1 6 jn.toNatClampNeg) (t1.2.1 8 jn.toNatClampNeg) (t1.2.2 0 jn.toNatClampNeg)).2)).1)])
                    refine lv_if_ne (tgt := 383) X.x X.b dX5_open_378 (by decide) (fun c378 => ?_) (fun c378 => ?_)
                    · refine lv_iinc (v := (1 + 2) + 4) (lv' := [(4, .int ((1 + 2) + 4)), (2, .int jn), (3, .int hbk), (0, .ref b)]) X.x X.b dX5_open_383 hl (k := 0) rfl rfl (by decide) rfl (fun ls hl => ?_)
                      refine lv_goto (tgt := 411) X.x X.b dX5_open_386 (by decide) ?_
                      refine lv_aload_n X.x X.b dX5_open_411 rfl (lv_at hl 3 rfl) ?_
                      refine lv_iconst (v := 1) X.x X.b dX5_open_412 (by decide) ?_
                      refine h_put X hr hz hlo fd_X5_44 tyX5 tyX5_ok nmX5 rfl mput_o (v := .int 1) rfl rfl (Nat.le_of_ble_eq_true rfl) dX5_open_413 (fun H locs hr hz hlo => ?_)
                      rw [mput_s5] at hr
                      refine lv_iload X.x X.b dX5_open_416 (lv_at hl 0 rfl) ?_
                      exact h_iret X hr hz hlo (lfi (hG.trans (by rw [mg_open_193]; rw [if_pos c199, if_neg c310, if_neg c335, if_neg c347, if_pos c351, if_pos c358, if_pos c362, if_neg c378]))) (Nat.le_of_ble_eq_true rfl) (Nat.le_of_ble_eq_true rfl) dX5_open_418
                    · refine lv_iconst (v := 0) X.x X.b dX5_open_381 (by decide) ?_
                      exact h_iret X hr hz hlo (lfi (hG.trans (by rw [mg_open_193]; rw [if_pos c199, if_neg c310, if_neg c335, if_neg c347, if_pos c351, if_pos c358, if_pos c362, if_pos c378]))) (Nat.le_of_ble_eq_true rfl) (Nat.le_of_ble_eq_true rfl) dX5_open_382
                  · refine lv_aload_n X.x X.b dX5_open_365 rfl (lv_at hl 3 rfl) ?_
                    refine h_callV X hr hz hlo (rest := []) (mc_backups l D H0 b R nd ((mf_journaled R nd t1 (t1.2.1 6 jn.toNatClampNeg) (t1.2.1 8 jn.toNatClampNeg) (t1.2.2 0 jn.toNatClampNeg)).2) h0 n  hnd ) mput_o rfl yv_X5_backups ml_X5_148 ⟨(Nat.le_of_ble_eq_true rfl), (Nat.le_of_ble_eq_true rfl)⟩ (Nat.le_of_ble_eq_true rfl) hl.1 ⟨(Nat.le_of_ble_eq_true rfl), (Nat.le_of_ble_eq_true rfl)⟩ rfl dX5_open_366 (fun v9 h9 n9 H locs hp hr hz hlo => ?_)
                    obtain ⟨rfl, rfl, rfl⟩ := hp
                    show W p l e _ s m _ below meth c H locs _ _ _ (F0 m 369 ls [.int ((mf_backups R nd ((mf_journaled R nd t1 (t1.2.1 6 jn.toNatClampNeg) (t1.2.1 8 jn.toNatClampNeg) (t1.2.2 0 jn.toNatClampNeg)).2)).1)])
                    refine lv_if_ne (tgt := 374) X.x X.b dX5_open_369 (by decide) (fun c369 => ?_) (fun c369 => ?_)
                    · refine lv_aload_n X.x X.b dX5_open_374 rfl (lv_at hl 3 rfl) ?_
                      refine h_callV X hr hz hlo (rest := []) (mc_moves l D H0 b R nd ((mf_backups R nd ((mf_journaled R nd t1 (t1.2.1 6 jn.toNatClampNeg) (t1.2.1 8 jn.toNatClampNeg) (t1.2.2 0 jn.toNatClampNeg)).2)).2) h0 n  hnd (GV_of ((mf_backups_keep ..).1 2 (by decide)) ((mf_backups_keep ..).1 3 (by decide)) (GV_of (mf_journaled_s 2 (by decide)) (mf_journaled_s 3 (by decide)) hO.1))) mput_o rfl yv_X5_moves ml_X5_151 ⟨(Nat.le_of_ble_eq_true rfl), (Nat.le_of_ble_eq_true rfl)⟩ (Nat.le_of_ble_eq_true rfl) hl.1 ⟨(Nat.le_of_ble_eq_true rfl), (Nat.le_of_ble_eq_true rfl)⟩ rfl dX5_open_375 (fun v9 h9 n9 H locs hp hr hz hlo => ?_)
                      obtain ⟨rfl, rfl, rfl⟩ := hp
                      show W p l e _ s m _ below meth c H locs _ _ _ (F0 m 378 ls [.int ((mf_moves R nd ((mf_backups R nd ((mf_journaled R nd t1 (t1.2.1 6 jn.toNatClampNeg) (t1.2.1 8 jn.toNatClampNeg) (t1.2.2 0 jn.toNatClampNeg)).2)).2)).1)])
                      refine lv_if_ne (tgt := 383) X.x X.b dX5_open_378 (by decide) (fun c378 => ?_) (fun c378 => ?_)
                      · refine lv_iinc (v := (1 + 2) + 4) (lv' := [(4, .int ((1 + 2) + 4)), (2, .int jn), (3, .int hbk), (0, .ref b)]) X.x X.b dX5_open_383 hl (k := 0) rfl rfl (by decide) rfl (fun ls hl => ?_)
                        refine lv_goto (tgt := 411) X.x X.b dX5_open_386 (by decide) ?_
                        refine lv_aload_n X.x X.b dX5_open_411 rfl (lv_at hl 3 rfl) ?_
                        refine lv_iconst (v := 1) X.x X.b dX5_open_412 (by decide) ?_
                        refine h_put X hr hz hlo fd_X5_44 tyX5 tyX5_ok nmX5 rfl mput_o (v := .int 1) rfl rfl (Nat.le_of_ble_eq_true rfl) dX5_open_413 (fun H locs hr hz hlo => ?_)
                        rw [mput_s5] at hr
                        refine lv_iload X.x X.b dX5_open_416 (lv_at hl 0 rfl) ?_
                        exact h_iret X hr hz hlo (lfi (hG.trans (by rw [mg_open_193]; rw [if_pos c199, if_neg c310, if_neg c335, if_neg c347, if_pos c351, if_pos c358, if_neg c362, if_neg c369, if_neg c378]))) (Nat.le_of_ble_eq_true rfl) (Nat.le_of_ble_eq_true rfl) dX5_open_418
                      · refine lv_iconst (v := 0) X.x X.b dX5_open_381 (by decide) ?_
                        exact h_iret X hr hz hlo (lfi (hG.trans (by rw [mg_open_193]; rw [if_pos c199, if_neg c310, if_neg c335, if_neg c347, if_pos c351, if_pos c358, if_neg c362, if_neg c369, if_pos c378]))) (Nat.le_of_ble_eq_true rfl) (Nat.le_of_ble_eq_true rfl) dX5_open_382
                    · refine lv_iconst (v := 0) X.x X.b dX5_open_372 (by decide) ?_
                      exact h_iret X hr hz hlo (lfi (hG.trans (by rw [mg_open_193]; rw [if_pos c199, if_neg c310, if_neg c335, if_neg c347, if_pos c351, if_pos c358, if_neg c362, if_pos c369]))) (Nat.le_of_ble_eq_true rfl) (Nat.le_of_ble_eq_true rfl) dX5_open_373
          · refine lv_iconst (v := 0) X.x X.b dX5_open_338 (by decide) ?_
            exact h_iret X hr hz hlo (lfi (hG.trans (by rw [mg_open_193]; rw [if_pos c199, if_neg c310, if_pos c335]))) (Nat.le_of_ble_eq_true rfl) (Nat.le_of_ble_eq_true rfl) dX5_open_339
      · have hk9 : k < nd := nd_lt c199 (by omega)
        refine lv_aload_n X.x X.b dX5_open_202 rfl (lv_at hl 3 rfl) ?_
        refine h_get X hr fd_X5_9 mput_o (v := .ref (b + 1)) rfl dX5_open_203 ?_
        refine lv_iload X.x X.b dX5_open_206 (lv_at hl 0 rfl) ?_
        refine h_iald X hr mput_1 (vp_in_nI (by omega) (by decide)) (v := .int (t1.2.1 0 k)) (by rw [nI_clamp (n := k) (by omega)]) dX5_open_208 ?_
        refine lv_if_eq (tgt := 215) X.x X.b dX5_open_209 (by decide) (fun c209 => ?_) (fun c209 => ?_)
        · refine lv_iload_n X.x X.b dX5_open_215 rfl (lv_at hl 2 rfl) ?_
          refine lv_if_ne (tgt := 233) X.x X.b dX5_open_216 (by decide) (fun c216 => ?_) (fun c216 => ?_)
          · refine lv_iconst (v := 1) X.x X.b dX5_open_233 (by decide) ?_
            refine lv_goto (tgt := 238) X.x X.b dX5_open_234 (by decide) ?_
            refine lv_istore_n (lv' := [(3, .int 1), (4, .int (nI k)), (2, .int jn), (0, .ref b)]) X.x X.b dX5_open_238 rfl hl (by decide) rfl (fun ls hl => ?_)
            refine lv_aload_n X.x X.b dX5_open_239 rfl (lv_at hl 3 rfl) ?_
            refine h_get X hr fd_X5_28 mput_o (v := .ref (b + 7)) rfl dX5_open_240 ?_
            refine lv_iload X.x X.b dX5_open_243 (lv_at hl 1 rfl) ?_
            refine h_iald X hr mput_7 (vp_in_nI (by omega) (by decide)) (v := .int (t1.2.1 6 k)) (by rw [nI_clamp (n := k) (by omega)]) dX5_open_245 ?_
            refine lv_if_le (tgt := 267) X.x X.b dX5_open_246 (by decide) (fun c246 => ?_) (fun c246 => ?_)
            · refine lv_iconst (v := 0) X.x X.b dX5_open_267 (by decide) ?_
              refine lv_istore (lv' := [(5, .int 0), (3, .int 1), (4, .int (nI k)), (2, .int jn), (0, .ref b)]) X.x X.b dX5_open_268 hl (by decide) rfl (fun ls hl => ?_)
              refine lv_iload X.x X.b dX5_open_270 (lv_at hl 0 rfl) ?_
              refine lv_if_eq (tgt := 299) X.x X.b dX5_open_272 (by decide) (fun c272 => ?_) (fun c272 => ?_)
              · refine lv_iinc (v := nI (k + 1)) (lv' := [(4, .int (nI (k + 1))), (5, .int 0), (3, .int 1), (2, .int jn), (0, .ref b)]) X.x X.b dX5_open_299 hl (k := 2) rfl (nI_1 k) (by decide) rfl (fun ls hl => ?_)
                refine lv_goto (tgt := 193) X.x X.b dX5_open_302 (by decide) ?_
                exact ih (k + 1) jn 1 t1 (by omega) (by omega) hO hjn (hG.trans (by rw [mg_open_193]; rw [if_neg c199, if_pos c209, if_neg c216, if_pos c246])) _ _ _ hr hz hlo (lv_sub hl [0, 3, 2, 4] rfl)
              · exact absurd (by decide) c272
            · refine lv_aload_n X.x X.b dX5_open_249 rfl (lv_at hl 3 rfl) ?_
              refine h_get X hr fd_X5_31 mput_o (v := .ref (b + 8)) rfl dX5_open_250 ?_
              refine lv_iload X.x X.b dX5_open_253 (lv_at hl 1 rfl) ?_
              refine h_iald X hr mput_8 (vp_in_nI (by omega) (by decide)) (v := .int (t1.2.1 7 k)) (by rw [nI_clamp (n := k) (by omega)]) dX5_open_255 ?_
              refine lv_aload_n X.x X.b dX5_open_256 rfl (lv_at hl 3 rfl) ?_
              refine h_get X hr fd_X5_61 mput_o (v := .int (t1.1 1)) rfl dX5_open_257 ?_
              refine lv_icmp_ne (tgt := 267) X.x X.b dX5_open_260 (by decide) (fun c260 => ?_) (fun c260 => ?_)
              · refine lv_iconst (v := 0) X.x X.b dX5_open_267 (by decide) ?_
                refine lv_istore (lv' := [(5, .int 0), (3, .int 1), (4, .int (nI k)), (2, .int jn), (0, .ref b)]) X.x X.b dX5_open_268 hl (by decide) rfl (fun ls hl => ?_)
                refine lv_iload X.x X.b dX5_open_270 (lv_at hl 0 rfl) ?_
                refine lv_if_eq (tgt := 299) X.x X.b dX5_open_272 (by decide) (fun c272 => ?_) (fun c272 => ?_)
                · refine lv_iinc (v := nI (k + 1)) (lv' := [(4, .int (nI (k + 1))), (5, .int 0), (3, .int 1), (2, .int jn), (0, .ref b)]) X.x X.b dX5_open_299 hl (k := 2) rfl (nI_1 k) (by decide) rfl (fun ls hl => ?_)
                  refine lv_goto (tgt := 193) X.x X.b dX5_open_302 (by decide) ?_
                  exact ih (k + 1) jn 1 t1 (by omega) (by omega) hO hjn (hG.trans (by rw [mg_open_193]; rw [if_neg c199, if_pos c209, if_neg c216, if_neg c246, if_neg c260])) _ _ _ hr hz hlo (lv_sub hl [0, 3, 2, 4] rfl)
                · exact absurd (by decide) c272
              · refine lv_iconst (v := 1) X.x X.b dX5_open_263 (by decide) ?_
                refine lv_goto (tgt := 268) X.x X.b dX5_open_264 (by decide) ?_
                refine lv_istore (lv' := [(5, .int 1), (3, .int 1), (4, .int (nI k)), (2, .int jn), (0, .ref b)]) X.x X.b dX5_open_268 hl (by decide) rfl (fun ls hl => ?_)
                refine lv_iload X.x X.b dX5_open_270 (lv_at hl 0 rfl) ?_
                refine lv_if_eq (tgt := 299) X.x X.b dX5_open_272 (by decide) (fun c272 => ?_) (fun c272 => ?_)
                · exact absurd c272 (by decide)
                · refine lv_iload_n X.x X.b dX5_open_275 rfl (lv_at hl 3 rfl) ?_
                  refine lv_iconst (v := -1) X.x X.b dX5_open_276 (by decide) ?_
                  refine lv_icmp_eq (tgt := 296) X.x X.b dX5_open_277 (by decide) (fun c277 => ?_) (fun c277 => ?_)
                  · refine lv_iload X.x X.b dX5_open_296 (lv_at hl 2 rfl) ?_
                    refine lv_istore_n (lv' := [(2, .int (nI k)), (5, .int 1), (3, .int 1), (4, .int (nI k)), (0, .ref b)]) X.x X.b dX5_open_298 rfl hl (by decide) rfl (fun ls hl => ?_)
                    refine lv_iinc (v := nI (k + 1)) (lv' := [(4, .int (nI (k + 1))), (2, .int (nI k)), (5, .int 1), (3, .int 1), (0, .ref b)]) X.x X.b dX5_open_299 hl (k := 3) rfl (nI_1 k) (by decide) rfl (fun ls hl => ?_)
                    refine lv_goto (tgt := 193) X.x X.b dX5_open_302 (by decide) ?_
                    exact ih (k + 1) (nI k) 1 t1 (by omega) (by omega) hO (Or.inr ⟨k, hk9, rfl⟩) (hG.trans (by rw [mg_open_193]; rw [if_neg c199, if_pos c209, if_neg c216, if_neg c246, if_pos c260, if_pos c277])) _ _ _ hr hz hlo (lv_sub hl [0, 1, 3, 4] rfl)
                  · refine lv_aload_n X.x X.b dX5_open_280 rfl (lv_at hl 4 rfl) ?_
                    refine h_get X hr fd_X5_28 mput_o (v := .ref (b + 7)) rfl dX5_open_281 ?_
                    refine lv_iload X.x X.b dX5_open_284 (lv_at hl 2 rfl) ?_
                    refine h_iald X hr mput_7 (vp_in_nI (by omega) (by decide)) (v := .int (t1.2.1 6 k)) (by rw [nI_clamp (n := k) (by omega)]) dX5_open_286 ?_
                    refine lv_aload_n X.x X.b dX5_open_287 rfl (lv_at hl 4 rfl) ?_
                    refine h_get X hr fd_X5_28 mput_o (v := .ref (b + 7)) rfl dX5_open_288 ?_
                    refine lv_iload_n X.x X.b dX5_open_291 rfl (lv_at hl 3 rfl) ?_
                    refine h_iald X hr mput_7 (hjn.ix c277 hnd) (v := .int (t1.2.1 6 jn.toNatClampNeg)) rfl dX5_open_292 ?_
                    refine lv_icmp_le (tgt := 299) X.x X.b dX5_open_293 (by decide) (fun c293 => ?_) (fun c293 => ?_)
                    · refine lv_iinc (v := nI (k + 1)) (lv' := [(4, .int (nI (k + 1))), (5, .int 1), (3, .int 1), (2, .int jn), (0, .ref b)]) X.x X.b dX5_open_299 hl (k := 2) rfl (nI_1 k) (by decide) rfl (fun ls hl => ?_)
                      refine lv_goto (tgt := 193) X.x X.b dX5_open_302 (by decide) ?_
                      exact ih (k + 1) jn 1 t1 (by omega) (by omega) hO hjn (hG.trans (by rw [mg_open_193]; rw [if_neg c199, if_pos c209, if_neg c216, if_neg c246, if_pos c260, if_neg c277, if_pos c293])) _ _ _ hr hz hlo (lv_sub hl [0, 3, 2, 4] rfl)
                    · refine lv_iload X.x X.b dX5_open_296 (lv_at hl 2 rfl) ?_
                      refine lv_istore_n (lv' := [(2, .int (nI k)), (5, .int 1), (3, .int 1), (4, .int (nI k)), (0, .ref b)]) X.x X.b dX5_open_298 rfl hl (by decide) rfl (fun ls hl => ?_)
                      refine lv_iinc (v := nI (k + 1)) (lv' := [(4, .int (nI (k + 1))), (2, .int (nI k)), (5, .int 1), (3, .int 1), (0, .ref b)]) X.x X.b dX5_open_299 hl (k := 3) rfl (nI_1 k) (by decide) rfl (fun ls hl => ?_)
                      refine lv_goto (tgt := 193) X.x X.b dX5_open_302 (by decide) ?_
                      exact ih (k + 1) (nI k) 1 t1 (by omega) (by omega) hO (Or.inr ⟨k, hk9, rfl⟩) (hG.trans (by rw [mg_open_193]; rw [if_neg c199, if_pos c209, if_neg c216, if_neg c246, if_pos c260, if_neg c277, if_neg c293])) _ _ _ hr hz hlo (lv_sub hl [0, 1, 3, 4] rfl)
          · refine lv_aload_n X.x X.b dX5_open_219 rfl (lv_at hl 3 rfl) ?_
            refine h_get X hr fd_X5_37 mput_o (v := .ref (b + 10)) rfl dX5_open_220 ?_
            refine lv_iload X.x X.b dX5_open_223 (lv_at hl 0 rfl) ?_
            refine h_iald X hr mput_10 (vp_in_nI (by omega) (by decide)) (v := .int (t1.2.1 9 k)) (by rw [nI_clamp (n := k) (by omega)]) dX5_open_225 ?_
            refine lv_aload_n X.x X.b dX5_open_226 rfl (lv_at hl 3 rfl) ?_
            refine h_get X hr fd_X5_61 mput_o (v := .int (t1.1 1)) rfl dX5_open_227 ?_
            refine lv_icmp_ne (tgt := 237) X.x X.b dX5_open_230 (by decide) (fun c230 => ?_) (fun c230 => ?_)
            · refine lv_iconst (v := 0) X.x X.b dX5_open_237 (by decide) ?_
              refine lv_istore_n (lv' := [(3, .int 0), (4, .int (nI k)), (2, .int jn), (0, .ref b)]) X.x X.b dX5_open_238 rfl hl (by decide) rfl (fun ls hl => ?_)
              refine lv_aload_n X.x X.b dX5_open_239 rfl (lv_at hl 3 rfl) ?_
              refine h_get X hr fd_X5_28 mput_o (v := .ref (b + 7)) rfl dX5_open_240 ?_
              refine lv_iload X.x X.b dX5_open_243 (lv_at hl 1 rfl) ?_
              refine h_iald X hr mput_7 (vp_in_nI (by omega) (by decide)) (v := .int (t1.2.1 6 k)) (by rw [nI_clamp (n := k) (by omega)]) dX5_open_245 ?_
              refine lv_if_le (tgt := 267) X.x X.b dX5_open_246 (by decide) (fun c246 => ?_) (fun c246 => ?_)
              · refine lv_iconst (v := 0) X.x X.b dX5_open_267 (by decide) ?_
                refine lv_istore (lv' := [(5, .int 0), (3, .int 0), (4, .int (nI k)), (2, .int jn), (0, .ref b)]) X.x X.b dX5_open_268 hl (by decide) rfl (fun ls hl => ?_)
                refine lv_iload X.x X.b dX5_open_270 (lv_at hl 0 rfl) ?_
                refine lv_if_eq (tgt := 299) X.x X.b dX5_open_272 (by decide) (fun c272 => ?_) (fun c272 => ?_)
                · refine lv_iinc (v := nI (k + 1)) (lv' := [(4, .int (nI (k + 1))), (5, .int 0), (3, .int 0), (2, .int jn), (0, .ref b)]) X.x X.b dX5_open_299 hl (k := 2) rfl (nI_1 k) (by decide) rfl (fun ls hl => ?_)
                  refine lv_goto (tgt := 193) X.x X.b dX5_open_302 (by decide) ?_
                  exact ih (k + 1) jn 0 t1 (by omega) (by omega) hO hjn (hG.trans (by rw [mg_open_193]; rw [if_neg c199, if_pos c209, if_pos c216, if_neg c230, if_pos c246])) _ _ _ hr hz hlo (lv_sub hl [0, 3, 2, 4] rfl)
                · exact absurd (by decide) c272
              · refine lv_aload_n X.x X.b dX5_open_249 rfl (lv_at hl 3 rfl) ?_
                refine h_get X hr fd_X5_31 mput_o (v := .ref (b + 8)) rfl dX5_open_250 ?_
                refine lv_iload X.x X.b dX5_open_253 (lv_at hl 1 rfl) ?_
                refine h_iald X hr mput_8 (vp_in_nI (by omega) (by decide)) (v := .int (t1.2.1 7 k)) (by rw [nI_clamp (n := k) (by omega)]) dX5_open_255 ?_
                refine lv_aload_n X.x X.b dX5_open_256 rfl (lv_at hl 3 rfl) ?_
                refine h_get X hr fd_X5_61 mput_o (v := .int (t1.1 1)) rfl dX5_open_257 ?_
                refine lv_icmp_ne (tgt := 267) X.x X.b dX5_open_260 (by decide) (fun c260 => ?_) (fun c260 => ?_)
                · refine lv_iconst (v := 0) X.x X.b dX5_open_267 (by decide) ?_
                  refine lv_istore (lv' := [(5, .int 0), (3, .int 0), (4, .int (nI k)), (2, .int jn), (0, .ref b)]) X.x X.b dX5_open_268 hl (by decide) rfl (fun ls hl => ?_)
                  refine lv_iload X.x X.b dX5_open_270 (lv_at hl 0 rfl) ?_
                  refine lv_if_eq (tgt := 299) X.x X.b dX5_open_272 (by decide) (fun c272 => ?_) (fun c272 => ?_)
                  · refine lv_iinc (v := nI (k + 1)) (lv' := [(4, .int (nI (k + 1))), (5, .int 0), (3, .int 0), (2, .int jn), (0, .ref b)]) X.x X.b dX5_open_299 hl (k := 2) rfl (nI_1 k) (by decide) rfl (fun ls hl => ?_)
                    refine lv_goto (tgt := 193) X.x X.b dX5_open_302 (by decide) ?_
                    exact ih (k + 1) jn 0 t1 (by omega) (by omega) hO hjn (hG.trans (by rw [mg_open_193]; rw [if_neg c199, if_pos c209, if_pos c216, if_neg c230, if_neg c246, if_neg c260])) _ _ _ hr hz hlo (lv_sub hl [0, 3, 2, 4] rfl)
                  · exact absurd (by decide) c272
                · refine lv_iconst (v := 1) X.x X.b dX5_open_263 (by decide) ?_
                  refine lv_goto (tgt := 268) X.x X.b dX5_open_264 (by decide) ?_
                  refine lv_istore (lv' := [(5, .int 1), (3, .int 0), (4, .int (nI k)), (2, .int jn), (0, .ref b)]) X.x X.b dX5_open_268 hl (by decide) rfl (fun ls hl => ?_)
                  refine lv_iload X.x X.b dX5_open_270 (lv_at hl 0 rfl) ?_
                  refine lv_if_eq (tgt := 299) X.x X.b dX5_open_272 (by decide) (fun c272 => ?_) (fun c272 => ?_)
                  · exact absurd c272 (by decide)
                  · refine lv_iload_n X.x X.b dX5_open_275 rfl (lv_at hl 3 rfl) ?_
                    refine lv_iconst (v := -1) X.x X.b dX5_open_276 (by decide) ?_
                    refine lv_icmp_eq (tgt := 296) X.x X.b dX5_open_277 (by decide) (fun c277 => ?_) (fun c277 => ?_)
                    · refine lv_iload X.x X.b dX5_open_296 (lv_at hl 2 rfl) ?_
                      refine lv_istore_n (lv' := [(2, .int (nI k)), (5, .int 1), (3, .int 0), (4, .int (nI k)), (0, .ref b)]) X.x X.b dX5_open_298 rfl hl (by decide) rfl (fun ls hl => ?_)
                      refine lv_iinc (v := nI (k + 1)) (lv' := [(4, .int (nI (k + 1))), (2, .int (nI k)), (5, .int 1), (3, .int 0), (0, .ref b)]) X.x X.b dX5_open_299 hl (k := 3) rfl (nI_1 k) (by decide) rfl (fun ls hl => ?_)
                      refine lv_goto (tgt := 193) X.x X.b dX5_open_302 (by decide) ?_
                      exact ih (k + 1) (nI k) 0 t1 (by omega) (by omega) hO (Or.inr ⟨k, hk9, rfl⟩) (hG.trans (by rw [mg_open_193]; rw [if_neg c199, if_pos c209, if_pos c216, if_neg c230, if_neg c246, if_pos c260, if_pos c277])) _ _ _ hr hz hlo (lv_sub hl [0, 1, 3, 4] rfl)
                    · refine lv_aload_n X.x X.b dX5_open_280 rfl (lv_at hl 4 rfl) ?_
                      refine h_get X hr fd_X5_28 mput_o (v := .ref (b + 7)) rfl dX5_open_281 ?_
                      refine lv_iload X.x X.b dX5_open_284 (lv_at hl 2 rfl) ?_
                      refine h_iald X hr mput_7 (vp_in_nI (by omega) (by decide)) (v := .int (t1.2.1 6 k)) (by rw [nI_clamp (n := k) (by omega)]) dX5_open_286 ?_
                      refine lv_aload_n X.x X.b dX5_open_287 rfl (lv_at hl 4 rfl) ?_
                      refine h_get X hr fd_X5_28 mput_o (v := .ref (b + 7)) rfl dX5_open_288 ?_
                      refine lv_iload_n X.x X.b dX5_open_291 rfl (lv_at hl 3 rfl) ?_
                      refine h_iald X hr mput_7 (hjn.ix c277 hnd) (v := .int (t1.2.1 6 jn.toNatClampNeg)) rfl dX5_open_292 ?_
                      refine lv_icmp_le (tgt := 299) X.x X.b dX5_open_293 (by decide) (fun c293 => ?_) (fun c293 => ?_)
                      · refine lv_iinc (v := nI (k + 1)) (lv' := [(4, .int (nI (k + 1))), (5, .int 1), (3, .int 0), (2, .int jn), (0, .ref b)]) X.x X.b dX5_open_299 hl (k := 2) rfl (nI_1 k) (by decide) rfl (fun ls hl => ?_)
                        refine lv_goto (tgt := 193) X.x X.b dX5_open_302 (by decide) ?_
                        exact ih (k + 1) jn 0 t1 (by omega) (by omega) hO hjn (hG.trans (by rw [mg_open_193]; rw [if_neg c199, if_pos c209, if_pos c216, if_neg c230, if_neg c246, if_pos c260, if_neg c277, if_pos c293])) _ _ _ hr hz hlo (lv_sub hl [0, 3, 2, 4] rfl)
                      · refine lv_iload X.x X.b dX5_open_296 (lv_at hl 2 rfl) ?_
                        refine lv_istore_n (lv' := [(2, .int (nI k)), (5, .int 1), (3, .int 0), (4, .int (nI k)), (0, .ref b)]) X.x X.b dX5_open_298 rfl hl (by decide) rfl (fun ls hl => ?_)
                        refine lv_iinc (v := nI (k + 1)) (lv' := [(4, .int (nI (k + 1))), (2, .int (nI k)), (5, .int 1), (3, .int 0), (0, .ref b)]) X.x X.b dX5_open_299 hl (k := 3) rfl (nI_1 k) (by decide) rfl (fun ls hl => ?_)
                        refine lv_goto (tgt := 193) X.x X.b dX5_open_302 (by decide) ?_
                        exact ih (k + 1) (nI k) 0 t1 (by omega) (by omega) hO (Or.inr ⟨k, hk9, rfl⟩) (hG.trans (by rw [mg_open_193]; rw [if_neg c199, if_pos c209, if_pos c216, if_neg c230, if_neg c246, if_pos c260, if_neg c277, if_neg c293])) _ _ _ hr hz hlo (lv_sub hl [0, 1, 3, 4] rfl)
            · refine lv_iconst (v := 1) X.x X.b dX5_open_233 (by decide) ?_
              refine lv_goto (tgt := 238) X.x X.b dX5_open_234 (by decide) ?_
              refine lv_istore_n (lv' := [(3, .int 1), (4, .int (nI k)), (2, .int jn), (0, .ref b)]) X.x X.b dX5_open_238 rfl hl (by decide) rfl (fun ls hl => ?_)
              refine lv_aload_n X.x X.b dX5_open_239 rfl (lv_at hl 3 rfl) ?_
              refine h_get X hr fd_X5_28 mput_o (v := .ref (b + 7)) rfl dX5_open_240 ?_
              refine lv_iload X.x X.b dX5_open_243 (lv_at hl 1 rfl) ?_
              refine h_iald X hr mput_7 (vp_in_nI (by omega) (by decide)) (v := .int (t1.2.1 6 k)) (by rw [nI_clamp (n := k) (by omega)]) dX5_open_245 ?_
              refine lv_if_le (tgt := 267) X.x X.b dX5_open_246 (by decide) (fun c246 => ?_) (fun c246 => ?_)
              · refine lv_iconst (v := 0) X.x X.b dX5_open_267 (by decide) ?_
                refine lv_istore (lv' := [(5, .int 0), (3, .int 1), (4, .int (nI k)), (2, .int jn), (0, .ref b)]) X.x X.b dX5_open_268 hl (by decide) rfl (fun ls hl => ?_)
                refine lv_iload X.x X.b dX5_open_270 (lv_at hl 0 rfl) ?_
                refine lv_if_eq (tgt := 299) X.x X.b dX5_open_272 (by decide) (fun c272 => ?_) (fun c272 => ?_)
                · refine lv_iinc (v := nI (k + 1)) (lv' := [(4, .int (nI (k + 1))), (5, .int 0), (3, .int 1), (2, .int jn), (0, .ref b)]) X.x X.b dX5_open_299 hl (k := 2) rfl (nI_1 k) (by decide) rfl (fun ls hl => ?_)
                  refine lv_goto (tgt := 193) X.x X.b dX5_open_302 (by decide) ?_
                  exact ih (k + 1) jn 1 t1 (by omega) (by omega) hO hjn (hG.trans (by rw [mg_open_193]; rw [if_neg c199, if_pos c209, if_pos c216, if_pos c230, if_pos c246])) _ _ _ hr hz hlo (lv_sub hl [0, 3, 2, 4] rfl)
                · exact absurd (by decide) c272
              · refine lv_aload_n X.x X.b dX5_open_249 rfl (lv_at hl 3 rfl) ?_
                refine h_get X hr fd_X5_31 mput_o (v := .ref (b + 8)) rfl dX5_open_250 ?_
                refine lv_iload X.x X.b dX5_open_253 (lv_at hl 1 rfl) ?_
                refine h_iald X hr mput_8 (vp_in_nI (by omega) (by decide)) (v := .int (t1.2.1 7 k)) (by rw [nI_clamp (n := k) (by omega)]) dX5_open_255 ?_
                refine lv_aload_n X.x X.b dX5_open_256 rfl (lv_at hl 3 rfl) ?_
                refine h_get X hr fd_X5_61 mput_o (v := .int (t1.1 1)) rfl dX5_open_257 ?_
                refine lv_icmp_ne (tgt := 267) X.x X.b dX5_open_260 (by decide) (fun c260 => ?_) (fun c260 => ?_)
                · refine lv_iconst (v := 0) X.x X.b dX5_open_267 (by decide) ?_
                  refine lv_istore (lv' := [(5, .int 0), (3, .int 1), (4, .int (nI k)), (2, .int jn), (0, .ref b)]) X.x X.b dX5_open_268 hl (by decide) rfl (fun ls hl => ?_)
                  refine lv_iload X.x X.b dX5_open_270 (lv_at hl 0 rfl) ?_
                  refine lv_if_eq (tgt := 299) X.x X.b dX5_open_272 (by decide) (fun c272 => ?_) (fun c272 => ?_)
                  · refine lv_iinc (v := nI (k + 1)) (lv' := [(4, .int (nI (k + 1))), (5, .int 0), (3, .int 1), (2, .int jn), (0, .ref b)]) X.x X.b dX5_open_299 hl (k := 2) rfl (nI_1 k) (by decide) rfl (fun ls hl => ?_)
                    refine lv_goto (tgt := 193) X.x X.b dX5_open_302 (by decide) ?_
                    exact ih (k + 1) jn 1 t1 (by omega) (by omega) hO hjn (hG.trans (by rw [mg_open_193]; rw [if_neg c199, if_pos c209, if_pos c216, if_pos c230, if_neg c246, if_neg c260])) _ _ _ hr hz hlo (lv_sub hl [0, 3, 2, 4] rfl)
                  · exact absurd (by decide) c272
                · refine lv_iconst (v := 1) X.x X.b dX5_open_263 (by decide) ?_
                  refine lv_goto (tgt := 268) X.x X.b dX5_open_264 (by decide) ?_
                  refine lv_istore (lv' := [(5, .int 1), (3, .int 1), (4, .int (nI k)), (2, .int jn), (0, .ref b)]) X.x X.b dX5_open_268 hl (by decide) rfl (fun ls hl => ?_)
                  refine lv_iload X.x X.b dX5_open_270 (lv_at hl 0 rfl) ?_
                  refine lv_if_eq (tgt := 299) X.x X.b dX5_open_272 (by decide) (fun c272 => ?_) (fun c272 => ?_)
                  · exact absurd c272 (by decide)
                  · refine lv_iload_n X.x X.b dX5_open_275 rfl (lv_at hl 3 rfl) ?_
                    refine lv_iconst (v := -1) X.x X.b dX5_open_276 (by decide) ?_
                    refine lv_icmp_eq (tgt := 296) X.x X.b dX5_open_277 (by decide) (fun c277 => ?_) (fun c277 => ?_)
                    · refine lv_iload X.x X.b dX5_open_296 (lv_at hl 2 rfl) ?_
                      refine lv_istore_n (lv' := [(2, .int (nI k)), (5, .int 1), (3, .int 1), (4, .int (nI k)), (0, .ref b)]) X.x X.b dX5_open_298 rfl hl (by decide) rfl (fun ls hl => ?_)
                      refine lv_iinc (v := nI (k + 1)) (lv' := [(4, .int (nI (k + 1))), (2, .int (nI k)), (5, .int 1), (3, .int 1), (0, .ref b)]) X.x X.b dX5_open_299 hl (k := 3) rfl (nI_1 k) (by decide) rfl (fun ls hl => ?_)
                      refine lv_goto (tgt := 193) X.x X.b dX5_open_302 (by decide) ?_
                      exact ih (k + 1) (nI k) 1 t1 (by omega) (by omega) hO (Or.inr ⟨k, hk9, rfl⟩) (hG.trans (by rw [mg_open_193]; rw [if_neg c199, if_pos c209, if_pos c216, if_pos c230, if_neg c246, if_pos c260, if_pos c277])) _ _ _ hr hz hlo (lv_sub hl [0, 1, 3, 4] rfl)
                    · refine lv_aload_n X.x X.b dX5_open_280 rfl (lv_at hl 4 rfl) ?_
                      refine h_get X hr fd_X5_28 mput_o (v := .ref (b + 7)) rfl dX5_open_281 ?_
                      refine lv_iload X.x X.b dX5_open_284 (lv_at hl 2 rfl) ?_
                      refine h_iald X hr mput_7 (vp_in_nI (by omega) (by decide)) (v := .int (t1.2.1 6 k)) (by rw [nI_clamp (n := k) (by omega)]) dX5_open_286 ?_
                      refine lv_aload_n X.x X.b dX5_open_287 rfl (lv_at hl 4 rfl) ?_
                      refine h_get X hr fd_X5_28 mput_o (v := .ref (b + 7)) rfl dX5_open_288 ?_
                      refine lv_iload_n X.x X.b dX5_open_291 rfl (lv_at hl 3 rfl) ?_
                      refine h_iald X hr mput_7 (hjn.ix c277 hnd) (v := .int (t1.2.1 6 jn.toNatClampNeg)) rfl dX5_open_292 ?_
                      refine lv_icmp_le (tgt := 299) X.x X.b dX5_open_293 (by decide) (fun c293 => ?_) (fun c293 => ?_)
                      · refine lv_iinc (v := nI (k + 1)) (lv' := [(4, .int (nI (k + 1))), (5, .int 1), (3, .int 1), (2, .int jn), (0, .ref b)]) X.x X.b dX5_open_299 hl (k := 2) rfl (nI_1 k) (by decide) rfl (fun ls hl => ?_)
                        refine lv_goto (tgt := 193) X.x X.b dX5_open_302 (by decide) ?_
                        exact ih (k + 1) jn 1 t1 (by omega) (by omega) hO hjn (hG.trans (by rw [mg_open_193]; rw [if_neg c199, if_pos c209, if_pos c216, if_pos c230, if_neg c246, if_pos c260, if_neg c277, if_pos c293])) _ _ _ hr hz hlo (lv_sub hl [0, 3, 2, 4] rfl)
                      · refine lv_iload X.x X.b dX5_open_296 (lv_at hl 2 rfl) ?_
                        refine lv_istore_n (lv' := [(2, .int (nI k)), (5, .int 1), (3, .int 1), (4, .int (nI k)), (0, .ref b)]) X.x X.b dX5_open_298 rfl hl (by decide) rfl (fun ls hl => ?_)
                        refine lv_iinc (v := nI (k + 1)) (lv' := [(4, .int (nI (k + 1))), (2, .int (nI k)), (5, .int 1), (3, .int 1), (0, .ref b)]) X.x X.b dX5_open_299 hl (k := 3) rfl (nI_1 k) (by decide) rfl (fun ls hl => ?_)
                        refine lv_goto (tgt := 193) X.x X.b dX5_open_302 (by decide) ?_
                        exact ih (k + 1) (nI k) 1 t1 (by omega) (by omega) hO (Or.inr ⟨k, hk9, rfl⟩) (hG.trans (by rw [mg_open_193]; rw [if_neg c199, if_pos c209, if_pos c216, if_pos c230, if_neg c246, if_pos c260, if_neg c277, if_neg c293])) _ _ _ hr hz hlo (lv_sub hl [0, 1, 3, 4] rfl)
        · refine lv_goto (tgt := 299) X.x X.b dX5_open_212 (by decide) ?_
          refine lv_iinc (v := nI (k + 1)) (lv' := [(4, .int (nI (k + 1))), (2, .int jn), (3, .int hbk), (0, .ref b)]) X.x X.b dX5_open_299 hl (k := 0) rfl (nI_1 k) (by decide) rfl (fun ls hl => ?_)
          refine lv_goto (tgt := 193) X.x X.b dX5_open_302 (by decide) ?_
          exact ih (k + 1) jn hbk t1 (by omega) (by omega) hO hjn (hG.trans (by rw [mg_open_193]; rw [if_neg c199, if_neg c209])) _ _ _ hr hz hlo (lv_sub hl [0, 1, 2, 3] rfl)
  have loop115 : ∀ (j k : Nat)  (t1 : MS) (hk : k ≤ nd) (hj : nd < k + j) (hO : OI nd t1) (hG : mf_open R nd t = mg_open_115 R nd  j k t1) (H : Heap) (locs : List Loc) (ls : Array Slot), hR D H0 (mput b R nd t1 h0) H → H.size = n → hL H0 locs → lv_has ls 6 [(4, .int (nI k)), (2, .int (-1)), (3, .int 0), (0, .ref b)] → W p l e (rmk 7 151 0 0) s m ([.ref b] : List Value).toArray below meth c H locs 0 0 (MQ below (cQ D H0 (cE (some (.int (mf_open R nd t).1)) (mput b R nd (mf_open R nd t).2 h0) n)) ([.ref b] : List Value).toArray s 0 0 (hF H0)) (F0 m 115 ls []) := by
    intro j
    induction j with
    | zero => intro k t1 hk hj; omega
    | succ j ih =>
      intro k t1 hk hj hO hG H locs ls hr hz hlo hl
      refine lv_iload X.x X.b dX5_open_115 (lv_at hl 0 rfl) ?_
      refine lv_aload_n X.x X.b dX5_open_117 rfl (lv_at hl 3 rfl) ?_
      refine h_get X hr fd_X5_58 mput_o (v := .int (nI nd)) rfl dX5_open_118 ?_
      refine lv_icmp_ge (tgt := 190) X.x X.b dX5_open_121 (by decide) (fun c121 => ?_) (fun c121 => ?_)
      · refine lv_iconst (v := 0) X.x X.b dX5_open_190 (by decide) ?_
        refine lv_istore (lv' := [(4, .int 0), (2, .int (-1)), (3, .int 0), (0, .ref b)]) X.x X.b dX5_open_191 hl (by decide) rfl (fun ls hl => ?_)
        have hl : lv_has ls 6 [(4, .int (nI 0)), (2, .int (-1)), (3, .int 0), (0, .ref b)] := by rw [nI_0]; exact hl
        exact loop193 (nd + 1) 0 (-1) 0 t1 (by omega) (by omega) hO (Or.inl rfl) (hG.trans (by rw [mg_open_115]; rw [if_pos c121])) _ _ _ hr hz hlo (lv_sub hl [0, 1, 2, 3] rfl)
      · have hk9 : k < nd := nd_lt c121 (by omega)
        refine lv_aload_n X.x X.b dX5_open_124 rfl (lv_at hl 3 rfl) ?_
        refine h_get X hr fd_X5_9 mput_o (v := .ref (b + 1)) rfl dX5_open_125 ?_
        refine lv_iload X.x X.b dX5_open_128 (lv_at hl 0 rfl) ?_
        refine h_iald X hr mput_1 (vp_in_nI (by omega) (by decide)) (v := .int (t1.2.1 0 k)) (by rw [nI_clamp (n := k) (by omega)]) dX5_open_130 ?_
        refine lv_if_ne (tgt := 184) X.x X.b dX5_open_131 (by decide) (fun c131 => ?_) (fun c131 => ?_)
        · refine lv_iinc (v := nI (k + 1)) (lv' := [(4, .int (nI (k + 1))), (2, .int (-1)), (3, .int 0), (0, .ref b)]) X.x X.b dX5_open_184 hl (k := 0) rfl (nI_1 k) (by decide) rfl (fun ls hl => ?_)
          refine lv_goto (tgt := 115) X.x X.b dX5_open_187 (by decide) ?_
          exact ih (k + 1)  t1 (by omega) (by omega) hO (hG.trans (by rw [mg_open_115]; rw [if_neg c121, if_neg c131])) _ _ _ hr hz hlo (lv_sub hl [0, 1, 2, 3] rfl)
        · refine lv_aload_n X.x X.b dX5_open_134 rfl (lv_at hl 3 rfl) ?_
          refine h_get X hr fd_X5_16 mput_o (v := .ref (b + 3)) rfl dX5_open_135 ?_
          refine lv_iload X.x X.b dX5_open_138 (lv_at hl 0 rfl) ?_
          refine h_iald X hr mput_3 (vp_in_nI (by omega) (by decide)) (v := .int (t1.2.1 2 k)) (by rw [nI_clamp (n := k) (by omega)]) dX5_open_140 ?_
          refine lv_aload_n X.x X.b dX5_open_141 rfl (lv_at hl 3 rfl) ?_
          refine h_get X hr fd_X5_61 mput_o (v := .int (t1.1 1)) rfl dX5_open_142 ?_
          refine lv_icmp_ne (tgt := 151) X.x X.b dX5_open_145 (by decide) (fun c145 => ?_) (fun c145 => ?_)
          · refine lv_aload_n X.x X.b dX5_open_151 rfl (lv_at hl 3 rfl) ?_
            refine lv_iload X.x X.b dX5_open_152 (lv_at hl 0 rfl) ?_
            refine h_callV X hr hz hlo (rest := []) (mc_pokes l D H0 b R nd t1 h0 n (nI k) hnd (vp_in_nI (by omega) (by decide))) mput_o rfl yv_X5_pokes ml_X5_90 ⟨(Nat.le_of_ble_eq_true rfl), (Nat.le_of_ble_eq_true rfl)⟩ (Nat.le_of_ble_eq_true rfl) hl.1 ⟨(Nat.le_of_ble_eq_true rfl), (Nat.le_of_ble_eq_true rfl)⟩ rfl dX5_open_154 (fun v9 h9 n9 H locs hp hr hz hlo => ?_)
            obtain ⟨rfl, rfl, rfl⟩ := hp
            show W p l e _ s m _ below meth c H locs _ _ _ (F0 m 157 ls [.int ((mf_pokes R nd t1 (nI k)).1)])
            refine lv_if_ne (tgt := 162) X.x X.b dX5_open_157 (by decide) (fun c157 => ?_) (fun c157 => ?_)
            · refine lv_aload_n X.x X.b dX5_open_162 rfl (lv_at hl 3 rfl) ?_
              refine lv_iload X.x X.b dX5_open_163 (lv_at hl 0 rfl) ?_
              refine lv_aload_n X.x X.b dX5_open_165 rfl (lv_at hl 3 rfl) ?_
              refine h_get X hr fd_X5_61 mput_o (v := .int (((mf_pokes R nd t1 (nI k)).2).1 1)) rfl dX5_open_166 ?_
              refine lv_aload_n X.x X.b dX5_open_169 rfl (lv_at hl 3 rfl) ?_
              refine h_get X hr fd_X5_64 mput_o (v := .int (((mf_pokes R nd t1 (nI k)).2).1 2)) rfl dX5_open_170 ?_
              refine lv_aload_n X.x X.b dX5_open_173 rfl (lv_at hl 3 rfl) ?_
              refine h_get X hr fd_X5_67 mput_o (v := .int (((mf_pokes R nd t1 (nI k)).2).1 3)) rfl dX5_open_174 ?_
              refine lv_aload_n X.x X.b dX5_open_177 rfl (lv_at hl 3 rfl) ?_
              refine h_get X hr fd_X5_94 mput_o (v := .int (((mf_pokes R nd t1 (nI k)).2).1 4)) rfl dX5_open_178 ?_
              refine h_callV X hr hz hlo (rest := []) (mc_tells l D H0 b R nd ((mf_pokes R nd t1 (nI k)).2) h0 n (nI k) (((mf_pokes R nd t1 (nI k)).2).1 1) (((mf_pokes R nd t1 (nI k)).2).1 2) (((mf_pokes R nd t1 (nI k)).2).1 3) (((mf_pokes R nd t1 (nI k)).2).1 4) hnd (vp_in_nI (by omega) (by decide))) mput_o rfl yv_X5_tells ml_X5_70 ⟨(Nat.le_of_ble_eq_true rfl), (Nat.le_of_ble_eq_true rfl)⟩ (Nat.le_of_ble_eq_true rfl) hl.1 ⟨(Nat.le_of_ble_eq_true rfl), (Nat.le_of_ble_eq_true rfl)⟩ rfl dX5_open_181 (fun v9 h9 n9 H locs hp hr hz hlo => ?_)
              obtain ⟨rfl, rfl, rfl⟩ := hp
              show W p l e _ s m _ below meth c H locs _ _ _ (F0 m 184 ls [])
              refine lv_iinc (v := nI (k + 1)) (lv' := [(4, .int (nI (k + 1))), (2, .int (-1)), (3, .int 0), (0, .ref b)]) X.x X.b dX5_open_184 hl (k := 0) rfl (nI_1 k) (by decide) rfl (fun ls hl => ?_)
              refine lv_goto (tgt := 115) X.x X.b dX5_open_187 (by decide) ?_
              exact ih (k + 1)  (mf_tells R nd ((mf_pokes R nd t1 (nI k)).2) (nI k) (((mf_pokes R nd t1 (nI k)).2).1 1) (((mf_pokes R nd t1 (nI k)).2).1 2) (((mf_pokes R nd t1 (nI k)).2).1 3) (((mf_pokes R nd t1 (nI k)).2).1 4)) (by omega) (by omega) (OI_keep (mf_tells_keep ..) (by simp) (by simp) (by decide) (OI_keep (mf_pokes_keep ..) (by decide) (by decide) (by decide) hO)) (hG.trans (by rw [mg_open_115]; rw [if_neg c121, if_pos c131, if_neg c145, if_neg c157])) _ _ _ hr hz hlo (lv_sub hl [0, 1, 2, 3] rfl)
            · refine lv_iconst (v := 0) X.x X.b dX5_open_160 (by decide) ?_
              exact h_iret X hr hz hlo (lfi (hG.trans (by rw [mg_open_115]; rw [if_neg c121, if_pos c131, if_neg c145, if_pos c157]))) (Nat.le_of_ble_eq_true rfl) (Nat.le_of_ble_eq_true rfl) dX5_open_161
          · refine lv_goto (tgt := 184) X.x X.b dX5_open_148 (by decide) ?_
            refine lv_iinc (v := nI (k + 1)) (lv' := [(4, .int (nI (k + 1))), (2, .int (-1)), (3, .int 0), (0, .ref b)]) X.x X.b dX5_open_184 hl (k := 0) rfl (nI_1 k) (by decide) rfl (fun ls hl => ?_)
            refine lv_goto (tgt := 115) X.x X.b dX5_open_187 (by decide) ?_
            exact ih (k + 1)  t1 (by omega) (by omega) hO (hG.trans (by rw [mg_open_115]; rw [if_neg c121, if_pos c131, if_pos c145])) _ _ _ hr hz hlo (lv_sub hl [0, 1, 2, 3] rfl)
  have loop23 : ∀ (j k : Nat) (best : Int32) (t1 : MS) (hk : k ≤ nd) (hj : nd < k + j) (hA : t1.2.1 = t.2.1) (hB : Bst nd t1 k best) (hG : mf_open R nd t = mg_open_23 R nd  j k best t1) (H : Heap) (locs : List Loc) (ls : Array Slot), hR D H0 (mput b R nd t1 h0) H → H.size = n → hL H0 locs → lv_has ls 6 [(4, .int (nI k)), (1, .int best), (2, .int (-1)), (3, .int 0), (0, .ref b)] → W p l e (rmk 7 151 0 0) s m ([.ref b] : List Value).toArray below meth c H locs 0 0 (MQ below (cQ D H0 (cE (some (.int (mf_open R nd t).1)) (mput b R nd (mf_open R nd t).2 h0) n)) ([.ref b] : List Value).toArray s 0 0 (hF H0)) (F0 m 23 ls []) := by
    intro j
    induction j with
    | zero => intro k best t1 hk hj; omega
    | succ j ih =>
      intro k best t1 hk hj hA hB hG H locs ls hr hz hlo hl
      refine lv_iload X.x X.b dX5_open_23 (lv_at hl 0 rfl) ?_
      refine lv_aload_n X.x X.b dX5_open_25 rfl (lv_at hl 4 rfl) ?_
      refine h_get X hr fd_X5_58 mput_o (v := .int (nI nd)) rfl dX5_open_26 ?_
      refine lv_icmp_ge (tgt := 72) X.x X.b dX5_open_29 (by decide) (fun c29 => ?_) (fun c29 => ?_)
      · refine lv_aload_n X.x X.b dX5_open_72 rfl (lv_at hl 4 rfl) ?_
        refine lv_aload_n X.x X.b dX5_open_73 rfl (lv_at hl 4 rfl) ?_
        refine h_get X hr fd_X5_16 mput_o (v := .ref (b + 3)) rfl dX5_open_74 ?_
        refine lv_iload_n X.x X.b dX5_open_77 rfl (lv_at hl 1 rfl) ?_
        refine h_iald X hr mput_3 (hB.fix (ndle c29 (by omega)) (by rw [hA]; exact hlive) hnd) (v := .int (t1.2.1 2 best.toNatClampNeg)) rfl dX5_open_78 ?_
        refine h_put X hr hz hlo fd_X5_61 tyX5 tyX5_ok nmX5 rfl mput_o (v := .int (t1.2.1 2 best.toNatClampNeg)) rfl rfl (Nat.le_of_ble_eq_true rfl) dX5_open_79 (fun H locs hr hz hlo => ?_)
        rw [mput_s1] at hr
        refine lv_aload_n X.x X.b dX5_open_82 rfl (lv_at hl 4 rfl) ?_
        refine lv_aload_n X.x X.b dX5_open_83 rfl (lv_at hl 4 rfl) ?_
        refine h_get X hr fd_X5_19 mput_o (v := .ref (b + 4)) rfl dX5_open_84 ?_
        refine lv_iload_n X.x X.b dX5_open_87 rfl (lv_at hl 1 rfl) ?_
        refine h_iald X hr mput_4 (hB.fix (ndle c29 (by omega)) (by rw [hA]; exact hlive) hnd) (v := .int (t1.2.1 3 best.toNatClampNeg)) rfl dX5_open_88 ?_
        refine h_put X hr hz hlo fd_X5_64 tyX5 tyX5_ok nmX5 rfl mput_o (v := .int (t1.2.1 3 best.toNatClampNeg)) rfl rfl (Nat.le_of_ble_eq_true rfl) dX5_open_89 (fun H locs hr hz hlo => ?_)
        rw [mput_s2] at hr
        refine lv_aload_n X.x X.b dX5_open_92 rfl (lv_at hl 4 rfl) ?_
        refine lv_aload_n X.x X.b dX5_open_93 rfl (lv_at hl 4 rfl) ?_
        refine h_get X hr fd_X5_22 mput_o (v := .ref (b + 5)) rfl dX5_open_94 ?_
        refine lv_iload_n X.x X.b dX5_open_97 rfl (lv_at hl 1 rfl) ?_
        refine h_iald X hr mput_5 (hB.fix (ndle c29 (by omega)) (by rw [hA]; exact hlive) hnd) (v := .int (t1.2.1 4 best.toNatClampNeg)) rfl dX5_open_98 ?_
        refine h_put X hr hz hlo fd_X5_67 tyX5 tyX5_ok nmX5 rfl mput_o (v := .int (t1.2.1 4 best.toNatClampNeg)) rfl rfl (Nat.le_of_ble_eq_true rfl) dX5_open_99 (fun H locs hr hz hlo => ?_)
        rw [mput_s3] at hr
        refine lv_aload_n X.x X.b dX5_open_102 rfl (lv_at hl 4 rfl) ?_
        refine lv_aload_n X.x X.b dX5_open_103 rfl (lv_at hl 4 rfl) ?_
        refine h_get X hr fd_X5_25 mput_o (v := .ref (b + 6)) rfl dX5_open_104 ?_
        refine lv_iload_n X.x X.b dX5_open_107 rfl (lv_at hl 1 rfl) ?_
        refine h_iald X hr mput_6 (hB.fix (ndle c29 (by omega)) (by rw [hA]; exact hlive) hnd) (v := .int (t1.2.1 5 best.toNatClampNeg)) rfl dX5_open_108 ?_
        refine h_put X hr hz hlo fd_X5_94 tyX5 tyX5_ok nmX5 rfl mput_o (v := .int (t1.2.1 5 best.toNatClampNeg)) rfl rfl (Nat.le_of_ble_eq_true rfl) dX5_open_109 (fun H locs hr hz hlo => ?_)
        rw [mput_s4] at hr
        refine lv_iconst (v := 0) X.x X.b dX5_open_112 (by decide) ?_
        refine lv_istore (lv' := [(4, .int 0), (1, .int best), (2, .int (-1)), (3, .int 0), (0, .ref b)]) X.x X.b dX5_open_113 hl (by decide) rfl (fun ls hl => ?_)
        have hl : lv_has ls 6 [(4, .int (nI 0)), (1, .int best), (2, .int (-1)), (3, .int 0), (0, .ref b)] := by rw [nI_0]; exact hl
        exact loop115 (nd + 1) 0  (si (si (si (si t1 1 (t1.2.1 2 best.toNatClampNeg)) 2 (t1.2.1 3 best.toNatClampNeg)) 3 (t1.2.1 4 best.toNatClampNeg)) 4 (t1.2.1 5 best.toNatClampNeg)) (by omega) (by omega) (OI_0 hB (ndle c29 (by omega)) (by rw [hA]; exact hlive) hnd (by intro i hi hv; have := hS i hi (by rw [← hA]; exact hv); unfold SV at this ⊢; rw [hA]; exact this) (by rw [hA]; exact hJ)) (hG.trans (by rw [mg_open_23]; rw [if_pos c29])) _ _ _ hr hz hlo (lv_sub hl [0, 2, 3, 4] rfl)
      · have hk9 : k < nd := nd_lt c29 (by omega)
        refine lv_aload_n X.x X.b dX5_open_32 rfl (lv_at hl 4 rfl) ?_
        refine h_get X hr fd_X5_9 mput_o (v := .ref (b + 1)) rfl dX5_open_33 ?_
        refine lv_iload X.x X.b dX5_open_36 (lv_at hl 0 rfl) ?_
        refine h_iald X hr mput_1 (vp_in_nI (by omega) (by decide)) (v := .int (t1.2.1 0 k)) (by rw [nI_clamp (n := k) (by omega)]) dX5_open_38 ?_
        refine lv_if_ne (tgt := 66) X.x X.b dX5_open_39 (by decide) (fun c39 => ?_) (fun c39 => ?_)
        · refine lv_iinc (v := nI (k + 1)) (lv' := [(4, .int (nI (k + 1))), (1, .int best), (2, .int (-1)), (3, .int 0), (0, .ref b)]) X.x X.b dX5_open_66 hl (k := 0) rfl (nI_1 k) (by decide) rfl (fun ls hl => ?_)
          refine lv_goto (tgt := 23) X.x X.b dX5_open_69 (by decide) ?_
          exact ih (k + 1) best t1 (by omega) (by omega) hA (hB.go (by first | exact Or.inl c39 | exact Or.inr c44)) (hG.trans (by rw [mg_open_23]; rw [if_neg c29, if_neg c39])) _ _ _ hr hz hlo (lv_sub hl [0, 1, 2, 3, 4] rfl)
        · refine lv_iload_n X.x X.b dX5_open_42 rfl (lv_at hl 1 rfl) ?_
          refine lv_iconst (v := -1) X.x X.b dX5_open_43 (by decide) ?_
          refine lv_icmp_eq (tgt := 63) X.x X.b dX5_open_44 (by decide) (fun c44 => ?_) (fun c44 => ?_)
          · refine lv_iload X.x X.b dX5_open_63 (lv_at hl 0 rfl) ?_
            refine lv_istore_n (lv' := [(1, .int (nI k)), (4, .int (nI k)), (2, .int (-1)), (3, .int 0), (0, .ref b)]) X.x X.b dX5_open_65 rfl hl (by decide) rfl (fun ls hl => ?_)
            refine lv_iinc (v := nI (k + 1)) (lv' := [(4, .int (nI (k + 1))), (1, .int (nI k)), (2, .int (-1)), (3, .int 0), (0, .ref b)]) X.x X.b dX5_open_66 hl (k := 1) rfl (nI_1 k) (by decide) rfl (fun ls hl => ?_)
            refine lv_goto (tgt := 23) X.x X.b dX5_open_69 (by decide) ?_
            exact ih (k + 1) (nI k) t1 (by omega) (by omega) hA (Or.inr ⟨k, hk9, rfl, c39⟩) (hG.trans (by rw [mg_open_23]; rw [if_neg c29, if_pos c39, if_pos c44])) _ _ _ hr hz hlo (lv_sub hl [0, 1, 2, 3, 4] rfl)
          · refine lv_aload_n X.x X.b dX5_open_47 rfl (lv_at hl 4 rfl) ?_
            refine h_get X hr fd_X5_16 mput_o (v := .ref (b + 3)) rfl dX5_open_48 ?_
            refine lv_iload X.x X.b dX5_open_51 (lv_at hl 0 rfl) ?_
            refine h_iald X hr mput_3 (vp_in_nI (by omega) (by decide)) (v := .int (t1.2.1 2 k)) (by rw [nI_clamp (n := k) (by omega)]) dX5_open_53 ?_
            refine lv_aload_n X.x X.b dX5_open_54 rfl (lv_at hl 4 rfl) ?_
            refine h_get X hr fd_X5_16 mput_o (v := .ref (b + 3)) rfl dX5_open_55 ?_
            refine lv_iload_n X.x X.b dX5_open_58 rfl (lv_at hl 1 rfl) ?_
            refine h_iald X hr mput_3 (hB.ix c44 hnd) (v := .int (t1.2.1 2 best.toNatClampNeg)) rfl dX5_open_59 ?_
            refine lv_icmp_le (tgt := 66) X.x X.b dX5_open_60 (by decide) (fun c60 => ?_) (fun c60 => ?_)
            · refine lv_iinc (v := nI (k + 1)) (lv' := [(4, .int (nI (k + 1))), (1, .int best), (2, .int (-1)), (3, .int 0), (0, .ref b)]) X.x X.b dX5_open_66 hl (k := 0) rfl (nI_1 k) (by decide) rfl (fun ls hl => ?_)
              refine lv_goto (tgt := 23) X.x X.b dX5_open_69 (by decide) ?_
              exact ih (k + 1) best t1 (by omega) (by omega) hA (hB.go (by first | exact Or.inl c39 | exact Or.inr c44)) (hG.trans (by rw [mg_open_23]; rw [if_neg c29, if_pos c39, if_neg c44, if_pos c60])) _ _ _ hr hz hlo (lv_sub hl [0, 1, 2, 3, 4] rfl)
            · refine lv_iload X.x X.b dX5_open_63 (lv_at hl 0 rfl) ?_
              refine lv_istore_n (lv' := [(1, .int (nI k)), (4, .int (nI k)), (2, .int (-1)), (3, .int 0), (0, .ref b)]) X.x X.b dX5_open_65 rfl hl (by decide) rfl (fun ls hl => ?_)
              refine lv_iinc (v := nI (k + 1)) (lv' := [(4, .int (nI (k + 1))), (1, .int (nI k)), (2, .int (-1)), (3, .int 0), (0, .ref b)]) X.x X.b dX5_open_66 hl (k := 1) rfl (nI_1 k) (by decide) rfl (fun ls hl => ?_)
              refine lv_goto (tgt := 23) X.x X.b dX5_open_69 (by decide) ?_
              exact ih (k + 1) (nI k) t1 (by omega) (by omega) hA (Or.inr ⟨k, hk9, rfl, c39⟩) (hG.trans (by rw [mg_open_23]; rw [if_neg c29, if_pos c39, if_neg c44, if_neg c60])) _ _ _ hr hz hlo (lv_sub hl [0, 1, 2, 3, 4] rfl)
  refine lv_aload_n X.x X.b dX5_open_0 rfl (lv_at hl 0 rfl) ?_
  refine lv_iconst (v := 0) X.x X.b dX5_open_1 (by decide) ?_
  refine h_put X hr hz hlo fd_X5_74 tyX5 tyX5_ok nmX5 rfl mput_o (v := .int 0) rfl rfl (Nat.le_of_ble_eq_true rfl) dX5_open_2 (fun H locs hr hz hlo => ?_)
  rw [mput_s0] at hr
  refine lv_aload_n X.x X.b dX5_open_5 rfl (lv_at hl 0 rfl) ?_
  refine h_get X hr fd_X5_44 mput_o (v := .int (t.1 5)) rfl dX5_open_6 ?_
  refine lv_if_eq (tgt := 14) X.x X.b dX5_open_9 (by decide) (fun c9 => ?_) (fun c9 => ?_)
  · refine lv_iconst (v := -1) X.x X.b dX5_open_14 (by decide) ?_
    refine lv_istore_n (lv' := [(1, .int (-1)), (0, .ref b)]) X.x X.b dX5_open_15 rfl hl (by decide) rfl (fun ls hl => ?_)
    refine lv_iconst (v := -1) X.x X.b dX5_open_16 (by decide) ?_
    refine lv_istore_n (lv' := [(2, .int (-1)), (1, .int (-1)), (0, .ref b)]) X.x X.b dX5_open_17 rfl hl (by decide) rfl (fun ls hl => ?_)
    refine lv_iconst (v := 0) X.x X.b dX5_open_18 (by decide) ?_
    refine lv_istore_n (lv' := [(3, .int 0), (2, .int (-1)), (1, .int (-1)), (0, .ref b)]) X.x X.b dX5_open_19 rfl hl (by decide) rfl (fun ls hl => ?_)
    refine lv_iconst (v := 0) X.x X.b dX5_open_20 (by decide) ?_
    refine lv_istore (lv' := [(4, .int 0), (3, .int 0), (2, .int (-1)), (1, .int (-1)), (0, .ref b)]) X.x X.b dX5_open_21 hl (by decide) rfl (fun ls hl => ?_)
    have hl : lv_has ls 6 [(4, .int (nI 0)), (3, .int 0), (2, .int (-1)), (1, .int (-1)), (0, .ref b)] := by rw [nI_0]; exact hl
    exact loop23 (nd + 1) 0 (-1) (si t 0 0) (by omega) (by omega) rfl (Or.inl ⟨rfl, fun i hi => absurd hi (Nat.not_lt_zero i)⟩) (id (by unfold mf_open; rw [if_pos c9])) _ _ _ hr hz hlo (lv_sub hl [0, 3, 2, 1, 4] rfl)
  · refine lv_iconst (v := -1) X.x X.b dX5_open_12 (by decide) ?_
    exact h_iret X hr hz hlo (lfi (id (by unfold mf_open; rw [if_neg c9]))) (Nat.le_of_ble_eq_true rfl) (Nat.le_of_ble_eq_true rfl) dX5_open_13
