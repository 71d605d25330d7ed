/-! ===== THE CLASS: its constructors; cells made one behind another ===== -/
/-- the cells cs from b on, over h -/
def hs (h : hH) (b : Nat) (cs : List hC) : hH := fun q => if b ≤ q ∧ q < b + cs.length then cs[q - b]? else h q
section HS
variable {h : hH} {b : Nat} {cs ds : List hC} {c : hC}
theorem hs_at (i : Nat) (hi : cs[i]? = some c) : hs h b cs (b + i) = some c := by
  have h1 : i < cs.length := (List.getElem?_eq_some_iff.mp hi).1
  unfold hs
  rw [if_pos (by omega), Nat.add_sub_cancel_left]
  exact hi
theorem hs_0 (hi : cs[0]? = some c) : hs h b cs b = some c := hs_at (b := b) 0 hi
theorem hs_out {q : Nat} (hq : q < b) : hs h b cs q = h q := by unfold hs; rw [if_neg (by omega)]
theorem hs_one : hup h b c = hs h b [c] := by
  funext q
  unfold hup hs
  by_cases e : q = b
  · subst e; simp
  · rw [if_neg e, if_neg (by simp; omega)]
theorem hs_app : hs (hs h b cs) (b + cs.length) ds = hs h b (cs ++ ds) := by
  funext q
  unfold hs
  rw [List.length_append]
  by_cases e : b + cs.length ≤ q ∧ q < b + cs.length + ds.length
  · rw [if_pos e, if_pos (by omega), List.getElem?_append_right (by omega)]
    congr 1
    omega
  · rw [if_neg e]
    by_cases e2 : b ≤ q ∧ q < b + cs.length
    · rw [if_pos e2, if_pos (by omega), List.getElem?_append_left (by omega)]
    · rw [if_neg e2, if_neg (by omega)]
theorem hs_push {n : Nat} (hn : n = b + cs.length) : hup (hs h b cs) n c = hs h b (cs ++ [c]) := by rw [hs_one, hn, hs_app]
theorem hs_set (i : Nat) (hi : i < cs.length) : hup (hs h b cs) (b + i) c = hs h b (cs.set i c) := by
  funext q
  unfold hup hs
  rw [List.length_set]
  by_cases e : q = b + i
  · subst e
    rw [if_pos rfl, if_pos (by omega), Nat.add_sub_cancel_left]
    simp [hi]
  · rw [if_neg e]
    by_cases e2 : b ≤ q ∧ q < b + cs.length
    · rw [if_pos e2, if_pos e2, List.getElem?_set_ne (by omega)]
    · rw [if_neg e2, if_neg e2]
theorem hs_set0 (hi : 0 < cs.length) : hup (hs h b cs) b c = hs h b (cs.set 0 c) := hs_set (b := b) 0 hi
theorem hs_hup {q : Nat} (hq : q < b) : hup (hs h b cs) q c = hs (hup h q c) b cs := by
  funext z
  unfold hup hs
  dsimp only
  by_cases e : z = q
  · subst e; rw [if_pos rfl, if_neg (by omega), if_pos rfl]
  · rw [if_neg e]
    by_cases e2 : b ≤ z ∧ z < b + cs.length
    · rw [if_pos e2, if_pos e2]
    · rw [if_neg e2, if_neg e2, if_neg e]
end HS
theorem hR.pushs {D : hD} {H0 : Heap} {H : Heap} {h : hH} {b n : Nat} {cs : List hC} {c : hC} (hr : hR D H0 (hup (hs h b cs) n c) H) (hn : n = b + cs.length) : hR D H0 (hs h b (cs ++ [c])) H := by rw [hs_push hn] at hr; exact hr
theorem hR.pushs2 {D : hD} {H0 : Heap} {H : Heap} {h : hH} {b n q : Nat} {cs : List hC} {c c2 : hC} (hr : hR D H0 (hup (hup (hs h b cs) n c) q c2) H) (hn : n = b + cs.length) (hq : q < n) : hR D H0 (hup (hs h b (cs ++ [c])) q c2) H := by rw [hs_push hn] at hr; exact hr
theorem hR.set0 {D : hD} {H0 : Heap} {H : Heap} {h : hH} {b : Nat} {cs : List hC} {c : hC} (hr : hR D H0 (hup (hs h b cs) b c) H) (hi : 0 < cs.length) : hR D H0 (hs h b (cs.set 0 c)) H := by rw [hs_set0 hi] at hr; exact hr
theorem hR.seti {D : hD} {H0 : Heap} {H : Heap} {h : hH} {b i : Nat} {cs : List hC} {c : hC} (hr : hR D H0 (hup (hs h b cs) (b + i) c) H) (hi : i < cs.length) : hR D H0 (hs h b (cs.set i c)) H := by rw [hs_set i hi] at hr; exact hr
theorem arrV_congr {cI : ClassId} {N : Nat} {f f2 : Nat → Value} (hf : ∀ i, i < N → f i = f2 i) : arrV cI N f = arrV cI N f2 := by
  unfold arrV
  have e : (fun j : Fin N => f j.val) = fun j : Fin N => f2 j.val := funext fun j => hf j.val j.isLt
  rw [e]
theorem gc_3_init (l : Launch) (D : hD) (H0 : Heap) (b : Nat) (h : hH) (n : Nat) : cM l D H0 yX3_init cX3_init 1 none 1 20 0 0 [.ref b] h n (cE none h n) := by
  refine h_met (by decide) (Nat.le_of_ble_eq_true rfl) ?_
  intro p e s m below meth c H ls X hnm hr hz hl
  have hl : lv_has ls 1 [(0, .ref b)] := hl
  have hlo : hL H0 ([] : List Loc) := hL.nil
  refine lv_aload_n X.x X.b dX3_init_0 rfl (lv_at hl 0 rfl) ?_
  refine h_objInit X ml_X3_1 im_obj cd_obj hl.1 (Nat.le_of_ble_eq_true rfl) (Nat.le_of_ble_eq_true rfl) dX3_init_1 ?_
  exact h_vret X hr hz hlo ⟨rfl, rfl, rfl⟩ (Nat.le_of_ble_eq_true rfl) (Nat.le_of_ble_eq_true rfl) dX3_init_4
theorem gc_2_init (l : Launch) (D : hD) (H0 : Heap) (b : Nat) (h : hH) (n : Nat) : cM l D H0 yX2_init cX2_init 1 none 1 20 0 0 [.ref b] h n (cE none h n) := by
  refine h_met (by decide) (Nat.le_of_ble_eq_true rfl) ?_
  intro p e s m below meth c H ls X hnm hr hz hl
  have hl : lv_has ls 1 [(0, .ref b)] := hl
  have hlo : hL H0 ([] : List Loc) := hL.nil
  refine lv_aload_n X.x X.b dX2_init_0 rfl (lv_at hl 0 rfl) ?_
  refine h_objInit X ml_X2_1 im_obj cd_obj hl.1 (Nat.le_of_ble_eq_true rfl) (Nat.le_of_ble_eq_true rfl) dX2_init_1 ?_
  exact h_vret X hr hz hlo ⟨rfl, rfl, rfl⟩ (Nat.le_of_ble_eq_true rfl) (Nat.le_of_ble_eq_true rfl) dX2_init_4
theorem gc_0_init (l : Launch) (D : hD) (H0 : Heap) (b : Nat) (h : hH) (n : Nat) (hb : h b = some (.inr (0, [.int 0, .null]))) (hbn : b < n) : cM l D H0 yX0_init cX0_init 1 none 1 20 1 10 [.ref b] h n (cE none (hup (hup h n (.inl (1, 10, fun _ => .long 0))) b (.inr (0, [.int 0, .ref n]))) (n + 1)) := by
  refine h_met (by decide) (Nat.le_of_ble_eq_true rfl) ?_
  intro p e s m below meth c H ls X hnm hr hz hl
  have hl : lv_has ls 1 [(0, .ref b)] := hl
  have hlo : hL H0 ([] : List Loc) := hL.nil
  refine lv_aload_n X.x X.b dX0_init_0 rfl (lv_at hl 0 rfl) ?_
  refine h_objInit X ml_X0_3 im_obj cd_obj hl.1 (Nat.le_of_ble_eq_true rfl) (Nat.le_of_ble_eq_true rfl) dX0_init_1 ?_
  refine lv_aload_n X.x X.b dX0_init_4 rfl (lv_at hl 0 rfl) ?_
  refine lv_bipush (v := 10) X.x X.b dX0_init_5 (by decide) ?_
  refine h_newJ X hr hz ac_long (N := 10) (by decide) (by decide) (by decide) (Nat.le_of_ble_eq_true rfl) (Nat.le_of_ble_eq_true rfl) dX0_init_7 (fun H hr hz => ?_)
  refine h_putF X hr hz hlo fd_X0_9 tyX0 tyX0_ok nmX0 rfl hnm ((hup_ne _ _ (by omega)).trans hb) (v := .ref n) rfl rfl (Nat.le_of_ble_eq_true rfl) dX0_init_9 (fun H locs hr hz hlo => ?_)
  exact h_vret X hr hz hlo ⟨rfl, rfl, rfl⟩ (Nat.le_of_ble_eq_true rfl) (Nat.le_of_ble_eq_true rfl) dX0_init_12
/-- the six cells of a fresh disk at b -/
def dk6 (b R : Nat) : List hC := [.inr (1, [.ref (b + 5), .ref (b + 1), .ref (b + 2), .ref (b + 3), .int 0, .int 0]), .inr (3, [.int 0, .int 0, .int 0, .int 0]), .inr (2, [.int 0, .int 0, .int 0, .int 0, .int 0, .long 0, .long 0]), .inr (0, [.int 0, .ref (b + 4)]), .inl (1, 10, fun _ => .long 0), .inl (1, R, fun _ => .long 0)]
set_option maxRecDepth 20000 in
set_option maxHeartbeats 4000000 in
theorem gc_1_init (l : Launch) (D : hD) (H0 : Heap) (b : Nat) (h : hH) (R : Nat) (hRR : R ≤ 48) : cM l D H0 yX1_init cX1_init 2 none 2 41 5 71 [.ref b, .int (nI R)] (hs h b [.inr (1, [.null, .null, .null, .null, .int 0, .int 0])]) (b + 1) (cE none (hs h b (dk6 b R)) (b + 6)) := by
  refine h_met (by decide) (Nat.le_of_ble_eq_true rfl) ?_
  intro p e s m below meth c H ls X hnm hr hz hl
  have hl : lv_has ls 2 [(0, .ref b), (1, .int (nI R))] := hl
  have hlo : hL H0 ([] : List Loc) := hL.nil
  refine lv_aload_n X.x X.b dX1_init_0 rfl (lv_at hl 0 rfl) ?_
  refine h_objInit X ml_X1_1 im_obj cd_obj hl.1 (Nat.le_of_ble_eq_true rfl) (Nat.le_of_ble_eq_true rfl) dX1_init_1 ?_
  refine lv_aload_n X.x X.b dX1_init_4 rfl (lv_at hl 0 rfl) ?_
  refine h_new X hr hz (ci := 3) tyX3 tyX3_ok rfl inAX3 kl_X1_7 ins_X3 ini_X3 (fs := [.int 0, .int 0, .int 0, .int 0]) (by decide) (Nat.le_of_ble_eq_true rfl) (Nat.le_of_ble_eq_true rfl) dX1_init_5 (fun H hr hz => ?_)
  have hr := hr.pushs rfl
  have hr : hR D H0 (hs h b [.inr (1, [.null, .null, .null, .null, .int 0, .int 0]), .inr (3, [.int 0, .int 0, .int 0, .int 0])]) H := hr
  have hz : H.size = b + 2 := hz
  refine lv_dup X.x X.b dX1_init_8 rfl ?_
  refine h_callIN X hr hz hlo (rest := [.ref (b + 1), .ref b]) (gc_3_init l D H0 (b + 1) _ _) yi_X3_init (host := RX4) (by decide) ⟨(Nat.le_of_ble_eq_true rfl), (Nat.le_of_ble_eq_true rfl)⟩ (Nat.le_of_ble_eq_true rfl) hl.1 ⟨(Nat.le_of_ble_eq_true rfl), (Nat.le_of_ble_eq_true rfl)⟩ rfl dX1_init_9 (fun v9 h9 n9 H locs hp hr hz hlo => ?_)
  obtain ⟨rfl, rfl, rfl⟩ := hp
  show W p l e _ s m _ below meth c H locs _ _ _ (F0 m 12 ls [.ref (b + 1), .ref b])
  refine h_putF X hr hz hlo fd_X1_10 tyX1 tyX1_ok nmX1 rfl hnm (hs_0 rfl) (v := .ref (b + 1)) rfl rfl (Nat.le_of_ble_eq_true rfl) dX1_init_12 (fun H locs hr hz hlo => ?_)
  have hr := hr.set0 (Nat.le_of_ble_eq_true rfl)
  have hr : hR D H0 (hs h b [.inr (1, [.null, .ref (b + 1), .null, .null, .int 0, .int 0]), .inr (3, [.int 0, .int 0, .int 0, .int 0])]) H := hr
  refine lv_aload_n X.x X.b dX1_init_15 rfl (lv_at hl 0 rfl) ?_
  refine h_new X hr hz (ci := 2) tyX2 tyX2_ok rfl inAX2 kl_X1_16 ins_X2 ini_X2 (fs := [.int 0, .int 0, .int 0, .int 0, .int 0, .long 0, .long 0]) (by decide) (Nat.le_of_ble_eq_true rfl) (Nat.le_of_ble_eq_true rfl) dX1_init_16 (fun H hr hz => ?_)
  have hr := hr.pushs rfl
  have hr : hR D H0 (hs h b [.inr (1, [.null, .ref (b + 1), .null, .null, .int 0, .int 0]), .inr (3, [.int 0, .int 0, .int 0, .int 0]), .inr (2, [.int 0, .int 0, .int 0, .int 0, .int 0, .long 0, .long 0])]) H := hr
  have hz : H.size = b + 3 := hz
  refine lv_dup X.x X.b dX1_init_19 rfl ?_
  refine h_callIN X hr hz hlo (rest := [.ref (b + 2), .ref b]) (gc_2_init l D H0 (b + 2) _ _) yi_X2_init (host := RX4) (by decide) ⟨(Nat.le_of_ble_eq_true rfl), (Nat.le_of_ble_eq_true rfl)⟩ (Nat.le_of_ble_eq_true rfl) hl.1 ⟨(Nat.le_of_ble_eq_true rfl), (Nat.le_of_ble_eq_true rfl)⟩ rfl dX1_init_20 (fun v9 h9 n9 H locs hp hr hz hlo => ?_)
  obtain ⟨rfl, rfl, rfl⟩ := hp
  show W p l e _ s m _ below meth c H locs _ _ _ (F0 m 23 ls [.ref (b + 2), .ref b])
  refine h_putF X hr hz hlo fd_X1_19 tyX1 tyX1_ok nmX1 rfl hnm (hs_0 rfl) (v := .ref (b + 2)) rfl rfl (Nat.le_of_ble_eq_true rfl) dX1_init_23 (fun H locs hr hz hlo => ?_)
  have hr := hr.set0 (Nat.le_of_ble_eq_true rfl)
  have hr : hR D H0 (hs h b [.inr (1, [.null, .ref (b + 1), .ref (b + 2), .null, .int 0, .int 0]), .inr (3, [.int 0, .int 0, .int 0, .int 0]), .inr (2, [.int 0, .int 0, .int 0, .int 0, .int 0, .long 0, .long 0])]) H := hr
  refine lv_aload_n X.x X.b dX1_init_26 rfl (lv_at hl 0 rfl) ?_
  refine h_new X hr hz (ci := 0) tyX0 tyX0_ok rfl inAX0 kl_X1_23 ins_X0 ini_X0 (fs := [.int 0, .null]) (by decide) (Nat.le_of_ble_eq_true rfl) (Nat.le_of_ble_eq_true rfl) dX1_init_27 (fun H hr hz => ?_)
  have hr := hr.pushs rfl
  have hr : hR D H0 (hs h b [.inr (1, [.null, .ref (b + 1), .ref (b + 2), .null, .int 0, .int 0]), .inr (3, [.int 0, .int 0, .int 0, .int 0]), .inr (2, [.int 0, .int 0, .int 0, .int 0, .int 0, .long 0, .long 0]), .inr (0, [.int 0, .null])]) H := hr
  have hz : H.size = b + 4 := hz
  refine lv_dup X.x X.b dX1_init_30 rfl ?_
  refine h_callIN X hr hz hlo (rest := [.ref (b + 3), .ref b]) (gc_0_init l D H0 (b + 3) _ _ (hs_at 3 rfl) (by omega)) yi_X0_init (host := RX4) (by decide) ⟨(Nat.le_of_ble_eq_true rfl), (Nat.le_of_ble_eq_true rfl)⟩ (Nat.le_of_ble_eq_true rfl) hl.1 ⟨(Nat.le_of_ble_eq_true rfl), (Nat.le_of_ble_eq_true rfl)⟩ rfl dX1_init_31 (fun v9 h9 n9 H locs hp hr hz hlo => ?_)
  obtain ⟨rfl, rfl, rfl⟩ := hp
  show W p l e _ s m _ below meth c H locs _ _ _ (F0 m 34 ls [.ref (b + 3), .ref b])
  have hr := hR.seti (i := 3) (hr.pushs2 rfl (by omega)) (Nat.le_of_ble_eq_true rfl)
  have hr : hR D H0 (hs h b [.inr (1, [.null, .ref (b + 1), .ref (b + 2), .null, .int 0, .int 0]), .inr (3, [.int 0, .int 0, .int 0, .int 0]), .inr (2, [.int 0, .int 0, .int 0, .int 0, .int 0, .long 0, .long 0]), .inr (0, [.int 0, .ref (b + 4)]), .inl (1, 10, fun _ => .long 0)]) H := hr
  have hz : H.size = b + 5 := hz
  refine h_putF X hr hz hlo fd_X1_26 tyX1 tyX1_ok nmX1 rfl hnm (hs_0 rfl) (v := .ref (b + 3)) rfl rfl (Nat.le_of_ble_eq_true rfl) dX1_init_34 (fun H locs hr hz hlo => ?_)
  have hr := hr.set0 (Nat.le_of_ble_eq_true rfl)
  have hr : hR D H0 (hs h b [.inr (1, [.null, .ref (b + 1), .ref (b + 2), .ref (b + 3), .int 0, .int 0]), .inr (3, [.int 0, .int 0, .int 0, .int 0]), .inr (2, [.int 0, .int 0, .int 0, .int 0, .int 0, .long 0, .long 0]), .inr (0, [.int 0, .ref (b + 4)]), .inl (1, 10, fun _ => .long 0)]) H := hr
  refine lv_aload_n X.x X.b dX1_init_37 rfl (lv_at hl 0 rfl) ?_
  refine lv_iload_n X.x X.b dX1_init_38 rfl (lv_at hl 1 rfl) ?_
  refine lv_if_ge (tgt := 46) X.x X.b dX1_init_39 (by decide) (fun c1 => ?_) (fun c1 => ?_)
  · refine lv_iload_n X.x X.b dX1_init_46 rfl (lv_at hl 1 rfl) ?_
    refine h_newJ X hr hz ac_long (N := R) (by rw [Int32.not_lt]; exact c1) (nI_clamp (by omega)) (by omega) (Nat.le_of_ble_eq_true rfl) (by show _ ≤ 71; omega) dX1_init_47 (fun H hr hz => ?_)
    have hr := hr.pushs rfl
    have hz : H.size = b + 6 := hz
    have hr : hR D H0 (hs h b [.inr (1, [.null, .ref (b + 1), .ref (b + 2), .ref (b + 3), .int 0, .int 0]), .inr (3, [.int 0, .int 0, .int 0, .int 0]), .inr (2, [.int 0, .int 0, .int 0, .int 0, .int 0, .long 0, .long 0]), .inr (0, [.int 0, .ref (b + 4)]), .inl (1, 10, fun _ => .long 0), .inl (1, R, fun _ => .long 0)]) H := hr
    refine h_putF X hr hz hlo fd_X1_30 tyX1 tyX1_ok nmX1 rfl hnm (hs_0 rfl) (v := .ref (b + 5)) rfl rfl (Nat.le_of_ble_eq_true rfl) dX1_init_49 (fun H locs hr hz hlo => ?_)
    have hr := hr.set0 (Nat.le_of_ble_eq_true rfl)
    exact h_vret X hr hz hlo ⟨rfl, rfl, rfl⟩ (Nat.le_of_ble_eq_true rfl) (by show _ ≤ 71; omega) dX1_init_52
  · exact absurd (Int32.le_iff_toInt_le.mpr (by rw [nI_toInt (show R < 2 ^ 31 by omega), show (0 : Int32).toInt = 0 by decide]; omega)) c1
theorem gc_3_tell_any (l : Launch) (D : hD) (H0 : Heap) (b : Nat) (h : hH) (n : Nat) (fs : List Value) (q n0 m0 f : Int32) (x0 x1 x2 x3 : Value) (hfs : fs = [x0, x1, x2, x3]) (hb : h b = some (.inr (3, fs))) : cM l D H0 yX3_tell cX3_tell 5 none 0 0 0 0 [.ref b, .int q, .int n0, .int m0, .int f] h n (cE none (hup h b (.inr (3, [.int q, .int n0, .int m0, .int f]))) n) := by
  subst hfs
  have hh : ∀ (x : hC) (y : hC), hup (hup h b x) b y = hup h b y := by
    intro x y; funext z; unfold hup; split <;> rfl
  refine h_met (by decide) (Nat.le_of_ble_eq_true rfl) ?_
  intro p e s m below meth c H ls X hnm hr hz hl
  have hl : lv_has ls 5 [(0, .ref b), (1, .int q), (2, .int n0), (3, .int m0), (4, .int f)] := hl
  have hlo : hL H0 ([] : List Loc) := hL.nil
  refine lv_aload_n X.x X.b dX3_tell_0 rfl (lv_at hl 0 rfl) ?_
  refine lv_iload_n X.x X.b dX3_tell_1 rfl (lv_at hl 1 rfl) ?_
  refine h_put X hr hz hlo fd_X3_7 tyX3 tyX3_ok nmX3 rfl hb (v := .int q) rfl rfl (Nat.le_of_ble_eq_true rfl) dX3_tell_2 (fun H locs hr hz hlo => ?_)
  have hr : hR D H0 (hup h b (.inr (3, [.int q, x1, x2, x3]))) H := hr
  refine lv_aload_n X.x X.b dX3_tell_5 rfl (lv_at hl 0 rfl) ?_
  refine lv_iload_n X.x X.b dX3_tell_6 rfl (lv_at hl 2 rfl) ?_
  refine h_put X hr hz hlo fd_X3_13 tyX3 tyX3_ok nmX3 rfl (hup_self _ _ _) (v := .int n0) rfl rfl (Nat.le_of_ble_eq_true rfl) dX3_tell_7 (fun H locs hr hz hlo => ?_)
  rw [hh] at hr
  have hr : hR D H0 (hup h b (.inr (3, [.int q, .int n0, x2, x3]))) H := hr
  refine lv_aload_n X.x X.b dX3_tell_10 rfl (lv_at hl 0 rfl) ?_
  refine lv_iload_n X.x X.b dX3_tell_11 rfl (lv_at hl 3 rfl) ?_
  refine h_put X hr hz hlo fd_X3_16 tyX3 tyX3_ok nmX3 rfl (hup_self _ _ _) (v := .int m0) rfl rfl (Nat.le_of_ble_eq_true rfl) dX3_tell_12 (fun H locs hr hz hlo => ?_)
  rw [hh] at hr
  have hr : hR D H0 (hup h b (.inr (3, [.int q, .int n0, .int m0, x3]))) H := hr
  refine lv_aload_n X.x X.b dX3_tell_15 rfl (lv_at hl 0 rfl) ?_
  refine lv_iload X.x X.b dX3_tell_16 (lv_at hl 4 rfl) ?_
  refine h_put X hr hz hlo fd_X3_19 tyX3 tyX3_ok nmX3 rfl (hup_self _ _ _) (v := .int f) rfl rfl (Nat.le_of_ble_eq_true rfl) dX3_tell_18 (fun H locs hr hz hlo => ?_)
  rw [hh] at hr
  have hr : hR D H0 (hup h b (.inr (3, [.int q, .int n0, .int m0, .int f]))) H := hr
  exact h_vret X hr hz hlo ⟨rfl, rfl, rfl⟩ (Nat.le_of_ble_eq_true rfl) (Nat.le_of_ble_eq_true rfl) dX3_tell_21
theorem gc_3_copyFrom_any (l : Launch) (D : hD) (H0 : Heap) (b o : Nat) (h : hH) (n : Nat) (fs : List Value) (q n0 m0 f : Int32) (x0 x1 x2 x3 : Value) (hfs : fs = [x0, x1, x2, x3]) (hb : h b = some (.inr (3, fs))) (ho : h o = some (.inr (3, [.int q, .int n0, .int m0, .int f]))) : cM l D H0 yX3_copyFrom cX3_copyFrom 2 none 1 24 0 0 [.ref b, .ref o] h n (cE none (hup h b (.inr (3, [.int q, .int n0, .int m0, .int f]))) n) := by
  refine h_met (by decide) (Nat.le_of_ble_eq_true rfl) ?_
  intro p e s m below meth c H ls X hnm hr hz hl
  have hl : lv_has ls 2 [(0, .ref b), (1, .ref o)] := hl
  have hlo : hL H0 ([] : List Loc) := hL.nil
  refine lv_aload_n X.x X.b dX3_copyFrom_0 rfl (lv_at hl 0 rfl) ?_
  refine lv_aload_n X.x X.b dX3_copyFrom_1 rfl (lv_at hl 1 rfl) ?_
  refine h_get X hr fd_X3_7 ho (v := .int q) rfl dX3_copyFrom_2 ?_
  refine lv_aload_n X.x X.b dX3_copyFrom_5 rfl (lv_at hl 1 rfl) ?_
  refine h_get X hr fd_X3_13 ho (v := .int n0) rfl dX3_copyFrom_6 ?_
  refine lv_aload_n X.x X.b dX3_copyFrom_9 rfl (lv_at hl 1 rfl) ?_
  refine h_get X hr fd_X3_16 ho (v := .int m0) rfl dX3_copyFrom_10 ?_
  refine lv_aload_n X.x X.b dX3_copyFrom_13 rfl (lv_at hl 1 rfl) ?_
  refine h_get X hr fd_X3_19 ho (v := .int f) rfl dX3_copyFrom_14 ?_
  refine h_callV X hr hz hlo (rest := []) (gc_3_tell_any l D H0 b h n fs q n0 m0 f x0 x1 x2 x3 hfs hb) hb rfl yv_X3_tell ml_X3_22 ⟨(Nat.le_of_ble_eq_true rfl), (Nat.le_of_ble_eq_true rfl)⟩ (Nat.le_of_ble_eq_true rfl) hl.1 ⟨(Nat.le_of_ble_eq_true rfl), (Nat.le_of_ble_eq_true rfl)⟩ rfl dX3_copyFrom_17 (fun v9 h9 n9 H locs hp hr hz hlo => ?_)
  obtain ⟨rfl, rfl, rfl⟩ := hp
  show W p l e _ s m _ below meth c H locs _ _ _ (F0 m 20 ls [])
  exact h_vret X hr hz hlo ⟨rfl, rfl, rfl⟩ (Nat.le_of_ble_eq_true rfl) (Nat.le_of_ble_eq_true rfl) dX3_copyFrom_20
/-- the state of a fresh object of nd disks -/
def g00 (nd : Nat) : GS := (fun i => if i = 1 then 1 else if i = 2 then -1 else if i = 8 then 1 else if i = 9 then nI nd else if i = 10 then nI nd else 0, fun k d => if d < nd then (if k = 0 then 1 else if k = 1 then nI nd else if k = 2 then nI nd else 0) else 0, fun _ _ _ => 0)
def gsix (a R nd d : Nat) : List hC := [gdk a R (g00 nd) d 0, gdk a R (g00 nd) d 1, gdk a R (g00 nd) d 2, gdk a R (g00 nd) d 3, gdk a R (g00 nd) d 4, gdk a R (g00 nd) d 5]
def gall (a R nd : Nat) : Nat → List hC
  | 0 => []
  | k + 1 => gall a R nd k ++ gsix a R nd k
theorem gall_len (a R nd k : Nat) : (gall a R nd k).length = 6 * k := by
  induction k with
  | zero => rfl
  | succ k ih => rw [gall, List.length_append, ih]; simp [gsix]; omega
theorem gall_at (a R nd : Nat) : ∀ (k d r : Nat), d < k → r < 6 → (gall a R nd k)[6 * d + r]? = some (gdk a R (g00 nd) d r) := by
  intro k
  induction k with
  | zero => intro d r h; omega
  | succ k ih =>
    intro d r hd hr
    rw [gall]
    rcases Nat.lt_or_ge d k with q | q
    · rw [List.getElem?_append_left (by rw [gall_len]; omega)]
      exact ih d r q hr
    · have e : d = k := by omega
      subst e
      rw [List.getElem?_append_right (by rw [gall_len]; omega), gall_len, Nat.add_sub_cancel_left]
      rcases (show r = 0 ∨ r = 1 ∨ r = 2 ∨ r = 3 ∨ r = 4 ∨ r = 5 by omega) with rfl | rfl | rfl | rfl | rfl | rfl <;> rfl
def gtop (nd : Nat) (fs : List Value) (f : Nat → Value) : List hC := [.inr (4, fs), .inr (3, [.int 1, .int (nI nd), .int (nI nd), .int 0]), .inr (2, [.int 0, .int 0, .int 0, .int 0, .int 0, .long 0, .long 0]), .inl (1, 10, fun _ => .long 0), .inl (2, 10, f)]
theorem gmade (a R nd : Nat) (h0 : hH) : hs h0 a (gtop nd (gF a R nd (g00 nd)) (fun i => .ref (aD a i)) ++ gall a R nd 10) = gput a R nd (g00 nd) h0 := by
  funext q
  unfold hs gput
  rw [List.length_append, gall_len]
  by_cases e : a ≤ q ∧ q < a + 65
  · rw [if_pos (by simp [gtop]; omega), if_pos e]
    obtain ⟨o, ho, rfl⟩ : ∃ o, o < 65 ∧ q = a + o := ⟨q - a, by omega, by omega⟩
    rw [Nat.add_sub_cancel_left]
    by_cases h5 : o < 5
    · rw [List.getElem?_append_left (by simp [gtop]; omega)]
      rcases (show o = 0 ∨ o = 1 ∨ o = 2 ∨ o = 3 ∨ o = 4 by omega) with rfl | rfl | rfl | rfl | rfl <;> rfl
    · rw [List.getElem?_append_right (by simp [gtop]; omega)]
      show (gall a R nd 10)[o - 5]? = _
      rw [show o - 5 = 6 * ((o - 5) / 6) + (o - 5) % 6 by omega, gall_at a R nd 10 _ _ (by omega) (Nat.mod_lt _ (by decide))]
      unfold gcell
      rw [if_neg (by omega), if_neg (by omega), if_neg (by omega), if_neg (by omega), if_neg (by omega)]
  · rw [if_neg (by simp [gtop]; omega), if_neg e]
/-- an array's picture beyond its length is free -/
theorem hR.arr {D : hD} {H0 : Heap} {h : hH} {H : Heap} (hr : hR D H0 h H) {q k N : Nat} {f f2 : Nat → Value} (hq : h q = some (.inl (k, N, f))) (hf : ∀ i, i < N → f i = f2 i) : hR D H0 (hup h q (.inl (k, N, f2))) H := by
  refine hr.set hq ?_ rfl (fun _ _ => rfl)
  have h1 : H[q]? = some (arrV (D.2.2 k) N f) := (hr.2.2 q _ hq).2
  show H[q]? = some (arrV (D.2.2 k) N f2)
  rw [h1, arrV_congr hf]
abbrev gF9 (a R nd : Nat) : List Value := [.ref (a + 4), .int (nI R), .int (nI nd), .ref (a + 1), .int 0, .int 0, .int 0, .int 0, .int 0, .int 0, .int 0, .ref (a + 2), .ref (a + 3)]
abbrev fk9 (a k : Nat) : Nat → Value := fun i => if i < k then .ref (aD a i) else .null
abbrev gF00 : List Value := [.null, .int 0, .int 0, .null, .int 0, .int 0, .int 0, .int 0, .int 0, .int 0, .int 0, .null, .null]
set_option maxRecDepth 20000 in
set_option maxHeartbeats 4000000 in
theorem gc_4_init (l : Launch) (D : hD) (H0 : Heap) (a : Nat) (h0 : hH) (disks rows : Int32) : cM l D H0 yX4_init cX4_init 5 none 3 62 64 801 [.ref a, .int disks, .int rows] (hs h0 a [.inr (4, gF00)]) (a + 1) (cE none (gput a (mR rows) (mN disks) (g00 (mN disks)) h0) (a + 65)) := by
  have hnd := mN_le disks
  have hRR := mR_le rows
  refine h_met (by decide) (Nat.le_of_ble_eq_true rfl) ?_
  intro p e s m below meth c H ls X hnm hr hz hl
  have hl : lv_has ls 5 [(0, .ref a), (1, .int disks), (2, .int rows)] := hl
  have hlo : hL H0 ([] : List Loc) := hL.nil
  refine lv_aload_n X.x X.b dX4_init_0 rfl (lv_at hl 0 rfl) ?_
  refine h_objInit X ml_X4_1 im_obj cd_obj hl.1 (Nat.le_of_ble_eq_true rfl) (Nat.le_of_ble_eq_true rfl) dX4_init_1 ?_
  refine lv_aload_n X.x X.b dX4_init_4 rfl (lv_at hl 0 rfl) ?_
  refine lv_iload_n X.x X.b dX4_init_5 rfl (lv_at hl 1 rfl) ?_
  refine lv_iconst (v := 3) X.x X.b dX4_init_6 (by decide) ?_
  suffices key : ∀ v : Int32, v = nI (mN disks) → W p l e (rmk 3 62 64 801) s m ([.ref a, .int disks, .int rows] : List Value).toArray below meth c H [] _ _ (MQ below (cQ D H0 (cE none (gput a (mR rows) (mN disks) (g00 (mN disks)) h0) (a + 65))) ([.ref a, .int disks, .int rows] : List Value).toArray s 64 801 (hF H0)) (F0 m 21 ls [.int v, .ref a]) by
    refine lv_icmp_lt (tgt := 20) X.x X.b dX4_init_7 (by decide) (fun c1 => ?_) (fun c1 => ?_)
    · refine lv_iconst (v := 4) X.x X.b dX4_init_20 (by decide) ?_
      exact key 4 (by rw [mN_v, if_pos (Or.inl c1)])
    · refine lv_iload_n X.x X.b dX4_init_10 rfl (lv_at hl 1 rfl) ?_
      refine lv_bipush (v := 7) X.x X.b dX4_init_11 (by decide) ?_
      refine lv_icmp_gt (tgt := 20) X.x X.b dX4_init_13 (by decide) (fun c2 => ?_) (fun c2 => ?_)
      · refine lv_iconst (v := 4) X.x X.b dX4_init_20 (by decide) ?_
        exact key 4 (by rw [mN_v, if_pos (Or.inr c2)])
      · refine lv_iload_n X.x X.b dX4_init_16 rfl (lv_at hl 1 rfl) ?_
        refine lv_goto (tgt := 21) X.x X.b dX4_init_17 (by decide) ?_
        exact key disks (by rw [mN_v, if_neg (by simp only [not_or]; exact ⟨c1, c2⟩)])
  intro v hv
  subst hv
  refine h_put X hr hz hlo fd_X4_7 tyX4 tyX4_ok nmX4 rfl (hs_0 rfl) (v := .int (nI (mN disks))) rfl rfl (Nat.le_of_ble_eq_true rfl) dX4_init_21 (fun H locs hr hz hlo => ?_)
  have hr := hr.set0 (Nat.le_of_ble_eq_true rfl)
  have hr : hR D H0 (hs h0 a [.inr (4, [.null, .int 0, .int (nI (mN disks)), .null, .int 0, .int 0, .int 0, .int 0, .int 0, .int 0, .int 0, .null, .null])]) H := hr
  refine lv_aload_n X.x X.b dX4_init_24 rfl (lv_at hl 0 rfl) ?_
  refine lv_iload_n X.x X.b dX4_init_25 rfl (lv_at hl 2 rfl) ?_
  refine lv_iconst (v := 2) X.x X.b dX4_init_26 (by decide) ?_
  suffices key : ∀ v : Int32, v = nI (mR rows) → W p l e (rmk 3 62 64 801) s m ([.ref a, .int disks, .int rows] : List Value).toArray below meth c H locs _ _ (MQ below (cQ D H0 (cE none (gput a (mR rows) (mN disks) (g00 (mN disks)) h0) (a + 65))) ([.ref a, .int disks, .int rows] : List Value).toArray s 64 801 (hF H0)) (F0 m 42 ls [.int v, .ref a]) by
    refine lv_icmp_lt (tgt := 40) X.x X.b dX4_init_27 (by decide) (fun c1 => ?_) (fun c1 => ?_)
    · refine lv_bipush (v := 16) X.x X.b dX4_init_40 (by decide) ?_
      exact key 16 (by rw [mR_v, if_pos (Or.inl c1)])
    · refine lv_iload_n X.x X.b dX4_init_30 rfl (lv_at hl 2 rfl) ?_
      refine lv_bipush (v := 48) X.x X.b dX4_init_31 (by decide) ?_
      refine lv_icmp_gt (tgt := 40) X.x X.b dX4_init_33 (by decide) (fun c2 => ?_) (fun c2 => ?_)
      · refine lv_bipush (v := 16) X.x X.b dX4_init_40 (by decide) ?_
        exact key 16 (by rw [mR_v, if_pos (Or.inr c2)])
      · refine lv_iload_n X.x X.b dX4_init_36 rfl (lv_at hl 2 rfl) ?_
        refine lv_goto (tgt := 42) X.x X.b dX4_init_37 (by decide) ?_
        exact key rows (by rw [mR_v, if_neg (by simp only [not_or]; exact ⟨c1, c2⟩)])
  intro v hv
  subst hv
  refine h_putF X hr hz hlo fd_X4_13 tyX4 tyX4_ok nmX4 rfl hnm (hs_0 rfl) (v := .int (nI (mR rows))) rfl rfl (Nat.le_of_ble_eq_true rfl) dX4_init_42 (fun H locs hr hz hlo => ?_)
  have hr := hr.set0 (Nat.le_of_ble_eq_true rfl)
  have hr : hR D H0 (hs h0 a [.inr (4, [.null, .int (nI (mR rows)), .int (nI (mN disks)), .null, .int 0, .int 0, .int 0, .int 0, .int 0, .int 0, .int 0, .null, .null])]) H := hr
  generalize mR rows = R at hr hRR ⊢
  generalize mN disks = nd at hr hnd ⊢
  refine lv_aload_n X.x X.b dX4_init_45 rfl (lv_at hl 0 rfl) ?_
  refine h_new X hr hz (ci := 3) tyX3 tyX3_ok rfl inAX3 kl_X4_16 ins_X3 ini_X3 (fs := [.int 0, .int 0, .int 0, .int 0]) (by decide) (Nat.le_of_ble_eq_true rfl) (Nat.le_of_ble_eq_true rfl) dX4_init_46 (fun H hr hz => ?_)
  have hr := hr.pushs rfl
  have hr : hR D H0 (hs h0 a [.inr (4, [.null, .int (nI R), .int (nI nd), .null, .int 0, .int 0, .int 0, .int 0, .int 0, .int 0, .int 0, .null, .null]), .inr (3, [.int 0, .int 0, .int 0, .int 0])]) H := hr
  have hz : H.size = a + 2 := hz
  refine lv_dup X.x X.b dX4_init_49 rfl ?_
  refine h_callIN X hr hz hlo (rest := [.ref (a + 1), .ref a]) (gc_3_init l D H0 (a + 1) _ _) yi_X3_init (host := RX4) (by decide) ⟨(Nat.le_of_ble_eq_true rfl), (Nat.le_of_ble_eq_true rfl)⟩ (Nat.le_of_ble_eq_true rfl) hl.1 ⟨(Nat.le_of_ble_eq_true rfl), (Nat.le_of_ble_eq_true rfl)⟩ rfl dX4_init_50 (fun v9 h9 n9 H locs hp hr hz hlo => ?_)
  obtain ⟨rfl, rfl, rfl⟩ := hp
  show W p l e _ s m _ below meth c H locs _ _ _ (F0 m 53 ls [.ref (a + 1), .ref a])
  refine h_putF X hr hz hlo fd_X4_19 tyX4 tyX4_ok nmX4 rfl hnm (hs_0 rfl) (v := .ref (a + 1)) rfl rfl (Nat.le_of_ble_eq_true rfl) dX4_init_53 (fun H locs hr hz hlo => ?_)
  have hr := hr.set0 (Nat.le_of_ble_eq_true rfl)
  have hr : hR D H0 (hs h0 a [.inr (4, [.null, .int (nI R), .int (nI nd), .ref (a + 1), .int 0, .int 0, .int 0, .int 0, .int 0, .int 0, .int 0, .null, .null]), .inr (3, [.int 0, .int 0, .int 0, .int 0])]) H := hr
  refine lv_aload_n X.x X.b dX4_init_56 rfl (lv_at hl 0 rfl) ?_
  refine h_get X hr fd_X4_19 (hs_0 rfl) (v := .ref (a + 1)) rfl dX4_init_57 ?_
  refine lv_iconst (v := 1) X.x X.b dX4_init_60 (by decide) ?_
  refine lv_aload_n X.x X.b dX4_init_61 rfl (lv_at hl 0 rfl) ?_
  refine h_get X hr fd_X4_7 (hs_0 rfl) (v := .int (nI nd)) rfl dX4_init_62 ?_
  refine lv_aload_n X.x X.b dX4_init_65 rfl (lv_at hl 0 rfl) ?_
  refine h_get X hr fd_X4_7 (hs_0 rfl) (v := .int (nI nd)) rfl dX4_init_66 ?_
  refine lv_iconst (v := 0) X.x X.b dX4_init_69 (by decide) ?_
  refine h_callV X hr hz hlo (rest := []) (gc_3_tell_any l D H0 (a + 1) _ _ _ 1 (nI nd) (nI nd) 0 _ _ _ _ rfl (hs_at 1 rfl)) (hs_at 1 rfl) rfl yv_X3_tell ml_X4_23 ⟨(Nat.le_of_ble_eq_true rfl), (Nat.le_of_ble_eq_true rfl)⟩ (Nat.le_of_ble_eq_true rfl) hl.1 ⟨(Nat.le_of_ble_eq_true rfl), (Nat.le_of_ble_eq_true rfl)⟩ rfl dX4_init_70 (fun v9 h9 n9 H locs hp hr hz hlo => ?_)
  obtain ⟨rfl, rfl, rfl⟩ := hp
  show W p l e _ s m _ below meth c H locs _ _ _ (F0 m 73 ls [])
  have hr := hR.seti (i := 1) hr (Nat.le_of_ble_eq_true rfl)
  have hr : hR D H0 (hs h0 a [.inr (4, [.null, .int (nI R), .int (nI nd), .ref (a + 1), .int 0, .int 0, .int 0, .int 0, .int 0, .int 0, .int 0, .null, .null]), .inr (3, [.int 1, .int (nI nd), .int (nI nd), .int 0])]) H := hr
  refine lv_aload_n X.x X.b dX4_init_73 rfl (lv_at hl 0 rfl) ?_
  refine h_new X hr hz (ci := 2) tyX2 tyX2_ok rfl inAX2 kl_X4_27 ins_X2 ini_X2 (fs := [.int 0, .int 0, .int 0, .int 0, .int 0, .long 0, .long 0]) (by decide) (Nat.le_of_ble_eq_true rfl) (Nat.le_of_ble_eq_true rfl) dX4_init_74 (fun H hr hz => ?_)
  have hr := hr.pushs rfl
  have hr : hR D H0 (hs h0 a [.inr (4, [.null, .int (nI R), .int (nI nd), .ref (a + 1), .int 0, .int 0, .int 0, .int 0, .int 0, .int 0, .int 0, .null, .null]), .inr (3, [.int 1, .int (nI nd), .int (nI nd), .int 0]), .inr (2, [.int 0, .int 0, .int 0, .int 0, .int 0, .long 0, .long 0])]) H := hr
  have hz : H.size = a + 3 := hz
  refine lv_dup X.x X.b dX4_init_77 rfl ?_
  refine h_callIN X hr hz hlo (rest := [.ref (a + 2), .ref a]) (gc_2_init l D H0 (a + 2) _ _) yi_X2_init (host := RX4) (by decide) ⟨(Nat.le_of_ble_eq_true rfl), (Nat.le_of_ble_eq_true rfl)⟩ (Nat.le_of_ble_eq_true rfl) hl.1 ⟨(Nat.le_of_ble_eq_true rfl), (Nat.le_of_ble_eq_true rfl)⟩ rfl dX4_init_78 (fun v9 h9 n9 H locs hp hr hz hlo => ?_)
  obtain ⟨rfl, rfl, rfl⟩ := hp
  show W p l e _ s m _ below meth c H locs _ _ _ (F0 m 81 ls [.ref (a + 2), .ref a])
  refine h_putF X hr hz hlo fd_X4_30 tyX4 tyX4_ok nmX4 rfl hnm (hs_0 rfl) (v := .ref (a + 2)) rfl rfl (Nat.le_of_ble_eq_true rfl) dX4_init_81 (fun H locs hr hz hlo => ?_)
  have hr := hr.set0 (Nat.le_of_ble_eq_true rfl)
  have hr : hR D H0 (hs h0 a [.inr (4, [.null, .int (nI R), .int (nI nd), .ref (a + 1), .int 0, .int 0, .int 0, .int 0, .int 0, .int 0, .int 0, .ref (a + 2), .null]), .inr (3, [.int 1, .int (nI nd), .int (nI nd), .int 0]), .inr (2, [.int 0, .int 0, .int 0, .int 0, .int 0, .long 0, .long 0])]) H := hr
  refine lv_aload_n X.x X.b dX4_init_84 rfl (lv_at hl 0 rfl) ?_
  refine lv_bipush (v := 10) X.x X.b dX4_init_85 (by decide) ?_
  refine h_newJ X hr hz ac_long (N := 10) (by decide) (by decide) (by decide) (Nat.le_of_ble_eq_true rfl) (Nat.le_of_ble_eq_true rfl) dX4_init_87 (fun H hr hz => ?_)
  have hr := hr.pushs rfl
  have hz : H.size = a + 4 := hz
  have hr : hR D H0 (hs h0 a [.inr (4, [.null, .int (nI R), .int (nI nd), .ref (a + 1), .int 0, .int 0, .int 0, .int 0, .int 0, .int 0, .int 0, .ref (a + 2), .null]), .inr (3, [.int 1, .int (nI nd), .int (nI nd), .int 0]), .inr (2, [.int 0, .int 0, .int 0, .int 0, .int 0, .long 0, .long 0]), .inl (1, 10, fun _ => .long 0)]) H := hr
  refine h_putF X hr hz hlo fd_X4_34 tyX4 tyX4_ok nmX4 rfl hnm (hs_0 rfl) (v := .ref (a + 3)) rfl rfl (Nat.le_of_ble_eq_true rfl) dX4_init_89 (fun H locs hr hz hlo => ?_)
  have hr := hr.set0 (Nat.le_of_ble_eq_true rfl)
  have hr : hR D H0 (hs h0 a [.inr (4, [.null, .int (nI R), .int (nI nd), .ref (a + 1), .int 0, .int 0, .int 0, .int 0, .int 0, .int 0, .int 0, .ref (a + 2), .ref (a + 3)]), .inr (3, [.int 1, .int (nI nd), .int (nI nd), .int 0]), .inr (2, [.int 0, .int 0, .int 0, .int 0, .int 0, .long 0, .long 0]), .inl (1, 10, fun _ => .long 0)]) H := hr
  refine lv_aload_n X.x X.b dX4_init_92 rfl (lv_at hl 0 rfl) ?_
  refine lv_bipush (v := 10) X.x X.b dX4_init_93 (by decide) ?_
  refine h_newD X hr hz kl_X4_38 (N := 10) (by decide) (by decide) (by decide) (Nat.le_of_ble_eq_true rfl) (Nat.le_of_ble_eq_true rfl) dX4_init_95 (fun H hr hz => ?_)
  have hr := hr.pushs rfl
  have hz : H.size = a + 5 := hz
  have hr : hR D H0 (hs h0 a [.inr (4, [.null, .int (nI R), .int (nI nd), .ref (a + 1), .int 0, .int 0, .int 0, .int 0, .int 0, .int 0, .int 0, .ref (a + 2), .ref (a + 3)]), .inr (3, [.int 1, .int (nI nd), .int (nI nd), .int 0]), .inr (2, [.int 0, .int 0, .int 0, .int 0, .int 0, .long 0, .long 0]), .inl (1, 10, fun _ => .long 0), .inl (2, 10, fun _ => .null)]) H := hr
  refine h_putF X hr hz hlo fd_X4_40 tyX4 tyX4_ok nmX4 rfl hnm (hs_0 rfl) (v := .ref (a + 4)) rfl rfl (Nat.le_of_ble_eq_true rfl) dX4_init_98 (fun H locs hr hz hlo => ?_)
  have hr := hr.set0 (Nat.le_of_ble_eq_true rfl)
  have hr : hR D H0 (hs h0 a (gtop nd (gF9 a R nd) (fk9 a 0) ++ gall a R nd 0)) H := hr
  refine lv_iconst (v := 0) X.x X.b dX4_init_101 (by decide) ?_
  refine lv_istore_n (lv' := [(3, .int 0), (0, .ref a), (1, .int disks), (2, .int rows)]) X.x X.b dX4_init_102 rfl hl (by decide) rfl (fun ls hl => ?_)
  have hl : lv_has ls 5 [(3, .int (nI 0)), (0, .ref a), (1, .int disks), (2, .int rows)] := by rw [nI_0]; exact hl
  have loop : ∀ (j k cl sl : Nat) (hk : k ≤ 10) (hj : 10 < k + j) (hcl : cl = 4 + 6 * k) (hsl : sl = 31 + 77 * k) (H : Heap) (locs : List Loc) (ls : Array Slot), hR D H0 (hs h0 a (gtop nd (gF9 a R nd) (fk9 a k) ++ gall a R nd k)) H → H.size = a + 5 + 6 * k → hL H0 locs → lv_has ls 5 [(3, .int (nI k)), (0, .ref a)] → W p l e (rmk 3 62 64 801) s m ([.ref a, .int disks, .int rows] : List Value).toArray below meth c H locs cl sl (MQ below (cQ D H0 (cE none (gput a R nd (g00 nd) h0) (a + 65))) ([.ref a, .int disks, .int rows] : List Value).toArray s 64 801 (hF H0)) (F0 m 103 ls []) := by
    intro j
    induction j with
    | zero => intro k cl sl hk hj; omega
    | succ j ih =>
      intro k cl sl hk hj hcl hsl H locs ls hr hz hlo hl
      refine lv_iload_n X.x X.b dX4_init_103 rfl (lv_at hl 0 rfl) ?_
      refine lv_bipush (v := 10) X.x X.b dX4_init_104 (by decide) ?_
      refine lv_icmp_ge (tgt := 156) X.x X.b dX4_init_106 (by decide) (fun c106 => ?_) (fun c106 => ?_)
      · have hk10 : k = 10 := by
          have := ndle (nd := 10) c106 (by decide)
          omega
        subst hk10
        have hr := hr.arr (f2 := fun i => .ref (aD a i)) (hs_at (b := a) 4 rfl) (fun i hi => if_pos hi)
        have hr := hR.seti (i := 4) hr (Nat.le_of_ble_eq_true rfl)
        have hr : hR D H0 (hs h0 a (gtop nd (gF9 a R nd) (fun i => .ref (aD a i)) ++ gall a R nd 10)) H := hr
        refine lv_aload_n X.x X.b dX4_init_156 rfl (lv_at hl 1 rfl) ?_
        refine lv_iconst (v := 1) X.x X.b dX4_init_157 (by decide) ?_
        refine h_put X hr hz hlo fd_X4_54 tyX4 tyX4_ok nmX4 rfl (hs_0 rfl) (v := .int 1) rfl rfl (Nat.le_of_ble_eq_true rfl) dX4_init_158 (fun H locs hr hz hlo => ?_)
        have hr := hr.set0 (Nat.le_of_ble_eq_true rfl)
        refine lv_aload_n X.x X.b dX4_init_161 rfl (lv_at hl 1 rfl) ?_
        refine lv_iconst (v := -1) X.x X.b dX4_init_162 (by decide) ?_
        refine h_put X hr hz hlo fd_X4_58 tyX4 tyX4_ok nmX4 rfl (hs_0 rfl) (v := .int (-1)) rfl rfl (Nat.le_of_ble_eq_true rfl) dX4_init_163 (fun H locs hr hz hlo => ?_)
        have hr := hr.set0 (Nat.le_of_ble_eq_true rfl)
        have hr : hR D H0 (hs h0 a (gtop nd (gF a R nd (g00 nd)) (fun i => .ref (aD a i)) ++ gall a R nd 10)) H := hr
        rw [gmade] at hr
        exact h_vret X hr hz hlo ⟨rfl, rfl, rfl⟩ (by show _ ≤ 64; omega) (by show _ ≤ 801; omega) dX4_init_166
      · have hk9 : k < 10 := nd_lt (nd := 10) c106 (by omega)
        have hlen : (gtop nd (gF9 a R nd) (fk9 a k) ++ gall a R nd k).length = 5 + 6 * k := by rw [List.length_append, gall_len]; rfl
        refine h_new X hr hz (ci := 1) tyX1 tyX1_ok rfl inAX1 kl_X4_38 ins_X1 ini_X1 (fs := [.null, .null, .null, .null, .int 0, .int 0]) (by decide) (by show _ ≤ 64; omega) (by show _ ≤ 801; omega) dX4_init_109 (fun H hr hz => ?_)
        rw [hs_one] at hr
        refine lv_dup X.x X.b dX4_init_112 rfl ?_
        refine lv_aload_n X.x X.b dX4_init_113 rfl (lv_at hl 1 rfl) ?_
        have e0 : ∀ (q : Nat) (cs : List hC) (i : Nat), i < 5 → q = a + i → hs (hs h0 a (gtop nd (gF9 a R nd) (fk9 a k) ++ gall a R nd k)) (a + 5 + 6 * k) cs q = (gtop nd (gF9 a R nd) (fk9 a k))[i]? := by
          intro q cs i hi hq
          rw [hs_out (by omega), hq]
          unfold hs
          rw [if_pos (by rw [hlen]; omega), Nat.add_sub_cancel_left, List.getElem?_append_left (by show _ < 5; omega)]
        refine h_get X hr fd_X4_13 (e0 a _ 0 (by decide) rfl) (v := .int (nI R)) rfl dX4_init_114 ?_
        refine h_callI X hr hz hlo (rest := [.ref (a + 5 + 6 * k)]) (gc_1_init l D H0 (a + 5 + 6 * k) _ R hRR.2) yi_X1_init ml_X4_44 ⟨(Nat.le_of_ble_eq_true rfl), (Nat.le_of_ble_eq_true rfl)⟩ (Nat.le_of_ble_eq_true rfl) hl.1 ⟨by show _ ≤ 64; omega, by show _ ≤ 801; omega⟩ rfl dX4_init_117 (fun v9 h9 n9 H locs hp hr hz hlo => ?_)
        obtain ⟨rfl, rfl, rfl⟩ := hp
        show W p l e _ s m _ below meth c H locs _ _ _ (F0 m 120 ls [.ref (a + 5 + 6 * k)])
        refine lv_astore (lv' := [(4, .ref (a + 5 + 6 * k)), (3, .int (nI k)), (0, .ref a)]) X.x X.b dX4_init_120 hl (by decide) rfl (fun ls hl => ?_)
        refine lv_iload_n X.x X.b dX4_init_122 rfl (lv_at hl 1 rfl) ?_
        refine lv_aload_n X.x X.b dX4_init_123 rfl (lv_at hl 2 rfl) ?_
        refine h_get X hr fd_X4_7 (e0 a _ 0 (by decide) rfl) (v := .int (nI nd)) rfl dX4_init_124 ?_
        suffices key : ∀ (H : Heap) (locs : List Loc), hR D H0 (hs (hs h0 a (gtop nd (gF9 a R nd) (fk9 a k) ++ gall a R nd k)) (a + 5 + 6 * k) (gsix a R nd k)) H → H.size = a + 5 + 6 * k + 6 → hL H0 locs → W p l e (rmk 3 62 64 801) s m ([.ref a, .int disks, .int rows] : List Value).toArray below meth c H locs (cl + 1 + 5) (sl + 6 + 71) (MQ below (cQ D H0 (cE none (gput a R nd (g00 nd) h0) (a + 65))) ([.ref a, .int disks, .int rows] : List Value).toArray s 64 801 (hF H0)) (F0 m 142 ls []) by
          refine lv_icmp_ge (tgt := 142) X.x X.b dX4_init_127 (by decide) (fun c127 => ?_) (fun c127 => ?_)
          · have hkn : ¬ k < nd := by have := ndle c127 (by omega); omega
            refine key H locs ?_ hz hlo
            have e1 : dk6 (a + 5 + 6 * k) R = gsix a R nd k := by
              unfold dk6
              rw [show a + 5 + 6 * k + 5 = aK a k by unfold aK; omega, show a + 5 + 6 * k + 1 = aS a k by unfold aS; omega, show a + 5 + 6 * k + 2 = aJ a k by unfold aJ; omega, show a + 5 + 6 * k + 3 = aB a k by unfold aB; omega, show a + 5 + 6 * k + 4 = aV a k by unfold aV; omega]
              simp [gsix, gdk, gDk, gSu, gJo, gBa, g00, hkn]
            rw [← e1]
            exact hr
          · have hkn : k < nd := nd_lt c127 (by omega)
            refine lv_aload X.x X.b dX4_init_130 (lv_at hl 0 rfl) ?_
            refine h_get X hr fd_X4_47 (hs_0 rfl) (v := .ref (a + 5 + 6 * k + 1)) rfl dX4_init_132 ?_
            refine lv_aload_n X.x X.b dX4_init_135 rfl (lv_at hl 2 rfl) ?_
            refine h_get X hr fd_X4_19 (e0 a _ 0 (by decide) rfl) (v := .ref (a + 1)) rfl dX4_init_136 ?_
            refine h_callV X hr hz hlo (rest := []) (gc_3_copyFrom_any l D H0 (a + 5 + 6 * k + 1) (a + 1) _ _ _ 1 (nI nd) (nI nd) 0 _ _ _ _ rfl (hs_at 1 rfl) (e0 (a + 1) _ 1 (by decide) rfl)) (hs_at 1 rfl) rfl yv_X3_copyFrom ml_X4_50 ⟨(Nat.le_of_ble_eq_true rfl), (Nat.le_of_ble_eq_true rfl)⟩ (Nat.le_of_ble_eq_true rfl) hl.1 ⟨by show _ ≤ 64; omega, by show _ ≤ 801; omega⟩ rfl dX4_init_139 (fun v9 h9 n9 H locs hp hr hz hlo => ?_)
            obtain ⟨rfl, rfl, rfl⟩ := hp
            show W p l e _ s m _ below meth c H locs _ _ _ (F0 m 142 ls [])
            have hr := hR.seti (i := 1) hr (Nat.le_of_ble_eq_true rfl)
            refine key H locs ?_ hz hlo
            have e1 : (dk6 (a + 5 + 6 * k) R).set 1 (.inr (3, [.int 1, .int (nI nd), .int (nI nd), .int 0])) = gsix a R nd k := by
              unfold dk6
              rw [show a + 5 + 6 * k + 5 = aK a k by unfold aK; omega, show a + 5 + 6 * k + 1 = aS a k by unfold aS; omega, show a + 5 + 6 * k + 2 = aJ a k by unfold aJ; omega, show a + 5 + 6 * k + 3 = aB a k by unfold aB; omega, show a + 5 + 6 * k + 4 = aV a k by unfold aV; omega]
              simp [gsix, gdk, gDk, gSu, gJo, gBa, g00, hkn]
            rw [← e1]
            exact hr
        intro H locs hr hz hlo
        refine lv_aload_n X.x X.b dX4_init_142 rfl (lv_at hl 2 rfl) ?_
        refine h_get X hr fd_X4_40 (e0 a _ 0 (by decide) rfl) (v := .ref (a + 4)) rfl dX4_init_143 ?_
        refine lv_iload_n X.x X.b dX4_init_146 rfl (lv_at hl 1 rfl) ?_
        refine lv_aload X.x X.b dX4_init_147 (lv_at hl 0 rfl) ?_
        refine h_aast X hr hz hlo (e0 (a + 4) _ 4 (by decide) rfl) (hs_0 rfl) (vp_in_nI (by omega) (by decide)) dX4_init_149 (fun H locs hr hz hlo => ?_)
        rw [nI_clamp (n := k) (by omega), hs_hup (by omega), hs_set 4 (by rw [hlen]; omega)] at hr
        have e2 : (gtop nd (gF9 a R nd) (fk9 a k) ++ gall a R nd k).set 4 (.inl (2, 10, fup (fk9 a k) k (.ref (a + 5 + 6 * k)))) = gtop nd (gF9 a R nd) (fk9 a (k + 1)) ++ gall a R nd k := by
          have e3 : fup (fk9 a k) k (.ref (a + 5 + 6 * k)) = fk9 a (k + 1) := by
            funext i
            unfold fup
            by_cases hi : i = k
            · subst hi
              simp [fk9, aD]
            · rw [if_neg hi]
              by_cases hi2 : i < k
              · simp [fk9, hi2, show i < k + 1 by omega]
              · simp [fk9, hi2, show ¬ i < k + 1 by omega]
          rw [e3]
          rfl
        rw [e2, show a + 5 + 6 * k = a + (gtop nd (gF9 a R nd) (fk9 a (k + 1)) ++ gall a R nd k).length by rw [List.length_append, gall_len]; show _ = a + (5 + 6 * k); omega, hs_app, List.append_assoc] at hr
        refine lv_iinc (v := nI (k + 1)) (lv' := [(3, .int (nI (k + 1))), (4, .ref (a + 5 + 6 * k)), (0, .ref a)]) X.x X.b dX4_init_150 hl (k := 1) rfl (nI_1 k) (by decide) rfl (fun ls hl => ?_)
        refine lv_goto (tgt := 103) X.x X.b dX4_init_153 (by decide) ?_
        exact ih (k + 1) _ _ (by omega) (by omega) (by omega) (by omega) H locs ls hr (by omega) hlo (lv_sub hl [0, 2] rfl)
  exact loop 11 0 _ _ (by decide) (by decide) rfl rfl H locs ls hr (by omega) hlo (lv_sub hl [0, 1] rfl)
