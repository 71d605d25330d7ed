theorem gu_spendWrite {R nd : Nat} {g : GS} (h : g.1 1 = 0 ∨ g.1 1 = 1) : (gf_4_spendWrite R nd g).2.1 1 = 0 ∨ (gf_4_spendWrite R nd g).2.1 1 = 1 := by
  unfold gf_4_spendWrite
  repeat' split
  · exact h
  · exact Or.inl rfl
  · exact h
  · exact h
theorem gk_takeBlock {R nd : Nat} {g : GS} {d : Nat} {row : Int32} {v : Int64} : (gf_1_takeBlock_d R nd g d row v).1 = g.1 := by
  unfold gf_1_takeBlock_d
  repeat' split
  all_goals rfl
theorem gu_writeBlock {R nd : Nat} {g : GS} {d0 row : Int32} {v : Int64} (h : g.1 1 = 0 ∨ g.1 1 = 1) : (gf_4_writeBlock R nd g d0 row v).1 1 = 0 ∨ (gf_4_writeBlock R nd g d0 row v).1 1 = 1 := by
  unfold gf_4_writeBlock
  repeat' split
  all_goals first | exact h | exact gu_spendWrite h | (rw [gk_takeBlock]; exact gu_spendWrite h)
theorem gu_carryLoop {R nd : Nat} : ∀ (j k : Nat) (told : Int32) (g1 : GS), (g1.1 1 = 0 ∨ g1.1 1 = 1) → ((gg_4_carryOutOrder_4 R nd j k told g1).1 1 = 0 ∨ (gg_4_carryOutOrder_4 R nd j k told g1).1 1 = 1) := by
  intro j
  induction j with
  | zero => intro k told g1 h; exact h
  | succ j ih =>
    intro k told g1 h
    rw [gg_4_carryOutOrder_4]
    repeat' split
    · exact gu_writeBlock (gu_writeBlock h)
    · exact gu_writeBlock (gu_writeBlock h)
    · exact ih _ _ _ h
    · exact ih _ _ _ (gu_spendWrite h)
    · exact ih _ _ _ (gu_spendWrite (R := R) (nd := nd) h)
theorem gu_carryOutOrder {R nd : Nat} {g : GS} (h : g.1 1 = 0 ∨ g.1 1 = 1) : (gf_4_carryOutOrder R nd g).1 1 = 0 ∨ (gf_4_carryOutOrder R nd g).1 1 = 1 := by
  unfold gf_4_carryOutOrder
  exact gu_carryLoop _ _ _ _ h
theorem gx_rbd {R nd : Nat} {g : GS} (hnd : nd ≤ 10) (h : ¬ gf_4_rebuildingDisk R nd g = -1) : vp_in (gf_4_rebuildingDisk R nd g) 10 := by
  unfold gf_4_rebuildingDisk at h ⊢
  split at h
  · exact absurd rfl h
  · rename_i c
    split at h
    · exact absurd rfl h
    · rename_i c2
      rw [if_neg c, if_neg c2]
      exact gx_nl hnd c
theorem nd_lt10 {nd : Nat} (h : nI nd < 10) (hn : nd ≤ 10) : nd < 10 := by
  rcases Nat.lt_or_ge nd 10 with q | q
  · exact q
  · rw [show nd = 10 by omega] at h
    exact absurd h (by decide)

def gf_4_write (R nd : Nat) (g : GS) (x : Int32) (v : Int64) : Int32 × GS :=
  ((gf_4_carryOutOrder R nd (gli (gli (gf_2_tell_r R nd (gsi g 4 ((g.1 4) + 1)) (g.1 8) ((g.1 4) + 1) (gf_4_rowIn R nd g (gf_4_widthOf R nd g x) x) (gf_4_diskIn R nd g (gf_4_widthOf R nd g x) x) (gf_4_parityDisk R nd (gsi g 4 ((g.1 4) + 1)) (gf_4_widthOf R nd g x) (gf_4_rowIn R nd g (gf_4_widthOf R nd g x) x))) 0 0 0 v) 0 0 1 (gf_4_parityWith R nd (gli (gf_2_tell_r R nd (gsi g 4 ((g.1 4) + 1)) (g.1 8) ((g.1 4) + 1) (gf_4_rowIn R nd g (gf_4_widthOf R nd g x) x) (gf_4_diskIn R nd g (gf_4_widthOf R nd g x) x) (gf_4_parityDisk R nd (gsi g 4 ((g.1 4) + 1)) (gf_4_widthOf R nd g x) (gf_4_rowIn R nd g (gf_4_widthOf R nd g x) x))) 0 0 0 v) (gf_4_widthOf R nd g x) (gf_4_rowIn R nd g (gf_4_widthOf R nd g x) x) (gf_4_diskIn R nd g (gf_4_widthOf R nd g x) x) v))).1 1, gf_4_carryOutOrder R nd (gli (gli (gf_2_tell_r R nd (gsi g 4 ((g.1 4) + 1)) (g.1 8) ((g.1 4) + 1) (gf_4_rowIn R nd g (gf_4_widthOf R nd g x) x) (gf_4_diskIn R nd g (gf_4_widthOf R nd g x) x) (gf_4_parityDisk R nd (gsi g 4 ((g.1 4) + 1)) (gf_4_widthOf R nd g x) (gf_4_rowIn R nd g (gf_4_widthOf R nd g x) x))) 0 0 0 v) 0 0 1 (gf_4_parityWith R nd (gli (gf_2_tell_r R nd (gsi g 4 ((g.1 4) + 1)) (g.1 8) ((g.1 4) + 1) (gf_4_rowIn R nd g (gf_4_widthOf R nd g x) x) (gf_4_diskIn R nd g (gf_4_widthOf R nd g x) x) (gf_4_parityDisk R nd (gsi g 4 ((g.1 4) + 1)) (gf_4_widthOf R nd g x) (gf_4_rowIn R nd g (gf_4_widthOf R nd g x) x))) 0 0 0 v) (gf_4_widthOf R nd g x) (gf_4_rowIn R nd g (gf_4_widthOf R nd g x) x) (gf_4_diskIn R nd g (gf_4_widthOf R nd g x) x) v)))
set_option maxRecDepth 20000 in
set_option maxHeartbeats 4000000 in
theorem gc_4_write (l : Launch) (D : hD) (H0 : Heap) (a R nd : Nat) (g : GS) (h0 : hH) (n : Nat) (x : Int32) (v : Int64) (hst : l.stackTraces = false) (hnd : nd ≤ 10) (hRR : R ≤ 48) (hup : g.1 1 = 0 ∨ g.1 1 = 1) : cMx l D H0 yX4_write cX4_write 7 (some .boolean) 7 103 2 12 [.ref a, .int x, .long v] (gput a R nd g h0) n (fun v9 h9 n9 => ¬ g.1 1 = 0 ∧ ¬ gf_4_isPlace R nd g x = 0 ∧ cE (some (.int (gf_4_write R nd g x v).1)) (gput a R nd (gf_4_write R nd g x v).2 h0) n v9 h9 n9) (fun E9 => (g.1 1 = 0 ∧ E9 = seN) ∨ (¬ g.1 1 = 0 ∧ gf_4_isPlace R nd g x = 0 ∧ E9 = beN)) := by
  refine h_metX (by decide) (Nat.le_of_ble_eq_true rfl) ?_
  intro p e s m below meth c H ls X Y hr hz hl
  have hl : lv_has ls 7 [(0, .ref a), (1, .int x), (2, .long v)] := hl
  have hlo : hL H0 ([] : List Loc) := hL.nil
  refine lv_aload_n X.x X.b dX4_write_0 rfl (lv_at hl 0 rfl) ?_
  refine h_callVx X Y.2.1 hr hz hlo (rest := []) (gc_4_refuseIfDown l D H0 a R nd g h0 n  hst hnd hRR) gput_o rfl yv_X4_refuseIfDown ml_X4_61 ⟨(Nat.le_of_ble_eq_true rfl), (Nat.le_of_ble_eq_true rfl)⟩ (Nat.le_of_ble_eq_true rfl) hl.1 ⟨(Nat.le_of_ble_eq_true rfl), (Nat.le_of_ble_eq_true rfl)⟩ rfl dX4_write_1 (fun v9 h9 n9 H locs hp hr hz hlo => ?_) (fun E9 q9 ce9 H locs hx hr hz hlo hce hcv hcl => h_out X Y.1 hr hz hlo hce hcv hcl (Or.inl hx) (Nat.le_of_ble_eq_true rfl) (Nat.le_of_ble_eq_true rfl))
  obtain ⟨hnt1, rfl, rfl, rfl⟩ := hp
  show W p l e _ s m _ below meth c H locs _ _ _ (F0 m 4 ls [])
  refine lv_aload_n X.x X.b dX4_write_4 rfl (lv_at hl 0 rfl) ?_
  refine lv_iload_n X.x X.b dX4_write_5 rfl (lv_at hl 1 rfl) ?_
  refine h_callVx X Y.2.1 hr hz hlo (rest := []) (gc_4_refuseIfNoPlace l D H0 a R nd g h0 n x hst hnd hRR) gput_o rfl yv_X4_refuseIfNoPlace ml_X4_64 ⟨(Nat.le_of_ble_eq_true rfl), (Nat.le_of_ble_eq_true rfl)⟩ (Nat.le_of_ble_eq_true rfl) hl.1 ⟨(Nat.le_of_ble_eq_true rfl), (Nat.le_of_ble_eq_true rfl)⟩ rfl dX4_write_6 (fun v9 h9 n9 H locs hp hr hz hlo => ?_) (fun E9 q9 ce9 H locs hx hr hz hlo hce hcv hcl => h_out X Y.1 hr hz hlo hce hcv hcl (Or.inr ⟨hnt1, hx.1, hx.2⟩) (Nat.le_of_ble_eq_true rfl) (Nat.le_of_ble_eq_true rfl))
  obtain ⟨hnt2, rfl, rfl, rfl⟩ := hp
  show W p l e _ s m _ below meth c H locs _ _ _ (F0 m 9 ls [])
  refine lv_aload_n X.x X.b dX4_write_9 rfl (lv_at hl 0 rfl) ?_
  refine lv_iload_n X.x X.b dX4_write_10 rfl (lv_at hl 1 rfl) ?_
  refine h_callV X hr hz hlo (rest := []) (gc_4_widthOf l D H0 a R nd g h0 n x hnd hRR  ) gput_o rfl yv_X4_widthOf ml_X4_67 ⟨(Nat.le_of_ble_eq_true rfl), (Nat.le_of_ble_eq_true rfl)⟩ (Nat.le_of_ble_eq_true rfl) hl.1 ⟨(Nat.le_of_ble_eq_true rfl), (Nat.le_of_ble_eq_true rfl)⟩ rfl dX4_write_11 (fun v9 h9 n9 H locs hp hr hz hlo => ?_)
  obtain ⟨rfl, rfl, rfl⟩ := hp
  show W p l e _ s m _ below meth c H locs _ _ _ (F0 m 14 ls [.int (gf_4_widthOf R nd g x)])
  refine lv_istore (lv' := [(4, .int (gf_4_widthOf R nd g x)), (0, .ref a), (1, .int x), (2, .long v)]) X.x X.b dX4_write_14 hl (by decide) rfl (fun ls hl => ?_)
  refine lv_iload X.x X.b dX4_write_16 (lv_at hl 0 rfl) ?_
  refine lv_iload_n X.x X.b dX4_write_18 rfl (lv_at hl 2 rfl) ?_
  refine h_callS X hr hz hlo (rest := []) (gc_4_rowIn l D H0 a R nd g h0 n (gf_4_widthOf R nd g x) x hnd hRR  ) ys_X4_rowIn ml_X4_71 ⟨(Nat.le_of_ble_eq_true rfl), (Nat.le_of_ble_eq_true rfl)⟩ (Nat.le_of_ble_eq_true rfl) hl.1 ⟨(Nat.le_of_ble_eq_true rfl), (Nat.le_of_ble_eq_true rfl)⟩ rfl dX4_write_19 (fun v9 h9 n9 H locs hp hr hz hlo => ?_)
  obtain ⟨rfl, rfl, rfl⟩ := hp
  show W p l e _ s m _ below meth c H locs _ _ _ (F0 m 22 ls [.int (gf_4_rowIn R nd g (gf_4_widthOf R nd g x) x)])
  refine lv_istore (lv' := [(5, .int (gf_4_rowIn R nd g (gf_4_widthOf R nd g x) x)), (4, .int (gf_4_widthOf R nd g x)), (0, .ref a), (1, .int x), (2, .long v)]) X.x X.b dX4_write_22 hl (by decide) rfl (fun ls hl => ?_)
  refine lv_iload X.x X.b dX4_write_24 (lv_at hl 1 rfl) ?_
  refine lv_iload_n X.x X.b dX4_write_26 rfl (lv_at hl 3 rfl) ?_
  refine h_callS X hr hz hlo (rest := []) (gc_4_diskIn l D H0 a R nd g h0 n (gf_4_widthOf R nd g x) x hnd hRR  ) ys_X4_diskIn ml_X4_75 ⟨(Nat.le_of_ble_eq_true rfl), (Nat.le_of_ble_eq_true rfl)⟩ (Nat.le_of_ble_eq_true rfl) hl.1 ⟨(Nat.le_of_ble_eq_true rfl), (Nat.le_of_ble_eq_true rfl)⟩ rfl dX4_write_27 (fun v9 h9 n9 H locs hp hr hz hlo => ?_)
  obtain ⟨rfl, rfl, rfl⟩ := hp
  show W p l e _ s m _ below meth c H locs _ _ _ (F0 m 30 ls [.int (gf_4_diskIn R nd g (gf_4_widthOf R nd g x) x)])
  refine lv_istore (lv' := [(6, .int (gf_4_diskIn R nd g (gf_4_widthOf R nd g x) x)), (5, .int (gf_4_rowIn R nd g (gf_4_widthOf R nd g x) x)), (4, .int (gf_4_widthOf R nd g x)), (0, .ref a), (1, .int x), (2, .long v)]) X.x X.b dX4_write_30 hl (by decide) rfl (fun ls hl => ?_)
  refine lv_aload_n X.x X.b dX4_write_32 rfl (lv_at hl 3 rfl) ?_
  refine lv_dup X.x X.b dX4_write_33 rfl ?_
  refine h_get X hr fd_X4_78 gput_o (v := .int (g.1 4)) rfl dX4_write_34 ?_
  refine lv_iconst (v := 1) X.x X.b dX4_write_37 (by decide) ?_
  refine lv_iadd X.x X.b dX4_write_38 ?_
  refine h_put X hr hz hlo fd_X4_78 tyX4 tyX4_ok nmX4 rfl gput_o (v := .int ((g.1 4) + 1)) rfl rfl (Nat.le_of_ble_eq_true rfl) dX4_write_39 (fun H locs hr hz hlo => ?_)
  rw [gput_s4] at hr
  refine lv_aload_n X.x X.b dX4_write_42 rfl (lv_at hl 3 rfl) ?_
  refine h_get X hr fd_X4_30 gput_o (v := .ref (a + 2)) rfl dX4_write_43 ?_
  refine lv_aload_n X.x X.b dX4_write_46 rfl (lv_at hl 3 rfl) ?_
  refine h_get X hr fd_X4_19 gput_o (v := .ref (a + 1)) rfl dX4_write_47 ?_
  refine h_get X hr fd_X4_81 gput_h (v := .int (g.1 8)) rfl dX4_write_50 ?_
  refine lv_aload_n X.x X.b dX4_write_53 rfl (lv_at hl 3 rfl) ?_
  refine h_get X hr fd_X4_78 gput_o (v := .int ((g.1 4) + 1)) rfl dX4_write_54 ?_
  refine lv_iload X.x X.b dX4_write_57 (lv_at hl 1 rfl) ?_
  refine lv_iload X.x X.b dX4_write_59 (lv_at hl 0 rfl) ?_
  refine lv_iload X.x X.b dX4_write_61 (lv_at hl 2 rfl) ?_
  refine lv_iload X.x X.b dX4_write_63 (lv_at hl 1 rfl) ?_
  refine h_callS X hr hz hlo (rest := [.int (gf_4_diskIn R nd g (gf_4_widthOf R nd g x) x), .int (gf_4_rowIn R nd g (gf_4_widthOf R nd g x) x), .int ((g.1 4) + 1), .int (g.1 8), .ref (a + 2)]) (gc_4_parityDisk l D H0 a R nd (gsi g 4 ((g.1 4) + 1)) h0 n (gf_4_widthOf R nd g x) (gf_4_rowIn R nd g (gf_4_widthOf R nd g x) x) hnd hRR  ) ys_X4_parityDisk ml_X4_84 ⟨(Nat.le_of_ble_eq_true rfl), (Nat.le_of_ble_eq_true rfl)⟩ (Nat.le_of_ble_eq_true rfl) hl.1 ⟨(Nat.le_of_ble_eq_true rfl), (Nat.le_of_ble_eq_true rfl)⟩ rfl dX4_write_65 (fun v9 h9 n9 H locs hp hr hz hlo => ?_)
  obtain ⟨rfl, rfl, rfl⟩ := hp
  show W p l e _ s m _ below meth c H locs _ _ _ (F0 m 68 ls [.int (gf_4_parityDisk R nd (gsi g 4 ((g.1 4) + 1)) (gf_4_widthOf R nd g x) (gf_4_rowIn R nd g (gf_4_widthOf R nd g x) x)), .int (gf_4_diskIn R nd g (gf_4_widthOf R nd g x) x), .int (gf_4_rowIn R nd g (gf_4_widthOf R nd g x) x), .int ((g.1 4) + 1), .int (g.1 8), .ref (a + 2)])
  refine h_callV X hr hz hlo (rest := []) (gc_2_tell_r l D H0 a R nd (gsi g 4 ((g.1 4) + 1)) h0 n (g.1 8) ((g.1 4) + 1) (gf_4_rowIn R nd g (gf_4_widthOf R nd g x) x) (gf_4_diskIn R nd g (gf_4_widthOf R nd g x) x) (gf_4_parityDisk R nd (gsi g 4 ((g.1 4) + 1)) (gf_4_widthOf R nd g x) (gf_4_rowIn R nd g (gf_4_widthOf R nd g x) x)) hnd hRR  ) gput_r rfl yv_X2_tell ml_X4_87 ⟨(Nat.le_of_ble_eq_true rfl), (Nat.le_of_ble_eq_true rfl)⟩ (Nat.le_of_ble_eq_true rfl) hl.1 ⟨(Nat.le_of_ble_eq_true rfl), (Nat.le_of_ble_eq_true rfl)⟩ rfl dX4_write_68 (fun v9 h9 n9 H locs hp hr hz hlo => ?_)
  obtain ⟨rfl, rfl, rfl⟩ := hp
  show W p l e _ s m _ below meth c H locs _ _ _ (F0 m 71 ls [])
  refine lv_aload_n X.x X.b dX4_write_71 rfl (lv_at hl 3 rfl) ?_
  refine h_get X hr fd_X4_30 gput_o (v := .ref (a + 2)) rfl dX4_write_72 ?_
  refine lv_lload_n X.x X.b dX4_write_75 rfl (lv_at hl 5 rfl) ?_
  refine h_put X hr hz hlo fd_X4_90 tyX2 tyX2_ok nmX2 rfl gput_r (v := .long v) rfl rfl (Nat.le_of_ble_eq_true rfl) dX4_write_76 (fun H locs hr hz hlo => ?_)
  rw [gput_rl0] at hr
  refine lv_aload_n X.x X.b dX4_write_79 rfl (lv_at hl 3 rfl) ?_
  refine h_get X hr fd_X4_30 gput_o (v := .ref (a + 2)) rfl dX4_write_80 ?_
  refine lv_aload_n X.x X.b dX4_write_83 rfl (lv_at hl 3 rfl) ?_
  refine lv_iload X.x X.b dX4_write_84 (lv_at hl 2 rfl) ?_
  refine lv_iload X.x X.b dX4_write_86 (lv_at hl 1 rfl) ?_
  refine lv_iload X.x X.b dX4_write_88 (lv_at hl 0 rfl) ?_
  refine lv_lload_n X.x X.b dX4_write_90 rfl (lv_at hl 5 rfl) ?_
  refine h_callV X hr hz hlo (rest := [.ref (a + 2)]) (gc_4_parityWith l D H0 a R nd (gli (gf_2_tell_r R nd (gsi g 4 ((g.1 4) + 1)) (g.1 8) ((g.1 4) + 1) (gf_4_rowIn R nd g (gf_4_widthOf R nd g x) x) (gf_4_diskIn R nd g (gf_4_widthOf R nd g x) x) (gf_4_parityDisk R nd (gsi g 4 ((g.1 4) + 1)) (gf_4_widthOf R nd g x) (gf_4_rowIn R nd g (gf_4_widthOf R nd g x) x))) 0 0 0 v) h0 n (gf_4_widthOf R nd g x) (gf_4_rowIn R nd g (gf_4_widthOf R nd g x) x) (gf_4_diskIn R nd g (gf_4_widthOf R nd g x) x) v hnd hRR  ) gput_o rfl yv_X4_parityWith ml_X4_94 ⟨(Nat.le_of_ble_eq_true rfl), (Nat.le_of_ble_eq_true rfl)⟩ (Nat.le_of_ble_eq_true rfl) hl.1 ⟨(Nat.le_of_ble_eq_true rfl), (Nat.le_of_ble_eq_true rfl)⟩ rfl dX4_write_91 (fun v9 h9 n9 H locs hp hr hz hlo => ?_)
  obtain ⟨rfl, rfl, rfl⟩ := hp
  show W p l e _ s m _ below meth c H locs _ _ _ (F0 m 94 ls [.long (gf_4_parityWith R nd (gli (gf_2_tell_r R nd (gsi g 4 ((g.1 4) + 1)) (g.1 8) ((g.1 4) + 1) (gf_4_rowIn R nd g (gf_4_widthOf R nd g x) x) (gf_4_diskIn R nd g (gf_4_widthOf R nd g x) x) (gf_4_parityDisk R nd (gsi g 4 ((g.1 4) + 1)) (gf_4_widthOf R nd g x) (gf_4_rowIn R nd g (gf_4_widthOf R nd g x) x))) 0 0 0 v) (gf_4_widthOf R nd g x) (gf_4_rowIn R nd g (gf_4_widthOf R nd g x) x) (gf_4_diskIn R nd g (gf_4_widthOf R nd g x) x) v), .ref (a + 2)])
  refine h_put X hr hz hlo fd_X4_98 tyX2 tyX2_ok nmX2 rfl gput_r (v := .long (gf_4_parityWith R nd (gli (gf_2_tell_r R nd (gsi g 4 ((g.1 4) + 1)) (g.1 8) ((g.1 4) + 1) (gf_4_rowIn R nd g (gf_4_widthOf R nd g x) x) (gf_4_diskIn R nd g (gf_4_widthOf R nd g x) x) (gf_4_parityDisk R nd (gsi g 4 ((g.1 4) + 1)) (gf_4_widthOf R nd g x) (gf_4_rowIn R nd g (gf_4_widthOf R nd g x) x))) 0 0 0 v) (gf_4_widthOf R nd g x) (gf_4_rowIn R nd g (gf_4_widthOf R nd g x) x) (gf_4_diskIn R nd g (gf_4_widthOf R nd g x) x) v)) rfl rfl (Nat.le_of_ble_eq_true rfl) dX4_write_94 (fun H locs hr hz hlo => ?_)
  rw [gput_rl1] at hr
  refine lv_aload_n X.x X.b dX4_write_97 rfl (lv_at hl 3 rfl) ?_
  refine h_callV X hr hz hlo (rest := []) (gc_4_carryOutOrder l D H0 a R nd (gli (gli (gf_2_tell_r R nd (gsi g 4 ((g.1 4) + 1)) (g.1 8) ((g.1 4) + 1) (gf_4_rowIn R nd g (gf_4_widthOf R nd g x) x) (gf_4_diskIn R nd g (gf_4_widthOf R nd g x) x) (gf_4_parityDisk R nd (gsi g 4 ((g.1 4) + 1)) (gf_4_widthOf R nd g x) (gf_4_rowIn R nd g (gf_4_widthOf R nd g x) x))) 0 0 0 v) 0 0 1 (gf_4_parityWith R nd (gli (gf_2_tell_r R nd (gsi g 4 ((g.1 4) + 1)) (g.1 8) ((g.1 4) + 1) (gf_4_rowIn R nd g (gf_4_widthOf R nd g x) x) (gf_4_diskIn R nd g (gf_4_widthOf R nd g x) x) (gf_4_parityDisk R nd (gsi g 4 ((g.1 4) + 1)) (gf_4_widthOf R nd g x) (gf_4_rowIn R nd g (gf_4_widthOf R nd g x) x))) 0 0 0 v) (gf_4_widthOf R nd g x) (gf_4_rowIn R nd g (gf_4_widthOf R nd g x) x) (gf_4_diskIn R nd g (gf_4_widthOf R nd g x) x) v)) h0 n  hnd hRR  ) gput_o rfl yv_X4_carryOutOrder ml_X4_101 ⟨(Nat.le_of_ble_eq_true rfl), (Nat.le_of_ble_eq_true rfl)⟩ (Nat.le_of_ble_eq_true rfl) hl.1 ⟨(Nat.le_of_ble_eq_true rfl), (Nat.le_of_ble_eq_true rfl)⟩ rfl dX4_write_98 (fun v9 h9 n9 H locs hp hr hz hlo => ?_)
  obtain ⟨rfl, rfl, rfl⟩ := hp
  show W p l e _ s m _ below meth c H locs _ _ _ (F0 m 101 ls [])
  refine lv_aload_n X.x X.b dX4_write_101 rfl (lv_at hl 3 rfl) ?_
  refine h_get X hr fd_X4_54 gput_o (v := .int ((gf_4_carryOutOrder R nd (gli (gli (gf_2_tell_r R nd (gsi g 4 ((g.1 4) + 1)) (g.1 8) ((g.1 4) + 1) (gf_4_rowIn R nd g (gf_4_widthOf R nd g x) x) (gf_4_diskIn R nd g (gf_4_widthOf R nd g x) x) (gf_4_parityDisk R nd (gsi g 4 ((g.1 4) + 1)) (gf_4_widthOf R nd g x) (gf_4_rowIn R nd g (gf_4_widthOf R nd g x) x))) 0 0 0 v) 0 0 1 (gf_4_parityWith R nd (gli (gf_2_tell_r R nd (gsi g 4 ((g.1 4) + 1)) (g.1 8) ((g.1 4) + 1) (gf_4_rowIn R nd g (gf_4_widthOf R nd g x) x) (gf_4_diskIn R nd g (gf_4_widthOf R nd g x) x) (gf_4_parityDisk R nd (gsi g 4 ((g.1 4) + 1)) (gf_4_widthOf R nd g x) (gf_4_rowIn R nd g (gf_4_widthOf R nd g x) x))) 0 0 0 v) (gf_4_widthOf R nd g x) (gf_4_rowIn R nd g (gf_4_widthOf R nd g x) x) (gf_4_diskIn R nd g (gf_4_widthOf R nd g x) x) v))).1 1)) rfl dX4_write_102 ?_
  exact vx_ret (h_zret X hr hz hlo (nb (gu_carryOutOrder hup)) ⟨hnt1, hnt2, (glfi (id (by unfold gf_4_write; rfl)))⟩ (Nat.le_of_ble_eq_true rfl) (Nat.le_of_ble_eq_true rfl) dX4_write_105)

def gf_4_read (R nd : Nat) (g : GS) (x : Int32) : Int64 :=
  gf_4_valueOf R nd g x
set_option maxRecDepth 20000 in
set_option maxHeartbeats 4000000 in
theorem gc_4_read (l : Launch) (D : hD) (H0 : Heap) (a R nd : Nat) (g : GS) (h0 : hH) (n : Nat) (x : Int32) (hst : l.stackTraces = false) (hnd : nd ≤ 10) (hRR : R ≤ 48)  : cMx l D H0 yX4_read cX4_read 2 (some .long) 7 103 2 12 [.ref a, .int x] (gput a R nd g h0) n (fun v9 h9 n9 => ¬ g.1 1 = 0 ∧ ¬ gf_4_isPlace R nd g x = 0 ∧ cE (some (.long (gf_4_read R nd g x))) (gput a R nd g h0) n v9 h9 n9) (fun E9 => (g.1 1 = 0 ∧ E9 = seN) ∨ (¬ g.1 1 = 0 ∧ gf_4_isPlace R nd g x = 0 ∧ E9 = beN)) := by
  refine h_metX (by decide) (Nat.le_of_ble_eq_true rfl) ?_
  intro p e s m below meth c H ls X Y hr hz hl
  have hl : lv_has ls 2 [(0, .ref a), (1, .int x)] := hl
  have hlo : hL H0 ([] : List Loc) := hL.nil
  refine lv_aload_n X.x X.b dX4_read_0 rfl (lv_at hl 0 rfl) ?_
  refine h_callVx X Y.2.1 hr hz hlo (rest := []) (gc_4_refuseIfDown l D H0 a R nd g h0 n  hst hnd hRR) gput_o rfl yv_X4_refuseIfDown ml_X4_61 ⟨(Nat.le_of_ble_eq_true rfl), (Nat.le_of_ble_eq_true rfl)⟩ (Nat.le_of_ble_eq_true rfl) hl.1 ⟨(Nat.le_of_ble_eq_true rfl), (Nat.le_of_ble_eq_true rfl)⟩ rfl dX4_read_1 (fun v9 h9 n9 H locs hp hr hz hlo => ?_) (fun E9 q9 ce9 H locs hx hr hz hlo hce hcv hcl => h_out X Y.1 hr hz hlo hce hcv hcl (Or.inl hx) (Nat.le_of_ble_eq_true rfl) (Nat.le_of_ble_eq_true rfl))
  obtain ⟨hnt1, rfl, rfl, rfl⟩ := hp
  show W p l e _ s m _ below meth c H locs _ _ _ (F0 m 4 ls [])
  refine lv_aload_n X.x X.b dX4_read_4 rfl (lv_at hl 0 rfl) ?_
  refine lv_iload_n X.x X.b dX4_read_5 rfl (lv_at hl 1 rfl) ?_
  refine h_callVx X Y.2.1 hr hz hlo (rest := []) (gc_4_refuseIfNoPlace l D H0 a R nd g h0 n x hst hnd hRR) gput_o rfl yv_X4_refuseIfNoPlace ml_X4_64 ⟨(Nat.le_of_ble_eq_true rfl), (Nat.le_of_ble_eq_true rfl)⟩ (Nat.le_of_ble_eq_true rfl) hl.1 ⟨(Nat.le_of_ble_eq_true rfl), (Nat.le_of_ble_eq_true rfl)⟩ rfl dX4_read_6 (fun v9 h9 n9 H locs hp hr hz hlo => ?_) (fun E9 q9 ce9 H locs hx hr hz hlo hce hcv hcl => h_out X Y.1 hr hz hlo hce hcv hcl (Or.inr ⟨hnt1, hx.1, hx.2⟩) (Nat.le_of_ble_eq_true rfl) (Nat.le_of_ble_eq_true rfl))
  obtain ⟨hnt2, rfl, rfl, rfl⟩ := hp
  show W p l e _ s m _ below meth c H locs _ _ _ (F0 m 9 ls [])
  refine lv_aload_n X.x X.b dX4_read_9 rfl (lv_at hl 0 rfl) ?_
  refine lv_iload_n X.x X.b dX4_read_10 rfl (lv_at hl 1 rfl) ?_
  refine h_callV X hr hz hlo (rest := []) (gc_4_valueOf l D H0 a R nd g h0 n x hnd hRR  ) gput_o rfl yv_X4_valueOf ml_X4_104 ⟨(Nat.le_of_ble_eq_true rfl), (Nat.le_of_ble_eq_true rfl)⟩ (Nat.le_of_ble_eq_true rfl) hl.1 ⟨(Nat.le_of_ble_eq_true rfl), (Nat.le_of_ble_eq_true rfl)⟩ rfl dX4_read_11 (fun v9 h9 n9 H locs hp hr hz hlo => ?_)
  obtain ⟨rfl, rfl, rfl⟩ := hp
  show W p l e _ s m _ below meth c H locs _ _ _ (F0 m 14 ls [.long (gf_4_valueOf R nd g x)])
  exact vx_ret (h_lret X hr hz hlo ⟨hnt1, hnt2, (glflp (id (by unfold gf_4_read; rfl)))⟩ (Nat.le_of_ble_eq_true rfl) (Nat.le_of_ble_eq_true rfl) dX4_read_14)

def gf_4_add (R nd : Nat) (g : GS)  : Int32 × Nat × GS :=
  if (nI nd) < 10 then
    if ((gf_4_spendWrite R nd g).1) = 0 then
      (0, nd, (gf_4_spendWrite R nd g).2)
    else
      (nI (nd + 1), nd + 1, gf_1_takeSuper__d_h R nd ((gf_4_spendWrite R nd g).2) nd)
  else
    ((-1), nd, g)
set_option maxRecDepth 20000 in
set_option maxHeartbeats 4000000 in
theorem gc_4_add (l : Launch) (D : hD) (H0 : Heap) (a R nd : Nat) (g : GS) (h0 : hH) (n : Nat)  (hst : l.stackTraces = false) (hnd : nd ≤ 10) (hRR : R ≤ 48)  : cMx l D H0 yX4_add cX4_add 1 (some .int) 7 102 1 6 [.ref a] (gput a R nd g h0) n (fun v9 h9 n9 => ¬ g.1 1 = 0 ∧ cE (some (.int (gf_4_add R nd g).1)) (gput a R (gf_4_add R nd g).2.1 (gf_4_add R nd g).2.2 h0) n v9 h9 n9) (fun E9 => (g.1 1 = 0 ∧ E9 = seN)) := by
  refine h_metX (by decide) (Nat.le_of_ble_eq_true rfl) ?_
  intro p e s m below meth c H ls X Y hr hz hl
  have hl : lv_has ls 1 [(0, .ref a)] := hl
  have hlo : hL H0 ([] : List Loc) := hL.nil
  refine lv_aload_n X.x X.b dX4_add_0 rfl (lv_at hl 0 rfl) ?_
  refine h_callVx X Y.2.1 hr hz hlo (rest := []) (gc_4_refuseIfDown l D H0 a R nd g h0 n  hst hnd hRR) gput_o rfl yv_X4_refuseIfDown ml_X4_61 ⟨(Nat.le_of_ble_eq_true rfl), (Nat.le_of_ble_eq_true rfl)⟩ (Nat.le_of_ble_eq_true rfl) hl.1 ⟨(Nat.le_of_ble_eq_true rfl), (Nat.le_of_ble_eq_true rfl)⟩ rfl dX4_add_1 (fun v9 h9 n9 H locs hp hr hz hlo => ?_) (fun E9 q9 ce9 H locs hx hr hz hlo hce hcv hcl => h_out X Y.1 hr hz hlo hce hcv hcl hx (Nat.le_of_ble_eq_true rfl) (Nat.le_of_ble_eq_true rfl))
  obtain ⟨hnt1, rfl, rfl, rfl⟩ := hp
  show W p l e _ s m _ below meth c H locs _ _ _ (F0 m 4 ls [])
  refine lv_aload_n X.x X.b dX4_add_4 rfl (lv_at hl 0 rfl) ?_
  refine h_get X hr fd_X4_7 gput_o (v := .int (nI nd)) rfl dX4_add_5 ?_
  refine lv_bipush (v := 10) X.x X.b dX4_add_8 (by decide) ?_
  refine lv_icmp_lt (tgt := 15) X.x X.b dX4_add_10 (by decide) (fun c10 => ?_) (fun c10 => ?_)
  · have hn9 : nd < 10 := nd_lt10 c10 hnd
    refine lv_aload_n X.x X.b dX4_add_15 rfl (lv_at hl 0 rfl) ?_
    refine h_callV X hr hz hlo (rest := []) (gc_4_spendWrite l D H0 a R nd g h0 n  hnd hRR  ) gput_o rfl yv_X4_spendWrite ml_X4_108 ⟨(Nat.le_of_ble_eq_true rfl), (Nat.le_of_ble_eq_true rfl)⟩ (Nat.le_of_ble_eq_true rfl) hl.1 ⟨(Nat.le_of_ble_eq_true rfl), (Nat.le_of_ble_eq_true rfl)⟩ rfl dX4_add_16 (fun v9 h9 n9 H locs hp hr hz hlo => ?_)
    obtain ⟨rfl, rfl, rfl⟩ := hp
    show W p l e _ s m _ below meth c H locs _ _ _ (F0 m 19 ls [.int ((gf_4_spendWrite R nd g).1)])
    refine lv_if_ne (tgt := 24) X.x X.b dX4_add_19 (by decide) (fun c19 => ?_) (fun c19 => ?_)
    · refine lv_aload_n X.x X.b dX4_add_24 rfl (lv_at hl 0 rfl) ?_
      refine h_get X hr fd_X4_40 gput_o (v := .ref (a + 4)) rfl dX4_add_25 ?_
      refine lv_aload_n X.x X.b dX4_add_28 rfl (lv_at hl 0 rfl) ?_
      refine h_get X hr fd_X4_7 gput_o (v := .int (nI nd)) rfl dX4_add_29 ?_
      refine h_aald X hr gput_k (vp_in_nI (by omega) (by omega)) (v := .ref (aD a nd)) (by rw [nI_clamp (n := nd) (by omega)]) dX4_add_32 ?_
      refine lv_aload_n X.x X.b dX4_add_33 rfl (lv_at hl 0 rfl) ?_
      refine h_get X hr fd_X4_19 gput_o (v := .ref (a + 1)) rfl dX4_add_34 ?_
      refine h_callV X hr hz hlo (rest := []) (gc_1_takeSuper__d_h l D H0 a R nd ((gf_4_spendWrite R nd g).2) h0 n nd hnd hRR hn9 ) (gput_aD hn9) rfl yv_X1_takeSuper_ ml_X4_112 ⟨(Nat.le_of_ble_eq_true rfl), (Nat.le_of_ble_eq_true rfl)⟩ (Nat.le_of_ble_eq_true rfl) hl.1 ⟨(Nat.le_of_ble_eq_true rfl), (Nat.le_of_ble_eq_true rfl)⟩ rfl dX4_add_37 (fun v9 h9 n9 H locs hp hr hz hlo => ?_)
      obtain ⟨rfl, rfl, rfl⟩ := hp
      show W p l e _ s m _ below meth c H locs _ _ _ (F0 m 40 ls [])
      refine lv_aload_n X.x X.b dX4_add_40 rfl (lv_at hl 0 rfl) ?_
      refine lv_dup X.x X.b dX4_add_41 rfl ?_
      refine h_get X hr fd_X4_7 gput_o (v := .int (nI nd)) rfl dX4_add_42 ?_
      refine lv_iconst (v := 1) X.x X.b dX4_add_45 (by decide) ?_
      refine lv_iadd X.x X.b dX4_add_46 ?_
      refine h_put X hr hz hlo fd_X4_7 tyX4 tyX4_ok nmX4 rfl gput_o (v := .int ((nI nd) + 1)) rfl rfl (Nat.le_of_ble_eq_true rfl) dX4_add_47 (fun H locs hr hz hlo => ?_)
      rw [gput_nd] at hr
      refine lv_aload_n X.x X.b dX4_add_50 rfl (lv_at hl 0 rfl) ?_
      refine h_get X hr fd_X4_7 gput_o (v := .int (nI (nd + 1))) rfl dX4_add_51 ?_
      exact vx_ret (h_iret X hr hz hlo ⟨hnt1, (glfn (id (by unfold gf_4_add; rw [if_pos c10, if_neg c19])))⟩ (Nat.le_of_ble_eq_true rfl) (Nat.le_of_ble_eq_true rfl) dX4_add_54)
    · refine lv_iconst (v := 0) X.x X.b dX4_add_22 (by decide) ?_
      exact vx_ret (h_iret X hr hz hlo ⟨hnt1, (glfn (id (by unfold gf_4_add; rw [if_pos c10, if_pos c19])))⟩ (Nat.le_of_ble_eq_true rfl) (Nat.le_of_ble_eq_true rfl) dX4_add_23)
  · refine lv_iconst (v := -1) X.x X.b dX4_add_13 (by decide) ?_
    exact vx_ret (h_iret X hr hz hlo ⟨hnt1, (glfn (id (by unfold gf_4_add; rw [if_neg c10])))⟩ (Nat.le_of_ble_eq_true rfl) (Nat.le_of_ble_eq_true rfl) dX4_add_14)

def gf_4_grow (R nd : Nat) (g : GS)  : Int32 × GS :=
  if (nI nd) ≤ (g.1 10) then
    ((-1), g)
  else
    if (gf_4_isReshaped R nd g) = 0 then
      if (gf_4_rebuildingDisk R nd g) = (-1) then
        if ((gf_4_setSuper R nd g (g.1 9) (nI nd) 0 (-1)).1 1) = 0 then
          (0, gf_4_setSuper R nd g (g.1 9) (nI nd) 0 (-1))
        else
          ((gf_4_setSuper R nd g (g.1 9) (nI nd) 0 (-1)).1 10, gf_4_setSuper R nd g (g.1 9) (nI nd) 0 (-1))
      else
        ((-1), g)
    else
      ((-1), g)
set_option maxRecDepth 20000 in
set_option maxHeartbeats 4000000 in
theorem gc_4_grow (l : Launch) (D : hD) (H0 : Heap) (a R nd : Nat) (g : GS) (h0 : hH) (n : Nat)  (hst : l.stackTraces = false) (hnd : nd ≤ 10) (hRR : R ≤ 48)  : cMx l D H0 yX4_grow cX4_grow 1 (some .int) 7 102 1 6 [.ref a] (gput a R nd g h0) n (fun v9 h9 n9 => ¬ g.1 1 = 0 ∧ cE (some (.int (gf_4_grow R nd g).1)) (gput a R nd (gf_4_grow R nd g).2 h0) n v9 h9 n9) (fun E9 => (g.1 1 = 0 ∧ E9 = seN)) := by
  refine h_metX (by decide) (Nat.le_of_ble_eq_true rfl) ?_
  intro p e s m below meth c H ls X Y hr hz hl
  have hl : lv_has ls 1 [(0, .ref a)] := hl
  have hlo : hL H0 ([] : List Loc) := hL.nil
  refine lv_aload_n X.x X.b dX4_grow_0 rfl (lv_at hl 0 rfl) ?_
  refine h_callVx X Y.2.1 hr hz hlo (rest := []) (gc_4_refuseIfDown l D H0 a R nd g h0 n  hst hnd hRR) gput_o rfl yv_X4_refuseIfDown ml_X4_61 ⟨(Nat.le_of_ble_eq_true rfl), (Nat.le_of_ble_eq_true rfl)⟩ (Nat.le_of_ble_eq_true rfl) hl.1 ⟨(Nat.le_of_ble_eq_true rfl), (Nat.le_of_ble_eq_true rfl)⟩ rfl dX4_grow_1 (fun v9 h9 n9 H locs hp hr hz hlo => ?_) (fun E9 q9 ce9 H locs hx hr hz hlo hce hcv hcl => h_out X Y.1 hr hz hlo hce hcv hcl hx (Nat.le_of_ble_eq_true rfl) (Nat.le_of_ble_eq_true rfl))
  obtain ⟨hnt1, rfl, rfl, rfl⟩ := hp
  show W p l e _ s m _ below meth c H locs _ _ _ (F0 m 4 ls [])
  refine lv_aload_n X.x X.b dX4_grow_4 rfl (lv_at hl 0 rfl) ?_
  refine h_get X hr fd_X4_19 gput_o (v := .ref (a + 1)) rfl dX4_grow_5 ?_
  refine h_get X hr fd_X4_115 gput_h (v := .int (g.1 10)) rfl dX4_grow_8 ?_
  refine lv_aload_n X.x X.b dX4_grow_11 rfl (lv_at hl 0 rfl) ?_
  refine h_get X hr fd_X4_7 gput_o (v := .int (nI nd)) rfl dX4_grow_12 ?_
  refine lv_icmp_ge (tgt := 33) X.x X.b dX4_grow_15 (by decide) (fun c15 => ?_) (fun c15 => ?_)
  · refine lv_iconst (v := -1) X.x X.b dX4_grow_33 (by decide) ?_
    exact vx_ret (h_iret X hr hz hlo ⟨hnt1, (glfi (id (by unfold gf_4_grow; rw [if_pos c15])))⟩ (Nat.le_of_ble_eq_true rfl) (Nat.le_of_ble_eq_true rfl) dX4_grow_34)
  · refine lv_aload_n X.x X.b dX4_grow_18 rfl (lv_at hl 0 rfl) ?_
    refine h_callV X hr hz hlo (rest := []) (gc_4_isReshaped l D H0 a R nd g h0 n  hnd hRR  ) gput_o rfl yv_X4_isReshaped ml_X4_118 ⟨(Nat.le_of_ble_eq_true rfl), (Nat.le_of_ble_eq_true rfl)⟩ (Nat.le_of_ble_eq_true rfl) hl.1 ⟨(Nat.le_of_ble_eq_true rfl), (Nat.le_of_ble_eq_true rfl)⟩ rfl dX4_grow_19 (fun v9 h9 n9 H locs hp hr hz hlo => ?_)
    obtain ⟨rfl, rfl, rfl⟩ := hp
    show W p l e _ s m _ below meth c H locs _ _ _ (F0 m 22 ls [.int (gf_4_isReshaped R nd g)])
    refine lv_if_ne (tgt := 33) X.x X.b dX4_grow_22 (by decide) (fun c22 => ?_) (fun c22 => ?_)
    · refine lv_iconst (v := -1) X.x X.b dX4_grow_33 (by decide) ?_
      exact vx_ret (h_iret X hr hz hlo ⟨hnt1, (glfi (id (by unfold gf_4_grow; rw [if_neg c15, if_neg c22])))⟩ (Nat.le_of_ble_eq_true rfl) (Nat.le_of_ble_eq_true rfl) dX4_grow_34)
    · refine lv_aload_n X.x X.b dX4_grow_25 rfl (lv_at hl 0 rfl) ?_
      refine h_callV X hr hz hlo (rest := []) (gc_4_rebuildingDisk l D H0 a R nd g h0 n  hnd hRR  ) gput_o rfl yv_X4_rebuildingDisk ml_X4_121 ⟨(Nat.le_of_ble_eq_true rfl), (Nat.le_of_ble_eq_true rfl)⟩ (Nat.le_of_ble_eq_true rfl) hl.1 ⟨(Nat.le_of_ble_eq_true rfl), (Nat.le_of_ble_eq_true rfl)⟩ rfl dX4_grow_26 (fun v9 h9 n9 H locs hp hr hz hlo => ?_)
      obtain ⟨rfl, rfl, rfl⟩ := hp
      show W p l e _ s m _ below meth c H locs _ _ _ (F0 m 29 ls [.int (gf_4_rebuildingDisk R nd g)])
      refine lv_iconst (v := -1) X.x X.b dX4_grow_29 (by decide) ?_
      refine lv_icmp_eq (tgt := 35) X.x X.b dX4_grow_30 (by decide) (fun c30 => ?_) (fun c30 => ?_)
      · refine lv_aload_n X.x X.b dX4_grow_35 rfl (lv_at hl 0 rfl) ?_
        refine lv_aload_n X.x X.b dX4_grow_36 rfl (lv_at hl 0 rfl) ?_
        refine h_get X hr fd_X4_19 gput_o (v := .ref (a + 1)) rfl dX4_grow_37 ?_
        refine h_get X hr fd_X4_125 gput_h (v := .int (g.1 9)) rfl dX4_grow_40 ?_
        refine lv_aload_n X.x X.b dX4_grow_43 rfl (lv_at hl 0 rfl) ?_
        refine h_get X hr fd_X4_7 gput_o (v := .int (nI nd)) rfl dX4_grow_44 ?_
        refine lv_iconst (v := 0) X.x X.b dX4_grow_47 (by decide) ?_
        refine lv_iconst (v := -1) X.x X.b dX4_grow_48 (by decide) ?_
        refine h_callV X hr hz hlo (rest := []) (gc_4_setSuper l D H0 a R nd g h0 n (g.1 9) (nI nd) 0 (-1) hnd hRR  ) gput_o rfl yv_X4_setSuper ml_X4_128 ⟨(Nat.le_of_ble_eq_true rfl), (Nat.le_of_ble_eq_true rfl)⟩ (Nat.le_of_ble_eq_true rfl) hl.1 ⟨(Nat.le_of_ble_eq_true rfl), (Nat.le_of_ble_eq_true rfl)⟩ rfl dX4_grow_49 (fun v9 h9 n9 H locs hp hr hz hlo => ?_)
        obtain ⟨rfl, rfl, rfl⟩ := hp
        show W p l e _ s m _ below meth c H locs _ _ _ (F0 m 52 ls [])
        refine lv_aload_n X.x X.b dX4_grow_52 rfl (lv_at hl 0 rfl) ?_
        refine h_get X hr fd_X4_54 gput_o (v := .int ((gf_4_setSuper R nd g (g.1 9) (nI nd) 0 (-1)).1 1)) rfl dX4_grow_53 ?_
        refine lv_if_eq (tgt := 69) X.x X.b dX4_grow_56 (by decide) (fun c56 => ?_) (fun c56 => ?_)
        · refine lv_iconst (v := 0) X.x X.b dX4_grow_69 (by decide) ?_
          exact vx_ret (h_iret X hr hz hlo ⟨hnt1, (glfi (id (by unfold gf_4_grow; rw [if_neg c15, if_pos c22, if_pos c30, if_pos c56])))⟩ (Nat.le_of_ble_eq_true rfl) (Nat.le_of_ble_eq_true rfl) dX4_grow_70)
        · refine lv_aload_n X.x X.b dX4_grow_59 rfl (lv_at hl 0 rfl) ?_
          refine h_get X hr fd_X4_19 gput_o (v := .ref (a + 1)) rfl dX4_grow_60 ?_
          refine h_get X hr fd_X4_115 gput_h (v := .int ((gf_4_setSuper R nd g (g.1 9) (nI nd) 0 (-1)).1 10)) rfl dX4_grow_63 ?_
          refine lv_goto (tgt := 70) X.x X.b dX4_grow_66 (by decide) ?_
          exact vx_ret (h_iret X hr hz hlo ⟨hnt1, (glfi (id (by unfold gf_4_grow; rw [if_neg c15, if_pos c22, if_pos c30, if_neg c56])))⟩ (Nat.le_of_ble_eq_true rfl) (Nat.le_of_ble_eq_true rfl) dX4_grow_70)
      · refine lv_iconst (v := -1) X.x X.b dX4_grow_33 (by decide) ?_
        exact vx_ret (h_iret X hr hz hlo ⟨hnt1, (glfi (id (by unfold gf_4_grow; rw [if_neg c15, if_pos c22, if_neg c30])))⟩ (Nat.le_of_ble_eq_true rfl) (Nat.le_of_ble_eq_true rfl) dX4_grow_34)

def gf_4_step (R nd : Nat) (g : GS)  : Int32 × GS :=
  if (gf_4_isReshaped R nd g) = 0 then
    ((-1), g)
  else
    if (gf_4_rebuildingDisk R nd g) = (-1) then
      if (gf_4_isCritical R nd (gf_4_gatherRowValues R nd g)) = 0 then
        if ((gf_4_moveRow R nd (gf_4_gatherRowValues R nd g)).1 1) = 0 then
          (0, gf_4_moveRow R nd (gf_4_gatherRowValues R nd g))
        else
          if (gf_4_isReshaped R nd (gf_4_moveRow R nd (gf_4_gatherRowValues R nd g))) = 0 then
            (2, gf_4_moveRow R nd (gf_4_gatherRowValues R nd g))
          else
            (1, gf_4_moveRow R nd (gf_4_gatherRowValues R nd g))
      else
        if ((gf_4_moveRow R nd (gf_4_writeBackups R nd (gf_4_gatherRowValues R nd g))).1 1) = 0 then
          (0, gf_4_moveRow R nd (gf_4_writeBackups R nd (gf_4_gatherRowValues R nd g)))
        else
          if (gf_4_isReshaped R nd (gf_4_moveRow R nd (gf_4_writeBackups R nd (gf_4_gatherRowValues R nd g)))) = 0 then
            (2, gf_4_moveRow R nd (gf_4_writeBackups R nd (gf_4_gatherRowValues R nd g)))
          else
            (1, gf_4_moveRow R nd (gf_4_writeBackups R nd (gf_4_gatherRowValues R nd g)))
    else
      ((-1), g)
set_option maxRecDepth 20000 in
set_option maxHeartbeats 4000000 in
theorem gc_4_step (l : Launch) (D : hD) (H0 : Heap) (a R nd : Nat) (g : GS) (h0 : hH) (n : Nat)  (hst : l.stackTraces = false) (hnd : nd ≤ 10) (hRR : R ≤ 48)  : cMx l D H0 yX4_step cX4_step 1 (some .int) 7 117 1 6 [.ref a] (gput a R nd g h0) n (fun v9 h9 n9 => ¬ g.1 1 = 0 ∧ cE (some (.int (gf_4_step R nd g).1)) (gput a R nd (gf_4_step R nd g).2 h0) n v9 h9 n9) (fun E9 => (g.1 1 = 0 ∧ E9 = seN)) := by
  refine h_metX (by decide) (Nat.le_of_ble_eq_true rfl) ?_
  intro p e s m below meth c H ls X Y hr hz hl
  have hl : lv_has ls 1 [(0, .ref a)] := hl
  have hlo : hL H0 ([] : List Loc) := hL.nil
  refine lv_aload_n X.x X.b dX4_step_0 rfl (lv_at hl 0 rfl) ?_
  refine h_callVx X Y.2.1 hr hz hlo (rest := []) (gc_4_refuseIfDown l D H0 a R nd g h0 n  hst hnd hRR) gput_o rfl yv_X4_refuseIfDown ml_X4_61 ⟨(Nat.le_of_ble_eq_true rfl), (Nat.le_of_ble_eq_true rfl)⟩ (Nat.le_of_ble_eq_true rfl) hl.1 ⟨(Nat.le_of_ble_eq_true rfl), (Nat.le_of_ble_eq_true rfl)⟩ rfl dX4_step_1 (fun v9 h9 n9 H locs hp hr hz hlo => ?_) (fun E9 q9 ce9 H locs hx hr hz hlo hce hcv hcl => h_out X Y.1 hr hz hlo hce hcv hcl hx (Nat.le_of_ble_eq_true rfl) (Nat.le_of_ble_eq_true rfl))
  obtain ⟨hnt1, rfl, rfl, rfl⟩ := hp
  show W p l e _ s m _ below meth c H locs _ _ _ (F0 m 4 ls [])
  refine lv_aload_n X.x X.b dX4_step_4 rfl (lv_at hl 0 rfl) ?_
  refine h_callV X hr hz hlo (rest := []) (gc_4_isReshaped l D H0 a R nd g h0 n  hnd hRR  ) gput_o rfl yv_X4_isReshaped ml_X4_118 ⟨(Nat.le_of_ble_eq_true rfl), (Nat.le_of_ble_eq_true rfl)⟩ (Nat.le_of_ble_eq_true rfl) hl.1 ⟨(Nat.le_of_ble_eq_true rfl), (Nat.le_of_ble_eq_true rfl)⟩ rfl dX4_step_5 (fun v9 h9 n9 H locs hp hr hz hlo => ?_)
  obtain ⟨rfl, rfl, rfl⟩ := hp
  show W p l e _ s m _ below meth c H locs _ _ _ (F0 m 8 ls [.int (gf_4_isReshaped R nd g)])
  refine lv_if_eq (tgt := 19) X.x X.b dX4_step_8 (by decide) (fun c8 => ?_) (fun c8 => ?_)
  · refine lv_iconst (v := -1) X.x X.b dX4_step_19 (by decide) ?_
    exact vx_ret (h_iret X hr hz hlo ⟨hnt1, (glfi (id (by unfold gf_4_step; rw [if_pos c8])))⟩ (Nat.le_of_ble_eq_true rfl) (Nat.le_of_ble_eq_true rfl) dX4_step_20)
  · refine lv_aload_n X.x X.b dX4_step_11 rfl (lv_at hl 0 rfl) ?_
    refine h_callV X hr hz hlo (rest := []) (gc_4_rebuildingDisk l D H0 a R nd g h0 n  hnd hRR  ) gput_o rfl yv_X4_rebuildingDisk ml_X4_121 ⟨(Nat.le_of_ble_eq_true rfl), (Nat.le_of_ble_eq_true rfl)⟩ (Nat.le_of_ble_eq_true rfl) hl.1 ⟨(Nat.le_of_ble_eq_true rfl), (Nat.le_of_ble_eq_true rfl)⟩ rfl dX4_step_12 (fun v9 h9 n9 H locs hp hr hz hlo => ?_)
    obtain ⟨rfl, rfl, rfl⟩ := hp
    show W p l e _ s m _ below meth c H locs _ _ _ (F0 m 15 ls [.int (gf_4_rebuildingDisk R nd g)])
    refine lv_iconst (v := -1) X.x X.b dX4_step_15 (by decide) ?_
    refine lv_icmp_eq (tgt := 21) X.x X.b dX4_step_16 (by decide) (fun c16 => ?_) (fun c16 => ?_)
    · refine lv_aload_n X.x X.b dX4_step_21 rfl (lv_at hl 0 rfl) ?_
      refine h_callV X hr hz hlo (rest := []) (gc_4_gatherRowValues l D H0 a R nd g h0 n  hnd hRR  ) gput_o rfl yv_X4_gatherRowValues ml_X4_131 ⟨(Nat.le_of_ble_eq_true rfl), (Nat.le_of_ble_eq_true rfl)⟩ (Nat.le_of_ble_eq_true rfl) hl.1 ⟨(Nat.le_of_ble_eq_true rfl), (Nat.le_of_ble_eq_true rfl)⟩ rfl dX4_step_22 (fun v9 h9 n9 H locs hp hr hz hlo => ?_)
      obtain ⟨rfl, rfl, rfl⟩ := hp
      show W p l e _ s m _ below meth c H locs _ _ _ (F0 m 25 ls [])
      refine lv_aload_n X.x X.b dX4_step_25 rfl (lv_at hl 0 rfl) ?_
      refine h_callV X hr hz hlo (rest := []) (gc_4_isCritical l D H0 a R nd (gf_4_gatherRowValues R nd g) h0 n  hnd hRR  ) gput_o rfl yv_X4_isCritical ml_X4_134 ⟨(Nat.le_of_ble_eq_true rfl), (Nat.le_of_ble_eq_true rfl)⟩ (Nat.le_of_ble_eq_true rfl) hl.1 ⟨(Nat.le_of_ble_eq_true rfl), (Nat.le_of_ble_eq_true rfl)⟩ rfl dX4_step_26 (fun v9 h9 n9 H locs hp hr hz hlo => ?_)
      obtain ⟨rfl, rfl, rfl⟩ := hp
      show W p l e _ s m _ below meth c H locs _ _ _ (F0 m 29 ls [.int (gf_4_isCritical R nd (gf_4_gatherRowValues R nd g))])
      refine lv_if_eq (tgt := 36) X.x X.b dX4_step_29 (by decide) (fun c29 => ?_) (fun c29 => ?_)
      · refine lv_aload_n X.x X.b dX4_step_36 rfl (lv_at hl 0 rfl) ?_
        refine h_callV X hr hz hlo (rest := []) (gc_4_moveRow l D H0 a R nd (gf_4_gatherRowValues R nd g) h0 n  hnd hRR  ) gput_o rfl yv_X4_moveRow ml_X4_140 ⟨(Nat.le_of_ble_eq_true rfl), (Nat.le_of_ble_eq_true rfl)⟩ (Nat.le_of_ble_eq_true rfl) hl.1 ⟨(Nat.le_of_ble_eq_true rfl), (Nat.le_of_ble_eq_true rfl)⟩ rfl dX4_step_37 (fun v9 h9 n9 H locs hp hr hz hlo => ?_)
        obtain ⟨rfl, rfl, rfl⟩ := hp
        show W p l e _ s m _ below meth c H locs _ _ _ (F0 m 40 ls [])
        refine lv_aload_n X.x X.b dX4_step_40 rfl (lv_at hl 0 rfl) ?_
        refine h_get X hr fd_X4_54 gput_o (v := .int ((gf_4_moveRow R nd (gf_4_gatherRowValues R nd g)).1 1)) rfl dX4_step_41 ?_
        refine lv_if_ne (tgt := 49) X.x X.b dX4_step_44 (by decide) (fun c44 => ?_) (fun c44 => ?_)
        · refine lv_aload_n X.x X.b dX4_step_49 rfl (lv_at hl 0 rfl) ?_
          refine h_callV X hr hz hlo (rest := []) (gc_4_isReshaped l D H0 a R nd (gf_4_moveRow R nd (gf_4_gatherRowValues R nd g)) h0 n  hnd hRR  ) gput_o rfl yv_X4_isReshaped ml_X4_118 ⟨(Nat.le_of_ble_eq_true rfl), (Nat.le_of_ble_eq_true rfl)⟩ (Nat.le_of_ble_eq_true rfl) hl.1 ⟨(Nat.le_of_ble_eq_true rfl), (Nat.le_of_ble_eq_true rfl)⟩ rfl dX4_step_50 (fun v9 h9 n9 H locs hp hr hz hlo => ?_)
          obtain ⟨rfl, rfl, rfl⟩ := hp
          show W p l e _ s m _ below meth c H locs _ _ _ (F0 m 53 ls [.int (gf_4_isReshaped R nd (gf_4_moveRow R nd (gf_4_gatherRowValues R nd g)))])
          refine lv_if_eq (tgt := 60) X.x X.b dX4_step_53 (by decide) (fun c53 => ?_) (fun c53 => ?_)
          · refine lv_iconst (v := 2) X.x X.b dX4_step_60 (by decide) ?_
            exact vx_ret (h_iret X hr hz hlo ⟨hnt1, (glfi (id (by unfold gf_4_step; rw [if_neg c8, if_pos c16, if_pos c29, if_neg c44, if_pos c53])))⟩ (Nat.le_of_ble_eq_true rfl) (Nat.le_of_ble_eq_true rfl) dX4_step_61)
          · refine lv_iconst (v := 1) X.x X.b dX4_step_56 (by decide) ?_
            refine lv_goto (tgt := 61) X.x X.b dX4_step_57 (by decide) ?_
            exact vx_ret (h_iret X hr hz hlo ⟨hnt1, (glfi (id (by unfold gf_4_step; rw [if_neg c8, if_pos c16, if_pos c29, if_neg c44, if_neg c53])))⟩ (Nat.le_of_ble_eq_true rfl) (Nat.le_of_ble_eq_true rfl) dX4_step_61)
        · refine lv_iconst (v := 0) X.x X.b dX4_step_47 (by decide) ?_
          exact vx_ret (h_iret X hr hz hlo ⟨hnt1, (glfi (id (by unfold gf_4_step; rw [if_neg c8, if_pos c16, if_pos c29, if_pos c44])))⟩ (Nat.le_of_ble_eq_true rfl) (Nat.le_of_ble_eq_true rfl) dX4_step_48)
      · refine lv_aload_n X.x X.b dX4_step_32 rfl (lv_at hl 0 rfl) ?_
        refine h_callV X hr hz hlo (rest := []) (gc_4_writeBackups l D H0 a R nd (gf_4_gatherRowValues R nd g) h0 n  hnd hRR  ) gput_o rfl yv_X4_writeBackups ml_X4_137 ⟨(Nat.le_of_ble_eq_true rfl), (Nat.le_of_ble_eq_true rfl)⟩ (Nat.le_of_ble_eq_true rfl) hl.1 ⟨(Nat.le_of_ble_eq_true rfl), (Nat.le_of_ble_eq_true rfl)⟩ rfl dX4_step_33 (fun v9 h9 n9 H locs hp hr hz hlo => ?_)
        obtain ⟨rfl, rfl, rfl⟩ := hp
        show W p l e _ s m _ below meth c H locs _ _ _ (F0 m 36 ls [])
        refine lv_aload_n X.x X.b dX4_step_36 rfl (lv_at hl 0 rfl) ?_
        refine h_callV X hr hz hlo (rest := []) (gc_4_moveRow l D H0 a R nd (gf_4_writeBackups R nd (gf_4_gatherRowValues R nd g)) h0 n  hnd hRR  ) gput_o rfl yv_X4_moveRow ml_X4_140 ⟨(Nat.le_of_ble_eq_true rfl), (Nat.le_of_ble_eq_true rfl)⟩ (Nat.le_of_ble_eq_true rfl) hl.1 ⟨(Nat.le_of_ble_eq_true rfl), (Nat.le_of_ble_eq_true rfl)⟩ rfl dX4_step_37 (fun v9 h9 n9 H locs hp hr hz hlo => ?_)
        obtain ⟨rfl, rfl, rfl⟩ := hp
        show W p l e _ s m _ below meth c H locs _ _ _ (F0 m 40 ls [])
        refine lv_aload_n X.x X.b dX4_step_40 rfl (lv_at hl 0 rfl) ?_
        refine h_get X hr fd_X4_54 gput_o (v := .int ((gf_4_moveRow R nd (gf_4_writeBackups R nd (gf_4_gatherRowValues R nd g))).1 1)) rfl dX4_step_41 ?_
        refine lv_if_ne (tgt := 49) X.x X.b dX4_step_44 (by decide) (fun c44 => ?_) (fun c44 => ?_)
        · refine lv_aload_n X.x X.b dX4_step_49 rfl (lv_at hl 0 rfl) ?_
          refine h_callV X hr hz hlo (rest := []) (gc_4_isReshaped l D H0 a R nd (gf_4_moveRow R nd (gf_4_writeBackups R nd (gf_4_gatherRowValues R nd g))) h0 n  hnd hRR  ) gput_o rfl yv_X4_isReshaped ml_X4_118 ⟨(Nat.le_of_ble_eq_true rfl), (Nat.le_of_ble_eq_true rfl)⟩ (Nat.le_of_ble_eq_true rfl) hl.1 ⟨(Nat.le_of_ble_eq_true rfl), (Nat.le_of_ble_eq_true rfl)⟩ rfl dX4_step_50 (fun v9 h9 n9 H locs hp hr hz hlo => ?_)
          obtain ⟨rfl, rfl, rfl⟩ := hp
          show W p l e _ s m _ below meth c H locs _ _ _ (F0 m 53 ls [.int (gf_4_isReshaped R nd (gf_4_moveRow R nd (gf_4_writeBackups R nd (gf_4_gatherRowValues R nd g))))])
          refine lv_if_eq (tgt := 60) X.x X.b dX4_step_53 (by decide) (fun c53 => ?_) (fun c53 => ?_)
          · refine lv_iconst (v := 2) X.x X.b dX4_step_60 (by decide) ?_
            exact vx_ret (h_iret X hr hz hlo ⟨hnt1, (glfi (id (by unfold gf_4_step; rw [if_neg c8, if_pos c16, if_neg c29, if_neg c44, if_pos c53])))⟩ (Nat.le_of_ble_eq_true rfl) (Nat.le_of_ble_eq_true rfl) dX4_step_61)
          · refine lv_iconst (v := 1) X.x X.b dX4_step_56 (by decide) ?_
            refine lv_goto (tgt := 61) X.x X.b dX4_step_57 (by decide) ?_
            exact vx_ret (h_iret X hr hz hlo ⟨hnt1, (glfi (id (by unfold gf_4_step; rw [if_neg c8, if_pos c16, if_neg c29, if_neg c44, if_neg c53])))⟩ (Nat.le_of_ble_eq_true rfl) (Nat.le_of_ble_eq_true rfl) dX4_step_61)
        · refine lv_iconst (v := 0) X.x X.b dX4_step_47 (by decide) ?_
          exact vx_ret (h_iret X hr hz hlo ⟨hnt1, (glfi (id (by unfold gf_4_step; rw [if_neg c8, if_pos c16, if_neg c29, if_pos c44])))⟩ (Nat.le_of_ble_eq_true rfl) (Nat.le_of_ble_eq_true rfl) dX4_step_48)
    · refine lv_iconst (v := -1) X.x X.b dX4_step_19 (by decide) ?_
      exact vx_ret (h_iret X hr hz hlo ⟨hnt1, (glfi (id (by unfold gf_4_step; rw [if_neg c8, if_neg c16])))⟩ (Nat.le_of_ble_eq_true rfl) (Nat.le_of_ble_eq_true rfl) dX4_step_20)

def gf_4_rebuild (R nd : Nat) (g : GS)  : Int32 × GS :=
  if (gf_4_rebuildingDisk R nd g) = (-1) then
    ((-1), g)
  else
    if ((gf_4_spendWrite R nd g).1) = 0 then
      (0, (gf_4_spendWrite R nd g).2)
    else
      if (nI R) ≤ (((gf_1_takeBlock_d R nd ((gf_4_spendWrite R nd g).2) ((gf_4_rebuildingDisk R nd g).toNatClampNeg) (((gf_4_spendWrite R nd g).2).1 3) (gf_4_blockDue R nd g (gf_4_rebuildingDisk R nd g) (g.1 3))).1 3) + 1) then
        if ((gf_4_setSuper R nd (gf_1_takeBlock_d R nd ((gf_4_spendWrite R nd g).2) ((gf_4_rebuildingDisk R nd g).toNatClampNeg) (((gf_4_spendWrite R nd g).2).1 3) (gf_4_blockDue R nd g (gf_4_rebuildingDisk R nd g) (g.1 3))) ((gf_1_takeBlock_d R nd ((gf_4_spendWrite R nd g).2) ((gf_4_rebuildingDisk R nd g).toNatClampNeg) (((gf_4_spendWrite R nd g).2).1 3) (gf_4_blockDue R nd g (gf_4_rebuildingDisk R nd g) (g.1 3))).1 9) ((gf_1_takeBlock_d R nd ((gf_4_spendWrite R nd g).2) ((gf_4_rebuildingDisk R nd g).toNatClampNeg) (((gf_4_spendWrite R nd g).2).1 3) (gf_4_blockDue R nd g (gf_4_rebuildingDisk R nd g) (g.1 3))).1 10) ((gf_1_takeBlock_d R nd ((gf_4_spendWrite R nd g).2) ((gf_4_rebuildingDisk R nd g).toNatClampNeg) (((gf_4_spendWrite R nd g).2).1 3) (gf_4_blockDue R nd g (gf_4_rebuildingDisk R nd g) (g.1 3))).1 11) (gf_4_rebuildingDisk R nd g)).1 1) = 0 then
          (0, gf_4_setSuper R nd (gf_1_takeBlock_d R nd ((gf_4_spendWrite R nd g).2) ((gf_4_rebuildingDisk R nd g).toNatClampNeg) (((gf_4_spendWrite R nd g).2).1 3) (gf_4_blockDue R nd g (gf_4_rebuildingDisk R nd g) (g.1 3))) ((gf_1_takeBlock_d R nd ((gf_4_spendWrite R nd g).2) ((gf_4_rebuildingDisk R nd g).toNatClampNeg) (((gf_4_spendWrite R nd g).2).1 3) (gf_4_blockDue R nd g (gf_4_rebuildingDisk R nd g) (g.1 3))).1 9) ((gf_1_takeBlock_d R nd ((gf_4_spendWrite R nd g).2) ((gf_4_rebuildingDisk R nd g).toNatClampNeg) (((gf_4_spendWrite R nd g).2).1 3) (gf_4_blockDue R nd g (gf_4_rebuildingDisk R nd g) (g.1 3))).1 10) ((gf_1_takeBlock_d R nd ((gf_4_spendWrite R nd g).2) ((gf_4_rebuildingDisk R nd g).toNatClampNeg) (((gf_4_spendWrite R nd g).2).1 3) (gf_4_blockDue R nd g (gf_4_rebuildingDisk R nd g) (g.1 3))).1 11) (gf_4_rebuildingDisk R nd g))
        else
          (2, gsi (gf_4_setSuper R nd (gf_1_takeBlock_d R nd ((gf_4_spendWrite R nd g).2) ((gf_4_rebuildingDisk R nd g).toNatClampNeg) (((gf_4_spendWrite R nd g).2).1 3) (gf_4_blockDue R nd g (gf_4_rebuildingDisk R nd g) (g.1 3))) ((gf_1_takeBlock_d R nd ((gf_4_spendWrite R nd g).2) ((gf_4_rebuildingDisk R nd g).toNatClampNeg) (((gf_4_spendWrite R nd g).2).1 3) (gf_4_blockDue R nd g (gf_4_rebuildingDisk R nd g) (g.1 3))).1 9) ((gf_1_takeBlock_d R nd ((gf_4_spendWrite R nd g).2) ((gf_4_rebuildingDisk R nd g).toNatClampNeg) (((gf_4_spendWrite R nd g).2).1 3) (gf_4_blockDue R nd g (gf_4_rebuildingDisk R nd g) (g.1 3))).1 10) ((gf_1_takeBlock_d R nd ((gf_4_spendWrite R nd g).2) ((gf_4_rebuildingDisk R nd g).toNatClampNeg) (((gf_4_spendWrite R nd g).2).1 3) (gf_4_blockDue R nd g (gf_4_rebuildingDisk R nd g) (g.1 3))).1 11) (gf_4_rebuildingDisk R nd g)) 3 0)
      else
        (1, gsi (gf_1_takeBlock_d R nd ((gf_4_spendWrite R nd g).2) ((gf_4_rebuildingDisk R nd g).toNatClampNeg) (((gf_4_spendWrite R nd g).2).1 3) (gf_4_blockDue R nd g (gf_4_rebuildingDisk R nd g) (g.1 3))) 3 (((gf_1_takeBlock_d R nd ((gf_4_spendWrite R nd g).2) ((gf_4_rebuildingDisk R nd g).toNatClampNeg) (((gf_4_spendWrite R nd g).2).1 3) (gf_4_blockDue R nd g (gf_4_rebuildingDisk R nd g) (g.1 3))).1 3) + 1))
set_option maxRecDepth 20000 in
set_option maxHeartbeats 4000000 in
theorem gc_4_rebuild (l : Launch) (D : hD) (H0 : Heap) (a R nd : Nat) (g : GS) (h0 : hH) (n : Nat)  (hst : l.stackTraces = false) (hnd : nd ≤ 10) (hRR : R ≤ 48)  : cMx l D H0 yX4_rebuild cX4_rebuild 4 (some .int) 7 102 1 6 [.ref a] (gput a R nd g h0) n (fun v9 h9 n9 => ¬ g.1 1 = 0 ∧ cE (some (.int (gf_4_rebuild R nd g).1)) (gput a R nd (gf_4_rebuild R nd g).2 h0) n v9 h9 n9) (fun E9 => (g.1 1 = 0 ∧ E9 = seN)) := by
  refine h_metX (by decide) (Nat.le_of_ble_eq_true rfl) ?_
  intro p e s m below meth c H ls X Y hr hz hl
  have hl : lv_has ls 4 [(0, .ref a)] := hl
  have hlo : hL H0 ([] : List Loc) := hL.nil
  refine lv_aload_n X.x X.b dX4_rebuild_0 rfl (lv_at hl 0 rfl) ?_
  refine h_callVx X Y.2.1 hr hz hlo (rest := []) (gc_4_refuseIfDown l D H0 a R nd g h0 n  hst hnd hRR) gput_o rfl yv_X4_refuseIfDown ml_X4_61 ⟨(Nat.le_of_ble_eq_true rfl), (Nat.le_of_ble_eq_true rfl)⟩ (Nat.le_of_ble_eq_true rfl) hl.1 ⟨(Nat.le_of_ble_eq_true rfl), (Nat.le_of_ble_eq_true rfl)⟩ rfl dX4_rebuild_1 (fun v9 h9 n9 H locs hp hr hz hlo => ?_) (fun E9 q9 ce9 H locs hx hr hz hlo hce hcv hcl => h_out X Y.1 hr hz hlo hce hcv hcl hx (Nat.le_of_ble_eq_true rfl) (Nat.le_of_ble_eq_true rfl))
  obtain ⟨hnt1, rfl, rfl, rfl⟩ := hp
  show W p l e _ s m _ below meth c H locs _ _ _ (F0 m 4 ls [])
  refine lv_aload_n X.x X.b dX4_rebuild_4 rfl (lv_at hl 0 rfl) ?_
  refine h_callV X hr hz hlo (rest := []) (gc_4_rebuildingDisk l D H0 a R nd g h0 n  hnd hRR  ) gput_o rfl yv_X4_rebuildingDisk ml_X4_121 ⟨(Nat.le_of_ble_eq_true rfl), (Nat.le_of_ble_eq_true rfl)⟩ (Nat.le_of_ble_eq_true rfl) hl.1 ⟨(Nat.le_of_ble_eq_true rfl), (Nat.le_of_ble_eq_true rfl)⟩ rfl dX4_rebuild_5 (fun v9 h9 n9 H locs hp hr hz hlo => ?_)
  obtain ⟨rfl, rfl, rfl⟩ := hp
  show W p l e _ s m _ below meth c H locs _ _ _ (F0 m 8 ls [.int (gf_4_rebuildingDisk R nd g)])
  refine lv_istore_n (lv' := [(1, .int (gf_4_rebuildingDisk R nd g)), (0, .ref a)]) X.x X.b dX4_rebuild_8 rfl hl (by decide) rfl (fun ls hl => ?_)
  refine lv_iload_n X.x X.b dX4_rebuild_9 rfl (lv_at hl 0 rfl) ?_
  refine lv_iconst (v := -1) X.x X.b dX4_rebuild_10 (by decide) ?_
  refine lv_icmp_ne (tgt := 16) X.x X.b dX4_rebuild_11 (by decide) (fun c11 => ?_) (fun c11 => ?_)
  · refine lv_aload_n X.x X.b dX4_rebuild_16 rfl (lv_at hl 1 rfl) ?_
    refine lv_iload_n X.x X.b dX4_rebuild_17 rfl (lv_at hl 0 rfl) ?_
    refine lv_aload_n X.x X.b dX4_rebuild_18 rfl (lv_at hl 1 rfl) ?_
    refine h_get X hr fd_X4_159 gput_o (v := .int (g.1 3)) rfl dX4_rebuild_19 ?_
    refine h_callV X hr hz hlo (rest := []) (gc_4_blockDue l D H0 a R nd g h0 n (gf_4_rebuildingDisk R nd g) (g.1 3) hnd hRR  ) gput_o rfl yv_X4_blockDue ml_X4_162 ⟨(Nat.le_of_ble_eq_true rfl), (Nat.le_of_ble_eq_true rfl)⟩ (Nat.le_of_ble_eq_true rfl) hl.1 ⟨(Nat.le_of_ble_eq_true rfl), (Nat.le_of_ble_eq_true rfl)⟩ rfl dX4_rebuild_22 (fun v9 h9 n9 H locs hp hr hz hlo => ?_)
    obtain ⟨rfl, rfl, rfl⟩ := hp
    show W p l e _ s m _ below meth c H locs _ _ _ (F0 m 25 ls [.long (gf_4_blockDue R nd g (gf_4_rebuildingDisk R nd g) (g.1 3))])
    refine lv_lstore_n (lv' := [(2, .long (gf_4_blockDue R nd g (gf_4_rebuildingDisk R nd g) (g.1 3))), (1, .int (gf_4_rebuildingDisk R nd g)), (0, .ref a)]) X.x X.b dX4_rebuild_25 rfl hl (by decide) rfl (fun ls hl => ?_)
    refine lv_aload_n X.x X.b dX4_rebuild_26 rfl (lv_at hl 2 rfl) ?_
    refine h_callV X hr hz hlo (rest := []) (gc_4_spendWrite l D H0 a R nd g h0 n  hnd hRR  ) gput_o rfl yv_X4_spendWrite ml_X4_108 ⟨(Nat.le_of_ble_eq_true rfl), (Nat.le_of_ble_eq_true rfl)⟩ (Nat.le_of_ble_eq_true rfl) hl.1 ⟨(Nat.le_of_ble_eq_true rfl), (Nat.le_of_ble_eq_true rfl)⟩ rfl dX4_rebuild_27 (fun v9 h9 n9 H locs hp hr hz hlo => ?_)
    obtain ⟨rfl, rfl, rfl⟩ := hp
    show W p l e _ s m _ below meth c H locs _ _ _ (F0 m 30 ls [.int ((gf_4_spendWrite R nd g).1)])
    refine lv_if_ne (tgt := 35) X.x X.b dX4_rebuild_30 (by decide) (fun c30 => ?_) (fun c30 => ?_)
    · refine lv_aload_n X.x X.b dX4_rebuild_35 rfl (lv_at hl 2 rfl) ?_
      refine h_get X hr fd_X4_40 gput_o (v := .ref (a + 4)) rfl dX4_rebuild_36 ?_
      refine lv_iload_n X.x X.b dX4_rebuild_39 rfl (lv_at hl 1 rfl) ?_
      refine h_aald X hr gput_k (gx_rbd hnd c11) (v := .ref (aD a ((gf_4_rebuildingDisk R nd g).toNatClampNeg))) rfl dX4_rebuild_40 ?_
      refine lv_aload_n X.x X.b dX4_rebuild_41 rfl (lv_at hl 2 rfl) ?_
      refine h_get X hr fd_X4_159 gput_o (v := .int (((gf_4_spendWrite R nd g).2).1 3)) rfl dX4_rebuild_42 ?_
      refine lv_lload_n X.x X.b dX4_rebuild_45 rfl (lv_at hl 0 rfl) ?_
      refine h_callV X hr hz hlo (rest := []) (gc_1_takeBlock_d l D H0 a R nd ((gf_4_spendWrite R nd g).2) h0 n ((gf_4_rebuildingDisk R nd g).toNatClampNeg) (((gf_4_spendWrite R nd g).2).1 3) (gf_4_blockDue R nd g (gf_4_rebuildingDisk R nd g) (g.1 3)) hnd hRR (vp_lt (gx_rbd hnd c11)) ) (gput_aD (vp_lt (gx_rbd hnd c11))) rfl yv_X1_takeBlock ml_X4_166 ⟨(Nat.le_of_ble_eq_true rfl), (Nat.le_of_ble_eq_true rfl)⟩ (Nat.le_of_ble_eq_true rfl) hl.1 ⟨(Nat.le_of_ble_eq_true rfl), (Nat.le_of_ble_eq_true rfl)⟩ rfl dX4_rebuild_46 (fun v9 h9 n9 H locs hp hr hz hlo => ?_)
      obtain ⟨rfl, rfl, rfl⟩ := hp
      show W p l e _ s m _ below meth c H locs _ _ _ (F0 m 49 ls [])
      refine lv_aload_n X.x X.b dX4_rebuild_49 rfl (lv_at hl 2 rfl) ?_
      refine h_get X hr fd_X4_159 gput_o (v := .int ((gf_1_takeBlock_d R nd ((gf_4_spendWrite R nd g).2) ((gf_4_rebuildingDisk R nd g).toNatClampNeg) (((gf_4_spendWrite R nd g).2).1 3) (gf_4_blockDue R nd g (gf_4_rebuildingDisk R nd g) (g.1 3))).1 3)) rfl dX4_rebuild_50 ?_
      refine lv_iconst (v := 1) X.x X.b dX4_rebuild_53 (by decide) ?_
      refine lv_iadd X.x X.b dX4_rebuild_54 ?_
      refine lv_aload_n X.x X.b dX4_rebuild_55 rfl (lv_at hl 2 rfl) ?_
      refine h_get X hr fd_X4_13 gput_o (v := .int (nI R)) rfl dX4_rebuild_56 ?_
      refine lv_icmp_ge (tgt := 74) X.x X.b dX4_rebuild_59 (by decide) (fun c59 => ?_) (fun c59 => ?_)
      · refine lv_aload_n X.x X.b dX4_rebuild_74 rfl (lv_at hl 2 rfl) ?_
        refine lv_aload_n X.x X.b dX4_rebuild_75 rfl (lv_at hl 2 rfl) ?_
        refine h_get X hr fd_X4_19 gput_o (v := .ref (a + 1)) rfl dX4_rebuild_76 ?_
        refine h_get X hr fd_X4_125 gput_h (v := .int ((gf_1_takeBlock_d R nd ((gf_4_spendWrite R nd g).2) ((gf_4_rebuildingDisk R nd g).toNatClampNeg) (((gf_4_spendWrite R nd g).2).1 3) (gf_4_blockDue R nd g (gf_4_rebuildingDisk R nd g) (g.1 3))).1 9)) rfl dX4_rebuild_79 ?_
        refine lv_aload_n X.x X.b dX4_rebuild_82 rfl (lv_at hl 2 rfl) ?_
        refine h_get X hr fd_X4_19 gput_o (v := .ref (a + 1)) rfl dX4_rebuild_83 ?_
        refine h_get X hr fd_X4_115 gput_h (v := .int ((gf_1_takeBlock_d R nd ((gf_4_spendWrite R nd g).2) ((gf_4_rebuildingDisk R nd g).toNatClampNeg) (((gf_4_spendWrite R nd g).2).1 3) (gf_4_blockDue R nd g (gf_4_rebuildingDisk R nd g) (g.1 3))).1 10)) rfl dX4_rebuild_86 ?_
        refine lv_aload_n X.x X.b dX4_rebuild_89 rfl (lv_at hl 2 rfl) ?_
        refine h_get X hr fd_X4_19 gput_o (v := .ref (a + 1)) rfl dX4_rebuild_90 ?_
        refine h_get X hr fd_X4_170 gput_h (v := .int ((gf_1_takeBlock_d R nd ((gf_4_spendWrite R nd g).2) ((gf_4_rebuildingDisk R nd g).toNatClampNeg) (((gf_4_spendWrite R nd g).2).1 3) (gf_4_blockDue R nd g (gf_4_rebuildingDisk R nd g) (g.1 3))).1 11)) rfl dX4_rebuild_93 ?_
        refine lv_iload_n X.x X.b dX4_rebuild_96 rfl (lv_at hl 1 rfl) ?_
        refine h_callV X hr hz hlo (rest := []) (gc_4_setSuper l D H0 a R nd (gf_1_takeBlock_d R nd ((gf_4_spendWrite R nd g).2) ((gf_4_rebuildingDisk R nd g).toNatClampNeg) (((gf_4_spendWrite R nd g).2).1 3) (gf_4_blockDue R nd g (gf_4_rebuildingDisk R nd g) (g.1 3))) h0 n ((gf_1_takeBlock_d R nd ((gf_4_spendWrite R nd g).2) ((gf_4_rebuildingDisk R nd g).toNatClampNeg) (((gf_4_spendWrite R nd g).2).1 3) (gf_4_blockDue R nd g (gf_4_rebuildingDisk R nd g) (g.1 3))).1 9) ((gf_1_takeBlock_d R nd ((gf_4_spendWrite R nd g).2) ((gf_4_rebuildingDisk R nd g).toNatClampNeg) (((gf_4_spendWrite R nd g).2).1 3) (gf_4_blockDue R nd g (gf_4_rebuildingDisk R nd g) (g.1 3))).1 10) ((gf_1_takeBlock_d R nd ((gf_4_spendWrite R nd g).2) ((gf_4_rebuildingDisk R nd g).toNatClampNeg) (((gf_4_spendWrite R nd g).2).1 3) (gf_4_blockDue R nd g (gf_4_rebuildingDisk R nd g) (g.1 3))).1 11) (gf_4_rebuildingDisk R nd g) hnd hRR  ) gput_o rfl yv_X4_setSuper ml_X4_128 ⟨(Nat.le_of_ble_eq_true rfl), (Nat.le_of_ble_eq_true rfl)⟩ (Nat.le_of_ble_eq_true rfl) hl.1 ⟨(Nat.le_of_ble_eq_true rfl), (Nat.le_of_ble_eq_true rfl)⟩ rfl dX4_rebuild_97 (fun v9 h9 n9 H locs hp hr hz hlo => ?_)
        obtain ⟨rfl, rfl, rfl⟩ := hp
        show W p l e _ s m _ below meth c H locs _ _ _ (F0 m 100 ls [])
        refine lv_aload_n X.x X.b dX4_rebuild_100 rfl (lv_at hl 2 rfl) ?_
        refine h_get X hr fd_X4_54 gput_o (v := .int ((gf_4_setSuper R nd (gf_1_takeBlock_d R nd ((gf_4_spendWrite R nd g).2) ((gf_4_rebuildingDisk R nd g).toNatClampNeg) (((gf_4_spendWrite R nd g).2).1 3) (gf_4_blockDue R nd g (gf_4_rebuildingDisk R nd g) (g.1 3))) ((gf_1_takeBlock_d R nd ((gf_4_spendWrite R nd g).2) ((gf_4_rebuildingDisk R nd g).toNatClampNeg) (((gf_4_spendWrite R nd g).2).1 3) (gf_4_blockDue R nd g (gf_4_rebuildingDisk R nd g) (g.1 3))).1 9) ((gf_1_takeBlock_d R nd ((gf_4_spendWrite R nd g).2) ((gf_4_rebuildingDisk R nd g).toNatClampNeg) (((gf_4_spendWrite R nd g).2).1 3) (gf_4_blockDue R nd g (gf_4_rebuildingDisk R nd g) (g.1 3))).1 10) ((gf_1_takeBlock_d R nd ((gf_4_spendWrite R nd g).2) ((gf_4_rebuildingDisk R nd g).toNatClampNeg) (((gf_4_spendWrite R nd g).2).1 3) (gf_4_blockDue R nd g (gf_4_rebuildingDisk R nd g) (g.1 3))).1 11) (gf_4_rebuildingDisk R nd g)).1 1)) rfl dX4_rebuild_101 ?_
        refine lv_if_ne (tgt := 109) X.x X.b dX4_rebuild_104 (by decide) (fun c104 => ?_) (fun c104 => ?_)
        · refine lv_aload_n X.x X.b dX4_rebuild_109 rfl (lv_at hl 2 rfl) ?_
          refine lv_iconst (v := 0) X.x X.b dX4_rebuild_110 (by decide) ?_
          refine h_put X hr hz hlo fd_X4_159 tyX4 tyX4_ok nmX4 rfl gput_o (v := .int 0) rfl rfl (Nat.le_of_ble_eq_true rfl) dX4_rebuild_111 (fun H locs hr hz hlo => ?_)
          rw [gput_s3] at hr
          refine lv_iconst (v := 2) X.x X.b dX4_rebuild_114 (by decide) ?_
          exact vx_ret (h_iret X hr hz hlo ⟨hnt1, (glfi (id (by unfold gf_4_rebuild; rw [if_neg c11, if_neg c30, if_pos c59, if_neg c104])))⟩ (Nat.le_of_ble_eq_true rfl) (Nat.le_of_ble_eq_true rfl) dX4_rebuild_115)
        · refine lv_iconst (v := 0) X.x X.b dX4_rebuild_107 (by decide) ?_
          exact vx_ret (h_iret X hr hz hlo ⟨hnt1, (glfi (id (by unfold gf_4_rebuild; rw [if_neg c11, if_neg c30, if_pos c59, if_pos c104])))⟩ (Nat.le_of_ble_eq_true rfl) (Nat.le_of_ble_eq_true rfl) dX4_rebuild_108)
      · refine lv_aload_n X.x X.b dX4_rebuild_62 rfl (lv_at hl 2 rfl) ?_
        refine lv_dup X.x X.b dX4_rebuild_63 rfl ?_
        refine h_get X hr fd_X4_159 gput_o (v := .int ((gf_1_takeBlock_d R nd ((gf_4_spendWrite R nd g).2) ((gf_4_rebuildingDisk R nd g).toNatClampNeg) (((gf_4_spendWrite R nd g).2).1 3) (gf_4_blockDue R nd g (gf_4_rebuildingDisk R nd g) (g.1 3))).1 3)) rfl dX4_rebuild_64 ?_
        refine lv_iconst (v := 1) X.x X.b dX4_rebuild_67 (by decide) ?_
        refine lv_iadd X.x X.b dX4_rebuild_68 ?_
        refine h_put X hr hz hlo fd_X4_159 tyX4 tyX4_ok nmX4 rfl gput_o (v := .int (((gf_1_takeBlock_d R nd ((gf_4_spendWrite R nd g).2) ((gf_4_rebuildingDisk R nd g).toNatClampNeg) (((gf_4_spendWrite R nd g).2).1 3) (gf_4_blockDue R nd g (gf_4_rebuildingDisk R nd g) (g.1 3))).1 3) + 1)) rfl rfl (Nat.le_of_ble_eq_true rfl) dX4_rebuild_69 (fun H locs hr hz hlo => ?_)
        rw [gput_s3] at hr
        refine lv_iconst (v := 1) X.x X.b dX4_rebuild_72 (by decide) ?_
        exact vx_ret (h_iret X hr hz hlo ⟨hnt1, (glfi (id (by unfold gf_4_rebuild; rw [if_neg c11, if_neg c30, if_neg c59])))⟩ (Nat.le_of_ble_eq_true rfl) (Nat.le_of_ble_eq_true rfl) dX4_rebuild_73)
    · refine lv_iconst (v := 0) X.x X.b dX4_rebuild_33 (by decide) ?_
      exact vx_ret (h_iret X hr hz hlo ⟨hnt1, (glfi (id (by unfold gf_4_rebuild; rw [if_neg c11, if_pos c30])))⟩ (Nat.le_of_ble_eq_true rfl) (Nat.le_of_ble_eq_true rfl) dX4_rebuild_34)
  · refine lv_iconst (v := -1) X.x X.b dX4_rebuild_14 (by decide) ?_
    exact vx_ret (h_iret X hr hz hlo ⟨hnt1, (glfi (id (by unfold gf_4_rebuild; rw [if_pos c11])))⟩ (Nat.le_of_ble_eq_true rfl) (Nat.le_of_ble_eq_true rfl) dX4_rebuild_15)

def gg_4_sum_14 (R nd : Nat) (g : GS)  : Nat → Nat → Int64 → Int32 → Int64
  | 0, _, _, _ => 0
  | j + 1, k, acc, pl =>
    if pl ≤ (nI k) then
      acc
    else
      gg_4_sum_14 R nd g  j (k + 1) ((31 * acc) + (gf_4_valueOf R nd g (nI k))) pl
def gf_4_sum (R nd : Nat) (g : GS)  : Int64 :=
  gg_4_sum_14 R nd g  433 0 0 (gf_4_placeCount R nd g)
set_option maxRecDepth 20000 in
set_option maxHeartbeats 4000000 in
theorem gc_4_sum (l : Launch) (D : hD) (H0 : Heap) (a R nd : Nat) (g : GS) (h0 : hH) (n : Nat)  (hst : l.stackTraces = false) (hnd : nd ≤ 10) (hRR : R ≤ 48) (P9 : Nat) (hP : P9 ≤ 432) (hp : gf_4_placeCount R nd g = nI P9) : cMx l D H0 yX4_sum cX4_sum 5 (some .long) 7 102 1 6 [.ref a] (gput a R nd g h0) n (fun v9 h9 n9 => ¬ g.1 1 = 0 ∧ cE (some (.long (gf_4_sum R nd g))) (gput a R nd g h0) n v9 h9 n9) (fun E9 => (g.1 1 = 0 ∧ E9 = seN)) := by
  refine h_metX (by decide) (Nat.le_of_ble_eq_true rfl) ?_
  intro p e s m below meth c H ls X Y hr hz hl
  have hl : lv_has ls 5 [(0, .ref a)] := hl
  have hlo : hL H0 ([] : List Loc) := hL.nil
  have loop14 : ∀ (j k : Nat) (acc : Int64) (pl : Int32) (hk : k ≤ P9) (hj : P9 < k + j) (hp1 : pl = nI P9) (hnt1 : ¬ g.1 1 = 0) (hG : gf_4_sum R nd g = gg_4_sum_14 R nd g  j k acc pl) (H : Heap) (locs : List Loc) (ls : Array Slot), hR D H0 (gput a R nd g h0) H → H.size = n → hL H0 locs → lv_has ls 5 [(4, .int (nI k)), (3, .int pl), (1, .long acc), (0, .ref a)] → W p l e (rmk 7 102 1 6) s m ([.ref a] : List Value).toArray below meth c H locs (0 + 1) (0 + 6) (vx_MQ below (cQ D H0 (fun v9 h9 n9 => ¬ g.1 1 = 0 ∧ cE (some (.long (gf_4_sum R nd g))) (gput a R nd g h0) n v9 h9 n9)) (cXC D H0 (gput a R nd g h0) n (fun E9 => (g.1 1 = 0 ∧ E9 = seN))) ([.ref a] : List Value).toArray s 1 6 (hF H0)) (F0 m 14 ls []) := by
    intro j
    induction j with
    | zero => intro k acc pl hk hj; omega
    | succ j ih =>
      intro k acc pl hk hj hp1 hnt1 hG H locs ls hr hz hlo hl
      refine lv_iload X.x X.b dX4_sum_14 (lv_at hl 0 rfl) ?_
      refine lv_iload_n X.x X.b dX4_sum_16 rfl (lv_at hl 1 rfl) ?_
      refine lv_icmp_ge (tgt := 39) X.x X.b dX4_sum_17 (by decide) (fun c17 => ?_) (fun c17 => ?_)
      · refine lv_lload_n X.x X.b dX4_sum_39 rfl (lv_at hl 2 rfl) ?_
        exact vx_ret (h_lret X hr hz hlo ⟨hnt1, (glflp (hG.trans (by rw [gg_4_sum_14]; rw [if_pos c17])))⟩ (Nat.le_of_ble_eq_true rfl) (Nat.le_of_ble_eq_true rfl) dX4_sum_40)
      · have hk9 : k < P9 := nd_lt (by rw [← hp1]; exact c17) (by omega)
        refine lv_ldc2 (v := 31) X.x X.b X.ow (X.w kc_X4_234) dX4_sum_20 ?_
        refine lv_lload_n X.x X.b dX4_sum_23 rfl (lv_at hl 2 rfl) ?_
        refine lv_lmul X.x X.b dX4_sum_24 ?_
        refine lv_aload_n X.x X.b dX4_sum_25 rfl (lv_at hl 3 rfl) ?_
        refine lv_iload X.x X.b dX4_sum_26 (lv_at hl 0 rfl) ?_
        refine h_callV X hr hz hlo (rest := [.long (31 * acc)]) (gc_4_valueOf l D H0 a R nd g h0 n (nI k) hnd hRR  ) gput_o rfl yv_X4_valueOf ml_X4_104 ⟨(Nat.le_of_ble_eq_true rfl), (Nat.le_of_ble_eq_true rfl)⟩ (Nat.le_of_ble_eq_true rfl) hl.1 ⟨(Nat.le_of_ble_eq_true rfl), (Nat.le_of_ble_eq_true rfl)⟩ rfl dX4_sum_28 (fun v9 h9 n9 H locs hp hr hz hlo => ?_)
        obtain ⟨rfl, rfl, rfl⟩ := hp
        show W p l e _ s m _ below meth c H locs _ _ _ (F0 m 31 ls [.long (gf_4_valueOf R nd g (nI k)), .long (31 * acc)])
        refine lv_ladd X.x X.b dX4_sum_31 ?_
        refine lv_lstore_n (lv' := [(1, .long ((31 * acc) + (gf_4_valueOf R nd g (nI k)))), (4, .int (nI k)), (3, .int pl), (0, .ref a)]) X.x X.b dX4_sum_32 rfl hl (by decide) rfl (fun ls hl => ?_)
        refine lv_iinc (v := nI (k + 1)) (lv' := [(4, .int (nI (k + 1))), (1, .long ((31 * acc) + (gf_4_valueOf R nd g (nI k)))), (3, .int pl), (0, .ref a)]) X.x X.b dX4_sum_33 hl (k := 1) rfl (nI_1 k) (by decide) rfl (fun ls hl => ?_)
        refine lv_goto (tgt := 14) X.x X.b dX4_sum_36 (by decide) ?_
        exact ih (k + 1) ((31 * acc) + (gf_4_valueOf R nd g (nI k))) pl (by omega) (by omega) hp1 hnt1 (hG.trans (by rw [gg_4_sum_14]; rw [if_neg c17])) _ _ _ hr hz hlo (lv_sub hl [0, 2, 1, 3] rfl)
  refine lv_aload_n X.x X.b dX4_sum_0 rfl (lv_at hl 0 rfl) ?_
  refine h_callVx X Y.2.1 hr hz hlo (rest := []) (gc_4_refuseIfDown l D H0 a R nd g h0 n  hst hnd hRR) gput_o rfl yv_X4_refuseIfDown ml_X4_61 ⟨(Nat.le_of_ble_eq_true rfl), (Nat.le_of_ble_eq_true rfl)⟩ (Nat.le_of_ble_eq_true rfl) hl.1 ⟨(Nat.le_of_ble_eq_true rfl), (Nat.le_of_ble_eq_true rfl)⟩ rfl dX4_sum_1 (fun v9 h9 n9 H locs hp hr hz hlo => ?_) (fun E9 q9 ce9 H locs hx hr hz hlo hce hcv hcl => h_out X Y.1 hr hz hlo hce hcv hcl hx (Nat.le_of_ble_eq_true rfl) (Nat.le_of_ble_eq_true rfl))
  obtain ⟨hnt1, rfl, rfl, rfl⟩ := hp
  show W p l e _ s m _ below meth c H locs _ _ _ (F0 m 4 ls [])
  refine lv_lconst (v := 0) X.x X.b dX4_sum_4 (by decide) ?_
  refine lv_lstore_n (lv' := [(1, .long 0), (0, .ref a)]) X.x X.b dX4_sum_5 rfl hl (by decide) rfl (fun ls hl => ?_)
  refine lv_aload_n X.x X.b dX4_sum_6 rfl (lv_at hl 1 rfl) ?_
  refine h_callV X hr hz hlo (rest := []) (gc_4_placeCount l D H0 a R nd g h0 n  hnd hRR  ) gput_o rfl yv_X4_placeCount ml_X4_212 ⟨(Nat.le_of_ble_eq_true rfl), (Nat.le_of_ble_eq_true rfl)⟩ (Nat.le_of_ble_eq_true rfl) hl.1 ⟨(Nat.le_of_ble_eq_true rfl), (Nat.le_of_ble_eq_true rfl)⟩ rfl dX4_sum_7 (fun v9 h9 n9 H locs hp hr hz hlo => ?_)
  obtain ⟨rfl, rfl, rfl⟩ := hp
  show W p l e _ s m _ below meth c H locs _ _ _ (F0 m 10 ls [.int (gf_4_placeCount R nd g)])
  refine lv_istore_n (lv' := [(3, .int (gf_4_placeCount R nd g)), (1, .long 0), (0, .ref a)]) X.x X.b dX4_sum_10 rfl hl (by decide) rfl (fun ls hl => ?_)
  refine lv_iconst (v := 0) X.x X.b dX4_sum_11 (by decide) ?_
  refine lv_istore (lv' := [(4, .int 0), (3, .int (gf_4_placeCount R nd g)), (1, .long 0), (0, .ref a)]) X.x X.b dX4_sum_12 hl (by decide) rfl (fun ls hl => ?_)
  have hl : lv_has ls 5 [(4, .int (nI 0)), (3, .int (gf_4_placeCount R nd g)), (1, .long 0), (0, .ref a)] := by rw [nI_0]; exact hl
  exact loop14 433 0 0 (gf_4_placeCount R nd g) (by omega) (by omega) hp hnt1 (id (by unfold gf_4_sum; rfl)) _ _ _ hr hz hlo (lv_sub hl [0, 1, 2, 3] rfl)
