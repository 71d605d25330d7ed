/-! THE CLAIM OUT OF ONE WALK OF THE LAW'S BODY. Your part is whole_start (and what it stands on); all else here is the same for every law, but numbers. -/
def R_law : String := "GrowingArrayLaw"
def lw_P (b : Addr) (xs : List Int32) (args : Array Value) (s : State) : Prop := args = #[.ref b] ∧ s.IntsAt b xs ∧ xs.length ≤ 2050 ∧ (Jvm.Cond.and given_1 narrow_1).before args s = true
def lw_Q (_ : Array Value) (s : State) (o : Outcome) (t : State) : Prop := o = .returned (some (.int 1)) ∧ Framed s o t [] 601024 7293000
def lw_Z (below : List Frame) (a : Array Value) (s : State) : State → Prop := fun t => ∃ o, t.status = .running ∧ Ended t below o ∧ lw_Q a s o t
/-- the law's own end, with 1 on the stack, nothing written that was there before, its room as the claim has it -/
theorem lw_ret {p : Program} {l : Launch} {e : Env} {s : State} {m : MethodId} {below : List Frame} {meth : Method} {c : Code} {b : Nat} (hx : p.tables.exec = Jvm.exec) (hb : c.code = code) (hr : meth.sig.returnType = ret) (hlocks : meth.locks = false) {pc : Nat} {H : Heap} {ls : Array Slot} (hdg : decode code pc = .ok (.ireturn, 1)) : W p l e room_1 s m #[Value.ref b] below meth c H [] 601024 7293000 (lw_Z below #[Value.ref b] s) (F0 m pc ls [.int 1]) := by
  intro T hT X
  obtain ⟨fs, hret, hrun, hended, hW, hframe⟩ := X.leave (v := some (.int 1)) (hlocks := hlocks) (fun h => by rw [hr] at h; cases h)
  have hmeth' : T.vm.method? m = some meth := X.method'
  refine ⟨T.setFrames fs, ?_, .returned (some (.int 1)), hrun, hended, rfl, ⟨_, rfl⟩, hW, hframe⟩
  jvm_step X.here [X.here.top, hx, hb, hdg, hmeth', hr, ret, narrow_b1]
  (try refine ⟨rfl, ?_⟩); (try refine ⟨rfl, ?_⟩)
  first | (intro acts; rw [hret _ acts rfl rfl rfl]) | rw [hret _ _ rfl rfl rfl]
  exact Steps.refl _
/-- what holds at the law's entry: the machine, the code, the tables' words (any of lw_tbl by 'hts w (by decide +kernel)'), the script of L ints xs at the cell b, what the Statement gives of the start (any of its parts by flat_of_before) -/
def lw_At (p : Program) (s : State) (m : MethodId) (meth : Method) (c : Code) (b L : Nat) (xs : Nat → Int32) : Prop :=
  p.tables.exec = Jvm.exec ∧ c.code = code ∧ meth.sig.returnType = ret ∧ c.maxLocals = 8 ∧ s.vm.findClass R_law = some m.cls ∧ (∀ w ∈ lw_tbl, w.before #[Value.ref b] s = true) ∧ va_X b L xs s s.heap ∧ b < s.heap.size ∧ meth.locks = false ∧ (Jvm.Cond.and given_1 narrow_1).before #[Value.ref b] s = true
/-- a call of the law's cell -/
theorem h_cell {p : Program} {l : Launch} {e : Env} {s : State} {m : MethodId} {below : List Frame} {meth : Method} {c : Code} {D : hD} {H0 : Heap} {sb L : Nat} {xs : Nat → Int32} {rt : Option FieldType} {Q : State → Prop} {H : Heap} {locs : List Loc} {cells slots pc n : Nat} {ls : Array Slot} {h : hH} {rest : List Value} (X : hX p m c cL_law 8 s #[Value.ref sb] RL D meth rt) (Y : sX sb L xs H0 s) (hr : hR D H0 h H) (hz : H.size = n) (hlo : hL H0 locs) (k : Nat) (hk : k < 10) (hLL : L ≤ 2050) (hst : (rest.map fun v => v.category).sum ≤ 8) (hls : ls.size = 8) (hcs : cells + 0 ≤ room_1.cells ∧ slots + 0 ≤ room_1.slots) (hdg : decode cL_law pc = .ok (.invokestatic 38, 3))
    (kk : ∀ (H1 : Heap) (locs1 : List Loc), hR D H0 h H1 → H1.size = n → hL H0 locs1 → W p l e room_1 s m #[Value.ref sb] below meth c H1 locs1 (cells + 0) (slots + 0) Q (F0 m (pc + 3) ls (.int (cellV L xs k) :: rest))) : W p l e room_1 s m #[Value.ref sb] below meth c H locs cells slots Q (F0 m pc ls (.int (nI k) :: .ref sb :: rest)) := by
  obtain ⟨hw, hd⟩ := ys_L_cell
  have hts := X.1.2.2.2.2
  refine h_go (va_runS (As := [.ref sb, .int (nI k)]) (rest := rest) X.1 (lc_cell l D H0 sb L xs h n k hLL hk) ⟨callB_of 2 hts (wY_good (hw _ (by simp))) rfl rfl rfl (X.w (hw _ (by simp))) (X.w ml_L_38) hd ⟨(Nat.le_of_ble_eq_true rfl), (Nat.le_of_ble_eq_true rfl)⟩, X.w (hw _ (by simp))⟩ ⟨cPs.blind, fun U hU hW => ⟨⟨rfl, by rw [hU]; exact hr, by rw [hU]; exact hz, X.2.1.warm hW⟩, sX.moved hW Y⟩⟩ rfl rfl hls rfl (lv_room hst) hdg hcs) hlo (fun v h' n' H1 locs1 hp hr hz hlo => ?_)
  obtain ⟨rfl, rfl, rfl⟩ := hp
  exact kk H1 locs1 hr hz hlo
theorem hq_one {b : Nat} {fs : List Value} {h : hH} : hup h b (.inr (5, fs)) = hq b fs 0 h := by
  funext q
  unfold hup hq
  by_cases e : q = b
  · rw [if_pos e, if_pos e]
  · rw [if_neg e, if_neg e, if_neg (by omega)]
theorem oC_0 : (.inl (1, 1, fun _ => .long 0) : hC) = oC 0 := by
  have e : (fun _ : Nat => Value.long 0) = fun j : Nat => if j = 0 then Value.long 0 else .long 0 := by
    funext j
    split <;> rfl
  rw [e]
  rfl
theorem hTw_start {b : Nat} {s : State} (hts : ∀ w ∈ lw_tbl, w.before #[Value.ref b] s = true) (hgv : (Jvm.Cond.and given_1 narrow_1).before #[Value.ref b] s = true) : hTw s.heap s := by
  have hs := flat_of_before _ hgv
  obtain ⟨a1, -, -, -, e1, -⟩ := Cond.exactly_spec (hs (.exactly (.string "GrowingArray" 238) "java/lang/String") (by decide +kernel))
  obtain ⟨a2, -, -, -, e2, -⟩ := Cond.exactly_spec (hs (.exactly (.string "GrowingArray" 245) "java/lang/String") (by decide +kernel))
  have hini := hts (.initialized "java/lang/Throwable") (by decide +kernel)
  refine ⟨⟨a1, vk_R.of (hts (.stringRef RX4 238 "the array is down") (by decide +kernel)) e1⟩, ⟨a2, vk_R.of (hts (.stringRef RX4 245 "there is no such place") (by decide +kernel)) e2⟩, va_Nw.of rfl (hts (.castable seN seN) (by decide +kernel)), va_Nw.of rfl (hts (.castable beN beN) (by decide +kernel)), va_Nc.of (hs (.not (.castable beN seN)) (by decide +kernel)), vx_Zqof (hts _ (by decide +kernel)) hini (hs _ (by decide +kernel)) (fun a ha => Nat.not_le.mpr ha), vx_Zqof (hts _ (by decide +kernel)) hini (hs _ (by decide +kernel)) (fun a ha => Nat.not_le.mpr ha), va_Nw.of rfl (hts _ (by decide +kernel)), va_Nw.of rfl (hts _ (by decide +kernel)), va_Nw.of rfl (hts _ (by decide +kernel))⟩
theorem hKn_start {b : Nat} {s : State} (hts : ∀ w ∈ lw_tbl, w.before #[Value.ref b] s = true) : ∃ D : hD, hKn D s := by
  obtain ⟨c0, i0, k0⟩ := u_known (C := RX0) (T := TX0) (N := 2) (n := 2) hts (fun w hw => wA_in w (inAX0 w hw)) (hts _ (wA_in _ ins_X0))
  obtain ⟨c1, i1, k1⟩ := u_known (C := RX1) (T := TX1) (N := 6) (n := 6) hts (fun w hw => wA_in w (inAX1 w hw)) (hts _ (wA_in _ ins_X1))
  obtain ⟨c2, i2, k2⟩ := u_known (C := RX2) (T := TX2) (N := 7) (n := 7) hts (fun w hw => wA_in w (inAX2 w hw)) (hts _ (wA_in _ ins_X2))
  obtain ⟨c3, i3, k3⟩ := u_known (C := RX3) (T := TX3) (N := 4) (n := 4) hts (fun w hw => wA_in w (inAX3 w hw)) (hts _ (wA_in _ ins_X3))
  obtain ⟨c4, i4, k4⟩ := u_known (C := RX4) (T := TX4) (N := 13) (n := 13) hts (fun w hw => wA_in w (inAX4 w hw)) (hts _ (wA_in _ ins_X4))
  obtain ⟨c5, i5, k5⟩ := u_known (C := RX5) (T := TX5) (N := 26) (n := 26) hts (fun w hw => wA_in w (inAX5 w hw)) (hts _ (wA_in _ ins_X5))
  obtain ⟨cI, kI, compI, f1, f2, f3⟩ := Cond.arrayClass_spec (hts _ (wA_in _ ac_int))
  obtain ⟨cJ, kJ, compJ, h1, h2, h3⟩ := Cond.arrayClass_spec (hts _ (wA_in _ ac_long))
  have hAO : va_AO RX1 s := va_AO.of (hts (.arrayOver (.object RX1)) (by decide +kernel))
  obtain ⟨comp, cD, kD, g1, g2, g3, g4, g5⟩ := Cond.arrayOver_spec hAO
  refine ⟨(fun k => if k = 0 then c0 else if k = 1 then c1 else if k = 2 then c2 else if k = 3 then c3 else if k = 4 then c4 else c5, fun k => if k = 0 then i0 else if k = 1 then i1 else if k = 2 then i2 else if k = 3 then i3 else if k = 4 then i4 else i5, fun k => if k = 0 then cI else if k = 1 then cJ else cD), ⟨fun k q hq => ?_, fun k q hq => ?_⟩, hAO, fun q hq => va_Nw.of rfl (hts _ (nestW_in q hq))⟩
  · match k, hq with
    | 0, hq => cases hq; exact k0
    | 1, hq => cases hq; exact k1
    | 2, hq => cases hq; exact k2
    | 3, hq => cases hq; exact k3
    | 4, hq => cases hq; exact k4
    | 5, hq => cases hq; exact k5
    | k + 6, hq => simp [vwCl] at hq
  · match k, hq with
    | 0, hq => cases hq; exact ⟨fun n z => ⟨fun k h => (by cases h), kI, f2, compI, f3⟩, f1⟩
    | 1, hq => cases hq; exact ⟨fun n z => ⟨fun k h => (by cases h), kJ, h2, compJ, h3⟩, h1⟩
    | 2, hq => cases hq; exact ⟨fun n z => ⟨fun k h => (by cases h), kD, g3, comp, g4⟩, kD, comp, g3, g4, g1, g5⟩
    | k + 3, hq => simp [htys] at hq
set_option maxRecDepth 20000 in
set_option maxHeartbeats 4000000 in
theorem whole_start {p : Program} {e : Env} {s : State} {m : MethodId} {below : List Frame} {meth : Method} {c : Code} (l : Launch) (hst : l.stackTraces = false) {b L : Nat} {xs : Nat → Int32} (hLL : L ≤ 2050) (C0 : lw_At p s m meth c b L xs) : W p l e room_1 s m #[Value.ref b] below meth c s.heap [] 0 0 (lw_Z below #[Value.ref b] s) (entryFrame m ([Value.ref b] : List Value).toArray 8) := by
  obtain ⟨hx, hb, hr0, hml, hown, hts, hX0, hbl, hlocks, hgv⟩ := id C0
  obtain ⟨D, hK⟩ := hKn_start hts
  have hT := hTw_start hts hgv
  have X : hX p m c cL_law 8 s #[Value.ref b] RL D meth ret := ⟨⟨hx, hb, hml, hown, fun w hw => hts w (wA_in w hw)⟩, hK, hr0, hlocks⟩
  have Y : sX b L xs s.heap s := ⟨hX0, hbl⟩
  have hl := lv_entry ([.ref b]) (n := 8) (Nat.le_of_ble_eq_true rfl)
  rw [lg_entry_eq]
  generalize (lg_sl ([.ref b]) ++ List.replicate (8 - (lg_sl ([.ref b])).length) Slot.unset).toArray = ls at hl ⊢
  have hl : lv_has ls 8 [(0, .ref b)] := hl
  have hlo : hL s.heap ([] : List Loc) := hL.nil
  have hr : hR D s.heap hE s.heap := ⟨Nat.le_refl _, fun _ _ => rfl, fun a c h => by cases h⟩
  generalize hsz : s.heap.size = a
  refine h_new X hr hsz (ci := 4) tyX4 tyX4_ok rfl inAX4 kl_L_8 ins_X4 ini_X4 (fs := gF00) (by decide) (Nat.le_of_ble_eq_true rfl) (Nat.le_of_ble_eq_true rfl) dL_law_0 (fun H hr hz => ?_)
  rw [hs_one] at hr
  refine lv_dup X.x X.b dL_law_3 rfl ?_
  refine lv_aload_n X.x X.b dL_law_4 rfl (lv_at hl 0 rfl) ?_
  refine lv_iconst (v := nI 0) X.x X.b dL_law_5 (by decide) ?_
  refine h_cell X Y hr hz hlo 0 (by decide) (by omega) (Nat.le_of_ble_eq_true rfl) hl.1 ⟨(Nat.le_of_ble_eq_true rfl), (Nat.le_of_ble_eq_true rfl)⟩ dL_law_6 (fun H locs hr hz hlo => ?_)
  refine lv_aload_n X.x X.b dL_law_9 rfl (lv_at hl 0 rfl) ?_
  refine lv_iconst (v := nI 1) X.x X.b dL_law_10 (by decide) ?_
  refine h_cell X Y hr hz hlo 1 (by decide) (by omega) (Nat.le_of_ble_eq_true rfl) hl.1 ⟨(Nat.le_of_ble_eq_true rfl), (Nat.le_of_ble_eq_true rfl)⟩ dL_law_11 (fun H locs hr hz hlo => ?_)
  refine h_callI X hr hz hlo (rest := [.ref a]) (gc_4_init l D s.heap a hE (cellV L xs 0) (cellV L xs 1)) yi_X4_init ml_L_44 ⟨(Nat.le_of_ble_eq_true rfl), (Nat.le_of_ble_eq_true rfl)⟩ (Nat.le_of_ble_eq_true rfl) hl.1 ⟨(Nat.le_of_ble_eq_true rfl), (Nat.le_of_ble_eq_true rfl)⟩ rfl dL_law_14 (fun v9 h9 n9 H locs hp hr hz hlo => ?_)
  obtain ⟨rfl, rfl, rfl⟩ := hp
  show W p l e _ s m _ below meth c H locs _ _ _ (F0 m 17 ls [.ref a])
  refine lv_astore_n (lv' := [(1, .ref a), (0, .ref b)]) X.x X.b dL_law_17 rfl hl (by decide) rfl (fun ls hl => ?_)
  refine h_new X hr hz (ci := 5) tyX5 tyX5_ok rfl inAX5 kl_L_47 ins_X5 ini_X5 (fs := mF0) (by decide) (Nat.le_of_ble_eq_true rfl) (Nat.le_of_ble_eq_true rfl) dL_law_18 (fun H hr hz => ?_)
  rw [hq_one] at hr
  refine lv_dup X.x X.b dL_law_21 rfl ?_
  refine lv_aload_n X.x X.b dL_law_22 rfl (lv_at hl 1 rfl) ?_
  refine lv_iconst (v := nI 0) X.x X.b dL_law_23 (by decide) ?_
  refine h_cell X Y hr hz hlo 0 (by decide) (by omega) (Nat.le_of_ble_eq_true rfl) hl.1 ⟨(Nat.le_of_ble_eq_true rfl), (Nat.le_of_ble_eq_true rfl)⟩ dL_law_24 (fun H locs hr hz hlo => ?_)
  refine lv_aload_n X.x X.b dL_law_27 rfl (lv_at hl 1 rfl) ?_
  refine lv_iconst (v := nI 1) X.x X.b dL_law_28 (by decide) ?_
  refine h_cell X Y hr hz hlo 1 (by decide) (by omega) (Nat.le_of_ble_eq_true rfl) hl.1 ⟨(Nat.le_of_ble_eq_true rfl), (Nat.le_of_ble_eq_true rfl)⟩ dL_law_29 (fun H locs hr hz hlo => ?_)
  refine h_callI X hr hz hlo (rest := [.ref (a + 65)]) (mc_init l D s.heap (a + 65) _ (cellV L xs 0) (cellV L xs 1)) yi_X5_init ml_L_49 ⟨(Nat.le_of_ble_eq_true rfl), (Nat.le_of_ble_eq_true rfl)⟩ (Nat.le_of_ble_eq_true rfl) hl.1 ⟨(Nat.le_of_ble_eq_true rfl), (Nat.le_of_ble_eq_true rfl)⟩ rfl dL_law_32 (fun v9 h9 n9 H locs hp hr hz hlo => ?_)
  obtain ⟨rfl, rfl, rfl⟩ := hp
  show W p l e _ s m _ below meth c H locs _ _ _ (F0 m 35 ls [.ref (a + 65)])
  refine lv_astore_n (lv' := [(2, .ref (a + 65)), (1, .ref a), (0, .ref b)]) X.x X.b dL_law_35 rfl hl (by decide) rfl (fun ls hl => ?_)
  refine lv_iconst (v := 1) X.x X.b dL_law_36 (by decide) ?_
  refine h_newJ X hr hz ac_long (N := 1) (by decide) (by decide) (by decide) (Nat.le_of_ble_eq_true rfl) (Nat.le_of_ble_eq_true rfl) dL_law_37 (fun H hr hz => ?_)
  have hr : hR D s.heap (lawH a (mR (cellV L xs 1)) (mN (cellV L xs 0)) (g00 (mN (cellV L xs 0))) (mN (cellV L xs 0)) (mf_init (mR (cellV L xs 1)) (mN (cellV L xs 0))) 0) H := by
    rw [oC_0, show a + 65 + 13 = a + 78 by omega, mput_hup (by omega), gput_hup (by omega), ← lawH_m] at hr
    exact hr
  refine lv_astore_n (lv' := [(3, .ref (a + 78)), (2, .ref (a + 65)), (1, .ref a), (0, .ref b)]) X.x X.b dL_law_39 rfl hl (by decide) rfl (fun ls hl => ?_)
  refine lv_iconst (v := 2) X.x X.b dL_law_40 (by decide) ?_
  refine lv_istore (lv' := [(4, .int 2), (3, .ref (a + 78)), (2, .ref (a + 65)), (1, .ref a), (0, .ref b)]) X.x X.b dL_law_41 hl (by decide) rfl (fun ls hl => ?_)
  have hl2 : lv_has ls 8 [(4, .int (nI (2 + 4 * 0))), (0, .ref b), (1, .ref a), (2, .ref (a + 65)), (3, .ref (a + 78))] := lv_sub hl [0, 4, 3, 2, 1] rfl
  have hN := mN_le (cellV L xs 0)
  have hR9 := mR_le (cellV L xs 1)
  generalize mN (cellV L xs 0) = nd at hr hN
  generalize mR (cellV L xs 1) = R at hr hR9
  refine law_loop X Y hT hst hLL (II R nd) (fun k hk => II_ok R nd hR9 hN k hk) (fun H locs ls h hr hlo => ?_) 513 0 nd _ nd _ 0 _ _ _ H locs ls (by decide) rfl rfl (II_0 R nd hR9 hN) hr hz hlo hl2
  refine lv_iconst (v := 1) X.x X.b dL_law_504 (by decide) ?_
  refine va_forget (fun q hq => hlo q hq) ?_
  exact W.widen (by decide) (by decide) (lw_ret hx hb hr0 hlocks dL_law_505)
set_option maxHeartbeats 4000000 in
theorem lw_walk (l : Launch) (hst : l.stackTraces = false) (b : Addr) (xs : List Int32) : MetFree l x (headSpec (Jvm.Cond.code x code maxLocals ret :: tables_1) room_1) (lw_P b xs) (fun _ _ _ _ _ => True) lw_Q := by
  refine MetFree.of_bodyS (code := code) (maxLocals := maxLocals) (ret := ret) (by decide) ?_ ?_
  · intro args s m h hn
    obtain ⟨meth, c, h1, h2, h3, h4, h5, h6, -, -⟩ := Cond.code_spec hn (atoms_spec (ws := Jvm.Cond.code x code maxLocals ret :: tables_1) h _ List.mem_cons_self)
    exact ⟨meth, c, h1, h2, h3, h4, h5, h6⟩
  · intro p e s m args below meth c s₁ B hml0 hP _
    obtain ⟨rfl, hx, hbd, hgv⟩ := hP
    obtain ⟨scr, harrAt, hlist, hof, hsmall⟩ := hx
    obtain ⟨hcb, hkn, -, -⟩ := State.arrayAt?_spec harrAt
    have hown : s.vm.findClass R_law = some m.cls := findClass_of_methodNamed B.named
    have hts0 : ∀ c ∈ (Jvm.Cond.code x code maxLocals ret :: tables_1), c.before #[Value.ref b] s = true := atoms_spec (ws := Jvm.Cond.code x code maxLocals ret :: tables_1) B.pre
    have hts : ∀ w ∈ lw_tbl, w.before #[Value.ref b] s = true := k2_hts_sels lw_privs (fun w hw => hts0 w (List.mem_cons_of_mem _ hw)) lw_privs_ok
    have hml : c.maxLocals = 8 := B.maxLocals_eq (hts0 _ List.mem_cons_self)
    have X₀ : Stand p l e room_1 s m #[Value.ref b] below meth c s₁ [] 0 0 := Stand.of_body B
    have hh0 : s₁.heap = s.heap := by rw [B.state]; rfl
    have hsz : scr.slots.size = xs.length := by rw [← Array.length_toList, hlist, List.length_map]
    have hval : ∀ j : Nat, j < xs.length → scr.slots[j]? = some (.int (xs.getD j 0)) := fun j hj => by
      rw [← Array.getElem?_toList, hlist]
      simp [hj]
    have hbl : b < s.heap.size := (Array.getElem?_eq_some_iff.mp hcb).1
    have hX : va_X b xs.length (fun j => xs.getD j 0) s s.heap := ⟨scr, hcb, hof, hkn, hsz, hval⟩
    have K : W p l e room_1 s m #[Value.ref b] below meth c s₁.heap [] 0 0 (lw_Z below #[Value.ref b] s) (entryFrame m ([Value.ref b] : List Value).toArray 8) := by
      rw [hh0]
      exact whole_start l hst hbd ⟨B.exec, B.bytes, B.returns, hml, hown, hts, hX, hbl, B.notSynchronized, hgv⟩
    obtain ⟨t, a1, o, b1, b2, b3⟩ := K s₁ rfl X₀
    exact ⟨t, o, a1, b1, b2, b3⟩
theorem lw_pre_spec {args : Array Value} {s : State} (h : (Jvm.Cond.and given_1 narrow_1).before args s = true) (hr : rest_1_c.before args s = true) : ∃ (b : Addr) (xs : List Int32), lw_P b xs args s := by
  have hs := flat_of_before _ h
  have hq := flat_of_before _ hr
  have hc : (Cond.count 1).before args s = true := hs _ (by decide +kernel)
  have harr : (Cond.arrayOf (.arg 0) .int).before args s = true := hs _ (by decide +kernel)
  have hle : (Cond.le (.length (.arg 0)) (.int 2050)).before args s = true := hs _ (by decide +kernel)
  have hlen : (Cond.isInt (.length (.arg 0))).before args s = true := hq _ (by decide +kernel)
  have hall : (Cond.all (.arg 0) (.isInt (.elem (.arg 0) (.index 0)))).before args s = true := hq _ (by decide +kernel)
  obtain ⟨b, xs, hb, hx⟩ := State.ints_of_pre rfl harr hlen hall
  have hsm : xs.length < 2 ^ 31 := hx.choose_spec.2.2.2
  have hev : (Term.length (.arg 0)).eval args s none [] s = some (.int xs.length.toInt32) := hx.length_eval hb
  have hv := Cond.le_ints hev (show (Term.int 2050).eval args s none [] s = some (.int 2050) from rfl)
  have hd : xs.length.toInt32 ≤ 2050 := by
    simpa [Cond.before, Cond.holds, hv] using hle
  have hN : xs.length ≤ 2050 := (Int32.ofNat_le_ofNat hsm (by decide)).mp (show Int32.ofNat xs.length ≤ Int32.ofNat 2050 from hd)
  exact ⟨b, xs, Cond.one_arg hc (show args[0]? = some (.ref b) from hb), hx, hN, h⟩
theorem lw_comes (l : Launch) (hst : l.stackTraces = false) : Comes l x (Jvm.Cond.code x code maxLocals ret :: tables_1) room_1 (fun tb e args s => Calls_1 tb e args s ∧ rest_1 tb e args s ∧ Pre_1 tb e args s)
    (fun _ _ args s o t => lw_Q args s o t) := by
  intro p e ha hc hk s m args below hf hfit hheap happ hpre
  obtain ⟨b, xs, hP⟩ := lw_pre_spec hpre.2.2 hpre.2.1
  obtain ⟨k, o, h1, h2, h3, hQ⟩ := lw_walk l hst b xs p e ha hc hk s m args below hf ((Spec.applies_iff_loose hf).mp happ).1 hP trivial
  exact ⟨k, o, h1, h2, h3, hQ⟩
theorem lw_frame {s t : State} {o : Outcome} {args : Array Value} (h : Framed s o t [] 601024 7293000) :
    Framed s o t (fieldLocs frame_1_writes args s ++ arrayLocs frame_1_arrays args s ++ staticLocs frame_1_statics s) 601024 7293000 := h
theorem lw_limb (L : Cond) (hL : ∀ (args : Array Value) (s t : State), L.after args s (.returned (some (.int 1))) t = true) :
    ArmFor flags0 classFile x code maxLocals ret World_1 tables_1 room_1 Calls_1 rest_1 Pre_1
      (fun tb e a s o t => postC L tb e a s o t ∧ Framed s o t (fieldLocs frame_1_writes a s ++ arrayLocs frame_1_arrays a s ++ staticLocs frame_1_statics s) 601024 7293000) := by
  intro l hfl _ _
  have hst : l.stackTraces = false := by unfold Launch.stackTraces; rw [hfl]; decide +kernel
  intro p e ha hc hk s m args below hf hfit hheap happ hpre
  obtain ⟨k, o, h1, h2, h3, rfl, hF⟩ := lw_comes l hst p e ha hc hk s m args below hf hfit hheap happ hpre
  exact ⟨k, _, h1, h2, h3, hL args s _, lw_frame hF⟩
theorem i_vc : Claimed_1_1 ∧ Claimed_1_2 := ⟨lw_limb limb_1_1 (fun args s t => by simp [limb_1_1, Cond.after, Cond.holds, Cond.value]), lw_limb limb_1_2 (fun args s t => Cond.after_iff.mpr (by
  first | (rw [show limb_1_2 = Cond.eq .result (.int 1) from rfl, Cond.eq_ints (x := 1) (y := 1) rfl rfl]; simp; done) | (simp [limb_1_2, Cond.value, Term.eval]; done)))⟩

