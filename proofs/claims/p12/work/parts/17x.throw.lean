/-! ===== THROWS of the class: what they rest on; contracts of methods that return or throw ===== -/
abbrev seN : String := "java/lang/IllegalStateException"
abbrev beN : String := "java/lang/IndexOutOfBoundsException"
abbrev iS (X : String) : MethodName := ⟨X, "<init>", "(Ljava/lang/String;)V"⟩
abbrev noW (E : String) : List Cond := [.castable E E, .declares (iS "java/lang/RuntimeException"), .declares (iS "java/lang/Exception"), .declares (iS "java/lang/Throwable")]
def noC (U : State) : Prop := va_Nw (.declares (iS "java/lang/RuntimeException")) U ∧ va_Nw (.declares (iS "java/lang/Exception")) U ∧ va_Nw (.declares (iS "java/lang/Throwable")) U
def seW : List Cond := vx_atS RX4 240 seN ["java/lang/RuntimeException", "java/lang/Exception"]
def beW : List Cond := vx_atS RX4 247 beN ["java/lang/RuntimeException", "java/lang/Exception"]
theorem ini_se : Cond.initialized seN ∈ wA := List.mem_filter.mpr ⟨by decide +kernel, rfl⟩
theorem ini_be : Cond.initialized beN ∈ wA := List.mem_filter.mpr ⟨by decide +kernel, rfl⟩
theorem seW_in : ∀ w ∈ seW.filter goodWord, w ∈ wA := fun w h => List.mem_filter.mpr ⟨(by decide +kernel : ∀ w ∈ seW.filter goodWord, w ∈ lw_tbl) w h, (List.mem_filter.mp h).2⟩
theorem beW_in : ∀ w ∈ beW.filter goodWord, w ∈ wA := fun w h => List.mem_filter.mpr ⟨(by decide +kernel : ∀ w ∈ beW.filter goodWord, w ∈ lw_tbl) w h, (List.mem_filter.mp h).2⟩
theorem seW_no : ∀ w ∈ seW.filter (fun w => !goodWord w), w ∈ noW seN := by decide +kernel
theorem beW_no : ∀ w ∈ beW.filter (fun w => !goodWord w), w ∈ noW beN := by decide +kernel
theorem seW_ot : ∀ w ∈ Cond.classLink RX4 236 seN :: Cond.initialized seN :: seW, vx_ot w = true := by decide +kernel
theorem beW_ot : ∀ w ∈ Cond.classLink RX4 243 beN :: Cond.initialized beN :: beW, vx_ot w = true := by decide +kernel
/-- strings, classes, Throwable's two statics -/
def hTw (H0 : Heap) (U : State) : Prop := (∃ sa : Nat, vk_R RX4 238 "the array is down" sa U) ∧ (∃ sa : Nat, vk_R RX4 245 "there is no such place" sa U) ∧ va_Nw (.castable seN seN) U ∧ va_Nw (.castable beN beN) U ∧ va_Nc beN seN U ∧ vx_Zq Bundle.tN "UNASSIGNED_STACK" Bundle.steD (hF H0) U H0 ∧ vx_Zq Bundle.tN "SUPPRESSED_SENTINEL" Bundle.listD (hF H0) U H0 ∧ noC U
theorem hTw.warm {H0 : Heap} {u U : State} (hW : u.WarmedH U.vm) (h : hTw H0 u) : hTw H0 U := by
  obtain ⟨⟨s1, h1⟩, ⟨s2, h2⟩, h3, h4, h5, h6, h7, h8, h9, h10⟩ := h
  exact ⟨⟨s1, vk_R.warm hW h1⟩, ⟨s2, vk_R.warm hW h2⟩, va_Nw.warmC hW h3, va_Nw.warmC hW h4, va_Nc.moved hW.alike h5, vx_Zq.moved hW.alike h6, vx_Zq.moved hW.alike h7, va_Nw.warmD hW h8, va_Nw.warmD hW h9, va_Nw.warmD hW h10⟩
theorem hTw.same {H0 : Heap} {u U : State} (hv : u.vm = U.vm) (h : hTw H0 u) : hTw H0 U := by
  obtain ⟨⟨s1, h1⟩, ⟨s2, h2⟩, h3, h4, h5, h6, h7, h8, h9, h10⟩ := h
  have ha : u.vm.Alike U.vm := by rw [hv]; exact Vm.Alike.refl _
  exact ⟨⟨s1, vk_R.same hv.symm h1⟩, ⟨s2, vk_R.same hv.symm h2⟩, va_Nw.same rfl hv h3, va_Nw.same rfl hv h4, va_Nc.moved ha h5, vx_Zq.moved ha h6, vx_Zq.moved ha h7, va_Nw.same rfl hv h8, va_Nw.same rfl hv h9, va_Nw.same rfl hv h10⟩
theorem hR.mono {D : hD} {H0 : Heap} {h : hH} {H H1 : Heap} (hr : hR D H0 h H) (hz : H.size ≤ H1.size) (ho : ∀ q : Nat, q < H.size → H1[q]? = H[q]?) : hR D H0 h H1 :=
  ⟨Nat.le_trans hr.1 hz, fun q hq => by rw [ho q (Nat.lt_of_lt_of_le hq hr.1)]; exact hr.2.1 q hq, fun a c hc => ⟨(hr.2.2 a c hc).1, (hr.2.2 a c hc).2.kept (ho a (hr.lt hc))⟩⟩
/-- the start of a method that may throw; what it leaves where it throws: a class, the heap h, perhaps more cells -/
def cPx (D : hD) (H0 : Heap) (h : hH) (n : Nat) (av : List Value) : Array Value → State → Prop := fun v U => cP D H0 h n av v U ∧ hTw H0 U
theorem cPx.blind {D : hD} {H0 : Heap} {h : hH} {n : Nat} {av : List Value} : FrameBlind (cPx D H0 h n av) := fun a U g mk q => ⟨cP.blind a U g mk q.1, hTw.same (u := U) (U := U.calling g mk a) rfl q.2⟩
def cXC (D : hD) (H0 : Heap) (h : hH) (n : Nat) (px : String → Prop) : String → State → State → Prop := fun E _ t => px E ∧ hR D H0 h t.heap ∧ n ≤ t.heap.size
abbrev cMx (l : Launch) (D : hD) (H0 : Heap) (y : MethodName) (bytes : ByteArray) (maxL : Nat) (ret : Option FieldType) (f lo mc ms : Nat) (av : List Value) (h : hH) (n : Nat) (post : Option Value → hH → Nat → Prop) (px : String → Prop) : Prop :=
  vx_Met l y (wY y bytes maxL ret) (rmk f lo mc ms) (cPx D H0 h n av) (cQ D H0 post) (cXC D H0 h n px) mc ms (hF H0)
section HTHROW
variable {p : Program} {l : Launch} {e : Env} {R : Room} {s : State} {m : MethodId} {args : Array Value} {below : List Frame} {meth : Method} {c : Code} {H : Heap} {locs : List Loc} {cells slots : Nat} {Q : State → Prop}
variable {cc : ByteArray} {pc nL : Nat} {ls : Array Slot} {rest : List Value} {D : hD} {H0 : Heap} {h : hH} {own : String} {ret : Option FieldType} {n : Nat}
/-- inside a method that may throw: no handler, the strings and statics, the heap at its start -/
def hXx (D : hD) (H0 : Heap) (h : hH) (n : Nat) (s : State) (c : Code) : Prop := (∀ x ∈ c.exceptionTable.toList, False) ∧ hTw H0 s ∧ hR D H0 h s.heap ∧ s.heap.size = n
theorem h_metX {y : MethodName} {bytes : ByteArray} {maxL f lo mc ms : Nat} {av : List Value} {post : Option Value → hH → Nat → Prop} {px : String → Prop} (hy : plainName y.cls = true) (hlen : (lg_sl av).length ≤ maxL)
    (body : ∀ (p : Program) (e : Env) (s : State) (m : MethodId) (below : List Frame) (meth : Method) (c : Code) (H : Heap) (ls : Array Slot), hX p m c bytes maxL s av.toArray y.cls D meth ret → hXx D H0 h n s c → hR D H0 h H → H.size = n → lv_has ls maxL (lv_args 0 av) →
      W p l e (rmk f lo mc ms) s m av.toArray below meth c H [] 0 0 (vx_MQ below (cQ D H0 post) (cXC D H0 h n px) av.toArray s mc ms (hF H0)) (F0 m 0 ls [])) : cMx l D H0 y bytes maxL ret f lo mc ms av h n post px := by
  refine vx_ofW (cc := bytes) (maxL := maxL) (ret := ret) hy rfl ?_
  intro p e s m args below meth c s₁ B hml ht hv
  obtain ⟨⟨rfl, hr, hn, hK⟩, hT⟩ := hv
  have hts := atoms_spec (ws := wY y bytes maxL ret) B.pre
  have hl := lv_entry av hlen
  rw [lg_entry_eq]
  exact body p e s m below meth c s.heap _ ⟨⟨B.exec, B.bytes, hml, findClass_of_methodNamed B.named, fun w hw => hts w (List.mem_cons_of_mem _ hw)⟩, hK, B.returns, B.notSynchronized⟩ ⟨ht, hT, hr, hn⟩ hr hn hl
theorem h_throw {post : Option Value → hH → Nat → Prop} {px : String → Prop} {mc ms : Nat} (hl : l.stackTraces = false) (X : hX p m c cc nL s args RX4 D meth ret) (Y : hXx D H0 h n s c) (hr : hR D H0 h H) (hz : H.size = n) (hlo : hL H0 locs) {E tx : String} {ik is ic sa : Nat} {names : List String} {ws : List Cond}
    (hW : ws = vx_atS RX4 ic E names) (hE : Bundle.fit E = true) (hN : ∀ x ∈ names, Bundle.fit x = true) (hk : Cond.classLink RX4 ik E ∈ wA) (hi : Cond.initialized E ∈ wA) (hin : ∀ w ∈ ws.filter goodWord, w ∈ wA) (hno : ∀ w ∈ ws.filter (fun w => !goodWord w), w ∈ noW E) (hca : va_Nw (.castable E E) s)
    (hot : ∀ w ∈ Cond.classLink RX4 ik E :: Cond.initialized E :: ws, vx_ot w = true) (hstr : vk_R RX4 is tx sa s) (hsize : ls.size = nL)
    (d0 : decode cc pc = .ok (.new ik, 3)) (d3 : decode cc (pc + 3) = .ok (.dup, 1)) (d4 : decode cc (pc + 4) = .ok (.ldc is, 2)) (d6 : decode cc (pc + 6) = .ok (.invokespecial ic, 3)) (d9 : decode cc (pc + 9) = .ok (.athrow, 1))
    (hRf : names.length + 3 < R.frames) (hRl : (rest.map fun v => v.category).sum + (13 * (names.length + 1) + 43) ≤ R.locals) (hRc : cells + 1 ≤ R.cells) (hRs : slots + 6 ≤ R.slots) (hc : cells + 1 ≤ mc) (hs : slots + 6 ≤ ms) (hp : px E) :
    W p l e R s m args below meth c H locs cells slots (vx_MQ below (cQ D H0 post) (cXC D H0 h n px) args s mc ms (hF H0)) (F0 m pc ls rest) := by
  subst hW
  obtain ⟨ht, hT, hr0, hz0⟩ := Y
  have keep : ∀ a : Nat, a < H0.size → ¬ hF H0 a → s.heap[a]? = H0[a]? := fun a ha _ => hr0.2.1 a ha
  refine vx_throwS (cc := cc) (pc := pc) (text := tx) (names := names) (A := hF H0) X.x X.b hl X.ow hE hN (X.w hk) (X.w hi) hstr (vx_hat (fun w hw => X.w (hin w hw)) hno (vx_c (va_Nw.use rfl hca) (vx_c (va_Nw.use rfl hT.2.2.2.2.2.2.2.1) (vx_c (va_Nw.use rfl hT.2.2.2.2.2.2.2.2.1) (vx_c (va_Nw.use rfl hT.2.2.2.2.2.2.2.2.2) vx_n))))) hot (hT.2.2.2.2.2.1.kept keep) (hT.2.2.2.2.2.2.1.kept keep) ⟨by omega, fun q hq hA => ?_, hlo⟩ (by rw [X.1.2.2.1]; exact hsize) d0 d3 d4 d6 d9 (fun x hx => (ht x hx).elim) hRf hRl hRc hRs X.2.2.2 (fun t _ h1 h2 => ⟨hp, hr.mono h1 h2, by omega⟩) hlo hc hs
  have hq0 : q < H0.size := Nat.not_le.mp hA
  rw [hr.2.1 q hq0, hr0.2.1 q hq0]
/-- a call of a method that may throw: the throw goes on to the caller -/
theorem h_goX {mc ms : Nat} {st0 : List Value} {a : Array Value} {post : Option Value → hH → Nat → Prop} {px : String → Prop} (hrun : vx_Run p l e R s m args below meth c H locs cells slots mc ms (F0 m pc ls st0) rest (cQ D H0 post a) (cXC D H0 h n px) (hF H0)) (hlo : hL H0 locs)
    (kk : ∀ (v : Option Value) (h' : hH) (n' : Nat) (H1 : Heap) (locs1 : List Loc), post v h' n' → hR D H0 h' H1 → H1.size = n' → hL H0 locs1 → W p l e R s m args below meth c H1 locs1 (cells + mc) (slots + ms) Q (F0 m (pc + 3) ls (v.toList ++ rest)))
    (kx : ∀ (E : String) (q : Addr) (ce : Cell) (H1 : Heap) (locs1 : List Loc), px E → hR D H0 h H1 → n ≤ H1.size → hL H0 locs1 → H1[q]? = some ce → ce.vm = .none → s.vm.findClass E = some ce.cls → vx_W p l e R s m args below meth c H1 locs1 (cells + mc) (slots + ms) Q (F0 m pc ls rest) q) : W p l e R s m args below meth c H locs cells slots Q (F0 m pc ls st0) := by
  intro T hT X
  rcases hrun T hT X with ⟨v, st₀, t, T', L, h0, X', hL', e1, e2, ⟨v', h', n', ho, hp, hR', hz'⟩, st⟩ | ⟨q, st₀, t, T', L, E, ce, h0, X', hL', e1, e2, ⟨hpx, hR', hn'⟩, hce, hcv, hcl, st⟩
  · cases ho
    obtain ⟨t2, a1, b1⟩ := kk v h' n' T'.heap (locs ++ L) hp (by rw [e1]; exact hR') (by rw [e1]; exact hz') (hlo.add hL') T' rfl X'
    exact ⟨t2, st t2 a1, b1⟩
  · obtain ⟨t2, a1, b1⟩ := kx E q ce T'.heap (locs ++ L) hpx (by rw [e1]; exact hR') (by rw [e1]; exact hn') (hlo.add hL') (by rw [e1]; exact hce) hcv hcl T' rfl X'
    exact ⟨t2, st.trans a1, b1⟩
theorem h_callVx (X : hX p m c cc nL s args own D meth ret) (hT : hTw H0 s) (hr : hR D H0 h H) (hz : H.size = n) (hlo : hL H0 locs) {y : MethodName} {bytes : ByteArray} {maxL f lo mc ms ci b index N : Nat} {rt : Option FieldType} {C : String} {T : u_T} {fs As st : List Value} {post : Option Value → hH → Nat → Prop} {px : String → Prop}
    (hM : cMx l D H0 y bytes maxL rt f lo mc ms (.ref b :: As) h n post px) (hb : h b = some (.inr (ci, fs))) (hc : vwCl[ci]? = some (C, T, N)) (hy : yV y bytes maxL rt C As.length) (hl : Cond.methodLink own index y ∈ wA) (hroom : f + 1 ≤ R.frames ∧ 8 + (maxL + 11) + lo ≤ R.locals) (hst : (rest.map fun v => v.category).sum ≤ 8) (hls : ls.size = nL) (hcs : cells + mc ≤ R.cells ∧ slots + ms ≤ R.slots) (hstk : st = As.reverse ++ .ref b :: rest) (hdg : decode cc pc = .ok (.invokevirtual index, 3))
    (kk : ∀ (v : Option Value) (h' : hH) (n' : Nat) (H1 : Heap) (locs1 : List Loc), post v h' n' → hR D H0 h' H1 → H1.size = n' → hL H0 locs1 → W p l e R s m args below meth c H1 locs1 (cells + mc) (slots + ms) Q (F0 m (pc + 3) ls (v.toList ++ rest)))
    (kx : ∀ (E : String) (q : Addr) (ce : Cell) (H1 : Heap) (locs1 : List Loc), px E → hR D H0 h H1 → n ≤ H1.size → hL H0 locs1 → H1[q]? = some ce → ce.vm = .none → s.vm.findClass E = some ce.cls → vx_W p l e R s m args below meth c H1 locs1 (cells + mc) (slots + ms) Q (F0 m pc ls rest) q) : W p l e R s m args below meth c H locs cells slots Q (F0 m pc ls st) := by
  obtain ⟨hw, hcl, hd⟩ := hy
  subst hstk
  have hts := X.1.2.2.2.2
  have hini : (Cond.initialized y.cls).before args s = true := by rw [hcl]; exact X.w (hw _ (by simp))
  refine h_goX (vx_runV (C := C) (b := b) (As := As) (rest := rest) X.1 hM ⟨callB_of As.length hts (wY_good (hw _ (by simp))) rfl rfl rfl hini (X.w hl) hd hroom, X.w (hw _ (by simp)), X.w (hw _ (by simp))⟩ ⟨cPx.blind, ?_, fun U hU hW => ⟨⟨rfl, by rw [hU]; exact hr, by rw [hU]; exact hz, X.2.1.warm hW⟩, hT.warm hW⟩⟩ rfl rfl hls rfl (lv_room hst) hdg hcs) hlo kk kx
  obtain ⟨-, r, h1, cell, q1, q2, q3, -⟩ := hr.2.2 b _ hb
  exact ⟨cell, q1, by rw [q3]; rfl, by rw [q2]; exact (X.2.1.1.1 ci _ hc).2.1⟩
/-- it leaves this method too -/
theorem h_out {post : Option Value → hH → Nat → Prop} {px : String → Prop} {mc ms : Nat} (X : hX p m c cc nL s args own D meth ret) (ht : ∀ x ∈ c.exceptionTable.toList, False) {E : String} {q : Addr} {ce : Cell} (hr : hR D H0 h H) (hz : n ≤ H.size) (hlo : hL H0 locs) (hce : H[q]? = some ce) (hcv : ce.vm = .none) (hcl : s.vm.findClass E = some ce.cls) (hp : px E) (hc : cells ≤ mc) (hs : slots ≤ ms) :
    vx_W p l e R s m args below meth c H locs cells slots (vx_MQ below (cQ D H0 post) (cXC D H0 h n px) args s mc ms (hF H0)) (F0 m pc ls rest) q :=
  vx_out (E := E) (fun x hx => (ht x hx).elim) X.2.2.2 hce hcv hcl (fun t h1 _ => ⟨hp, by rw [h1]; exact hr, by rw [h1]; exact hz⟩) hlo hc hs
end HTHROW
set_option maxRecDepth 20000 in
theorem gc_4_refuseIfDown (l : Launch) (D : hD) (H0 : Heap) (a R nd : Nat) (g : GS) (h0 : hH) (n : Nat) (hst : l.stackTraces = false) (hnd : nd ≤ 10) (hRR : R ≤ 48) : cMx l D H0 yX4_refuseIfDown cX4_refuseIfDown 1 none 6 82 1 6 [.ref a] (gput a R nd g h0) n (fun v9 h9 n9 => ¬ g.1 1 = 0 ∧ cE none (gput a R nd g h0) n v9 h9 n9) (fun E9 => g.1 1 = 0 ∧ E9 = seN) := by
  refine h_metX (by decide) (Nat.le_of_ble_eq_true rfl) ?_
  intro p e s m below meth c H ls X Y hr hz hl
  have hl : lv_has ls 1 [(0, .ref a)] := hl
  have hlo : hL H0 ([] : List Loc) := hL.nil
  refine lv_aload_n X.x X.b dX4_refuseIfDown_0 rfl (lv_at hl 0 rfl) ?_
  refine h_get X hr fd_X4_54 gput_o (v := .int (g.1 1)) rfl dX4_refuseIfDown_1 ?_
  refine lv_if_ne (tgt := 17) X.x X.b dX4_refuseIfDown_4 (by decide) (fun c4 => ?_) (fun c4 => ?_)
  · exact vx_ret (h_vret X hr hz hlo ⟨c4, rfl, rfl, rfl⟩ (Nat.le_of_ble_eq_true rfl) (Nat.le_of_ble_eq_true rfl) dX4_refuseIfDown_17)
  · obtain ⟨⟨sa, h1⟩, -, h3, -⟩ := id Y.2.1
    exact h_throw hst X Y hr hz hlo (E := seN) (names := ["java/lang/RuntimeException", "java/lang/Exception"]) (ws := seW) rfl (by decide +kernel) (by decide +kernel) kl_X4_236 ini_se seW_in seW_no h3 seW_ot h1 hl.1 dX4_refuseIfDown_7 dX4_refuseIfDown_10 dX4_refuseIfDown_11 dX4_refuseIfDown_13 dX4_refuseIfDown_16 (Nat.le_of_ble_eq_true rfl) (Nat.le_of_ble_eq_true rfl) (Nat.le_of_ble_eq_true rfl) (Nat.le_of_ble_eq_true rfl) (Nat.le_of_ble_eq_true rfl) (Nat.le_of_ble_eq_true rfl) ⟨c4, rfl⟩
set_option maxRecDepth 20000 in
theorem gc_4_refuseIfNoPlace (l : Launch) (D : hD) (H0 : Heap) (a R nd : Nat) (g : GS) (h0 : hH) (n : Nat) (x : Int32) (hst : l.stackTraces = false) (hnd : nd ≤ 10) (hRR : R ≤ 48) : cMx l D H0 yX4_refuseIfNoPlace cX4_refuseIfNoPlace 2 none 6 82 1 6 [.ref a, .int x] (gput a R nd g h0) n (fun v9 h9 n9 => ¬ gf_4_isPlace R nd g x = 0 ∧ cE none (gput a R nd g h0) n v9 h9 n9) (fun E9 => gf_4_isPlace R nd g x = 0 ∧ E9 = beN) := by
  refine h_metX (by decide) (Nat.le_of_ble_eq_true rfl) ?_
  intro p e s m below meth c H ls X Y hr hz hl
  have hl : lv_has ls 2 [(0, .ref a), (1, .int x)] := hl
  have hlo : hL H0 ([] : List Loc) := hL.nil
  refine lv_aload_n X.x X.b dX4_refuseIfNoPlace_0 rfl (lv_at hl 0 rfl) ?_
  refine lv_iload_n X.x X.b dX4_refuseIfNoPlace_1 rfl (lv_at hl 1 rfl) ?_
  refine h_callV X hr hz hlo (rest := []) (gc_4_isPlace l D H0 a R nd g h0 n x hnd hRR) gput_o rfl yv_X4_isPlace ml_X4_185 ⟨(Nat.le_of_ble_eq_true rfl), (Nat.le_of_ble_eq_true rfl)⟩ (Nat.le_of_ble_eq_true rfl) hl.1 ⟨(Nat.le_of_ble_eq_true rfl), (Nat.le_of_ble_eq_true rfl)⟩ rfl dX4_refuseIfNoPlace_2 (fun v9 h9 n9 H locs hp hr hz hlo => ?_)
  obtain ⟨rfl, rfl, rfl⟩ := hp
  show W p l e _ s m _ below meth c H locs _ _ _ (F0 m 5 ls [.int (gf_4_isPlace R nd g x)])
  refine lv_if_ne (tgt := 18) X.x X.b dX4_refuseIfNoPlace_5 (by decide) (fun c5 => ?_) (fun c5 => ?_)
  · exact vx_ret (h_vret X hr hz hlo ⟨c5, rfl, rfl, rfl⟩ (Nat.le_of_ble_eq_true rfl) (Nat.le_of_ble_eq_true rfl) dX4_refuseIfNoPlace_18)
  · obtain ⟨-, ⟨sa, h1⟩, -, h3, -⟩ := id Y.2.1
    exact h_throw hst X Y hr hz hlo (E := beN) (names := ["java/lang/RuntimeException", "java/lang/Exception"]) (ws := beW) rfl (by decide +kernel) (by decide +kernel) kl_X4_243 ini_be beW_in beW_no h3 beW_ot h1 hl.1 dX4_refuseIfNoPlace_8 dX4_refuseIfNoPlace_11 dX4_refuseIfNoPlace_12 dX4_refuseIfNoPlace_14 dX4_refuseIfNoPlace_17 (Nat.le_of_ble_eq_true rfl) (Nat.le_of_ble_eq_true rfl) (Nat.le_of_ble_eq_true rfl) (Nat.le_of_ble_eq_true rfl) (Nat.le_of_ble_eq_true rfl) (Nat.le_of_ble_eq_true rfl) ⟨c5, rfl⟩
