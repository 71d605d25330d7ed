/-! ===== CONTRACTS over the heap as a function; their starts, ends and calls ===== -/
/-- a contract's start: these arguments, the heap h of n cells -/
def cP (D : hD) (H0 : Heap) (h : hH) (n : Nat) (av : List Value) : Array Value → State → Prop := fun v U => v = av.toArray ∧ hR D H0 h U.heap ∧ U.heap.size = n ∧ hKn D U
theorem cP.blind {D : hD} {H0 : Heap} {h : hH} {n : Nat} {av : List Value} : FrameBlind (cP D H0 h n av) := fun a U g mk q => ⟨q.1, q.2.1, q.2.2.1, hKn.same (u := U) (U := U.calling g mk a) rfl q.2.2.2⟩
/-- its end, if it returns: the answer, the heap, the number of cells -/
def cQ (D : hD) (H0 : Heap) (post : Option Value → hH → Nat → Prop) : Array Value → State → Outcome → State → Prop := fun _ _ o t => ∃ (v : Option Value) (h : hH) (n : Nat), o = .returned v ∧ post v h n ∧ hR D H0 h t.heap ∧ t.heap.size = n
abbrev hF (H0 : Heap) : Addr → Prop := fun q => H0.size ≤ q
abbrev rmk (f lo mc ms : Nat) : Room := { frames := f, cells := mc, slots := ms, locals := lo }
/-- the contract: frames and words that it needs, cells and slots that it may make -/
abbrev cM (l : Launch) (D : hD) (H0 : Heap) (y : MethodName) (bytes : ByteArray) (maxL : Nat) (ret : Option FieldType) (f lo mc ms : Nat) (av : List Value) (h : hH) (n : Nat) (post : Option Value → hH → Nat → Prop) : Prop :=
  Met l y (wY y bytes maxL ret) (rmk f lo mc ms) (cP D H0 h n av) (cQ D H0 post) mc ms (hF H0)
/-- what the words say of an instance method that is called on an object of its own class -/
def yV (y : MethodName) (bytes : ByteArray) (maxL : Nat) (ret : Option FieldType) (C : String) (k : Nat) : Prop := (∀ w ∈ ([.instanceMethod y, .selects C y y, .initialized C, .code y bytes maxL ret] : List Cond), w ∈ wA) ∧ y.cls = C ∧ y.cls ≠ "java/lang/invoke/MethodHandle" ∧ y.cls ≠ "java/lang/invoke/VarHandle" ∧ (parseMethodDescriptor y.desc).map (fun d => d.parameters.length) = some k
/-- .. of a static one -/
def yS (y : MethodName) (bytes : ByteArray) (maxL : Nat) (ret : Option FieldType) (k : Nat) : Prop := (∀ w ∈ ([.static y, .initialized y.cls, .code y bytes maxL ret] : List Cond), w ∈ wA) ∧ y.cls ≠ "java/lang/invoke/MethodHandle" ∧ y.cls ≠ "java/lang/invoke/VarHandle" ∧ (parseMethodDescriptor y.desc).map (fun d => d.parameters.length) = some k
/-- .. of a constructor -/
def yI (y : MethodName) (bytes : ByteArray) (maxL : Nat) (k : Nat) : Prop := (∀ w ∈ ([.instanceMethod y, .initialized y.cls, .code y bytes maxL none] : List Cond), w ∈ wA) ∧ y.name = "<init>" ∧ y.cls ≠ "java/lang/invoke/MethodHandle" ∧ y.cls ≠ "java/lang/invoke/VarHandle" ∧ (parseMethodDescriptor y.desc).map (fun d => d.parameters.length) = some k
section HCALL
variable {p : Program} {l : Launch} {e : Env} {R : Room} {s : State} {m : MethodId} {args : Array Value} {below : List Frame} {meth : Method} {c : Code} {H : Heap} {locs : List Loc} {cells slots : Nat} {Q : State → Prop}
variable {cc : ByteArray} {pc nL : Nat} {ls : Array Slot} {rest : List Value} {D : hD} {H0 : Heap} {h : hH} {own : String} {ret : Option FieldType} {n : Nat}
theorem h_met {y : MethodName} {bytes : ByteArray} {maxL f lo mc ms : Nat} {av : List Value} {post : Option Value → hH → Nat → Prop} (hy : plainName y.cls = true) (hlen : (lg_sl av).length ≤ maxL)
    (body : ∀ (p : Program) (e : Env) (s : State) (m : MethodId) (below : List Frame) (meth : Method) (c : Code) (H : Heap) (ls : Array Slot), hX p m c bytes maxL s av.toArray y.cls D meth ret → meth.name = y.name → hR D H0 h H → H.size = n → lv_has ls maxL (lv_args 0 av) →
      W p l e (rmk f lo mc ms) s m av.toArray below meth c H [] 0 0 (MQ below (cQ D H0 post) av.toArray s mc ms (hF H0)) (F0 m 0 ls [])) : cM l D H0 y bytes maxL ret f lo mc ms av h n post := by
  refine Met.ofW (cc := bytes) (maxL := maxL) (ret := ret) hy rfl ?_
  intro p e s m args below meth c s₁ B hml hv
  obtain ⟨rfl, hr, hn, hK⟩ := hv
  have hts := atoms_spec (ws := wY y bytes maxL ret) B.pre
  have hl := lv_entry av hlen
  rw [lg_entry_eq]
  exact body p e s m below meth c s.heap _ ⟨⟨B.exec, B.bytes, hml, findClass_of_methodNamed B.named, fun w hw => hts w (List.mem_cons_of_mem _ hw)⟩, hK, B.returns, B.notSynchronized⟩ (name_of_methodNamed B.named B.method).1 hr hn hl
theorem h_iret {post : Option Value → hH → Nat → Prop} {mc ms : Nat} (X : hX p m c cc nL s args own D meth (some .int)) (hr : hR D H0 h H) (hz : H.size = n) (hlo : hL H0 locs) {v : Int32} (hp : post (some (.int v)) h n) (hc : cells ≤ mc) (hs : slots ≤ ms) (hdg : decode cc pc = .ok (.ireturn, 1)) :
    W p l e R s m args below meth c H locs cells slots (MQ below (cQ D H0 post) args s mc ms (hF H0)) (F0 m pc ls [.int v]) :=
  W.widen hc hs (W.iret X.x X.b X.2.2.1 (fun t ht _ => ⟨_, h, n, rfl, hp, by rw [ht]; exact hr, by rw [ht]; exact hz⟩) hlo hdg (hlocks := X.2.2.2))
theorem h_zret {post : Option Value → hH → Nat → Prop} {mc ms : Nat} (X : hX p m c cc nL s args own D meth (some .boolean)) (hr : hR D H0 h H) (hz : H.size = n) (hlo : hL H0 locs) {v : Int32} (hn : narrow .boolean (.int v) = .int v) (hp : post (some (.int v)) h n) (hc : cells ≤ mc) (hs : slots ≤ ms) (hdg : decode cc pc = .ok (.ireturn, 1)) :
    W p l e R s m args below meth c H locs cells slots (MQ below (cQ D H0 post) args s mc ms (hF H0)) (F0 m pc ls [.int v]) :=
  W.widen hc hs (W.zret X.x X.b X.2.2.1 hn (fun t ht _ => ⟨_, h, n, rfl, hp, by rw [ht]; exact hr, by rw [ht]; exact hz⟩) hlo hdg (hlocks := X.2.2.2))
theorem h_lret {post : Option Value → hH → Nat → Prop} {mc ms : Nat} (X : hX p m c cc nL s args own D meth (some .long)) (hr : hR D H0 h H) (hz : H.size = n) (hlo : hL H0 locs) {v : Int64} (hp : post (some (.long v)) h n) (hc : cells ≤ mc) (hs : slots ≤ ms) (hdg : decode cc pc = .ok (.lreturn, 1)) :
    W p l e R s m args below meth c H locs cells slots (MQ below (cQ D H0 post) args s mc ms (hF H0)) (F0 m pc ls [.long v]) :=
  W.widen hc hs (W.lret X.x X.b X.2.2.1 (fun t ht _ => ⟨_, h, n, rfl, hp, by rw [ht]; exact hr, by rw [ht]; exact hz⟩) hlo hdg (hlocks := X.2.2.2))
theorem h_vret {post : Option Value → hH → Nat → Prop} {mc ms : Nat} (X : hX p m c cc nL s args own D meth none) (hr : hR D H0 h H) (hz : H.size = n) (hlo : hL H0 locs) (hp : post none h n) (hc : cells ≤ mc) (hs : slots ≤ ms) (hdg : decode cc pc = .ok (.return_, 1)) :
    W p l e R s m args below meth c H locs cells slots (MQ below (cQ D H0 post) args s mc ms (hF H0)) (F0 m pc ls []) :=
  W.widen hc hs (W.vret X.x X.b X.2.2.1 (fun t ht _ => ⟨_, h, n, rfl, hp, by rw [ht]; exact hr, by rw [ht]; exact hz⟩) hlo hdg (hlocks := X.2.2.2))
/-- behind a call that returned -/
theorem h_go {mc ms : Nat} {st0 : List Value} {a : Array Value} {post : Option Value → hH → Nat → Prop} (hrun : va_Run p l e R s m args below meth c H locs cells slots mc ms (F0 m pc ls st0) rest (cQ D H0 post a) (hF H0)) (hlo : hL H0 locs)
    (kk : ∀ (v : Option Value) (h' : hH) (n' : Nat) (H1 : Heap) (locs1 : List Loc), post v h' n' → hR D H0 h' H1 → H1.size = n' → hL H0 locs1 → W p l e R s m args below meth c H1 locs1 (cells + mc) (slots + ms) Q (F0 m (pc + 3) ls (v.toList ++ rest))) : W p l e R s m args below meth c H locs cells slots Q (F0 m pc ls st0) := by
  intro T hT X
  obtain ⟨v, st₀, t, T', L, h0, X', hL', e1, e2, ⟨v', h', n', ho, hp, hR', hz'⟩, st⟩ := hrun T hT X
  cases ho
  obtain ⟨t2, a1, b1⟩ := kk v h' n' T'.heap (locs ++ L) hp (by rw [e1]; exact hR') (by rw [e1]; exact hz') (hlo.add hL') T' rfl X'
  exact ⟨t2, st t2 a1, b1⟩
theorem h_callV (X : hX p m c cc nL s args own D meth ret) (hr : hR D H0 h H) (hz : H.size = n) (hlo : hL H0 locs) {y : MethodName} {bytes : ByteArray} {maxL f lo mc ms ci b index N : Nat} {rt : Option FieldType} {C : String} {T : u_T} {fs As st : List Value} {post : Option Value → hH → Nat → Prop}
    (hM : cM l D H0 y bytes maxL rt f lo mc ms (.ref b :: As) h n post) (hb : h b = some (.inr (ci, fs))) (hc : vwCl[ci]? = some (C, T, N)) (hy : yV y bytes maxL rt C As.length) (hl : Cond.methodLink own index y ∈ wA) (hroom : f + 1 ≤ R.frames ∧ 8 + (maxL + 11) + lo ≤ R.locals) (hst : (rest.map fun v => v.category).sum ≤ 8) (hls : ls.size = nL) (hcs : cells + mc ≤ R.cells ∧ slots + ms ≤ R.slots) (hstk : st = As.reverse ++ .ref b :: rest) (hdg : decode cc pc = .ok (.invokevirtual index, 3))
    (kk : ∀ (v : Option Value) (h' : hH) (n' : Nat) (H1 : Heap) (locs1 : List Loc), post v h' n' → hR D H0 h' H1 → H1.size = n' → hL H0 locs1 → W p l e R s m args below meth c H1 locs1 (cells + mc) (slots + ms) Q (F0 m (pc + 3) ls (v.toList ++ rest))) : W p l e R s m args below meth c H locs cells slots Q (F0 m pc ls st) := by
  obtain ⟨hw, hcl, hd⟩ := hy
  subst hstk
  have hts := X.1.2.2.2.2
  have hini : (Cond.initialized y.cls).before args s = true := by rw [hcl]; exact X.w (hw _ (by simp))
  refine h_go (va_runV (C := C) (b := b) (As := As) (rest := rest) X.1 hM ⟨callB_of As.length hts (wY_good (hw _ (by simp))) rfl rfl rfl hini (X.w hl) hd hroom, X.w (hw _ (by simp)), X.w (hw _ (by simp))⟩ ⟨cP.blind, ?_, fun U hU hW => ⟨rfl, by rw [hU]; exact hr, by rw [hU]; exact hz, X.2.1.warm hW⟩⟩ rfl rfl hls rfl (lv_room hst) hdg hcs) hlo kk
  obtain ⟨-, r, h1, cell, q1, q2, q3, -⟩ := hr.2.2 b _ hb
  exact ⟨cell, q1, by rw [q3]; rfl, by rw [q2]; exact (X.2.1.1.1 ci _ hc).2.1⟩
theorem h_callS (X : hX p m c cc nL s args own D meth ret) (hr : hR D H0 h H) (hz : H.size = n) (hlo : hL H0 locs) {y : MethodName} {bytes : ByteArray} {maxL f lo mc ms index : Nat} {rt : Option FieldType} {As st : List Value} {post : Option Value → hH → Nat → Prop}
    (hM : cM l D H0 y bytes maxL rt f lo mc ms As h n post) (hy : yS y bytes maxL rt As.length) (hl : Cond.methodLink own index y ∈ wA) (hroom : f + 1 ≤ R.frames ∧ 8 + (maxL + 11) + lo ≤ R.locals) (hst : (rest.map fun v => v.category).sum ≤ 8) (hls : ls.size = nL) (hcs : cells + mc ≤ R.cells ∧ slots + ms ≤ R.slots) (hstk : st = As.reverse ++ rest) (hdg : decode cc pc = .ok (.invokestatic index, 3))
    (kk : ∀ (v : Option Value) (h' : hH) (n' : Nat) (H1 : Heap) (locs1 : List Loc), post v h' n' → hR D H0 h' H1 → H1.size = n' → hL H0 locs1 → W p l e R s m args below meth c H1 locs1 (cells + mc) (slots + ms) Q (F0 m (pc + 3) ls (v.toList ++ rest))) : W p l e R s m args below meth c H locs cells slots Q (F0 m pc ls st) := by
  obtain ⟨hw, hd⟩ := hy
  subst hstk
  have hts := X.1.2.2.2.2
  exact h_go (va_runS (As := As) (rest := rest) X.1 hM ⟨callB_of As.length hts (wY_good (hw _ (by simp))) rfl rfl rfl (X.w (hw _ (by simp))) (X.w hl) hd hroom, X.w (hw _ (by simp))⟩ ⟨cP.blind, fun U hU hW => ⟨rfl, by rw [hU]; exact hr, by rw [hU]; exact hz, X.2.1.warm hW⟩⟩ rfl rfl hls rfl (lv_room hst) hdg hcs) hlo kk
theorem h_callI (X : hX p m c cc nL s args own D meth ret) (hr : hR D H0 h H) (hz : H.size = n) (hlo : hL H0 locs) {y : MethodName} {bytes : ByteArray} {maxL f lo mc ms b index : Nat} {As st : List Value} {post : Option Value → hH → Nat → Prop}
    (hM : cM l D H0 y bytes maxL none f lo mc ms (.ref b :: As) h n post) (hy : yI y bytes maxL As.length) (hl : Cond.methodLink own index y ∈ wA) (hroom : f + 1 ≤ R.frames ∧ 8 + (maxL + 11) + lo ≤ R.locals) (hst : (rest.map fun v => v.category).sum ≤ 8) (hls : ls.size = nL) (hcs : cells + mc ≤ R.cells ∧ slots + ms ≤ R.slots) (hstk : st = As.reverse ++ .ref b :: rest) (hdg : decode cc pc = .ok (.invokespecial index, 3))
    (kk : ∀ (v : Option Value) (h' : hH) (n' : Nat) (H1 : Heap) (locs1 : List Loc), post v h' n' → hR D H0 h' H1 → H1.size = n' → hL H0 locs1 → W p l e R s m args below meth c H1 locs1 (cells + mc) (slots + ms) Q (F0 m (pc + 3) ls (v.toList ++ rest))) : W p l e R s m args below meth c H locs cells slots Q (F0 m pc ls st) := by
  obtain ⟨hw, hn1, hd⟩ := hy
  subst hstk
  have hts := X.1.2.2.2.2
  exact h_go (va_runI (b := b) (As := As) (rest := rest) X.1 hM ⟨callB_of As.length hts (wY_good (hw _ (by simp))) rfl rfl rfl (X.w (hw _ (by simp))) (X.w hl) hd hroom, hn1, X.w (hw _ (by simp))⟩ ⟨cP.blind, fun U hU hW => ⟨rfl, by rw [hU]; exact hr, by rw [hU]; exact hz, X.2.1.warm hW⟩⟩ rfl rfl hls rfl (lv_room hst) hdg hcs) hlo kk
/-- a private constructor of a nest mate -/
theorem h_callIN (X : hX p m c cc nL s args own D meth ret) (hr : hR D H0 h H) (hz : H.size = n) (hlo : hL H0 locs) {y : MethodName} {host : String} {bytes : ByteArray} {maxL f lo mc ms b index : Nat} {As st : List Value} {post : Option Value → hH → Nat → Prop}
    (hM : cM l D H0 y bytes maxL none f lo mc ms (.ref b :: As) h n post) (hy : yI y bytes maxL As.length) (hl : (own, index, y, host) ∈ nestW) (hroom : f + 1 ≤ R.frames ∧ 8 + (maxL + 11) + lo ≤ R.locals) (hst : (rest.map fun v => v.category).sum ≤ 8) (hls : ls.size = nL) (hcs : cells + mc ≤ R.cells ∧ slots + ms ≤ R.slots) (hstk : st = As.reverse ++ .ref b :: rest) (hdg : decode cc pc = .ok (.invokespecial index, 3))
    (kk : ∀ (v : Option Value) (h' : hH) (n' : Nat) (H1 : Heap) (locs1 : List Loc), post v h' n' → hR D H0 h' H1 → H1.size = n' → hL H0 locs1 → W p l e R s m args below meth c H1 locs1 (cells + mc) (slots + ms) Q (F0 m (pc + 3) ls (v.toList ++ rest))) : W p l e R s m args below meth c H locs cells slots Q (F0 m pc ls st) := by
  obtain ⟨hw, hn1, hd⟩ := hy
  subst hstk
  have hts := X.1.2.2.2.2
  exact h_go (va_runIN (b := b) (As := As) (rest := rest) X.1 hM ⟨va_cnB As.length hts (wY_good (hw _ (by simp))) rfl rfl rfl (X.2.1.2.2 _ hl) (X.w (hw _ (by simp))) hd hroom, hn1, X.w (hw _ (by simp))⟩ ⟨cP.blind, fun U hU hW => ⟨rfl, by rw [hU]; exact hr, by rw [hU]; exact hz, X.2.1.warm hW⟩⟩ rfl rfl hls rfl (lv_room hst) hdg hcs) hlo kk
theorem h_objInit (X : hX p m c cc nL s args own D meth ret) {idx a : Nat} (hl : Cond.methodLink own idx objectInit ∈ wA) (hi : Cond.instanceMethod objectInit ∈ wA) (hcd : Cond.code objectInit ⟨#[0xb1]⟩ 1 none ∈ wA) (hls : ls.size = nL) (hf : 1 ≤ R.frames) (hlc : (rest.map fun v => v.category).sum + 12 ≤ R.locals) (hdg : decode cc pc = .ok (.invokespecial idx, 3))
    (kk : W p l e R s m args below meth c H locs cells slots Q (F0 m (pc + 3) ls rest)) : W p l e R s m args below meth c H locs cells slots Q (F0 m pc ls (.ref a :: rest)) :=
  W.objInit X.x X.b X.ow (X.w hl) (X.w hi) (X.w hcd) rfl (by rw [X.1.2.2.1]; exact hls) rfl hdg hf (by simpa [JFrame.monitorRoom] using hlc) kk
end HCALL
