/-! ===== THE HEAP AS A FUNCTION: what lies at each address from the law's entry on; a contract says what the whole heap becomes, so no frame is to be carried ===== -/
/-- a cell: an array (kind 0 int, 1 long, 2 of Disk; length; contents) or an object (number of its class, fields) -/
abbrev hC : Type := (Nat × Nat × (Nat → Value)) ⊕ (Nat × List Value)
abbrev hH : Type := Nat → Option hC
def hup (h : hH) (a : Nat) (c : hC) : hH := fun q => if q = a then some c else h q
theorem hup_self (h : hH) (a : Nat) (c : hC) : hup h a c a = some c := by simp [hup]
theorem hup_ne (h : hH) {a q : Nat} (c : hC) (hq : q ≠ a) : hup h a c q = h q := by simp [hup, hq]
/-- class numbers, slots, numbers of the array classes -/
abbrev hD : Type := (Nat → ClassId) × (Nat → Nat → Nat) × (Nat → ClassId)
abbrev htys (D : hD) : List (ClassId × FieldType) := [(D.2.2 0, .int), (D.2.2 1, .long), (D.2.2 2, .object RX1)]
/-- the constructors of nest mates: who calls (class, pool entry), which, the nest's host -/
def hNest (U : State) : Prop := ∀ q ∈ nestW, va_Nw (.methodLinkNest q.1 q.2.1 q.2.2.1 q.2.2.2) U
def hKn (D : hD) (U : State) : Prop := va_K (D.1, D.2.1) vwCl (htys D) U ∧ va_AO RX1 U ∧ hNest U
theorem hKn.warm {D : hD} {u U : State} (hW : u.WarmedH U.vm) (h : hKn D u) : hKn D U := ⟨va_K.moved hW.alike h.1, va_AO.moved hW.alike h.2.1, fun q hq => va_Nw.warmM hW (h.2.2 q hq)⟩
theorem hKn.same {D : hD} {u U : State} (hv : u.vm = U.vm) (h : hKn D u) : hKn D U := ⟨va_K.moved (by rw [hv]; exact Vm.Alike.refl _) h.1, va_AO.moved (by rw [hv]; exact Vm.Alike.refl _) h.2.1, fun q hq => va_Nw.same rfl hv (h.2.2 q hq)⟩
def hAt (D : hD) (a : Nat) (c : hC) (H : Heap) : Prop := match c with
  | .inl x => H[a]? = some (arrV (D.2.2 x.1) x.2.1 x.2.2)
  | .inr o => va_at (D.1, D.2.1) vwCl (a, .inr o) H
theorem hAt.kept {D : hD} {a : Nat} {c : hC} {H H1 : Heap} (h : hAt D a c H) (hq : H1[a]? = H[a]?) : hAt D a c H1 := by
  cases c with
  | inl x => exact hq.trans h
  | inr o => exact va_at.kept (q := (a, .inr o)) h hq
theorem hAt.lt {D : hD} {a : Nat} {c : hC} {H : Heap} (h : hAt D a c H) : a < H.size := by
  cases c with
  | inl x => exact (Array.getElem?_eq_some_iff.mp h).1
  | inr o => exact va_at.lt (q := (a, .inr o)) h
/-- the heap H is h from H0 on, and as H0 below -/
def hR (D : hD) (H0 : Heap) (h : hH) (H : Heap) : Prop := H0.size ≤ H.size ∧ (∀ q : Nat, q < H0.size → H[q]? = H0[q]?) ∧ ∀ (a : Nat) (c : hC), h a = some c → H0.size ≤ a ∧ hAt D a c H
theorem hR.sub {D : hD} {H0 : Heap} {h h1 : hH} {H : Heap} (hr : hR D H0 h H) (hs : ∀ a c, h1 a = some c → h a = some c) : hR D H0 h1 H := ⟨hr.1, hr.2.1, fun a c hc => hr.2.2 a c (hs a c hc)⟩
theorem hR.lt {D : hD} {H0 : Heap} {h : hH} {H : Heap} (hr : hR D H0 h H) {a : Nat} {c : hC} (ha : h a = some c) : a < H.size := (hr.2.2 a c ha).2.lt
theorem hR.set {D : hD} {H0 : Heap} {h : hH} {H H1 : Heap} {a : Nat} {c0 c : hC} (hr : hR D H0 h H) (ha : h a = some c0) (hc : hAt D a c H1) (hz : H1.size = H.size) (ho : ∀ q : Nat, q ≠ a → H1[q]? = H[q]?) : hR D H0 (hup h a c) H1 := by
  have hb := (hr.2.2 a c0 ha).1
  refine ⟨by rw [hz]; exact hr.1, fun q hq => by rw [ho q (by omega)]; exact hr.2.1 q hq, fun q d hd => ?_⟩
  by_cases hqa : q = a
  · subst hqa
    rw [hup_self] at hd
    cases hd
    exact ⟨hb, hc⟩
  · rw [hup_ne _ _ hqa] at hd
    exact ⟨(hr.2.2 q d hd).1, (hr.2.2 q d hd).2.kept (ho q hqa)⟩
theorem hR.push {D : hD} {H0 : Heap} {h : hH} {H H1 : Heap} {c : hC} (hr : hR D H0 h H) (hc : hAt D H.size c H1) (hz : H1.size = H.size + 1) (ho : ∀ q : Nat, q < H.size → H1[q]? = H[q]?) : hR D H0 (hup h H.size c) H1 := by
  refine ⟨by rw [hz]; exact Nat.le_succ_of_le hr.1, fun q hq => by rw [ho q (Nat.lt_of_lt_of_le hq hr.1)]; exact hr.2.1 q hq, fun q d hd => ?_⟩
  by_cases hqa : q = H.size
  · subst hqa
    rw [hup_self] at hd
    cases hd
    exact ⟨hr.1, hc⟩
  · rw [hup_ne _ _ hqa] at hd
    exact ⟨(hr.2.2 q d hd).1, (hr.2.2 q d hd).2.kept (ho q (hr.lt hd))⟩
/-- what was written lies from H0 on -/
def hL (H0 : Heap) (locs : List Loc) : Prop := ∀ q ∈ locs, H0.size ≤ q.base
theorem hL.nil {H0 : Heap} : hL H0 [] := fun _ h => by cases h
theorem hL.add {H0 : Heap} {locs : List Loc} {l1 : List Loc} (h : hL H0 locs) (h1 : hL H0 l1) : hL H0 (locs ++ l1) := fun q hq => (List.mem_append.mp hq).elim (h q) (h1 q)
theorem hL.one {H0 : Heap} {locs : List Loc} {x : Loc} (h : hL H0 locs) (h1 : H0.size ≤ x.base) : hL H0 (locs ++ [x]) := h.add (fun q hq => by rw [List.mem_singleton.mp hq]; exact h1)
abbrev wY (y : MethodName) (bytes : ByteArray) (maxL : Nat) (ret : Option FieldType) : List Cond := .code y bytes maxL ret :: wA
theorem wY_good {y : MethodName} {bytes : ByteArray} {maxL : Nat} {ret : Option FieldType} (h : Cond.code y bytes maxL ret ∈ wA) : GoodIn wA (wY y bytes maxL ret) := fun w hw => wA_good w ((List.mem_cons.mp hw).elim (fun e => e ▸ h) id)
/-- inside a method: the machine, the code, the words, the classes; what it returns, no lock -/
def hX (p : Program) (m : MethodId) (c : Code) (cc : ByteArray) (nL : Nat) (s : State) (args : Array Value) (own : String) (D : hD) (meth : Method) (ret : Option FieldType) : Prop :=
  CallFix p m c cc nL s args wA own ∧ hKn D s ∧ meth.sig.returnType = ret ∧ meth.locks = false
/-- a field: its place in the class's table, its entry in the pool of the class that speaks of it -/
def hFd (own : String) (index ci k : Nat) (C : String) (T : u_T) (N : Nat) : Prop := vwCl[ci]? = some (C, T, N) ∧ (∀ w ∈ u_ws C T N, w ∈ wA) ∧ k < N ∧ Cond.fieldLink own index C (T k).2.1 (T k).2.2.1 ∈ wA ∧ (T k).1 = C
section HROW
variable {p : Program} {l : Launch} {e : Env} {R : Room} {s : State} {m : MethodId} {args : Array Value} {below : List Frame} {meth : Method} {c : Code} {H : Heap} {locs : List Loc} {cells slots : Nat} {Q : State → Prop}
variable {cc : ByteArray} {pc nL : Nat} {ls : Array Slot} {rest : List Value} {D : hD} {H0 : Heap} {h : hH} {own : String} {ret : Option FieldType} {a n : Nat}
theorem hX.x (X : hX p m c cc nL s args own D meth ret) : p.tables.exec = Jvm.exec := X.1.1
theorem hX.b (X : hX p m c cc nL s args own D meth ret) : c.code = cc := X.1.2.1
theorem hX.ow (X : hX p m c cc nL s args own D meth ret) : s.vm.findClass own = some m.cls := X.1.2.2.2.1
theorem hX.w (X : hX p m c cc nL s args own D meth ret) {w : Cond} (h : w ∈ wA) : w.before args s = true := X.1.2.2.2.2 w h
theorem h_get (X : hX p m c cc nL s args own D meth ret) (hr : hR D H0 h H) {index ci k N : Nat} {C : String} {T : u_T} (ff : hFd own index ci k C T N) {fs : List Value} (ha : h a = some (.inr (ci, fs))) {v : Value} (hv : fs[k]? = some v) (hdg : decode cc pc = .ok (.getfield index, 3))
    (kk : W p l e R s m args below meth c H locs cells slots Q (F0 m (pc + 3) ls (v :: rest))) : W p l e R s m args below meth c H locs cells slots Q (F0 m pc ls (.ref a :: rest)) := by
  obtain ⟨hc, hin, hk, hl, hT⟩ := ff
  have hP : va_P (D.1, D.2.1) vwCl [(a, .inr (ci, fs))] H := fun i q hq => by
    have hz : i < 1 := (List.getElem?_eq_some_iff.mp hq).1
    rw [show i = 0 by omega] at hq
    cases hq
    exact (hr.2.2 a _ ha).2
  exact va_get X.x X.b X.1.2.2.2.2 hin X.ow X.2.1.1 hP 0 rfl hc k hk (X.w hl) (fun x hx => by rw [hT] at hx; exact hx) hv hdg kk
theorem h_put (X : hX p m c cc nL s args own D meth ret) (hr : hR D H0 h H) (hz : H.size = n) (hlo : hL H0 locs) {index ci k N : Nat} {C : String} {T : u_T} (ff : hFd own index ci k C T N) (ty0 : Nat → FieldType) (hty : ∀ k, k < N → parseFieldDescriptor (T k).2.2.1 = some (ty0 k)) (hnm : ∀ a, a < N → ∀ b, b < N → a ≠ b → (T a).2.1 ≠ (T b).2.1) (hfin : (T k).2.2.2 = false)
    {fs : List Value} (ha : h a = some (.inr (ci, fs))) {v : Value} (hn : narrow (ty0 k) v = v) (hfit : fits (ty0 k) v = true) (hlen : k < fs.length) (hdg : decode cc pc = .ok (.putfield index, 3))
    (kk : ∀ (H1 : Heap) (locs1 : List Loc), hR D H0 (hup h a (.inr (ci, fs.set k v))) H1 → H1.size = n → hL H0 locs1 → W p l e R s m args below meth c H1 locs1 cells slots Q (F0 m (pc + 3) ls rest)) : W p l e R s m args below meth c H locs cells slots Q (F0 m pc ls (v :: .ref a :: rest)) := by
  obtain ⟨hc, hin, hk, hl, hT⟩ := ff
  have hK : va_K (D.1, D.2.1) vwCl (htys D) s := X.2.1.1
  have hts := X.1.2.2.2.2
  have hap := va_apart (own := own) hts hin ty0 hty hnm hK hc
  obtain ⟨hb, r, h1, cell, q1, q2, q3, q4⟩ := hr.2.2 a _ ha
  have he : r = (C, T, N) := Option.some.inj (h1.symm.trans hc)
  subst he
  obtain ⟨hS, hfc, kC, hkC, hkind⟩ := hK.1 ci _ hc
  obtain ⟨cf, kf, fi, f, hi, hsl⟩ := hS k hk
  have hlay := hts _ (hin _ (u_in_lay hk))
  unfold u_lay at hlay
  rw [if_neg (by rw [hfin]; decide)] at hlay
  have hst := (u_facts hfc hkC (u_lays hts hin hk) hi).1
  have h6 := u_store hfc hkC hkind hlay hi (hty k hk) hn hfit
  have hi2 : s.fieldFound? C (T k).2.1 (T k).2.2.1 = some (cf, kf, fi, f) := by
    have := hi
    dsimp only at this
    rw [hT] at this
    exact this
  refine W.putK X.x X.b (f := f) ⟨X.ow, X.w hl, ⟨_, _, _, hi2⟩, hst⟩ (by rw [q2]; exact h6) q1 q3 (by rw [hsl]; exact k2_hasslot (q4 k hk)) rfl rfl hdg fun H' e1 e2 e3 => ?_
  rw [hsl] at e1 ⊢
  exact kk H' _ (hr.set ha ⟨_, hc, t_OB.to (V := updV (vp_V fs) k v) ⟨_, e1, q2, q3, t_set q4 hap hk v⟩ (fun j _ => vp_updV_set hlen v j)⟩ e2 e3) (e2.trans hz) (hlo.one hb)
theorem h_putF (X : hX p m c cc nL s args own D meth ret) (hr : hR D H0 h H) (hz : H.size = n) (hlo : hL H0 locs) {index ci k N : Nat} {T : u_T} (ff : hFd own index ci k own T N) (ty0 : Nat → FieldType) (hty : ∀ k, k < N → parseFieldDescriptor (T k).2.2.1 = some (ty0 k)) (hnm : ∀ a, a < N → ∀ b, b < N → a ≠ b → (T a).2.1 ≠ (T b).2.1) (hfin : (T k).2.2.2 = true) (hin2 : meth.name = "<init>")
    {fs : List Value} (ha : h a = some (.inr (ci, fs))) {v : Value} (hn : narrow (ty0 k) v = v) (hfit : fits (ty0 k) v = true) (hlen : k < fs.length) (hdg : decode cc pc = .ok (.putfield index, 3))
    (kk : ∀ (H1 : Heap) (locs1 : List Loc), hR D H0 (hup h a (.inr (ci, fs.set k v))) H1 → H1.size = n → hL H0 locs1 → W p l e R s m args below meth c H1 locs1 cells slots Q (F0 m (pc + 3) ls rest)) : W p l e R s m args below meth c H locs cells slots Q (F0 m pc ls (v :: .ref a :: rest)) := by
  obtain ⟨hc, hin, hk, hl, hT⟩ := ff
  have hK : va_K (D.1, D.2.1) vwCl (htys D) s := X.2.1.1
  have hts := X.1.2.2.2.2
  have hap := va_apart (own := own) hts hin ty0 hty hnm hK hc
  obtain ⟨hb, r, h1, cell, q1, q2, q3, q4⟩ := hr.2.2 a _ ha
  have he : r = (own, T, N) := Option.some.inj (h1.symm.trans hc)
  subst he
  obtain ⟨hS, hfc, kC, hkC, hkind⟩ := hK.1 ci _ hc
  obtain ⟨cf, kf, fi, f, hi, hsl⟩ := hS k hk
  have hlay := hts _ (hin _ (u_in_lay hk))
  unfold u_lay at hlay
  rw [if_pos hfin] at hlay
  have hst := (u_facts hfc hkC (u_lays hts hin hk) hi).1
  have hcf : m.cls = cf := by
    obtain ⟨_, _, c', _, _, _, -, -, hf', -, -, -, hown2, -⟩ := Cond.laysFinal_spec hlay
    have e1 : c' = cf := by have := hi.symm.trans hf'; simp at this; exact this.1.symm
    rw [hT] at hown2
    rw [← e1]; exact Option.some.inj (X.ow.symm.trans hown2)
  have hi2 : s.fieldFound? own (T k).2.1 (T k).2.2.1 = some (cf, kf, fi, f) := by
    have := hi
    dsimp only at this
    rw [hT] at this
    exact this
  have h6 := u_fits hfc hkC hkind (Or.inr hlay) hi (hty k hk) hn hfit
  refine W.putFinK X.x X.b X.ow (X.w hl) hi2 hst hcf hin2 (by rw [q2]; exact h6) q1 q3 (by rw [hsl]; exact k2_hasslot (q4 k hk)) rfl rfl hdg fun H' e1 e2 e3 => ?_
  rw [hsl] at e1 ⊢
  exact kk H' _ (hr.set ha ⟨_, hc, t_OB.to (V := updV (vp_V fs) k v) ⟨_, e1, q2, q3, t_set q4 hap hk v⟩ (fun j _ => vp_updV_set hlen v j)⟩ e2 e3) (e2.trans hz) (hlo.one hb)
theorem h_new (X : hX p m c cc nL s args own D meth ret) (hr : hR D H0 h H) (hz : H.size = n) {index ci N : Nat} {C : String} {T : u_T} (ty0 : Nat → FieldType) (hty : ∀ k, k < N → parseFieldDescriptor (T k).2.2.1 = some (ty0 k)) (hc : vwCl[ci]? = some (C, T, N)) (hin : ∀ w ∈ u_ws C T N, w ∈ wA) (hcl : Cond.classLink own index C ∈ wA) (hinst : Cond.instantiable C N ∈ wA) (hini : Cond.initialized C ∈ wA)
    {fs : List Value} (hfs : ∀ j, j < N → defaultValue (ty0 j) = vp_V fs j) (hcells : cells + 1 ≤ R.cells) (hslots : slots + N ≤ R.slots) (hdg : decode cc pc = .ok (.new index, 3))
    (kk : ∀ H1 : Heap, hR D H0 (hup h n (.inr (ci, fs))) H1 → H1.size = n + 1 → W p l e R s m args below meth c H1 locs (cells + 1) (slots + N) Q (F0 m (pc + 3) ls (.ref n :: rest))) : W p l e R s m args below meth c H locs cells slots Q (F0 m pc ls rest) := by
  have hK : va_K (D.1, D.2.1) vwCl (htys D) s := X.2.1.1
  have hKn := hK.1 ci _ hc
  subst hz
  refine W.newcK X.x X.b X.ow (X.w hcl) (X.w hinst) (X.w hini) rfl hdg hcells hslots hKn.2.1 rfl fun H1 kC hkC e1 z1 o1 => ?_
  exact kk H1 (hr.push ⟨_, hc, (u_born ty0 X.1.2.2.2.2 hin hKn hkC e1 hty).to hfs⟩ z1 o1) z1
theorem h_newJ (X : hX p m c cc nL s args own D meth ret) (hr : hR D H0 h H) (hz : H.size = n) (harr : Cond.arrayClass .long ∈ wA) {i : Int32} {N : Nat} (hn : ¬ i < 0) (hN : i.toNatClampNeg = N) (hsm : N * 8 ≤ 536870912) (hcells : cells + 1 ≤ R.cells) (hslots : slots + N ≤ R.slots) (hdg : decode cc pc = .ok (.newarray .long, 2))
    (kk : ∀ H1 : Heap, hR D H0 (hup h n (.inl (1, N, fun _ => .long 0))) H1 → H1.size = n + 1 → W p l e R s m args below meth c H1 locs (cells + 1) (slots + N) Q (F0 m (pc + 2) ls (.ref n :: rest))) : W p l e R s m args below meth c H locs cells slots Q (F0 m pc ls (.int i :: rest)) := by
  have hK : va_K (D.1, D.2.1) vwCl (htys D) s := X.2.1.1
  subst hz
  refine va_newaK X.x X.b (atype := .long) (X.w harr) rfl hdg rfl hn hN hsm hcells hslots rfl fun H1 cA e1 z1 o1 hAr hNm => ?_
  have hcA : D.2.2 1 = cA := Option.some.inj (((hK.2 1 _ rfl).2 : s.vm.findClass _ = some _).symm.trans hNm)
  exact kk H1 (hr.push (by show H1[H.size]? = some (arrV (D.2.2 1) N fun _ => .long 0); rw [hcA]; exact e1) z1 o1) z1
theorem h_newI (X : hX p m c cc nL s args own D meth ret) (hr : hR D H0 h H) (hz : H.size = n) (harr : Cond.arrayClass .int ∈ wA) {i : Int32} {N : Nat} (hn : ¬ i < 0) (hN : i.toNatClampNeg = N) (hsm : N * 4 ≤ 536870912) (hcells : cells + 1 ≤ R.cells) (hslots : slots + N ≤ R.slots) (hdg : decode cc pc = .ok (.newarray .int, 2))
    (kk : ∀ H1 : Heap, hR D H0 (hup h n (.inl (0, N, fun _ => .int 0))) H1 → H1.size = n + 1 → W p l e R s m args below meth c H1 locs (cells + 1) (slots + N) Q (F0 m (pc + 2) ls (.ref n :: rest))) : W p l e R s m args below meth c H locs cells slots Q (F0 m pc ls (.int i :: rest)) := by
  have hK : va_K (D.1, D.2.1) vwCl (htys D) s := X.2.1.1
  subst hz
  refine va_newaK X.x X.b (atype := .int) (X.w harr) rfl hdg rfl hn hN hsm hcells hslots rfl fun H1 cA e1 z1 o1 hAr hNm => ?_
  have hcA : D.2.2 0 = cA := Option.some.inj (((hK.2 0 _ rfl).2 : s.vm.findClass _ = some _).symm.trans hNm)
  exact kk H1 (hr.push (by show H1[H.size]? = some (arrV (D.2.2 0) N fun _ => .int 0); rw [hcA]; exact e1) z1 o1) z1
theorem h_newD (X : hX p m c cc nL s args own D meth ret) (hr : hR D H0 h H) (hz : H.size = n) {index : Nat} (hcl : Cond.classLink own index RX1 ∈ wA) {i : Int32} {N : Nat} (hn : ¬ i < 0) (hN : i.toNatClampNeg = N) (hsm : N * 4 ≤ 536870912) (hcells : cells + 1 ≤ R.cells) (hslots : slots + N ≤ R.slots) (hdg : decode cc pc = .ok (.anewarray index, 3))
    (kk : ∀ H1 : Heap, hR D H0 (hup h n (.inl (2, N, fun _ => .null))) H1 → H1.size = n + 1 → W p l e R s m args below meth c H1 locs (cells + 1) (slots + N) Q (F0 m (pc + 3) ls (.ref n :: rest))) : W p l e R s m args below meth c H locs cells slots Q (F0 m pc ls (.int i :: rest)) := by
  have hK : va_K (D.1, D.2.1) vwCl (htys D) s := X.2.1.1
  subst hz
  subst hN
  refine W.anew X.x X.b X.ow (X.w hcl) (va_AO.use X.2.1.2.1) rfl hdg rfl hn hsm hcells hslots fun cA kA comp f1 f2 f3 f4 => ?_
  obtain ⟨kA2, comp2, g1, g2, g3, g4⟩ := (hK.2 2 _ rfl).2
  have hcA : D.2.2 2 = cA := Option.some.inj (g4.symm.trans f1)
  refine kk _ (hr.push ?_ (Array.size_push ..) (fun q hq => by rw [Array.getElem?_push, if_neg (Nat.ne_of_lt hq)])) (Array.size_push ..)
  show (H.push _)[H.size]? = some (arrV (D.2.2 2) _ fun _ => .null)
  rw [hcA, Array.getElem?_push_size, ← arrV_new]
theorem h_ald {v : Value} {i : Int32} {N : Nat} {f : Nat → Value} (hin : vp_in i N) (hv : f i.toNatClampNeg = v) {cA : ClassId} : (arrV cA N f).slots[i.toNatClampNeg]? = some v := by
  rw [arrV_read _ _ (Nat.not_le.mp fun q => hin (Or.inr q)), hv]
theorem h_iald (X : hX p m c cc nL s args own D meth ret) (hr : hR D H0 h H) {N : Nat} {f : Nat → Value} (ha : h a = some (.inl (0, N, f))) {i : Int32} (hin : vp_in i N) {v : Value} (hv : f i.toNatClampNeg = v) (hdg : decode cc pc = .ok (.iaload, 1))
    (kk : W p l e R s m args below meth c H locs cells slots Q (F0 m (pc + 1) ls (v :: rest))) : W p l e R s m args below meth c H locs cells slots Q (F0 m pc ls (.int i :: .ref a :: rest)) :=
  W.iald (v := v) X.x X.b (hr.2.2 a _ ha).2 ((X.2.1.1.2 0 _ rfl).1 N f) (fun q => by cases q) (by rw [arrV_size]; exact hin) (h_ald hin hv) rfl rfl hdg kk
theorem h_lald (X : hX p m c cc nL s args own D meth ret) (hr : hR D H0 h H) {N : Nat} {f : Nat → Value} (ha : h a = some (.inl (1, N, f))) {i : Int32} (hin : vp_in i N) {v : Value} (hv : f i.toNatClampNeg = v) (hdg : decode cc pc = .ok (.laload, 1))
    (kk : W p l e R s m args below meth c H locs cells slots Q (F0 m (pc + 1) ls (v :: rest))) : W p l e R s m args below meth c H locs cells slots Q (F0 m pc ls (.int i :: .ref a :: rest)) :=
  W.lald (v := v) X.x X.b (hr.2.2 a _ ha).2 ((X.2.1.1.2 1 _ rfl).1 N f) (fun q => by cases q) (by rw [arrV_size]; exact hin) (h_ald hin hv) rfl rfl hdg kk
theorem h_aald (X : hX p m c cc nL s args own D meth ret) (hr : hR D H0 h H) {N : Nat} {f : Nat → Value} (ha : h a = some (.inl (2, N, f))) {i : Int32} (hin : vp_in i N) {v : Value} (hv : f i.toNatClampNeg = v) (hdg : decode cc pc = .ok (.aaload, 1))
    (kk : W p l e R s m args below meth c H locs cells slots Q (F0 m (pc + 1) ls (v :: rest))) : W p l e R s m args below meth c H locs cells slots Q (F0 m pc ls (.int i :: .ref a :: rest)) :=
  W.aald (v := v) (ty := .object RX1) X.x X.b (hr.2.2 a _ ha).2 ((X.2.1.1.2 2 _ rfl).1 N f) rfl (fun q => by cases q) (by rw [arrV_size]; exact hin) (h_ald hin hv) rfl rfl hdg kk
theorem h_alen (X : hX p m c cc nL s args own D meth ret) (hr : hR D H0 h H) {k N : Nat} {f : Nat → Value} (hk : k < 3) (ha : h a = some (.inl (k, N, f))) (hdg : decode cc pc = .ok (.arraylength, 1))
    (kk : W p l e R s m args below meth c H locs cells slots Q (F0 m (pc + 1) ls (.int (nI N) :: rest))) : W p l e R s m args below meth c H locs cells slots Q (F0 m pc ls (.ref a :: rest)) := by
  match k, hk with
  | 0, _ => exact W.alen (n := nI N) X.x X.b (hr.2.2 a _ ha).2 ((X.2.1.1.2 0 _ rfl).1 N f) (by rw [arrV_size] <;> rfl) rfl rfl hdg kk
  | 1, _ => exact W.alen (n := nI N) X.x X.b (hr.2.2 a _ ha).2 ((X.2.1.1.2 1 _ rfl).1 N f) (by rw [arrV_size] <;> rfl) rfl rfl hdg kk
  | 2, _ => exact W.alen (n := nI N) X.x X.b (hr.2.2 a _ ha).2 ((X.2.1.1.2 2 _ rfl).1 N f) (by rw [arrV_size] <;> rfl) rfl rfl hdg kk
def fup (f : Nat → Value) (k : Nat) (v : Value) : Nat → Value := fun j => if j = k then v else f j
theorem h_iast (X : hX p m c cc nL s args own D meth ret) (hr : hR D H0 h H) (hz : H.size = n) (hlo : hL H0 locs) {N : Nat} {f : Nat → Value} (ha : h a = some (.inl (0, N, f))) {i x : Int32} (hin : vp_in i N) (hdg : decode cc pc = .ok (.iastore, 1))
    (kk : ∀ (H1 : Heap) (locs1 : List Loc), hR D H0 (hup h a (.inl (0, N, fup f i.toNatClampNeg (.int x)))) H1 → H1.size = n → hL H0 locs1 → W p l e R s m args below meth c H1 locs1 cells slots Q (F0 m (pc + 1) ls rest)) : W p l e R s m args below meth c H locs cells slots Q (F0 m pc ls (.int x :: .int i :: .ref a :: rest)) := by
  refine W.iast X.x X.b (hr.2.2 a _ ha).2 ((X.2.1.1.2 0 _ rfl).1 N f) (fun q => by cases q) (by rw [arrV_size]; exact hin) rfl rfl hdg fun H1 e1 z oq => ?_
  refine kk H1 _ (hr.set ha ?_ z oq) (z.trans hz) (hlo.one (hr.2.2 a _ ha).1)
  show H1[a]? = _
  rw [e1, arrV_store]
  rfl
theorem h_last (X : hX p m c cc nL s args own D meth ret) (hr : hR D H0 h H) (hz : H.size = n) (hlo : hL H0 locs) {N : Nat} {f : Nat → Value} (ha : h a = some (.inl (1, N, f))) {i : Int32} {x : Int64} (hin : vp_in i N) (hdg : decode cc pc = .ok (.lastore, 1))
    (kk : ∀ (H1 : Heap) (locs1 : List Loc), hR D H0 (hup h a (.inl (1, N, fup f i.toNatClampNeg (.long x)))) H1 → H1.size = n → hL H0 locs1 → W p l e R s m args below meth c H1 locs1 cells slots Q (F0 m (pc + 1) ls rest)) : W p l e R s m args below meth c H locs cells slots Q (F0 m pc ls (.long x :: .int i :: .ref a :: rest)) := by
  refine W.last X.x X.b (hr.2.2 a _ ha).2 ((X.2.1.1.2 1 _ rfl).1 N f) (fun q => by cases q) (by rw [arrV_size]; exact hin) rfl rfl hdg fun H1 e1 z oq => ?_
  refine kk H1 _ (hr.set ha ?_ z oq) (z.trans hz) (hlo.one (hr.2.2 a _ ha).1)
  show H1[a]? = _
  rw [e1, arrV_store]
  rfl
theorem h_aast (X : hX p m c cc nL s args own D meth ret) (hr : hR D H0 h H) (hz : H.size = n) (hlo : hL H0 locs) {N v : Nat} {f : Nat → Value} {vs : List Value} (ha : h a = some (.inl (2, N, f))) (hv : h v = some (.inr (1, vs))) {i : Int32} (hin : vp_in i N) (hdg : decode cc pc = .ok (.aastore, 1))
    (kk : ∀ (H1 : Heap) (locs1 : List Loc), hR D H0 (hup h a (.inl (2, N, fup f i.toNatClampNeg (.ref v)))) H1 → H1.size = n → hL H0 locs1 → W p l e R s m args below meth c H1 locs1 cells slots Q (F0 m (pc + 1) ls rest)) : W p l e R s m args below meth c H locs cells slots Q (F0 m pc ls (.ref v :: .int i :: .ref a :: rest)) := by
  have hK : va_K (D.1, D.2.1) vwCl (htys D) s := X.2.1.1
  have h0 : ¬ i < 0 := fun q => hin (Or.inl q)
  have hlt : i.toNatClampNeg < N := Nat.not_le.mp fun q => hin (Or.inr q)
  obtain ⟨-, r', hr', cellV, g1, g2, g3, -⟩ := hr.2.2 v _ hv
  have hcls := (hK.1 1 _ rfl).2
  obtain ⟨kA, comp, k1, k2, k3, -⟩ := (hK.2 2 _ rfl).2
  have hcomp : comp = D.1 1 := Option.some.inj (k3.symm.trans hcls.1)
  subst hcomp
  obtain ⟨kC, hkC, -⟩ := hcls.2
  refine W.aast X.x X.b (hr.2.2 a _ ha).2 (fun q h => by cases h) (fun h => by cases h) k1 k2 rfl hkC ⟨h0, by rw [arrV_size]; exact hlt⟩ g1 (fun q h => by rw [g3] at h; cases h) (by rw [g2]; exact hkC) (by rw [g2]; exact va_assign hcls) rfl rfl hdg fun H1 e1 z oq => ?_
  refine kk H1 _ (hr.set ha ?_ z oq) (z.trans hz) (hlo.one (hr.2.2 a _ ha).1)
  show H1[a]? = _
  rw [e1, arrV_store]
  rfl
end HROW
