/-! ===== THE LAW: its heap, its script, its helpers ===== -/
def hE : hH := fun _ => none
def oC (x : Int64) : hC := .inl (1, 1, fun j => if j = 0 then .long x else .long 0)
theorem hup_same {h : hH} {q : Nat} {c : hC} (e : h q = some c) : hup h q c = h := by
  funext z
  unfold hup
  split
  · rename_i hz; rw [hz, e]
  · rfl
theorem hup_hup {h : hH} {q : Nat} {c d : hC} : hup (hup h q c) q d = hup h q d := by
  funext z
  unfold hup
  split <;> rfl
theorem gput_hup {a R nd q : Nat} {g : GS} {h : hH} {c : hC} (hq : a + 65 ≤ q) : hup (gput a R nd g h) q c = gput a R nd g (hup h q c) := by
  funext z
  unfold hup gput
  dsimp only
  by_cases e : z = q
  · rw [if_pos e, if_neg (by omega), if_pos e]
  · rw [if_neg e]
    by_cases e2 : a ≤ z ∧ z < a + 65
    · rw [if_pos e2, if_pos e2]
    · rw [if_neg e2, if_neg e2, if_neg e]
theorem mput_hup {b R nd q : Nat} {t : MS} {h : hH} {c : hC} (hq : b + 12 < q) : hup (mput b R nd t h) q c = mput b R nd t (hup h q c) := by
  funext z
  by_cases e : z = q
  · rw [e, hup_self, mput_out (Or.inr hq), hup_self]
  · rw [hup_ne _ _ e]
    by_cases e2 : z < b ∨ b + 12 < z
    · rw [mput_out e2, mput_out e2, hup_ne _ _ e]
    · unfold mput
      by_cases h1 : z = b
      · rw [if_pos h1, if_pos h1]
      · rw [if_neg h1, if_neg h1]
        by_cases h2 : b < z ∧ z < b + 11
        · rw [if_pos h2, if_pos h2]
        · rw [if_neg h2, if_neg h2]
          by_cases h3 : z = b + 11
          · rw [if_pos h3, if_pos h3]
          · rw [if_neg h3, if_neg h3]
            by_cases h4 : z = b + 12
            · rw [if_pos h4, if_pos h4]
            · omega
theorem gm_comm {a R nd S md : Nat} {g : GS} {t : MS} {h : hH} : gput a R nd g (mput (a + 65) S md t h) = mput (a + 65) S md t (gput a R nd g h) := by
  funext z
  by_cases e : a ≤ z ∧ z < a + 65
  · rw [mput_out (Or.inl (by omega))]
    unfold gput
    rw [if_pos e, if_pos e]
  · rw [gput_out (by omega)]
    by_cases e2 : z < a + 65 ∨ a + 65 + 12 < z
    · rw [mput_out e2, mput_out e2, gput_out (by omega)]
    · unfold mput
      by_cases h1 : z = a + 65
      · rw [if_pos h1, if_pos h1]
      · rw [if_neg h1, if_neg h1]
        by_cases h2 : a + 65 < z ∧ z < a + 65 + 11
        · rw [if_pos h2, if_pos h2]
        · rw [if_neg h2, if_neg h2]
          by_cases h3 : z = a + 65 + 11
          · rw [if_pos h3, if_pos h3]
          · rw [if_neg h3, if_neg h3]
            by_cases h4 : z = a + 65 + 12
            · rw [if_pos h4, if_pos h4]
            · omega
def lawH (a R nd : Nat) (g : GS) (md : Nat) (t : MS) (x : Int64) : hH := gput a R nd g (mput (a + 65) R md t (hup hE (a + 78) (oC x)))
theorem lawH_m {a R nd md : Nat} {g : GS} {t : MS} {x : Int64} : lawH a R nd g md t x = mput (a + 65) R md t (gput a R nd g (hup hE (a + 78) (oC x))) := gm_comm
theorem lawH_in {a R md : Nat} {t : MS} {x : Int64} : mput (a + 65) R md t (hup hE (a + 78) (oC x)) (a + 78) = some (oC x) := by rw [mput_out (Or.inr (by omega)), hup_self]
theorem lawH_up {a R nd md : Nat} {g : GS} {t : MS} {x y : Int64} : gput a R nd g (hup (mput (a + 65) R md t (hup hE (a + 78) (oC x))) (a + 78) (oC y)) = lawH a R nd g md t y := by
  rw [mput_hup (by omega), hup_hup]
  rfl
theorem lawH_o {a R nd md : Nat} {g : GS} {t : MS} {x : Int64} : lawH a R nd g md t x (a + 78) = some (oC x) := by
  unfold lawH
  rw [gput_out (Or.inr (by omega))]
  exact lawH_in
theorem oC_up {x y : Int64} : (.inl (1, 1, fup (fun j => if j = 0 then .long x else .long 0) (0 : Int32).toNatClampNeg (.long y)) : hC) = oC y := by
  have e : fup (fun j => if j = 0 then .long x else .long 0) (0 : Int32).toNatClampNeg (.long y) = fun j => if j = 0 then Value.long y else .long 0 := by
    funext j
    unfold fup
    rw [show (0 : Int32).toNatClampNeg = 0 from rfl]
    dsimp only
    split <;> rfl
  rw [e]
  rfl
theorem v00 : vp_in (0 : Int32) 1 := fun h => h.elim (fun q => absurd q (by decide)) (fun q => absurd q (by decide))
/-- the script: at b, below H0 -/
def sX (b L : Nat) (xs : Nat → Int32) (H0 : Heap) (U : State) : Prop := va_X b L xs U H0 ∧ b < H0.size
section LB
variable {p : Program} {l : Launch} {e : Env} {R : Room} {s : State} {m : MethodId} {args : Array Value} {below : List Frame} {meth : Method} {c : Code} {H : Heap} {locs : List Loc} {cells slots : Nat} {Q : State → Prop}
variable {cc : ByteArray} {pc nL : Nat} {ls : Array Slot} {rest : List Value} {D : hD} {H0 : Heap} {h : hH} {own : String} {ret : Option FieldType} {n : Nat} {b L : Nat} {xs : Nat → Int32}
theorem hR.vS (hr : hR D H0 h H) (hlo : hL H0 locs) : va_S (hF H0) H0 H locs := ⟨hr.1, fun q hq _ => hr.2.1 q hq, hlo⟩
theorem h_sld (X : hX p m c cc nL s args own D meth ret) (Y : sX b L xs H0 s) (hr : hR D H0 h H) (hlo : hL H0 locs) {i : Int32} (hin : vp_in i L) (hdg : decode cc pc = .ok (.iaload, 1))
    (kk : W p l e R s m args below meth c H locs cells slots Q (F0 m (pc + 1) ls (.int (xs i.toNatClampNeg) :: rest))) : W p l e R s m args below meth c H locs cells slots Q (F0 m pc ls (.int i :: .ref b :: rest)) :=
  va_sld X.x X.b Y.1 Y.2 (fun q => absurd q (Nat.not_le.mpr Y.2)) (hr.vS hlo) hin hdg kk
theorem h_slen (X : hX p m c cc nL s args own D meth ret) (Y : sX b L xs H0 s) (hr : hR D H0 h H) (hlo : hL H0 locs) (hdg : decode cc pc = .ok (.arraylength, 1))
    (kk : W p l e R s m args below meth c H locs cells slots Q (F0 m (pc + 1) ls (.int (nI L) :: rest))) : W p l e R s m args below meth c H locs cells slots Q (F0 m pc ls (.ref b :: rest)) :=
  va_slen X.x X.b Y.1 Y.2 (fun q => absurd q (Nat.not_le.mpr Y.2)) (hr.vS hlo) hdg kk
/-- the start of a method that reads the script -/
def cPs (b L : Nat) (xs : Nat → Int32) (D : hD) (H0 : Heap) (h : hH) (n : Nat) (av : List Value) : Array Value → State → Prop := fun v U => cP D H0 h n av v U ∧ sX b L xs H0 U
theorem cPs.blind {av : List Value} : FrameBlind (cPs b L xs D H0 h n av) := fun a U g mk q => ⟨cP.blind a U g mk q.1, va_X.moved (u := U) (U := U.calling g mk a) (Vm.Alike.refl U.vm) q.2.1, q.2.2⟩
/-- methods with handlers -/
abbrev wH (y : MethodName) (bytes : ByteArray) (maxL : Nat) (ret : Option FieldType) (hh : List (Nat × Nat × Nat × Nat)) : List Cond := .codeWith y bytes maxL ret hh :: wA
abbrev cMh (l : Launch) (D : hD) (H0 : Heap) (y : MethodName) (bytes : ByteArray) (maxL : Nat) (ret : Option FieldType) (hh : List (Nat × Nat × Nat × Nat)) (f lo mc ms : Nat) (av : List Value) (h : hH) (n : Nat) (post : Option Value → hH → Nat → Prop) : Prop :=
  vx_Met l y (wH y bytes maxL ret hh) (rmk f lo mc ms) (cPx D H0 h n av) (cQ D H0 post) (cXC D H0 h n (fun _ => False)) mc ms (hF H0)
theorem h_metH {y : MethodName} {bytes : ByteArray} {maxL f lo mc ms : Nat} {av : List Value} {hh : List (Nat × Nat × Nat × Nat)} {post : Option Value → hH → Nat → Prop} (hy : plainName y.cls = true) (hlen : (lg_sl av).length ≤ maxL)
    (body : ∀ (p : Program) (e : Env) (s : State) (m : MethodId) (below : List Frame) (meth : Method) (c : Code) (H : Heap) (ls : Array Slot), hX p m c bytes maxL s av.toArray y.cls D meth ret → c.exceptionTable.toList = tableOf hh → hTw H0 s → hR D H0 h H → H.size = n → lv_has ls maxL (lv_args 0 av) →
      W p l e (rmk f lo mc ms) s m av.toArray below meth c H [] 0 0 (vx_MQ below (cQ D H0 post) (cXC D H0 h n (fun _ => False)) av.toArray s mc ms (hF H0)) (F0 m 0 ls [])) : cMh l D H0 y bytes maxL ret hh f lo mc ms av h n post := by
  refine vx_ofWH (cc := bytes) (maxL := maxL) (ret := ret) (hh := hh) hy rfl ?_
  intro p e s m args below meth c s₁ B hml hv
  obtain ⟨⟨rfl, hr, hn, hK⟩, hT⟩ := hv
  have hts := atoms_spec (ws := wH y bytes maxL ret hh) B.pre
  have hl := lv_entry av hlen
  rw [lg_entry_eq]
  exact body p e s m below meth c s.heap _ ⟨⟨B.exec, B.bytes, hml, findClass_of_methodNamed B.named, fun w hw => hts w (List.mem_cons_of_mem _ hw)⟩, hK, B.returns, B.notSynchronized⟩ (vx_table (x := y) B (hts _ List.mem_cons_self)) hT hr hn hl
/-- what the words say of a static method with handlers -/
def yH (y : MethodName) (bytes : ByteArray) (maxL : Nat) (ret : Option FieldType) (hh : List (Nat × Nat × Nat × Nat)) (k : Nat) : Prop := (∀ w ∈ ([.static y, .initialized y.cls, .codeWith y bytes maxL ret hh] : List Cond), w ∈ wA) ∧ y.cls ≠ "java/lang/invoke/MethodHandle" ∧ y.cls ≠ "java/lang/invoke/VarHandle" ∧ (parseMethodDescriptor y.desc).map (fun d => d.parameters.length) = some k
theorem h_callH (X : hX p m c cc nL s args own D meth ret) (hT : hTw H0 s) (hr : hR D H0 h H) (hz : H.size = n) (hlo : hL H0 locs) {y : MethodName} {bytes : ByteArray} {maxL f lo mc ms index : Nat} {rt : Option FieldType} {hh : List (Nat × Nat × Nat × Nat)} {As st : List Value} {post : Option Value → hH → Nat → Prop}
    (hM : cMh l D H0 y bytes maxL rt hh f lo mc ms As h n post) (hy : yH y bytes maxL rt hh As.length) (hl : Cond.methodLink own index y ∈ wA) (hroom : f + 1 ≤ R.frames ∧ 8 + (maxL + 11) + lo ≤ R.locals) (hst : (rest.map fun v => v.category).sum ≤ 8) (hls : ls.size = nL) (hcs : cells + mc ≤ R.cells ∧ slots + ms ≤ R.slots) (hstk : st = As.reverse ++ rest) (hdg : decode cc pc = .ok (.invokestatic index, 3))
    (kk : ∀ (v : Option Value) (h' : hH) (n' : Nat) (H1 : Heap) (locs1 : List Loc), post v h' n' → hR D H0 h' H1 → H1.size = n' → hL H0 locs1 → W p l e R s m args below meth c H1 locs1 (cells + mc) (slots + ms) Q (F0 m (pc + 3) ls (v.toList ++ rest))) : W p l e R s m args below meth c H locs cells slots Q (F0 m pc ls st) := by
  obtain ⟨hw, hd⟩ := hy
  subst hstk
  have hts := X.1.2.2.2.2
  have hG : GoodIn wA (va_wsS own index y (wH y bytes maxL rt hh)) := by
    intro w h
    refine wA_good w ?_
    unfold va_wsS at h
    rcases List.mem_append.mp h with h | h
    · simp only [List.mem_cons, List.not_mem_nil, or_false] at h
      rcases h with rfl | rfl | rfl
      · exact hl
      · exact hw _ (by simp)
      · exact hw _ (by simp)
    · rcases List.mem_cons.mp h with rfl | h
      · exact hw _ (by simp)
      · exact h
  exact h_goX (vx_runSX (As := As) (rest := rest) X.1 hM (vx_cwSW As.length hts hG rfl rfl rfl hd hroom) ⟨cPx.blind, fun U hU hW => ⟨⟨rfl, by rw [hU]; exact hr, by rw [hU]; exact hz, X.2.1.warm hW⟩, hT.warm hW⟩⟩ rfl rfl hls rfl (lv_room hst) hdg hcs) hlo kk (fun E q ce H1 locs1 hx => hx.elim)
end LB
theorem sX.moved {b L : Nat} {xs : Nat → Int32} {H0 : Heap} {u U : State} (hW : u.WarmedH U.vm) (h : sX b L xs H0 u) : sX b L xs H0 U := ⟨va_X.moved hW.alike h.1, h.2⟩
def cellV (L : Nat) (xs : Nat → Int32) (k : Nat) : Int32 := if k < L then xs k else 0
set_option maxRecDepth 20000 in
theorem lc_cell (l : Launch) (D : hD) (H0 : Heap) (b L : Nat) (xs : Nat → Int32) (h : hH) (n k : Nat) (hL9 : L ≤ 2050) (hk9 : k < 10) : Met l yL_cell (wY yL_cell cL_cell 2 (some .int)) (rmk 0 0 0 0) (cPs b L xs D H0 h n [.ref b, .int (nI k)]) (cQ D H0 (cE (some (.int (cellV L xs k))) h n)) 0 0 (hF H0) := by
  refine Met.ofW (cc := cL_cell) (maxL := 2) (ret := some .int) (by decide) rfl ?_
  intro p e s m args below meth c s₁ B hml hv
  obtain ⟨⟨rfl, hr, hn, hK⟩, hY⟩ := hv
  have hts := atoms_spec (ws := wY yL_cell cL_cell 2 (some .int)) B.pre
  have hl := lv_entry [.ref b, .int (nI k)] (n := 2) (Nat.le_of_ble_eq_true rfl)
  rw [lg_entry_eq]
  generalize (lg_sl ([.ref b, .int (nI k)]) ++ List.replicate (2 - (lg_sl ([.ref b, .int (nI k)])).length) Slot.unset).toArray = ls at hl ⊢
  have hl : lv_has ls 2 [(0, .ref b), (1, .int (nI k))] := hl
  have X : hX p m c cL_cell 2 s ([.ref b, .int (nI k)] : List Value).toArray RL D meth (some .int) := ⟨⟨B.exec, B.bytes, hml, findClass_of_methodNamed B.named, fun w hw => hts w (List.mem_cons_of_mem _ hw)⟩, hK, B.returns, B.notSynchronized⟩
  have hlo : hL H0 ([] : List Loc) := hL.nil
  refine lv_iload_n X.x X.b dL_cell_0 rfl (lv_at hl 1 rfl) ?_
  refine lv_aload_n X.x X.b dL_cell_1 rfl (lv_at hl 0 rfl) ?_
  refine h_slen X hY hr hlo dL_cell_2 ?_
  refine lv_icmp_ge (tgt := 12) X.x X.b dL_cell_3 (by decide) (fun c3 => ?_) (fun c3 => ?_)
  · refine lv_iconst (v := 0) X.x X.b dL_cell_12 (by decide) ?_
    exact h_iret X hr hn hlo ⟨by unfold cellV; rw [if_neg (by have := ndle c3 (by omega); omega)], rfl, rfl⟩ (Nat.le_of_ble_eq_true rfl) (Nat.le_of_ble_eq_true rfl) dL_cell_13
  · have hk : k < L := by
      rcases Nat.lt_or_ge k L with q | q
      · exact q
      · exact absurd (nI_le q (by omega)) c3
    refine lv_aload_n X.x X.b dL_cell_6 rfl (lv_at hl 0 rfl) ?_
    refine lv_iload_n X.x X.b dL_cell_7 rfl (lv_at hl 1 rfl) ?_
    refine h_sld X hY hr hlo (vp_in_nI hk (by omega)) dL_cell_8 ?_
    refine lv_goto (tgt := 13) X.x X.b dL_cell_9 (by decide) ?_
    exact h_iret X hr hn hlo ⟨by unfold cellV; rw [if_pos hk, nI_clamp (by omega)], rfl, rfl⟩ (Nat.le_of_ble_eq_true rfl) (Nat.le_of_ble_eq_true rfl) dL_cell_13
/-- what the law's helper does: its answer, the number of disks, the class's state, what lies in `out` -/
def lr_write (R nd : Nat) (g : GS) (y : Int64) (x : Int32) (v : Int64) : Int32 × Nat × GS × Int64 := if g.1 1 = 0 then (1, nd, g, y) else if gf_4_isPlace R nd g x = 0 then (2, nd, g, y) else (0, nd, (gf_4_write R nd g x v).2, (if (gf_4_write R nd g x v).1 = 0 then 0 else 1))
theorem yh_L_write : yH yL_write cL_write 6 (some .int) [(0, 18, 21, 13), (0, 18, 25, 15)] 4 := ⟨fun w h => List.mem_filter.mpr ⟨(by decide +kernel : ∀ w ∈ ([.static yL_write, .initialized yL_write.cls, .codeWith yL_write cL_write 6 (some .int) [(0, 18, 21, 13), (0, 18, 25, 15)]] : List Cond), w ∈ lw_tbl) w h, (by decide +kernel : ∀ w ∈ ([.static yL_write, .initialized yL_write.cls, .codeWith yL_write cL_write 6 (some .int) [(0, 18, 21, 13), (0, 18, 25, 15)]] : List Cond), goodWord w = true) w h⟩, by decide, by decide, by decide +kernel⟩
set_option maxRecDepth 20000 in
set_option maxHeartbeats 4000000 in
theorem lc_write (l : Launch) (D : hD) (H0 : Heap) (a R nd : Nat) (g : GS) (h1 : hH) (n o : Nat) (y : Int64) (x : Int32) (v : Int64) (hst : l.stackTraces = false) (hnd : nd ≤ 10) (hRR : R ≤ 48) (ho : a + 65 ≤ o) (hoy : h1 o = some (oC y)) (hu9 : g.1 1 = 0 ∨ g.1 1 = 1) : cMh l D H0 yL_write cL_write 6 (some .int) [(0, 18, 21, 13), (0, 18, 25, 15)] 8 129 2 12 [.ref a, .int x, .long v, .ref o] (gput a R nd g h1) n (fun v9 h9 n9 => n ≤ n9 ∧ v9 = some (.int (lr_write R nd g y x v).1) ∧ h9 = gput a R (lr_write R nd g y x v).2.1 (lr_write R nd g y x v).2.2.1 (hup h1 o (oC (lr_write R nd g y x v).2.2.2))) := by
  have hsm : ∀ g2 : GS, gput a R nd g2 (hup h1 o (oC y)) = gput a R nd g2 h1 := fun g2 => by rw [hup_same hoy]
  refine h_metH (by decide) (Nat.le_of_ble_eq_true rfl) ?_
  intro p e s m below meth c H ls X ht hT hr hz hl
  have hl : lv_has ls 6 [(0, .ref a), (1, .int x), (2, .long v), (4, .ref o)] := hl
  have hlo : hL H0 ([] : List Loc) := hL.nil
  refine lv_aload X.x X.b dL_write_0 (lv_at hl 3 rfl) ?_
  refine lv_iconst (v := 0) X.x X.b dL_write_2 (by decide) ?_
  refine lv_aload_n X.x X.b dL_write_3 rfl (lv_at hl 0 rfl) ?_
  refine lv_iload_n X.x X.b dL_write_4 rfl (lv_at hl 1 rfl) ?_
  refine lv_lload_n X.x X.b dL_write_5 rfl (lv_at hl 2 rfl) ?_
  refine h_callVx X hT hr hz hlo (rest := [.int 0, .ref o]) (gc_4_write l D H0 a R nd g h1 n x v hst hnd hRR hu9) gput_o rfl yv_X4_write ml_L_7 ⟨(Nat.le_of_ble_eq_true rfl), (Nat.le_of_ble_eq_true rfl)⟩ (Nat.le_of_ble_eq_true rfl) hl.1 ⟨(Nat.le_of_ble_eq_true rfl), (Nat.le_of_ble_eq_true rfl)⟩ rfl dL_write_6 (fun v9 h9 n9 H locs hp hr hz hlo => ?_) (fun E9 q9 ce9 H locs hx hr hz hlo hce hcv hcl => ?_)
  · obtain ⟨hnt1, hnt2, rfl, rfl, rfl⟩ := hp
    have e9 : lr_write R nd g y x v = (0, nd, (gf_4_write R nd g x v).2, (if (gf_4_write R nd g x v).1 = 0 then 0 else 1)) := by unfold lr_write; rw [if_neg hnt1, if_neg hnt2]
    show W p l e _ s m _ below meth c H locs _ _ _ (F0 m 9 ls [.int (gf_4_write R nd g x v).1, .int 0, .ref o])
    refine lv_if_eq (tgt := 16) X.x X.b dL_write_9 (by decide) (fun c9 => ?_) (fun c9 => ?_)
    · refine lv_lconst (v := 0) X.x X.b dL_write_16 (by decide) ?_
      refine h_last X hr hz hlo (N := 1) (x := 0) ((gput_out (Or.inr ho)).trans hoy) v00 dL_write_17 (fun H locs hr hz hlo => ?_)
      rw [oC_up, gput_hup ho] at hr
      refine lv_goto (tgt := 29) X.x X.b dL_write_18 (by decide) ?_
      refine lv_iconst (v := 0) X.x X.b dL_write_29 (by decide) ?_
      exact vx_ret (h_iret X hr hz hlo ⟨Nat.le_refl _, by rw [e9], by rw [e9]; simp only [if_pos c9]⟩ (Nat.le_of_ble_eq_true rfl) (Nat.le_of_ble_eq_true rfl) dL_write_30)
    · refine lv_lconst (v := 1) X.x X.b dL_write_12 (by decide) ?_
      refine lv_goto (tgt := 17) X.x X.b dL_write_13 (by decide) ?_
      refine h_last X hr hz hlo (N := 1) (x := 1) ((gput_out (Or.inr ho)).trans hoy) v00 dL_write_17 (fun H locs hr hz hlo => ?_)
      rw [oC_up, gput_hup ho] at hr
      refine lv_goto (tgt := 29) X.x X.b dL_write_18 (by decide) ?_
      refine lv_iconst (v := 0) X.x X.b dL_write_29 (by decide) ?_
      exact vx_ret (h_iret X hr hz hlo ⟨Nat.le_refl _, by rw [e9], by rw [e9]; simp only [if_neg c9]⟩ (Nat.le_of_ble_eq_true rfl) (Nat.le_of_ble_eq_true rfl) dL_write_30)
  · rcases hx with ⟨hu, rfl⟩ | ⟨hu, hp9, rfl⟩
    · refine ct_catch (own := RL) (name := seN) (E := seN) X.ow [] ⟨0, 18, 21, 13⟩ [⟨0, 18, 25, 15⟩] (ht.trans rfl) (fun z hz => nomatch hz) (by decide) (by decide) (X.w kl_L_13) (va_Nw.use rfl hT.2.2.1) hce hcv hcl ?_
      refine lv_astore (lv' := [(5, .ref q9), (0, .ref a), (1, .int x), (2, .long v), (4, .ref o)]) X.x X.b dL_write_21 hl (by decide) rfl (fun ls hl => ?_)
      refine lv_iconst (v := 1) X.x X.b dL_write_23 (by decide) ?_
      exact vx_ret (h_iret X hr rfl hlo ⟨hz, by unfold lr_write; rw [if_pos hu], by unfold lr_write; rw [if_pos hu]; exact (hsm g).symm⟩ (Nat.le_of_ble_eq_true rfl) (Nat.le_of_ble_eq_true rfl) dL_write_24)
    · refine ct_catch (own := RL) (name := beN) (E := beN) X.ow [⟨0, 18, 21, 13⟩] ⟨0, 18, 25, 15⟩ [] (ht.trans rfl) (fun z hz => by cases List.mem_singleton.mp hz; exact Or.inr ⟨by decide, seN, X.w kl_L_13, hT.2.2.2.2.1⟩) (by decide) (by decide) (X.w kl_L_15) (va_Nw.use rfl hT.2.2.2.1) hce hcv hcl ?_
      refine lv_astore (lv' := [(5, .ref q9), (0, .ref a), (1, .int x), (2, .long v), (4, .ref o)]) X.x X.b dL_write_25 hl (by decide) rfl (fun ls hl => ?_)
      refine lv_iconst (v := 2) X.x X.b dL_write_27 (by decide) ?_
      exact vx_ret (h_iret X hr rfl hlo ⟨hz, by unfold lr_write; rw [if_neg hu, if_pos hp9], by unfold lr_write; rw [if_neg hu, if_pos hp9]; exact (hsm g).symm⟩ (Nat.le_of_ble_eq_true rfl) (Nat.le_of_ble_eq_true rfl) dL_write_28)
/-- what the law's helper does: its answer, the number of disks, the class's state, what lies in `out` -/
def lr_read (R nd : Nat) (g : GS) (y : Int64) (x : Int32) : Int32 × Nat × GS × Int64 := if g.1 1 = 0 then (1, nd, g, y) else if gf_4_isPlace R nd g x = 0 then (2, nd, g, y) else (0, nd, g, (gf_4_read R nd g x))
theorem yh_L_read : yH yL_read cL_read 4 (some .int) [(0, 8, 11, 13), (0, 8, 14, 15)] 3 := ⟨fun w h => List.mem_filter.mpr ⟨(by decide +kernel : ∀ w ∈ ([.static yL_read, .initialized yL_read.cls, .codeWith yL_read cL_read 4 (some .int) [(0, 8, 11, 13), (0, 8, 14, 15)]] : List Cond), w ∈ lw_tbl) w h, (by decide +kernel : ∀ w ∈ ([.static yL_read, .initialized yL_read.cls, .codeWith yL_read cL_read 4 (some .int) [(0, 8, 11, 13), (0, 8, 14, 15)]] : List Cond), goodWord w = true) w h⟩, by decide, by decide, by decide +kernel⟩
set_option maxRecDepth 20000 in
set_option maxHeartbeats 4000000 in
theorem lc_read (l : Launch) (D : hD) (H0 : Heap) (a R nd : Nat) (g : GS) (h1 : hH) (n o : Nat) (y : Int64) (x : Int32) (hst : l.stackTraces = false) (hnd : nd ≤ 10) (hRR : R ≤ 48) (ho : a + 65 ≤ o) (hoy : h1 o = some (oC y)) : cMh l D H0 yL_read cL_read 4 (some .int) [(0, 8, 11, 13), (0, 8, 14, 15)] 8 124 2 12 [.ref a, .int x, .ref o] (gput a R nd g h1) n (fun v9 h9 n9 => n ≤ n9 ∧ v9 = some (.int (lr_read R nd g y x).1) ∧ h9 = gput a R (lr_read R nd g y x).2.1 (lr_read R nd g y x).2.2.1 (hup h1 o (oC (lr_read R nd g y x).2.2.2))) := by
  have hsm : ∀ g2 : GS, gput a R nd g2 (hup h1 o (oC y)) = gput a R nd g2 h1 := fun g2 => by rw [hup_same hoy]
  refine h_metH (by decide) (Nat.le_of_ble_eq_true rfl) ?_
  intro p e s m below meth c H ls X ht hT hr hz hl
  have hl : lv_has ls 4 [(0, .ref a), (1, .int x), (2, .ref o)] := hl
  have hlo : hL H0 ([] : List Loc) := hL.nil
  refine lv_aload_n X.x X.b dL_read_0 rfl (lv_at hl 2 rfl) ?_
  refine lv_iconst (v := 0) X.x X.b dL_read_1 (by decide) ?_
  refine lv_aload_n X.x X.b dL_read_2 rfl (lv_at hl 0 rfl) ?_
  refine lv_iload_n X.x X.b dL_read_3 rfl (lv_at hl 1 rfl) ?_
  refine h_callVx X hT hr hz hlo (rest := [.int 0, .ref o]) (gc_4_read l D H0 a R nd g h1 n x hst hnd hRR ) gput_o rfl yv_X4_read ml_L_17 ⟨(Nat.le_of_ble_eq_true rfl), (Nat.le_of_ble_eq_true rfl)⟩ (Nat.le_of_ble_eq_true rfl) hl.1 ⟨(Nat.le_of_ble_eq_true rfl), (Nat.le_of_ble_eq_true rfl)⟩ rfl dL_read_4 (fun v9 h9 n9 H locs hp hr hz hlo => ?_) (fun E9 q9 ce9 H locs hx hr hz hlo hce hcv hcl => ?_)
  · obtain ⟨hnt1, hnt2, rfl, rfl, rfl⟩ := hp
    have e9 : lr_read R nd g y x = (0, nd, g, (gf_4_read R nd g x)) := by unfold lr_read; rw [if_neg hnt1, if_neg hnt2]
    show W p l e _ s m _ below meth c H locs _ _ _ (F0 m 7 ls [.long (gf_4_read R nd g x), .int 0, .ref o])
    refine h_last X hr hz hlo (N := 1) (x := ((gf_4_read R nd g x))) ((gput_out (Or.inr ho)).trans hoy) v00 dL_read_7 (fun H locs hr hz hlo => ?_)
    rw [oC_up, gput_hup ho] at hr
    refine lv_goto (tgt := 17) X.x X.b dL_read_8 (by decide) ?_
    refine lv_iconst (v := 0) X.x X.b dL_read_17 (by decide) ?_
    exact vx_ret (h_iret X hr hz hlo ⟨Nat.le_refl _, by rw [e9], by rw [e9]⟩ (Nat.le_of_ble_eq_true rfl) (Nat.le_of_ble_eq_true rfl) dL_read_18)
  · rcases hx with ⟨hu, rfl⟩ | ⟨hu, hp9, rfl⟩
    · refine ct_catch (own := RL) (name := seN) (E := seN) X.ow [] ⟨0, 8, 11, 13⟩ [⟨0, 8, 14, 15⟩] (ht.trans rfl) (fun z hz => nomatch hz) (by decide) (by decide) (X.w kl_L_13) (va_Nw.use rfl hT.2.2.1) hce hcv hcl ?_
      refine lv_astore_n (lv' := [(3, .ref q9), (0, .ref a), (1, .int x), (2, .ref o)]) X.x X.b dL_read_11 rfl hl (by decide) rfl (fun ls hl => ?_)
      refine lv_iconst (v := 1) X.x X.b dL_read_12 (by decide) ?_
      exact vx_ret (h_iret X hr rfl hlo ⟨hz, by unfold lr_read; rw [if_pos hu], by unfold lr_read; rw [if_pos hu]; exact (hsm g).symm⟩ (Nat.le_of_ble_eq_true rfl) (Nat.le_of_ble_eq_true rfl) dL_read_13)
    · refine ct_catch (own := RL) (name := beN) (E := beN) X.ow [⟨0, 8, 11, 13⟩] ⟨0, 8, 14, 15⟩ [] (ht.trans rfl) (fun z hz => by cases List.mem_singleton.mp hz; exact Or.inr ⟨by decide, seN, X.w kl_L_13, hT.2.2.2.2.1⟩) (by decide) (by decide) (X.w kl_L_15) (va_Nw.use rfl hT.2.2.2.1) hce hcv hcl ?_
      refine lv_astore_n (lv' := [(3, .ref q9), (0, .ref a), (1, .int x), (2, .ref o)]) X.x X.b dL_read_14 rfl hl (by decide) rfl (fun ls hl => ?_)
      refine lv_iconst (v := 2) X.x X.b dL_read_15 (by decide) ?_
      exact vx_ret (h_iret X hr rfl hlo ⟨hz, by unfold lr_read; rw [if_neg hu, if_pos hp9], by unfold lr_read; rw [if_neg hu, if_pos hp9]; exact (hsm g).symm⟩ (Nat.le_of_ble_eq_true rfl) (Nat.le_of_ble_eq_true rfl) dL_read_16)
/-- what the law's helper does: its answer, the number of disks, the class's state, what lies in `out` -/
def lr_add (R nd : Nat) (g : GS) (y : Int64)  : Int32 × Nat × GS × Int64 := if g.1 1 = 0 then (1, nd, g, y) else (0, (gf_4_add R nd g).2.1, (gf_4_add R nd g).2.2, ((gf_4_add R nd g).1.toInt64))
theorem yh_L_add : yH yL_add cL_add 3 (some .int) [(0, 8, 11, 13)] 2 := ⟨fun w h => List.mem_filter.mpr ⟨(by decide +kernel : ∀ w ∈ ([.static yL_add, .initialized yL_add.cls, .codeWith yL_add cL_add 3 (some .int) [(0, 8, 11, 13)]] : List Cond), w ∈ lw_tbl) w h, (by decide +kernel : ∀ w ∈ ([.static yL_add, .initialized yL_add.cls, .codeWith yL_add cL_add 3 (some .int) [(0, 8, 11, 13)]] : List Cond), goodWord w = true) w h⟩, by decide, by decide, by decide +kernel⟩
set_option maxRecDepth 20000 in
set_option maxHeartbeats 4000000 in
theorem lc_add (l : Launch) (D : hD) (H0 : Heap) (a R nd : Nat) (g : GS) (h1 : hH) (n o : Nat) (y : Int64)  (hst : l.stackTraces = false) (hnd : nd ≤ 10) (hRR : R ≤ 48) (ho : a + 65 ≤ o) (hoy : h1 o = some (oC y)) : cMh l D H0 yL_add cL_add 3 (some .int) [(0, 8, 11, 13)] 8 122 1 6 [.ref a, .ref o] (gput a R nd g h1) n (fun v9 h9 n9 => n ≤ n9 ∧ v9 = some (.int (lr_add R nd g y).1) ∧ h9 = gput a R (lr_add R nd g y).2.1 (lr_add R nd g y).2.2.1 (hup h1 o (oC (lr_add R nd g y).2.2.2))) := by
  have hsm : ∀ g2 : GS, gput a R nd g2 (hup h1 o (oC y)) = gput a R nd g2 h1 := fun g2 => by rw [hup_same hoy]
  refine h_metH (by decide) (Nat.le_of_ble_eq_true rfl) ?_
  intro p e s m below meth c H ls X ht hT hr hz hl
  have hl : lv_has ls 3 [(0, .ref a), (1, .ref o)] := hl
  have hlo : hL H0 ([] : List Loc) := hL.nil
  refine lv_aload_n X.x X.b dL_add_0 rfl (lv_at hl 1 rfl) ?_
  refine lv_iconst (v := 0) X.x X.b dL_add_1 (by decide) ?_
  refine lv_aload_n X.x X.b dL_add_2 rfl (lv_at hl 0 rfl) ?_
  refine h_callVx X hT hr hz hlo (rest := [.int 0, .ref o]) (gc_4_add l D H0 a R nd g h1 n  hst hnd hRR ) gput_o rfl yv_X4_add ml_L_21 ⟨(Nat.le_of_ble_eq_true rfl), (Nat.le_of_ble_eq_true rfl)⟩ (Nat.le_of_ble_eq_true rfl) hl.1 ⟨(Nat.le_of_ble_eq_true rfl), (Nat.le_of_ble_eq_true rfl)⟩ rfl dL_add_3 (fun v9 h9 n9 H locs hp hr hz hlo => ?_) (fun E9 q9 ce9 H locs hx hr hz hlo hce hcv hcl => ?_)
  · obtain ⟨hnt1, rfl, rfl, rfl⟩ := hp
    have e9 : lr_add R nd g y = (0, (gf_4_add R nd g).2.1, (gf_4_add R nd g).2.2, ((gf_4_add R nd g).1.toInt64)) := by unfold lr_add; rw [if_neg hnt1]
    show W p l e _ s m _ below meth c H locs _ _ _ (F0 m 6 ls [.int (gf_4_add R nd g).1, .int 0, .ref o])
    refine lv_i2l (v := ((gf_4_add R nd g).1).toInt64) X.x X.b dL_add_6 rfl ?_
    refine h_last X hr hz hlo (N := 1) (x := ((gf_4_add R nd g).1).toInt64) ((gput_out (Or.inr ho)).trans hoy) v00 dL_add_7 (fun H locs hr hz hlo => ?_)
    rw [oC_up, gput_hup ho] at hr
    refine lv_goto (tgt := 14) X.x X.b dL_add_8 (by decide) ?_
    refine lv_iconst (v := 0) X.x X.b dL_add_14 (by decide) ?_
    exact vx_ret (h_iret X hr hz hlo ⟨Nat.le_refl _, by rw [e9], by rw [e9]⟩ (Nat.le_of_ble_eq_true rfl) (Nat.le_of_ble_eq_true rfl) dL_add_15)
  · obtain ⟨hu, rfl⟩ := hx
    refine ct_catch (own := RL) (name := seN) (E := seN) X.ow [] ⟨0, 8, 11, 13⟩ [] (ht.trans rfl) (fun z hz => nomatch hz) (by decide) (by decide) (X.w kl_L_13) (va_Nw.use rfl hT.2.2.1) hce hcv hcl ?_
    refine lv_astore_n (lv' := [(2, .ref q9), (0, .ref a), (1, .ref o)]) X.x X.b dL_add_11 rfl hl (by decide) rfl (fun ls hl => ?_)
    refine lv_iconst (v := 1) X.x X.b dL_add_12 (by decide) ?_
    exact vx_ret (h_iret X hr rfl hlo ⟨hz, by unfold lr_add; rw [if_pos hu], by unfold lr_add; rw [if_pos hu]; exact (hsm g).symm⟩ (Nat.le_of_ble_eq_true rfl) (Nat.le_of_ble_eq_true rfl) dL_add_13)
/-- what the law's helper does: its answer, the number of disks, the class's state, what lies in `out` -/
def lr_grow (R nd : Nat) (g : GS) (y : Int64)  : Int32 × Nat × GS × Int64 := if g.1 1 = 0 then (1, nd, g, y) else (0, nd, (gf_4_grow R nd g).2, ((gf_4_grow R nd g).1.toInt64))
theorem yh_L_grow : yH yL_grow cL_grow 3 (some .int) [(0, 8, 11, 13)] 2 := ⟨fun w h => List.mem_filter.mpr ⟨(by decide +kernel : ∀ w ∈ ([.static yL_grow, .initialized yL_grow.cls, .codeWith yL_grow cL_grow 3 (some .int) [(0, 8, 11, 13)]] : List Cond), w ∈ lw_tbl) w h, (by decide +kernel : ∀ w ∈ ([.static yL_grow, .initialized yL_grow.cls, .codeWith yL_grow cL_grow 3 (some .int) [(0, 8, 11, 13)]] : List Cond), goodWord w = true) w h⟩, by decide, by decide, by decide +kernel⟩
set_option maxRecDepth 20000 in
set_option maxHeartbeats 4000000 in
theorem lc_grow (l : Launch) (D : hD) (H0 : Heap) (a R nd : Nat) (g : GS) (h1 : hH) (n o : Nat) (y : Int64)  (hst : l.stackTraces = false) (hnd : nd ≤ 10) (hRR : R ≤ 48) (ho : a + 65 ≤ o) (hoy : h1 o = some (oC y)) : cMh l D H0 yL_grow cL_grow 3 (some .int) [(0, 8, 11, 13)] 8 122 1 6 [.ref a, .ref o] (gput a R nd g h1) n (fun v9 h9 n9 => n ≤ n9 ∧ v9 = some (.int (lr_grow R nd g y).1) ∧ h9 = gput a R (lr_grow R nd g y).2.1 (lr_grow R nd g y).2.2.1 (hup h1 o (oC (lr_grow R nd g y).2.2.2))) := by
  have hsm : ∀ g2 : GS, gput a R nd g2 (hup h1 o (oC y)) = gput a R nd g2 h1 := fun g2 => by rw [hup_same hoy]
  refine h_metH (by decide) (Nat.le_of_ble_eq_true rfl) ?_
  intro p e s m below meth c H ls X ht hT hr hz hl
  have hl : lv_has ls 3 [(0, .ref a), (1, .ref o)] := hl
  have hlo : hL H0 ([] : List Loc) := hL.nil
  refine lv_aload_n X.x X.b dL_grow_0 rfl (lv_at hl 1 rfl) ?_
  refine lv_iconst (v := 0) X.x X.b dL_grow_1 (by decide) ?_
  refine lv_aload_n X.x X.b dL_grow_2 rfl (lv_at hl 0 rfl) ?_
  refine h_callVx X hT hr hz hlo (rest := [.int 0, .ref o]) (gc_4_grow l D H0 a R nd g h1 n  hst hnd hRR ) gput_o rfl yv_X4_grow ml_L_25 ⟨(Nat.le_of_ble_eq_true rfl), (Nat.le_of_ble_eq_true rfl)⟩ (Nat.le_of_ble_eq_true rfl) hl.1 ⟨(Nat.le_of_ble_eq_true rfl), (Nat.le_of_ble_eq_true rfl)⟩ rfl dL_grow_3 (fun v9 h9 n9 H locs hp hr hz hlo => ?_) (fun E9 q9 ce9 H locs hx hr hz hlo hce hcv hcl => ?_)
  · obtain ⟨hnt1, rfl, rfl, rfl⟩ := hp
    have e9 : lr_grow R nd g y = (0, nd, (gf_4_grow R nd g).2, ((gf_4_grow R nd g).1.toInt64)) := by unfold lr_grow; rw [if_neg hnt1]
    show W p l e _ s m _ below meth c H locs _ _ _ (F0 m 6 ls [.int (gf_4_grow R nd g).1, .int 0, .ref o])
    refine lv_i2l (v := ((gf_4_grow R nd g).1).toInt64) X.x X.b dL_grow_6 rfl ?_
    refine h_last X hr hz hlo (N := 1) (x := ((gf_4_grow R nd g).1).toInt64) ((gput_out (Or.inr ho)).trans hoy) v00 dL_grow_7 (fun H locs hr hz hlo => ?_)
    rw [oC_up, gput_hup ho] at hr
    refine lv_goto (tgt := 14) X.x X.b dL_grow_8 (by decide) ?_
    refine lv_iconst (v := 0) X.x X.b dL_grow_14 (by decide) ?_
    exact vx_ret (h_iret X hr hz hlo ⟨Nat.le_refl _, by rw [e9], by rw [e9]⟩ (Nat.le_of_ble_eq_true rfl) (Nat.le_of_ble_eq_true rfl) dL_grow_15)
  · obtain ⟨hu, rfl⟩ := hx
    refine ct_catch (own := RL) (name := seN) (E := seN) X.ow [] ⟨0, 8, 11, 13⟩ [] (ht.trans rfl) (fun z hz => nomatch hz) (by decide) (by decide) (X.w kl_L_13) (va_Nw.use rfl hT.2.2.1) hce hcv hcl ?_
    refine lv_astore_n (lv' := [(2, .ref q9), (0, .ref a), (1, .ref o)]) X.x X.b dL_grow_11 rfl hl (by decide) rfl (fun ls hl => ?_)
    refine lv_iconst (v := 1) X.x X.b dL_grow_12 (by decide) ?_
    exact vx_ret (h_iret X hr rfl hlo ⟨hz, by unfold lr_grow; rw [if_pos hu], by unfold lr_grow; rw [if_pos hu]; exact (hsm g).symm⟩ (Nat.le_of_ble_eq_true rfl) (Nat.le_of_ble_eq_true rfl) dL_grow_13)
/-- what the law's helper does: its answer, the number of disks, the class's state, what lies in `out` -/
def lr_step (R nd : Nat) (g : GS) (y : Int64)  : Int32 × Nat × GS × Int64 := if g.1 1 = 0 then (1, nd, g, y) else (0, nd, (gf_4_step R nd g).2, ((gf_4_step R nd g).1.toInt64))
theorem yh_L_step : yH yL_step cL_step 3 (some .int) [(0, 8, 11, 13)] 2 := ⟨fun w h => List.mem_filter.mpr ⟨(by decide +kernel : ∀ w ∈ ([.static yL_step, .initialized yL_step.cls, .codeWith yL_step cL_step 3 (some .int) [(0, 8, 11, 13)]] : List Cond), w ∈ lw_tbl) w h, (by decide +kernel : ∀ w ∈ ([.static yL_step, .initialized yL_step.cls, .codeWith yL_step cL_step 3 (some .int) [(0, 8, 11, 13)]] : List Cond), goodWord w = true) w h⟩, by decide, by decide, by decide +kernel⟩
set_option maxRecDepth 20000 in
set_option maxHeartbeats 4000000 in
theorem lc_step (l : Launch) (D : hD) (H0 : Heap) (a R nd : Nat) (g : GS) (h1 : hH) (n o : Nat) (y : Int64)  (hst : l.stackTraces = false) (hnd : nd ≤ 10) (hRR : R ≤ 48) (ho : a + 65 ≤ o) (hoy : h1 o = some (oC y)) : cMh l D H0 yL_step cL_step 3 (some .int) [(0, 8, 11, 13)] 8 137 1 6 [.ref a, .ref o] (gput a R nd g h1) n (fun v9 h9 n9 => n ≤ n9 ∧ v9 = some (.int (lr_step R nd g y).1) ∧ h9 = gput a R (lr_step R nd g y).2.1 (lr_step R nd g y).2.2.1 (hup h1 o (oC (lr_step R nd g y).2.2.2))) := by
  have hsm : ∀ g2 : GS, gput a R nd g2 (hup h1 o (oC y)) = gput a R nd g2 h1 := fun g2 => by rw [hup_same hoy]
  refine h_metH (by decide) (Nat.le_of_ble_eq_true rfl) ?_
  intro p e s m below meth c H ls X ht hT hr hz hl
  have hl : lv_has ls 3 [(0, .ref a), (1, .ref o)] := hl
  have hlo : hL H0 ([] : List Loc) := hL.nil
  refine lv_aload_n X.x X.b dL_step_0 rfl (lv_at hl 1 rfl) ?_
  refine lv_iconst (v := 0) X.x X.b dL_step_1 (by decide) ?_
  refine lv_aload_n X.x X.b dL_step_2 rfl (lv_at hl 0 rfl) ?_
  refine h_callVx X hT hr hz hlo (rest := [.int 0, .ref o]) (gc_4_step l D H0 a R nd g h1 n  hst hnd hRR ) gput_o rfl yv_X4_step ml_L_28 ⟨(Nat.le_of_ble_eq_true rfl), (Nat.le_of_ble_eq_true rfl)⟩ (Nat.le_of_ble_eq_true rfl) hl.1 ⟨(Nat.le_of_ble_eq_true rfl), (Nat.le_of_ble_eq_true rfl)⟩ rfl dL_step_3 (fun v9 h9 n9 H locs hp hr hz hlo => ?_) (fun E9 q9 ce9 H locs hx hr hz hlo hce hcv hcl => ?_)
  · obtain ⟨hnt1, rfl, rfl, rfl⟩ := hp
    have e9 : lr_step R nd g y = (0, nd, (gf_4_step R nd g).2, ((gf_4_step R nd g).1.toInt64)) := by unfold lr_step; rw [if_neg hnt1]
    show W p l e _ s m _ below meth c H locs _ _ _ (F0 m 6 ls [.int (gf_4_step R nd g).1, .int 0, .ref o])
    refine lv_i2l (v := ((gf_4_step R nd g).1).toInt64) X.x X.b dL_step_6 rfl ?_
    refine h_last X hr hz hlo (N := 1) (x := ((gf_4_step R nd g).1).toInt64) ((gput_out (Or.inr ho)).trans hoy) v00 dL_step_7 (fun H locs hr hz hlo => ?_)
    rw [oC_up, gput_hup ho] at hr
    refine lv_goto (tgt := 14) X.x X.b dL_step_8 (by decide) ?_
    refine lv_iconst (v := 0) X.x X.b dL_step_14 (by decide) ?_
    exact vx_ret (h_iret X hr hz hlo ⟨Nat.le_refl _, by rw [e9], by rw [e9]⟩ (Nat.le_of_ble_eq_true rfl) (Nat.le_of_ble_eq_true rfl) dL_step_15)
  · obtain ⟨hu, rfl⟩ := hx
    refine ct_catch (own := RL) (name := seN) (E := seN) X.ow [] ⟨0, 8, 11, 13⟩ [] (ht.trans rfl) (fun z hz => nomatch hz) (by decide) (by decide) (X.w kl_L_13) (va_Nw.use rfl hT.2.2.1) hce hcv hcl ?_
    refine lv_astore_n (lv' := [(2, .ref q9), (0, .ref a), (1, .ref o)]) X.x X.b dL_step_11 rfl hl (by decide) rfl (fun ls hl => ?_)
    refine lv_iconst (v := 1) X.x X.b dL_step_12 (by decide) ?_
    exact vx_ret (h_iret X hr rfl hlo ⟨hz, by unfold lr_step; rw [if_pos hu], by unfold lr_step; rw [if_pos hu]; exact (hsm g).symm⟩ (Nat.le_of_ble_eq_true rfl) (Nat.le_of_ble_eq_true rfl) dL_step_13)
/-- what the law's helper does: its answer, the number of disks, the class's state, what lies in `out` -/
def lr_rebuild (R nd : Nat) (g : GS) (y : Int64)  : Int32 × Nat × GS × Int64 := if g.1 1 = 0 then (1, nd, g, y) else (0, nd, (gf_4_rebuild R nd g).2, ((gf_4_rebuild R nd g).1.toInt64))
theorem yh_L_rebuild : yH yL_rebuild cL_rebuild 3 (some .int) [(0, 8, 11, 13)] 2 := ⟨fun w h => List.mem_filter.mpr ⟨(by decide +kernel : ∀ w ∈ ([.static yL_rebuild, .initialized yL_rebuild.cls, .codeWith yL_rebuild cL_rebuild 3 (some .int) [(0, 8, 11, 13)]] : List Cond), w ∈ lw_tbl) w h, (by decide +kernel : ∀ w ∈ ([.static yL_rebuild, .initialized yL_rebuild.cls, .codeWith yL_rebuild cL_rebuild 3 (some .int) [(0, 8, 11, 13)]] : List Cond), goodWord w = true) w h⟩, by decide, by decide, by decide +kernel⟩
set_option maxRecDepth 20000 in
set_option maxHeartbeats 4000000 in
theorem lc_rebuild (l : Launch) (D : hD) (H0 : Heap) (a R nd : Nat) (g : GS) (h1 : hH) (n o : Nat) (y : Int64)  (hst : l.stackTraces = false) (hnd : nd ≤ 10) (hRR : R ≤ 48) (ho : a + 65 ≤ o) (hoy : h1 o = some (oC y)) : cMh l D H0 yL_rebuild cL_rebuild 3 (some .int) [(0, 8, 11, 13)] 8 125 1 6 [.ref a, .ref o] (gput a R nd g h1) n (fun v9 h9 n9 => n ≤ n9 ∧ v9 = some (.int (lr_rebuild R nd g y).1) ∧ h9 = gput a R (lr_rebuild R nd g y).2.1 (lr_rebuild R nd g y).2.2.1 (hup h1 o (oC (lr_rebuild R nd g y).2.2.2))) := by
  have hsm : ∀ g2 : GS, gput a R nd g2 (hup h1 o (oC y)) = gput a R nd g2 h1 := fun g2 => by rw [hup_same hoy]
  refine h_metH (by decide) (Nat.le_of_ble_eq_true rfl) ?_
  intro p e s m below meth c H ls X ht hT hr hz hl
  have hl : lv_has ls 3 [(0, .ref a), (1, .ref o)] := hl
  have hlo : hL H0 ([] : List Loc) := hL.nil
  refine lv_aload_n X.x X.b dL_rebuild_0 rfl (lv_at hl 1 rfl) ?_
  refine lv_iconst (v := 0) X.x X.b dL_rebuild_1 (by decide) ?_
  refine lv_aload_n X.x X.b dL_rebuild_2 rfl (lv_at hl 0 rfl) ?_
  refine h_callVx X hT hr hz hlo (rest := [.int 0, .ref o]) (gc_4_rebuild l D H0 a R nd g h1 n  hst hnd hRR ) gput_o rfl yv_X4_rebuild ml_L_31 ⟨(Nat.le_of_ble_eq_true rfl), (Nat.le_of_ble_eq_true rfl)⟩ (Nat.le_of_ble_eq_true rfl) hl.1 ⟨(Nat.le_of_ble_eq_true rfl), (Nat.le_of_ble_eq_true rfl)⟩ rfl dL_rebuild_3 (fun v9 h9 n9 H locs hp hr hz hlo => ?_) (fun E9 q9 ce9 H locs hx hr hz hlo hce hcv hcl => ?_)
  · obtain ⟨hnt1, rfl, rfl, rfl⟩ := hp
    have e9 : lr_rebuild R nd g y = (0, nd, (gf_4_rebuild R nd g).2, ((gf_4_rebuild R nd g).1.toInt64)) := by unfold lr_rebuild; rw [if_neg hnt1]
    show W p l e _ s m _ below meth c H locs _ _ _ (F0 m 6 ls [.int (gf_4_rebuild R nd g).1, .int 0, .ref o])
    refine lv_i2l (v := ((gf_4_rebuild R nd g).1).toInt64) X.x X.b dL_rebuild_6 rfl ?_
    refine h_last X hr hz hlo (N := 1) (x := ((gf_4_rebuild R nd g).1).toInt64) ((gput_out (Or.inr ho)).trans hoy) v00 dL_rebuild_7 (fun H locs hr hz hlo => ?_)
    rw [oC_up, gput_hup ho] at hr
    refine lv_goto (tgt := 14) X.x X.b dL_rebuild_8 (by decide) ?_
    refine lv_iconst (v := 0) X.x X.b dL_rebuild_14 (by decide) ?_
    exact vx_ret (h_iret X hr hz hlo ⟨Nat.le_refl _, by rw [e9], by rw [e9]⟩ (Nat.le_of_ble_eq_true rfl) (Nat.le_of_ble_eq_true rfl) dL_rebuild_15)
  · obtain ⟨hu, rfl⟩ := hx
    refine ct_catch (own := RL) (name := seN) (E := seN) X.ow [] ⟨0, 8, 11, 13⟩ [] (ht.trans rfl) (fun z hz => nomatch hz) (by decide) (by decide) (X.w kl_L_13) (va_Nw.use rfl hT.2.2.1) hce hcv hcl ?_
    refine lv_astore_n (lv' := [(2, .ref q9), (0, .ref a), (1, .ref o)]) X.x X.b dL_rebuild_11 rfl hl (by decide) rfl (fun ls hl => ?_)
    refine lv_iconst (v := 1) X.x X.b dL_rebuild_12 (by decide) ?_
    exact vx_ret (h_iret X hr rfl hlo ⟨hz, by unfold lr_rebuild; rw [if_pos hu], by unfold lr_rebuild; rw [if_pos hu]; exact (hsm g).symm⟩ (Nat.le_of_ble_eq_true rfl) (Nat.le_of_ble_eq_true rfl) dL_rebuild_13)
/-- what the law's helper does: its answer, the number of disks, the class's state, what lies in `out` -/
def lr_sum (R nd : Nat) (g : GS) (y : Int64)  : Int32 × Nat × GS × Int64 := if g.1 1 = 0 then (1, nd, g, y) else (0, nd, g, (gf_4_sum R nd g))
theorem yh_L_sum : yH yL_sum cL_sum 3 (some .int) [(0, 7, 10, 13)] 2 := ⟨fun w h => List.mem_filter.mpr ⟨(by decide +kernel : ∀ w ∈ ([.static yL_sum, .initialized yL_sum.cls, .codeWith yL_sum cL_sum 3 (some .int) [(0, 7, 10, 13)]] : List Cond), w ∈ lw_tbl) w h, (by decide +kernel : ∀ w ∈ ([.static yL_sum, .initialized yL_sum.cls, .codeWith yL_sum cL_sum 3 (some .int) [(0, 7, 10, 13)]] : List Cond), goodWord w = true) w h⟩, by decide, by decide, by decide +kernel⟩
set_option maxRecDepth 20000 in
set_option maxHeartbeats 4000000 in
theorem lc_sum (l : Launch) (D : hD) (H0 : Heap) (a R nd : Nat) (g : GS) (h1 : hH) (n o : Nat) (y : Int64)  (hst : l.stackTraces = false) (hnd : nd ≤ 10) (hRR : R ≤ 48) (ho : a + 65 ≤ o) (hoy : h1 o = some (oC y)) (P9 : Nat) (hP : P9 ≤ 432) (hp : gf_4_placeCount R nd g = nI P9) : cMh l D H0 yL_sum cL_sum 3 (some .int) [(0, 7, 10, 13)] 8 126 1 6 [.ref a, .ref o] (gput a R nd g h1) n (fun v9 h9 n9 => n ≤ n9 ∧ v9 = some (.int (lr_sum R nd g y).1) ∧ h9 = gput a R (lr_sum R nd g y).2.1 (lr_sum R nd g y).2.2.1 (hup h1 o (oC (lr_sum R nd g y).2.2.2))) := by
  have hsm : ∀ g2 : GS, gput a R nd g2 (hup h1 o (oC y)) = gput a R nd g2 h1 := fun g2 => by rw [hup_same hoy]
  refine h_metH (by decide) (Nat.le_of_ble_eq_true rfl) ?_
  intro p e s m below meth c H ls X ht hT hr hz hl
  have hl : lv_has ls 3 [(0, .ref a), (1, .ref o)] := hl
  have hlo : hL H0 ([] : List Loc) := hL.nil
  refine lv_aload_n X.x X.b dL_sum_0 rfl (lv_at hl 1 rfl) ?_
  refine lv_iconst (v := 0) X.x X.b dL_sum_1 (by decide) ?_
  refine lv_aload_n X.x X.b dL_sum_2 rfl (lv_at hl 0 rfl) ?_
  refine h_callVx X hT hr hz hlo (rest := [.int 0, .ref o]) (gc_4_sum l D H0 a R nd g h1 n  hst hnd hRR P9 hP hp) gput_o rfl yv_X4_sum ml_L_34 ⟨(Nat.le_of_ble_eq_true rfl), (Nat.le_of_ble_eq_true rfl)⟩ (Nat.le_of_ble_eq_true rfl) hl.1 ⟨(Nat.le_of_ble_eq_true rfl), (Nat.le_of_ble_eq_true rfl)⟩ rfl dL_sum_3 (fun v9 h9 n9 H locs hp hr hz hlo => ?_) (fun E9 q9 ce9 H locs hx hr hz hlo hce hcv hcl => ?_)
  · obtain ⟨hnt1, rfl, rfl, rfl⟩ := hp
    have e9 : lr_sum R nd g y = (0, nd, g, (gf_4_sum R nd g)) := by unfold lr_sum; rw [if_neg hnt1]
    show W p l e _ s m _ below meth c H locs _ _ _ (F0 m 6 ls [.long (gf_4_sum R nd g), .int 0, .ref o])
    refine h_last X hr hz hlo (N := 1) (x := ((gf_4_sum R nd g))) ((gput_out (Or.inr ho)).trans hoy) v00 dL_sum_6 (fun H locs hr hz hlo => ?_)
    rw [oC_up, gput_hup ho] at hr
    refine lv_goto (tgt := 13) X.x X.b dL_sum_7 (by decide) ?_
    refine lv_iconst (v := 0) X.x X.b dL_sum_13 (by decide) ?_
    exact vx_ret (h_iret X hr hz hlo ⟨Nat.le_refl _, by rw [e9], by rw [e9]⟩ (Nat.le_of_ble_eq_true rfl) (Nat.le_of_ble_eq_true rfl) dL_sum_14)
  · obtain ⟨hu, rfl⟩ := hx
    refine ct_catch (own := RL) (name := seN) (E := seN) X.ow [] ⟨0, 7, 10, 13⟩ [] (ht.trans rfl) (fun z hz => nomatch hz) (by decide) (by decide) (X.w kl_L_13) (va_Nw.use rfl hT.2.2.1) hce hcv hcl ?_
    refine lv_astore_n (lv' := [(2, .ref q9), (0, .ref a), (1, .ref o)]) X.x X.b dL_sum_10 rfl hl (by decide) rfl (fun ls hl => ?_)
    refine lv_iconst (v := 1) X.x X.b dL_sum_11 (by decide) ?_
    exact vx_ret (h_iret X hr rfl hlo ⟨hz, by unfold lr_sum; rw [if_pos hu], by unfold lr_sum; rw [if_pos hu]; exact (hsm g).symm⟩ (Nat.le_of_ble_eq_true rfl) (Nat.le_of_ble_eq_true rfl) dL_sum_12)
