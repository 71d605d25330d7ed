/-! ===== THE LAW: each call of the script ===== -/
/-- what the contracts rest on -/
def Rdy (R nd : Nat) (g : GS) (md : Nat) (t : MS) : Prop := nd ≤ 10 ∧ md ≤ 10 ∧ R ≤ 48 ∧ (g.1 1 = 0 ∨ g.1 1 = 1) ∧ GV t ∧ (∀ x : Int32, ¬ x < 0 → x < mf_places R md t → vp_in x 432) ∧ (∃ P9 : Nat, P9 ≤ 432 ∧ mf_places R md t = nI P9) ∧ (∃ P9 : Nat, P9 ≤ 432 ∧ gf_4_placeCount R nd g = nI P9) ∧ (∃ i, i < md ∧ t.2.1 0 i = 0) ∧ (∀ i, i < md → t.2.1 0 i = 0 → SV t i) ∧ (∀ i, i < md → vp_in (t.2.1 8 i) 432)
theorem nIi1 (i : Nat) : nI i + 1 = nI (i + 1) := nI_add i 1
theorem nIi2 (i : Nat) : nI i + 2 = nI (i + 2) := nI_add i 2
theorem nIi3 (i : Nat) : nI i + 3 = nI (i + 3) := nI_add i 3
theorem nIi4 (i : Nat) : nI i + 4 = nI (i + 4) := nI_add i 4
theorem cmp0 {x y : Int64} (h : x = y) : lg_cmp x y = 0 := by
  subst h
  unfold lg_cmp
  rw [if_neg (Int64.lt_irrefl), if_pos rfl]
section LS
variable {p : Program} {l : Launch} {e : Env} {s : State} {m : MethodId} {below : List Frame} {meth : Method} {c : Code} {D : hD} {H0 : Heap} {sb L : Nat} {xs : Nat → Int32} {ret : Option FieldType} {Q : State → Prop}
theorem h_arg1 (X : hX p m c cL_law 8 s #[Value.ref sb] RL D meth ret) (Y : sX sb L xs H0 s) {H : Heap} {locs : List Loc} {cells slots : Nat} {h : hH} (hr : hR D H0 h H) (hlo : hL H0 locs) {ls : Array Slot} {lv : List (Nat × Value)} {i q0 q4 pc : Nat} {rest : List Value} (hl : lv_has ls 8 lv) (e0 : lv[q0]? = some (0, .ref sb)) (e4 : lv[q4]? = some (4, .int (nI i))) (hi : i + 4 ≤ L) (hLL : L ≤ 2050)
    (d0 : decode cL_law pc = .ok (.aload_n 0, 1)) (d1 : decode cL_law (pc + 1) = .ok (.iload 4, 2)) (d2 : decode cL_law (pc + 3) = .ok (.iconst 1, 1)) (d3 : decode cL_law (pc + 4) = .ok (.iadd, 1)) (d4 : decode cL_law (pc + 5) = .ok (.iaload, 1))
    (kk : W p l e room_1 s m #[Value.ref sb] below meth c H locs cells slots Q (F0 m (pc + 6) ls (.int (xs (i + 1)) :: rest))) : W p l e room_1 s m #[Value.ref sb] below meth c H locs cells slots Q (F0 m pc ls rest) := by
  refine lv_aload_n X.x X.b d0 rfl (lv_at hl q0 e0) ?_
  refine lv_iload X.x X.b d1 (lv_at hl q4 e4) ?_
  refine lv_iconst (v := 1) X.x X.b d2 (by decide) ?_
  refine lv_iadd X.x X.b d3 ?_
  rw [nIi1]
  refine h_sld X Y hr hlo (vp_in_nI (by omega) (by omega)) d4 ?_
  rw [nI_clamp (by omega)]
  exact kk
theorem h_arg2 (X : hX p m c cL_law 8 s #[Value.ref sb] RL D meth ret) (Y : sX sb L xs H0 s) {H : Heap} {locs : List Loc} {cells slots : Nat} {h : hH} (hr : hR D H0 h H) (hlo : hL H0 locs) {ls : Array Slot} {lv : List (Nat × Value)} {i q0 q4 pc : Nat} {rest : List Value} (hl : lv_has ls 8 lv) (e0 : lv[q0]? = some (0, .ref sb)) (e4 : lv[q4]? = some (4, .int (nI i))) (hi : i + 4 ≤ L) (hLL : L ≤ 2050)
    (d0 : decode cL_law pc = .ok (.aload_n 0, 1)) (d1 : decode cL_law (pc + 1) = .ok (.iload 4, 2)) (d2 : decode cL_law (pc + 3) = .ok (.iconst 2, 1)) (d3 : decode cL_law (pc + 4) = .ok (.iadd, 1)) (d4 : decode cL_law (pc + 5) = .ok (.iaload, 1))
    (kk : W p l e room_1 s m #[Value.ref sb] below meth c H locs cells slots Q (F0 m (pc + 6) ls (.int (xs (i + 2)) :: rest))) : W p l e room_1 s m #[Value.ref sb] below meth c H locs cells slots Q (F0 m pc ls rest) := by
  refine lv_aload_n X.x X.b d0 rfl (lv_at hl q0 e0) ?_
  refine lv_iload X.x X.b d1 (lv_at hl q4 e4) ?_
  refine lv_iconst (v := 2) X.x X.b d2 (by decide) ?_
  refine lv_iadd X.x X.b d3 ?_
  rw [nIi2]
  refine h_sld X Y hr hlo (vp_in_nI (by omega) (by omega)) d4 ?_
  rw [nI_clamp (by omega)]
  exact kk
theorem h_arg3 (X : hX p m c cL_law 8 s #[Value.ref sb] RL D meth ret) (Y : sX sb L xs H0 s) {H : Heap} {locs : List Loc} {cells slots : Nat} {h : hH} (hr : hR D H0 h H) (hlo : hL H0 locs) {ls : Array Slot} {lv : List (Nat × Value)} {i q0 q4 pc : Nat} {rest : List Value} (hl : lv_has ls 8 lv) (e0 : lv[q0]? = some (0, .ref sb)) (e4 : lv[q4]? = some (4, .int (nI i))) (hi : i + 4 ≤ L) (hLL : L ≤ 2050)
    (d0 : decode cL_law pc = .ok (.aload_n 0, 1)) (d1 : decode cL_law (pc + 1) = .ok (.iload 4, 2)) (d2 : decode cL_law (pc + 3) = .ok (.iconst 3, 1)) (d3 : decode cL_law (pc + 4) = .ok (.iadd, 1)) (d4 : decode cL_law (pc + 5) = .ok (.iaload, 1))
    (kk : W p l e room_1 s m #[Value.ref sb] below meth c H locs cells slots Q (F0 m (pc + 6) ls (.int (xs (i + 3)) :: rest))) : W p l e room_1 s m #[Value.ref sb] below meth c H locs cells slots Q (F0 m pc ls rest) := by
  refine lv_aload_n X.x X.b d0 rfl (lv_at hl q0 e0) ?_
  refine lv_iload X.x X.b d1 (lv_at hl q4 e4) ?_
  refine lv_iconst (v := 3) X.x X.b d2 (by decide) ?_
  refine lv_iadd X.x X.b d3 ?_
  rw [nIi3]
  refine h_sld X Y hr hlo (vp_in_nI (by omega) (by omega)) d4 ?_
  rw [nI_clamp (by omega)]
  exact kk
set_option maxRecDepth 20000 in
set_option maxHeartbeats 4000000 in
theorem ls_write (X : hX p m c cL_law 8 s #[Value.ref sb] RL D meth ret) (Y : sX sb L xs H0 s) (hT : hTw H0 s) (hst : l.stackTraces = false) {a R nd md i n cells slots : Nat} {g : GS} {t : MS} {y : Int64} (hy : Rdy R nd g md t) (hi : i + 4 ≤ L) (hLL : L ≤ 2050) (hcl : cells + 2 ≤ 601024) (hsl : slots + 12 ≤ 7293000) 
    {H : Heap} {locs : List Loc} {ls : Array Slot} (hr : hR D H0 (lawH a R nd g md t y) H) (hz : H.size = n) (hlo : hL H0 locs) (hl : lv_has ls 8 [(4, .int (nI i)), (0, .ref sb), (1, .ref a), (2, .ref (a + 65)), (3, .ref (a + 78))])
    (kk : ∀ (H : Heap) (locs : List Loc) (ls : Array Slot) (n2 : Nat), hR D H0 (lawH a R (lr_write R nd g y (xs (i + 1)) (((xs (i + 2)).toInt64 <<< ((32 : Int32).toInt64 &&& 63)) ||| ((xs (i + 3)).toInt64 &&& 4294967295))).2.1 (lr_write R nd g y (xs (i + 1)) (((xs (i + 2)).toInt64 <<< ((32 : Int32).toInt64 &&& 63)) ||| ((xs (i + 3)).toInt64 &&& 4294967295))).2.2.1 md (mf_write R md t (xs (i + 1)) (((xs (i + 2)).toInt64 <<< ((32 : Int32).toInt64 &&& 63)) ||| ((xs (i + 3)).toInt64 &&& 4294967295))).2 (lr_write R nd g y (xs (i + 1)) (((xs (i + 2)).toInt64 <<< ((32 : Int32).toInt64 &&& 63)) ||| ((xs (i + 3)).toInt64 &&& 4294967295))).2.2.2) H → H.size = n2 → hL H0 locs → lv_has ls 8 [(4, .int (nI i)), (0, .ref sb), (1, .ref a), (2, .ref (a + 65)), (3, .ref (a + 78))] → W p l e room_1 s m #[Value.ref sb] below meth c H locs (cells + 2) (slots + 12) Q (F0 m 498 ls [])) :
    W p l e room_1 s m #[Value.ref sb] below meth c H locs cells slots Q (F0 m 132 ls []) := by
  refine lv_aload_n X.x X.b dL_law_132 rfl (lv_at hl 2 rfl) ?_
  refine h_arg1 X Y hr hlo hl (q0 := 1) (q4 := 0) rfl rfl hi hLL dL_law_133 dL_law_134 dL_law_136 dL_law_137 dL_law_138 ?_
  refine h_arg2 X Y hr hlo hl (q0 := 1) (q4 := 0) rfl rfl hi hLL dL_law_139 dL_law_140 dL_law_142 dL_law_143 dL_law_144 ?_
  refine lv_i2l (v := ((xs (i + 2))).toInt64) X.x X.b dL_law_145 rfl ?_
  refine lv_bipush (v := 32) X.x X.b dL_law_146 (by decide) ?_
  refine lv_lshl X.x X.b dL_law_148 rfl ?_
  refine h_arg3 X Y hr hlo hl (q0 := 1) (q4 := 0) rfl rfl hi hLL dL_law_149 dL_law_150 dL_law_152 dL_law_153 dL_law_154 ?_
  refine lv_i2l (v := ((xs (i + 3))).toInt64) X.x X.b dL_law_155 rfl ?_
  refine lv_ldc2 (v := 4294967295) X.x X.b X.ow (X.w kc_L_50) dL_law_156 ?_
  refine lv_land X.x X.b dL_law_159 ?_
  refine lv_lor X.x X.b dL_law_160 ?_
  refine lv_aload_n X.x X.b dL_law_161 rfl (lv_at hl 4 rfl) ?_
  have hr : hR D H0 (gput a R nd g (mput (a + 65) R md t (hup hE (a + 78) (oC y)))) H := hr
  refine h_callH X hT hr hz hlo (rest := []) (lc_write l D H0 a R nd g _ _ (a + 78) y (xs (i + 1)) (((xs (i + 2)).toInt64 <<< ((32 : Int32).toInt64 &&& 63)) ||| ((xs (i + 3)).toInt64 &&& 4294967295)) hst hy.1 hy.2.2.1 (by omega) lawH_in hy.2.2.2.1) yh_L_write ml_L_52 ⟨(Nat.le_of_ble_eq_true rfl), (Nat.le_of_ble_eq_true rfl)⟩ (Nat.le_of_ble_eq_true rfl) hl.1 ⟨by show _ ≤ 601024; omega, by show _ ≤ 7293000; omega⟩ rfl dL_law_162 (fun v9 h9 n9 H locs hp hr hz hlo => ?_)
  obtain ⟨hn9, rfl, rfl⟩ := hp
  rw [lawH_up] at hr
  show W p l e _ s m _ below meth c H locs _ _ _ (F0 m 165 ls [.int (lr_write R nd g y (xs (i + 1)) (((xs (i + 2)).toInt64 <<< ((32 : Int32).toInt64 &&& 63)) ||| ((xs (i + 3)).toInt64 &&& 4294967295))).1])
  refine lv_istore (lv' := [(5, .int (lr_write R nd g y (xs (i + 1)) (((xs (i + 2)).toInt64 <<< ((32 : Int32).toInt64 &&& 63)) ||| ((xs (i + 3)).toInt64 &&& 4294967295))).1), (4, .int (nI i)), (0, .ref sb), (1, .ref a), (2, .ref (a + 65)), (3, .ref (a + 78))]) X.x X.b dL_law_165 hl (by decide) rfl (fun ls hl => ?_)
  refine lv_aload_n X.x X.b dL_law_167 rfl (lv_at hl 4 rfl) ?_
  refine h_arg1 X Y hr hlo hl (q0 := 2) (q4 := 1) rfl rfl hi hLL dL_law_168 dL_law_169 dL_law_171 dL_law_172 dL_law_173 ?_
  refine h_arg2 X Y hr hlo hl (q0 := 2) (q4 := 1) rfl rfl hi hLL dL_law_174 dL_law_175 dL_law_177 dL_law_178 dL_law_179 ?_
  refine lv_i2l (v := ((xs (i + 2))).toInt64) X.x X.b dL_law_180 rfl ?_
  refine lv_bipush (v := 32) X.x X.b dL_law_181 (by decide) ?_
  refine lv_lshl X.x X.b dL_law_183 rfl ?_
  refine h_arg3 X Y hr hlo hl (q0 := 2) (q4 := 1) rfl rfl hi hLL dL_law_184 dL_law_185 dL_law_187 dL_law_188 dL_law_189 ?_
  refine lv_i2l (v := ((xs (i + 3))).toInt64) X.x X.b dL_law_190 rfl ?_
  refine lv_ldc2 (v := 4294967295) X.x X.b X.ow (X.w kc_L_50) dL_law_191 ?_
  refine lv_land X.x X.b dL_law_194 ?_
  refine lv_lor X.x X.b dL_law_195 ?_
  rw [lawH_m] at hr
  refine h_callV X hr hz hlo (rest := []) (mc_write l D H0 (a + 65) R md t _ _ (xs (i + 1)) (((xs (i + 2)).toInt64 <<< ((32 : Int32).toInt64 &&& 63)) ||| ((xs (i + 3)).toInt64 &&& 4294967295)) hy.2.1 hy.2.2.2.2.1 (hy.2.2.2.2.2.1 _)) mput_o rfl yv_X5_write ml_L_55 ⟨(Nat.le_of_ble_eq_true rfl), (Nat.le_of_ble_eq_true rfl)⟩ (Nat.le_of_ble_eq_true rfl) hl.1 ⟨by show _ ≤ 601024; omega, by show _ ≤ 7293000; omega⟩ rfl dL_law_196 (fun v9 h9 n9 H locs hp hr hz hlo => ?_)
  obtain ⟨rfl, rfl, rfl⟩ := hp
  show W p l e _ s m _ below meth c H locs _ _ _ (F0 m 199 ls [.int (mf_write R md t (xs (i + 1)) (((xs (i + 2)).toInt64 <<< ((32 : Int32).toInt64 &&& 63)) ||| ((xs (i + 3)).toInt64 &&& 4294967295))).1])
  refine lv_istore (lv' := [(6, .int (mf_write R md t (xs (i + 1)) (((xs (i + 2)).toInt64 <<< ((32 : Int32).toInt64 &&& 63)) ||| ((xs (i + 3)).toInt64 &&& 4294967295))).1), (5, .int (lr_write R nd g y (xs (i + 1)) (((xs (i + 2)).toInt64 <<< ((32 : Int32).toInt64 &&& 63)) ||| ((xs (i + 3)).toInt64 &&& 4294967295))).1), (4, .int (nI i)), (0, .ref sb), (1, .ref a), (2, .ref (a + 65)), (3, .ref (a + 78))]) X.x X.b dL_law_199 hl (by decide) rfl (fun ls hl => ?_)
  refine lv_goto (tgt := 498) X.x X.b dL_law_201 (by decide) ?_
  rw [← lawH_m] at hr
  exact W.widen (by omega) (by omega) (kk H locs ls _ hr hz hlo (lv_sub hl [2, 3, 4, 5, 6] rfl))
set_option maxRecDepth 20000 in
set_option maxHeartbeats 4000000 in
theorem ls_read (X : hX p m c cL_law 8 s #[Value.ref sb] RL D meth ret) (Y : sX sb L xs H0 s) (hT : hTw H0 s) (hst : l.stackTraces = false) {a R nd md i n cells slots : Nat} {g : GS} {t : MS} {y : Int64} (hy : Rdy R nd g md t) (hi : i + 4 ≤ L) (hLL : L ≤ 2050) (hcl : cells + 2 ≤ 601024) (hsl : slots + 12 ≤ 7293000) 
    {H : Heap} {locs : List Loc} {ls : Array Slot} (hr : hR D H0 (lawH a R nd g md t y) H) (hz : H.size = n) (hlo : hL H0 locs) (hl : lv_has ls 8 [(4, .int (nI i)), (0, .ref sb), (1, .ref a), (2, .ref (a + 65)), (3, .ref (a + 78))])
    (kk : ∀ (H : Heap) (locs : List Loc) (ls : Array Slot) (n2 : Nat), hR D H0 (lawH a R (lr_read R nd g y (xs (i + 1))).2.1 (lr_read R nd g y (xs (i + 1))).2.2.1 md (mf_read R md t (xs (i + 1))).2 (lr_read R nd g y (xs (i + 1))).2.2.2) H → H.size = n2 → hL H0 locs → lv_has ls 8 [(4, .int (nI i)), (0, .ref sb), (1, .ref a), (2, .ref (a + 65)), (3, .ref (a + 78))] → W p l e room_1 s m #[Value.ref sb] below meth c H locs (cells + 2) (slots + 12) Q (F0 m 498 ls [])) :
    W p l e room_1 s m #[Value.ref sb] below meth c H locs cells slots Q (F0 m 204 ls []) := by
  refine lv_aload_n X.x X.b dL_law_204 rfl (lv_at hl 2 rfl) ?_
  refine h_arg1 X Y hr hlo hl (q0 := 1) (q4 := 0) rfl rfl hi hLL dL_law_205 dL_law_206 dL_law_208 dL_law_209 dL_law_210 ?_
  refine lv_aload_n X.x X.b dL_law_211 rfl (lv_at hl 4 rfl) ?_
  have hr : hR D H0 (gput a R nd g (mput (a + 65) R md t (hup hE (a + 78) (oC y)))) H := hr
  refine h_callH X hT hr hz hlo (rest := []) (lc_read l D H0 a R nd g _ _ (a + 78) y (xs (i + 1)) hst hy.1 hy.2.2.1 (by omega) lawH_in ) yh_L_read ml_L_56 ⟨(Nat.le_of_ble_eq_true rfl), (Nat.le_of_ble_eq_true rfl)⟩ (Nat.le_of_ble_eq_true rfl) hl.1 ⟨by show _ ≤ 601024; omega, by show _ ≤ 7293000; omega⟩ rfl dL_law_212 (fun v9 h9 n9 H locs hp hr hz hlo => ?_)
  obtain ⟨hn9, rfl, rfl⟩ := hp
  rw [lawH_up] at hr
  show W p l e _ s m _ below meth c H locs _ _ _ (F0 m 215 ls [.int (lr_read R nd g y (xs (i + 1))).1])
  refine lv_istore (lv' := [(5, .int (lr_read R nd g y (xs (i + 1))).1), (4, .int (nI i)), (0, .ref sb), (1, .ref a), (2, .ref (a + 65)), (3, .ref (a + 78))]) X.x X.b dL_law_215 hl (by decide) rfl (fun ls hl => ?_)
  refine lv_aload_n X.x X.b dL_law_217 rfl (lv_at hl 4 rfl) ?_
  refine h_arg1 X Y hr hlo hl (q0 := 2) (q4 := 1) rfl rfl hi hLL dL_law_218 dL_law_219 dL_law_221 dL_law_222 dL_law_223 ?_
  rw [lawH_m] at hr
  refine h_callV X hr hz hlo (rest := []) (mc_read l D H0 (a + 65) R md t _ _ (xs (i + 1)) hy.2.1 (hy.2.2.2.2.2.1 _)) mput_o rfl yv_X5_read ml_L_59 ⟨(Nat.le_of_ble_eq_true rfl), (Nat.le_of_ble_eq_true rfl)⟩ (Nat.le_of_ble_eq_true rfl) hl.1 ⟨by show _ ≤ 601024; omega, by show _ ≤ 7293000; omega⟩ rfl dL_law_224 (fun v9 h9 n9 H locs hp hr hz hlo => ?_)
  obtain ⟨rfl, rfl, rfl⟩ := hp
  show W p l e _ s m _ below meth c H locs _ _ _ (F0 m 227 ls [.long (mf_read R md t (xs (i + 1))).1])
  refine lv_lstore (lv' := [(6, .long (mf_read R md t (xs (i + 1))).1), (5, .int (lr_read R nd g y (xs (i + 1))).1), (4, .int (nI i)), (0, .ref sb), (1, .ref a), (2, .ref (a + 65)), (3, .ref (a + 78))]) X.x X.b dL_law_227 hl (by decide) rfl (fun ls hl => ?_)
  refine lv_goto (tgt := 498) X.x X.b dL_law_229 (by decide) ?_
  rw [← lawH_m] at hr
  exact W.widen (by omega) (by omega) (kk H locs ls _ hr hz hlo (lv_sub hl [2, 3, 4, 5, 6] rfl))
set_option maxRecDepth 20000 in
set_option maxHeartbeats 4000000 in
theorem ls_add (X : hX p m c cL_law 8 s #[Value.ref sb] RL D meth ret) (Y : sX sb L xs H0 s) (hT : hTw H0 s) (hst : l.stackTraces = false) {a R nd md i n cells slots : Nat} {g : GS} {t : MS} {y : Int64} (hy : Rdy R nd g md t) (hi : i + 4 ≤ L) (hLL : L ≤ 2050) (hcl : cells + 2 ≤ 601024) (hsl : slots + 12 ≤ 7293000) (hmd2 : (mf_add R md t).2.1 ≤ 10) 
    {H : Heap} {locs : List Loc} {ls : Array Slot} (hr : hR D H0 (lawH a R nd g md t y) H) (hz : H.size = n) (hlo : hL H0 locs) (hl : lv_has ls 8 [(4, .int (nI i)), (0, .ref sb), (1, .ref a), (2, .ref (a + 65)), (3, .ref (a + 78))])
    (kk : ∀ (H : Heap) (locs : List Loc) (ls : Array Slot) (n2 : Nat), hR D H0 (lawH a R (lr_add R nd g y).2.1 (lr_add R nd g y).2.2.1 (mf_add R md t).2.1 (mf_add R md t).2.2 (lr_add R nd g y).2.2.2) H → H.size = n2 → hL H0 locs → lv_has ls 8 [(4, .int (nI i)), (0, .ref sb), (1, .ref a), (2, .ref (a + 65)), (3, .ref (a + 78))] → W p l e room_1 s m #[Value.ref sb] below meth c H locs (cells + 2) (slots + 12) Q (F0 m 498 ls [])) :
    W p l e room_1 s m #[Value.ref sb] below meth c H locs cells slots Q (F0 m 232 ls []) := by
  refine lv_aload_n X.x X.b dL_law_232 rfl (lv_at hl 2 rfl) ?_
  refine lv_aload_n X.x X.b dL_law_233 rfl (lv_at hl 4 rfl) ?_
  have hr : hR D H0 (gput a R nd g (mput (a + 65) R md t (hup hE (a + 78) (oC y)))) H := hr
  refine h_callH X hT hr hz hlo (rest := []) (lc_add l D H0 a R nd g _ _ (a + 78) y  hst hy.1 hy.2.2.1 (by omega) lawH_in ) yh_L_add ml_L_60 ⟨(Nat.le_of_ble_eq_true rfl), (Nat.le_of_ble_eq_true rfl)⟩ (Nat.le_of_ble_eq_true rfl) hl.1 ⟨by show _ ≤ 601024; omega, by show _ ≤ 7293000; omega⟩ rfl dL_law_234 (fun v9 h9 n9 H locs hp hr hz hlo => ?_)
  obtain ⟨hn9, rfl, rfl⟩ := hp
  rw [lawH_up] at hr
  show W p l e _ s m _ below meth c H locs _ _ _ (F0 m 237 ls [.int (lr_add R nd g y).1])
  refine lv_istore (lv' := [(5, .int (lr_add R nd g y).1), (4, .int (nI i)), (0, .ref sb), (1, .ref a), (2, .ref (a + 65)), (3, .ref (a + 78))]) X.x X.b dL_law_237 hl (by decide) rfl (fun ls hl => ?_)
  refine lv_aload_n X.x X.b dL_law_239 rfl (lv_at hl 4 rfl) ?_
  rw [lawH_m] at hr
  refine h_callV X hr hz hlo (rest := []) (mc_add l D H0 (a + 65) R md t _ _  hy.2.1 ) mput_o rfl yv_X5_add ml_L_63 ⟨(Nat.le_of_ble_eq_true rfl), (Nat.le_of_ble_eq_true rfl)⟩ (Nat.le_of_ble_eq_true rfl) hl.1 ⟨by show _ ≤ 601024; omega, by show _ ≤ 7293000; omega⟩ rfl dL_law_240 (fun v9 h9 n9 H locs hp hr hz hlo => ?_)
  obtain ⟨rfl, rfl, rfl⟩ := hp
  show W p l e _ s m _ below meth c H locs _ _ _ (F0 m 243 ls [.int (mf_add R md t).1])
  refine lv_istore (lv' := [(6, .int (mf_add R md t).1), (5, .int (lr_add R nd g y).1), (4, .int (nI i)), (0, .ref sb), (1, .ref a), (2, .ref (a + 65)), (3, .ref (a + 78))]) X.x X.b dL_law_243 hl (by decide) rfl (fun ls hl => ?_)
  refine lv_goto (tgt := 498) X.x X.b dL_law_245 (by decide) ?_
  rw [← lawH_m] at hr
  exact W.widen (by omega) (by omega) (kk H locs ls _ hr hz hlo (lv_sub hl [2, 3, 4, 5, 6] rfl))
set_option maxRecDepth 20000 in
set_option maxHeartbeats 4000000 in
theorem ls_grow (X : hX p m c cL_law 8 s #[Value.ref sb] RL D meth ret) (Y : sX sb L xs H0 s) (hT : hTw H0 s) (hst : l.stackTraces = false) {a R nd md i n cells slots : Nat} {g : GS} {t : MS} {y : Int64} (hy : Rdy R nd g md t) (hi : i + 4 ≤ L) (hLL : L ≤ 2050) (hcl : cells + 2 ≤ 601024) (hsl : slots + 12 ≤ 7293000) 
    {H : Heap} {locs : List Loc} {ls : Array Slot} (hr : hR D H0 (lawH a R nd g md t y) H) (hz : H.size = n) (hlo : hL H0 locs) (hl : lv_has ls 8 [(4, .int (nI i)), (0, .ref sb), (1, .ref a), (2, .ref (a + 65)), (3, .ref (a + 78))])
    (kk : ∀ (H : Heap) (locs : List Loc) (ls : Array Slot) (n2 : Nat), hR D H0 (lawH a R (lr_grow R nd g y).2.1 (lr_grow R nd g y).2.2.1 md (mf_grow R md t).2 (lr_grow R nd g y).2.2.2) H → H.size = n2 → hL H0 locs → lv_has ls 8 [(4, .int (nI i)), (0, .ref sb), (1, .ref a), (2, .ref (a + 65)), (3, .ref (a + 78))] → W p l e room_1 s m #[Value.ref sb] below meth c H locs (cells + 2) (slots + 12) Q (F0 m 498 ls [])) :
    W p l e room_1 s m #[Value.ref sb] below meth c H locs cells slots Q (F0 m 248 ls []) := by
  refine lv_aload_n X.x X.b dL_law_248 rfl (lv_at hl 2 rfl) ?_
  refine lv_aload_n X.x X.b dL_law_249 rfl (lv_at hl 4 rfl) ?_
  have hr : hR D H0 (gput a R nd g (mput (a + 65) R md t (hup hE (a + 78) (oC y)))) H := hr
  refine h_callH X hT hr hz hlo (rest := []) (lc_grow l D H0 a R nd g _ _ (a + 78) y  hst hy.1 hy.2.2.1 (by omega) lawH_in ) yh_L_grow ml_L_64 ⟨(Nat.le_of_ble_eq_true rfl), (Nat.le_of_ble_eq_true rfl)⟩ (Nat.le_of_ble_eq_true rfl) hl.1 ⟨by show _ ≤ 601024; omega, by show _ ≤ 7293000; omega⟩ rfl dL_law_250 (fun v9 h9 n9 H locs hp hr hz hlo => ?_)
  obtain ⟨hn9, rfl, rfl⟩ := hp
  rw [lawH_up] at hr
  show W p l e _ s m _ below meth c H locs _ _ _ (F0 m 253 ls [.int (lr_grow R nd g y).1])
  refine lv_istore (lv' := [(5, .int (lr_grow R nd g y).1), (4, .int (nI i)), (0, .ref sb), (1, .ref a), (2, .ref (a + 65)), (3, .ref (a + 78))]) X.x X.b dL_law_253 hl (by decide) rfl (fun ls hl => ?_)
  refine lv_aload_n X.x X.b dL_law_255 rfl (lv_at hl 4 rfl) ?_
  rw [lawH_m] at hr
  refine h_callV X hr hz hlo (rest := []) (mc_grow l D H0 (a + 65) R md t _ _  hy.2.1 ) mput_o rfl yv_X5_grow ml_L_66 ⟨(Nat.le_of_ble_eq_true rfl), (Nat.le_of_ble_eq_true rfl)⟩ (Nat.le_of_ble_eq_true rfl) hl.1 ⟨by show _ ≤ 601024; omega, by show _ ≤ 7293000; omega⟩ rfl dL_law_256 (fun v9 h9 n9 H locs hp hr hz hlo => ?_)
  obtain ⟨rfl, rfl, rfl⟩ := hp
  show W p l e _ s m _ below meth c H locs _ _ _ (F0 m 259 ls [.int (mf_grow R md t).1])
  refine lv_istore (lv' := [(6, .int (mf_grow R md t).1), (5, .int (lr_grow R nd g y).1), (4, .int (nI i)), (0, .ref sb), (1, .ref a), (2, .ref (a + 65)), (3, .ref (a + 78))]) X.x X.b dL_law_259 hl (by decide) rfl (fun ls hl => ?_)
  refine lv_goto (tgt := 498) X.x X.b dL_law_261 (by decide) ?_
  rw [← lawH_m] at hr
  exact W.widen (by omega) (by omega) (kk H locs ls _ hr hz hlo (lv_sub hl [2, 3, 4, 5, 6] rfl))
set_option maxRecDepth 20000 in
set_option maxHeartbeats 4000000 in
theorem ls_step (X : hX p m c cL_law 8 s #[Value.ref sb] RL D meth ret) (Y : sX sb L xs H0 s) (hT : hTw H0 s) (hst : l.stackTraces = false) {a R nd md i n cells slots : Nat} {g : GS} {t : MS} {y : Int64} (hy : Rdy R nd g md t) (hi : i + 4 ≤ L) (hLL : L ≤ 2050) (hcl : cells + 2 ≤ 601024) (hsl : slots + 12 ≤ 7293000) 
    {H : Heap} {locs : List Loc} {ls : Array Slot} (hr : hR D H0 (lawH a R nd g md t y) H) (hz : H.size = n) (hlo : hL H0 locs) (hl : lv_has ls 8 [(4, .int (nI i)), (0, .ref sb), (1, .ref a), (2, .ref (a + 65)), (3, .ref (a + 78))])
    (kk : ∀ (H : Heap) (locs : List Loc) (ls : Array Slot) (n2 : Nat), hR D H0 (lawH a R (lr_step R nd g y).2.1 (lr_step R nd g y).2.2.1 md (mf_step R md t).2 (lr_step R nd g y).2.2.2) H → H.size = n2 → hL H0 locs → lv_has ls 8 [(4, .int (nI i)), (0, .ref sb), (1, .ref a), (2, .ref (a + 65)), (3, .ref (a + 78))] → W p l e room_1 s m #[Value.ref sb] below meth c H locs (cells + 2) (slots + 12) Q (F0 m 498 ls [])) :
    W p l e room_1 s m #[Value.ref sb] below meth c H locs cells slots Q (F0 m 264 ls []) := by
  refine lv_aload_n X.x X.b dL_law_264 rfl (lv_at hl 2 rfl) ?_
  refine lv_aload_n X.x X.b dL_law_265 rfl (lv_at hl 4 rfl) ?_
  have hr : hR D H0 (gput a R nd g (mput (a + 65) R md t (hup hE (a + 78) (oC y)))) H := hr
  refine h_callH X hT hr hz hlo (rest := []) (lc_step l D H0 a R nd g _ _ (a + 78) y  hst hy.1 hy.2.2.1 (by omega) lawH_in ) yh_L_step ml_L_67 ⟨(Nat.le_of_ble_eq_true rfl), (Nat.le_of_ble_eq_true rfl)⟩ (Nat.le_of_ble_eq_true rfl) hl.1 ⟨by show _ ≤ 601024; omega, by show _ ≤ 7293000; omega⟩ rfl dL_law_266 (fun v9 h9 n9 H locs hp hr hz hlo => ?_)
  obtain ⟨hn9, rfl, rfl⟩ := hp
  rw [lawH_up] at hr
  show W p l e _ s m _ below meth c H locs _ _ _ (F0 m 269 ls [.int (lr_step R nd g y).1])
  refine lv_istore (lv' := [(5, .int (lr_step R nd g y).1), (4, .int (nI i)), (0, .ref sb), (1, .ref a), (2, .ref (a + 65)), (3, .ref (a + 78))]) X.x X.b dL_law_269 hl (by decide) rfl (fun ls hl => ?_)
  refine lv_aload_n X.x X.b dL_law_271 rfl (lv_at hl 4 rfl) ?_
  rw [lawH_m] at hr
  refine h_callV X hr hz hlo (rest := []) (mc_step l D H0 (a + 65) R md t _ _  hy.2.1 hy.2.2.2.2.1) mput_o rfl yv_X5_step ml_L_69 ⟨(Nat.le_of_ble_eq_true rfl), (Nat.le_of_ble_eq_true rfl)⟩ (Nat.le_of_ble_eq_true rfl) hl.1 ⟨by show _ ≤ 601024; omega, by show _ ≤ 7293000; omega⟩ rfl dL_law_272 (fun v9 h9 n9 H locs hp hr hz hlo => ?_)
  obtain ⟨rfl, rfl, rfl⟩ := hp
  show W p l e _ s m _ below meth c H locs _ _ _ (F0 m 275 ls [.int (mf_step R md t).1])
  refine lv_istore (lv' := [(6, .int (mf_step R md t).1), (5, .int (lr_step R nd g y).1), (4, .int (nI i)), (0, .ref sb), (1, .ref a), (2, .ref (a + 65)), (3, .ref (a + 78))]) X.x X.b dL_law_275 hl (by decide) rfl (fun ls hl => ?_)
  refine lv_goto (tgt := 498) X.x X.b dL_law_277 (by decide) ?_
  rw [← lawH_m] at hr
  exact W.widen (by omega) (by omega) (kk H locs ls _ hr hz hlo (lv_sub hl [2, 3, 4, 5, 6] rfl))
set_option maxRecDepth 20000 in
set_option maxHeartbeats 4000000 in
theorem ls_fail (X : hX p m c cL_law 8 s #[Value.ref sb] RL D meth ret) (Y : sX sb L xs H0 s) (hT : hTw H0 s) (hst : l.stackTraces = false) {a R nd md i n cells slots : Nat} {g : GS} {t : MS} {y : Int64} (hy : Rdy R nd g md t) (hi : i + 4 ≤ L) (hLL : L ≤ 2050) (hcl : cells + 2 ≤ 601024) (hsl : slots + 12 ≤ 7293000) 
    {H : Heap} {locs : List Loc} {ls : Array Slot} (hr : hR D H0 (lawH a R nd g md t y) H) (hz : H.size = n) (hlo : hL H0 locs) (hl : lv_has ls 8 [(4, .int (nI i)), (0, .ref sb), (1, .ref a), (2, .ref (a + 65)), (3, .ref (a + 78))])
    (kk : ∀ (H : Heap) (locs : List Loc) (ls : Array Slot) (n2 : Nat), hR D H0 (lawH a R nd (gf_4_fail R nd g (xs (i + 1))).2 md (mf_fail R md t (xs (i + 1))).2 y) H → H.size = n2 → hL H0 locs → lv_has ls 8 [(4, .int (nI i)), (0, .ref sb), (1, .ref a), (2, .ref (a + 65)), (3, .ref (a + 78))] → W p l e room_1 s m #[Value.ref sb] below meth c H locs (cells + 2) (slots + 12) Q (F0 m 498 ls [])) :
    W p l e room_1 s m #[Value.ref sb] below meth c H locs cells slots Q (F0 m 280 ls []) := by
  refine lv_aload_n X.x X.b dL_law_280 rfl (lv_at hl 2 rfl) ?_
  refine h_arg1 X Y hr hlo hl (q0 := 1) (q4 := 0) rfl rfl hi hLL dL_law_281 dL_law_282 dL_law_284 dL_law_285 dL_law_286 ?_
  have hr : hR D H0 (gput a R nd g (mput (a + 65) R md t (hup hE (a + 78) (oC y)))) H := hr
  refine h_callV X hr hz hlo (rest := []) (gc_4_fail l D H0 a R nd g _ _ (xs (i + 1)) hy.1 hy.2.2.1) gput_o rfl yv_X4_fail ml_L_70 ⟨(Nat.le_of_ble_eq_true rfl), (Nat.le_of_ble_eq_true rfl)⟩ (Nat.le_of_ble_eq_true rfl) hl.1 ⟨by show _ ≤ 601024; omega, by show _ ≤ 7293000; omega⟩ rfl dL_law_287 (fun v9 h9 n9 H locs hp hr hz hlo => ?_)
  obtain ⟨rfl, rfl, rfl⟩ := hp
  show W p l e _ s m _ below meth c H locs _ _ _ (F0 m 290 ls [.int (gf_4_fail R nd g (xs (i + 1))).1])
  have hr : hR D H0 (lawH a R nd (gf_4_fail R nd g (xs (i + 1))).2 md t y) H := hr
  refine lv_pop X.x X.b dL_law_290 rfl ?_
  refine lv_aload_n X.x X.b dL_law_291 rfl (lv_at hl 3 rfl) ?_
  refine h_arg1 X Y hr hlo hl (q0 := 1) (q4 := 0) rfl rfl hi hLL dL_law_292 dL_law_293 dL_law_295 dL_law_296 dL_law_297 ?_
  rw [lawH_m] at hr
  refine h_callV X hr hz hlo (rest := []) (mc_fail l D H0 (a + 65) R md t _ _ (xs (i + 1)) hy.2.1 ) mput_o rfl yv_X5_fail ml_L_74 ⟨(Nat.le_of_ble_eq_true rfl), (Nat.le_of_ble_eq_true rfl)⟩ (Nat.le_of_ble_eq_true rfl) hl.1 ⟨by show _ ≤ 601024; omega, by show _ ≤ 7293000; omega⟩ rfl dL_law_298 (fun v9 h9 n9 H locs hp hr hz hlo => ?_)
  obtain ⟨rfl, rfl, rfl⟩ := hp
  show W p l e _ s m _ below meth c H locs _ _ _ (F0 m 301 ls [.int (mf_fail R md t (xs (i + 1))).1])
  refine lv_pop X.x X.b dL_law_301 rfl ?_
  refine lv_goto (tgt := 498) X.x X.b dL_law_302 (by decide) ?_
  rw [← lawH_m] at hr
  exact W.widen (by omega) (by omega) (kk H locs ls _ hr hz hlo (lv_sub hl [0, 1, 2, 3, 4] rfl))
set_option maxRecDepth 20000 in
set_option maxHeartbeats 4000000 in
theorem ls_replace (X : hX p m c cL_law 8 s #[Value.ref sb] RL D meth ret) (Y : sX sb L xs H0 s) (hT : hTw H0 s) (hst : l.stackTraces = false) {a R nd md i n cells slots : Nat} {g : GS} {t : MS} {y : Int64} (hy : Rdy R nd g md t) (hi : i + 4 ≤ L) (hLL : L ≤ 2050) (hcl : cells + 2 ≤ 601024) (hsl : slots + 12 ≤ 7293000) 
    {H : Heap} {locs : List Loc} {ls : Array Slot} (hr : hR D H0 (lawH a R nd g md t y) H) (hz : H.size = n) (hlo : hL H0 locs) (hl : lv_has ls 8 [(4, .int (nI i)), (0, .ref sb), (1, .ref a), (2, .ref (a + 65)), (3, .ref (a + 78))])
    (kk : ∀ (H : Heap) (locs : List Loc) (ls : Array Slot) (n2 : Nat), hR D H0 (lawH a R nd (gf_4_replace R nd g).2 md (mf_replace R md t).2 y) H → H.size = n2 → hL H0 locs → lv_has ls 8 [(4, .int (nI i)), (0, .ref sb), (1, .ref a), (2, .ref (a + 65)), (3, .ref (a + 78))] → W p l e room_1 s m #[Value.ref sb] below meth c H locs (cells + 2) (slots + 12) Q (F0 m 498 ls [])) :
    W p l e room_1 s m #[Value.ref sb] below meth c H locs cells slots Q (F0 m 305 ls []) := by
  refine lv_aload_n X.x X.b dL_law_305 rfl (lv_at hl 2 rfl) ?_
  have hr : hR D H0 (gput a R nd g (mput (a + 65) R md t (hup hE (a + 78) (oC y)))) H := hr
  refine h_callV X hr hz hlo (rest := []) (gc_4_replace l D H0 a R nd g _ _  hy.1 hy.2.2.1) gput_o rfl yv_X4_replace ml_L_75 ⟨(Nat.le_of_ble_eq_true rfl), (Nat.le_of_ble_eq_true rfl)⟩ (Nat.le_of_ble_eq_true rfl) hl.1 ⟨by show _ ≤ 601024; omega, by show _ ≤ 7293000; omega⟩ rfl dL_law_306 (fun v9 h9 n9 H locs hp hr hz hlo => ?_)
  obtain ⟨rfl, rfl, rfl⟩ := hp
  show W p l e _ s m _ below meth c H locs _ _ _ (F0 m 309 ls [.int (gf_4_replace R nd g).1])
  have hr : hR D H0 (lawH a R nd (gf_4_replace R nd g).2 md t y) H := hr
  refine lv_pop X.x X.b dL_law_309 rfl ?_
  refine lv_aload_n X.x X.b dL_law_310 rfl (lv_at hl 3 rfl) ?_
  rw [lawH_m] at hr
  refine h_callV X hr hz hlo (rest := []) (mc_replace l D H0 (a + 65) R md t _ _  hy.2.1 ) mput_o rfl yv_X5_replace ml_L_79 ⟨(Nat.le_of_ble_eq_true rfl), (Nat.le_of_ble_eq_true rfl)⟩ (Nat.le_of_ble_eq_true rfl) hl.1 ⟨by show _ ≤ 601024; omega, by show _ ≤ 7293000; omega⟩ rfl dL_law_311 (fun v9 h9 n9 H locs hp hr hz hlo => ?_)
  obtain ⟨rfl, rfl, rfl⟩ := hp
  show W p l e _ s m _ below meth c H locs _ _ _ (F0 m 314 ls [.int (mf_replace R md t).1])
  refine lv_pop X.x X.b dL_law_314 rfl ?_
  refine lv_goto (tgt := 498) X.x X.b dL_law_315 (by decide) ?_
  rw [← lawH_m] at hr
  exact W.widen (by omega) (by omega) (kk H locs ls _ hr hz hlo (lv_sub hl [0, 1, 2, 3, 4] rfl))
set_option maxRecDepth 20000 in
set_option maxHeartbeats 4000000 in
theorem ls_rebuild (X : hX p m c cL_law 8 s #[Value.ref sb] RL D meth ret) (Y : sX sb L xs H0 s) (hT : hTw H0 s) (hst : l.stackTraces = false) {a R nd md i n cells slots : Nat} {g : GS} {t : MS} {y : Int64} (hy : Rdy R nd g md t) (hi : i + 4 ≤ L) (hLL : L ≤ 2050) (hcl : cells + 2 ≤ 601024) (hsl : slots + 12 ≤ 7293000) 
    {H : Heap} {locs : List Loc} {ls : Array Slot} (hr : hR D H0 (lawH a R nd g md t y) H) (hz : H.size = n) (hlo : hL H0 locs) (hl : lv_has ls 8 [(4, .int (nI i)), (0, .ref sb), (1, .ref a), (2, .ref (a + 65)), (3, .ref (a + 78))])
    (kk : ∀ (H : Heap) (locs : List Loc) (ls : Array Slot) (n2 : Nat), hR D H0 (lawH a R (lr_rebuild R nd g y).2.1 (lr_rebuild R nd g y).2.2.1 md (mf_rebuild R md t).2 (lr_rebuild R nd g y).2.2.2) H → H.size = n2 → hL H0 locs → lv_has ls 8 [(4, .int (nI i)), (0, .ref sb), (1, .ref a), (2, .ref (a + 65)), (3, .ref (a + 78))] → W p l e room_1 s m #[Value.ref sb] below meth c H locs (cells + 2) (slots + 12) Q (F0 m 498 ls [])) :
    W p l e room_1 s m #[Value.ref sb] below meth c H locs cells slots Q (F0 m 318 ls []) := by
  refine lv_aload_n X.x X.b dL_law_318 rfl (lv_at hl 2 rfl) ?_
  refine lv_aload_n X.x X.b dL_law_319 rfl (lv_at hl 4 rfl) ?_
  have hr : hR D H0 (gput a R nd g (mput (a + 65) R md t (hup hE (a + 78) (oC y)))) H := hr
  refine h_callH X hT hr hz hlo (rest := []) (lc_rebuild l D H0 a R nd g _ _ (a + 78) y  hst hy.1 hy.2.2.1 (by omega) lawH_in ) yh_L_rebuild ml_L_80 ⟨(Nat.le_of_ble_eq_true rfl), (Nat.le_of_ble_eq_true rfl)⟩ (Nat.le_of_ble_eq_true rfl) hl.1 ⟨by show _ ≤ 601024; omega, by show _ ≤ 7293000; omega⟩ rfl dL_law_320 (fun v9 h9 n9 H locs hp hr hz hlo => ?_)
  obtain ⟨hn9, rfl, rfl⟩ := hp
  rw [lawH_up] at hr
  show W p l e _ s m _ below meth c H locs _ _ _ (F0 m 323 ls [.int (lr_rebuild R nd g y).1])
  refine lv_istore (lv' := [(5, .int (lr_rebuild R nd g y).1), (4, .int (nI i)), (0, .ref sb), (1, .ref a), (2, .ref (a + 65)), (3, .ref (a + 78))]) X.x X.b dL_law_323 hl (by decide) rfl (fun ls hl => ?_)
  refine lv_aload_n X.x X.b dL_law_325 rfl (lv_at hl 4 rfl) ?_
  rw [lawH_m] at hr
  refine h_callV X hr hz hlo (rest := []) (mc_rebuild l D H0 (a + 65) R md t _ _  hy.2.1 ) mput_o rfl yv_X5_rebuild ml_L_82 ⟨(Nat.le_of_ble_eq_true rfl), (Nat.le_of_ble_eq_true rfl)⟩ (Nat.le_of_ble_eq_true rfl) hl.1 ⟨by show _ ≤ 601024; omega, by show _ ≤ 7293000; omega⟩ rfl dL_law_326 (fun v9 h9 n9 H locs hp hr hz hlo => ?_)
  obtain ⟨rfl, rfl, rfl⟩ := hp
  show W p l e _ s m _ below meth c H locs _ _ _ (F0 m 329 ls [.int (mf_rebuild R md t).1])
  refine lv_istore (lv' := [(6, .int (mf_rebuild R md t).1), (5, .int (lr_rebuild R nd g y).1), (4, .int (nI i)), (0, .ref sb), (1, .ref a), (2, .ref (a + 65)), (3, .ref (a + 78))]) X.x X.b dL_law_329 hl (by decide) rfl (fun ls hl => ?_)
  refine lv_goto (tgt := 498) X.x X.b dL_law_331 (by decide) ?_
  rw [← lawH_m] at hr
  exact W.widen (by omega) (by omega) (kk H locs ls _ hr hz hlo (lv_sub hl [2, 3, 4, 5, 6] rfl))
set_option maxRecDepth 20000 in
set_option maxHeartbeats 4000000 in
theorem ls_cut (X : hX p m c cL_law 8 s #[Value.ref sb] RL D meth ret) (Y : sX sb L xs H0 s) (hT : hTw H0 s) (hst : l.stackTraces = false) {a R nd md i n cells slots : Nat} {g : GS} {t : MS} {y : Int64} (hy : Rdy R nd g md t) (hi : i + 4 ≤ L) (hLL : L ≤ 2050) (hcl : cells + 2 ≤ 601024) (hsl : slots + 12 ≤ 7293000) 
    {H : Heap} {locs : List Loc} {ls : Array Slot} (hr : hR D H0 (lawH a R nd g md t y) H) (hz : H.size = n) (hlo : hL H0 locs) (hl : lv_has ls 8 [(4, .int (nI i)), (0, .ref sb), (1, .ref a), (2, .ref (a + 65)), (3, .ref (a + 78))])
    (kk : ∀ (H : Heap) (locs : List Loc) (ls : Array Slot) (n2 : Nat), hR D H0 (lawH a R nd (gf_4_cut R nd g (xs (i + 1))) md (mf_cut R md t (xs (i + 1))) y) H → H.size = n2 → hL H0 locs → lv_has ls 8 [(4, .int (nI i)), (0, .ref sb), (1, .ref a), (2, .ref (a + 65)), (3, .ref (a + 78))] → W p l e room_1 s m #[Value.ref sb] below meth c H locs (cells + 2) (slots + 12) Q (F0 m 498 ls [])) :
    W p l e room_1 s m #[Value.ref sb] below meth c H locs cells slots Q (F0 m 334 ls []) := by
  refine lv_aload_n X.x X.b dL_law_334 rfl (lv_at hl 2 rfl) ?_
  refine h_arg1 X Y hr hlo hl (q0 := 1) (q4 := 0) rfl rfl hi hLL dL_law_335 dL_law_336 dL_law_338 dL_law_339 dL_law_340 ?_
  have hr : hR D H0 (gput a R nd g (mput (a + 65) R md t (hup hE (a + 78) (oC y)))) H := hr
  refine h_callV X hr hz hlo (rest := []) (gc_4_cut l D H0 a R nd g _ _ (xs (i + 1)) hy.1 hy.2.2.1) gput_o rfl yv_X4_cut ml_L_83 ⟨(Nat.le_of_ble_eq_true rfl), (Nat.le_of_ble_eq_true rfl)⟩ (Nat.le_of_ble_eq_true rfl) hl.1 ⟨by show _ ≤ 601024; omega, by show _ ≤ 7293000; omega⟩ rfl dL_law_341 (fun v9 h9 n9 H locs hp hr hz hlo => ?_)
  obtain ⟨rfl, rfl, rfl⟩ := hp
  show W p l e _ s m _ below meth c H locs _ _ _ (F0 m 344 ls [])
  have hr : hR D H0 (lawH a R nd (gf_4_cut R nd g (xs (i + 1))) md t y) H := hr
  refine lv_aload_n X.x X.b dL_law_344 rfl (lv_at hl 3 rfl) ?_
  refine h_arg1 X Y hr hlo hl (q0 := 1) (q4 := 0) rfl rfl hi hLL dL_law_345 dL_law_346 dL_law_348 dL_law_349 dL_law_350 ?_
  rw [lawH_m] at hr
  refine h_callV X hr hz hlo (rest := []) (mc_cut l D H0 (a + 65) R md t _ _ (xs (i + 1)) hy.2.1 ) mput_o rfl yv_X5_cut ml_L_87 ⟨(Nat.le_of_ble_eq_true rfl), (Nat.le_of_ble_eq_true rfl)⟩ (Nat.le_of_ble_eq_true rfl) hl.1 ⟨by show _ ≤ 601024; omega, by show _ ≤ 7293000; omega⟩ rfl dL_law_351 (fun v9 h9 n9 H locs hp hr hz hlo => ?_)
  obtain ⟨rfl, rfl, rfl⟩ := hp
  show W p l e _ s m _ below meth c H locs _ _ _ (F0 m 354 ls [])
  refine lv_goto (tgt := 498) X.x X.b dL_law_354 (by decide) ?_
  rw [← lawH_m] at hr
  exact W.widen (by omega) (by omega) (kk H locs ls _ hr hz hlo (lv_sub hl [0, 1, 2, 3, 4] rfl))
set_option maxRecDepth 20000 in
set_option maxHeartbeats 4000000 in
theorem ls_open (X : hX p m c cL_law 8 s #[Value.ref sb] RL D meth ret) (Y : sX sb L xs H0 s) (hT : hTw H0 s) (hst : l.stackTraces = false) {a R nd md i n cells slots : Nat} {g : GS} {t : MS} {y : Int64} (hy : Rdy R nd g md t) (hi : i + 4 ≤ L) (hLL : L ≤ 2050) (hcl : cells + 2 ≤ 601024) (hsl : slots + 12 ≤ 7293000) 
    {H : Heap} {locs : List Loc} {ls : Array Slot} (hr : hR D H0 (lawH a R nd g md t y) H) (hz : H.size = n) (hlo : hL H0 locs) (hl : lv_has ls 8 [(4, .int (nI i)), (0, .ref sb), (1, .ref a), (2, .ref (a + 65)), (3, .ref (a + 78))])
    (kk : ∀ (H : Heap) (locs : List Loc) (ls : Array Slot) (n2 : Nat), hR D H0 (lawH a R nd (gf_4_open R nd g).2 md (mf_open R md t).2 y) H → H.size = n2 → hL H0 locs → lv_has ls 8 [(4, .int (nI i)), (0, .ref sb), (1, .ref a), (2, .ref (a + 65)), (3, .ref (a + 78))] → W p l e room_1 s m #[Value.ref sb] below meth c H locs (cells + 2) (slots + 12) Q (F0 m 498 ls [])) :
    W p l e room_1 s m #[Value.ref sb] below meth c H locs cells slots Q (F0 m 357 ls []) := by
  refine lv_aload_n X.x X.b dL_law_357 rfl (lv_at hl 2 rfl) ?_
  have hr : hR D H0 (gput a R nd g (mput (a + 65) R md t (hup hE (a + 78) (oC y)))) H := hr
  refine h_callV X hr hz hlo (rest := []) (gc_4_open l D H0 a R nd g _ _  hy.1 hy.2.2.1) gput_o rfl yv_X4_open ml_L_88 ⟨(Nat.le_of_ble_eq_true rfl), (Nat.le_of_ble_eq_true rfl)⟩ (Nat.le_of_ble_eq_true rfl) hl.1 ⟨by show _ ≤ 601024; omega, by show _ ≤ 7293000; omega⟩ rfl dL_law_358 (fun v9 h9 n9 H locs hp hr hz hlo => ?_)
  obtain ⟨rfl, rfl, rfl⟩ := hp
  show W p l e _ s m _ below meth c H locs _ _ _ (F0 m 361 ls [.int (gf_4_open R nd g).1])
  have hr : hR D H0 (lawH a R nd (gf_4_open R nd g).2 md t y) H := hr
  refine lv_pop X.x X.b dL_law_361 rfl ?_
  refine lv_aload_n X.x X.b dL_law_362 rfl (lv_at hl 3 rfl) ?_
  rw [lawH_m] at hr
  refine h_callV X hr hz hlo (rest := []) (mc_open l D H0 (a + 65) R md t _ _  hy.2.1 hy.2.2.2.2.2.2.2.2.1 hy.2.2.2.2.2.2.2.2.2.1 hy.2.2.2.2.2.2.2.2.2.2) mput_o rfl yv_X5_open ml_L_91 ⟨(Nat.le_of_ble_eq_true rfl), (Nat.le_of_ble_eq_true rfl)⟩ (Nat.le_of_ble_eq_true rfl) hl.1 ⟨by show _ ≤ 601024; omega, by show _ ≤ 7293000; omega⟩ rfl dL_law_363 (fun v9 h9 n9 H locs hp hr hz hlo => ?_)
  obtain ⟨rfl, rfl, rfl⟩ := hp
  show W p l e _ s m _ below meth c H locs _ _ _ (F0 m 366 ls [.int (mf_open R md t).1])
  refine lv_pop X.x X.b dL_law_366 rfl ?_
  refine lv_goto (tgt := 498) X.x X.b dL_law_367 (by decide) ?_
  rw [← lawH_m] at hr
  exact W.widen (by omega) (by omega) (kk H locs ls _ hr hz hlo (lv_sub hl [0, 1, 2, 3, 4] rfl))
set_option maxRecDepth 20000 in
set_option maxHeartbeats 4000000 in
theorem ls_place (X : hX p m c cL_law 8 s #[Value.ref sb] RL D meth ret) (Y : sX sb L xs H0 s) (hT : hTw H0 s) (hst : l.stackTraces = false) {a R nd md i n cells slots : Nat} {g : GS} {t : MS} {y : Int64} (hy : Rdy R nd g md t) (hi : i + 4 ≤ L) (hLL : L ≤ 2050) (hcl : cells + 2 ≤ 601024) (hsl : slots + 12 ≤ 7293000) (hcmp : (gf_4_place R nd g (xs (i + 1)) (xs (i + 2))) = (mf_place R md t (xs (i + 1)) (xs (i + 2))).1)
    {H : Heap} {locs : List Loc} {ls : Array Slot} (hr : hR D H0 (lawH a R nd g md t y) H) (hz : H.size = n) (hlo : hL H0 locs) (hl : lv_has ls 8 [(4, .int (nI i)), (0, .ref sb), (1, .ref a), (2, .ref (a + 65)), (3, .ref (a + 78))])
    (kk : ∀ (H : Heap) (locs : List Loc) (ls : Array Slot) (n2 : Nat), hR D H0 (lawH a R nd g md (mf_place R md t (xs (i + 1)) (xs (i + 2))).2 y) H → H.size = n2 → hL H0 locs → lv_has ls 8 [(4, .int (nI i)), (0, .ref sb), (1, .ref a), (2, .ref (a + 65)), (3, .ref (a + 78))] → W p l e room_1 s m #[Value.ref sb] below meth c H locs (cells + 2) (slots + 12) Q (F0 m 498 ls [])) :
    W p l e room_1 s m #[Value.ref sb] below meth c H locs cells slots Q (F0 m 370 ls []) := by
  refine lv_aload_n X.x X.b dL_law_370 rfl (lv_at hl 2 rfl) ?_
  refine h_arg1 X Y hr hlo hl (q0 := 1) (q4 := 0) rfl rfl hi hLL dL_law_371 dL_law_372 dL_law_374 dL_law_375 dL_law_376 ?_
  refine h_arg2 X Y hr hlo hl (q0 := 1) (q4 := 0) rfl rfl hi hLL dL_law_377 dL_law_378 dL_law_380 dL_law_381 dL_law_382 ?_
  have hr : hR D H0 (gput a R nd g (mput (a + 65) R md t (hup hE (a + 78) (oC y)))) H := hr
  refine h_callV X hr hz hlo (rest := []) (gc_4_place l D H0 a R nd g _ _ (xs (i + 1)) (xs (i + 2)) hy.1 hy.2.2.1) gput_o rfl yv_X4_place ml_L_92 ⟨(Nat.le_of_ble_eq_true rfl), (Nat.le_of_ble_eq_true rfl)⟩ (Nat.le_of_ble_eq_true rfl) hl.1 ⟨by show _ ≤ 601024; omega, by show _ ≤ 7293000; omega⟩ rfl dL_law_383 (fun v9 h9 n9 H locs hp hr hz hlo => ?_)
  obtain ⟨rfl, rfl, rfl⟩ := hp
  show W p l e _ s m _ below meth c H locs _ _ _ (F0 m 386 ls [.int (gf_4_place R nd g (xs (i + 1)) (xs (i + 2)))])
  have hr : hR D H0 (lawH a R nd g md t y) H := hr
  refine lv_aload_n X.x X.b dL_law_386 rfl (lv_at hl 3 rfl) ?_
  refine h_arg1 X Y hr hlo hl (q0 := 1) (q4 := 0) rfl rfl hi hLL dL_law_387 dL_law_388 dL_law_390 dL_law_391 dL_law_392 ?_
  refine h_arg2 X Y hr hlo hl (q0 := 1) (q4 := 0) rfl rfl hi hLL dL_law_393 dL_law_394 dL_law_396 dL_law_397 dL_law_398 ?_
  rw [lawH_m] at hr
  refine h_callV X hr hz hlo (rest := [.int (gf_4_place R nd g (xs (i + 1)) (xs (i + 2)))]) (mc_place l D H0 (a + 65) R md t _ _ (xs (i + 1)) (xs (i + 2)) hy.2.1 hy.2.2.2.2.1 (hy.2.2.2.2.2.1 _)) mput_o rfl yv_X5_place ml_L_96 ⟨(Nat.le_of_ble_eq_true rfl), (Nat.le_of_ble_eq_true rfl)⟩ (Nat.le_of_ble_eq_true rfl) hl.1 ⟨by show _ ≤ 601024; omega, by show _ ≤ 7293000; omega⟩ rfl dL_law_399 (fun v9 h9 n9 H locs hp hr hz hlo => ?_)
  obtain ⟨rfl, rfl, rfl⟩ := hp
  show W p l e _ s m _ below meth c H locs _ _ _ (F0 m 402 ls [.int (mf_place R md t (xs (i + 1)) (xs (i + 2))).1, .int (gf_4_place R nd g (xs (i + 1)) (xs (i + 2)))])
  refine lv_icmp_eq (tgt := 498) X.x X.b dL_law_402 (by decide) (fun c9 => ?_) (fun c9 => absurd hcmp c9)
  rw [← lawH_m] at hr
  exact W.widen (by omega) (by omega) (kk H locs ls _ hr hz hlo (lv_sub hl [0, 1, 2, 3, 4] rfl))
set_option maxRecDepth 20000 in
set_option maxHeartbeats 4000000 in
theorem ls_disk (X : hX p m c cL_law 8 s #[Value.ref sb] RL D meth ret) (Y : sX sb L xs H0 s) (hT : hTw H0 s) (hst : l.stackTraces = false) {a R nd md i n cells slots : Nat} {g : GS} {t : MS} {y : Int64} (hy : Rdy R nd g md t) (hi : i + 4 ≤ L) (hLL : L ≤ 2050) (hcl : cells + 2 ≤ 601024) (hsl : slots + 12 ≤ 7293000) 
    {H : Heap} {locs : List Loc} {ls : Array Slot} (hr : hR D H0 (lawH a R nd g md t y) H) (hz : H.size = n) (hlo : hL H0 locs) (hl : lv_has ls 8 [(4, .int (nI i)), (0, .ref sb), (1, .ref a), (2, .ref (a + 65)), (3, .ref (a + 78))])
    (kk : ∀ (H : Heap) (locs : List Loc) (ls : Array Slot) (n2 : Nat), hR D H0 (lawH a R nd g md (mf_disk R md t (xs (i + 1)) (xs (i + 2))).2 y) H → H.size = n2 → hL H0 locs → lv_has ls 8 [(4, .int (nI i)), (0, .ref sb), (1, .ref a), (2, .ref (a + 65)), (3, .ref (a + 78))] → W p l e room_1 s m #[Value.ref sb] below meth c H locs (cells + 2) (slots + 12) Q (F0 m 498 ls [])) :
    W p l e room_1 s m #[Value.ref sb] below meth c H locs cells slots Q (F0 m 407 ls []) := by
  refine lv_aload_n X.x X.b dL_law_407 rfl (lv_at hl 2 rfl) ?_
  refine h_arg1 X Y hr hlo hl (q0 := 1) (q4 := 0) rfl rfl hi hLL dL_law_408 dL_law_409 dL_law_411 dL_law_412 dL_law_413 ?_
  refine h_arg2 X Y hr hlo hl (q0 := 1) (q4 := 0) rfl rfl hi hLL dL_law_414 dL_law_415 dL_law_417 dL_law_418 dL_law_419 ?_
  have hr : hR D H0 (gput a R nd g (mput (a + 65) R md t (hup hE (a + 78) (oC y)))) H := hr
  refine h_callV X hr hz hlo (rest := []) (gc_4_disk l D H0 a R nd g _ _ (xs (i + 1)) (xs (i + 2)) hy.1 hy.2.2.1) gput_o rfl yv_X4_disk ml_L_97 ⟨(Nat.le_of_ble_eq_true rfl), (Nat.le_of_ble_eq_true rfl)⟩ (Nat.le_of_ble_eq_true rfl) hl.1 ⟨by show _ ≤ 601024; omega, by show _ ≤ 7293000; omega⟩ rfl dL_law_420 (fun v9 h9 n9 H locs hp hr hz hlo => ?_)
  obtain ⟨rfl, rfl, rfl⟩ := hp
  show W p l e _ s m _ below meth c H locs _ _ _ (F0 m 423 ls [.int (gf_4_disk R nd g (xs (i + 1)) (xs (i + 2)))])
  have hr : hR D H0 (lawH a R nd g md t y) H := hr
  refine lv_pop X.x X.b dL_law_423 rfl ?_
  refine lv_aload_n X.x X.b dL_law_424 rfl (lv_at hl 3 rfl) ?_
  refine h_arg1 X Y hr hlo hl (q0 := 1) (q4 := 0) rfl rfl hi hLL dL_law_425 dL_law_426 dL_law_428 dL_law_429 dL_law_430 ?_
  refine h_arg2 X Y hr hlo hl (q0 := 1) (q4 := 0) rfl rfl hi hLL dL_law_431 dL_law_432 dL_law_434 dL_law_435 dL_law_436 ?_
  rw [lawH_m] at hr
  refine h_callV X hr hz hlo (rest := []) (mc_disk l D H0 (a + 65) R md t _ _ (xs (i + 1)) (xs (i + 2)) hy.2.1 ) mput_o rfl yv_X5_disk ml_L_100 ⟨(Nat.le_of_ble_eq_true rfl), (Nat.le_of_ble_eq_true rfl)⟩ (Nat.le_of_ble_eq_true rfl) hl.1 ⟨by show _ ≤ 601024; omega, by show _ ≤ 7293000; omega⟩ rfl dL_law_437 (fun v9 h9 n9 H locs hp hr hz hlo => ?_)
  obtain ⟨rfl, rfl, rfl⟩ := hp
  show W p l e _ s m _ below meth c H locs _ _ _ (F0 m 440 ls [.int (mf_disk R md t (xs (i + 1)) (xs (i + 2))).1])
  refine lv_pop X.x X.b dL_law_440 rfl ?_
  refine lv_goto (tgt := 498) X.x X.b dL_law_441 (by decide) ?_
  rw [← lawH_m] at hr
  exact W.widen (by omega) (by omega) (kk H locs ls _ hr hz hlo (lv_sub hl [0, 1, 2, 3, 4] rfl))
set_option maxRecDepth 20000 in
set_option maxHeartbeats 4000000 in
theorem ls_count (X : hX p m c cL_law 8 s #[Value.ref sb] RL D meth ret) (Y : sX sb L xs H0 s) (hT : hTw H0 s) (hst : l.stackTraces = false) {a R nd md i n cells slots : Nat} {g : GS} {t : MS} {y : Int64} (hy : Rdy R nd g md t) (hi : i + 4 ≤ L) (hLL : L ≤ 2050) (hcl : cells + 2 ≤ 601024) (hsl : slots + 12 ≤ 7293000) 
    {H : Heap} {locs : List Loc} {ls : Array Slot} (hr : hR D H0 (lawH a R nd g md t y) H) (hz : H.size = n) (hlo : hL H0 locs) (hl : lv_has ls 8 [(4, .int (nI i)), (0, .ref sb), (1, .ref a), (2, .ref (a + 65)), (3, .ref (a + 78))])
    (kk : ∀ (H : Heap) (locs : List Loc) (ls : Array Slot) (n2 : Nat), hR D H0 (lawH a R nd g md (mf_count R md t (xs (i + 1))).2 y) H → H.size = n2 → hL H0 locs → lv_has ls 8 [(4, .int (nI i)), (0, .ref sb), (1, .ref a), (2, .ref (a + 65)), (3, .ref (a + 78))] → W p l e room_1 s m #[Value.ref sb] below meth c H locs (cells + 2) (slots + 12) Q (F0 m 498 ls [])) :
    W p l e room_1 s m #[Value.ref sb] below meth c H locs cells slots Q (F0 m 444 ls []) := by
  refine lv_aload_n X.x X.b dL_law_444 rfl (lv_at hl 2 rfl) ?_
  refine h_arg1 X Y hr hlo hl (q0 := 1) (q4 := 0) rfl rfl hi hLL dL_law_445 dL_law_446 dL_law_448 dL_law_449 dL_law_450 ?_
  have hr : hR D H0 (gput a R nd g (mput (a + 65) R md t (hup hE (a + 78) (oC y)))) H := hr
  refine h_callV X hr hz hlo (rest := []) (gc_4_count l D H0 a R nd g _ _ (xs (i + 1)) hy.1 hy.2.2.1) gput_o rfl yv_X4_count ml_L_101 ⟨(Nat.le_of_ble_eq_true rfl), (Nat.le_of_ble_eq_true rfl)⟩ (Nat.le_of_ble_eq_true rfl) hl.1 ⟨by show _ ≤ 601024; omega, by show _ ≤ 7293000; omega⟩ rfl dL_law_451 (fun v9 h9 n9 H locs hp hr hz hlo => ?_)
  obtain ⟨rfl, rfl, rfl⟩ := hp
  show W p l e _ s m _ below meth c H locs _ _ _ (F0 m 454 ls [.int (gf_4_count R nd g (xs (i + 1)))])
  have hr : hR D H0 (lawH a R nd g md t y) H := hr
  refine lv_pop X.x X.b dL_law_454 rfl ?_
  refine lv_aload_n X.x X.b dL_law_455 rfl (lv_at hl 3 rfl) ?_
  refine h_arg1 X Y hr hlo hl (q0 := 1) (q4 := 0) rfl rfl hi hLL dL_law_456 dL_law_457 dL_law_459 dL_law_460 dL_law_461 ?_
  rw [lawH_m] at hr
  refine h_callV X hr hz hlo (rest := []) (mc_count l D H0 (a + 65) R md t _ _ (xs (i + 1)) hy.2.1 ) mput_o rfl yv_X5_count ml_L_105 ⟨(Nat.le_of_ble_eq_true rfl), (Nat.le_of_ble_eq_true rfl)⟩ (Nat.le_of_ble_eq_true rfl) hl.1 ⟨by show _ ≤ 601024; omega, by show _ ≤ 7293000; omega⟩ rfl dL_law_462 (fun v9 h9 n9 H locs hp hr hz hlo => ?_)
  obtain ⟨rfl, rfl, rfl⟩ := hp
  show W p l e _ s m _ below meth c H locs _ _ _ (F0 m 465 ls [.int (mf_count R md t (xs (i + 1))).1])
  refine lv_pop X.x X.b dL_law_465 rfl ?_
  refine lv_goto (tgt := 498) X.x X.b dL_law_466 (by decide) ?_
  rw [← lawH_m] at hr
  exact W.widen (by omega) (by omega) (kk H locs ls _ hr hz hlo (lv_sub hl [0, 1, 2, 3, 4] rfl))
set_option maxRecDepth 20000 in
set_option maxHeartbeats 4000000 in
theorem ls_astray (X : hX p m c cL_law 8 s #[Value.ref sb] RL D meth ret) (Y : sX sb L xs H0 s) (hT : hTw H0 s) (hst : l.stackTraces = false) {a R nd md i n cells slots : Nat} {g : GS} {t : MS} {y : Int64} (hy : Rdy R nd g md t) (hi : i + 4 ≤ L) (hLL : L ≤ 2050) (hcl : cells + 2 ≤ 601024) (hsl : slots + 12 ≤ 7293000) 
    {H : Heap} {locs : List Loc} {ls : Array Slot} (hr : hR D H0 (lawH a R nd g md t y) H) (hz : H.size = n) (hlo : hL H0 locs) (hl : lv_has ls 8 [(4, .int (nI i)), (0, .ref sb), (1, .ref a), (2, .ref (a + 65)), (3, .ref (a + 78))])
    (kk : ∀ (H : Heap) (locs : List Loc) (ls : Array Slot) (n2 : Nat), hR D H0 (lawH a R nd g md (mf_astray R md t).2 y) H → H.size = n2 → hL H0 locs → lv_has ls 8 [(4, .int (nI i)), (0, .ref sb), (1, .ref a), (2, .ref (a + 65)), (3, .ref (a + 78))] → W p l e room_1 s m #[Value.ref sb] below meth c H locs (cells + 2) (slots + 12) Q (F0 m 498 ls [])) :
    W p l e room_1 s m #[Value.ref sb] below meth c H locs cells slots Q (F0 m 469 ls []) := by
  refine lv_aload_n X.x X.b dL_law_469 rfl (lv_at hl 2 rfl) ?_
  have hr : hR D H0 (gput a R nd g (mput (a + 65) R md t (hup hE (a + 78) (oC y)))) H := hr
  refine h_callV X hr hz hlo (rest := []) (gc_4_astray l D H0 a R nd g _ _  hy.1 hy.2.2.1) gput_o rfl yv_X4_astray ml_L_106 ⟨(Nat.le_of_ble_eq_true rfl), (Nat.le_of_ble_eq_true rfl)⟩ (Nat.le_of_ble_eq_true rfl) hl.1 ⟨by show _ ≤ 601024; omega, by show _ ≤ 7293000; omega⟩ rfl dL_law_470 (fun v9 h9 n9 H locs hp hr hz hlo => ?_)
  obtain ⟨rfl, rfl, rfl⟩ := hp
  show W p l e _ s m _ below meth c H locs _ _ _ (F0 m 473 ls [.int (gf_4_astray R nd g)])
  have hr : hR D H0 (lawH a R nd g md t y) H := hr
  refine lv_pop X.x X.b dL_law_473 rfl ?_
  refine lv_aload_n X.x X.b dL_law_474 rfl (lv_at hl 3 rfl) ?_
  rw [lawH_m] at hr
  refine h_callV X hr hz hlo (rest := []) (mc_astray l D H0 (a + 65) R md t _ _  hy.2.1 ) mput_o rfl yv_X5_astray ml_L_109 ⟨(Nat.le_of_ble_eq_true rfl), (Nat.le_of_ble_eq_true rfl)⟩ (Nat.le_of_ble_eq_true rfl) hl.1 ⟨by show _ ≤ 601024; omega, by show _ ≤ 7293000; omega⟩ rfl dL_law_475 (fun v9 h9 n9 H locs hp hr hz hlo => ?_)
  obtain ⟨rfl, rfl, rfl⟩ := hp
  show W p l e _ s m _ below meth c H locs _ _ _ (F0 m 478 ls [.int (mf_astray R md t).1])
  refine lv_pop X.x X.b dL_law_478 rfl ?_
  refine lv_goto (tgt := 498) X.x X.b dL_law_479 (by decide) ?_
  rw [← lawH_m] at hr
  exact W.widen (by omega) (by omega) (kk H locs ls _ hr hz hlo (lv_sub hl [0, 1, 2, 3, 4] rfl))
set_option maxRecDepth 20000 in
set_option maxHeartbeats 4000000 in
theorem ls_sum (X : hX p m c cL_law 8 s #[Value.ref sb] RL D meth ret) (Y : sX sb L xs H0 s) (hT : hTw H0 s) (hst : l.stackTraces = false) {a R nd md i n cells slots : Nat} {g : GS} {t : MS} {y : Int64} (hy : Rdy R nd g md t) (hi : i + 4 ≤ L) (hLL : L ≤ 2050) (hcl : cells + 2 ≤ 601024) (hsl : slots + 12 ≤ 7293000) (P9 : Nat) (hP9 : P9 ≤ 432) (hp9 : gf_4_placeCount R nd g = nI P9) (Q9 : Nat) (hQ9 : Q9 ≤ 432) (hq9 : mf_places R md t = nI Q9) 
    {H : Heap} {locs : List Loc} {ls : Array Slot} (hr : hR D H0 (lawH a R nd g md t y) H) (hz : H.size = n) (hlo : hL H0 locs) (hl : lv_has ls 8 [(4, .int (nI i)), (0, .ref sb), (1, .ref a), (2, .ref (a + 65)), (3, .ref (a + 78))])
    (kk : ∀ (H : Heap) (locs : List Loc) (ls : Array Slot) (n2 : Nat), hR D H0 (lawH a R (lr_sum R nd g y).2.1 (lr_sum R nd g y).2.2.1 md (mf_sum R md t).2 (lr_sum R nd g y).2.2.2) H → H.size = n2 → hL H0 locs → lv_has ls 8 [(4, .int (nI i)), (0, .ref sb), (1, .ref a), (2, .ref (a + 65)), (3, .ref (a + 78))] → W p l e room_1 s m #[Value.ref sb] below meth c H locs (cells + 2) (slots + 12) Q (F0 m 498 ls [])) :
    W p l e room_1 s m #[Value.ref sb] below meth c H locs cells slots Q (F0 m 482 ls []) := by
  refine lv_aload_n X.x X.b dL_law_482 rfl (lv_at hl 2 rfl) ?_
  refine lv_aload_n X.x X.b dL_law_483 rfl (lv_at hl 4 rfl) ?_
  have hr : hR D H0 (gput a R nd g (mput (a + 65) R md t (hup hE (a + 78) (oC y)))) H := hr
  refine h_callH X hT hr hz hlo (rest := []) (lc_sum l D H0 a R nd g _ _ (a + 78) y  hst hy.1 hy.2.2.1 (by omega) lawH_in P9 hP9 hp9) yh_L_sum ml_L_110 ⟨(Nat.le_of_ble_eq_true rfl), (Nat.le_of_ble_eq_true rfl)⟩ (Nat.le_of_ble_eq_true rfl) hl.1 ⟨by show _ ≤ 601024; omega, by show _ ≤ 7293000; omega⟩ rfl dL_law_484 (fun v9 h9 n9 H locs hp hr hz hlo => ?_)
  obtain ⟨hn9, rfl, rfl⟩ := hp
  rw [lawH_up] at hr
  show W p l e _ s m _ below meth c H locs _ _ _ (F0 m 487 ls [.int (lr_sum R nd g y).1])
  refine lv_istore (lv' := [(5, .int (lr_sum R nd g y).1), (4, .int (nI i)), (0, .ref sb), (1, .ref a), (2, .ref (a + 65)), (3, .ref (a + 78))]) X.x X.b dL_law_487 hl (by decide) rfl (fun ls hl => ?_)
  refine lv_aload_n X.x X.b dL_law_489 rfl (lv_at hl 4 rfl) ?_
  rw [lawH_m] at hr
  refine h_callV X hr hz hlo (rest := []) (mc_sum l D H0 (a + 65) R md t _ _  hy.2.1 Q9 hQ9 hq9) mput_o rfl yv_X5_sum ml_L_112 ⟨(Nat.le_of_ble_eq_true rfl), (Nat.le_of_ble_eq_true rfl)⟩ (Nat.le_of_ble_eq_true rfl) hl.1 ⟨by show _ ≤ 601024; omega, by show _ ≤ 7293000; omega⟩ rfl dL_law_490 (fun v9 h9 n9 H locs hp hr hz hlo => ?_)
  obtain ⟨rfl, rfl, rfl⟩ := hp
  show W p l e _ s m _ below meth c H locs _ _ _ (F0 m 493 ls [.long (mf_sum R md t).1])
  refine lv_lstore (lv' := [(6, .long (mf_sum R md t).1), (5, .int (lr_sum R nd g y).1), (4, .int (nI i)), (0, .ref sb), (1, .ref a), (2, .ref (a + 65)), (3, .ref (a + 78))]) X.x X.b dL_law_493 hl (by decide) rfl (fun ls hl => ?_)
  refine lv_goto (tgt := 498) X.x X.b dL_law_495 (by decide) ?_
  rw [← lawH_m] at hr
  exact W.widen (by omega) (by omega) (kk H locs ls _ hr hz hlo (lv_sub hl [2, 3, 4, 5, 6] rfl))
end LS
