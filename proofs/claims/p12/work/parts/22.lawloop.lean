/-! ===== THE LAW: its loop, its start, the claim ===== -/
/-- write: what the law compares holds, and the relation holds behind it -/
def Ok_write (I : Nat → Nat → GS → Nat → MS → Prop) (R k nd : Nat) (g : GS) (md : Nat) (t : MS) : Prop := ∀ (y : Int64) (x1 : Int32) (x3 : Int64), I (k + 1) (lr_write R nd g y x1 x3).2.1 (lr_write R nd g y x1 x3).2.2.1 md (mf_write R md t x1 x3).2
/-- read: what the law compares holds, and the relation holds behind it -/
def Ok_read (I : Nat → Nat → GS → Nat → MS → Prop) (R k nd : Nat) (g : GS) (md : Nat) (t : MS) : Prop := ∀ (y : Int64) (x1 : Int32), I (k + 1) (lr_read R nd g y x1).2.1 (lr_read R nd g y x1).2.2.1 md (mf_read R md t x1).2
/-- add: what the law compares holds, and the relation holds behind it -/
def Ok_add (I : Nat → Nat → GS → Nat → MS → Prop) (R k nd : Nat) (g : GS) (md : Nat) (t : MS) : Prop := ∀ (y : Int64) , (mf_add R md t).2.1 ≤ 10 ∧ I (k + 1) (lr_add R nd g y).2.1 (lr_add R nd g y).2.2.1 (mf_add R md t).2.1 (mf_add R md t).2.2
/-- grow: what the law compares holds, and the relation holds behind it -/
def Ok_grow (I : Nat → Nat → GS → Nat → MS → Prop) (R k nd : Nat) (g : GS) (md : Nat) (t : MS) : Prop := ∀ (y : Int64) , I (k + 1) (lr_grow R nd g y).2.1 (lr_grow R nd g y).2.2.1 md (mf_grow R md t).2
/-- step: what the law compares holds, and the relation holds behind it -/
def Ok_step (I : Nat → Nat → GS → Nat → MS → Prop) (R k nd : Nat) (g : GS) (md : Nat) (t : MS) : Prop := ∀ (y : Int64) , I (k + 1) (lr_step R nd g y).2.1 (lr_step R nd g y).2.2.1 md (mf_step R md t).2
/-- fail: what the law compares holds, and the relation holds behind it -/
def Ok_fail (I : Nat → Nat → GS → Nat → MS → Prop) (R k nd : Nat) (g : GS) (md : Nat) (t : MS) : Prop := ∀ (y : Int64) (x1 : Int32), I (k + 1) nd (gf_4_fail R nd g x1).2 md (mf_fail R md t x1).2
/-- replace: what the law compares holds, and the relation holds behind it -/
def Ok_replace (I : Nat → Nat → GS → Nat → MS → Prop) (R k nd : Nat) (g : GS) (md : Nat) (t : MS) : Prop := ∀ (y : Int64) , I (k + 1) nd (gf_4_replace R nd g).2 md (mf_replace R md t).2
/-- rebuild: what the law compares holds, and the relation holds behind it -/
def Ok_rebuild (I : Nat → Nat → GS → Nat → MS → Prop) (R k nd : Nat) (g : GS) (md : Nat) (t : MS) : Prop := ∀ (y : Int64) , I (k + 1) (lr_rebuild R nd g y).2.1 (lr_rebuild R nd g y).2.2.1 md (mf_rebuild R md t).2
/-- cut: what the law compares holds, and the relation holds behind it -/
def Ok_cut (I : Nat → Nat → GS → Nat → MS → Prop) (R k nd : Nat) (g : GS) (md : Nat) (t : MS) : Prop := ∀ (y : Int64) (x1 : Int32), I (k + 1) nd (gf_4_cut R nd g x1) md (mf_cut R md t x1)
/-- open: what the law compares holds, and the relation holds behind it -/
def Ok_open (I : Nat → Nat → GS → Nat → MS → Prop) (R k nd : Nat) (g : GS) (md : Nat) (t : MS) : Prop := ∀ (y : Int64) , I (k + 1) nd (gf_4_open R nd g).2 md (mf_open R md t).2
/-- place: what the law compares holds, and the relation holds behind it -/
def Ok_place (I : Nat → Nat → GS → Nat → MS → Prop) (R k nd : Nat) (g : GS) (md : Nat) (t : MS) : Prop := ∀ (y : Int64) (x1 : Int32) (x2 : Int32), ((gf_4_place R nd g x1 x2) = (mf_place R md t x1 x2).1) ∧ I (k + 1) nd g md (mf_place R md t x1 x2).2
/-- disk: what the law compares holds, and the relation holds behind it -/
def Ok_disk (I : Nat → Nat → GS → Nat → MS → Prop) (R k nd : Nat) (g : GS) (md : Nat) (t : MS) : Prop := ∀ (y : Int64) (x1 : Int32) (x2 : Int32), I (k + 1) nd g md (mf_disk R md t x1 x2).2
/-- count: what the law compares holds, and the relation holds behind it -/
def Ok_count (I : Nat → Nat → GS → Nat → MS → Prop) (R k nd : Nat) (g : GS) (md : Nat) (t : MS) : Prop := ∀ (y : Int64) (x1 : Int32), I (k + 1) nd g md (mf_count R md t x1).2
/-- astray: what the law compares holds, and the relation holds behind it -/
def Ok_astray (I : Nat → Nat → GS → Nat → MS → Prop) (R k nd : Nat) (g : GS) (md : Nat) (t : MS) : Prop := ∀ (y : Int64) , I (k + 1) nd g md (mf_astray R md t).2
/-- sum: what the law compares holds, and the relation holds behind it -/
def Ok_sum (I : Nat → Nat → GS → Nat → MS → Prop) (R k nd : Nat) (g : GS) (md : Nat) (t : MS) : Prop := ∀ (y : Int64) , I (k + 1) (lr_sum R nd g y).2.1 (lr_sum R nd g y).2.2.1 md (mf_sum R md t).2
def LawOK (I : Nat → Nat → GS → Nat → MS → Prop) (R k : Nat) : Prop := ∀ (nd : Nat) (g : GS) (md : Nat) (t : MS), I k nd g md t → Rdy R nd g md t ∧ I (k + 1) nd g md t ∧ Ok_write I R k nd g md t ∧ Ok_read I R k nd g md t ∧ Ok_add I R k nd g md t ∧ Ok_grow I R k nd g md t ∧ Ok_step I R k nd g md t ∧ Ok_fail I R k nd g md t ∧ Ok_replace I R k nd g md t ∧ Ok_rebuild I R k nd g md t ∧ Ok_cut I R k nd g md t ∧ Ok_open I R k nd g md t ∧ Ok_place I R k nd g md t ∧ Ok_disk I R k nd g md t ∧ Ok_count I R k nd g md t ∧ Ok_astray I R k nd g md t ∧ Ok_sum I R k nd g md t
theorem law_in {i L : Nat} (hi : i < 2 ^ 30) (hL : L < 2 ^ 30) (h : ¬ nI L - 4 < nI i) : i + 4 ≤ L := by
  have h1 := Int32.le_iff_toInt_le.mp (Int32.not_lt.mp h)
  rw [show (4 : Int32) = nI 4 from rfl, pk_sub_toInt hL (by decide), nI_toInt (by omega)] at h1
  omega
set_option maxRecDepth 20000 in
set_option maxHeartbeats 4000000 in
theorem law_loop {p : Program} {l : Launch} {e : Env} {s : State} {m : MethodId} {below : List Frame} {meth : Method} {c : Code} {D : hD} {H0 : Heap} {sb L : Nat} {xs : Nat → Int32} {ret : Option FieldType} {Q : State → Prop} (X : hX p m c cL_law 8 s #[Value.ref sb] RL D meth ret) (Y : sX sb L xs H0 s) (hT : hTw H0 s) (hst : l.stackTraces = false) (hLL : L ≤ 2050) {a R : Nat} (I : Nat → Nat → GS → Nat → MS → Prop) (hI : ∀ k, k < 512 → LawOK I R k)
    (fin : ∀ (H : Heap) (locs : List Loc) (ls : Array Slot) (h : hH), hR D H0 h H → hL H0 locs → W p l e room_1 s m #[Value.ref sb] below meth c H locs 1105 7539 Q (F0 m 504 ls [])) :
    ∀ (j k nd : Nat) (g : GS) (md : Nat) (t : MS) (y : Int64) (n cells slots : Nat) (H : Heap) (locs : List Loc) (ls : Array Slot), k + j = 512 + 1 → cells = 79 + 2 * k → slots = 1383 + 12 * k → I k nd g md t → hR D H0 (lawH a R nd g md t y) H → H.size = n → hL H0 locs → lv_has ls 8 [(4, .int (nI (2 + 4 * k))), (0, .ref sb), (1, .ref a), (2, .ref (a + 65)), (3, .ref (a + 78))] →
      W p l e room_1 s m #[Value.ref sb] below meth c H locs cells slots Q (F0 m 43 ls []) := by
  intro j
  induction j with
  | zero =>
    intro k nd g md t y n cells slots H locs ls hj hcl hsl hi hr hz hlo hl
    refine lv_iload X.x X.b dL_law_43 (lv_at hl 0 rfl) ?_
    refine lv_aload_n X.x X.b dL_law_45 rfl (lv_at hl 1 rfl) ?_
    refine h_slen X Y hr hlo dL_law_46 ?_
    refine lv_iconst (v := 4) X.x X.b dL_law_47 (by decide) ?_
    refine lv_isub X.x X.b dL_law_48 ?_
    refine lv_icmp_gt (tgt := 504) X.x X.b dL_law_49 (by decide) (fun c49 => ?_) (fun c49 => ?_)
    · exact W.widen (by omega) (by omega) (fin H locs ls _ hr hlo)
    · have := law_in (by omega) (by omega) c49
      omega
  | succ j ih =>
    intro k nd g md t y n cells slots H locs ls hj hcl hsl hi hr hz hlo hl
    refine lv_iload X.x X.b dL_law_43 (lv_at hl 0 rfl) ?_
    refine lv_aload_n X.x X.b dL_law_45 rfl (lv_at hl 1 rfl) ?_
    refine h_slen X Y hr hlo dL_law_46 ?_
    refine lv_iconst (v := 4) X.x X.b dL_law_47 (by decide) ?_
    refine lv_isub X.x X.b dL_law_48 ?_
    refine lv_icmp_gt (tgt := 504) X.x X.b dL_law_49 (by decide) (fun c49 => ?_) (fun c49 => ?_)
    · exact W.widen (by omega) (by omega) (fin H locs ls _ hr hlo)
    have hiL := law_in (by omega) (by omega) c49
    have hkK : k < 512 := by omega
    obtain ⟨hy, hdef, h_write, h_read, h_add, h_grow, h_step, h_fail, h_replace, h_rebuild, h_cut, h_open, h_place, h_disk, h_count, h_astray, h_sum⟩ := hI k hkK nd g md t hi
    have next : ∀ (nd2 : Nat) (g2 : GS) (md2 : Nat) (t2 : MS) (y2 : Int64), I (k + 1) nd2 g2 md2 t2 → ∀ (H : Heap) (locs : List Loc) (ls : Array Slot) (n2 : Nat), hR D H0 (lawH a R nd2 g2 md2 t2 y2) H → H.size = n2 → hL H0 locs → lv_has ls 8 [(4, .int (nI (2 + 4 * k))), (0, .ref sb), (1, .ref a), (2, .ref (a + 65)), (3, .ref (a + 78))] → W p l e room_1 s m #[Value.ref sb] below meth c H locs (cells + 2) (slots + 12) Q (F0 m 498 ls []) := by
      intro nd2 g2 md2 t2 y2 hi2 H locs ls n2 hr hz hlo hl
      refine lv_iinc (v := nI (2 + 4 * (k + 1))) (lv' := [(4, .int (nI (2 + 4 * (k + 1)))), (0, .ref sb), (1, .ref a), (2, .ref (a + 65)), (3, .ref (a + 78))]) X.x X.b dL_law_498 hl (k := 0) rfl (nIi4 (2 + 4 * k)) (by decide) rfl (fun ls hl => ?_)
      refine lv_goto (tgt := 43) X.x X.b dL_law_501 (by decide) ?_
      exact ih (k + 1) nd2 g2 md2 t2 y2 n2 _ _ H locs ls (by omega) (by omega) (by omega) hi2 hr hz hlo hl
    refine lv_aload_n X.x X.b dL_law_52 rfl (lv_at hl 1 rfl) ?_
    refine lv_iload X.x X.b dL_law_53 (lv_at hl 0 rfl) ?_
    refine h_sld X Y hr hlo (vp_in_nI (by omega) (by omega)) dL_law_55 ?_
    refine lv_bipush (v := 15) X.x X.b dL_law_56 (by decide) ?_
    refine lv_iand X.x X.b dL_law_58 ?_
    generalize xs (nI (2 + 4 * k)).toNatClampNeg &&& 15 = w
    by_cases c_0 : w = 0
    · refine lv_tableIn (off := 73) (tgt := 132) X.x X.b dL_law_59 (by rw [c_0]; decide) (by rw [c_0]; decide) (by rw [c_0]; rfl) (by decide) ?_
      have hn := h_write y (xs (2 + 4 * k + 1)) (((xs (2 + 4 * k + 2)).toInt64 <<< ((32 : Int32).toInt64 &&& 63)) ||| ((xs (2 + 4 * k + 3)).toInt64 &&& 4294967295))
      exact ls_write X Y hT hst hy (by omega) (by omega) (by omega) (by omega)  hr hz hlo hl (next _ _ _ _ _ hn)
    by_cases c_1 : w = 1
    · refine lv_tableIn (off := 145) (tgt := 204) X.x X.b dL_law_59 (by rw [c_1]; decide) (by rw [c_1]; decide) (by rw [c_1]; rfl) (by decide) ?_
      have hn := h_read y (xs (2 + 4 * k + 1))
      exact ls_read X Y hT hst hy (by omega) (by omega) (by omega) (by omega)  hr hz hlo hl (next _ _ _ _ _ hn)
    by_cases c_2 : w = 2
    · refine lv_tableIn (off := 173) (tgt := 232) X.x X.b dL_law_59 (by rw [c_2]; decide) (by rw [c_2]; decide) (by rw [c_2]; rfl) (by decide) ?_
      obtain ⟨hmd2, hn⟩ := h_add y 
      exact ls_add X Y hT hst hy (by omega) (by omega) (by omega) (by omega) hmd2  hr hz hlo hl (next _ _ _ _ _ hn)
    by_cases c_3 : w = 3
    · refine lv_tableIn (off := 189) (tgt := 248) X.x X.b dL_law_59 (by rw [c_3]; decide) (by rw [c_3]; decide) (by rw [c_3]; rfl) (by decide) ?_
      have hn := h_grow y 
      exact ls_grow X Y hT hst hy (by omega) (by omega) (by omega) (by omega)  hr hz hlo hl (next _ _ _ _ _ hn)
    by_cases c_4 : w = 4
    · refine lv_tableIn (off := 205) (tgt := 264) X.x X.b dL_law_59 (by rw [c_4]; decide) (by rw [c_4]; decide) (by rw [c_4]; rfl) (by decide) ?_
      have hn := h_step y 
      exact ls_step X Y hT hst hy (by omega) (by omega) (by omega) (by omega)  hr hz hlo hl (next _ _ _ _ _ hn)
    by_cases c_5 : w = 5
    · refine lv_tableIn (off := 221) (tgt := 280) X.x X.b dL_law_59 (by rw [c_5]; decide) (by rw [c_5]; decide) (by rw [c_5]; rfl) (by decide) ?_
      have hn := h_fail y (xs (2 + 4 * k + 1))
      exact ls_fail X Y hT hst hy (by omega) (by omega) (by omega) (by omega)  hr hz hlo hl (next _ _ _ _ _ hn)
    by_cases c_6 : w = 6
    · refine lv_tableIn (off := 246) (tgt := 305) X.x X.b dL_law_59 (by rw [c_6]; decide) (by rw [c_6]; decide) (by rw [c_6]; rfl) (by decide) ?_
      have hn := h_replace y 
      exact ls_replace X Y hT hst hy (by omega) (by omega) (by omega) (by omega)  hr hz hlo hl (next _ _ _ _ _ hn)
    by_cases c_7 : w = 7
    · refine lv_tableIn (off := 259) (tgt := 318) X.x X.b dL_law_59 (by rw [c_7]; decide) (by rw [c_7]; decide) (by rw [c_7]; rfl) (by decide) ?_
      have hn := h_rebuild y 
      exact ls_rebuild X Y hT hst hy (by omega) (by omega) (by omega) (by omega)  hr hz hlo hl (next _ _ _ _ _ hn)
    by_cases c_8 : w = 8
    · refine lv_tableIn (off := 275) (tgt := 334) X.x X.b dL_law_59 (by rw [c_8]; decide) (by rw [c_8]; decide) (by rw [c_8]; rfl) (by decide) ?_
      have hn := h_cut y (xs (2 + 4 * k + 1))
      exact ls_cut X Y hT hst hy (by omega) (by omega) (by omega) (by omega)  hr hz hlo hl (next _ _ _ _ _ hn)
    by_cases c_9 : w = 9
    · refine lv_tableIn (off := 298) (tgt := 357) X.x X.b dL_law_59 (by rw [c_9]; decide) (by rw [c_9]; decide) (by rw [c_9]; rfl) (by decide) ?_
      have hn := h_open y 
      exact ls_open X Y hT hst hy (by omega) (by omega) (by omega) (by omega)  hr hz hlo hl (next _ _ _ _ _ hn)
    by_cases c_10 : w = 10
    · refine lv_tableIn (off := 311) (tgt := 370) X.x X.b dL_law_59 (by rw [c_10]; decide) (by rw [c_10]; decide) (by rw [c_10]; rfl) (by decide) ?_
      obtain ⟨hcmp, hn⟩ := h_place y (xs (2 + 4 * k + 1)) (xs (2 + 4 * k + 2))
      exact ls_place X Y hT hst hy (by omega) (by omega) (by omega) (by omega) hcmp hr hz hlo hl (next _ _ _ _ _ hn)
    by_cases c_11 : w = 11
    · refine lv_tableIn (off := 348) (tgt := 407) X.x X.b dL_law_59 (by rw [c_11]; decide) (by rw [c_11]; decide) (by rw [c_11]; rfl) (by decide) ?_
      have hn := h_disk y (xs (2 + 4 * k + 1)) (xs (2 + 4 * k + 2))
      exact ls_disk X Y hT hst hy (by omega) (by omega) (by omega) (by omega)  hr hz hlo hl (next _ _ _ _ _ hn)
    by_cases c_12 : w = 12
    · refine lv_tableIn (off := 385) (tgt := 444) X.x X.b dL_law_59 (by rw [c_12]; decide) (by rw [c_12]; decide) (by rw [c_12]; rfl) (by decide) ?_
      have hn := h_count y (xs (2 + 4 * k + 1))
      exact ls_count X Y hT hst hy (by omega) (by omega) (by omega) (by omega)  hr hz hlo hl (next _ _ _ _ _ hn)
    by_cases c_13 : w = 13
    · refine lv_tableIn (off := 410) (tgt := 469) X.x X.b dL_law_59 (by rw [c_13]; decide) (by rw [c_13]; decide) (by rw [c_13]; rfl) (by decide) ?_
      have hn := h_astray y 
      exact ls_astray X Y hT hst hy (by omega) (by omega) (by omega) (by omega)  hr hz hlo hl (next _ _ _ _ _ hn)
    by_cases c_14 : w = 14
    · refine lv_tableIn (off := 423) (tgt := 482) X.x X.b dL_law_59 (by rw [c_14]; decide) (by rw [c_14]; decide) (by rw [c_14]; rfl) (by decide) ?_
      have hn := h_sum y 
      obtain ⟨P9, hP9, hp9⟩ := hy.2.2.2.2.2.2.2.1
      obtain ⟨Q9, hQ9, hq9⟩ := hy.2.2.2.2.2.2.1
      exact ls_sum X Y hT hst hy (by omega) (by omega) (by omega) (by omega) P9 hP9 hp9 Q9 hQ9 hq9  hr hz hlo hl (next _ _ _ _ _ hn)
    refine lv_tableOut (tgt := 498) X.x X.b dL_law_59 (tbo (N := 14) (by intro i9 h9; match i9, h9 with | 0, _ => exact c_0 | 1, _ => exact c_1 | 2, _ => exact c_2 | 3, _ => exact c_3 | 4, _ => exact c_4 | 5, _ => exact c_5 | 6, _ => exact c_6 | 7, _ => exact c_7 | 8, _ => exact c_8 | 9, _ => exact c_9 | 10, _ => exact c_10 | 11, _ => exact c_11 | 12, _ => exact c_12 | 13, _ => exact c_13 | 14, _ => exact c_14 | (k9 + 15), h9 => omega) (by decide)) (by decide) ?_
    exact W.widen (by omega) (by omega) (next _ _ _ _ _ hdef H locs ls n hr hz hlo hl)
