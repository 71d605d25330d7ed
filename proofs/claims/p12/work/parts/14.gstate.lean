/-! ===== THE CLASS: its state and its 65 cells: the object at a, held, order, rowValues, disks; six a disk ===== -/
/-- numbers (1 up, 2 writesTillCut, 3 rebuiltRows, 4 writesBegun, 5 writesMade, 6 stepsEnded, 7 powerLosses, 8 .. 11 held, 12 .. 16 order); per disk (0 .. 3 super, 4 .. 8 journal, 9 backup, 10 failed, 11 writesTaken); longs (0 order, 1 rowValues, 2 journal, 3 backup, 4 blocks) -/
abbrev GS : Type := (Nat → Int32) × (Nat → Nat → Int32) × (Nat → Nat → Nat → Int64)
def gsi (g : GS) (k : Nat) (v : Int32) : GS := (va_up g.1 k v, g.2)
def gdi (g : GS) (k d : Nat) (v : Int32) : GS := (g.1, va_up g.2.1 k (va_up (g.2.1 k) d v), g.2.2)
def gli (g : GS) (k d i : Nat) (v : Int64) : GS := (g.1, g.2.1, va_up g.2.2 k (va_up (g.2.2 k) d (va_up (g.2.2 k d) i v)))
def aD (a d : Nat) : Nat := a + 5 + 6 * d
def aS (a d : Nat) : Nat := a + 6 + 6 * d
def aJ (a d : Nat) : Nat := a + 7 + 6 * d
def aB (a d : Nat) : Nat := a + 8 + 6 * d
def aV (a d : Nat) : Nat := a + 9 + 6 * d
def aK (a d : Nat) : Nat := a + 10 + 6 * d
def gF (a R nd : Nat) (g : GS) : List Value := [.ref (a + 4), .int (nI R), .int (nI nd), .ref (a + 1), .int (g.1 1), .int (g.1 2), .int (g.1 3), .int (g.1 4), .int (g.1 5), .int (g.1 6), .int (g.1 7), .ref (a + 2), .ref (a + 3)]
def gH (g : GS) : List Value := [.int (g.1 8), .int (g.1 9), .int (g.1 10), .int (g.1 11)]
def gO (g : GS) : List Value := [.int (g.1 12), .int (g.1 13), .int (g.1 14), .int (g.1 15), .int (g.1 16), .long (g.2.2 0 0 0), .long (g.2.2 0 0 1)]
def gDk (a : Nat) (g : GS) (d : Nat) : List Value := [.ref (aK a d), .ref (aS a d), .ref (aJ a d), .ref (aB a d), .int (g.2.1 10 d), .int (g.2.1 11 d)]
def gSu (g : GS) (d : Nat) : List Value := [.int (g.2.1 0 d), .int (g.2.1 1 d), .int (g.2.1 2 d), .int (g.2.1 3 d)]
def gJo (g : GS) (d : Nat) : List Value := [.int (g.2.1 4 d), .int (g.2.1 5 d), .int (g.2.1 6 d), .int (g.2.1 7 d), .int (g.2.1 8 d), .long (g.2.2 2 d 0), .long (g.2.2 2 d 1)]
def gBa (a : Nat) (g : GS) (d : Nat) : List Value := [.int (g.2.1 9 d), .ref (aV a d)]
def gdk (a R : Nat) (g : GS) (d r : Nat) : hC := if r = 0 then .inr (1, gDk a g d) else if r = 1 then .inr (3, gSu g d) else if r = 2 then .inr (2, gJo g d) else if r = 3 then .inr (0, gBa a g d) else if r = 4 then .inl (1, 10, fun i => .long (g.2.2 3 d i)) else .inl (1, R, fun i => .long (g.2.2 4 d i))
def gcell (a R nd : Nat) (g : GS) (o : Nat) : hC := if o = 0 then .inr (4, gF a R nd g) else if o = 1 then .inr (3, gH g) else if o = 2 then .inr (2, gO g) else if o = 3 then .inl (1, 10, fun i => .long (g.2.2 1 0 i)) else if o = 4 then .inl (2, 10, fun i => .ref (aD a i)) else gdk a R g ((o - 5) / 6) ((o - 5) % 6)
def gput (a R nd : Nat) (g : GS) (h0 : hH) : hH := fun q => if a ≤ q ∧ q < a + 65 then some (gcell a R nd g (q - a)) else h0 q
section GPUT
variable {a R nd : Nat} {g : GS} {h0 : hH} {d : Nat}
theorem gput_at {o : Nat} (ho : o < 65) : gput a R nd g h0 (a + o) = some (gcell a R nd g o) := by
  unfold gput
  rw [if_pos (by omega), Nat.add_sub_cancel_left]
theorem gput_o : gput a R nd g h0 a = some (.inr (4, gF a R nd g)) := gput_at (o := 0) (by decide)
theorem gput_h : gput a R nd g h0 (a + 1) = some (.inr (3, gH g)) := gput_at (o := 1) (by decide)
theorem gput_r : gput a R nd g h0 (a + 2) = some (.inr (2, gO g)) := gput_at (o := 2) (by decide)
theorem gput_v : gput a R nd g h0 (a + 3) = some (.inl (1, 10, fun i => .long (g.2.2 1 0 i))) := gput_at (o := 3) (by decide)
theorem gput_k : gput a R nd g h0 (a + 4) = some (.inl (2, 10, fun i => .ref (aD a i))) := gput_at (o := 4) (by decide)
theorem gput_dk {r : Nat} (hd : d < 10) (hr : r < 6) : gput a R nd g h0 (a + (5 + r + 6 * d)) = some (gdk a R g d r) := by
  rw [gput_at (by omega)]
  unfold gcell
  rw [if_neg (by omega), if_neg (by omega), if_neg (by omega), if_neg (by omega), if_neg (by omega), show (5 + r + 6 * d - 5) / 6 = d by omega, show (5 + r + 6 * d - 5) % 6 = r by omega]
theorem gput_aD (hd : d < 10) : gput a R nd g h0 (aD a d) = some (.inr (1, gDk a g d)) := by
  have h := gput_dk (a := a) (R := R) (nd := nd) (g := g) (h0 := h0) (r := 0) hd (by decide)
  rw [show a + (5 + 0 + 6 * d) = aD a d by unfold aD; omega] at h
  exact h
theorem gput_aS (hd : d < 10) : gput a R nd g h0 (aS a d) = some (.inr (3, gSu g d)) := by
  have h := gput_dk (a := a) (R := R) (nd := nd) (g := g) (h0 := h0) (r := 1) hd (by decide)
  rw [show a + (5 + 1 + 6 * d) = aS a d by unfold aS; omega] at h
  exact h
theorem gput_aJ (hd : d < 10) : gput a R nd g h0 (aJ a d) = some (.inr (2, gJo g d)) := by
  have h := gput_dk (a := a) (R := R) (nd := nd) (g := g) (h0 := h0) (r := 2) hd (by decide)
  rw [show a + (5 + 2 + 6 * d) = aJ a d by unfold aJ; omega] at h
  exact h
theorem gput_aB (hd : d < 10) : gput a R nd g h0 (aB a d) = some (.inr (0, gBa a g d)) := by
  have h := gput_dk (a := a) (R := R) (nd := nd) (g := g) (h0 := h0) (r := 3) hd (by decide)
  rw [show a + (5 + 3 + 6 * d) = aB a d by unfold aB; omega] at h
  exact h
theorem gput_aV (hd : d < 10) : gput a R nd g h0 (aV a d) = some (.inl (1, 10, fun i => .long (g.2.2 3 d i))) := by
  have h := gput_dk (a := a) (R := R) (nd := nd) (g := g) (h0 := h0) (r := 4) hd (by decide)
  rw [show a + (5 + 4 + 6 * d) = aV a d by unfold aV; omega] at h
  exact h
theorem gput_aK (hd : d < 10) : gput a R nd g h0 (aK a d) = some (.inl (1, R, fun i => .long (g.2.2 4 d i))) := by
  have h := gput_dk (a := a) (R := R) (nd := nd) (g := g) (h0 := h0) (r := 5) hd (by decide)
  rw [show a + (5 + 5 + 6 * d) = aK a d by unfold aK; omega] at h
  exact h
theorem gput_out {q : Nat} (hq : q < a ∨ a + 65 ≤ q) : gput a R nd g h0 q = h0 q := by
  unfold gput
  rw [if_neg (by omega)]
theorem gput_upd {g2 : GS} {nd2 q0 : Nat} {c : hC} (o : Nat) (ho : o < 65) (hq : q0 = a + o) (hc : gcell a R nd2 g2 o = c) (hr : ∀ o2, o2 < 65 → o2 ≠ o → gcell a R nd2 g2 o2 = gcell a R nd g o2) : hup (gput a R nd g h0) q0 c = gput a R nd2 g2 h0 := by
  subst hq
  funext q
  by_cases h1 : q = a + o
  · subst h1
    rw [hup_self, gput_at ho, hc]
  · rw [hup_ne _ _ h1]
    unfold gput
    by_cases h2 : a ≤ q ∧ q < a + 65
    · rw [if_pos h2, if_pos h2, hr (q - a) (by omega) (by omega)]
    · rw [if_neg h2, if_neg h2]
theorem gcell_top {g2 : GS} {nd2 : Nat} (o : Nat) (ho : o < 5) (h1 : g2.2.1 = g.2.1) (h2 : ∀ k, 2 ≤ k → g2.2.2 k = g.2.2 k) (h3 : ∀ o2, o2 < 5 → o2 ≠ o → gcell a R nd2 g2 o2 = gcell a R nd g o2) : ∀ o2, o2 < 65 → o2 ≠ o → gcell a R nd2 g2 o2 = gcell a R nd g o2 := by
  intro o2 h4 h5
  by_cases h6 : o2 < 5
  · exact h3 o2 h6 h5
  · unfold gcell
    rw [if_neg (by omega), if_neg (by omega), if_neg (by omega), if_neg (by omega), if_neg (by omega), if_neg (by omega), if_neg (by omega), if_neg (by omega), if_neg (by omega), if_neg (by omega)]
    simp only [gdk, gDk, gSu, gJo, gBa, h1, h2 2 (by decide), h2 3 (by decide), h2 4 (by decide)]
theorem gcell_dk {g2 : GS} (d r : Nat) (h1 : g2.1 = g.1) (h2 : ∀ k, k < 2 → g2.2.2 k = g.2.2 k) (h3 : ∀ d2 r2, r2 < 6 → ¬ (d2 = d ∧ r2 = r) → gdk a R g2 d2 r2 = gdk a R g d2 r2) : ∀ o2, o2 < 65 → o2 ≠ 5 + r + 6 * d → gcell a R nd g2 o2 = gcell a R nd g o2 := by
  intro o2 h4 h5
  unfold gcell
  by_cases h6 : o2 < 5
  · rcases (show o2 = 0 ∨ o2 = 1 ∨ o2 = 2 ∨ o2 = 3 ∨ o2 = 4 by omega) with rfl | rfl | rfl | rfl | rfl <;> simp [gF, gH, gO, h1, h2 0 (by decide), h2 1 (by decide)]
  · rw [h3 ((o2 - 5) / 6) ((o2 - 5) % 6) (Nat.mod_lt _ (by decide)) (by omega)]
    simp [show ¬ o2 = 0 by omega, show ¬ o2 = 1 by omega, show ¬ o2 = 2 by omega, show ¬ o2 = 3 by omega, show ¬ o2 = 4 by omega]
theorem gput_s1 (v : Int32) : hup (gput a R nd g h0) a (.inr (4, (gF a R nd g).set 4 (.int v))) = gput a R nd (gsi g 1 v) h0 := gput_upd 0 (by decide) rfl (by simp [gcell, gF, gH, gO, gsi, gli, va_up]) (gcell_top 0 (by decide) rfl (by intro k hk; first | rfl | exact va_up_ne _ _ (by omega)) (by intro o2 h4 h5; rcases (show o2 = 0 ∨ o2 = 1 ∨ o2 = 2 ∨ o2 = 3 ∨ o2 = 4 by omega) with rfl | rfl | rfl | rfl | rfl <;> first | exact absurd rfl h5 | simp [gcell, gF, gH, gO, gsi, gli, va_up]))
theorem gput_s2 (v : Int32) : hup (gput a R nd g h0) a (.inr (4, (gF a R nd g).set 5 (.int v))) = gput a R nd (gsi g 2 v) h0 := gput_upd 0 (by decide) rfl (by simp [gcell, gF, gH, gO, gsi, gli, va_up]) (gcell_top 0 (by decide) rfl (by intro k hk; first | rfl | exact va_up_ne _ _ (by omega)) (by intro o2 h4 h5; rcases (show o2 = 0 ∨ o2 = 1 ∨ o2 = 2 ∨ o2 = 3 ∨ o2 = 4 by omega) with rfl | rfl | rfl | rfl | rfl <;> first | exact absurd rfl h5 | simp [gcell, gF, gH, gO, gsi, gli, va_up]))
theorem gput_s3 (v : Int32) : hup (gput a R nd g h0) a (.inr (4, (gF a R nd g).set 6 (.int v))) = gput a R nd (gsi g 3 v) h0 := gput_upd 0 (by decide) rfl (by simp [gcell, gF, gH, gO, gsi, gli, va_up]) (gcell_top 0 (by decide) rfl (by intro k hk; first | rfl | exact va_up_ne _ _ (by omega)) (by intro o2 h4 h5; rcases (show o2 = 0 ∨ o2 = 1 ∨ o2 = 2 ∨ o2 = 3 ∨ o2 = 4 by omega) with rfl | rfl | rfl | rfl | rfl <;> first | exact absurd rfl h5 | simp [gcell, gF, gH, gO, gsi, gli, va_up]))
theorem gput_s4 (v : Int32) : hup (gput a R nd g h0) a (.inr (4, (gF a R nd g).set 7 (.int v))) = gput a R nd (gsi g 4 v) h0 := gput_upd 0 (by decide) rfl (by simp [gcell, gF, gH, gO, gsi, gli, va_up]) (gcell_top 0 (by decide) rfl (by intro k hk; first | rfl | exact va_up_ne _ _ (by omega)) (by intro o2 h4 h5; rcases (show o2 = 0 ∨ o2 = 1 ∨ o2 = 2 ∨ o2 = 3 ∨ o2 = 4 by omega) with rfl | rfl | rfl | rfl | rfl <;> first | exact absurd rfl h5 | simp [gcell, gF, gH, gO, gsi, gli, va_up]))
theorem gput_s5 (v : Int32) : hup (gput a R nd g h0) a (.inr (4, (gF a R nd g).set 8 (.int v))) = gput a R nd (gsi g 5 v) h0 := gput_upd 0 (by decide) rfl (by simp [gcell, gF, gH, gO, gsi, gli, va_up]) (gcell_top 0 (by decide) rfl (by intro k hk; first | rfl | exact va_up_ne _ _ (by omega)) (by intro o2 h4 h5; rcases (show o2 = 0 ∨ o2 = 1 ∨ o2 = 2 ∨ o2 = 3 ∨ o2 = 4 by omega) with rfl | rfl | rfl | rfl | rfl <;> first | exact absurd rfl h5 | simp [gcell, gF, gH, gO, gsi, gli, va_up]))
theorem gput_s6 (v : Int32) : hup (gput a R nd g h0) a (.inr (4, (gF a R nd g).set 9 (.int v))) = gput a R nd (gsi g 6 v) h0 := gput_upd 0 (by decide) rfl (by simp [gcell, gF, gH, gO, gsi, gli, va_up]) (gcell_top 0 (by decide) rfl (by intro k hk; first | rfl | exact va_up_ne _ _ (by omega)) (by intro o2 h4 h5; rcases (show o2 = 0 ∨ o2 = 1 ∨ o2 = 2 ∨ o2 = 3 ∨ o2 = 4 by omega) with rfl | rfl | rfl | rfl | rfl <;> first | exact absurd rfl h5 | simp [gcell, gF, gH, gO, gsi, gli, va_up]))
theorem gput_s7 (v : Int32) : hup (gput a R nd g h0) a (.inr (4, (gF a R nd g).set 10 (.int v))) = gput a R nd (gsi g 7 v) h0 := gput_upd 0 (by decide) rfl (by simp [gcell, gF, gH, gO, gsi, gli, va_up]) (gcell_top 0 (by decide) rfl (by intro k hk; first | rfl | exact va_up_ne _ _ (by omega)) (by intro o2 h4 h5; rcases (show o2 = 0 ∨ o2 = 1 ∨ o2 = 2 ∨ o2 = 3 ∨ o2 = 4 by omega) with rfl | rfl | rfl | rfl | rfl <;> first | exact absurd rfl h5 | simp [gcell, gF, gH, gO, gsi, gli, va_up]))
theorem gput_hs0 (v : Int32) : hup (gput a R nd g h0) (a + 1) (.inr (3, (gH g).set 0 (.int v))) = gput a R nd (gsi g 8 v) h0 := gput_upd 1 (by decide) rfl (by simp [gcell, gF, gH, gO, gsi, gli, va_up]) (gcell_top 1 (by decide) rfl (by intro k hk; first | rfl | exact va_up_ne _ _ (by omega)) (by intro o2 h4 h5; rcases (show o2 = 0 ∨ o2 = 1 ∨ o2 = 2 ∨ o2 = 3 ∨ o2 = 4 by omega) with rfl | rfl | rfl | rfl | rfl <;> first | exact absurd rfl h5 | simp [gcell, gF, gH, gO, gsi, gli, va_up]))
theorem gput_hs1 (v : Int32) : hup (gput a R nd g h0) (a + 1) (.inr (3, (gH g).set 1 (.int v))) = gput a R nd (gsi g 9 v) h0 := gput_upd 1 (by decide) rfl (by simp [gcell, gF, gH, gO, gsi, gli, va_up]) (gcell_top 1 (by decide) rfl (by intro k hk; first | rfl | exact va_up_ne _ _ (by omega)) (by intro o2 h4 h5; rcases (show o2 = 0 ∨ o2 = 1 ∨ o2 = 2 ∨ o2 = 3 ∨ o2 = 4 by omega) with rfl | rfl | rfl | rfl | rfl <;> first | exact absurd rfl h5 | simp [gcell, gF, gH, gO, gsi, gli, va_up]))
theorem gput_hs2 (v : Int32) : hup (gput a R nd g h0) (a + 1) (.inr (3, (gH g).set 2 (.int v))) = gput a R nd (gsi g 10 v) h0 := gput_upd 1 (by decide) rfl (by simp [gcell, gF, gH, gO, gsi, gli, va_up]) (gcell_top 1 (by decide) rfl (by intro k hk; first | rfl | exact va_up_ne _ _ (by omega)) (by intro o2 h4 h5; rcases (show o2 = 0 ∨ o2 = 1 ∨ o2 = 2 ∨ o2 = 3 ∨ o2 = 4 by omega) with rfl | rfl | rfl | rfl | rfl <;> first | exact absurd rfl h5 | simp [gcell, gF, gH, gO, gsi, gli, va_up]))
theorem gput_hs3 (v : Int32) : hup (gput a R nd g h0) (a + 1) (.inr (3, (gH g).set 3 (.int v))) = gput a R nd (gsi g 11 v) h0 := gput_upd 1 (by decide) rfl (by simp [gcell, gF, gH, gO, gsi, gli, va_up]) (gcell_top 1 (by decide) rfl (by intro k hk; first | rfl | exact va_up_ne _ _ (by omega)) (by intro o2 h4 h5; rcases (show o2 = 0 ∨ o2 = 1 ∨ o2 = 2 ∨ o2 = 3 ∨ o2 = 4 by omega) with rfl | rfl | rfl | rfl | rfl <;> first | exact absurd rfl h5 | simp [gcell, gF, gH, gO, gsi, gli, va_up]))
theorem gput_rs0 (v : Int32) : hup (gput a R nd g h0) (a + 2) (.inr (2, (gO g).set 0 (.int v))) = gput a R nd (gsi g 12 v) h0 := gput_upd 2 (by decide) rfl (by simp [gcell, gF, gH, gO, gsi, gli, va_up]) (gcell_top 2 (by decide) rfl (by intro k hk; first | rfl | exact va_up_ne _ _ (by omega)) (by intro o2 h4 h5; rcases (show o2 = 0 ∨ o2 = 1 ∨ o2 = 2 ∨ o2 = 3 ∨ o2 = 4 by omega) with rfl | rfl | rfl | rfl | rfl <;> first | exact absurd rfl h5 | simp [gcell, gF, gH, gO, gsi, gli, va_up]))
theorem gput_rs1 (v : Int32) : hup (gput a R nd g h0) (a + 2) (.inr (2, (gO g).set 1 (.int v))) = gput a R nd (gsi g 13 v) h0 := gput_upd 2 (by decide) rfl (by simp [gcell, gF, gH, gO, gsi, gli, va_up]) (gcell_top 2 (by decide) rfl (by intro k hk; first | rfl | exact va_up_ne _ _ (by omega)) (by intro o2 h4 h5; rcases (show o2 = 0 ∨ o2 = 1 ∨ o2 = 2 ∨ o2 = 3 ∨ o2 = 4 by omega) with rfl | rfl | rfl | rfl | rfl <;> first | exact absurd rfl h5 | simp [gcell, gF, gH, gO, gsi, gli, va_up]))
theorem gput_rs2 (v : Int32) : hup (gput a R nd g h0) (a + 2) (.inr (2, (gO g).set 2 (.int v))) = gput a R nd (gsi g 14 v) h0 := gput_upd 2 (by decide) rfl (by simp [gcell, gF, gH, gO, gsi, gli, va_up]) (gcell_top 2 (by decide) rfl (by intro k hk; first | rfl | exact va_up_ne _ _ (by omega)) (by intro o2 h4 h5; rcases (show o2 = 0 ∨ o2 = 1 ∨ o2 = 2 ∨ o2 = 3 ∨ o2 = 4 by omega) with rfl | rfl | rfl | rfl | rfl <;> first | exact absurd rfl h5 | simp [gcell, gF, gH, gO, gsi, gli, va_up]))
theorem gput_rs3 (v : Int32) : hup (gput a R nd g h0) (a + 2) (.inr (2, (gO g).set 3 (.int v))) = gput a R nd (gsi g 15 v) h0 := gput_upd 2 (by decide) rfl (by simp [gcell, gF, gH, gO, gsi, gli, va_up]) (gcell_top 2 (by decide) rfl (by intro k hk; first | rfl | exact va_up_ne _ _ (by omega)) (by intro o2 h4 h5; rcases (show o2 = 0 ∨ o2 = 1 ∨ o2 = 2 ∨ o2 = 3 ∨ o2 = 4 by omega) with rfl | rfl | rfl | rfl | rfl <;> first | exact absurd rfl h5 | simp [gcell, gF, gH, gO, gsi, gli, va_up]))
theorem gput_rs4 (v : Int32) : hup (gput a R nd g h0) (a + 2) (.inr (2, (gO g).set 4 (.int v))) = gput a R nd (gsi g 16 v) h0 := gput_upd 2 (by decide) rfl (by simp [gcell, gF, gH, gO, gsi, gli, va_up]) (gcell_top 2 (by decide) rfl (by intro k hk; first | rfl | exact va_up_ne _ _ (by omega)) (by intro o2 h4 h5; rcases (show o2 = 0 ∨ o2 = 1 ∨ o2 = 2 ∨ o2 = 3 ∨ o2 = 4 by omega) with rfl | rfl | rfl | rfl | rfl <;> first | exact absurd rfl h5 | simp [gcell, gF, gH, gO, gsi, gli, va_up]))
theorem gput_rl0 (v : Int64) : hup (gput a R nd g h0) (a + 2) (.inr (2, (gO g).set 5 (.long v))) = gput a R nd (gli g 0 0 0 v) h0 := gput_upd 2 (by decide) rfl (by simp [gcell, gF, gH, gO, gsi, gli, va_up]) (gcell_top 2 (by decide) rfl (by intro k hk; first | rfl | exact va_up_ne _ _ (by omega)) (by intro o2 h4 h5; rcases (show o2 = 0 ∨ o2 = 1 ∨ o2 = 2 ∨ o2 = 3 ∨ o2 = 4 by omega) with rfl | rfl | rfl | rfl | rfl <;> first | exact absurd rfl h5 | simp [gcell, gF, gH, gO, gsi, gli, va_up]))
theorem gput_rl1 (v : Int64) : hup (gput a R nd g h0) (a + 2) (.inr (2, (gO g).set 6 (.long v))) = gput a R nd (gli g 0 0 1 v) h0 := gput_upd 2 (by decide) rfl (by simp [gcell, gF, gH, gO, gsi, gli, va_up]) (gcell_top 2 (by decide) rfl (by intro k hk; first | rfl | exact va_up_ne _ _ (by omega)) (by intro o2 h4 h5; rcases (show o2 = 0 ∨ o2 = 1 ∨ o2 = 2 ∨ o2 = 3 ∨ o2 = 4 by omega) with rfl | rfl | rfl | rfl | rfl <;> first | exact absurd rfl h5 | simp [gcell, gF, gH, gO, gsi, gli, va_up]))
theorem gput_nd : hup (gput a R nd g h0) a (.inr (4, (gF a R nd g).set 2 (.int (nI nd + 1)))) = gput a R (nd + 1) g h0 := gput_upd 0 (by decide) rfl (by simp [gcell, gF, nI_1]) (gcell_top 0 (by decide) rfl (fun _ _ => rfl) (by intro o2 h4 h5; rcases (show o2 = 0 ∨ o2 = 1 ∨ o2 = 2 ∨ o2 = 3 ∨ o2 = 4 by omega) with rfl | rfl | rfl | rfl | rfl <;> first | exact absurd rfl h5 | simp [gcell]))
theorem gput_av (i : Nat) (x : Int64) : hup (gput a R nd g h0) (a + 3) (.inl (1, 10, fup (fun i => .long (g.2.2 1 0 i)) i (.long x))) = gput a R nd (gli g 1 0 i x) h0 := gput_upd 3 (by decide) rfl (by
  show (Sum.inl (1, 10, _) : hC) = _
  congr 3
  funext i2
  by_cases hj : i2 = i <;> simp [fup, gli, va_up, hj]) (gcell_top 3 (by decide) rfl (by intro k hk; exact va_up_ne _ _ (by omega)) (by intro o2 h4 h5; rcases (show o2 = 0 ∨ o2 = 1 ∨ o2 = 2 ∨ o2 = 3 ∨ o2 = 4 by omega) with rfl | rfl | rfl | rfl | rfl <;> first | exact absurd rfl h5 | simp [gcell, gF, gH, gO, gli, va_up]))
theorem gput_Ss0 (hd : d < 10) (v : Int32) : hup (gput a R nd g h0) (aS a d) (.inr (3, (gSu g d).set 0 (.int v))) = gput a R nd (gdi g 0 d v) h0 := gput_upd (5 + 1 + 6 * d) (by omega) (by unfold aS; omega) (by
  show gcell a R nd (gdi g 0 d v) (5 + 1 + 6 * d) = _
  unfold gcell
  rw [if_neg (by omega), if_neg (by omega), if_neg (by omega), if_neg (by omega), if_neg (by omega), show (5 + 1 + 6 * d - 5) / 6 = d by omega, show (5 + 1 + 6 * d - 5) % 6 = 1 by omega]
  simp [gdk, gDk, gSu, gJo, gBa, gdi, gli, va_up]) (gcell_dk d 1 rfl (by intro k hk; first | rfl | exact va_up_ne _ _ (by omega)) (by
  intro d2 r2 h4 h5
  rcases (show r2 = 0 ∨ r2 = 1 ∨ r2 = 2 ∨ r2 = 3 ∨ r2 = 4 ∨ r2 = 5 by omega) with rfl | rfl | rfl | rfl | rfl | rfl <;> first | (simp [gdk, gDk, gSu, gJo, gBa, gdi, gli, va_up]; done) | (have h6 : d2 ≠ d := fun e => h5 ⟨e, rfl⟩; simp [gdk, gDk, gSu, gJo, gBa, gdi, gli, va_up, h6])))
theorem gput_Ss1 (hd : d < 10) (v : Int32) : hup (gput a R nd g h0) (aS a d) (.inr (3, (gSu g d).set 1 (.int v))) = gput a R nd (gdi g 1 d v) h0 := gput_upd (5 + 1 + 6 * d) (by omega) (by unfold aS; omega) (by
  show gcell a R nd (gdi g 1 d v) (5 + 1 + 6 * d) = _
  unfold gcell
  rw [if_neg (by omega), if_neg (by omega), if_neg (by omega), if_neg (by omega), if_neg (by omega), show (5 + 1 + 6 * d - 5) / 6 = d by omega, show (5 + 1 + 6 * d - 5) % 6 = 1 by omega]
  simp [gdk, gDk, gSu, gJo, gBa, gdi, gli, va_up]) (gcell_dk d 1 rfl (by intro k hk; first | rfl | exact va_up_ne _ _ (by omega)) (by
  intro d2 r2 h4 h5
  rcases (show r2 = 0 ∨ r2 = 1 ∨ r2 = 2 ∨ r2 = 3 ∨ r2 = 4 ∨ r2 = 5 by omega) with rfl | rfl | rfl | rfl | rfl | rfl <;> first | (simp [gdk, gDk, gSu, gJo, gBa, gdi, gli, va_up]; done) | (have h6 : d2 ≠ d := fun e => h5 ⟨e, rfl⟩; simp [gdk, gDk, gSu, gJo, gBa, gdi, gli, va_up, h6])))
theorem gput_Ss2 (hd : d < 10) (v : Int32) : hup (gput a R nd g h0) (aS a d) (.inr (3, (gSu g d).set 2 (.int v))) = gput a R nd (gdi g 2 d v) h0 := gput_upd (5 + 1 + 6 * d) (by omega) (by unfold aS; omega) (by
  show gcell a R nd (gdi g 2 d v) (5 + 1 + 6 * d) = _
  unfold gcell
  rw [if_neg (by omega), if_neg (by omega), if_neg (by omega), if_neg (by omega), if_neg (by omega), show (5 + 1 + 6 * d - 5) / 6 = d by omega, show (5 + 1 + 6 * d - 5) % 6 = 1 by omega]
  simp [gdk, gDk, gSu, gJo, gBa, gdi, gli, va_up]) (gcell_dk d 1 rfl (by intro k hk; first | rfl | exact va_up_ne _ _ (by omega)) (by
  intro d2 r2 h4 h5
  rcases (show r2 = 0 ∨ r2 = 1 ∨ r2 = 2 ∨ r2 = 3 ∨ r2 = 4 ∨ r2 = 5 by omega) with rfl | rfl | rfl | rfl | rfl | rfl <;> first | (simp [gdk, gDk, gSu, gJo, gBa, gdi, gli, va_up]; done) | (have h6 : d2 ≠ d := fun e => h5 ⟨e, rfl⟩; simp [gdk, gDk, gSu, gJo, gBa, gdi, gli, va_up, h6])))
theorem gput_Ss3 (hd : d < 10) (v : Int32) : hup (gput a R nd g h0) (aS a d) (.inr (3, (gSu g d).set 3 (.int v))) = gput a R nd (gdi g 3 d v) h0 := gput_upd (5 + 1 + 6 * d) (by omega) (by unfold aS; omega) (by
  show gcell a R nd (gdi g 3 d v) (5 + 1 + 6 * d) = _
  unfold gcell
  rw [if_neg (by omega), if_neg (by omega), if_neg (by omega), if_neg (by omega), if_neg (by omega), show (5 + 1 + 6 * d - 5) / 6 = d by omega, show (5 + 1 + 6 * d - 5) % 6 = 1 by omega]
  simp [gdk, gDk, gSu, gJo, gBa, gdi, gli, va_up]) (gcell_dk d 1 rfl (by intro k hk; first | rfl | exact va_up_ne _ _ (by omega)) (by
  intro d2 r2 h4 h5
  rcases (show r2 = 0 ∨ r2 = 1 ∨ r2 = 2 ∨ r2 = 3 ∨ r2 = 4 ∨ r2 = 5 by omega) with rfl | rfl | rfl | rfl | rfl | rfl <;> first | (simp [gdk, gDk, gSu, gJo, gBa, gdi, gli, va_up]; done) | (have h6 : d2 ≠ d := fun e => h5 ⟨e, rfl⟩; simp [gdk, gDk, gSu, gJo, gBa, gdi, gli, va_up, h6])))
theorem gput_Js0 (hd : d < 10) (v : Int32) : hup (gput a R nd g h0) (aJ a d) (.inr (2, (gJo g d).set 0 (.int v))) = gput a R nd (gdi g 4 d v) h0 := gput_upd (5 + 2 + 6 * d) (by omega) (by unfold aJ; omega) (by
  show gcell a R nd (gdi g 4 d v) (5 + 2 + 6 * d) = _
  unfold gcell
  rw [if_neg (by omega), if_neg (by omega), if_neg (by omega), if_neg (by omega), if_neg (by omega), show (5 + 2 + 6 * d - 5) / 6 = d by omega, show (5 + 2 + 6 * d - 5) % 6 = 2 by omega]
  simp [gdk, gDk, gSu, gJo, gBa, gdi, gli, va_up]) (gcell_dk d 2 rfl (by intro k hk; first | rfl | exact va_up_ne _ _ (by omega)) (by
  intro d2 r2 h4 h5
  rcases (show r2 = 0 ∨ r2 = 1 ∨ r2 = 2 ∨ r2 = 3 ∨ r2 = 4 ∨ r2 = 5 by omega) with rfl | rfl | rfl | rfl | rfl | rfl <;> first | (simp [gdk, gDk, gSu, gJo, gBa, gdi, gli, va_up]; done) | (have h6 : d2 ≠ d := fun e => h5 ⟨e, rfl⟩; simp [gdk, gDk, gSu, gJo, gBa, gdi, gli, va_up, h6])))
theorem gput_Js1 (hd : d < 10) (v : Int32) : hup (gput a R nd g h0) (aJ a d) (.inr (2, (gJo g d).set 1 (.int v))) = gput a R nd (gdi g 5 d v) h0 := gput_upd (5 + 2 + 6 * d) (by omega) (by unfold aJ; omega) (by
  show gcell a R nd (gdi g 5 d v) (5 + 2 + 6 * d) = _
  unfold gcell
  rw [if_neg (by omega), if_neg (by omega), if_neg (by omega), if_neg (by omega), if_neg (by omega), show (5 + 2 + 6 * d - 5) / 6 = d by omega, show (5 + 2 + 6 * d - 5) % 6 = 2 by omega]
  simp [gdk, gDk, gSu, gJo, gBa, gdi, gli, va_up]) (gcell_dk d 2 rfl (by intro k hk; first | rfl | exact va_up_ne _ _ (by omega)) (by
  intro d2 r2 h4 h5
  rcases (show r2 = 0 ∨ r2 = 1 ∨ r2 = 2 ∨ r2 = 3 ∨ r2 = 4 ∨ r2 = 5 by omega) with rfl | rfl | rfl | rfl | rfl | rfl <;> first | (simp [gdk, gDk, gSu, gJo, gBa, gdi, gli, va_up]; done) | (have h6 : d2 ≠ d := fun e => h5 ⟨e, rfl⟩; simp [gdk, gDk, gSu, gJo, gBa, gdi, gli, va_up, h6])))
theorem gput_Js2 (hd : d < 10) (v : Int32) : hup (gput a R nd g h0) (aJ a d) (.inr (2, (gJo g d).set 2 (.int v))) = gput a R nd (gdi g 6 d v) h0 := gput_upd (5 + 2 + 6 * d) (by omega) (by unfold aJ; omega) (by
  show gcell a R nd (gdi g 6 d v) (5 + 2 + 6 * d) = _
  unfold gcell
  rw [if_neg (by omega), if_neg (by omega), if_neg (by omega), if_neg (by omega), if_neg (by omega), show (5 + 2 + 6 * d - 5) / 6 = d by omega, show (5 + 2 + 6 * d - 5) % 6 = 2 by omega]
  simp [gdk, gDk, gSu, gJo, gBa, gdi, gli, va_up]) (gcell_dk d 2 rfl (by intro k hk; first | rfl | exact va_up_ne _ _ (by omega)) (by
  intro d2 r2 h4 h5
  rcases (show r2 = 0 ∨ r2 = 1 ∨ r2 = 2 ∨ r2 = 3 ∨ r2 = 4 ∨ r2 = 5 by omega) with rfl | rfl | rfl | rfl | rfl | rfl <;> first | (simp [gdk, gDk, gSu, gJo, gBa, gdi, gli, va_up]; done) | (have h6 : d2 ≠ d := fun e => h5 ⟨e, rfl⟩; simp [gdk, gDk, gSu, gJo, gBa, gdi, gli, va_up, h6])))
theorem gput_Js3 (hd : d < 10) (v : Int32) : hup (gput a R nd g h0) (aJ a d) (.inr (2, (gJo g d).set 3 (.int v))) = gput a R nd (gdi g 7 d v) h0 := gput_upd (5 + 2 + 6 * d) (by omega) (by unfold aJ; omega) (by
  show gcell a R nd (gdi g 7 d v) (5 + 2 + 6 * d) = _
  unfold gcell
  rw [if_neg (by omega), if_neg (by omega), if_neg (by omega), if_neg (by omega), if_neg (by omega), show (5 + 2 + 6 * d - 5) / 6 = d by omega, show (5 + 2 + 6 * d - 5) % 6 = 2 by omega]
  simp [gdk, gDk, gSu, gJo, gBa, gdi, gli, va_up]) (gcell_dk d 2 rfl (by intro k hk; first | rfl | exact va_up_ne _ _ (by omega)) (by
  intro d2 r2 h4 h5
  rcases (show r2 = 0 ∨ r2 = 1 ∨ r2 = 2 ∨ r2 = 3 ∨ r2 = 4 ∨ r2 = 5 by omega) with rfl | rfl | rfl | rfl | rfl | rfl <;> first | (simp [gdk, gDk, gSu, gJo, gBa, gdi, gli, va_up]; done) | (have h6 : d2 ≠ d := fun e => h5 ⟨e, rfl⟩; simp [gdk, gDk, gSu, gJo, gBa, gdi, gli, va_up, h6])))
theorem gput_Js4 (hd : d < 10) (v : Int32) : hup (gput a R nd g h0) (aJ a d) (.inr (2, (gJo g d).set 4 (.int v))) = gput a R nd (gdi g 8 d v) h0 := gput_upd (5 + 2 + 6 * d) (by omega) (by unfold aJ; omega) (by
  show gcell a R nd (gdi g 8 d v) (5 + 2 + 6 * d) = _
  unfold gcell
  rw [if_neg (by omega), if_neg (by omega), if_neg (by omega), if_neg (by omega), if_neg (by omega), show (5 + 2 + 6 * d - 5) / 6 = d by omega, show (5 + 2 + 6 * d - 5) % 6 = 2 by omega]
  simp [gdk, gDk, gSu, gJo, gBa, gdi, gli, va_up]) (gcell_dk d 2 rfl (by intro k hk; first | rfl | exact va_up_ne _ _ (by omega)) (by
  intro d2 r2 h4 h5
  rcases (show r2 = 0 ∨ r2 = 1 ∨ r2 = 2 ∨ r2 = 3 ∨ r2 = 4 ∨ r2 = 5 by omega) with rfl | rfl | rfl | rfl | rfl | rfl <;> first | (simp [gdk, gDk, gSu, gJo, gBa, gdi, gli, va_up]; done) | (have h6 : d2 ≠ d := fun e => h5 ⟨e, rfl⟩; simp [gdk, gDk, gSu, gJo, gBa, gdi, gli, va_up, h6])))
theorem gput_Jl0 (hd : d < 10) (v : Int64) : hup (gput a R nd g h0) (aJ a d) (.inr (2, (gJo g d).set 5 (.long v))) = gput a R nd (gli g 2 d 0 v) h0 := gput_upd (5 + 2 + 6 * d) (by omega) (by unfold aJ; omega) (by
  show gcell a R nd (gli g 2 d 0 v) (5 + 2 + 6 * d) = _
  unfold gcell
  rw [if_neg (by omega), if_neg (by omega), if_neg (by omega), if_neg (by omega), if_neg (by omega), show (5 + 2 + 6 * d - 5) / 6 = d by omega, show (5 + 2 + 6 * d - 5) % 6 = 2 by omega]
  simp [gdk, gDk, gSu, gJo, gBa, gdi, gli, va_up]) (gcell_dk d 2 rfl (by intro k hk; first | rfl | exact va_up_ne _ _ (by omega)) (by
  intro d2 r2 h4 h5
  rcases (show r2 = 0 ∨ r2 = 1 ∨ r2 = 2 ∨ r2 = 3 ∨ r2 = 4 ∨ r2 = 5 by omega) with rfl | rfl | rfl | rfl | rfl | rfl <;> first | (simp [gdk, gDk, gSu, gJo, gBa, gdi, gli, va_up]; done) | (have h6 : d2 ≠ d := fun e => h5 ⟨e, rfl⟩; simp [gdk, gDk, gSu, gJo, gBa, gdi, gli, va_up, h6])))
theorem gput_Jl1 (hd : d < 10) (v : Int64) : hup (gput a R nd g h0) (aJ a d) (.inr (2, (gJo g d).set 6 (.long v))) = gput a R nd (gli g 2 d 1 v) h0 := gput_upd (5 + 2 + 6 * d) (by omega) (by unfold aJ; omega) (by
  show gcell a R nd (gli g 2 d 1 v) (5 + 2 + 6 * d) = _
  unfold gcell
  rw [if_neg (by omega), if_neg (by omega), if_neg (by omega), if_neg (by omega), if_neg (by omega), show (5 + 2 + 6 * d - 5) / 6 = d by omega, show (5 + 2 + 6 * d - 5) % 6 = 2 by omega]
  simp [gdk, gDk, gSu, gJo, gBa, gdi, gli, va_up]) (gcell_dk d 2 rfl (by intro k hk; first | rfl | exact va_up_ne _ _ (by omega)) (by
  intro d2 r2 h4 h5
  rcases (show r2 = 0 ∨ r2 = 1 ∨ r2 = 2 ∨ r2 = 3 ∨ r2 = 4 ∨ r2 = 5 by omega) with rfl | rfl | rfl | rfl | rfl | rfl <;> first | (simp [gdk, gDk, gSu, gJo, gBa, gdi, gli, va_up]; done) | (have h6 : d2 ≠ d := fun e => h5 ⟨e, rfl⟩; simp [gdk, gDk, gSu, gJo, gBa, gdi, gli, va_up, h6])))
theorem gput_Bs (hd : d < 10) (v : Int32) : hup (gput a R nd g h0) (aB a d) (.inr (0, (gBa a g d).set 0 (.int v))) = gput a R nd (gdi g 9 d v) h0 := gput_upd (5 + 3 + 6 * d) (by omega) (by unfold aB; omega) (by
  show gcell a R nd (gdi g 9 d v) (5 + 3 + 6 * d) = _
  unfold gcell
  rw [if_neg (by omega), if_neg (by omega), if_neg (by omega), if_neg (by omega), if_neg (by omega), show (5 + 3 + 6 * d - 5) / 6 = d by omega, show (5 + 3 + 6 * d - 5) % 6 = 3 by omega]
  simp [gdk, gDk, gSu, gJo, gBa, gdi, gli, va_up]) (gcell_dk d 3 rfl (by intro k hk; first | rfl | exact va_up_ne _ _ (by omega)) (by
  intro d2 r2 h4 h5
  rcases (show r2 = 0 ∨ r2 = 1 ∨ r2 = 2 ∨ r2 = 3 ∨ r2 = 4 ∨ r2 = 5 by omega) with rfl | rfl | rfl | rfl | rfl | rfl <;> first | (simp [gdk, gDk, gSu, gJo, gBa, gdi, gli, va_up]; done) | (have h6 : d2 ≠ d := fun e => h5 ⟨e, rfl⟩; simp [gdk, gDk, gSu, gJo, gBa, gdi, gli, va_up, h6])))
theorem gput_Ds0 (hd : d < 10) (v : Int32) : hup (gput a R nd g h0) (aD a d) (.inr (1, (gDk a g d).set 4 (.int v))) = gput a R nd (gdi g 10 d v) h0 := gput_upd (5 + 0 + 6 * d) (by omega) (by unfold aD; omega) (by
  show gcell a R nd (gdi g 10 d v) (5 + 0 + 6 * d) = _
  unfold gcell
  rw [if_neg (by omega), if_neg (by omega), if_neg (by omega), if_neg (by omega), if_neg (by omega), show (5 + 0 + 6 * d - 5) / 6 = d by omega, show (5 + 0 + 6 * d - 5) % 6 = 0 by omega]
  simp [gdk, gDk, gSu, gJo, gBa, gdi, gli, va_up]) (gcell_dk d 0 rfl (by intro k hk; first | rfl | exact va_up_ne _ _ (by omega)) (by
  intro d2 r2 h4 h5
  rcases (show r2 = 0 ∨ r2 = 1 ∨ r2 = 2 ∨ r2 = 3 ∨ r2 = 4 ∨ r2 = 5 by omega) with rfl | rfl | rfl | rfl | rfl | rfl <;> first | (simp [gdk, gDk, gSu, gJo, gBa, gdi, gli, va_up]; done) | (have h6 : d2 ≠ d := fun e => h5 ⟨e, rfl⟩; simp [gdk, gDk, gSu, gJo, gBa, gdi, gli, va_up, h6])))
theorem gput_Ds1 (hd : d < 10) (v : Int32) : hup (gput a R nd g h0) (aD a d) (.inr (1, (gDk a g d).set 5 (.int v))) = gput a R nd (gdi g 11 d v) h0 := gput_upd (5 + 0 + 6 * d) (by omega) (by unfold aD; omega) (by
  show gcell a R nd (gdi g 11 d v) (5 + 0 + 6 * d) = _
  unfold gcell
  rw [if_neg (by omega), if_neg (by omega), if_neg (by omega), if_neg (by omega), if_neg (by omega), show (5 + 0 + 6 * d - 5) / 6 = d by omega, show (5 + 0 + 6 * d - 5) % 6 = 0 by omega]
  simp [gdk, gDk, gSu, gJo, gBa, gdi, gli, va_up]) (gcell_dk d 0 rfl (by intro k hk; first | rfl | exact va_up_ne _ _ (by omega)) (by
  intro d2 r2 h4 h5
  rcases (show r2 = 0 ∨ r2 = 1 ∨ r2 = 2 ∨ r2 = 3 ∨ r2 = 4 ∨ r2 = 5 by omega) with rfl | rfl | rfl | rfl | rfl | rfl <;> first | (simp [gdk, gDk, gSu, gJo, gBa, gdi, gli, va_up]; done) | (have h6 : d2 ≠ d := fun e => h5 ⟨e, rfl⟩; simp [gdk, gDk, gSu, gJo, gBa, gdi, gli, va_up, h6])))
theorem gput_aV_ (hd : d < 10) (i : Nat) (x : Int64) : hup (gput a R nd g h0) (aV a d) (.inl (1, 10, fup (fun i => .long (g.2.2 3 d i)) i (.long x))) = gput a R nd (gli g 3 d i x) h0 := gput_upd (5 + 4 + 6 * d) (by omega) (by unfold aV; omega) (by
  show gcell a R nd (gli g 3 d i x) (5 + 4 + 6 * d) = _
  unfold gcell
  rw [if_neg (by omega), if_neg (by omega), if_neg (by omega), if_neg (by omega), if_neg (by omega), show (5 + 4 + 6 * d - 5) / 6 = d by omega, show (5 + 4 + 6 * d - 5) % 6 = 4 by omega]
  show (Sum.inl (1, 10, _) : hC) = _
  congr 3
  funext i2
  by_cases hj : i2 = i <;> simp [fup, gli, va_up, hj]) (gcell_dk d 4 rfl (by intro k hk; first | rfl | exact va_up_ne _ _ (by omega)) (by
  intro d2 r2 h4 h5
  rcases (show r2 = 0 ∨ r2 = 1 ∨ r2 = 2 ∨ r2 = 3 ∨ r2 = 4 ∨ r2 = 5 by omega) with rfl | rfl | rfl | rfl | rfl | rfl <;> first | (simp [gdk, gDk, gSu, gJo, gBa, gdi, gli, va_up]; done) | (have h6 : d2 ≠ d := fun e => h5 ⟨e, rfl⟩; simp [gdk, gDk, gSu, gJo, gBa, gdi, gli, va_up, h6])))
theorem gput_aK_ (hd : d < 10) (i : Nat) (x : Int64) : hup (gput a R nd g h0) (aK a d) (.inl (1, R, fup (fun i => .long (g.2.2 4 d i)) i (.long x))) = gput a R nd (gli g 4 d i x) h0 := gput_upd (5 + 5 + 6 * d) (by omega) (by unfold aK; omega) (by
  show gcell a R nd (gli g 4 d i x) (5 + 5 + 6 * d) = _
  unfold gcell
  rw [if_neg (by omega), if_neg (by omega), if_neg (by omega), if_neg (by omega), if_neg (by omega), show (5 + 5 + 6 * d - 5) / 6 = d by omega, show (5 + 5 + 6 * d - 5) % 6 = 5 by omega]
  show (Sum.inl (1, R, _) : hC) = _
  congr 3
  funext i2
  by_cases hj : i2 = i <;> simp [fup, gli, va_up, hj]) (gcell_dk d 5 rfl (by intro k hk; first | rfl | exact va_up_ne _ _ (by omega)) (by
  intro d2 r2 h4 h5
  rcases (show r2 = 0 ∨ r2 = 1 ∨ r2 = 2 ∨ r2 = 3 ∨ r2 = 4 ∨ r2 = 5 by omega) with rfl | rfl | rfl | rfl | rfl | rfl <;> first | (simp [gdk, gDk, gSu, gJo, gBa, gdi, gli, va_up]; done) | (have h6 : d2 ≠ d := fun e => h5 ⟨e, rfl⟩; simp [gdk, gDk, gSu, gJo, gBa, gdi, gli, va_up, h6])))
end GPUT
theorem glfi {a R nd n : Nat} {h0 : hH} {F : Int32 × GS} {r : Int32} {T : GS} (e : F = (r, T)) : cE (some (.int F.1)) (gput a R nd F.2 h0) n (some (.int r)) (gput a R nd T h0) n := by subst e; exact ⟨rfl, rfl, rfl⟩
theorem glfl {a R nd n : Nat} {h0 : hH} {F : Int64 × GS} {r : Int64} {T : GS} (e : F = (r, T)) : cE (some (.long F.1)) (gput a R nd F.2 h0) n (some (.long r)) (gput a R nd T h0) n := by subst e; exact ⟨rfl, rfl, rfl⟩
theorem glfv {a R nd n : Nat} {h0 : hH} {F T : GS} (e : F = T) : cE none (gput a R nd F h0) n none (gput a R nd T h0) n := by subst e; exact ⟨rfl, rfl, rfl⟩
theorem glfip {a R nd n : Nat} {h0 : hH} {g : GS} {F r : Int32} (e : F = r) : cE (some (.int F)) (gput a R nd g h0) n (some (.int r)) (gput a R nd g h0) n := by subst e; exact ⟨rfl, rfl, rfl⟩
theorem glflp {a R nd n : Nat} {h0 : hH} {g : GS} {F r : Int64} (e : F = r) : cE (some (.long F)) (gput a R nd g h0) n (some (.long r)) (gput a R nd g h0) n := by subst e; exact ⟨rfl, rfl, rfl⟩
theorem glfn {a R n : Nat} {h0 : hH} {F : Int32 × Nat × GS} {r : Int32} {d : Nat} {T : GS} (e : F = (r, d, T)) : cE (some (.int F.1)) (gput a R F.2.1 F.2.2 h0) n (some (.int r)) (gput a R d T h0) n := by subst e; exact ⟨rfl, rfl, rfl⟩
