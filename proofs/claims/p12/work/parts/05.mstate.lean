/-! ===== THE REFERENCE: its state and its cells: the object at b, twelve arrays behind it ===== -/
/-- numbers; per disk: state, writes, superSequence, superN, superM, superFront, journalCount, journalSequence, journalPlace, backup; longs: journalValue, values -/
abbrev MS : Type := (Nat → Int32) × (Nat → Nat → Int32) × (Nat → Nat → Int64)
def si (t : MS) (k : Nat) (v : Int32) : MS := (va_up t.1 k v, t.2)
def ti (t : MS) (k i : Nat) (v : Int32) : MS := (t.1, va_up t.2.1 k (va_up (t.2.1 k) i v), t.2.2)
def tl (t : MS) (k i : Nat) (v : Int64) : MS := (t.1, t.2.1, va_up t.2.2 k (va_up (t.2.2 k) i v))
def mF (b R nd : Nat) (t : MS) : List Value := [.int (t.1 0), .int (nI R), .int (nI nd), .ref (b + 1), .ref (b + 2), .ref (b + 3), .ref (b + 4), .ref (b + 5), .ref (b + 6), .ref (b + 7), .ref (b + 8), .ref (b + 9), .ref (b + 10), .ref (b + 11), .int (t.1 1), .int (t.1 2), .int (t.1 3), .int (t.1 4), .int (t.1 5), .int (t.1 6), .int (t.1 7), .int (t.1 8), .int (t.1 9), .int (t.1 10), .int (t.1 11), .ref (b + 12)]
def mput (b R nd : Nat) (t : MS) (h0 : hH) : hH := fun q => if q = b then some (.inr (5, mF b R nd t)) else if b < q ∧ q < b + 11 then some (.inl (0, 10, fun j => .int (t.2.1 (q - b - 1) j))) else if q = b + 11 then some (.inl (1, 10, fun j => .long (t.2.2 0 j))) else if q = b + 12 then some (.inl (1, 432, fun j => .long (t.2.2 1 j))) else h0 q
section MPUT
variable {b R nd : Nat} {t : MS} {h0 : hH}
theorem mput_o : mput b R nd t h0 b = some (.inr (5, mF b R nd t)) := by simp [mput]
theorem mput_1 : mput b R nd t h0 (b + 1) = some (.inl (0, 10, fun j => .int (t.2.1 0 j))) := by simp [mput]
theorem mput_2 : mput b R nd t h0 (b + 2) = some (.inl (0, 10, fun j => .int (t.2.1 1 j))) := by simp [mput]
theorem mput_3 : mput b R nd t h0 (b + 3) = some (.inl (0, 10, fun j => .int (t.2.1 2 j))) := by simp [mput]
theorem mput_4 : mput b R nd t h0 (b + 4) = some (.inl (0, 10, fun j => .int (t.2.1 3 j))) := by simp [mput]
theorem mput_5 : mput b R nd t h0 (b + 5) = some (.inl (0, 10, fun j => .int (t.2.1 4 j))) := by simp [mput]
theorem mput_6 : mput b R nd t h0 (b + 6) = some (.inl (0, 10, fun j => .int (t.2.1 5 j))) := by simp [mput]
theorem mput_7 : mput b R nd t h0 (b + 7) = some (.inl (0, 10, fun j => .int (t.2.1 6 j))) := by simp [mput]
theorem mput_8 : mput b R nd t h0 (b + 8) = some (.inl (0, 10, fun j => .int (t.2.1 7 j))) := by simp [mput]
theorem mput_9 : mput b R nd t h0 (b + 9) = some (.inl (0, 10, fun j => .int (t.2.1 8 j))) := by simp [mput]
theorem mput_10 : mput b R nd t h0 (b + 10) = some (.inl (0, 10, fun j => .int (t.2.1 9 j))) := by simp [mput]
theorem mput_11 : mput b R nd t h0 (b + 11) = some (.inl (1, 10, fun j => .long (t.2.2 0 j))) := by simp [mput]
theorem mput_12 : mput b R nd t h0 (b + 12) = some (.inl (1, 432, fun j => .long (t.2.2 1 j))) := by simp [mput]
theorem mput_out {q : Nat} (hq : q < b ∨ b + 12 < q) : mput b R nd t h0 q = h0 q := by
  unfold mput
  rw [if_neg (by omega), if_neg (by omega), if_neg (by omega), if_neg (by omega)]
theorem mput_s0 (v : Int32) : hup (mput b R nd t h0) b (.inr (5, (mF b R nd t).set 0 (.int v))) = mput b R nd (si t 0 v) h0 := by
  funext q
  by_cases hq : q = b
  · subst hq; simp [hup, mput, mF, si, va_up]
  · simp [hup, mput, hq, si]
theorem mput_s1 (v : Int32) : hup (mput b R nd t h0) b (.inr (5, (mF b R nd t).set 14 (.int v))) = mput b R nd (si t 1 v) h0 := by
  funext q
  by_cases hq : q = b
  · subst hq; simp [hup, mput, mF, si, va_up]
  · simp [hup, mput, hq, si]
theorem mput_s2 (v : Int32) : hup (mput b R nd t h0) b (.inr (5, (mF b R nd t).set 15 (.int v))) = mput b R nd (si t 2 v) h0 := by
  funext q
  by_cases hq : q = b
  · subst hq; simp [hup, mput, mF, si, va_up]
  · simp [hup, mput, hq, si]
theorem mput_s3 (v : Int32) : hup (mput b R nd t h0) b (.inr (5, (mF b R nd t).set 16 (.int v))) = mput b R nd (si t 3 v) h0 := by
  funext q
  by_cases hq : q = b
  · subst hq; simp [hup, mput, mF, si, va_up]
  · simp [hup, mput, hq, si]
theorem mput_s4 (v : Int32) : hup (mput b R nd t h0) b (.inr (5, (mF b R nd t).set 17 (.int v))) = mput b R nd (si t 4 v) h0 := by
  funext q
  by_cases hq : q = b
  · subst hq; simp [hup, mput, mF, si, va_up]
  · simp [hup, mput, hq, si]
theorem mput_s5 (v : Int32) : hup (mput b R nd t h0) b (.inr (5, (mF b R nd t).set 18 (.int v))) = mput b R nd (si t 5 v) h0 := by
  funext q
  by_cases hq : q = b
  · subst hq; simp [hup, mput, mF, si, va_up]
  · simp [hup, mput, hq, si]
theorem mput_s6 (v : Int32) : hup (mput b R nd t h0) b (.inr (5, (mF b R nd t).set 19 (.int v))) = mput b R nd (si t 6 v) h0 := by
  funext q
  by_cases hq : q = b
  · subst hq; simp [hup, mput, mF, si, va_up]
  · simp [hup, mput, hq, si]
theorem mput_s7 (v : Int32) : hup (mput b R nd t h0) b (.inr (5, (mF b R nd t).set 20 (.int v))) = mput b R nd (si t 7 v) h0 := by
  funext q
  by_cases hq : q = b
  · subst hq; simp [hup, mput, mF, si, va_up]
  · simp [hup, mput, hq, si]
theorem mput_s8 (v : Int32) : hup (mput b R nd t h0) b (.inr (5, (mF b R nd t).set 21 (.int v))) = mput b R nd (si t 8 v) h0 := by
  funext q
  by_cases hq : q = b
  · subst hq; simp [hup, mput, mF, si, va_up]
  · simp [hup, mput, hq, si]
theorem mput_s9 (v : Int32) : hup (mput b R nd t h0) b (.inr (5, (mF b R nd t).set 22 (.int v))) = mput b R nd (si t 9 v) h0 := by
  funext q
  by_cases hq : q = b
  · subst hq; simp [hup, mput, mF, si, va_up]
  · simp [hup, mput, hq, si]
theorem mput_s10 (v : Int32) : hup (mput b R nd t h0) b (.inr (5, (mF b R nd t).set 23 (.int v))) = mput b R nd (si t 10 v) h0 := by
  funext q
  by_cases hq : q = b
  · subst hq; simp [hup, mput, mF, si, va_up]
  · simp [hup, mput, hq, si]
theorem mput_s11 (v : Int32) : hup (mput b R nd t h0) b (.inr (5, (mF b R nd t).set 24 (.int v))) = mput b R nd (si t 11 v) h0 := by
  funext q
  by_cases hq : q = b
  · subst hq; simp [hup, mput, mF, si, va_up]
  · simp [hup, mput, hq, si]
theorem mput_nd : hup (mput b R nd t h0) b (.inr (5, (mF b R nd t).set 2 (.int (nI nd + 1)))) = mput b R (nd + 1) t h0 := by
  funext q
  by_cases hq : q = b
  · subst hq; simp [hup, mput, mF, nI_1]
  · simp [hup, mput, hq]
theorem mput_a1 (i : Nat) (x : Int32) : hup (mput b R nd t h0) (b + 1) (.inl (0, 10, fup (fun j => .int (t.2.1 0 j)) i (.int x))) = mput b R nd (ti t 0 i x) h0 := by
  funext q
  by_cases hq : q = b + 1
  · subst hq
    simp only [hup_self, mput_1, Option.some.injEq, Sum.inl.injEq, Prod.mk.injEq, true_and]
    funext j
    by_cases hj : j = i <;> simp [fup, ti, va_up, hj]
  · rw [hup_ne _ _ hq]
    unfold mput
    by_cases h1 : q = b
    · simp [h1, mF, ti]
    · by_cases h2 : b < q ∧ q < b + 11
      · have h3 : q - b - 1 ≠ 0 := by omega
        simp [h1, h2, ti, va_up, h3]
      · simp [h1, h2, ti]
theorem mput_a2 (i : Nat) (x : Int32) : hup (mput b R nd t h0) (b + 2) (.inl (0, 10, fup (fun j => .int (t.2.1 1 j)) i (.int x))) = mput b R nd (ti t 1 i x) h0 := by
  funext q
  by_cases hq : q = b + 2
  · subst hq
    simp only [hup_self, mput_2, Option.some.injEq, Sum.inl.injEq, Prod.mk.injEq, true_and]
    funext j
    by_cases hj : j = i <;> simp [fup, ti, va_up, hj]
  · rw [hup_ne _ _ hq]
    unfold mput
    by_cases h1 : q = b
    · simp [h1, mF, ti]
    · by_cases h2 : b < q ∧ q < b + 11
      · have h3 : q - b - 1 ≠ 1 := by omega
        simp [h1, h2, ti, va_up, h3]
      · simp [h1, h2, ti]
theorem mput_a3 (i : Nat) (x : Int32) : hup (mput b R nd t h0) (b + 3) (.inl (0, 10, fup (fun j => .int (t.2.1 2 j)) i (.int x))) = mput b R nd (ti t 2 i x) h0 := by
  funext q
  by_cases hq : q = b + 3
  · subst hq
    simp only [hup_self, mput_3, Option.some.injEq, Sum.inl.injEq, Prod.mk.injEq, true_and]
    funext j
    by_cases hj : j = i <;> simp [fup, ti, va_up, hj]
  · rw [hup_ne _ _ hq]
    unfold mput
    by_cases h1 : q = b
    · simp [h1, mF, ti]
    · by_cases h2 : b < q ∧ q < b + 11
      · have h3 : q - b - 1 ≠ 2 := by omega
        simp [h1, h2, ti, va_up, h3]
      · simp [h1, h2, ti]
theorem mput_a4 (i : Nat) (x : Int32) : hup (mput b R nd t h0) (b + 4) (.inl (0, 10, fup (fun j => .int (t.2.1 3 j)) i (.int x))) = mput b R nd (ti t 3 i x) h0 := by
  funext q
  by_cases hq : q = b + 4
  · subst hq
    simp only [hup_self, mput_4, Option.some.injEq, Sum.inl.injEq, Prod.mk.injEq, true_and]
    funext j
    by_cases hj : j = i <;> simp [fup, ti, va_up, hj]
  · rw [hup_ne _ _ hq]
    unfold mput
    by_cases h1 : q = b
    · simp [h1, mF, ti]
    · by_cases h2 : b < q ∧ q < b + 11
      · have h3 : q - b - 1 ≠ 3 := by omega
        simp [h1, h2, ti, va_up, h3]
      · simp [h1, h2, ti]
theorem mput_a5 (i : Nat) (x : Int32) : hup (mput b R nd t h0) (b + 5) (.inl (0, 10, fup (fun j => .int (t.2.1 4 j)) i (.int x))) = mput b R nd (ti t 4 i x) h0 := by
  funext q
  by_cases hq : q = b + 5
  · subst hq
    simp only [hup_self, mput_5, Option.some.injEq, Sum.inl.injEq, Prod.mk.injEq, true_and]
    funext j
    by_cases hj : j = i <;> simp [fup, ti, va_up, hj]
  · rw [hup_ne _ _ hq]
    unfold mput
    by_cases h1 : q = b
    · simp [h1, mF, ti]
    · by_cases h2 : b < q ∧ q < b + 11
      · have h3 : q - b - 1 ≠ 4 := by omega
        simp [h1, h2, ti, va_up, h3]
      · simp [h1, h2, ti]
theorem mput_a6 (i : Nat) (x : Int32) : hup (mput b R nd t h0) (b + 6) (.inl (0, 10, fup (fun j => .int (t.2.1 5 j)) i (.int x))) = mput b R nd (ti t 5 i x) h0 := by
  funext q
  by_cases hq : q = b + 6
  · subst hq
    simp only [hup_self, mput_6, Option.some.injEq, Sum.inl.injEq, Prod.mk.injEq, true_and]
    funext j
    by_cases hj : j = i <;> simp [fup, ti, va_up, hj]
  · rw [hup_ne _ _ hq]
    unfold mput
    by_cases h1 : q = b
    · simp [h1, mF, ti]
    · by_cases h2 : b < q ∧ q < b + 11
      · have h3 : q - b - 1 ≠ 5 := by omega
        simp [h1, h2, ti, va_up, h3]
      · simp [h1, h2, ti]
theorem mput_a7 (i : Nat) (x : Int32) : hup (mput b R nd t h0) (b + 7) (.inl (0, 10, fup (fun j => .int (t.2.1 6 j)) i (.int x))) = mput b R nd (ti t 6 i x) h0 := by
  funext q
  by_cases hq : q = b + 7
  · subst hq
    simp only [hup_self, mput_7, Option.some.injEq, Sum.inl.injEq, Prod.mk.injEq, true_and]
    funext j
    by_cases hj : j = i <;> simp [fup, ti, va_up, hj]
  · rw [hup_ne _ _ hq]
    unfold mput
    by_cases h1 : q = b
    · simp [h1, mF, ti]
    · by_cases h2 : b < q ∧ q < b + 11
      · have h3 : q - b - 1 ≠ 6 := by omega
        simp [h1, h2, ti, va_up, h3]
      · simp [h1, h2, ti]
theorem mput_a8 (i : Nat) (x : Int32) : hup (mput b R nd t h0) (b + 8) (.inl (0, 10, fup (fun j => .int (t.2.1 7 j)) i (.int x))) = mput b R nd (ti t 7 i x) h0 := by
  funext q
  by_cases hq : q = b + 8
  · subst hq
    simp only [hup_self, mput_8, Option.some.injEq, Sum.inl.injEq, Prod.mk.injEq, true_and]
    funext j
    by_cases hj : j = i <;> simp [fup, ti, va_up, hj]
  · rw [hup_ne _ _ hq]
    unfold mput
    by_cases h1 : q = b
    · simp [h1, mF, ti]
    · by_cases h2 : b < q ∧ q < b + 11
      · have h3 : q - b - 1 ≠ 7 := by omega
        simp [h1, h2, ti, va_up, h3]
      · simp [h1, h2, ti]
theorem mput_a9 (i : Nat) (x : Int32) : hup (mput b R nd t h0) (b + 9) (.inl (0, 10, fup (fun j => .int (t.2.1 8 j)) i (.int x))) = mput b R nd (ti t 8 i x) h0 := by
  funext q
  by_cases hq : q = b + 9
  · subst hq
    simp only [hup_self, mput_9, Option.some.injEq, Sum.inl.injEq, Prod.mk.injEq, true_and]
    funext j
    by_cases hj : j = i <;> simp [fup, ti, va_up, hj]
  · rw [hup_ne _ _ hq]
    unfold mput
    by_cases h1 : q = b
    · simp [h1, mF, ti]
    · by_cases h2 : b < q ∧ q < b + 11
      · have h3 : q - b - 1 ≠ 8 := by omega
        simp [h1, h2, ti, va_up, h3]
      · simp [h1, h2, ti]
theorem mput_a10 (i : Nat) (x : Int32) : hup (mput b R nd t h0) (b + 10) (.inl (0, 10, fup (fun j => .int (t.2.1 9 j)) i (.int x))) = mput b R nd (ti t 9 i x) h0 := by
  funext q
  by_cases hq : q = b + 10
  · subst hq
    simp only [hup_self, mput_10, Option.some.injEq, Sum.inl.injEq, Prod.mk.injEq, true_and]
    funext j
    by_cases hj : j = i <;> simp [fup, ti, va_up, hj]
  · rw [hup_ne _ _ hq]
    unfold mput
    by_cases h1 : q = b
    · simp [h1, mF, ti]
    · by_cases h2 : b < q ∧ q < b + 11
      · have h3 : q - b - 1 ≠ 9 := by omega
        simp [h1, h2, ti, va_up, h3]
      · simp [h1, h2, ti]
theorem mput_a11 (i : Nat) (x : Int64) : hup (mput b R nd t h0) (b + 11) (.inl (1, 10, fup (fun j => .long (t.2.2 0 j)) i (.long x))) = mput b R nd (tl t 0 i x) h0 := by
  funext q
  by_cases hq : q = b + 11
  · subst hq
    simp only [hup_self, mput_11, Option.some.injEq, Sum.inl.injEq, Prod.mk.injEq, true_and]
    funext j
    by_cases hj : j = i <;> simp [fup, tl, va_up, hj]
  · rw [hup_ne _ _ hq]
    unfold mput
    by_cases h1 : q = b
    · simp [h1, mF, tl]
    · by_cases h2 : b < q ∧ q < b + 11
      · simp [h1, h2, tl]
      · by_cases h4 : q = b + 12 <;> simp [h1, h2, hq, h4, tl, va_up]
theorem mput_a12 (i : Nat) (x : Int64) : hup (mput b R nd t h0) (b + 12) (.inl (1, 432, fup (fun j => .long (t.2.2 1 j)) i (.long x))) = mput b R nd (tl t 1 i x) h0 := by
  funext q
  by_cases hq : q = b + 12
  · subst hq
    simp only [hup_self, mput_12, Option.some.injEq, Sum.inl.injEq, Prod.mk.injEq, true_and]
    funext j
    by_cases hj : j = i <;> simp [fup, tl, va_up, hj]
  · rw [hup_ne _ _ hq]
    unfold mput
    by_cases h1 : q = b
    · simp [h1, mF, tl]
    · by_cases h2 : b < q ∧ q < b + 11
      · simp [h1, h2, tl]
      · by_cases h4 : q = b + 11 <;> simp [h1, h2, hq, h4, tl, va_up]
end MPUT
theorem nd_lt {k nd : Nat} (h : ¬ nI nd ≤ nI k) (hk : k < 2 ^ 31) : k < nd := Nat.lt_of_not_le fun q => h (nI_le q hk)
/-- a contract's end that says all: the answer, the heap, no cell made -/
def cE (v : Option Value) (h : hH) (n : Nat) : Option Value → hH → Nat → Prop := fun v9 h9 n9 => v = v9 ∧ h = h9 ∧ n = n9
theorem lfi {b R nd n : Nat} {h0 : hH} {F : Int32 × MS} {r : Int32} {T : MS} (e : F = (r, T)) : cE (some (.int F.1)) (mput b R nd F.2 h0) n (some (.int r)) (mput b R nd T h0) n := by subst e; exact ⟨rfl, rfl, rfl⟩
theorem lfl {b R nd n : Nat} {h0 : hH} {F : Int64 × MS} {r : Int64} {T : MS} (e : F = (r, T)) : cE (some (.long F.1)) (mput b R nd F.2 h0) n (some (.long r)) (mput b R nd T h0) n := by subst e; exact ⟨rfl, rfl, rfl⟩
theorem lfv {b R nd n : Nat} {h0 : hH} {F T : MS} (e : F = T) : cE none (mput b R nd F h0) n none (mput b R nd T h0) n := by subst e; exact ⟨rfl, rfl, rfl⟩
theorem lfn {b R n : Nat} {h0 : hH} {F : Int32 × Nat × MS} {r : Int32} {d : Nat} {T : MS} (e : F = (r, d, T)) : cE (some (.int F.1)) (mput b R F.2.1 F.2.2 h0) n (some (.int r)) (mput b R d T h0) n := by subst e; exact ⟨rfl, rfl, rfl⟩
theorem lfip {b R nd n : Nat} {t : MS} {h0 : hH} {F r : Int32} (e : F = r) : cE (some (.int F)) (mput b R nd t h0) n (some (.int r)) (mput b R nd t h0) n := by subst e; exact ⟨rfl, rfl, rfl⟩
theorem lflp {b R nd n : Nat} {t : MS} {h0 : hH} {F r : Int64} (e : F = r) : cE (some (.long F)) (mput b R nd t h0) n (some (.long r)) (mput b R nd t h0) n := by subst e; exact ⟨rfl, rfl, rfl⟩
theorem nb {x : Int32} (h : x = 0 ∨ x = 1) : narrow .boolean (.int x) = .int x := by rcases h with rfl | rfl <;> rfl
theorem fb {x : Int32} (h : x = 0 ∨ x = 1) : fits .boolean (.int x) = true := by rcases h with rfl | rfl <;> rfl
