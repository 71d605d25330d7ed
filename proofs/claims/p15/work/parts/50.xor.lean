/-! ===== THE BLOCKS: exclusive or over the disks of a row; the geometry's places ===== -/
def xr (f : Nat → Int64) : Nat → Int64
  | 0 => 0
  | n + 1 => xr f n ^^^ f n
/-- all but disk o -/
def xl (f : Nat → Int64) (o : Nat) : Nat → Int64
  | 0 => 0
  | n + 1 => if n = o then xl f o n else xl f o n ^^^ f n
/-- all but disks o and p -/
def xp (f : Nat → Int64) (o p : Nat) : Nat → Int64
  | 0 => 0
  | n + 1 => if n = o then xp f o p n else if n = p then xp f o p n else xp f o p n ^^^ f n
theorem x_swap (a b c : Int64) : (a ^^^ b) ^^^ c = (a ^^^ c) ^^^ b := by rw [Int64.xor_assoc, Int64.xor_comm b c, ← Int64.xor_assoc]
theorem x_cancel (a b : Int64) : (a ^^^ b) ^^^ b = a := by rw [Int64.xor_assoc, Int64.xor_self, Int64.xor_zero]
theorem x_eq {a b : Int64} (h : a ^^^ b = 0) : a = b := by
  have := congrArg (fun z => z ^^^ b) h
  simp only [x_cancel, Int64.zero_xor] at this
  exact this
theorem xr_congr {f g : Nat → Int64} : ∀ n, (∀ d, d < n → f d = g d) → xr f n = xr g n
  | 0, _ => rfl
  | n + 1, h => by rw [xr, xr, xr_congr n (fun d hd => h d (by omega)), h n (by omega)]
theorem xl_congr {f g : Nat → Int64} {o : Nat} : ∀ n, (∀ d, d < n → ¬ d = o → f d = g d) → xl f o n = xl g o n
  | 0, _ => rfl
  | n + 1, h => by
    rw [xl, xl, xl_congr n (fun d hd => h d (by omega))]
    split
    · rfl
    · rename_i c
      rw [h n (by omega) c]
theorem xp_congr {f g : Nat → Int64} {o p : Nat} : ∀ n, (∀ d, d < n → ¬ d = o → ¬ d = p → f d = g d) → xp f o p n = xp g o p n
  | 0, _ => rfl
  | n + 1, h => by
    rw [xp, xp, xp_congr n (fun d hd => h d (by omega))]
    split
    · rfl
    · rename_i c
      split
      · rfl
      · rename_i c2
        rw [h n (by omega) c c2]
theorem xl_out {f : Nat → Int64} {o : Nat} : ∀ n, n ≤ o → xl f o n = xr f n
  | 0, _ => rfl
  | n + 1, h => by rw [xl, xr, if_neg (by omega), xl_out n (by omega)]
theorem xl_in {f : Nat → Int64} {o : Nat} : ∀ n, o < n → xl f o n ^^^ f o = xr f n
  | 0, h => by omega
  | n + 1, h => by
    rw [xl, xr]
    by_cases c : n = o
    · rw [if_pos c, xl_out n (by omega), c]
    · rw [if_neg c, x_swap, xl_in n (by omega)]
theorem xp_out {f : Nat → Int64} {o p : Nat} : ∀ n, n ≤ p → xp f o p n = xl f o n
  | 0, _ => rfl
  | n + 1, h => by rw [xp, xl, xp_out n (by omega), if_neg (show ¬ n = p by omega)]
theorem xp_in {f : Nat → Int64} {o p : Nat} (hop : ¬ p = o) : ∀ n, p < n → xp f o p n ^^^ f p = xl f o n
  | 0, h => by omega
  | n + 1, h => by
    rw [xp, xl]
    by_cases c : n = p
    · rw [if_neg (show ¬ n = o by omega), if_pos c, if_neg (show ¬ n = o by omega), xp_out n (by omega), c]
    · by_cases c2 : n = o
      · rw [if_pos c2, if_pos c2, xp_in hop n (by omega)]
      · rw [if_neg c2, if_neg c, if_neg c2, x_swap, xp_in hop n (by omega)]
/-- one block is another one -/
theorem xr_up {f : Nat → Int64} {o n : Nat} {v : Int64} (h : o < n) : xr (va_up f o v) n = xl f o n ^^^ v := by
  rw [← xl_in (f := va_up f o v) n h, va_up_self, xl_congr (f := va_up f o v) (g := f) n (fun d _ hd => va_up_ne _ _ hd)]
theorem xr_add (f : Nat → Int64) (a : Nat) : ∀ b, xr f (a + b) = xr f a ^^^ xr (fun i => f (a + i)) b
  | 0 => by simp [xr]
  | b + 1 => by
    show xr f (a + b) ^^^ f (a + b) = _
    rw [xr_add f a b, xr, Int64.xor_assoc]
/-- a row's index of disk d behind parity disk p -/
def idx (w p d : Nat) : Nat := if p < d then d - p - 1 else d + w - p - 1
theorem xr_row {w p : Nat} (hp : p < w) (P : Int64) (rv : Nat → Int64) : xr (fun d => if d = p then P else rv (idx w p d)) w = P ^^^ xr rv (w - 1) := by
  have e1 : w = p + (1 + (w - 1 - p)) := by omega
  have e2 : w - 1 = (w - 1 - p) + p := by omega
  have h1 : xr (fun d => if d = p then P else rv (idx w p d)) w = xr (fun d => if d = p then P else rv (idx w p d)) (p + (1 + (w - 1 - p))) := by rw [← e1]
  rw [h1, xr_add, xr_add]
  have k1 : xr (fun d => if d = p then P else rv (idx w p d)) p = xr (fun i => rv (w - 1 - p + i)) p := xr_congr p (fun d hd => by
    show (if d = p then P else rv (idx w p d)) = _
    unfold idx
    rw [if_neg (by omega), if_neg (by omega), show d + w - p - 1 = w - 1 - p + d by omega])
  have k2 : xr (fun i => (fun d => if d = p then P else rv (idx w p d)) (p + i)) 1 = P := by
    show (0 : Int64) ^^^ (if p + 0 = p then P else rv (idx w p (p + 0))) = P
    rw [if_pos (by omega), Int64.zero_xor]
  have k3 : xr (fun i => (fun i => (fun d => if d = p then P else rv (idx w p d)) (p + i)) (1 + i)) (w - 1 - p) = xr rv (w - 1 - p) := xr_congr _ (fun d hd => by
    show (if p + (1 + d) = p then P else rv (idx w p (p + (1 + d)))) = _
    unfold idx
    rw [if_neg (by omega), if_pos (by omega), show p + (1 + d) - p - 1 = d by omega])
  rw [k1, k2, k3]
  have k4 : xr rv (w - 1) = xr rv ((w - 1 - p) + p) := by rw [← e2]
  rw [k4, xr_add, Int64.xor_comm (xr rv (w - 1 - p)), ← Int64.xor_assoc, ← Int64.xor_assoc, Int64.xor_comm _ P]
/-! the geometry -/
def prN (w r : Nat) : Nat := w - 1 - r % w
def dkN (w r k : Nat) : Nat := (prN w r + 1 + k) % w
theorem dsk_eq (w A : Nat) : dskN w A = dkN w (A / (w - 1)) (A % (w - 1)) := rfl
theorem par_eq (w A : Nat) : parN w A = prN w (A / (w - 1)) := rfl
theorem md2 {x w : Nat} (h : x < 2 * w) : x % w = if x < w then x else x - w := by
  split
  · rename_i c
    exact Nat.mod_eq_of_lt c
  · rename_i c
    rw [Nat.mod_eq_sub_mod (by omega), Nat.mod_eq_of_lt (by omega)]
theorem pr_lt {w r : Nat} (h : 0 < w) : prN w r < w := by unfold prN; omega
theorem dk_v {w r k : Nat} (hw : 0 < w) (hk : k < w - 1) : dkN w r k = if prN w r + 1 + k < w then prN w r + 1 + k else prN w r + 1 + k - w := by
  unfold dkN
  exact md2 (by have := pr_lt (r := r) hw; omega)
theorem dk_ne {w r k : Nat} (hw : 0 < w) (hk : k < w - 1) : ¬ dkN w r k = prN w r := by
  rw [dk_v hw hk]
  have := pr_lt (r := r) hw
  split <;> omega
theorem idx_dk {w r k : Nat} (hw : 0 < w) (hk : k < w - 1) : idx w (prN w r) (dkN w r k) = k := by
  rw [dk_v hw hk]
  have := pr_lt (r := r) hw
  unfold idx
  split <;> split <;> omega
theorem idx_lt {w p d : Nat} (hp : p < w) (hd : d < w) (h : ¬ d = p) : idx w p d < w - 1 := by
  unfold idx
  split <;> omega
theorem dk_idx {w r d : Nat} (hw : 0 < w) (hd : d < w) (h : ¬ d = prN w r) : dkN w r (idx w (prN w r) d) = d := by
  have hp := pr_lt (r := r) hw
  rw [dk_v hw (idx_lt hp hd h)]
  unfold idx
  split <;> split <;> omega
/-- the width of a row -/
def wrN (N M F r : Nat) : Nat := if r < F then M else N
theorem wr_row {N M F A : Nat} (hN3 : 3 ≤ N) (hN : N ≤ M) : wrN N M F (rowN (widN N M F A) A) = widN N M F A := by
  unfold wrN rowN widN
  by_cases c : F * (M - 1) ≤ A
  · rw [if_pos c, if_neg]
    have h1 : F * (N - 1) ≤ F * (M - 1) := Nat.mul_le_mul_left _ (by omega)
    have : F ≤ A / (N - 1) := (Nat.le_div_iff_mul_le (by omega)).mpr (by omega)
    omega
  · rw [if_neg c, if_pos]
    exact (Nat.div_lt_iff_lt_mul (by omega)).mpr (by omega)
theorem wr_le {N M F r : Nat} (hN3 : 3 ≤ N) (hN : N ≤ M) : 3 ≤ wrN N M F r ∧ wrN N M F r ≤ M := by
  unfold wrN
  split <;> omega
theorem pl_inj {N M F A B : Nat} (hN3 : 3 ≤ N) (hN : N ≤ M) (h1 : rowN (widN N M F A) A = rowN (widN N M F B) B) (h2 : dskN (widN N M F A) A = dskN (widN N M F B) B) : A = B := by
  have w1 := wr_row (F := F) (A := A) hN3 hN
  have w2 := wr_row (F := F) (A := B) hN3 hN
  rw [h1, w2] at w1
  obtain ⟨w3, -⟩ := wid_le (F := F) (A := A) hN3 hN
  rw [w1] at h1 h2
  generalize widN N M F A = w at *
  unfold rowN at h1
  rw [dsk_eq, dsk_eq, h1] at h2
  have k1 := idx_dk (w := w) (r := B / (w - 1)) (k := A % (w - 1)) (by omega) (Nat.mod_lt _ (by omega))
  have k2 := idx_dk (w := w) (r := B / (w - 1)) (k := B % (w - 1)) (by omega) (Nat.mod_lt _ (by omega))
  rw [h2] at k1
  have e := k1.symm.trans k2
  have d1 := Nat.div_add_mod A (w - 1)
  have d2 := Nat.div_add_mod B (w - 1)
  rw [h1, e] at d1
  omega
theorem pl_par {N M F A B : Nat} (hN3 : 3 ≤ N) (hN : N ≤ M) (h1 : rowN (widN N M F A) A = rowN (widN N M F B) B) : ¬ dskN (widN N M F A) A = parN (widN N M F B) B := by
  have w1 := wr_row (F := F) (A := A) hN3 hN
  have w2 := wr_row (F := F) (A := B) hN3 hN
  rw [h1, w2] at w1
  obtain ⟨w3, -⟩ := wid_le (F := F) (A := A) hN3 hN
  rw [w1] at h1 ⊢
  generalize widN N M F A = w at *
  unfold rowN at h1
  rw [dsk_eq, par_eq, h1]
  exact dk_ne (by omega) (Nat.mod_lt _ (by omega))
/-! what the blocks would have: X; the numbers of the places: val -/
def Good (R N M F : Nat) (X : Nat → Nat → Int64) (val : Nat → Int64) : Prop :=
  (∀ r, r < R → xr (fun d => X d r) (wrN N M F r) = 0) ∧ (∀ A, A < R * (N - 1) ∨ A < F * (M - 1) → X (dskN (widN N M F A) A) (rowN (widN N M F A) A) = val A) ∧ ∀ A, R * (N - 1) ≤ A → val A = 0
def up2 (X : Nat → Nat → Int64) (d r : Nat) (v : Int64) : Nat → Nat → Int64 := fun d2 r2 => if d2 = d ∧ r2 = r then v else X d2 r2
theorem up_same {val : Nat → Int64} {A : Nat} {v : Int64} (h : val A = v) : va_up val A v = val := by
  funext j
  unfold va_up
  split
  · rename_i c; rw [c, h]
  · rfl
/-- a WRITE: the block and the parity that goes with it -/
theorem Good.wr {R N M F A : Nat} {X : Nat → Nat → Int64} {val : Nat → Int64} {v : Int64} (hN3 : 3 ≤ N) (hN : N ≤ M) (hA : A < R * (N - 1)) (h : Good R N M F X val) :
    Good R N M F (up2 (up2 X (dskN (widN N M F A) A) (rowN (widN N M F A) A) v) (parN (widN N M F A) A) (rowN (widN N M F A) A) (v ^^^ xp (fun d => X d (rowN (widN N M F A) A)) (parN (widN N M F A) A) (dskN (widN N M F A) A) (widN N M F A))) (va_up val A v) := by
  obtain ⟨g1, g2, g3⟩ := h
  obtain ⟨w3, wM⟩ := wid_le (F := F) (A := A) hN3 hN
  have hd := dsk_lt (A := A) w3
  have hp := par_lt (A := A) w3
  have hne : ¬ dskN (widN N M F A) A = parN (widN N M F A) A := pl_par hN3 hN rfl
  have hwr := wr_row (F := F) (A := A) hN3 hN
  refine ⟨fun r hr => ?_, fun B hB => ?_, fun B hB => ?_⟩
  · by_cases c : r = rowN (widN N M F A) A
    · subst c
      rw [hwr]
      have e : xr (fun d => up2 (up2 X (dskN (widN N M F A) A) (rowN (widN N M F A) A) v) (parN (widN N M F A) A) (rowN (widN N M F A) A) (v ^^^ xp (fun d => X d (rowN (widN N M F A) A)) (parN (widN N M F A) A) (dskN (widN N M F A) A) (widN N M F A)) d (rowN (widN N M F A) A)) (widN N M F A) = xr (va_up (va_up (fun d => X d (rowN (widN N M F A) A)) (dskN (widN N M F A) A) v) (parN (widN N M F A) A) (v ^^^ xp (fun d => X d (rowN (widN N M F A) A)) (parN (widN N M F A) A) (dskN (widN N M F A) A) (widN N M F A))) (widN N M F A) := xr_congr _ (fun d _ => by
        unfold up2 va_up
        simp)
      rw [e, xr_up hp, ← xp_in (p := dskN (widN N M F A) A) hne _ hd, va_up_self, xp_congr (f := va_up (fun d => X d (rowN (widN N M F A) A)) (dskN (widN N M F A) A) v) (g := fun d => X d (rowN (widN N M F A) A)) _ (fun d _ _ q => va_up_ne _ _ q)]
      rw [Int64.xor_comm v, Int64.xor_self]
    · rw [← g1 r hr]
      refine xr_congr _ (fun d _ => ?_)
      unfold up2
      rw [if_neg (fun q => c q.2), if_neg (fun q => c q.2)]
  · by_cases c : B = A
    · subst c
      unfold up2
      rw [if_neg (fun q => hne q.1), if_pos ⟨rfl, rfl⟩, va_up_self]
    · rw [va_up_ne _ _ c, ← g2 B hB]
      unfold up2
      rw [if_neg (fun q => pl_par hN3 hN q.2 q.1), if_neg (fun q => c (pl_inj hN3 hN q.2 q.1))]
  · rw [va_up_ne _ _ (by omega)]
    exact g3 B hB
/-- a STEP: row F by M -/
def mvX (M F : Nat) (X : Nat → Nat → Int64) (val : Nat → Int64) : Nat → Nat → Int64 := fun d r => if r = F then (if d = prN M F then xr (fun k => val (F * (M - 1) + k)) (M - 1) else val (F * (M - 1) + idx M (prN M F) d)) else X d r
theorem Good.mv {R N M F : Nat} {X : Nat → Nat → Int64} {val : Nat → Int64} (hN3 : 3 ≤ N) (hN : N ≤ M) (hF : F < R) (h : Good R N M F X val) : Good R N M (F + 1) (mvX M F X val) val := by
  obtain ⟨g1, g2, g3⟩ := h
  have hp := pr_lt (w := M) (r := F) (by omega)
  refine ⟨fun r hr => ?_, fun B hB => ?_, g3⟩
  · by_cases c : r = F
    · subst c
      have e : xr (fun d => mvX M r X val d r) (wrN N M (r + 1) r) = xr (fun d => if d = prN M r then xr (fun k => val (r * (M - 1) + k)) (M - 1) else (fun k => val (r * (M - 1) + k)) (idx M (prN M r) d)) M := by
        unfold wrN
        rw [if_pos (by omega)]
        refine xr_congr _ (fun d _ => ?_)
        unfold mvX
        rw [if_pos rfl]
      rw [e]
      exact (xr_row hp _ (fun k => val (r * (M - 1) + k))).trans Int64.xor_self
    · have e : wrN N M (F + 1) r = wrN N M F r := by
        unfold wrN
        by_cases q : r < F
        · rw [if_pos q, if_pos (by omega)]
        · rw [if_neg q, if_neg (by omega)]
      rw [e, ← g1 r hr]
      refine xr_congr _ (fun d _ => ?_)
      unfold mvX
      rw [if_neg c]
  · have e0 : (F + 1) * (M - 1) = F * (M - 1) + (M - 1) := by rw [Nat.add_mul, Nat.one_mul]
    by_cases c : F * (M - 1) ≤ B
    · by_cases c2 : (F + 1) * (M - 1) ≤ B
      · have w1 : widN N M (F + 1) B = N := by unfold widN; rw [if_pos c2]
        have w2 : widN N M F B = N := by unfold widN; rw [if_pos c]
        have hr : ¬ rowN N B = F := by
          have h1 : (F + 1) * (N - 1) ≤ (F + 1) * (M - 1) := Nat.mul_le_mul_left _ (by omega)
          have : F + 1 ≤ B / (N - 1) := (Nat.le_div_iff_mul_le (by omega)).mpr (by omega)
          unfold rowN
          omega
        have := g2 B (Or.inl (by omega))
        rw [w2] at this
        rw [w1, ← this]
        unfold mvX
        rw [if_neg hr]
      · have w1 : widN N M (F + 1) B = M := by unfold widN; rw [if_neg c2]
        have hdiv : B / (M - 1) = F := by
          have h1 : F ≤ B / (M - 1) := (Nat.le_div_iff_mul_le (by omega)).mpr c
          have h2 : B / (M - 1) < F + 1 := (Nat.div_lt_iff_lt_mul (by omega)).mpr (by omega)
          omega
        have hmod : F * (M - 1) + B % (M - 1) = B := by
          have := Nat.div_add_mod B (M - 1)
          rw [hdiv, Nat.mul_comm] at this
          exact this
        have hk : B % (M - 1) < M - 1 := Nat.mod_lt _ (by omega)
        rw [w1, dsk_eq]
        unfold rowN mvX
        rw [hdiv, if_pos rfl, if_neg (dk_ne (by omega) hk), idx_dk (by omega) hk, hmod]
    · have w1 : widN N M (F + 1) B = M := by unfold widN; rw [if_neg (by omega)]
      have w2 : widN N M F B = M := by unfold widN; rw [if_neg c]
      have hr : ¬ rowN M B = F := by
        have h2 : B / (M - 1) < F := (Nat.div_lt_iff_lt_mul (by omega)).mpr (by omega)
        unfold rowN
        omega
      have := g2 B (Or.inr (by omega))
      rw [w2] at this
      rw [w1, ← this]
      unfold mvX
      rw [if_neg hr]
/-- the reshaping's end -/
theorem Good.fin {R N M : Nat} {X : Nat → Nat → Int64} {val : Nat → Int64} (hN : N ≤ M) (h : Good R N M R X val) : Good R M M 0 X val := by
  obtain ⟨g1, g2, g3⟩ := h
  refine ⟨fun r hr => ?_, fun B hB => ?_, fun B hB => g3 B (Nat.le_trans (Nat.mul_le_mul_left _ (by omega)) hB)⟩
  · rw [← g1 r hr]
    unfold wrN
    rw [if_neg (by omega), if_pos hr]
  · have hB' : B < R * (M - 1) := by
      rcases hB with q | q
      · exact q
      · omega
    have := g2 B (Or.inr hB')
    have w1 : widN N M R B = M := by unfold widN; rw [if_neg (by omega)]
    have w2 : widN M M 0 B = M := by unfold widN; rw [ite_self]
    rw [w1] at this
    rw [w2]
    exact this
/-- a reshaping begins -/
theorem Good.grow {R N M : Nat} {X : Nat → Nat → Int64} {val : Nat → Int64} (h : Good R N N 0 X val) : Good R N M 0 X val := by
  obtain ⟨g1, g2, g3⟩ := h
  refine ⟨fun r hr => ?_, fun B hB => ?_, g3⟩
  · rw [← g1 r hr]
    unfold wrN
    rw [if_neg (by omega), if_neg (by omega)]
  · have := g2 B (hB.imp id (fun q => by omega))
    have w1 : widN N M 0 B = N := by unfold widN; rw [if_pos (by omega)]
    have w2 : widN N N 0 B = N := by unfold widN; rw [ite_self]
    rw [w2] at this
    rw [w1]
    exact this
