/-! ===== THE REFERENCE: the geometry in numbers; what keeps it ===== -/
section MGEO
variable {R nd : Nat}
theorem nI_one : (1 : Int32) = nI 1 := rfl
/-- between 3 and 10 disks, by the old geometry and by the new one -/
def GV (t : MS) : Prop := ∃ N M : Nat, t.1 2 = nI N ∧ t.1 3 = nI M ∧ 3 ≤ N ∧ N ≤ 10 ∧ 3 ≤ M ∧ M ≤ 10
theorem GV_of {t u : MS} (h2 : u.1 2 = t.1 2) (h3 : u.1 3 = t.1 3) (h : GV t) : GV u := by
  obtain ⟨N, M, a, b, r⟩ := h
  exact ⟨N, M, h2.trans a, h3.trans b, r⟩
theorem mf_width_gv {t : MS} (a : Int32) (h : GV t) : ∃ w : Nat, mf_width R nd t a = nI w ∧ 3 ≤ w ∧ w ≤ 10 := by
  obtain ⟨N, M, h2, h3, r1, r2, r3, r4⟩ := h
  unfold mf_width
  split
  · exact ⟨N, h2, r1, r2⟩
  · exact ⟨M, h3, r3, r4⟩
theorem mf_rowOf_nI {t : MS} {w k : Nat} (hw : mf_width R nd t (nI k) = nI w) (h3 : 3 ≤ w) (h10 : w ≤ 10) (hk : k < 432) : mf_rowOf R nd t (nI k) = nI (k / (w - 1)) := by
  unfold mf_rowOf
  rw [hw, nI_one, pk_sub (by omega), pk_div (by omega) (by omega) (by omega)]
theorem mf_parityOf_nI {t : MS} {w k : Nat} (hw : mf_width R nd t (nI k) = nI w) (h3 : 3 ≤ w) (h10 : w ≤ 10) (hk : k < 432) : mf_parityOf R nd t (nI k) = nI (w - 1 - k / (w - 1) % w) := by
  have hq : k / (w - 1) ≤ k := Nat.div_le_self _ _
  have hm : k / (w - 1) % w < w := Nat.mod_lt _ (by omega)
  unfold mf_parityOf
  rw [mf_rowOf_nI hw h3 h10 hk, hw, nI_one, pk_sub (by omega), pk_rem (by omega) (by omega) (by omega), pk_sub (by omega)]
theorem mf_diskOf_nI {t : MS} {w k : Nat} (hw : mf_width R nd t (nI k) = nI w) (h3 : 3 ≤ w) (h10 : w ≤ 10) (hk : k < 432) : mf_diskOf R nd t (nI k) = nI ((w - 1 - k / (w - 1) % w + 1 + k % (w - 1)) % w) := by
  have hm : k / (w - 1) % w < w := Nat.mod_lt _ (by omega)
  have hm2 : k % (w - 1) < w - 1 := Nat.mod_lt _ (by omega)
  unfold mf_diskOf
  rw [mf_parityOf_nI hw h3 h10 hk, hw, nI_one, pk_sub (by omega : 1 ≤ w), pk_rem (by omega) (by omega) (by omega), nI_add, nI_add, pk_rem (by omega) (by omega) (by omega)]
/-- all that a WRITE to PLACE a asks of the state -/
def MG (R nd : Nat) (t : MS) (a : Int32) : Prop := (¬ mf_width R nd t a - 1 = 0) ∧ (¬ mf_width R nd t a = 0) ∧ vp_in (mf_diskOf R nd t a) 10 ∧ vp_in (mf_parityOf R nd t a) 10
theorem MG_gv {t : MS} {a : Int32} (h : GV t) (ha : vp_in a 432) : MG R nd t a := by
  obtain ⟨k, hk, rfl⟩ := vp_in_of ha (by decide)
  obtain ⟨w, hw, h3, h10⟩ := mf_width_gv (R := R) (nd := nd) (nI k) h
  have hm : k / (w - 1) % w < w := Nat.mod_lt _ (by omega)
  refine ⟨?_, ?_, ?_, ?_⟩
  · rw [hw, nI_one, pk_sub (by omega)]
    exact nI_ne0 (by omega) (by omega)
  · rw [hw]
    exact nI_ne0 (by omega) (by omega)
  · rw [mf_diskOf_nI hw h3 h10 hk]
    have := Nat.mod_lt (w - 1 - k / (w - 1) % w + 1 + k % (w - 1)) (by omega : 0 < w)
    exact vp_in_nI (by omega) (by decide)
  · rw [mf_parityOf_nI hw h3 h10 hk]
    exact vp_in_nI (by omega) (by decide)
end MGEO
