/-! ===== what this law compares ===== -/
theorem ok_write {R nd nd0 k : Nat} {g : GS} {t : MS} (hn : 3 ≤ nd ∧ nd ≤ 10) (hR : 2 ≤ R ∧ R ≤ 48) (hb : 1 + k ≤ 1000) (h : INV R nd (1 + k) g t) : Ok_write (II R nd0) R k nd g nd t := by
  intro y x1 x3
  obtain ⟨a1, a2, a3, a4⟩ := op_write hn hR hb h y x1 x3
  exact II_of a3 hn a4
theorem ok_read {R nd nd0 k : Nat} {g : GS} {t : MS} (hn : 3 ≤ nd ∧ nd ≤ 10) (hR : 2 ≤ R ∧ R ≤ 48) (hb : 1 + k ≤ 1000) (h : INV R nd (1 + k) g t) : Ok_read (II R nd0) R k nd g nd t := by
  intro y x1
  obtain ⟨a1, a2, a3⟩ := op_read hn hR h y x1
  exact II_of a2 hn a3
theorem ok_add {R nd nd0 k : Nat} {g : GS} {t : MS} (hn : 3 ≤ nd ∧ nd ≤ 10) (hR : 2 ≤ R ∧ R ≤ 48) (hb : 1 + k ≤ 1000) (h : INV R nd (1 + k) g t) : Ok_add (II R nd0) R k nd g nd t := by
  intro y
  obtain ⟨a1, a2, a3, a5, a4⟩ := op_add hn hR hb h y
  exact ⟨a5.2, II_of a3 a5 a4⟩
theorem ok_grow {R nd nd0 k : Nat} {g : GS} {t : MS} (hn : 3 ≤ nd ∧ nd ≤ 10) (hR : 2 ≤ R ∧ R ≤ 48) (hb : 1 + k ≤ 1000) (h : INV R nd (1 + k) g t) : Ok_grow (II R nd0) R k nd g nd t := by
  intro y
  obtain ⟨a1, a2, a3, a4⟩ := op_grow hn hR hb h y 
  exact II_of a3 hn a4
theorem ok_step {R nd nd0 k : Nat} {g : GS} {t : MS} (hn : 3 ≤ nd ∧ nd ≤ 10) (hR : 2 ≤ R ∧ R ≤ 48) (hb : 1 + k ≤ 1000) (h : INV R nd (1 + k) g t) : Ok_step (II R nd0) R k nd g nd t := by
  intro y
  obtain ⟨a1, a2, a3, a4⟩ := op_step hn hR hb h y 
  exact II_of a3 hn a4
theorem ok_fail {R nd nd0 k : Nat} {g : GS} {t : MS} (hn : 3 ≤ nd ∧ nd ≤ 10) (hR : 2 ≤ R ∧ R ≤ 48) (hb : 1 + k ≤ 1000) (h : INV R nd (1 + k) g t) : Ok_fail (II R nd0) R k nd g nd t := by
  intro y x1
  obtain ⟨a1, a2⟩ := op_fail hn h x1
  exact II_of rfl hn a2
theorem ok_replace {R nd nd0 k : Nat} {g : GS} {t : MS} (hn : 3 ≤ nd ∧ nd ≤ 10) (hR : 2 ≤ R ∧ R ≤ 48) (hb : 1 + k ≤ 1000) (h : INV R nd (1 + k) g t) : Ok_replace (II R nd0) R k nd g nd t := by
  intro y
  obtain ⟨a1, a2⟩ := op_replace hn hR hb h
  exact II_of rfl hn a2
theorem ok_rebuild {R nd nd0 k : Nat} {g : GS} {t : MS} (hn : 3 ≤ nd ∧ nd ≤ 10) (hR : 2 ≤ R ∧ R ≤ 48) (hb : 1 + k ≤ 1000) (h : INV R nd (1 + k) g t) : Ok_rebuild (II R nd0) R k nd g nd t := by
  intro y
  obtain ⟨a1, a2, a3, a4⟩ := op_rebuild hn hR hb h y 
  exact II_of a3 hn a4
theorem ok_cut {R nd nd0 k : Nat} {g : GS} {t : MS} (hn : 3 ≤ nd ∧ nd ≤ 10) (hR : 2 ≤ R ∧ R ≤ 48) (hb : 1 + k ≤ 1000) (h : INV R nd (1 + k) g t) : Ok_cut (II R nd0) R k nd g nd t := by
  intro y x1
  exact II_of rfl hn (op_cut h x1)
theorem ok_open {R nd nd0 k : Nat} {g : GS} {t : MS} (hn : 3 ≤ nd ∧ nd ≤ 10) (hR : 2 ≤ R ∧ R ≤ 48) (hb : 1 + k ≤ 1000) (h : INV R nd (1 + k) g t) : Ok_open (II R nd0) R k nd g nd t := by
  intro y
  obtain ⟨a1, a2⟩ := op_open hn hR hb h
  exact II_of rfl hn a2
theorem ok_place {R nd nd0 k : Nat} {g : GS} {t : MS} (hn : 3 ≤ nd ∧ nd ≤ 10) (hR : 2 ≤ R ∧ R ≤ 48) (hb : 1 + k ≤ 1000) (h : INV R nd (1 + k) g t) : Ok_place (II R nd0) R k nd g nd t := by
  intro y x1 x2
  obtain ⟨a1, a2⟩ := op_place hn hR h x1 x2
  exact ⟨a1, II_of rfl hn a2⟩
theorem ok_disk {R nd nd0 k : Nat} {g : GS} {t : MS} (hn : 3 ≤ nd ∧ nd ≤ 10) (hR : 2 ≤ R ∧ R ≤ 48) (hb : 1 + k ≤ 1000) (h : INV R nd (1 + k) g t) : Ok_disk (II R nd0) R k nd g nd t := by
  intro y x1 x2
  exact II_of rfl hn (op_disk h x1 x2)
theorem ok_count {R nd nd0 k : Nat} {g : GS} {t : MS} (hn : 3 ≤ nd ∧ nd ≤ 10) (hR : 2 ≤ R ∧ R ≤ 48) (hb : 1 + k ≤ 1000) (h : INV R nd (1 + k) g t) : Ok_count (II R nd0) R k nd g nd t := by
  intro y x1
  exact II_of rfl hn (op_count h x1)
theorem ok_astray {R nd nd0 k : Nat} {g : GS} {t : MS} (hn : 3 ≤ nd ∧ nd ≤ 10) (hR : 2 ≤ R ∧ R ≤ 48) (hb : 1 + k ≤ 1000) (h : INV R nd (1 + k) g t) : Ok_astray (II R nd0) R k nd g nd t := by
  intro y
  exact II_of rfl hn (op_astray h)
theorem ok_sum {R nd nd0 k : Nat} {g : GS} {t : MS} (hn : 3 ≤ nd ∧ nd ≤ 10) (hR : 2 ≤ R ∧ R ≤ 48) (hb : 1 + k ≤ 1000) (h : INV R nd (1 + k) g t) : Ok_sum (II R nd0) R k nd g nd t := by
  intro y
  obtain ⟨a1, a2, a3⟩ := op_sum h y
  exact II_of a2 hn a3
theorem II_ok (R nd : Nat) (hR9 : 2 ≤ R ∧ R ≤ 48) (hN : 3 ≤ nd ∧ nd ≤ 7) (k : Nat) (hk : k < 512) : LawOK (II R nd) R k := by
  intro nd2 g md t h
  obtain ⟨e, hn, hI⟩ := h
  subst e
  have hb : 1 + k ≤ 1000 := by omega
  exact ⟨hI.rdy hn hR9, II_of rfl hn hI.mono, ok_write hn hR9 hb hI, ok_read hn hR9 hb hI, ok_add hn hR9 hb hI, ok_grow hn hR9 hb hI, ok_step hn hR9 hb hI, ok_fail hn hR9 hb hI, ok_replace hn hR9 hb hI, ok_rebuild hn hR9 hb hI, ok_cut hn hR9 hb hI, ok_open hn hR9 hb hI, ok_place hn hR9 hb hI, ok_disk hn hR9 hb hI, ok_count hn hR9 hb hI, ok_astray hn hR9 hb hI, ok_sum hn hR9 hb hI⟩
