/-! ===== what this law compares; the blocks too ===== -/
theorem dat_read {R nd b : Nat} {g : GS} {t : MS} (hd : DAT R nd b g t) (y : Int64) (x : Int32) : DAT R nd (b + 1) (lr_read R nd g y x).2.2.1 (mf_read R nd t x).2 := by
  have e : (lr_read R nd g y x).2.2.1 = g := by
    unfold lr_read
    repeat' split
    all_goals rfl
  rw [e]
  unfold mf_read
  repeat' split
  all_goals exact hd.th
theorem dat_sum {R nd b : Nat} {g : GS} {t : MS} (hd : DAT R nd b g t) (y : Int64) : DAT R nd (b + 1) (lr_sum R nd g y).2.2.1 (mf_sum R nd t).2 := by
  have e : (lr_sum R nd g y).2.2.1 = g := by
    unfold lr_sum
    repeat' split
    all_goals rfl
  rw [e]
  unfold mf_sum
  split
  · exact hd.th
  · rw [sum_st]
    exact hd.th
theorem dat_astray {R nd b : Nat} {g : GS} {t : MS} (hd : DAT R nd b g t) : DAT R nd (b + 1) g (mf_astray R nd t).2 := by
  unfold mf_astray
  repeat' split
  all_goals exact hd.th
theorem dat_count {R nd b : Nat} {g : GS} {t : MS} (hd : DAT R nd b g t) (w : Int32) : DAT R nd (b + 1) g (mf_count R nd t w).2 := by
  rw [count_st]
  exact hd.th
theorem dat_place {R nd b : Nat} {g : GS} {t : MS} (hd : DAT R nd b g t) (x w : Int32) : DAT R nd (b + 1) g (mf_place R nd t x w).2 := by
  unfold mf_place
  repeat' split
  all_goals exact hd.th
theorem dat_disk {R nd b : Nat} {g : GS} {t : MS} (hd : DAT R nd b g t) (x w : Int32) : DAT R nd (b + 1) g (mf_disk R nd t x w).2 := by
  have st : (mf_disk R nd t x w).2 = si t 0 0 := by
    unfold mf_disk
    repeat' split
    all_goals rfl
  rw [st]
  exact hd.th
theorem DAT.mono {R nd b : Nat} {g : GS} {t : MS} (h : DAT R nd b g t) : DAT R nd (b + 1) g t := h.cg rfl rfl KV.rf rfl rfl
def I2 (R nd : Nat) (k nd2 : Nat) (g : GS) (md : Nat) (t : MS) : Prop := md = nd2 ∧ (3 ≤ nd2 ∧ nd2 ≤ 10) ∧ INV R nd2 (1 + k) g t ∧ DAT R nd2 (1 + k) g t
theorem I2_0 (R nd : Nat) (hR9 : 2 ≤ R ∧ R ≤ 48) (hN : 3 ≤ nd ∧ nd ≤ 7) : I2 R nd 0 nd (g00 nd) nd (mf_init R nd) := ⟨rfl, by omega, INV_0 hR9 hN, DAT_0 hR9 hN⟩
theorem I2_of {R nd0 k x md : Nat} {G : GS} {T : MS} (e : x = md) (hn : 3 ≤ md ∧ md ≤ 10) (h : INV R md (1 + k + 1) G T) (d : DAT R md (1 + k + 1) G T) : I2 R nd0 (k + 1) x G md T := by
  subst e
  exact ⟨rfl, hn, h, d⟩
theorem ok_write {R nd nd0 k : Nat} {g : GS} {t : MS} (hn : 3 ≤ nd ∧ nd ≤ 10) (hR : 2 ≤ R ∧ R ≤ 48) (hb : 1 + k ≤ 1000) (h : INV R nd (1 + k) g t) (hd : DAT R nd (1 + k) g t) : Ok_write (I2 R nd0) R k nd g nd t := by
  intro y x1 x3
  obtain ⟨a1, a2, a3, a4⟩ := op_write hn hR hb h y x1 x3
  exact I2_of a3 hn a4 (dat_write hn hR hb h hd y x1 x3)
theorem ok_read {R nd nd0 k : Nat} {g : GS} {t : MS} (hn : 3 ≤ nd ∧ nd ≤ 10) (hR : 2 ≤ R ∧ R ≤ 48) (hb : 1 + k ≤ 1000) (h : INV R nd (1 + k) g t) (hd : DAT R nd (1 + k) g t) : Ok_read (I2 R nd0) R k nd g nd t := by
  intro y x1
  obtain ⟨a1, a2, a3⟩ := op_read hn hR h y x1
  exact I2_of a2 hn a3 (dat_read hd y x1)
theorem ok_add {R nd nd0 k : Nat} {g : GS} {t : MS} (hn : 3 ≤ nd ∧ nd ≤ 10) (hR : 2 ≤ R ∧ R ≤ 48) (hb : 1 + k ≤ 1000) (h : INV R nd (1 + k) g t) (hd : DAT R nd (1 + k) g t) : Ok_add (I2 R nd0) R k nd g nd t := by
  intro y
  obtain ⟨a1, a2, a3, a5, a4⟩ := op_add hn hR hb h y
  exact ⟨a5.2, I2_of a3 a5 a4 (dat_add hn hR hb h hd y)⟩
theorem ok_grow {R nd nd0 k : Nat} {g : GS} {t : MS} (hn : 3 ≤ nd ∧ nd ≤ 10) (hR : 2 ≤ R ∧ R ≤ 48) (hb : 1 + k ≤ 1000) (h : INV R nd (1 + k) g t) (hd : DAT R nd (1 + k) g t) : Ok_grow (I2 R nd0) R k nd g nd t := by
  intro y
  obtain ⟨a1, a2, a3, a4⟩ := op_grow hn hR hb h y 
  exact I2_of a3 hn a4 (dat_grow hn hR hb h hd y )
theorem ok_step {R nd nd0 k : Nat} {g : GS} {t : MS} (hn : 3 ≤ nd ∧ nd ≤ 10) (hR : 2 ≤ R ∧ R ≤ 48) (hb : 1 + k ≤ 1000) (h : INV R nd (1 + k) g t) (hd : DAT R nd (1 + k) g t) : Ok_step (I2 R nd0) R k nd g nd t := by
  intro y
  obtain ⟨a1, a2, a3, a4⟩ := op_step hn hR hb h y 
  exact I2_of a3 hn a4 (dat_step hn hR hb h hd y )
theorem ok_fail {R nd nd0 k : Nat} {g : GS} {t : MS} (hn : 3 ≤ nd ∧ nd ≤ 10) (hR : 2 ≤ R ∧ R ≤ 48) (hb : 1 + k ≤ 1000) (h : INV R nd (1 + k) g t) (hd : DAT R nd (1 + k) g t) : Ok_fail (I2 R nd0) R k nd g nd t := by
  intro y x1
  obtain ⟨a1, a2⟩ := op_fail hn h x1
  exact I2_of rfl hn a2 (dat_fail hn h hd x1)
theorem ok_replace {R nd nd0 k : Nat} {g : GS} {t : MS} (hn : 3 ≤ nd ∧ nd ≤ 10) (hR : 2 ≤ R ∧ R ≤ 48) (hb : 1 + k ≤ 1000) (h : INV R nd (1 + k) g t) (hd : DAT R nd (1 + k) g t) : Ok_replace (I2 R nd0) R k nd g nd t := by
  intro y
  obtain ⟨a1, a2⟩ := op_replace hn hR hb h
  exact I2_of rfl hn a2 (dat_replace hn hR hb h hd)
theorem ok_rebuild {R nd nd0 k : Nat} {g : GS} {t : MS} (hn : 3 ≤ nd ∧ nd ≤ 10) (hR : 2 ≤ R ∧ R ≤ 48) (hb : 1 + k ≤ 1000) (h : INV R nd (1 + k) g t) (hd : DAT R nd (1 + k) g t) : Ok_rebuild (I2 R nd0) R k nd g nd t := by
  intro y
  obtain ⟨a1, a2, a3, a4⟩ := op_rebuild hn hR hb h y 
  exact I2_of a3 hn a4 (dat_rebuild hn hR hb h hd y )
theorem ok_cut {R nd nd0 k : Nat} {g : GS} {t : MS} (hn : 3 ≤ nd ∧ nd ≤ 10) (hR : 2 ≤ R ∧ R ≤ 48) (hb : 1 + k ≤ 1000) (h : INV R nd (1 + k) g t) (hd : DAT R nd (1 + k) g t) : Ok_cut (I2 R nd0) R k nd g nd t := by
  intro y x1
  exact I2_of rfl hn (op_cut h x1) (dat_cut hd x1)
theorem ok_open {R nd nd0 k : Nat} {g : GS} {t : MS} (hn : 3 ≤ nd ∧ nd ≤ 10) (hR : 2 ≤ R ∧ R ≤ 48) (hb : 1 + k ≤ 1000) (h : INV R nd (1 + k) g t) (hd : DAT R nd (1 + k) g t) : Ok_open (I2 R nd0) R k nd g nd t := by
  intro y
  obtain ⟨a1, a2⟩ := op_open hn hR hb h
  exact I2_of rfl hn a2 (dat_open hn hR hb h hd)
theorem ok_place {R nd nd0 k : Nat} {g : GS} {t : MS} (hn : 3 ≤ nd ∧ nd ≤ 10) (hR : 2 ≤ R ∧ R ≤ 48) (hb : 1 + k ≤ 1000) (h : INV R nd (1 + k) g t) (hd : DAT R nd (1 + k) g t) : Ok_place (I2 R nd0) R k nd g nd t := by
  intro y x1 x2
  obtain ⟨a1, a2⟩ := op_place hn hR h x1 x2
  exact I2_of rfl hn a2 (dat_place hd x1 x2)
theorem ok_disk {R nd nd0 k : Nat} {g : GS} {t : MS} (hn : 3 ≤ nd ∧ nd ≤ 10) (hR : 2 ≤ R ∧ R ≤ 48) (hb : 1 + k ≤ 1000) (h : INV R nd (1 + k) g t) (hd : DAT R nd (1 + k) g t) : Ok_disk (I2 R nd0) R k nd g nd t := by
  intro y x1 x2
  exact I2_of rfl hn (op_disk h x1 x2) (dat_disk hd x1 x2)
theorem ok_count {R nd nd0 k : Nat} {g : GS} {t : MS} (hn : 3 ≤ nd ∧ nd ≤ 10) (hR : 2 ≤ R ∧ R ≤ 48) (hb : 1 + k ≤ 1000) (h : INV R nd (1 + k) g t) (hd : DAT R nd (1 + k) g t) : Ok_count (I2 R nd0) R k nd g nd t := by
  intro y x1
  exact I2_of rfl hn (op_count h x1) (dat_count hd x1)
theorem ok_astray {R nd nd0 k : Nat} {g : GS} {t : MS} (hn : 3 ≤ nd ∧ nd ≤ 10) (hR : 2 ≤ R ∧ R ≤ 48) (hb : 1 + k ≤ 1000) (h : INV R nd (1 + k) g t) (hd : DAT R nd (1 + k) g t) : Ok_astray (I2 R nd0) R k nd g nd t := by
  intro y
  exact ⟨val_astray hn hR hb h hd, I2_of rfl hn (op_astray h) (dat_astray hd)⟩
theorem ok_sum {R nd nd0 k : Nat} {g : GS} {t : MS} (hn : 3 ≤ nd ∧ nd ≤ 10) (hR : 2 ≤ R ∧ R ≤ 48) (hb : 1 + k ≤ 1000) (h : INV R nd (1 + k) g t) (hd : DAT R nd (1 + k) g t) : Ok_sum (I2 R nd0) R k nd g nd t := by
  intro y
  obtain ⟨a1, a2, a3⟩ := op_sum h y
  exact I2_of a2 hn a3 (dat_sum hd y)
theorem I2_ok (R nd : Nat) (hR9 : 2 ≤ R ∧ R ≤ 48) (hN : 3 ≤ nd ∧ nd ≤ 7) (k : Nat) (hk : k < 512) : LawOK (I2 R nd) R k := by
  intro nd2 g md t h
  obtain ⟨e, hn, hI, hD⟩ := h
  subst e
  have hb : 1 + k ≤ 1000 := by omega
  exact ⟨hI.rdy hn hR9, I2_of rfl hn hI.mono hD.mono, ok_write hn hR9 hb hI hD, ok_read hn hR9 hb hI hD, ok_add hn hR9 hb hI hD, ok_grow hn hR9 hb hI hD, ok_step hn hR9 hb hI hD, ok_fail hn hR9 hb hI hD, ok_replace hn hR9 hb hI hD, ok_rebuild hn hR9 hb hI hD, ok_cut hn hR9 hb hI hD, ok_open hn hR9 hb hI hD, ok_place hn hR9 hb hI hD, ok_disk hn hR9 hb hI hD, ok_count hn hR9 hb hI hD, ok_astray hn hR9 hb hI hD, ok_sum hn hR9 hb hI hD⟩
