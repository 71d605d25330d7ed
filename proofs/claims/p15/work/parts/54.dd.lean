/-! ===== THE BLOCKS: what holds of them, up and down ===== -/
section DD
variable {R nd : Nat} {g : GS} {t : MS}
/-- disk d's journal has sequence S -/
def jh (g : GS) (S d : Nat) : Prop := g.2.1 4 d = nI S ∧ 0 < g.2.1 5 d
/-- disk d's journal, on both sides: place A, its number v, the parity p -/
def JD (N M F : Nat) (g : GS) (t : MS) (d A : Nat) (v p : Int64) : Prop := g.2.1 6 d = nI (rowN (widN N M F A) A) ∧ g.2.1 7 d = nI (dskN (widN N M F A) A) ∧ g.2.1 8 d = nI (parN (widN N M F A) A) ∧ g.2.2 2 d 0 = v ∧ g.2.2 2 d 1 = p ∧ t.2.1 8 d = nI A ∧ t.2.2 0 d = v
/-- journals of sequence S lie on the two live disks with the least numbers -/
def JL (lv : Nat → Prop) (g : GS) (S : Nat) : Prop := ∀ d e f, lv d → jh g S d → lv e → lv f → e < f → f < d → False
def crit (N M F : Nat) : Prop := F * (M - N) < N - 1
def cel (N M F A d r : Nat) : Prop := r = rowN (widN N M F A) A ∧ (d = dskN (widN N M F A) A ∨ d = parN (widN N M F A) A)
/-- what X has of a WRITE to place A -/
def XJ (N M F : Nat) (X : Nat → Nat → Int64) (A : Nat) (v p : Int64) : Prop := X (dskN (widN N M F A) A) (rowN (widN N M F A) A) = v ∧ X (parN (widN N M F A) A) (rowN (widN N M F A) A) = p
/-- every live journal of sequence S tells what X has -/
def NOP (R : Nat) (lv : Nat → Prop) (S N M F : Nat) (X : Nat → Nat → Int64) (g : GS) (t : MS) : Prop := ∀ d, lv d → jh g S d → ∃ A v p, JD N M F g t d A v p ∧ A < R * (N - 1) ∧ XJ N M F X A v p
def UPX (R : Nat) (lv : Nat → Prop) (S N M F : Nat) (X : Nat → Nat → Int64) (g : GS) (t : MS) : Prop :=
  Good R N M F X (t.2.2 1) ∧ (∀ d r, lv d → r < R → d < wrN N M F r → g.2.2 4 d r = X d r) ∧ NOP R lv S N M F X g t ∧ JL lv g S ∧ ∀ d, lv d → ∃ q, q < S ∧ g.2.1 9 d = nI q
def RFU (lv : Nat → Prop) (fm : (Nat → Prop) → Prop) (S N M F : Nat) (E : Nat → Nat → Prop) (X : Nat → Nat → Int64) (g : GS) : Prop := (∀ d, lv d → d < wrN N M F F → ¬ E d F → g.2.2 4 d F = X d F) ∨ (N < M ∧ (¬ crit N M F ∨ ∀ l, fm l → ∃ d, l d ∧ g.2.1 9 d = nI S))
def BKR (lv : Nat → Prop) (S N M F : Nat) (val : Nat → Int64) (g : GS) : Prop := N < M → ∀ d k, lv d → g.2.1 9 d = nI S → k < M - 1 → g.2.2 3 d k = val (F * (M - 1) + k)
def DKU (R : Nat) (lv : Nat → Prop) (fm : (Nat → Prop) → Prop) (S N M F : Nat) (E : Nat → Nat → Prop) (X : Nat → Nat → Int64) (val : Nat → Int64) (g : GS) : Prop :=
  Good R N M F X val ∧ (∀ d r, lv d → r < R → d < wrN N M F r → ¬ E d r → ¬ (N < M ∧ r = F) → g.2.2 4 d r = X d r) ∧ RFU lv fm S N M F E X g ∧ BKR lv S N M F val g
def DAU (R : Nat) (lv : Nat → Prop) (fm : (Nat → Prop) → Prop) (S N M F : Nat) (g : GS) (t : MS) : Prop :=
  (∀ d, lv d → jh g S d → ∃ A v p X, JD N M F g t d A v p ∧ A < R * (N - 1) ∧ XJ N M F X A v p ∧ DKU R lv fm S N M F (cel N M F A) X (va_up (t.2.2 1) A v) g) ∧ ((∃ l, fm l ∧ ∀ d, l d → ¬ jh g S d) → ∃ X, DKU R lv fm S N M F (fun _ _ => False) X (t.2.2 1) g) ∧ JL lv g S ∧ ∀ d, lv d → ∃ q, q ≤ S ∧ g.2.1 9 d = nI q
/-- all is there but row FRONT, perhaps -/
def PRE (R : Nat) (lv : Nat → Prop) (S N M F : Nat) (X : Nat → Nat → Int64) (g : GS) (t : MS) : Prop :=
  Good R N M F X (t.2.2 1) ∧ (∀ d r, lv d → r < R → d < wrN N M F r → ¬ (N < M ∧ r = F) → g.2.2 4 d r = X d r) ∧ NOP R lv S N M F X g t ∧ JL lv g S ∧ (∀ d, lv d → ∃ q, q ≤ S ∧ g.2.1 9 d = nI q) ∧ BKR lv S N M F (t.2.2 1) g
def CLX (R : Nat) (lv : Nat → Prop) (S N M F : Nat) (X : Nat → Nat → Int64) (g : GS) (t : MS) : Prop := Good R N M F X (t.2.2 1) ∧ (∀ d r, lv d → r < R → d < wrN N M F r → g.2.2 4 d r = X d r) ∧ (∀ d, lv d → ¬ jh g S d) ∧ ∀ d, lv d → ∃ q, q < S ∧ g.2.1 9 d = nI q
def q4 (S N M F : Nat) : T4 := (nI S, nI N, nI M, nI F)
def bd4 (S N M F : Nat) : Prop := 1 ≤ S ∧ S ≤ 2000 ∧ 3 ≤ N ∧ N ≤ M ∧ M ≤ 10 ∧ F < 48 ∧ (N = M → F = 0)
def fam (nd : Nat) (g : GS) (l : Nat → Prop) : Prop := l = lvD nd g ∨ ((∀ d, d < nd → lvD nd g d) ∧ ∃ e, e < nd ∧ l = fun d => lvD nd g d ∧ ¬ d = e)
def DN1 (R : Nat) (lv : Nat → Prop) (fm : (Nat → Prop) → Prop) (g : GS) (t : MS) : Prop := ∃ S N M F, bd4 S N M F ∧ (∀ d, lv d → sup4 g d = q4 S N M F) ∧ DAU R lv fm S N M F g t
def DN2 (R nd : Nat) (g : GS) (t : MS) : Prop := ∃ S N M F X, bd4 S N M F ∧ (∃ d, lvD nd g d ∧ sup4 g d = q4 S N M F) ∧ (∀ d, lvD nd g d → ∃ s, s ≤ S ∧ g.2.1 0 d = nI s) ∧ CLX R (lvD nd g) S N M F X g t ∧
  ((∀ d, d < nd → lvD nd g d) → ∀ e, e < nd → (∀ d, lvD nd g d → ¬ d = e → ¬ sup4 g d = q4 S N M F) → DN1 R (fun d => lvD nd g d ∧ ¬ d = e) (fun l => l = fun d => lvD nd g d ∧ ¬ d = e) g t)
def DND (R nd : Nat) (g : GS) (t : MS) : Prop := DN1 R (lvD nd g) (fam nd g) g t ∨ DN2 R nd g t
def UPD (R nd : Nat) (g : GS) (t : MS) : Prop := ∃ S N M F X, bd4 S N M F ∧ g.1 8 = nI S ∧ g.1 9 = nI N ∧ g.1 10 = nI M ∧ g.1 11 = nI F ∧ UPX R (lvD nd g) S N M F X g t ∧ ∀ d r, d < nd → g.2.1 10 d = 0 → g.2.1 0 d = 0 → ¬ g.1 3 ≤ nI r → r < R → d < wrN N M F r → g.2.2 4 d r = X d r
/-- a disk that is rebuilding has no backup -/
def RB0 (nd : Nat) (g : GS) : Prop := ∀ d, d < nd → g.2.1 10 d = 0 → g.2.1 0 d = 0 → g.2.1 9 d = 0
def DAT (R nd b : Nat) (g : GS) (t : MS) : Prop := (∃ c, c ≤ b ∧ t.1 8 = nI c) ∧ RB0 nd g ∧ (g.1 1 = 1 → UPD R nd g t) ∧ (g.1 1 = 0 → DND R nd g t)
/-! the same arrays -/
def AG (g : GS) (t : MS) (G : GS) (T : MS) : Prop := (∀ q, 4 ≤ q → q ≤ 9 → G.2.1 q = g.2.1 q) ∧ (∀ q, 2 ≤ q → q ≤ 4 → G.2.2 q = g.2.2 q) ∧ T.2.1 8 = t.2.1 8 ∧ T.2.2 = t.2.2
theorem AG.hj {G : GS} {T : MS} {S d : Nat} (h : AG g t G T) : jh G S d ↔ jh g S d := by
  unfold jh
  rw [h.1 4 (by decide) (by decide), h.1 5 (by decide) (by decide)]
theorem AG.jd {G : GS} {T : MS} {N M F d A : Nat} {v p : Int64} (h : AG g t G T) : JD N M F G T d A v p ↔ JD N M F g t d A v p := by
  unfold JD
  rw [h.1 6 (by decide) (by decide), h.1 7 (by decide) (by decide), h.1 8 (by decide) (by decide), h.2.1 2 (by decide) (by decide), h.2.2.1, h.2.2.2]
theorem AG.nop {G : GS} {T : MS} {lv : Nat → Prop} {S N M F : Nat} {X : Nat → Nat → Int64} (a : AG g t G T) (h : NOP R lv S N M F X g t) : NOP R lv S N M F X G T := by
  intro d h1 h2
  obtain ⟨A, v, p, j, q⟩ := h d h1 (a.hj.mp h2)
  exact ⟨A, v, p, a.jd.mpr j, q⟩
theorem AG.jl {G : GS} {T : MS} {lv : Nat → Prop} {S : Nat} (a : AG g t G T) (h : JL lv g S) : JL lv G S := fun d e f h1 h2 => h d e f h1 (a.hj.mp h2)
theorem AG.dku {G : GS} {T : MS} {lv : Nat → Prop} {fm : (Nat → Prop) → Prop} {S N M F : Nat} {E : Nat → Nat → Prop} {X : Nat → Nat → Int64} {val : Nat → Int64} (a : AG g t G T) (h : DKU R lv fm S N M F E X val g) : DKU R lv fm S N M F E X val G := by
  unfold DKU RFU BKR at *
  rw [a.2.1 4 (by decide) (by decide), a.2.1 3 (by decide) (by decide), a.1 9 (by decide) (by decide)]
  exact h
theorem AG.upx {G : GS} {T : MS} {lv : Nat → Prop} {S N M F : Nat} {X : Nat → Nat → Int64} (a : AG g t G T) (h : UPX R lv S N M F X g t) : UPX R lv S N M F X G T := by
  refine ⟨by rw [a.2.2.2]; exact h.1, ?_, a.nop h.2.2.1, a.jl h.2.2.2.1, ?_⟩
  · rw [a.2.1 4 (by decide) (by decide)]
    exact h.2.1
  · rw [a.1 9 (by decide) (by decide)]
    exact h.2.2.2.2
theorem AG.dau {G : GS} {T : MS} {lv : Nat → Prop} {fm : (Nat → Prop) → Prop} {S N M F : Nat} (a : AG g t G T) (h : DAU R lv fm S N M F g t) : DAU R lv fm S N M F G T := by
  refine ⟨fun d h1 h2 => ?_, fun ⟨l, h1, h2⟩ => ?_, a.jl h.2.2.1, ?_⟩
  · obtain ⟨A, v, p, X, j, x1, x2, x3⟩ := h.1 d h1 (a.hj.mp h2)
    exact ⟨A, v, p, X, a.jd.mpr j, x1, x2, by rw [a.2.2.2]; exact a.dku x3⟩
  · obtain ⟨X, x⟩ := h.2.1 ⟨l, h1, fun d q z => h2 d q (a.hj.mpr z)⟩
    exact ⟨X, by rw [a.2.2.2]; exact a.dku x⟩
  · rw [a.1 9 (by decide) (by decide)]
    exact h.2.2.2
theorem AG.clx {G : GS} {T : MS} {lv : Nat → Prop} {S N M F : Nat} {X : Nat → Nat → Int64} (a : AG g t G T) (h : CLX R lv S N M F X g t) : CLX R lv S N M F X G T := by
  refine ⟨by rw [a.2.2.2]; exact h.1, ?_, fun d h1 h2 => h.2.2.1 d h1 (a.hj.mp h2), ?_⟩
  · rw [a.2.1 4 (by decide) (by decide)]
    exact h.2.1
  · rw [a.1 9 (by decide) (by decide)]
    exact h.2.2.2
theorem AG.pre {G : GS} {T : MS} {lv : Nat → Prop} {S N M F : Nat} {X : Nat → Nat → Int64} (a : AG g t G T) (h : PRE R lv S N M F X g t) : PRE R lv S N M F X G T := by
  refine ⟨by rw [a.2.2.2]; exact h.1, ?_, a.nop h.2.2.1, a.jl h.2.2.2.1, ?_, ?_⟩
  · rw [a.2.1 4 (by decide) (by decide)]
    exact h.2.1
  · rw [a.1 9 (by decide) (by decide)]
    exact h.2.2.2.2.1
  · unfold BKR
    rw [a.2.2.2, a.1 9 (by decide) (by decide), a.2.1 3 (by decide) (by decide)]
    exact h.2.2.2.2.2
theorem AG.rfu {G : GS} {T : MS} {lv : Nat → Prop} {fm : (Nat → Prop) → Prop} {S N M F : Nat} {E : Nat → Nat → Prop} {X : Nat → Nat → Int64} (a : AG g t G T) (h : RFU lv fm S N M F E X g) : RFU lv fm S N M F E X G := by
  unfold RFU at *
  rw [a.2.1 4 (by decide) (by decide), a.1 9 (by decide) (by decide)]
  exact h
/-! fewer disks -/
theorem DKU.sub {lv lv2 : Nat → Prop} {fm fm2 : (Nat → Prop) → Prop} {S N M F : Nat} {E : Nat → Nat → Prop} {X : Nat → Nat → Int64} {val : Nat → Int64} (h : DKU R lv fm S N M F E X val g) (h1 : ∀ d, lv2 d → lv d) (h2 : ∀ l, fm2 l → fm l) : DKU R lv2 fm2 S N M F E X val g :=
  ⟨h.1, fun d r q => h.2.1 d r (h1 d q), h.2.2.1.imp (fun z d q => z d (h1 d q)) (fun z => ⟨z.1, z.2.imp id (fun w l q => w l (h2 l q))⟩), fun z d k q => h.2.2.2 z d k (h1 d q)⟩
theorem DAU.sub {lv lv2 : Nat → Prop} {fm fm2 : (Nat → Prop) → Prop} {S N M F : Nat} (h : DAU R lv fm S N M F g t) (h1 : ∀ d, lv2 d → lv d) (h2 : ∀ l, fm2 l → fm l) : DAU R lv2 fm2 S N M F g t := by
  refine ⟨fun d x1 x2 => ?_, fun ⟨l, x1, x2⟩ => ?_, fun d e f x1 x2 x3 x4 => h.2.2.1 d e f (h1 d x1) x2 (h1 e x3) (h1 f x4), fun d x => h.2.2.2 d (h1 d x)⟩
  · obtain ⟨A, v, p, X, j, y1, y2, y3⟩ := h.1 d (h1 d x1) x2
    exact ⟨A, v, p, X, j, y1, y2, y3.sub h1 h2⟩
  · obtain ⟨X, y⟩ := h.2.1 ⟨l, h2 l x1, x2⟩
    exact ⟨X, y.sub h1 h2⟩
theorem CLX.sub {lv lv2 : Nat → Prop} {S N M F : Nat} {X : Nat → Nat → Int64} (h : CLX R lv S N M F X g t) (h1 : ∀ d, lv2 d → lv d) : CLX R lv2 S N M F X g t :=
  ⟨h.1, fun d r q => h.2.1 d r (h1 d q), fun d q => h.2.2.1 d (h1 d q), fun d q => h.2.2.2 d (h1 d q)⟩
theorem UPX.sub {lv lv2 : Nat → Prop} {S N M F : Nat} {X : Nat → Nat → Int64} (h : UPX R lv S N M F X g t) (h1 : ∀ d, lv2 d → lv d) : UPX R lv2 S N M F X g t :=
  ⟨h.1, fun d r q => h.2.1 d r (h1 d q), fun d q => h.2.2.1 d (h1 d q), fun d e f x1 x2 x3 x4 => h.2.2.2.1 d e f (h1 d x1) x2 (h1 e x3) (h1 f x4), fun d q => h.2.2.2.2 d (h1 d q)⟩
/-! from one to the other -/
theorem CLX.up {lv : Nat → Prop} {S N M F : Nat} {X : Nat → Nat → Int64} (h : CLX R lv S N M F X g t) : UPX R lv S N M F X g t :=
  ⟨h.1, h.2.1, fun d x1 x2 => absurd x2 (h.2.2.1 d x1), fun d _ _ x1 x2 => absurd x2 (h.2.2.1 d x1), h.2.2.2⟩
theorem UPX.pre {lv : Nat → Prop} {S N M F : Nat} {X : Nat → Nat → Int64} (hS : S ≤ 2000) (h : UPX R lv S N M F X g t) : PRE R lv S N M F X g t :=
  ⟨h.1, fun d r x1 x2 x3 _ => h.2.1 d r x1 x2 x3, h.2.2.1, h.2.2.2.1, fun d x => (h.2.2.2.2 d x).elim (fun q z => ⟨q, by omega, z.2⟩), fun _ d k x1 x2 _ => by
    obtain ⟨q, z1, z2⟩ := h.2.2.2.2 d x1
    have := nI_inj (by omega) (by omega) (z2.symm.trans x2)
    omega⟩
theorem PRE.dau {lv : Nat → Prop} {fm : (Nat → Prop) → Prop} {S N M F : Nat} {X : Nat → Nat → Int64} (h : PRE R lv S N M F X g t) (hr : RFU lv fm S N M F (fun _ _ => False) X g) : DAU R lv fm S N M F g t := by
  obtain ⟨h1, h2, h3, h4, h5, h6⟩ := h
  refine ⟨fun d x1 x2 => ?_, fun _ => ⟨X, h1, fun d r x1 x2 x3 _ x4 => h2 d r x1 x2 x3 x4, hr, h6⟩, h4, h5⟩
  obtain ⟨A, v, p, j, y1, y2⟩ := h3 d x1 x2
  have e : va_up (t.2.2 1) A v = t.2.2 1 := up_same ((h1.2.1 A (Or.inl y1)).symm.trans y2.1)
  refine ⟨A, v, p, X, j, y1, y2, ?_⟩
  rw [e]
  exact ⟨h1, fun d r x1 x2 x3 _ x4 => h2 d r x1 x2 x3 x4, hr.imp (fun z d q1 q2 _ => z d q1 q2 (fun w => w)) id, h6⟩
theorem UPX.rfu {lv : Nat → Prop} {fm : (Nat → Prop) → Prop} {S N M F : Nat} {X : Nat → Nat → Int64} (hF : F < R) (h : UPX R lv S N M F X g t) : RFU lv fm S N M F (fun _ _ => False) X g := Or.inl (fun d x1 x2 _ => h.2.1 d F x1 hF x2)
theorem UPX.dau {lv : Nat → Prop} {fm : (Nat → Prop) → Prop} {S N M F : Nat} {X : Nat → Nat → Int64} (hS : S ≤ 2000) (hF : F < R) (h : UPX R lv S N M F X g t) : DAU R lv fm S N M F g t := (h.pre hS).dau (h.rfu hF)
/-! the disks that are there -/
theorem one_01 (h : one9 nd g) (hn : 3 ≤ nd) : lvD nd g 0 ∨ lvD nd g 1 := by
  by_cases c : lvD nd g 0
  · exact Or.inl c
  · refine Or.inr (Classical.byContradiction (fun q => ?_))
    exact absurd (h 0 1 (by omega) (by omega) c q) (by decide)
theorem fam_01 {l : Nat → Prop} (h : one9 nd g) (hn : 3 ≤ nd) (hf : fam nd g l) : l 0 ∨ l 1 := by
  rcases hf with q | ⟨q1, e, he, q2⟩
  · rw [q]
    exact one_01 h hn
  · rw [q2]
    by_cases c : e = 0
    · exact Or.inr ⟨q1 1 (by omega), by omega⟩
    · exact Or.inl ⟨q1 0 (by omega), by omega⟩
theorem fam_sub {l : Nat → Prop} (hf : fam nd g l) : ∀ d, l d → lvD nd g d := by
  intro d hd
  rcases hf with q | ⟨q1, e, he, q2⟩
  · rw [q] at hd; exact hd
  · rw [q2] at hd; exact hd.1
theorem fam_cg {G : GS} (h : ∀ d, lvD nd G d ↔ lvD nd g d) {l : Nat → Prop} : fam nd G l ↔ fam nd g l := by
  have e : lvD nd G = lvD nd g := funext (fun d => propext (h d))
  unfold fam
  rw [e]
theorem c2_le1 (g : GS) : ∀ k, c2 g k ≤ k
  | 0 => Nat.le_refl _
  | k + 1 => by
    have := c2_le1 g k
    show (if gf_1_isLive_d 0 0 g k = 0 then c2 g k else c2 g k + 1) ≤ _
    split <;> omega
theorem lvd_c {d : Nat} (hd : d < nd) : ¬ gf_1_isLive_d 0 0 g d = 0 ↔ lvD nd g d := by
  rw [lvd_iff]
  unfold lvD
  exact ⟨fun z => ⟨hd, Classical.not_not.mp z⟩, fun z w => w z.2⟩
theorem c2_s (g : GS) (k : Nat) : c2 g (k + 1) = if gf_1_isLive_d 0 0 g k = 0 then c2 g k else c2 g k + 1 := rfl
theorem c2_ge {d e f : Nat} (he : lvD nd g e) (hf : lvD nd g f) (h1 : e < f) (h2 : f < d) : 2 ≤ c2 g d := by
  have a1 : c2 g (e + 1) = c2 g e + 1 := by rw [c2_s, if_neg ((lvd_c he.1).mpr he)]
  have a2 : c2 g (f + 1) = c2 g f + 1 := by rw [c2_s, if_neg ((lvd_c hf.1).mpr hf)]
  have a3 := c2_le (g := g) (show e + 1 ≤ f by omega)
  have a4 := c2_le (g := g) (show f + 1 ≤ d by omega)
  omega
theorem c2_one : ∀ d, d ≤ nd → 1 ≤ c2 g d → ∃ e, lvD nd g e ∧ e < d
  | 0, _, h => by simp [c2] at h
  | d + 1, hd, h => by
    rw [c2_s] at h
    by_cases c : gf_1_isLive_d 0 0 g d = 0
    · rw [if_pos c] at h
      obtain ⟨e, h1, h2⟩ := c2_one d (by omega) h
      exact ⟨e, h1, by omega⟩
    · exact ⟨d, (lvd_c (by omega)).mp c, by omega⟩
theorem c2_two : ∀ d, d ≤ nd → 2 ≤ c2 g d → ∃ e f, lvD nd g e ∧ lvD nd g f ∧ e < f ∧ f < d
  | 0, _, h => by simp [c2] at h
  | d + 1, hd, h => by
    rw [c2_s] at h
    by_cases c : gf_1_isLive_d 0 0 g d = 0
    · rw [if_pos c] at h
      obtain ⟨e, f, h1, h2, h3, h4⟩ := c2_two d (by omega) h
      exact ⟨e, f, h1, h2, h3, by omega⟩
    · rw [if_neg c] at h
      obtain ⟨e, h1, h2⟩ := c2_one (nd := nd) (g := g) d (by omega) (by omega)
      exact ⟨e, d, h1, (lvd_c (by omega)).mp c, h2, by omega⟩
end DD
