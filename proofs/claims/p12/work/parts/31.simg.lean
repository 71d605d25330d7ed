/-! ===== what holds at each call: the supers of the live disks, the journals' geometry ===== -/
section SIMG
variable {R nd : Nat} {g : GS} {t : MS}
abbrev T4 : Type := Int32 × Int32 × Int32 × Int32
def SUP (t : MS) (d : Nat) : T4 := (t.2.1 2 d, t.2.1 3 d, t.2.1 4 d, t.2.1 5 d)
def HLD (t : MS) : T4 := (t.1 1, t.1 2, t.1 3, t.1 4)
def Geo9 (R nd b : Nat) (s : T4) : Prop := ∃ S N M F : Nat, s = (nI S, nI N, nI M, nI F) ∧ 1 ≤ S ∧ S ≤ b ∧ 3 ≤ N ∧ N ≤ M ∧ M ≤ nd ∧ F < R ∧ (N = M → F = 0)
theorem Geo9.mono {b b2 nd2 : Nat} {s : T4} (h : Geo9 R nd b s) (hb : b ≤ b2) (hn : nd ≤ nd2) : Geo9 R nd2 b2 s := by
  obtain ⟨S, N, M, F, e, h1, h2, h3, h4, h5, h6, h7⟩ := h
  exact ⟨S, N, M, F, e, h1, by omega, h3, h4, by omega, h6, h7⟩
/-- the geometry in numbers -/
def widN (N M F A : Nat) : Nat := if F * (M - 1) ≤ A then N else M
def rowN (w A : Nat) : Nat := A / (w - 1)
def parN (w A : Nat) : Nat := w - 1 - A / (w - 1) % w
def dskN (w A : Nat) : Nat := (w - 1 - A / (w - 1) % w + 1 + A % (w - 1)) % w
/-- disk e's journal tells place A by the geometry of s -/
def JG (R : Nat) (g : GS) (t : MS) (e : Nat) (s : T4) : Prop := ∃ N M F A : Nat, s.2 = (nI N, nI M, nI F) ∧ 3 ≤ N ∧ N ≤ M ∧ M ≤ 10 ∧ F < R ∧ t.2.1 8 e = nI A ∧ A < R * (N - 1) ∧ g.2.1 6 e = nI (rowN (widN N M F A) A) ∧ g.2.1 7 e = nI (dskN (widN N M F A) A) ∧ g.2.1 8 e = nI (parN (widN N M F A) A)
/-- what a journal may tell -/
def JV (R b : Nat) (g : GS) (t : MS) (e : Nat) (s : T4) : Prop := ∃ Q S : Nat, t.2.1 7 e = nI Q ∧ s.1 = nI S ∧ Q ≤ S ∧ S ≤ b ∧ (Q = S → JG R g t e s)
def BI (R nd b : Nat) (g : GS) (t : MS) : Prop := MM nd nd g t ∧ Geo9 R nd b (HLD t) ∧ (∀ d, d < nd → t.2.1 0 d = 0 → Geo9 R nd b (SUP t d)) ∧ (∀ d e, d < nd → e < nd → t.2.1 0 d = 0 → t.2.1 0 e = 0 → t.2.1 2 d = t.2.1 2 e → SUP t d = SUP t e) ∧ (∀ d e, d < nd → e < nd → t.2.1 0 d = 0 → ¬ t.2.1 0 e = 1 → ¬ t.2.1 6 e = 0 → JV R b g t e (SUP t d)) ∧ (∀ i j, i < nd → j < nd → ¬ t.2.1 0 i = 0 → ¬ t.2.1 0 j = 0 → i = j) ∧ (∀ i, vp_in (t.2.1 8 i) 432) ∧ ∀ d, nd ≤ d → g.2.1 5 d = 0 ∧ g.2.1 9 d = 0 ∧ g.2.1 10 d = 0 ∧ g.2.1 11 d = 0
/-- up: all that is live agrees on what holds -/
def UPI (R nd b : Nat) (g : GS) (t : MS) : Prop := BI R nd b g t ∧ g.1 1 = 1 ∧ t.1 5 = 1 ∧ g.1 3 = t.1 7 ∧ (∃ B : Nat, B < R ∧ t.1 7 = nI B) ∧ ∀ d, d < nd → t.2.1 0 d = 0 → SUP t d = HLD t
def DNI (R nd b : Nat) (g : GS) (t : MS) : Prop := BI R nd b g t ∧ g.1 1 = 0 ∧ t.1 5 = 0 ∧ t.1 7 = 0
/-- a disk's journal stays, on both sides -/
def JS (g : GS) (t : MS) (G : GS) (T : MS) (d : Nat) : Prop := T.2.1 6 d = t.2.1 6 d ∧ T.2.1 7 d = t.2.1 7 d ∧ T.2.1 8 d = t.2.1 8 d ∧ G.2.1 6 d = g.2.1 6 d ∧ G.2.1 7 d = g.2.1 7 d ∧ G.2.1 8 d = g.2.1 8 d
theorem JG.same {G : GS} {T : MS} {e : Nat} {s : T4} (hj : JS g t G T e) (h : JG R g t e s) : JG R G T e s := by
  obtain ⟨N, M, F, A, h1, h2, h3, h4, h5, h6, h7, h8, h9, h10⟩ := h
  exact ⟨N, M, F, A, h1, h2, h3, h4, h5, hj.2.2.1.trans h6, h7, hj.2.2.2.1.trans h8, hj.2.2.2.2.1.trans h9, hj.2.2.2.2.2.trans h10⟩
/-- a part of a call, from where all that is live agrees: supers go to nw alone, journals are told by what holds -/
theorem BI_tr {b : Nat} {G : GS} {T : MS} {nw : T4} (hb : b ≤ 1000) (h : BI R nd b g t) (hh : ∀ d, d < nd → t.2.1 0 d = 0 → SUP t d = HLD t) (hM : MM nd nd G T) (hnw : Geo9 R nd (b + 1) nw) (hn1 : nw.1 = t.1 1 + 1)
    (hH : HLD T = HLD t ∨ HLD T = nw) (hO : ∀ i j, i < nd → j < nd → ¬ T.2.1 0 i = 0 → ¬ T.2.1 0 j = 0 → i = j)
    (hS : ∀ d, d < nd → T.2.1 0 d = 0 → SUP T d = HLD t ∨ SUP T d = nw) (hE : ∀ d, d < nd → T.2.1 0 d = 0 → ∃ d0, d0 < nd ∧ t.2.1 0 d0 = 0)
    (hJ : ∀ e, e < nd → ¬ T.2.1 0 e = 1 → ¬ T.2.1 6 e = 0 → (¬ t.2.1 0 e = 1 ∧ JS g t G T e) ∨ (T.2.1 7 e = t.1 1 ∧ JG R G T e (HLD t)))
    (hV : ∀ i, vp_in (T.2.1 8 i) 432) (hF : ∀ q d, nd ≤ d → G.2.1 q d = g.2.1 q d) : BI R nd (b + 1) G T := by
  obtain ⟨hm, hg, hgs, hp, hj, ho, hv, hf⟩ := h
  obtain ⟨S, N, M, F, e0, a1, a2, a3, a4, a5, a6, a7⟩ := id hg
  have es : t.1 1 = nI S := congrArg Prod.fst e0
  have en : nw.1 = nI (S + 1) := by rw [hn1, es, nI_1]
  obtain ⟨S2, N2, M2, F2, e2, c1, c2, c3⟩ := id hnw
  have hS2 : nI S2 = nI (S + 1) := by rw [← en, e2]
  have hG : Geo9 R nd (b + 1) (HLD t) := hg.mono (by omega) (Nat.le_refl _)
  have hcase := hS
  have hne : ¬ nI S = nI (S + 1) := fun q => by have := nI_inj (show S < 2 ^ 31 by omega) (show S + 1 < 2 ^ 31 by omega) q; omega
  refine ⟨hM, hH.elim (fun q => q ▸ hG) (fun q => q ▸ hnw), fun d h1 h2 => (hcase d h1 h2).elim (fun q => q ▸ hG) (fun q => q ▸ hnw), ?_, ?_, ?_, hV, fun d hd => by rw [hF 5 d hd, hF 9 d hd, hF 10 d hd, hF 11 d hd]; exact hf d hd⟩
  · intro d e h1 h2 h3 h4 h5
    have x1 : T.2.1 2 d = (SUP T d).1 := rfl
    have x2 : T.2.1 2 e = (SUP T e).1 := rfl
    rw [x1, x2] at h5
    rcases hcase d h1 h3 with q | q <;> rcases hcase e h2 h4 with r | r
    · rw [q, r]
    · rw [q, r, show (HLD t).1 = nI S from es, en] at h5
      exact absurd h5 hne
    · rw [q, r, show (HLD t).1 = nI S from es, en] at h5
      exact absurd h5.symm hne
    · rw [q, r]
  · intro d e h1 h2 h3 h4 h5
    -- the journal of e is of S at most, and if of S by what held
    have key : ∃ Q, T.2.1 7 e = nI Q ∧ Q ≤ S ∧ (Q = S → JG R G T e (HLD t)) := by
      obtain ⟨d0, hd0, l0⟩ := hE d h1 h3
      rcases hJ e h2 h4 h5 with ⟨q1, q3⟩ | ⟨q3, q4⟩
      · obtain ⟨Q, S9, r1, r2, r3, r4, r5⟩ := hj d0 e hd0 h2 l0 q1 (by rw [← q3.1]; exact h5)
        rw [hh d0 hd0 l0] at r2 r5
        have r7 : S9 = S := nI_inj (by omega) (by omega) (r2.symm.trans es)
        subst r7
        exact ⟨Q, q3.2.1.trans r1, r3, fun q => (r5 q).same q3⟩
      · exact ⟨S, q3.trans es, Nat.le_refl _, fun _ => q4⟩
    obtain ⟨Q, k1, k2, k3⟩ := key
    rcases hcase d h1 h3 with q | q
    · rw [q]
      exact ⟨Q, S, k1, es, k2, by omega, k3⟩
    · rw [q]
      exact ⟨Q, S + 1, k1, en, by omega, by omega, fun z => by omega⟩
  · exact hO
end SIMG
