/-! ===== the calls: step, rebuild ===== -/
section SIMP
variable {R nd b : Nat} {g : GS} {t : MS} {U : Int32}
theorem nw_resh {N M F : Nat} {nw : T4} {G : GS} {T : MS} (hnd : nd ≤ 10) (hNM : N < M) (hM : M ≤ nd) (hB : BI R nd b G T) (hH : HLD T = nw) (hc : (F + 1 = R ∧ nw.2 = (nI M, nI M, 0)) ∨ (¬ F + 1 = R ∧ nw.2 = (nI N, nI M, nI (F + 1)))) : (if gf_4_isReshaped R nd G = 0 then (2 : Int32) else 1) = if F + 1 = R then 2 else 1 := by
  rw [resh_eq hB hnd]
  unfold mf_isReshaped
  have e2 : T.1 2 = nw.2.1 := congrArg (fun x : T4 => x.2.1) hH
  have e3 : T.1 3 = nw.2.2.1 := congrArg (fun x : T4 => x.2.2.1) hH
  rw [e2, e3]
  rcases hc with ⟨c, e⟩ | ⟨c, e⟩
  · rw [e, if_pos c, if_pos rfl, if_pos rfl]
  · rw [e, if_neg c, if_neg (show ¬ nI M = nI N from fun q => by have := nI_inj (by omega) (by omega) q; omega), if_neg (show ¬ (1 : Int32) = 0 by decide)]
theorem op_step (hn : 3 ≤ nd ∧ nd ≤ 10) (hR : 2 ≤ R ∧ R ≤ 48) (hb : b ≤ 1000) (h : INV R nd b g t) (y : Int64) :
    mf_thrown R nd (mf_step R nd t).2 = (lr_step R nd g y).1 ∧ ((lr_step R nd g y).1 = 0 → (lr_step R nd g y).2.2.2 = ((mf_step R nd t).1).toInt64) ∧ (lr_step R nd g y).2.1 = nd ∧ INV R nd (b + 1) (lr_step R nd g y).2.2.1 (mf_step R nd t).2 := by
  unfold lr_step mf_step mf_thrown gf_4_step
  rcases h with h | h
  · obtain ⟨hB, hu, hu2, h3, ⟨B, hB1, hB2⟩, hh⟩ := id h
    have hU : ¬ g.1 1 = 0 := by rw [hu]; decide
    have hU2 : ¬ t.1 5 = 0 := by rw [hu2]; decide
    have hth := INV.th (v := 0) (Or.inl h)
    rw [if_neg hU, if_neg hU2]
    obtain ⟨S, N, M, F, e1, e2, e3, e4, f1, f2, f3, f4, r1, r2, r3, r4, r5, r6, r7⟩ := hB.nums
    have hB0 : BI R nd b g (si t 0 0) := hB
    rw [resh_eq (R := R) hB0 hn.2]
    by_cases c0 : mf_isReshaped R nd (si t 0 0) = 0
    · rw [if_pos c0, if_pos c0]
      exact ⟨rfl, fun _ => rfl, rfl, hth⟩
    · rw [if_neg c0, if_neg c0]
      have hNM : N < M := by
        rcases Nat.lt_or_ge N M with q | q
        · exact q
        · exfalso
          apply c0
          unfold mf_isReshaped
          rw [if_pos (show (si t 0 0).1 3 = (si t 0 0).1 2 by show t.1 3 = t.1 2; rw [e2, e3, show M = N by omega])]
      rcases rb_eq (R := R) hn.2 hB0 with ⟨x1, x2⟩ | ⟨i, hi, x1, x2, x3, x4⟩
      · rw [if_pos x1, if_pos x2]
        obtain ⟨gc1, gc2⟩ := gather_ct (R := R) (nd := nd) (g := g)
        have hBg : BI R nd b (gf_4_gatherRowValues R nd g) (si t 0 0) := BI_ct gc1 gc2 hB0
        rw [crit_eq (R := R) hBg.1]
        have hug : (gf_4_gatherRowValues R nd g).1 1 = 1 := by rw [gc1]; exact hu
        have h3g : (gf_4_gatherRowValues R nd g).1 3 = (si t 0 0).1 7 ∧ (si t 0 0).1 5 = 1 := ⟨by rw [gc1]; exact h3, hu2⟩
        have hB3 : ∃ B : Nat, B < R ∧ (gf_4_gatherRowValues R nd g).1 3 = nI B := ⟨B, hB1, by rw [gc1, h3, hB2]⟩
        generalize gf_4_gatherRowValues R nd g = g2 at hBg hug h3g hB3
        by_cases c1 : mf_isCritical R nd (si t 0 0) = 0
        · rw [if_pos c1, if_pos c1]
          obtain ⟨nw, k1, k2⟩ := MOVEEND (R := R) (t := si t 0 0) hn.2 hR hb hBg hh hug h3g e2 e3 e4 hNM r3 r5 r6
          rcases k2 with ⟨k2, k3⟩ | ⟨k2, k3⟩
          · have hi := fe_inv hB3 k3
            rcases k3 with ⟨d1, d2, d3, d4, d5, d6, d7, d8⟩ | ⟨d1, -⟩
            · have z := nw_resh hn.2 hNM r5 d3 d5 k1
              rw [d2, if_neg (show ¬ (1 : Int32) = 0 by decide), k2, ← z]
              split
              · exact ⟨d8, fun _ => rfl, rfl, hi⟩
              · exact ⟨d8, fun _ => rfl, rfl, hi⟩
            · exact absurd d1 (by decide)
          · have hi := fe_inv hB3 k3
            rcases k3 with ⟨d1, -⟩ | ⟨d1, d2, d3, d4, d5⟩
            · exact absurd d1 (by decide)
            · rw [d2, if_pos rfl, k2]
              exact ⟨d5, fun _ => rfl, rfl, hi⟩
        · rw [if_neg c1, if_neg c1]
          obtain ⟨nw, k1, k2⟩ := BKMOVE (R := R) (t := si t 0 0) hn.2 hR hb hBg hh hug h3g e2 e3 e4 hNM r3 r5 r6
          rcases k2 with ⟨k2, k3⟩ | ⟨k2, ⟨k4, k3⟩ | ⟨k4, k3⟩⟩
          · have hi := fe_inv hB3 k3
            rcases k3 with ⟨d1, -⟩ | ⟨d1, d2, d3, d4, d5⟩
            · exact absurd d1 (by decide)
            · rw [d2, if_pos rfl, if_pos k2]
              exact ⟨d5, fun _ => rfl, rfl, hi⟩
          · have hi := fe_inv hB3 k3
            rcases k3 with ⟨d1, d2, d3, d4, d5, d6, d7, d8⟩ | ⟨d1, -⟩
            · have z := nw_resh hn.2 hNM r5 d3 d5 k1
              rw [d2, if_neg (show ¬ (1 : Int32) = 0 by decide), if_neg k2, k4, ← z]
              split
              · exact ⟨d8, fun _ => rfl, rfl, hi⟩
              · exact ⟨d8, fun _ => rfl, rfl, hi⟩
            · exact absurd d1 (by decide)
          · have hi := fe_inv hB3 k3
            rcases k3 with ⟨d1, -⟩ | ⟨d1, d2, d3, d4, d5⟩
            · exact absurd d1 (by decide)
            · rw [d2, if_pos rfl, if_neg k2, k4]
              exact ⟨d5, fun _ => rfl, rfl, hi⟩
      · rw [if_neg (show ¬ gf_4_rebuildingDisk R nd g = -1 by rw [x1]; exact nI_m1 (by omega)), if_neg x3]
        exact ⟨rfl, fun _ => rfl, rfl, hth⟩
  · rw [if_pos h.2.1, if_pos h.2.2.1]
    exact ⟨rfl, fun q => absurd (show (1 : Int32) = 0 from q) (by decide), rfl, INV.th (Or.inr h)⟩
end SIMP
