/-! Names at the law. -/
theorem cm_sentence {u u1 u2 : ac_U} {L1 : List (Nat × Option Nat)} {r1 r2 : Int32} (hF1 : ac_Fr L1 u u1) (h1 : L1.all (fun e => decide (e.1 < 85)) = true) (x1 : f_X11_sentence_0 u = (u1, r1)) (x2 : f_X12_sentence_85 u1 = (u2, r2)) (hR : ac_R rg u) (hl : (u.1 1 2).toInt = (u.1 85 2).toInt) (hB : byI u) (hZ : nnI u) (hH : hxI u) : r1 = r2 ∧ u1.1 1 10 = u2.1 85 15 := by
  have s1 := ql_X11_sentence_0 u
  rw [x1] at s1
  have l90 : u1.2 90 = u.2 90 := funext fun k => s1 90 k rfl
  have hb8 : ∀ s : Nat, s < 4 → 0 ≤ (u.1 4 (cp s)).toInt ∧ (u.1 4 (cp s)).toInt ≤ 8 := fun s hs => by
    have g1 := hR 4 1
    have g4 := hR 4 4
    have g5 := hR 4 5
    have g6 := hR 4 6
    rcases (show s = 0 ∨ s = 1 ∨ s = 2 ∨ s = 3 by omega) with e | e | e | e <;> subst e
    · exact g1
    · exact ⟨g4.1, Int.le_trans g4.2 (by decide)⟩
    · exact ⟨g5.1, Int.le_trans g5.2 (by decide)⟩
    · exact g6
  have h := sentence_sim (u := u) (w := u1) (fun k => by rw [kC hF1 h1 (by decide)]; exact hB k) (by rw [kC hF1 h1 (by decide)]; exact Int32.toInt_inj.mp hl) ⟨hR 1 2, fun k => hR 2 k⟩ ⟨by rw [l90]; exact hZ.1.1, hb8, hR 4 8⟩ (by rw [kC hF1 h1 (by decide)]; exact hH.1.1 4 (by decide))
  rw [x1, x2] at h
  exact h
