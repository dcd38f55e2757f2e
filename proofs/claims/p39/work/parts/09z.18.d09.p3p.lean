/-! Names at the law. -/
theorem sp_NN (ad : Nat → Nat) : ac_Sp [(4, 0, 8), (11, 0, 25), (12, 0, 25), (53, 4, 4), (54, 4, 4), (55, 0, 8), (62, 0, 25), (63, 0, 25), (64, 0, 8), (71, 0, 25), (72, 0, 25)] (fun u => nnI (st ad u)) := fun u u' h q => by
  have k3 := h 53 4 (sp_of (a := 4) (b := 4) (by simp) (by omega) (by omega))
  have k4 := h 54 4 (sp_of (a := 4) (b := 4) (by simp) (by omega) (by omega))
  have j4 : ∀ j, j ≤ 8 → u'.1 4 j = u.1 4 j := fun j hj => h 4 j (sp_of (a := 0) (b := 8) (by simp) (by omega) (by omega))
  have j11 : ∀ j, j < 26 → u'.1 11 j = u.1 11 j := fun j hj => h 11 j (sp_of (a := 0) (b := 25) (by simp) (by omega) (by omega))
  have j12 : ∀ j, j < 26 → u'.1 12 j = u.1 12 j := fun j hj => h 12 j (sp_of (a := 0) (b := 25) (by simp) (by omega) (by omega))
  have j55 : ∀ j, j ≤ 8 → u'.1 55 j = u.1 55 j := fun j hj => h 55 j (sp_of (a := 0) (b := 8) (by simp) (by omega) (by omega))
  have j62 : ∀ j, j < 26 → u'.1 62 j = u.1 62 j := fun j hj => h 62 j (sp_of (a := 0) (b := 25) (by simp) (by omega) (by omega))
  have j63 : ∀ j, j < 26 → u'.1 63 j = u.1 63 j := fun j hj => h 63 j (sp_of (a := 0) (b := 25) (by simp) (by omega) (by omega))
  have j64 : ∀ j, j ≤ 8 → u'.1 64 j = u.1 64 j := fun j hj => h 64 j (sp_of (a := 0) (b := 8) (by simp) (by omega) (by omega))
  have j71 : ∀ j, j < 26 → u'.1 71 j = u.1 71 j := fun j hj => h 71 j (sp_of (a := 0) (b := 25) (by simp) (by omega) (by omega))
  have j72 : ∀ j, j < 26 → u'.1 72 j = u.1 72 j := fun j hj => h 72 j (sp_of (a := 0) (b := 25) (by simp) (by omega) (by omega))
  obtain ⟨q1, q2, q3⟩ := q
  refine ⟨NY.cg q1 j4 (fun _ _ => rfl) j11 j12 (fun _ _ => rfl), fun z => NY.cg (q2 ?_) j55 (fun _ _ => rfl) j62 j63 (fun _ _ => rfl), fun z => NY.cg (q3 ?_) j64 (fun _ _ => rfl) j71 j72 (fun _ _ => rfl)⟩
  · show (u.1 53 4).toInt ≠ 0
    rw [← k3]
    exact z
  · show (u.1 54 4).toInt ≠ 0
    rw [← k4]
    exact z
theorem cm_sentence {u u1 u2 : ac_U} {L1 : List (Nat × Option Nat)} {r1 r2 : Int32} (hF1 : ac_Fr L1 u u1) (h1 : L1.all (fun e => decide (e.1 < 85)) = true) (x1 : f_X11_sentence_0 u = (u1, r1)) (x2 : f_X12_sentence_85 u1 = (u2, r2)) (hR : ac_R rg u) (hl : (u.1 1 2).toInt = (u.1 85 2).toInt) (hB : byI u) (hZ : nnI u) (hH : hxI u) : r1 = r2 ∧ u1.1 1 10 = u2.1 85 15 := by
  have s1 := ql_X11_sentence_0 u
  rw [x1] at s1
  have l90 : u1.2 90 = u.2 90 := funext fun k => s1 90 k rfl
  have hb8 : ∀ s : Nat, s < 4 → 0 ≤ (u.1 4 (cp s)).toInt ∧ (u.1 4 (cp s)).toInt ≤ 8 := fun s hs => by
    have g1 := hR 4 1
    have g4 := hR 4 4
    have g5 := hR 4 5
    have g6 := hR 4 6
    rcases (show s = 0 ∨ s = 1 ∨ s = 2 ∨ s = 3 by omega) with e | e | e | e <;> subst e
    · exact g1
    · exact ⟨g4.1, Int.le_trans g4.2 (by decide)⟩
    · exact ⟨g5.1, Int.le_trans g5.2 (by decide)⟩
    · exact g6
  have h := sentence_sim (u := u) (w := u1) (fun k => by rw [kC hF1 h1 (by decide)]; exact hB k) (by rw [kC hF1 h1 (by decide)]; exact Int32.toInt_inj.mp hl) ⟨hR 1 2, fun k => hR 2 k⟩ ⟨by rw [l90]; exact hZ.1.1, hb8, hR 4 8⟩ (by rw [kC hF1 h1 (by decide)]; exact hH.1.1 4 (by decide))
  rw [x1, x2] at h
  exact h
