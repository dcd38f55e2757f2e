/-! The invariants hold at the start. (printed by wip/p41/gen/conv.py) -/
def r0k (r : Int × Int) (v : Int32) : Prop := r.1 ≤ v.toInt ∧ v.toInt ≤ r.2
theorem r0_z {r : Int × Int} {v : Int32} (hv : v = 0) (h : r.1 ≤ 0 ∧ 0 ≤ r.2) : r0k r v := by
  subst hv
  exact h
theorem r0_if {c : Prop} [Decidable c] {a b : Int × Int} {v : Int32} (h1 : c → r0k a v) (h2 : ¬ c → r0k b v) : r0k (if c then a else b) v := by
  by_cases h : c
  · rw [if_pos h]; exact h1 h
  · rw [if_neg h]; exact h2 h
theorem r0_T {r : Int × Int} (h : r = rgT) (v : Int32) : r0k r v := by
  subst h
  exact ⟨Int32.le_toInt v, Int32.toInt_le v⟩
theorem r0_l {L : List (Int × Int)} {g : Nat → Int32} (h : ∀ k, k < L.length → r0k (L.getD k rgT) (g k)) (k : Nat) : r0k (L.getD k rgT) (g k) := by
  by_cases hk : k < L.length
  · exact h k hk
  · refine r0_T ?_ _
    simp [List.getD, List.getElem?_eq_none (Nat.not_lt.mp hk)]
theorem r0_b {L : List (Int × Int)} {g : Nat → Int32} (h : (L.zipIdx.all (fun z => decide (z.1.1 ≤ (g z.2).toInt) && decide ((g z.2).toInt ≤ z.1.2))) = true) (k : Nat) : r0k (L.getD k rgT) (g k) := by
  refine r0_l (fun k hk => ?_) k
  have h1 := List.all_eq_true.mp h (L[k], k) (by
    rw [List.mem_iff_getElem?]
    exact ⟨k, by simp [hk]⟩)
  simp only [Bool.and_eq_true, decide_eq_true_eq] at h1
  rw [List.getD_eq_getElem?_getD, List.getElem?_eq_getElem hk]
  exact h1
theorem r0_0 : ∀ k, r0k (rg 0 k) ((fun _ => 0) k) := fun k => r0_b (L := [rgT, rgT, rgT, rgT, rgT, rgT, rgT, rgT, rgT, rgT, rgT, rgT, rgT, rgT, (0, 1)]) (g := (fun _ => 0)) (by decide +kernel) k
theorem r0_1 : ∀ k, r0k (rg 1 k) ((fun _ => 0) k) := fun k => r0_b (L := [rgT, rgT, (0, 940), (0, 900), (0, 940), (0, 940), (-128, 127), rgT, rgT, (0, 7), (0, 4), (0, 940)]) (g := (fun _ => 0)) (by decide +kernel) k
theorem r0_2 : ∀ k, r0k (rg 2 k) ((fun _ => 0) k) := fun _ => (⟨by decide, by decide⟩ : r0k (-128, 127) 0)
theorem r0_3 : ∀ k, r0k (rg 3 k) ((fun _ => 0) k) := fun k => r0_T rfl _
theorem r0_4 : ∀ k, r0k (rg 4 k) (h24 k) := fun k => r0_b (L := [(4, 24), (0, 8), (0, 12), (0, 6), (0, 4), (0, 6), (0, 8), (0, 8), (0, 26), rgT, rgT, rgT, rgT, rgT, rgT, rgT, rgT]) (g := h24) (by decide +kernel) k
theorem r0_5 : ∀ k, r0k (rg 5 k) ((fun _ => 0) k) := fun k => r0_T rfl _
theorem r0_6 : ∀ k, r0k (rg 6 k) ((fun _ => 0) k) := fun _ => (⟨by decide, by decide⟩ : r0k (0, 7) 0)
theorem r0_7 : ∀ k, r0k (rg 7 k) ((fun _ => 0) k) := fun _ => (⟨by decide, by decide⟩ : r0k (0, 7) 0)
theorem r0_8 : ∀ k, r0k (rg 8 k) ((fun _ => 0) k) := fun k => (r0_if (fun h0 => r0_T rfl _) (fun g0 => r0_if (fun h1 => r0_z rfl ⟨by decide, by decide⟩) (fun g1 => r0_if (fun h2 => r0_T rfl _) (fun g2 => r0_if (fun h3 => r0_z rfl ⟨by decide, by decide⟩) (fun g3 => r0_T rfl _)))) : r0k ((fun k => (fun j => if j < 2 then rgT else if j < 3 then (0, 7) else if j < 5 then rgT else if j < 6 then (0, 3) else rgT) (k % 8)) k) ((fun _ => 0) k))
theorem r0_9 : ∀ k, r0k (rg 9 k) ((fun _ => 0) k) := fun k => r0_T rfl _
theorem r0_10 : ∀ k, r0k (rg 10 k) ((fun _ => 0) k) := fun k => r0_T rfl _
theorem r0_11 : ∀ k, r0k (rg 11 k) ((fun _ => 0) k) := fun _ => (⟨by decide, by decide⟩ : r0k (0, 3) 0)
theorem r0_12 : ∀ k, r0k (rg 12 k) ((fun _ => 0) k) := fun _ => (⟨by decide, by decide⟩ : r0k (0, 7) 0)
theorem r0_13 : ∀ k, r0k (rg 13 k) (h24 k) := fun k => r0_b (L := [(4, 24), (0, 8), (0, 12), (0, 6), (0, 4), (0, 6), (0, 8), (0, 8), (0, 26), rgT, rgT, rgT, rgT, rgT, rgT, rgT, rgT]) (g := h24) (by decide +kernel) k
theorem r0_14 : ∀ k, r0k (rg 14 k) ((fun _ => 0) k) := fun k => r0_T rfl _
theorem r0_15 : ∀ k, r0k (rg 15 k) ((fun _ => 0) k) := fun _ => (⟨by decide, by decide⟩ : r0k (0, 7) 0)
theorem r0_16 : ∀ k, r0k (rg 16 k) ((fun _ => 0) k) := fun _ => (⟨by decide, by decide⟩ : r0k (0, 7) 0)
theorem r0_17 : ∀ k, r0k (rg 17 k) ((fun _ => 0) k) := fun k => (r0_if (fun h0 => r0_T rfl _) (fun g0 => r0_if (fun h1 => r0_z rfl ⟨by decide, by decide⟩) (fun g1 => r0_if (fun h2 => r0_T rfl _) (fun g2 => r0_if (fun h3 => r0_z rfl ⟨by decide, by decide⟩) (fun g3 => r0_T rfl _)))) : r0k ((fun k => (fun j => if j < 2 then rgT else if j < 3 then (0, 7) else if j < 5 then rgT else if j < 6 then (0, 3) else rgT) (k % 8)) k) ((fun _ => 0) k))
theorem r0_18 : ∀ k, r0k (rg 18 k) ((fun _ => 0) k) := fun k => r0_T rfl _
theorem r0_19 : ∀ k, r0k (rg 19 k) ((fun _ => 0) k) := fun k => r0_T rfl _
theorem r0_20 : ∀ k, r0k (rg 20 k) ((fun _ => 0) k) := fun _ => (⟨by decide, by decide⟩ : r0k (0, 3) 0)
theorem r0_21 : ∀ k, r0k (rg 21 k) ((fun _ => 0) k) := fun _ => (⟨by decide, by decide⟩ : r0k (0, 7) 0)
theorem r0_22 : ∀ k, r0k (rg 22 k) ((fun _ => 0) k) := fun k => r0_b (L := [rgT, rgT, rgT, (0, 940), (0, 1)]) (g := (fun _ => 0)) (by decide +kernel) k
theorem r0_23 : ∀ k, r0k (rg 23 k) ((fun _ => 0) k) := fun k => (r0_if (fun h0 => r0_T rfl _) (fun g0 => r0_if (fun h1 => r0_z rfl ⟨by decide, by decide⟩) (fun g1 => r0_if (fun h2 => r0_T rfl _) (fun g2 => r0_if (fun h3 => r0_z rfl ⟨by decide, by decide⟩) (fun g3 => r0_T rfl _)))) : r0k ((fun k => (fun j => if j < 2 then rgT else if j < 3 then (0, 7) else if j < 5 then rgT else if j < 6 then (0, 3) else rgT) (k % 8)) k) ((fun _ => 0) k))
theorem r0_24 : ∀ k, r0k (rg 24 k) ((fun _ => 0) k) := fun k => r0_b (L := [rgT, rgT, rgT, rgT, rgT, (0, 8), (0, 7)]) (g := (fun _ => 0)) (by decide +kernel) k
theorem r0_25 : ∀ k, r0k (rg 25 k) (soF k) := fun k => (r0_if (fun h0 => (by rw [show soF k = 0 from if_neg (by omega)]; exact ⟨by decide, by decide⟩)) (fun g0 => r0_if (fun h1 => r0_T rfl _) (fun g1 => r0_if (fun h2 => (by rw [show soF k = 0 from if_neg (by omega)]; exact ⟨by decide, by decide⟩)) (fun g2 => r0_if (fun h3 => (by rw [show soF k = 0 from if_neg (by omega)]; exact ⟨by decide, by decide⟩)) (fun g3 => r0_if (fun h4 => r0_T rfl _) (fun g4 => r0_if (fun h5 => (by rw [show soF k = -1 from if_pos (by omega)]; exact ⟨by decide, by decide⟩)) (fun g5 => r0_T rfl _)))))) : r0k ((fun k => if k < 1 then (0, 480) else if k < 2 then rgT else if k < 3 then (0, 80) else if k < 7 then (0, 7) else if k < 15 then rgT else if k < 23 then (-1, 480) else rgT) k) (soF k))
theorem r0_26 : ∀ k, r0k (rg 26 k) ((fun _ => 0) k) := fun k => (r0_if (fun h0 => r0_z rfl ⟨by decide, by decide⟩) (fun g0 => r0_T rfl _) : r0k ((fun k => (fun j => if j < 1 then (0, 480) else rgT) (k % 4)) k) ((fun _ => 0) k))
theorem r0_27 : ∀ k, r0k (rg 27 k) ((fun _ => 0) k) := fun k => (r0_if (fun h0 => r0_z rfl ⟨by decide, by decide⟩) (fun g0 => r0_if (fun h1 => r0_T rfl _) (fun g1 => r0_if (fun h2 => r0_z rfl ⟨by decide, by decide⟩) (fun g2 => r0_if (fun h3 => r0_z rfl ⟨by decide, by decide⟩) (fun g3 => r0_if (fun h4 => r0_T rfl _) (fun g4 => r0_if (fun h5 => r0_z rfl ⟨by decide, by decide⟩) (fun g5 => r0_T rfl _)))))) : r0k ((fun k => if k < 1 then (0, 480) else if k < 2 then rgT else if k < 3 then (0, 80) else if k < 7 then (0, 7) else if k < 15 then rgT else if k < 23 then (-1, 480) else rgT) k) ((fun _ => 0) k))
theorem r0_28 : ∀ k, r0k (rg 28 k) ((fun _ => 0) k) := fun k => (r0_if (fun h0 => r0_z rfl ⟨by decide, by decide⟩) (fun g0 => r0_if (fun h1 => r0_T rfl _) (fun g1 => r0_if (fun h2 => r0_z rfl ⟨by decide, by decide⟩) (fun g2 => r0_if (fun h3 => r0_z rfl ⟨by decide, by decide⟩) (fun g3 => r0_if (fun h4 => r0_T rfl _) (fun g4 => r0_if (fun h5 => r0_z rfl ⟨by decide, by decide⟩) (fun g5 => r0_T rfl _)))))) : r0k ((fun k => (fun j => if j < 1 then (0, 480) else if j < 2 then rgT else if j < 3 then (0, 80) else if j < 7 then (0, 7) else if j < 15 then rgT else if j < 23 then (-1, 480) else rgT) (k % 31)) k) ((fun _ => 0) k))
theorem r0_29 : ∀ k, r0k (rg 29 k) ((fun _ => 0) k) := fun k => r0_b (L := [rgT, rgT, rgT, rgT, rgT, rgT, (0, 121)]) (g := (fun _ => 0)) (by decide +kernel) k
theorem r0_30 : ∀ k, r0k (rg 30 k) ((fun _ => 0) k) := fun k => r0_T rfl _
theorem r0_31 : ∀ k, r0k (rg 31 k) ((fun _ => 0) k) := fun k => r0_T rfl _
theorem r0_32 : ∀ k, r0k (rg 32 k) ((fun _ => 0) k) := fun k => r0_b (L := [rgT, rgT, rgT, rgT, rgT, rgT, rgT, rgT, (0, 4), (0, 256), (0, 3), (0, 23), (0, 23), (0, 24)]) (g := (fun _ => 0)) (by decide +kernel) k
theorem r0_33 : ∀ k, r0k (rg 33 k) ((fun _ => 0) k) := fun _ => (⟨by decide, by decide⟩ : r0k (0, 7) 0)
theorem r0_34 : ∀ k, r0k (rg 34 k) ((fun _ => 0) k) := fun _ => (⟨by decide, by decide⟩ : r0k (0, 3) 0)
theorem r0_35 : ∀ k, r0k (rg 35 k) ((fun _ => 0) k) := fun _ => (⟨by decide, by decide⟩ : r0k (0, 255) 0)
theorem r0_36 : ∀ k, r0k (rg 36 k) ((fun _ => 0) k) := fun k => r0_T rfl _
theorem r0_37 : ∀ k, r0k (rg 37 k) ((fun _ => 0) k) := fun _ => (⟨by decide, by decide⟩ : r0k (-128, 127) 0)
theorem r0_38 : ∀ k, r0k (rg 38 k) ((fun _ => 0) k) := fun k => r0_T rfl _
theorem r0_39 : ∀ k, r0k (rg 39 k) ((fun _ => 0) k) := fun k => r0_b (L := [rgT, rgT, rgT, rgT, rgT, rgT, (0, 40), rgT, rgT, rgT]) (g := (fun _ => 0)) (by decide +kernel) k
theorem r0_40 : ∀ k, r0k (rg 40 k) ((fun _ => 0) k) := fun _ => (⟨by decide, by decide⟩ : r0k (-1, 7) 0)
theorem r0_41 : ∀ k, r0k (rg 41 k) ((fun _ => 0) k) := fun k => r0_T rfl _
theorem r0_42 : ∀ k, r0k (rg 42 k) ((fun _ => 0) k) := fun _ => (⟨by decide, by decide⟩ : r0k (0, 99) 0)
theorem r0_43 : ∀ k, r0k (rg 43 k) ((fun _ => 0) k) := fun k => r0_b (L := [rgT, rgT, rgT, (0, 40), (0, 20)]) (g := (fun _ => 0)) (by decide +kernel) k
theorem r0_44 : ∀ k, r0k (rg 44 k) ((fun _ => 0) k) := fun k => r0_T rfl _
theorem r0_45 : ∀ k, r0k (rg 45 k) ((fun _ => 0) k) := fun k => r0_T rfl _
theorem r0_46 : ∀ k, r0k (rg 46 k) ((fun _ => 0) k) := fun k => r0_T rfl _
theorem r0_47 : ∀ k, r0k (rg 47 k) ((fun _ => 0) k) := fun k => r0_b (L := [rgT, rgT, rgT, (0, 40), (0, 20)]) (g := (fun _ => 0)) (by decide +kernel) k
theorem r0_48 : ∀ k, r0k (rg 48 k) ((fun _ => 0) k) := fun k => r0_T rfl _
theorem r0_49 : ∀ k, r0k (rg 49 k) ((fun _ => 0) k) := fun k => r0_T rfl _
theorem r0_50 : ∀ k, r0k (rg 50 k) ((fun _ => 0) k) := fun k => r0_T rfl _
theorem r0_51 : ∀ k, r0k (rg 51 k) ((fun _ => 0) k) := fun k => r0_T rfl _
theorem r0_52 : ∀ k, r0k (rg 52 k) ((fun _ => 0) k) := fun k => r0_T rfl _
theorem r0_53 : ∀ k, r0k (rg 53 k) ((fun _ => 0) k) := fun k => r0_b (L := [rgT, rgT, rgT, rgT, (0, 1)]) (g := (fun _ => 0)) (by decide +kernel) k
theorem r0_54 : ∀ k, r0k (rg 54 k) ((fun _ => 0) k) := fun k => r0_b (L := [rgT, rgT, rgT, rgT, (0, 1)]) (g := (fun _ => 0)) (by decide +kernel) k
theorem r0_55 : ∀ k, r0k (rg 55 k) (h24 k) := fun k => r0_b (L := [(4, 24), (0, 8), (0, 12), (0, 6), (0, 4), (0, 6), (0, 8), (0, 8), (0, 26), rgT, rgT, rgT, rgT, rgT, rgT, rgT, rgT]) (g := h24) (by decide +kernel) k
theorem r0_56 : ∀ k, r0k (rg 56 k) ((fun _ => 0) k) := fun k => r0_T rfl _
theorem r0_57 : ∀ k, r0k (rg 57 k) ((fun _ => 0) k) := fun _ => (⟨by decide, by decide⟩ : r0k (0, 7) 0)
theorem r0_58 : ∀ k, r0k (rg 58 k) ((fun _ => 0) k) := fun _ => (⟨by decide, by decide⟩ : r0k (0, 7) 0)
theorem r0_59 : ∀ k, r0k (rg 59 k) ((fun _ => 0) k) := fun k => (r0_if (fun h0 => r0_T rfl _) (fun g0 => r0_if (fun h1 => r0_z rfl ⟨by decide, by decide⟩) (fun g1 => r0_if (fun h2 => r0_T rfl _) (fun g2 => r0_if (fun h3 => r0_z rfl ⟨by decide, by decide⟩) (fun g3 => r0_T rfl _)))) : r0k ((fun k => (fun j => if j < 2 then rgT else if j < 3 then (0, 7) else if j < 5 then rgT else if j < 6 then (0, 3) else rgT) (k % 8)) k) ((fun _ => 0) k))
theorem r0_60 : ∀ k, r0k (rg 60 k) ((fun _ => 0) k) := fun k => r0_T rfl _
theorem r0_61 : ∀ k, r0k (rg 61 k) ((fun _ => 0) k) := fun k => r0_T rfl _
theorem r0_62 : ∀ k, r0k (rg 62 k) ((fun _ => 0) k) := fun _ => (⟨by decide, by decide⟩ : r0k (0, 3) 0)
theorem r0_63 : ∀ k, r0k (rg 63 k) ((fun _ => 0) k) := fun _ => (⟨by decide, by decide⟩ : r0k (0, 7) 0)
theorem r0_64 : ∀ k, r0k (rg 64 k) (h24 k) := fun k => r0_b (L := [(4, 24), (0, 8), (0, 12), (0, 6), (0, 4), (0, 6), (0, 8), (0, 8), (0, 26), rgT, rgT, rgT, rgT, rgT, rgT, rgT, rgT]) (g := h24) (by decide +kernel) k
theorem r0_65 : ∀ k, r0k (rg 65 k) ((fun _ => 0) k) := fun k => r0_T rfl _
theorem r0_66 : ∀ k, r0k (rg 66 k) ((fun _ => 0) k) := fun _ => (⟨by decide, by decide⟩ : r0k (0, 7) 0)
theorem r0_67 : ∀ k, r0k (rg 67 k) ((fun _ => 0) k) := fun _ => (⟨by decide, by decide⟩ : r0k (0, 7) 0)
theorem r0_68 : ∀ k, r0k (rg 68 k) ((fun _ => 0) k) := fun k => (r0_if (fun h0 => r0_T rfl _) (fun g0 => r0_if (fun h1 => r0_z rfl ⟨by decide, by decide⟩) (fun g1 => r0_if (fun h2 => r0_T rfl _) (fun g2 => r0_if (fun h3 => r0_z rfl ⟨by decide, by decide⟩) (fun g3 => r0_T rfl _)))) : r0k ((fun k => (fun j => if j < 2 then rgT else if j < 3 then (0, 7) else if j < 5 then rgT else if j < 6 then (0, 3) else rgT) (k % 8)) k) ((fun _ => 0) k))
theorem r0_69 : ∀ k, r0k (rg 69 k) ((fun _ => 0) k) := fun k => r0_T rfl _
theorem r0_70 : ∀ k, r0k (rg 70 k) ((fun _ => 0) k) := fun k => r0_T rfl _
theorem r0_71 : ∀ k, r0k (rg 71 k) ((fun _ => 0) k) := fun _ => (⟨by decide, by decide⟩ : r0k (0, 3) 0)
theorem r0_72 : ∀ k, r0k (rg 72 k) ((fun _ => 0) k) := fun _ => (⟨by decide, by decide⟩ : r0k (0, 7) 0)
theorem r0_73 : ∀ k, r0k (rg 73 k) ((fun _ => 0) k) := fun k => r0_b (L := [rgT, rgT, rgT, (0, 40), (0, 20)]) (g := (fun _ => 0)) (by decide +kernel) k
theorem r0_74 : ∀ k, r0k (rg 74 k) ((fun _ => 0) k) := fun k => r0_T rfl _
theorem r0_75 : ∀ k, r0k (rg 75 k) ((fun _ => 0) k) := fun k => r0_T rfl _
theorem r0_76 : ∀ k, r0k (rg 76 k) ((fun _ => 0) k) := fun k => r0_T rfl _
theorem r0_77 : ∀ k, r0k (rg 77 k) ((fun _ => 0) k) := fun k => r0_b (L := [rgT, rgT, rgT, (0, 40), (0, 20)]) (g := (fun _ => 0)) (by decide +kernel) k
theorem r0_78 : ∀ k, r0k (rg 78 k) ((fun _ => 0) k) := fun k => r0_T rfl _
theorem r0_79 : ∀ k, r0k (rg 79 k) ((fun _ => 0) k) := fun k => r0_T rfl _
theorem r0_80 : ∀ k, r0k (rg 80 k) ((fun _ => 0) k) := fun k => r0_T rfl _
theorem r0_81 : ∀ k, r0k (rg 81 k) ((fun _ => 0) k) := fun k => (r0_if (fun h0 => r0_z rfl ⟨by decide, by decide⟩) (fun g0 => r0_if (fun h1 => r0_T rfl _) (fun g1 => r0_if (fun h2 => r0_z rfl ⟨by decide, by decide⟩) (fun g2 => r0_if (fun h3 => r0_z rfl ⟨by decide, by decide⟩) (fun g3 => r0_if (fun h4 => r0_T rfl _) (fun g4 => r0_if (fun h5 => r0_z rfl ⟨by decide, by decide⟩) (fun g5 => r0_T rfl _)))))) : r0k ((fun k => if k < 1 then (0, 480) else if k < 2 then rgT else if k < 3 then (0, 80) else if k < 7 then (0, 7) else if k < 15 then rgT else if k < 23 then (-1, 480) else rgT) k) ((fun _ => 0) k))
theorem r0_82 : ∀ k, r0k (rg 82 k) ((fun _ => 0) k) := fun k => (r0_if (fun h0 => r0_z rfl ⟨by decide, by decide⟩) (fun g0 => r0_T rfl _) : r0k ((fun k => (fun j => if j < 1 then (0, 480) else rgT) (k % 4)) k) ((fun _ => 0) k))
theorem r0_83 : ∀ k, r0k (rg 83 k) ((fun _ => 0) k) := fun k => (r0_if (fun h0 => r0_z rfl ⟨by decide, by decide⟩) (fun g0 => r0_if (fun h1 => r0_T rfl _) (fun g1 => r0_if (fun h2 => r0_z rfl ⟨by decide, by decide⟩) (fun g2 => r0_if (fun h3 => r0_z rfl ⟨by decide, by decide⟩) (fun g3 => r0_if (fun h4 => r0_T rfl _) (fun g4 => r0_if (fun h5 => r0_z rfl ⟨by decide, by decide⟩) (fun g5 => r0_T rfl _)))))) : r0k ((fun k => if k < 1 then (0, 480) else if k < 2 then rgT else if k < 3 then (0, 80) else if k < 7 then (0, 7) else if k < 15 then rgT else if k < 23 then (-1, 480) else rgT) k) ((fun _ => 0) k))
theorem r0_84 : ∀ k, r0k (rg 84 k) ((fun _ => 0) k) := fun k => (r0_if (fun h0 => r0_z rfl ⟨by decide, by decide⟩) (fun g0 => r0_T rfl _) : r0k ((fun k => (fun j => if j < 1 then (0, 480) else rgT) (k % 4)) k) ((fun _ => 0) k))
theorem r0_85 : ∀ k, r0k (rg 85 k) ((fun _ => 0) k) := fun k => r0_b (L := [(0, 1), rgT, (0, 940), (0, 940), (0, 940), (0, 900), rgT, rgT, rgT, rgT, rgT, (0, 4), rgT, rgT, rgT, rgT, rgT, rgT, rgT, rgT, (0, 1), rgT, rgT, rgT, (0, 8), rgT, rgT, rgT, (0, 4), (0, 23), (0, 24), rgT, rgT, rgT, rgT, (0, 40), rgT, (0, 1), rgT, (0, 45), (0, 20), (0, 45), rgT, (0, 1), rgT, rgT, rgT, rgT]) (g := (fun _ => 0)) (by decide +kernel) k
theorem r0_86 : ∀ k, r0k (rg 86 k) ((fun _ => 0) k) := fun _ => (⟨by decide, by decide⟩ : r0k (-128, 127) 0)
theorem r0_87 : ∀ k, r0k (rg 87 k) ((upd (fun _ => 0) 0 24) k) := fun k => (r0_if (fun h0 => (by rw [show upd (fun _ => (0 : Int32)) 0 24 k = 24 from if_pos (by omega)]; exact ⟨by decide, by decide⟩)) (fun g0 => r0_if (fun h1 => (by rw [show upd (fun _ => (0 : Int32)) 0 24 k = 0 from if_neg (by omega)]; exact ⟨by decide, by decide⟩)) (fun g1 => r0_if (fun h2 => (by rw [show upd (fun _ => (0 : Int32)) 0 24 k = 0 from if_neg (by omega)]; exact ⟨by decide, by decide⟩)) (fun g2 => r0_if (fun h3 => (by rw [show upd (fun _ => (0 : Int32)) 0 24 k = 0 from if_neg (by omega)]; exact ⟨by decide, by decide⟩)) (fun g3 => r0_if (fun h4 => (by rw [show upd (fun _ => (0 : Int32)) 0 24 k = 0 from if_neg (by omega)]; exact ⟨by decide, by decide⟩)) (fun g4 => r0_if (fun h5 => (by rw [show upd (fun _ => (0 : Int32)) 0 24 k = 0 from if_neg (by omega)]; exact ⟨by decide, by decide⟩)) (fun g5 => r0_if (fun h6 => (by rw [show upd (fun _ => (0 : Int32)) 0 24 k = 0 from if_neg (by omega)]; exact ⟨by decide, by decide⟩)) (fun g6 => r0_if (fun h7 => (by rw [show upd (fun _ => (0 : Int32)) 0 24 k = 0 from if_neg (by omega)]; exact ⟨by decide, by decide⟩)) (fun g7 => r0_if (fun h8 => r0_T rfl _) (fun g8 => r0_if (fun h9 => (by rw [show upd (fun _ => (0 : Int32)) 0 24 k = 0 from if_neg (by omega)]; exact ⟨by decide, by decide⟩)) (fun g9 => r0_if (fun h10 => (by rw [show upd (fun _ => (0 : Int32)) 0 24 k = 0 from if_neg (by omega)]; exact ⟨by decide, by decide⟩)) (fun g10 => r0_if (fun h11 => r0_T rfl _) (fun g11 => r0_if (fun h12 => (by rw [show upd (fun _ => (0 : Int32)) 0 24 k = 0 from if_neg (by omega)]; exact ⟨by decide, by decide⟩)) (fun g12 => r0_if (fun h13 => r0_T rfl _) (fun g13 => r0_if (fun h14 => (by rw [show upd (fun _ => (0 : Int32)) 0 24 k = 0 from if_neg (by omega)]; exact ⟨by decide, by decide⟩)) (fun g14 => r0_if (fun h15 => r0_T rfl _) (fun g15 => r0_if (fun h16 => (by rw [show upd (fun _ => (0 : Int32)) 0 24 k = 0 from if_neg (by omega)]; exact ⟨by decide, by decide⟩)) (fun g16 => r0_if (fun h17 => (by rw [show upd (fun _ => (0 : Int32)) 0 24 k = 0 from if_neg (by omega)]; exact ⟨by decide, by decide⟩)) (fun g17 => r0_if (fun h18 => r0_T rfl _) (fun g18 => r0_if (fun h19 => (by rw [show upd (fun _ => (0 : Int32)) 0 24 k = 0 from if_neg (by omega)]; exact ⟨by decide, by decide⟩)) (fun g19 => r0_if (fun h20 => (by rw [show upd (fun _ => (0 : Int32)) 0 24 k = 0 from if_neg (by omega)]; exact ⟨by decide, by decide⟩)) (fun g20 => r0_if (fun h21 => r0_T rfl _) (fun g21 => r0_if (fun h22 => (by rw [show upd (fun _ => (0 : Int32)) 0 24 k = 0 from if_neg (by omega)]; exact ⟨by decide, by decide⟩)) (fun g22 => r0_T rfl _))))))))))))))))))))))) : r0k ((fun k => if k < 1 then (4, 24) else if k < 2 then (0, 8) else if k < 3 then (0, 12) else if k < 4 then (0, 6) else if k < 5 then (0, 4) else if k < 6 then (0, 6) else if k < 7 then (0, 8) else if k < 8 then (0, 8) else if k < 16 then rgT else if k < 22 then (0, 7) else if k < 26 then (0, 7) else if k < 42 then rgT else if k < 50 then (0, 7) else if k < 66 then rgT else if k < 74 then (0, 3) else if k < 106 then rgT else if k < 107 then (0, 480) else if k < 111 then (0, 7) else if k < 123 then rgT else if k < 124 then (0, 80) else if k < 132 then (0, 481) else if k < 476 then rgT else if k < 477 then (0, 45) else rgT) k) ((upd (fun _ => 0) 0 24) k))
theorem r0_88 : ∀ k, r0k (rg 88 k) ((fun _ => 0) k) := fun k => (r0_if (fun h0 => r0_z rfl ⟨by decide, by decide⟩) (fun g0 => r0_if (fun h1 => r0_z rfl ⟨by decide, by decide⟩) (fun g1 => r0_if (fun h2 => r0_z rfl ⟨by decide, by decide⟩) (fun g2 => r0_if (fun h3 => r0_z rfl ⟨by decide, by decide⟩) (fun g3 => r0_if (fun h4 => r0_z rfl ⟨by decide, by decide⟩) (fun g4 => r0_if (fun h5 => r0_z rfl ⟨by decide, by decide⟩) (fun g5 => r0_if (fun h6 => r0_z rfl ⟨by decide, by decide⟩) (fun g6 => r0_if (fun h7 => r0_z rfl ⟨by decide, by decide⟩) (fun g7 => r0_if (fun h8 => r0_T rfl _) (fun g8 => r0_if (fun h9 => r0_z rfl ⟨by decide, by decide⟩) (fun g9 => r0_if (fun h10 => r0_z rfl ⟨by decide, by decide⟩) (fun g10 => r0_if (fun h11 => r0_T rfl _) (fun g11 => r0_if (fun h12 => r0_z rfl ⟨by decide, by decide⟩) (fun g12 => r0_if (fun h13 => r0_T rfl _) (fun g13 => r0_if (fun h14 => r0_z rfl ⟨by decide, by decide⟩) (fun g14 => r0_T rfl _))))))))))))))) : r0k ((fun k => if k < 1 then (0, 24) else if k < 2 then (0, 8) else if k < 3 then (0, 12) else if k < 4 then (0, 6) else if k < 5 then (0, 4) else if k < 6 then (0, 6) else if k < 7 then (0, 8) else if k < 8 then (0, 8) else if k < 16 then rgT else if k < 22 then (0, 7) else if k < 26 then (0, 7) else if k < 42 then rgT else if k < 50 then (0, 7) else if k < 66 then rgT else if k < 74 then (0, 3) else rgT) k) ((fun _ => 0) k))
theorem r0_89 : ∀ k, r0k (rg 89 k) ((fun _ => 0) k) := fun k => r0_T rfl _
theorem r0_90 : ∀ k, r0k (rg 90 k) ((fun _ => 0) k) := fun k => r0_T rfl _
theorem r0_91 : ∀ k, r0k (rg 91 k) ((fun _ => 0) k) := fun k => r0_T rfl _
theorem r0_92 : ∀ k, r0k (rg 92 k) ((fun _ => 0) k) := fun k => r0_T rfl _
theorem r0_93 : ∀ k, r0k (rg 93 k) ((fun _ => 0) k) := fun k => (r0_if (fun h0 => r0_z rfl ⟨by decide, by decide⟩) (fun g0 => r0_if (fun h1 => r0_z rfl ⟨by decide, by decide⟩) (fun g1 => r0_if (fun h2 => r0_T rfl _) (fun g2 => r0_if (fun h3 => r0_z rfl ⟨by decide, by decide⟩) (fun g3 => r0_if (fun h4 => r0_z rfl ⟨by decide, by decide⟩) (fun g4 => r0_T rfl _))))) : r0k ((fun k => (fun j => if j < 1 then (0, 480) else if j < 5 then (0, 7) else if j < 17 then rgT else if j < 18 then (0, 80) else if j < 26 then (0, 481) else rgT) (k % 370)) k) ((fun _ => 0) k))
theorem r0_94 : ∀ k, r0k (rg 94 k) ((fun _ => 0) k) := fun k => (r0_if (fun h0 => r0_z rfl ⟨by decide, by decide⟩) (fun g0 => r0_if (fun h1 => r0_z rfl ⟨by decide, by decide⟩) (fun g1 => r0_if (fun h2 => r0_T rfl _) (fun g2 => r0_if (fun h3 => r0_z rfl ⟨by decide, by decide⟩) (fun g3 => r0_if (fun h4 => r0_z rfl ⟨by decide, by decide⟩) (fun g4 => r0_T rfl _))))) : r0k ((fun k => if k < 1 then (0, 480) else if k < 5 then (0, 7) else if k < 17 then rgT else if k < 18 then (0, 80) else if k < 26 then (0, 481) else rgT) k) ((fun _ => 0) k))
theorem r0_95 : ∀ k, r0k (rg 95 k) ((fun _ => 0) k) := fun k => r0_T rfl _
theorem r0_96 : ∀ k, r0k (rg 96 k) ((fun _ => 0) k) := fun _ => (⟨by decide, by decide⟩ : r0k (0, 7) 0)
theorem r0_97 : ∀ k, r0k (rg 97 k) ((fun _ => 0) k) := fun k => r0_T rfl _
theorem r0_98 : ∀ k, r0k (rg 98 k) ((fun _ => 0) k) := fun k => r0_T rfl _
theorem r0_99 : ∀ k, r0k (rg 99 k) ((fun _ => 0) k) := fun k => r0_T rfl _
theorem r0_100 : ∀ k, r0k (rg 100 k) ((fun _ => 0) k) := fun k => r0_T rfl _
theorem r0_101 : ∀ k, r0k (rg 101 k) ((fun _ => 0) k) := fun _ => (⟨by decide, by decide⟩ : r0k (0, 1) 0)
theorem r0_102 : ∀ k, r0k (rg 102 k) ((fun _ => 0) k) := fun k => (r0_if (fun h0 => r0_z rfl ⟨by decide, by decide⟩) (fun g0 => r0_if (fun h1 => r0_z rfl ⟨by decide, by decide⟩) (fun g1 => r0_if (fun h2 => r0_z rfl ⟨by decide, by decide⟩) (fun g2 => r0_if (fun h3 => r0_z rfl ⟨by decide, by decide⟩) (fun g3 => r0_if (fun h4 => r0_z rfl ⟨by decide, by decide⟩) (fun g4 => r0_if (fun h5 => r0_z rfl ⟨by decide, by decide⟩) (fun g5 => r0_if (fun h6 => r0_z rfl ⟨by decide, by decide⟩) (fun g6 => r0_if (fun h7 => r0_z rfl ⟨by decide, by decide⟩) (fun g7 => r0_if (fun h8 => r0_T rfl _) (fun g8 => r0_if (fun h9 => r0_z rfl ⟨by decide, by decide⟩) (fun g9 => r0_if (fun h10 => r0_z rfl ⟨by decide, by decide⟩) (fun g10 => r0_if (fun h11 => r0_T rfl _) (fun g11 => r0_if (fun h12 => r0_z rfl ⟨by decide, by decide⟩) (fun g12 => r0_if (fun h13 => r0_T rfl _) (fun g13 => r0_if (fun h14 => r0_z rfl ⟨by decide, by decide⟩) (fun g14 => r0_if (fun h15 => r0_T rfl _) (fun g15 => r0_if (fun h16 => r0_z rfl ⟨by decide, by decide⟩) (fun g16 => r0_if (fun h17 => r0_z rfl ⟨by decide, by decide⟩) (fun g17 => r0_if (fun h18 => r0_T rfl _) (fun g18 => r0_if (fun h19 => r0_z rfl ⟨by decide, by decide⟩) (fun g19 => r0_if (fun h20 => r0_z rfl ⟨by decide, by decide⟩) (fun g20 => r0_if (fun h21 => r0_T rfl _) (fun g21 => r0_if (fun h22 => r0_z rfl ⟨by decide, by decide⟩) (fun g22 => r0_T rfl _))))))))))))))))))))))) : r0k ((fun k => (fun j => if j < 1 then (0, 24) else if j < 2 then (0, 8) else if j < 3 then (0, 12) else if j < 4 then (0, 6) else if j < 5 then (0, 4) else if j < 6 then (0, 6) else if j < 7 then (0, 8) else if j < 8 then (0, 8) else if j < 16 then rgT else if j < 22 then (0, 7) else if j < 26 then (0, 7) else if j < 42 then rgT else if j < 50 then (0, 7) else if j < 66 then rgT else if j < 74 then (0, 3) else if j < 106 then rgT else if j < 107 then (0, 480) else if j < 111 then (0, 7) else if j < 123 then rgT else if j < 124 then (0, 80) else if j < 132 then (0, 481) else if j < 476 then rgT else if j < 477 then (0, 45) else rgT) (k % 657)) k) ((fun _ => 0) k))
theorem r0_103 : ∀ k, r0k (rg 103 k) ((fun _ => 0) k) := fun k => r0_T rfl _
theorem r0_104 : ∀ k, r0k (rg 104 k) ((fun _ => 0) k) := fun _ => (⟨by decide, by decide⟩ : r0k (0, 1) 0)
theorem ini_R (f f9 : Nat → Int64) : ac_R rg (u00 f f9) := by
  intro c k
  show r0k (rg c k) (u0i c k)
  by_cases hc : c < 105
  · match c, hc with
    | 0, _ => exact r0_0 k
    | 1, _ => exact r0_1 k
    | 2, _ => exact r0_2 k
    | 3, _ => exact r0_3 k
    | 4, _ => exact r0_4 k
    | 5, _ => exact r0_5 k
    | 6, _ => exact r0_6 k
    | 7, _ => exact r0_7 k
    | 8, _ => exact r0_8 k
    | 9, _ => exact r0_9 k
    | 10, _ => exact r0_10 k
    | 11, _ => exact r0_11 k
    | 12, _ => exact r0_12 k
    | 13, _ => exact r0_13 k
    | 14, _ => exact r0_14 k
    | 15, _ => exact r0_15 k
    | 16, _ => exact r0_16 k
    | 17, _ => exact r0_17 k
    | 18, _ => exact r0_18 k
    | 19, _ => exact r0_19 k
    | 20, _ => exact r0_20 k
    | 21, _ => exact r0_21 k
    | 22, _ => exact r0_22 k
    | 23, _ => exact r0_23 k
    | 24, _ => exact r0_24 k
    | 25, _ => exact r0_25 k
    | 26, _ => exact r0_26 k
    | 27, _ => exact r0_27 k
    | 28, _ => exact r0_28 k
    | 29, _ => exact r0_29 k
    | 30, _ => exact r0_30 k
    | 31, _ => exact r0_31 k
    | 32, _ => exact r0_32 k
    | 33, _ => exact r0_33 k
    | 34, _ => exact r0_34 k
    | 35, _ => exact r0_35 k
    | 36, _ => exact r0_36 k
    | 37, _ => exact r0_37 k
    | 38, _ => exact r0_38 k
    | 39, _ => exact r0_39 k
    | 40, _ => exact r0_40 k
    | 41, _ => exact r0_41 k
    | 42, _ => exact r0_42 k
    | 43, _ => exact r0_43 k
    | 44, _ => exact r0_44 k
    | 45, _ => exact r0_45 k
    | 46, _ => exact r0_46 k
    | 47, _ => exact r0_47 k
    | 48, _ => exact r0_48 k
    | 49, _ => exact r0_49 k
    | 50, _ => exact r0_50 k
    | 51, _ => exact r0_51 k
    | 52, _ => exact r0_52 k
    | 53, _ => exact r0_53 k
    | 54, _ => exact r0_54 k
    | 55, _ => exact r0_55 k
    | 56, _ => exact r0_56 k
    | 57, _ => exact r0_57 k
    | 58, _ => exact r0_58 k
    | 59, _ => exact r0_59 k
    | 60, _ => exact r0_60 k
    | 61, _ => exact r0_61 k
    | 62, _ => exact r0_62 k
    | 63, _ => exact r0_63 k
    | 64, _ => exact r0_64 k
    | 65, _ => exact r0_65 k
    | 66, _ => exact r0_66 k
    | 67, _ => exact r0_67 k
    | 68, _ => exact r0_68 k
    | 69, _ => exact r0_69 k
    | 70, _ => exact r0_70 k
    | 71, _ => exact r0_71 k
    | 72, _ => exact r0_72 k
    | 73, _ => exact r0_73 k
    | 74, _ => exact r0_74 k
    | 75, _ => exact r0_75 k
    | 76, _ => exact r0_76 k
    | 77, _ => exact r0_77 k
    | 78, _ => exact r0_78 k
    | 79, _ => exact r0_79 k
    | 80, _ => exact r0_80 k
    | 81, _ => exact r0_81 k
    | 82, _ => exact r0_82 k
    | 83, _ => exact r0_83 k
    | 84, _ => exact r0_84 k
    | 85, _ => exact r0_85 k
    | 86, _ => exact r0_86 k
    | 87, _ => exact r0_87 k
    | 88, _ => exact r0_88 k
    | 89, _ => exact r0_89 k
    | 90, _ => exact r0_90 k
    | 91, _ => exact r0_91 k
    | 92, _ => exact r0_92 k
    | 93, _ => exact r0_93 k
    | 94, _ => exact r0_94 k
    | 95, _ => exact r0_95 k
    | 96, _ => exact r0_96 k
    | 97, _ => exact r0_97 k
    | 98, _ => exact r0_98 k
    | 99, _ => exact r0_99 k
    | 100, _ => exact r0_100 k
    | 101, _ => exact r0_101 k
    | 102, _ => exact r0_102 k
    | 103, _ => exact r0_103 k
    | 104, _ => exact r0_104 k
    | n + 105, h => exact absurd h (by omega)
  · refine r0_T ?_ _
    unfold rg
    rw [List.getD_eq_getElem?_getD, List.getElem?_eq_none (show rgL.length ≤ c from Nat.not_lt.mp hc)]
    rfl
theorem ini_nm (f f9 : Nat → Int64) {a b : Nat} (h : u0i a = fun _ => 0) : nmI a b (u00 f f9) := by
  intro k hk e
  have e : (u0i a k).toInt = 1 := e
  rw [h] at e
  have e : (0 : Int32).toInt = 1 := e
  exact absurd e (by decide)
theorem ini_ms (f f9 : Nat → Int64) : msI (u00 f f9) := ⟨(show (u0i 87 106).toInt ≤ 20 * (u0i 87 0).toInt by decide), fun h => absurd (show 0 < (u0i 87 4).toInt from h) (by decide)⟩
theorem ini_un (f f9 : Nat → Int64) : unI (u00 f f9) := fun j _ h => by
  have h : (j : Int) < 0 := h
  omega
theorem ini_au (f f9 : Nat → Int64) : auI (u00 f f9) := fun j _ h => by
  have h : (j : Int) < 0 := h
  omega
theorem ini_cd (f f9 : Nat → Int64) : cdI (u00 f f9) := fun i _ h => by
  have h : (i : Int) < 0 := h
  omega
theorem ini_kp (f f9 : Nat → Int64) : kpI (u00 f f9) := fun k _ h => absurd (show (u0i 104 k).toInt = 0 from rfl) h
theorem ini_ak (f f9 : Nat → Int64) : akI (u00 f f9) := fun k _ h => absurd (show (u0i 104 k).toInt = 0 from rfl) h
theorem ini_ap (f f9 : Nat → Int64) : apI (u00 f f9) := fun k hk => by
  have e : (u00 f f9).1 87 (107 + k) = 0 := (show upd (fun _ => (0 : Int32)) 0 24 (107 + k) = 0 from if_neg (by omega))
  rw [e]
  exact Or.inl (by decide)
/-- what holds between the calls of the law -/
def inv0 (u : ac_U) : Prop := ac_R rg u ∧ nmI 11 12 u ∧ nmI 20 21 u ∧ nmI 62 63 u ∧ nmI 71 72 u ∧ msI u ∧ unI u ∧ cdI u ∧ kpI u ∧ apI u ∧ auI u ∧ akI u
theorem ini_inv0 (f f9 : Nat → Int64) : inv0 (u00 f f9) := ⟨ini_R f f9, ini_nm f f9 rfl, ini_nm f f9 rfl, ini_nm f f9 rfl, ini_nm f f9 rfl, ini_ms f f9, ini_un f f9, ini_cd f f9, ini_kp f f9, ini_ap f f9, ini_au f f9, ini_ak f f9⟩
theorem ini_hx (f f9 : Nat → Int64) : hxI (u00 f f9) := by
  have e4 : ∀ j, j < 8 → u0i 4 j = u0i 87 j := by decide +kernel
  have e5 : ∀ k, k < 8 → u0i 5 k = u0i 87 (8 + k) := by decide +kernel
  have z : (u0i 4 7).toInt = 0 := by decide +kernel
  have z3 : (u0i 4 3).toInt = 0 := by decide +kernel
  refine ⟨⟨e4, e5, fun k hk => ?_, fun x y x1 x2 y1 y2 => ?_⟩, ?_, ?_⟩
  · have hk : (k : Int) < (u0i 4 3).toInt := hk
    omega
  · refine ⟨fun q => ?_, fun ⟨i, q, _⟩ => ?_⟩
    · have q : vbit (0 : Int32) x := q
      have hz : ∀ a : Nat, a < 8 → ¬ vbit (0 : Int32) (nI a) := by unfold vbit; decide +kernel
      have hx := i_cl (x := x) x1
      have := hz x.toNatClampNeg (by omega)
      rw [← nI_oI x1] at this
      exact absurd q this
    · have q : (i : Int) < (u0i 4 7).toInt := q
      omega
  · show (u0i 4 3).toInt ≤ 6
    omega
  · show (u0i 4 7).toInt ≤ 8
    omega
def inv (u : ac_U) : Prop := inv0 u ∧ eqv u ∧ hxI u ∧ byI u ∧ imI u
theorem ini_inv (f f9 : Nat → Int64) : inv (u00 f f9) := ⟨ini_inv0 f f9, ⟨rfl, rfl, rfl⟩, ini_hx f f9, fun _ => rfl, fun h => absurd (show (u0i 53 4).toInt = 0 from rfl) h, fun h => absurd (show (u0i 54 4).toInt = 0 from rfl) h⟩
