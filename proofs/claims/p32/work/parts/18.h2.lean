theorem qz26 : Cond.classLink RL 8 RX11 ∈ TB := tb_of (List.mem_append_right _ (List.mem_append_left _ (List.mem_of_getElem? (i := 26) rfl))) (by decide +kernel)
theorem qz1438 : Cond.classLink RL 16 RX12 ∈ TB := tb_of (List.mem_append_right _ (List.mem_append_right _ (List.mem_append_right _ (List.mem_append_right _ (List.mem_append_right _ (List.mem_append_right _ (List.mem_append_left _ (List.mem_of_getElem? (i := 238) rfl)))))))) (by decide +kernel)
theorem qz30 : Cond.code yX11_init cX11_init 2 none ∈ TB := tb_of (List.mem_append_right _ (List.mem_append_left _ (List.mem_of_getElem? (i := 30) rfl))) (by decide +kernel)
theorem qz28 : Cond.methodLink RL 15 yX11_init ∈ TB := tb_of (List.mem_append_right _ (List.mem_append_left _ (List.mem_of_getElem? (i := 28) rfl))) (by decide +kernel)
theorem qz29 : Cond.instanceMethod yX11_init ∈ TB := tb_of (List.mem_append_right _ (List.mem_append_left _ (List.mem_of_getElem? (i := 29) rfl))) (by decide +kernel)
theorem qz1441 : Cond.code yX12_init cX12_init 1 none ∈ TB := tb_of (List.mem_append_right _ (List.mem_append_right _ (List.mem_append_right _ (List.mem_append_right _ (List.mem_append_right _ (List.mem_append_right _ (List.mem_append_right _ (List.mem_append_left _ (List.mem_of_getElem? (i := 1) rfl))))))))) (by decide +kernel)
theorem qz1439 : Cond.methodLink RL 18 yX12_init ∈ TB := tb_of (List.mem_append_right _ (List.mem_append_right _ (List.mem_append_right _ (List.mem_append_right _ (List.mem_append_right _ (List.mem_append_right _ (List.mem_append_left _ (List.mem_of_getElem? (i := 239) rfl)))))))) (by decide +kernel)
theorem qz1440 : Cond.instanceMethod yX12_init ∈ TB := tb_of (List.mem_append_right _ (List.mem_append_right _ (List.mem_append_right _ (List.mem_append_right _ (List.mem_append_right _ (List.mem_append_right _ (List.mem_append_right _ (List.mem_append_left _ (List.mem_of_getElem? (i := 0) rfl))))))))) (by decide +kernel)
theorem kX_to {A A1 : Nat → Prop} {s U : State} {H : Heap} {locs : List Loc} (hk : kX A s) (hS : va_S A s.heap H locs) (h9 : ∀ q, A1 q → A q) (hU : U.heap = H) (hW : s.WarmedH U.vm) : kX A1 U :=
  ⟨va_Nw.warmM hW hk.1, va_Nw.warmM hW hk.2.1, va_Nw.warmM hW hk.2.2.1, ⟨va_Nw.warmM hW hk.2.2.2.1.1, va_Nw.warmM hW hk.2.2.2.1.2⟩, kX_str hk hS h9 hU hW, va_AO.moved hW.alike hk.2.2.2.2.2⟩
theorem pi_nd : va_nd pi0 = true := by decide +kernel
/-- the worlds behind both constructors and 'out', as the loop wants them -/
theorem ini_lw {D : va_G} {cA : Nat → ClassId} {A : Nat → Prop} {H : Heap} {a b o : Nat} {q : Nat → Nat} {g : Nat → Nat → Nat} {q9 : Nat → Nat} {f f9 : Nat → Int64} (hP : va_P D vwCl ((w_X11_init cA a q g f ++ w_X12_init cA b q9 f9) ++ [(o, aL cA 1)]) H) (hD : va_D A ((w_X11_init cA a q g f ++ w_X12_init cA b q9 f9) ++ [(o, aL cA 1)])) : lw_I D cA a b o A 0 (ad0 a b q g q9) (u00 f f9) H ∧ A o := by
  have up : ∀ {k : Nat} {x : Nat × va_E}, (wF cA a b q g q9 f f9)[k]? = some x → ((w_X11_init cA a q g f ++ w_X12_init cA b q9 f9) ++ [(o, aL cA 1)])[k]? = some x ∧ k < (w_X11_init cA a q g f ++ w_X12_init cA b q9 f9).length := fun {k x} h => by
    rw [← w00_eq] at h
    have h : (w_X11_init cA a q g f ++ w_X12_init cA b q9 f9)[k]? = some x := h
    have hl := (List.getElem?_eq_some_iff.mp h).1
    exact ⟨by rw [List.getElem?_append_left hl]; exact h, hl⟩
  have hlast : ((w_X11_init cA a q g f ++ w_X12_init cA b q9 f9) ++ [(o, aL cA 1)])[(w_X11_init cA a q g f ++ w_X12_init cA b q9 f9).length]? = some (o, aL cA 1) := by
    rw [List.getElem?_append_right (Nat.le_refl _), Nat.sub_self]; rfl
  have hP1 : va_P D vwCl (wF cA a b q g q9 f f9) H := fun k x hk => hP k x (up hk).1
  have hD1 : va_D A (wF cA a b q g q9 f f9) := ⟨fun i j p q hi hj h => hD.1 i j p q (up hi).1 (up hj).1 h, fun k x hk => hD.2 k x (up hk).1⟩
  obtain ⟨h1, h2⟩ := ini_world (ini_ok cA a b q g q9 f f9) pi_nd hP1 hD1
  refine ⟨⟨Or.inl rfl, rfl, rfl, fun k hk he => ?_, ini_inv f f9, h1, h2, fun _ => 0, hP _ _ hlast⟩, hD.2 _ _ hlast⟩
  have hk1 : k < (TT 0).length := hk
  obtain ⟨k2, -, e, h3, -⟩ := okL.get (TT 0) pi0 0 (ini_ok cA a b q g q9 f f9) k _ (List.getElem?_eq_getElem hk1)
  rw [Nat.zero_add] at h3
  obtain ⟨h4, h5⟩ := up h3
  have h6 := hD.1 _ _ _ _ h4 hlast he
  omega
