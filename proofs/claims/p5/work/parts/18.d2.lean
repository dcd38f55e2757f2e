/-! Names at the start. -/
theorem ini_nn (f f9 : Nat → Int64) : nnI (u00 f f9) := by
  have z : ∀ j, j < 9 → 1 ≤ j → (u0i 4 j).toInt = 0 := by decide +kernel
  have zc : ∀ s, s < 4 → (u0i 4 (cp s)).toInt = 0 := fun s hs => z _ (by have := cp_k hs; omega) (by have := cp_k hs; omega)
  refine ⟨⟨⟨fun _ _ => 0, fun s hs i hi => ?_, fun k hk => ?_, fun s s' i i' hs _ hi => ?_⟩, fun s hs => ?_, ?_⟩, fun h => absurd (show (u0i 53 4).toInt = 0 from rfl) h, fun h => absurd (show (u0i 54 4).toInt = 0 from rfl) h⟩
  · have hi : (i : Int) < (u0i 4 (cp s)).toInt := hi
    rw [zc s hs] at hi
    omega
  · have hk : (k : Int) < (u0i 4 8).toInt := hk
    rw [z 8 (by decide) (by decide)] at hk
    omega
  · have hi : (i : Int) < (u0i 4 (cp s)).toInt := hi
    rw [zc s hs] at hi
    omega
  · show (u0i 4 (cp s)).toInt ≤ _
    rw [zc s hs]
    omega
  · show (u0i 4 8).toInt ≤ 26
    rw [z 8 (by decide) (by decide)]
    decide
