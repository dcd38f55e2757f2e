/-! Names alike between the calls. -/
def NA (u : ac_U) : Prop := NY (u.1 4) (u.2 10) (u.1 11) (u.1 12) (u.2 90)
def NB (u : ac_U) : Prop := NY (u.1 55) (u.2 61) (u.1 62) (u.1 63) (u.2 103)
def NC (u : ac_U) : Prop := NY (u.1 64) (u.2 70) (u.1 71) (u.1 72) (fun k => u.2 103 (26 + k))
def nnI (u : ac_U) : Prop := NA u ∧ ((u.1 53 4).toInt ≠ 0 → NB u) ∧ ((u.1 54 4).toInt ≠ 0 → NC u)
def isNc (c : Nat) : Bool := c == 4 || c == 11 || c == 12 || c == 53 || c == 54 || c == 55 || c == 62 || c == 63 || c == 64 || c == 71 || c == 72
theorem nnI.cg {u u' : ac_U} (h : nnI u) (e : ∀ c k, isNc c = true → (c = 53 ∨ c = 54 → k = 4) → u'.1 c k = u.1 c k) (l : ∀ c k, isNm c = true → u'.2 c k = u.2 c k) : nnI u' := by
  have e4 : u'.1 4 = u.1 4 := funext fun k => e 4 k rfl (by omega)
  have e11 : u'.1 11 = u.1 11 := funext fun k => e 11 k rfl (by omega)
  have e12 : u'.1 12 = u.1 12 := funext fun k => e 12 k rfl (by omega)
  have e55 : u'.1 55 = u.1 55 := funext fun k => e 55 k rfl (by omega)
  have e62 : u'.1 62 = u.1 62 := funext fun k => e 62 k rfl (by omega)
  have e63 : u'.1 63 = u.1 63 := funext fun k => e 63 k rfl (by omega)
  have e64 : u'.1 64 = u.1 64 := funext fun k => e 64 k rfl (by omega)
  have e71 : u'.1 71 = u.1 71 := funext fun k => e 71 k rfl (by omega)
  have e72 : u'.1 72 = u.1 72 := funext fun k => e 72 k rfl (by omega)
  have l10 : u'.2 10 = u.2 10 := funext fun k => l 10 k rfl
  have l61 : u'.2 61 = u.2 61 := funext fun k => l 61 k rfl
  have l70 : u'.2 70 = u.2 70 := funext fun k => l 70 k rfl
  have l90 : u'.2 90 = u.2 90 := funext fun k => l 90 k rfl
  have l103 : u'.2 103 = u.2 103 := funext fun k => l 103 k rfl
  unfold nnI NA NB NC
  rw [e4, e11, e12, e55, e62, e63, e64, e71, e72, l10, l61, l70, l90, l103, e 53 4 rfl (by omega), e 54 4 rfl (by omega)]
  exact h
theorem nc_fr {L : List (Nat × Option Nat)} {u u' : ac_U} (hF : ac_Fr L u u') (h : L.all (fun e => !(isNc e.1)) = true) (c k : Nat) (hc : isNc c = true) : u'.1 c k = u.1 c k := by
  refine hF c k (cv_no (List.all_eq_true.mpr (fun e he => ?_)))
  have h1 := List.all_eq_true.mp h e he
  simp only [Bool.not_eq_true', beq_eq_false_iff_ne, ne_eq]
  intro q
  rw [q, hc] at h1
  cases h1
theorem cR4 {u : ac_U} (hR : ac_R rg u) : (∀ s, s < 4 → (u.1 4 (cp s)).toInt ≤ (cmx s : Int)) ∧ (u.1 4 8).toInt ≤ 26 := by
  refine ⟨fun s hs => ?_, (hR 4 8).2⟩
  rcases (show s = 0 ∨ s = 1 ∨ s = 2 ∨ s = 3 by omega) with e | e | e | e <;> subst e
  · exact (hR 4 1).2
  · exact (hR 4 4).2
  · exact (hR 4 5).2
  · exact (hR 4 6).2
/-- calls that leave the names -/
theorem tw_keep {u u1 u2 : ac_U} {L1 L2 : List (Nat × Option Nat)} (hF1 : ac_Fr L1 u u1) (hF2 : ac_Fr L2 u1 u2) (h1 : L1.all (fun e => !(isNc e.1)) = true) (h2 : L2.all (fun e => decide (85 ≤ e.1)) = true) (l1 : ac_Fl u u1) (l2 : ac_Fl u1 u2) (h : nnI u) : nnI u2 :=
  h.cg (fun c k hc _ => (kR hF2 h2 (by unfold isNc at hc; simp only [Bool.or_eq_true, beq_iff_eq] at hc; omega)).trans (nc_fr hF1 h1 c k hc)) (fun c k hc => (l2 c k hc).trans (l1 c k hc))
theorem tw_house_nm {u u1 u2 : ac_U} {L1 L2 : List (Nat × Option Nat)} {r1 r2 : Int32} (hF1 : ac_Fr L1 u u1) (hF2 : ac_Fr L2 u1 u2) (h1 : L1.all (fun e => decide (e.1 < 85)) = true) (h2 : L2.all (fun e => decide (85 ≤ e.1)) = true) (x1 : f_X11_house_0 u = (u1, r1)) (x2 : f_X12_house_85 u1 = (u2, r2)) (hR : ac_R rg u) (hR2 : ac_R rg u2) (hl : (u.1 1 2).toInt = (u.1 85 2).toInt) (hB : byI u) (h1' : L1.all (fun e => !(e.1 == 53) && !(e.1 == 54) && !(e.1 == 55) && !(e.1 == 62) && !(e.1 == 63) && !(e.1 == 64) && !(e.1 == 71) && !(e.1 == 72)) = true) (hZ : nnI u) : nnI u2 := by
  have s1 := qs_X11_house_0 u
  rw [x1] at s1
  have s2 := qs_X12_house_85 u1
  rw [x2] at s2
  have l90 : u1.2 90 = u.2 90 := funext fun k => s1 90 k rfl rfl
  have hn := house_nm (u := u) (w := u1) (fun k => by rw [kC hF1 h1 (by decide)]; exact hB k) (by rw [kC hF1 h1 (by decide)]; exact Int32.toInt_inj.mp hl) ⟨hR 1 2, fun k => hR 2 k⟩ (fun _ _ => rfl) (fun _ _ => rfl) (by rw [l90]; exact hZ.1.1) hZ.1.2.1 hZ.1.2.2
  rw [x1, x2] at hn
  have f : ∀ c, c < 85 → u2.1 c = u1.1 c := fun c hc => funext fun k => kR hF2 h2 hc
  have g : ∀ c, (c = 53 ∨ c = 54 ∨ c = 55 ∨ c = 62 ∨ c = 63 ∨ c = 64 ∨ c = 71 ∨ c = 72) → u1.1 c = u.1 c := fun c hc => funext fun k => by
    refine hF1 c k (cv_no (List.all_eq_true.mpr (fun e he => ?_)))
    have q := List.all_eq_true.mp h1' e he
    simp only [Bool.and_eq_true, Bool.not_eq_true', beq_eq_false_iff_ne, ne_eq] at q ⊢
    omega
  have k10 : u2.2 10 = u1.2 10 := funext fun k => s2 10 k rfl rfl
  have k61 : u2.2 61 = u.2 61 := funext fun k => (s2 61 k rfl rfl).trans (s1 61 k rfl rfl)
  have k70 : u2.2 70 = u.2 70 := funext fun k => (s2 70 k rfl rfl).trans (s1 70 k rfl rfl)
  have k103 : u2.2 103 = u.2 103 := funext fun k => (s2 103 k rfl rfl).trans (s1 103 k rfl rfl)
  refine ⟨?_, ?_, ?_⟩
  · refine ⟨?_, (cR4 hR2).1, (cR4 hR2).2⟩
    rw [f 4 (by decide), f 11 (by decide), f 12 (by decide), k10]
    exact hn
  · unfold NB
    rw [f 53 (by decide), f 55 (by decide), f 62 (by decide), f 63 (by decide), g 53 (by omega), g 55 (by omega), g 62 (by omega), g 63 (by omega), k61, k103]
    exact hZ.2.1
  · unfold NC
    rw [f 54 (by decide), f 64 (by decide), f 71 (by decide), f 72 (by decide), g 54 (by omega), g 64 (by omega), g 71 (by omega), g 72 (by omega), k70, k103]
    exact hZ.2.2
theorem ix26 {p x : Int32} {P : Nat} (hp : p.toInt = P) (hP : P ≤ 1) (hx : 0 ≤ x.toInt ∧ x.toInt ≤ 100) : ((26 : Int32) * p + x).toNatClampNeg = 26 * P + x.toNatClampNeg := by
  have h1 : ((26 : Int32) * p).toInt = 26 * (P : Int) := i_mul (by decide : (26 : Int32).toInt = 26) hp (by omega)
  have h2 : ((26 : Int32) * p + x).toInt = 26 * (P : Int) + x.toInt := i_add h1 rfl (by omega)
  have h3 := i_cl (x := (26 : Int32) * p + x) (by omega)
  have h4 := i_cl (x := x) hx.1
  omega
theorem image_c2 (w0 : ac_U) (p : Int32) : ∀ (m fuel : Nat) (u : ac_U) (x : Int32), x.toInt = 657 - (m : Int) → m ≤ 657 → m < fuel → ∃ v : ac_U, K_X12_image_85_18 w0 p fuel u x = K_X12_image_85_51 w0 p 28 v (0 : Int32) ∧ v.2 = u.2 := by
  intro m
  induction m with
  | zero =>
    intro fuel u x hx _ hf
    obtain ⟨f, rfl⟩ : ∃ f, fuel = f + 1 := ⟨fuel - 1, by omega⟩
    refine ⟨u, ?_, rfl⟩
    show K_X12_image_85_18_b (K_X12_image_85_18 w0 p f) w0 p u x = _
    unfold K_X12_image_85_18_b
    rw [if_pos (by omega)]
  | succ m ih =>
    intro fuel u x hx hm hf
    obtain ⟨f, rfl⟩ : ∃ f, fuel = f + 1 := ⟨fuel - 1, by omega⟩
    have hx1 : (x + Int32.ofInt 1).toInt = 657 - (m : Int) := by
      rw [i_add rfl (by decide : (Int32.ofInt 1).toInt = 1) (by omega)]
      omega
    have hs : ∃ q : ac_U, q.2 = u.2 ∧ K_X12_image_85_18 w0 p (f + 1) u x = K_X12_image_85_18 w0 p f q (x + Int32.ofInt 1) := by
      refine ⟨pI u 102 ((657 : Int32) * p + x).toNatClampNeg (u.1 87 x.toNatClampNeg), rfl, ?_⟩
      show K_X12_image_85_18_b (K_X12_image_85_18 w0 p f) w0 p u x = _
      unfold K_X12_image_85_18_b
      rw [if_neg (by omega)]
    obtain ⟨q, q1, q2⟩ := hs
    obtain ⟨v, v1, v2⟩ := ih f q (x + Int32.ofInt 1) hx1 (by omega) (by omega)
    exact ⟨v, q2.trans v1, v2.trans q1⟩
theorem image_n2 (w0 : ac_U) (p : Int32) {P : Nat} (hp : p.toInt = P) (hP : P ≤ 1) : ∀ (m fuel : Nat) (u : ac_U) (x : Int32), x.toInt = 26 - (m : Int) → m ≤ 26 → m < fuel → ∃ v : ac_U, K_X12_image_85_51 w0 p fuel u x = (pI v 104 p.toNatClampNeg (1 : Int32), (1 : Int32)) ∧ v.2 90 = u.2 90 ∧ (∀ k, 26 - m ≤ k → k < 26 → v.2 103 (26 * P + k) = u.2 90 k) ∧ (∀ k, k < 26 * P + (26 - m) ∨ 26 * P + 26 ≤ k → v.2 103 k = u.2 103 k) := by
  intro m
  induction m with
  | zero =>
    intro fuel u x hx _ hf
    obtain ⟨f, rfl⟩ : ∃ f, fuel = f + 1 := ⟨fuel - 1, by omega⟩
    refine ⟨u, ?_, rfl, fun k h1 h2 => by omega, fun _ _ => rfl⟩
    show K_X12_image_85_51_b (K_X12_image_85_51 w0 p f) w0 p u x = _
    unfold K_X12_image_85_51_b
    rw [if_pos (by omega)]
  | succ m ih =>
    intro fuel u x hx hm hf
    obtain ⟨f, rfl⟩ : ∃ f, fuel = f + 1 := ⟨fuel - 1, by omega⟩
    have hx1 : (x + Int32.ofInt 1).toInt = 26 - (m : Int) := by
      rw [i_add rfl (by decide : (Int32.ofInt 1).toInt = 1) (by omega)]
      omega
    have hk := i_cl (x := x) (by omega)
    have ho := ix26 (x := x) hp hP (by omega)
    have e : K_X12_image_85_51 w0 p (f + 1) u x = K_X12_image_85_51 w0 p f (pL u 103 ((26 : Int32) * p + x).toNatClampNeg (u.2 90 x.toNatClampNeg)) (x + Int32.ofInt 1) := by
      show K_X12_image_85_51_b (K_X12_image_85_51 w0 p f) w0 p u x = _
      unfold K_X12_image_85_51_b
      rw [if_neg (by omega)]
    rw [ho] at e
    have e90 : (pL u 103 (26 * P + x.toNatClampNeg) (u.2 90 x.toNatClampNeg)).2 90 = u.2 90 := funext fun k => pL_c (by decide)
    obtain ⟨v, v1, v2, v3, v4⟩ := ih f (pL u 103 (26 * P + x.toNatClampNeg) (u.2 90 x.toNatClampNeg)) (x + Int32.ofInt 1) hx1 (by omega) (by omega)
    refine ⟨v, e.trans v1, v2.trans e90, fun k h1 h2 => ?_, fun k h1 => ?_⟩
    · by_cases q : k = x.toNatClampNeg
      · rw [v4 _ (by omega), q, pL_s]
      · rw [v3 k (by omega) h2, e90]
    · rw [v4 k (by omega), pL_k (by omega)]
theorem image_L (w : ac_U) (p : Int32) : (∀ P : Nat, p.toInt = P → P ≤ 1 → (∀ k, k < 26 → (f_X12_image_85 w p).1.2 103 (26 * P + k) = w.2 90 k) ∧ (∀ k, k < 26 * P ∨ 26 * P + 26 ≤ k → (f_X12_image_85 w p).1.2 103 k = w.2 103 k)) ∧ (p.toInt < 0 ∨ 1 < p.toInt → (f_X12_image_85 w p).1.2 103 = w.2 103) := by
  have hc : f_X12_image_85 w p = if (f_X12_isIn_f (pI w 85 0 (0 : Int32)) p (0 : Int32) (1 : Int32)).toInt ≠ 0 then K_X12_image_85_18 w p 659 (pI w 85 0 (0 : Int32)) (0 : Int32) else (pI w 85 0 (0 : Int32), (0 : Int32)) := rfl
  refine ⟨fun P hp hP => ?_, fun hp => ?_⟩
  · rw [hc, if1 (by rw [t0i, t1i]; omega), if_pos n1]
    obtain ⟨v, v1, v2⟩ := image_c2 w p 657 659 (pI w 85 0 (0 : Int32)) (0 : Int32) (by decide) (by decide) (by decide)
    obtain ⟨z, z1, z2, z3, z4⟩ := image_n2 w p hp hP 26 28 v (0 : Int32) (by decide) (by decide) (by decide)
    rw [v1, z1]
    refine ⟨fun k hk => ?_, fun k hk => ?_⟩
    · show z.2 103 (26 * P + k) = _
      rw [z3 k (by omega) hk, v2]
      rfl
    · show z.2 103 k = _
      rw [z4 k (by omega), v2]
      rfl
  · rw [hc, if0 (by rw [t0i, t1i]; omega), if_neg n0]
    rfl
theorem restore_c2 (w0 : ac_U) (p : Int32) : ∀ (m fuel : Nat) (u : ac_U) (x : Int32), x.toInt = 657 - (m : Int) → m ≤ 657 → m < fuel → ∃ v : ac_U, K_X12_restore_85_27 w0 p fuel u x = K_X12_restore_85_60 w0 p 28 v (0 : Int32) ∧ v.2 = u.2 := by
  intro m
  induction m with
  | zero =>
    intro fuel u x hx _ hf
    obtain ⟨f, rfl⟩ : ∃ f, fuel = f + 1 := ⟨fuel - 1, by omega⟩
    refine ⟨u, ?_, rfl⟩
    show K_X12_restore_85_27_b (K_X12_restore_85_27 w0 p f) w0 p u x = _
    unfold K_X12_restore_85_27_b
    rw [if_pos (by omega)]
  | succ m ih =>
    intro fuel u x hx hm hf
    obtain ⟨f, rfl⟩ : ∃ f, fuel = f + 1 := ⟨fuel - 1, by omega⟩
    have hx1 : (x + Int32.ofInt 1).toInt = 657 - (m : Int) := by
      rw [i_add rfl (by decide : (Int32.ofInt 1).toInt = 1) (by omega)]
      omega
    have hs : ∃ q : ac_U, q.2 = u.2 ∧ K_X12_restore_85_27 w0 p (f + 1) u x = K_X12_restore_85_27 w0 p f q (x + Int32.ofInt 1) := by
      refine ⟨pI u 87 x.toNatClampNeg (u.1 102 ((657 : Int32) * p + x).toNatClampNeg), rfl, ?_⟩
      show K_X12_restore_85_27_b (K_X12_restore_85_27 w0 p f) w0 p u x = _
      unfold K_X12_restore_85_27_b
      rw [if_neg (by omega)]
    obtain ⟨q, q1, q2⟩ := hs
    obtain ⟨v, v1, v2⟩ := ih f q (x + Int32.ofInt 1) hx1 (by omega) (by omega)
    exact ⟨v, q2.trans v1, v2.trans q1⟩
theorem restore_n2 (w0 : ac_U) (p : Int32) {P : Nat} (hp : p.toInt = P) (hP : P ≤ 1) : ∀ (m fuel : Nat) (u : ac_U) (x : Int32), x.toInt = 26 - (m : Int) → m ≤ 26 → m < fuel → ∃ v : ac_U, K_X12_restore_85_60 w0 p fuel u x = (pI v 85 24 (0 : Int32), (1 : Int32)) ∧ v.2 103 = u.2 103 ∧ (∀ k, 26 - m ≤ k → k < 26 → v.2 90 k = u.2 103 (26 * P + k)) ∧ (∀ k, k < 26 - m → v.2 90 k = u.2 90 k) := by
  intro m
  induction m with
  | zero =>
    intro fuel u x hx _ hf
    obtain ⟨f, rfl⟩ : ∃ f, fuel = f + 1 := ⟨fuel - 1, by omega⟩
    refine ⟨u, ?_, rfl, fun k h1 h2 => by omega, fun _ _ => rfl⟩
    show K_X12_restore_85_60_b (K_X12_restore_85_60 w0 p f) w0 p u x = _
    unfold K_X12_restore_85_60_b
    rw [if_pos (by omega)]
  | succ m ih =>
    intro fuel u x hx hm hf
    obtain ⟨f, rfl⟩ : ∃ f, fuel = f + 1 := ⟨fuel - 1, by omega⟩
    have hx1 : (x + Int32.ofInt 1).toInt = 26 - (m : Int) := by
      rw [i_add rfl (by decide : (Int32.ofInt 1).toInt = 1) (by omega)]
      omega
    have hk := i_cl (x := x) (by omega)
    have ho := ix26 (x := x) hp hP (by omega)
    have e : K_X12_restore_85_60 w0 p (f + 1) u x = K_X12_restore_85_60 w0 p f (pL u 90 x.toNatClampNeg (u.2 103 ((26 : Int32) * p + x).toNatClampNeg)) (x + Int32.ofInt 1) := by
      show K_X12_restore_85_60_b (K_X12_restore_85_60 w0 p f) w0 p u x = _
      unfold K_X12_restore_85_60_b
      rw [if_neg (by omega)]
    rw [ho] at e
    have e103 : (pL u 90 x.toNatClampNeg (u.2 103 (26 * P + x.toNatClampNeg))).2 103 = u.2 103 := funext fun k => pL_c (by decide)
    obtain ⟨v, v1, v2, v3, v4⟩ := ih f (pL u 90 x.toNatClampNeg (u.2 103 (26 * P + x.toNatClampNeg))) (x + Int32.ofInt 1) hx1 (by omega) (by omega)
    refine ⟨v, e.trans v1, v2.trans e103, fun k h1 h2 => ?_, fun k h1 => ?_⟩
    · by_cases q : k = x.toNatClampNeg
      · rw [v4 _ (by omega), q, pL_s]
      · rw [v3 k (by omega) h2, e103]
    · rw [v4 k (by omega), pL_k (by omega)]
theorem restore_L (w : ac_U) (p : Int32) : (∀ P : Nat, p.toInt = P → P ≤ 1 → (w.1 104 P).toInt ≠ 0 → ∀ k, k < 26 → (f_X12_restore_85 w p).1.2 90 k = w.2 103 (26 * P + k)) ∧ (∀ P : Nat, p.toInt = P → P ≤ 1 → (w.1 104 P).toInt = 0 → (f_X12_restore_85 w p).1.2 90 = w.2 90) ∧ (p.toInt < 0 ∨ 1 < p.toInt → (f_X12_restore_85 w p).1.2 90 = w.2 90) := by
  have hc : f_X12_restore_85 w p = if (f_X12_isIn_f (pI w 85 0 (0 : Int32)) p (0 : Int32) (1 : Int32)).toInt = 0 then (pI w 85 0 (0 : Int32), (0 : Int32)) else (if ((pI w 85 0 (0 : Int32)).1 104 p.toNatClampNeg).toInt ≠ 0 then K_X12_restore_85_27 w p 659 (pI w 85 0 (0 : Int32)) (0 : Int32) else (pI w 85 0 (0 : Int32), (0 : Int32))) := rfl
  refine ⟨fun P hp hP hk => ?_, fun P hp hP hk => ?_, fun hp => ?_⟩
  · have hP2 := i_cl (x := p) (by omega)
    have e : (pI w 85 0 (0 : Int32)).1 104 p.toNatClampNeg = w.1 104 P := by rw [pI_c (by decide), show p.toNatClampNeg = P by omega]
    rw [hc, if1 (by rw [t0i, t1i]; omega), if_neg n1', e, if_pos hk]
    obtain ⟨v, v1, v2⟩ := restore_c2 w p 657 659 (pI w 85 0 (0 : Int32)) (0 : Int32) (by decide) (by decide) (by decide)
    obtain ⟨z, z1, z2, z3, z4⟩ := restore_n2 w p hp hP 26 28 v (0 : Int32) (by decide) (by decide) (by decide)
    rw [v1, z1]
    intro k hk
    show z.2 90 k = _
    rw [z3 k (by omega) hk, v2]
    rfl
  · have hP2 := i_cl (x := p) (by omega)
    have e : (pI w 85 0 (0 : Int32)).1 104 p.toNatClampNeg = w.1 104 P := by rw [pI_c (by decide), show p.toNatClampNeg = P by omega]
    rw [hc, if1 (by rw [t0i, t1i]; omega), if_neg n1', e, if_neg (fun z => z hk)]
    rfl
  · rw [hc, if0 (by rw [t0i, t1i]; omega), if_pos t0i]
    rfl
