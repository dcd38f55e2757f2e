/-! Lengths of the tapes, flags of the images: alike. -/
def ln0 (c : Nat) (u : ac_U) : Prop := (u.1 c 2).toInt = 0
theorem sp_ln0 (c : Nat) : ac_Sp [(c, 2, 2)] (ln0 c) := fun u u' h q => by
  unfold ln0
  rw [h c 2 (sp_of (a := 2) (b := 2) (by simp) (by omega) (by omega))]
  exact q
theorem ln0_D {A : Nat → Prop} {ad : Nat → Nat} {cA : Nat → ClassId} {T : List ac_T} {u : ac_U} {c : Nat} (_ : va_D A (ac_w ad cA T (ac_si u c (upd (u.1 c) 2 (0 : Int32))))) : ln0 c (ac_si u c (upd (u.1 c) 2 (0 : Int32))) := by
  unfold ln0
  rw [ac_si_s]
  show (if (2 : Nat) = 2 then (0 : Int32) else u.1 c 2).toInt = 0
  rw [if_pos rfl]
  rfl
def dlI (c : Nat) (u0 : ac_U) (p : Int) (u : ac_U) : Prop := (p = 0 ∨ p = 1 → (u.1 c 2).toInt = 0) ∧ (p ≠ 0 → p ≠ 1 → (u.1 c 2).toInt = (u0.1 c 2).toInt)
theorem sp_dl (c : Nat) (u0 : ac_U) (p : Int) : ac_Sp [(c, 2, 2)] (dlI c u0 p) := fun u u' h q => by
  unfold dlI
  rw [h c 2 (sp_of (a := 2) (b := 2) (by simp) (by omega) (by omega))]
  exact q
theorem dl_0 {c : Nat} {u0 u : ac_U} {p : Int} (hp : p = 0 ∨ p = 1) (h : ln0 c u) : dlI c u0 p u := ⟨fun _ => h, fun h0 h1 => by omega⟩
theorem dl_k {c : Nat} {u0 u : ac_U} {p : Int} (h0 : p ≠ 0) (h1 : p ≠ 1) (h : u.1 c 2 = u0.1 c 2) : dlI c u0 p u := ⟨fun q => by omega, fun _ _ => congrArg Int32.toInt h⟩
theorem dl_D {A : Nat → Prop} {ad : Nat → Nat} {cA : Nat → ClassId} {T : List ac_T} {u0 u : ac_U} {c : Nat} {p : Int} (hp : p = 0 ∨ p = 1) (hD : va_D A (ac_w ad cA T (ac_si u c (upd (u.1 c) 2 (0 : Int32))))) : dlI c u0 p (ac_si u c (upd (u.1 c) 2 (0 : Int32))) := dl_0 hp (ln0_D hD)
def k4I (u0 u : ac_U) : Prop := u.1 104 0 = u0.1 104 0 ∧ u.1 104 1 = u0.1 104 1
theorem sp_k4 (u0 : ac_U) : ac_Sp [(104, 0, 1)] (k4I u0) := fun u u' h q => by
  unfold k4I
  rw [h 104 0 (sp_of (a := 0) (b := 1) (by simp) (by omega) (by omega)), h 104 1 (sp_of (a := 0) (b := 1) (by simp) (by omega) (by omega))]
  exact q
def kfI (u0 : ac_U) (p : Int) (u : ac_U) : Prop := (p = 0 → (u.1 104 0).toInt = 1 ∧ (u.1 104 1).toInt = (u0.1 104 1).toInt) ∧ (p = 1 → (u.1 104 1).toInt = 1 ∧ (u.1 104 0).toInt = (u0.1 104 0).toInt) ∧ (p < 0 ∨ 1 < p → (u.1 104 0).toInt = (u0.1 104 0).toInt ∧ (u.1 104 1).toInt = (u0.1 104 1).toInt)
theorem kf_0 {u0 u : ac_U} {p : Int} (h : k4I u0 u) (hp : p < 0 ∨ 1 < p) : kfI u0 p u := ⟨fun _ => by omega, fun _ => by omega, fun _ => by rw [h.1, h.2]; exact ⟨rfl, rfl⟩⟩
theorem kf_w {A : Nat → Prop} {ad : Nat → Nat} {cA : Nat → ClassId} {T : List ac_T} {u0 u : ac_U} (h : k4I u0 u) {i : Int32} (hi : 0 ≤ i.toInt ∧ i.toInt ≤ 1) (_ : va_D A (ac_w ad cA T (ac_si u 104 (upd (u.1 104) i.toNatClampNeg (1 : Int32))))) : kfI u0 i.toInt (ac_si u 104 (upd (u.1 104) i.toNatClampNeg (1 : Int32))) := by
  have h2 := i_cl (x := i) (by omega)
  have e1 : (1 : Int32).toInt = 1 := by decide
  unfold kfI
  rw [ac_si_s]
  refine ⟨fun q => ?_, fun q => ?_, fun q => by omega⟩
  · rw [show i.toNatClampNeg = 0 by omega]
    show (if (0 : Nat) = 0 then (1 : Int32) else u.1 104 0).toInt = 1 ∧ (if (1 : Nat) = 0 then (1 : Int32) else u.1 104 1).toInt = _
    rw [if_pos rfl, if_neg (by decide), h.2]
    exact ⟨e1, rfl⟩
  · rw [show i.toNatClampNeg = 1 by omega]
    show (if (1 : Nat) = 1 then (1 : Int32) else u.1 104 1).toInt = 1 ∧ (if (0 : Nat) = 1 then (1 : Int32) else u.1 104 0).toInt = _
    rw [if_pos rfl, if_neg (by decide), h.1]
    exact ⟨e1, rfl⟩
theorem ar_01 {L : List (Nat × Option Nat)} {u0 u : ac_U} {i v : Int32} (hF : ac_Fr L u0 u) (h0 : ac_cv L 104 0 = false) (h1 : ac_cv L 104 1 = false) (e : u.1 104 i.toNatClampNeg = v) : (i.toInt = 0 → v.toInt = (u0.1 104 0).toInt) ∧ (i.toInt = 1 → v.toInt = (u0.1 104 1).toInt) := by
  refine ⟨fun q => ?_, fun q => ?_⟩
  · have h2 := i_cl (x := i) (by omega)
    rw [show i.toNatClampNeg = 0 by omega, hF 104 0 h0] at e
    rw [e]
  · have h2 := i_cl (x := i) (by omega)
    rw [show i.toNatClampNeg = 1 by omega, hF 104 1 h1] at e
    rw [e]
/-- what is alike in the two halves between the calls -/
def eqv (u : ac_U) : Prop := (u.1 1 2).toInt = (u.1 85 2).toInt ∧ (u.1 53 4).toInt = (u.1 104 0).toInt ∧ (u.1 54 4).toInt = (u.1 104 1).toInt
theorem sp_eqv : ac_Sp [(1, 2, 2), (85, 2, 2), (53, 4, 4), (54, 4, 4), (104, 0, 1)] eqv := fun u u' h q => by
  unfold eqv
  rw [h 1 2 (sp_of (a := 2) (b := 2) (by simp) (by omega) (by omega)), h 85 2 (sp_of (a := 2) (b := 2) (by simp) (by omega) (by omega)), h 53 4 (sp_of (a := 4) (b := 4) (by simp) (by omega) (by omega)), h 54 4 (sp_of (a := 4) (b := 4) (by simp) (by omega) (by omega)), h 104 0 (sp_of (a := 0) (b := 1) (by simp) (by omega) (by omega)), h 104 1 (sp_of (a := 0) (b := 1) (by simp) (by omega) (by omega))]
  exact q
