/-! The reference: time within its days, what is kept, what may be undone. -/
theorem sw_o {u : ac_U} {c d k : Nat} {g : Nat → Int32} (h : d ≠ c) : (ac_si u c g).1 d k = u.1 d k := congrFun (ac_si_o d h).1 k
theorem sw_n {u : ac_U} {c k j : Nat} {v : Int32} (h : j ≠ k) : (ac_si u c (upd (u.1 c) k v)).1 c j = u.1 c j := by rw [ac_si_s, upd_ne h]
theorem sw_e {u : ac_U} {c k : Nat} {v : Int32} : (ac_si u c (upd (u.1 c) k v)).1 c k = v := by rw [ac_si_s, upd_eq]
def msI (u : ac_U) : Prop := (u.1 87 106).toInt ≤ 20 * (u.1 87 0).toInt ∧ (0 < (u.1 87 4).toInt → 0 < (u.1 87 1).toInt)
theorem sp_MS : ac_Sp [(87, 0, 1), (87, 4, 4), (87, 106, 106)] msI := fun u u' h q => by
  unfold msI
  rw [h 87 106 (by decide), h 87 0 (by decide), h 87 4 (by decide), h 87 1 (by decide)]
  exact q
theorem ms_t {u : ac_U} {v : Int32} (h : msI u) (hv : v.toInt ≤ 20 * (u.1 87 0).toInt) : msI (ac_si u 87 (upd (u.1 87) 106 v)) := by
  unfold msI
  rw [sw_e, sw_n (by decide), sw_n (by decide), sw_n (by decide)]
  exact ⟨hv, h.2⟩
theorem ms_w {u : ac_U} {i v : Int32} (h : msI u) (hi : 106 ≤ i.toInt) (hv : i.toInt = 106 → v.toInt ≤ 20 * (u.1 87 0).toInt) : msI (ac_si u 87 (upd (u.1 87) i.toNatClampNeg v)) := by
  have h1 := i_cl (x := i) (by omega)
  by_cases q : i.toInt = 106
  · rw [show i.toNatClampNeg = 106 by omega]
    exact ms_t h (hv q)
  · unfold msI
    rw [sw_n (by omega), sw_n (by omega), sw_n (by omega), sw_n (by omega)]
    exact h
def unI (u : ac_U) : Prop := ∀ j : Nat, j < 8 → (j : Int) < (u.1 85 24).toInt → (u.1 93 (370 * j)).toInt ≤ 20 * (u.1 87 0).toInt
def ueI (u : ac_U) : Prop := ∀ j : Nat, j < 8 → (j : Int) ≤ (u.1 85 24).toInt → (u.1 93 (370 * j)).toInt ≤ 20 * (u.1 87 0).toInt
def ukI (n : Int) (u : ac_U) : Prop := 1 ≤ n → ∀ j : Nat, j < 8 → (j : Int) = (u.1 85 24).toInt → (u.1 93 (370 * j)).toInt ≤ 20 * (u.1 87 0).toInt
theorem sp_UI : ac_Sp [(85, 24, 24), (87, 0, 0), (93, 0, 2959)] unI := fun u u' h q j hj hl => by
  rw [h 93 (370 * j) (sp_of (a := 0) (b := 2959) (by simp) (by omega) (by omega)), h 87 0 (by decide)]
  rw [h 85 24 (by decide)] at hl
  exact q j hj hl
theorem sp_UIe : ac_Sp [(85, 24, 24), (87, 0, 0), (93, 0, 2959)] ueI := fun u u' h q j hj hl => by
  rw [h 93 (370 * j) (sp_of (a := 0) (b := 2959) (by simp) (by omega) (by omega)), h 87 0 (by decide)]
  rw [h 85 24 (by decide)] at hl
  exact q j hj hl
theorem un_sh {u : ac_U} {i i' v : Int32} (h : unI u) (hm : (u.1 85 24).toInt = 8) (hi : 0 ≤ i.toInt ∧ i.toInt < 2590) (hi' : i'.toInt = i.toInt + 370) (e : u.1 93 i'.toNatClampNeg = v) : unI (ac_si u 93 (upd (u.1 93) i.toNatClampNeg v)) := by
  intro j hj hl
  have h1 := i_cl (x := i) (by omega)
  have h2 := i_cl (x := i') (by omega)
  rw [sw_o (c := 93) (d := 85) (by decide)] at hl
  rw [sw_o (c := 93) (d := 87) (by decide)]
  by_cases q : 370 * j = i.toNatClampNeg
  · rw [q, sw_e, ← e, show i'.toNatClampNeg = 370 * (j + 1) by omega]
    exact h (j + 1) (by omega) (by omega)
  · rw [sw_n q]
    exact h j hj hl
theorem un_dec {u : ac_U} {v : Int32} (h : unI u) (hv : v.toInt ≤ (u.1 85 24).toInt) : unI (ac_si u 85 (upd (u.1 85) 24 v)) := by
  intro j hj hl
  rw [sw_e] at hl
  rw [sw_o (by decide), sw_o (by decide)]
  exact h j hj (by omega)
theorem un_w2 {u : ac_U} {i v : Int32} (h : unI u) (h0 : 0 ≤ i.toInt) (hi : 370 * (u.1 85 24).toInt ≤ i.toInt) : unI (ac_si u 93 (upd (u.1 93) i.toNatClampNeg v)) := by
  intro j hj hl
  have h1 := i_cl h0
  rw [sw_o (c := 93) (d := 85) (by decide)] at hl
  rw [sw_o (c := 93) (d := 87) (by decide)]
  rw [sw_n (by omega)]
  exact h j hj hl
theorem un_w3 {u : ac_U} {i v : Int32} {x : Int} (h : unI u) (hx : 0 ≤ x ∧ x < 370) (hu : 1 ≤ (u.1 85 24).toInt) (hi : i.toInt = 370 * ((u.1 85 24).toInt - 1) + x) (hv : x = 0 → v.toInt ≤ 20 * (u.1 87 0).toInt) : unI (ac_si u 93 (upd (u.1 93) i.toNatClampNeg v)) := by
  intro j hj hl
  have h1 := i_cl (x := i) (by omega)
  rw [sw_o (c := 93) (d := 85) (by decide)] at hl
  rw [sw_o (c := 93) (d := 87) (by decide)]
  by_cases q : 370 * j = i.toNatClampNeg
  · rw [q, sw_e]
    exact hv (by omega)
  · rw [sw_n q]
    exact h j hj hl
theorem uk_0 {n : Int} {u : ac_U} (h : n ≤ 0) : ukI n u := fun q => by omega
theorem uk_eq {a b : Int} {u : ac_U} (h : ukI a u) (e : a = b) : ukI b u := e ▸ h
theorem uk_keep {u : ac_U} {i k v : Int32} {x : Int} (h : ukI x u) (hM : msI u) (hx : 0 ≤ x ∧ x < 370) (hu : 0 ≤ (u.1 85 24).toInt) (hi : i.toInt = 370 * (u.1 85 24).toInt + x) (hk : k.toInt = 106 + x) (e : u.1 87 k.toNatClampNeg = v) : ukI (x + 1) (ac_si u 93 (upd (u.1 93) i.toNatClampNeg v)) := by
  intro _ j hj hl
  have h1 := i_cl (x := i) (by omega)
  have h2 := i_cl (x := k) (by omega)
  rw [sw_o (c := 93) (d := 85) (by decide)] at hl
  rw [sw_o (c := 93) (d := 87) (by decide)]
  by_cases q : 370 * j = i.toNatClampNeg
  · rw [q, sw_e, ← e, show k.toNatClampNeg = 106 by omega]
    exact hM.1
  · rw [sw_n q]
    exact h (by omega) j hj hl
theorem un_inc {u : ac_U} {v : Int32} {n : Int} (h : unI u) (hk : ukI n u) (hn : 1 ≤ n) (hv : v.toInt = (u.1 85 24).toInt + 1) : unI (ac_si u 85 (upd (u.1 85) 24 v)) := by
  intro j hj hl
  rw [sw_e] at hl
  rw [sw_o (by decide), sw_o (by decide)]
  by_cases q : (j : Int) = (u.1 85 24).toInt
  · exact hk hn j hj q
  · exact h j hj (by omega)
theorem ue_dec {u : ac_U} {v : Int32} (h : unI u) (hv : v.toInt = (u.1 85 24).toInt - 1) : ueI (ac_si u 85 (upd (u.1 85) 24 v)) := by
  intro j hj hl
  rw [sw_e] at hl
  rw [sw_o (by decide), sw_o (by decide)]
  exact h j hj (by omega)
theorem ue_lt {u : ac_U} (h : ueI u) : unI u := fun j hj hl => h j hj (by omega)
theorem ue_get {u : ac_U} {i v : Int32} (h : ueI u) (hu : 0 ≤ (u.1 85 24).toInt ∧ (u.1 85 24).toInt < 8) (hi : i.toInt = 370 * (u.1 85 24).toInt) (e : u.1 93 i.toNatClampNeg = v) : v.toInt ≤ 20 * (u.1 87 0).toInt := by
  have h1 := i_cl (x := i) (by omega)
  rw [← e, show i.toNatClampNeg = 370 * (u.1 85 24).toInt.toNat by omega]
  exact h _ (by omega) (by omega)
theorem un_0D {A : Nat → Prop} {ad : Nat → Nat} {cA : Nat → ClassId} {T : List ac_T} {u : ac_U} {v : Int32} (_ : va_D A (ac_w ad cA T (ac_si u 85 (upd (u.1 85) 24 v)))) (hv : v.toInt = 0) : unI (ac_si u 85 (upd (u.1 85) 24 v)) := fun j hj hl => by
  rw [sw_e] at hl
  omega
def bfI (u : ac_U) : Prop := (u.1 94 0).toInt ≤ 20 * (u.1 87 0).toInt
theorem sp_BI : ac_Sp [(87, 0, 0), (94, 0, 0)] bfI := fun u u' h q => by
  unfold bfI
  rw [h 87 0 (by decide), h 94 0 (by decide)]
  exact q
def bkI (n : Int) (u : ac_U) : Prop := 1 ≤ n → bfI u
theorem bk_0 {n : Int} {u : ac_U} (h : n ≤ 0) : bkI n u := fun q => by omega
theorem bk_eq {a b : Int} {u : ac_U} (h : bkI a u) (e : a = b) : bkI b u := e ▸ h
theorem bk_w {u : ac_U} {i k v : Int32} (h : bkI i.toInt u) (hM : msI u) (hi : 0 ≤ i.toInt ∧ i.toInt < 370) (hk : k.toInt = 106 + i.toInt) (e : u.1 87 k.toNatClampNeg = v) : bkI (i.toInt + 1) (ac_si u 94 (upd (u.1 94) i.toNatClampNeg v)) := by
  intro _
  have h1 := i_cl (x := i) (by omega)
  have h2 := i_cl (x := k) (by omega)
  unfold bfI
  rw [sw_o (c := 94) (d := 87) (by decide)]
  by_cases q : i.toInt = 0
  · rw [show i.toNatClampNeg = 0 by omega, sw_e, ← e, show k.toNatClampNeg = 106 by omega]
    exact hM.1
  · rw [sw_n (by omega)]
    exact h (by omega)
theorem bf_get {u : ac_U} {i v : Int32} (h : bfI u) (e : u.1 94 i.toNatClampNeg = v) (hi : i.toInt = 0) : v.toInt ≤ 20 * (u.1 87 0).toInt := by
  have h1 := i_cl (x := i) (by omega)
  rw [← e, show i.toNatClampNeg = 0 by omega]
  exact h
theorem rg_d5 : ∀ m, m < 8 → ∀ x, x < 370 → ((rg 93 (370 * m + x)).1 ≤ (rg 94 x).1 ∧ (rg 94 x).2 ≤ (rg 93 (370 * m + x)).2) := by decide +kernel
theorem rg_u5 {i j : Int32} {m : Int} (hm : 0 ≤ m ∧ m < 8) (hx : 0 ≤ j.toInt ∧ j.toInt < 370) (hi : i.toInt = 370 * m + j.toInt) : rgle 94 j.toNatClampNeg 93 i.toNatClampNeg := by
  have h1 := i_cl (x := i) (by omega)
  have h2 := i_cl (x := j) (by omega)
  unfold rgle
  rw [show i.toNatClampNeg = 370 * m.toNat + j.toNatClampNeg by omega]
  exact rg_d5 m.toNat (by omega) _ (by omega)
/-- codes of a sentence, each behind those that it joins -/
def cwD (g : Nat → Int32) (b : Nat) : Nat → Int
  | 0 => 0
  | i + 1 => cwD g b i + (if (g (b + 1 + 3 * i)).toInt = 20 then 0 else if (g (b + 1 + 3 * i)).toInt = 21 ∨ (g (b + 1 + 3 * i)).toInt = 22 then -1 else 1)
def cwO (g : Nat → Int32) (b i : Nat) : Prop := ((g (b + 1 + 3 * i)).toInt = 20 → 1 ≤ cwD g b i) ∧ ((g (b + 1 + 3 * i)).toInt = 21 ∨ (g (b + 1 + 3 * i)).toInt = 22 → 2 ≤ cwD g b i)
def cwF (g : Nat → Int32) (b : Nat) : Prop := ∀ i : Nat, i < 45 → (i : Int) < (g b).toInt → cwO g b i
theorem cwD_tr {g g' : Nat → Int32} {b b' : Nat} (h : ∀ j, j ≤ 180 → g' (b' + j) = g (b + j)) : ∀ i, i ≤ 45 → cwD g' b' i = cwD g b i := by
  intro i
  induction i with
  | zero => intro _; rfl
  | succ i ih =>
    intro hi
    have h1 := h (1 + 3 * i) (by omega)
    rw [← Nat.add_assoc, ← Nat.add_assoc] at h1
    simp only [cwD]
    rw [ih (by omega), h1]
theorem cw_tr {g g' : Nat → Int32} {b b' : Nat} (h : ∀ j, j ≤ 180 → g' (b' + j) = g (b + j)) (q : cwF g b) : cwF g' b' := by
  intro i hi hl
  have h0 := h 0 (by omega)
  have h1 := h (1 + 3 * i) (by omega)
  rw [← Nat.add_assoc, ← Nat.add_assoc] at h1
  rw [Nat.add_zero, Nat.add_zero] at h0
  rw [h0] at hl
  unfold cwO
  rw [h1, cwD_tr h i (by omega)]
  exact q i hi hl
def cdI (u : ac_U) : Prop := cwF (u.1 87) 476
theorem sp_CW : ac_Sp [(87, 476, 656)] cdI := fun u u' h q => cw_tr (fun j hj => h 87 (476 + j) (sp_of (a := 476) (b := 656) (by simp) (by omega) (by omega))) q
/-- a block that is kept is good -/
def kgI (p : Int) (u : ac_U) : Prop := ∀ k : Nat, k < 2 → (k : Int) = p → 4 ≤ (u.1 102 (657 * k)).toInt ∧ (u.1 102 (657 * k + 106)).toInt ≤ 20 * (u.1 102 (657 * k)).toInt ∧ (0 < (u.1 102 (657 * k + 4)).toInt → 0 < (u.1 102 (657 * k + 1)).toInt) ∧ cwF (u.1 102) (657 * k + 476)
def kpI (u : ac_U) : Prop := ∀ k : Nat, k < 2 → (u.1 104 k).toInt ≠ 0 → kgI k u
def koI (p : Int) (u : ac_U) : Prop := ∀ k : Nat, k < 2 → (k : Int) ≠ p → (u.1 104 k).toInt ≠ 0 → kgI k u
theorem kg_tr {p : Int} {u u' : ac_U} (h : ∀ k : Nat, k < 2 → (k : Int) = p → ∀ j, j < 657 → u'.1 102 (657 * k + j) = u.1 102 (657 * k + j)) (q : kgI p u) : kgI p u' := by
  intro k hk e
  have h0 := h k hk e 0 (by omega)
  rw [Nat.add_zero] at h0
  rw [h0, h k hk e 106 (by omega), h k hk e 4 (by omega), h k hk e 1 (by omega)]
  obtain ⟨q1, q2, q3, q4⟩ := q k hk e
  refine ⟨q1, q2, q3, cw_tr (fun j hj => ?_) q4⟩
  rw [Nat.add_assoc]
  exact h k hk e (476 + j) (by omega)
theorem sp_KG (p : Int) : ac_Sp [(102, 0, 1313)] (kgI p) := fun u u' h q => kg_tr (fun k hk _ j hj => h 102 (657 * k + j) (sp_of (a := 0) (b := 1313) (by simp) (by omega) (by omega))) q
theorem sp_KI : ac_Sp [(102, 0, 1313), (104, 0, 1)] kpI := fun u u' h q k hk e => by
  rw [h 104 k (sp_of (a := 0) (b := 1) (by simp) (by omega) (by omega))] at e
  exact kg_tr (fun k hk _ j hj => h 102 (657 * k + j) (sp_of (a := 0) (b := 1313) (by simp) (by omega) (by omega))) (q k hk e)
theorem sp_KO (p : Int) : ac_Sp [(102, 0, 1313), (104, 0, 1)] (koI p) := fun u u' h q k hk hp e => by
  rw [h 104 k (sp_of (a := 0) (b := 1) (by simp) (by omega) (by omega))] at e
  exact kg_tr (fun k hk _ j hj => h 102 (657 * k + j) (sp_of (a := 0) (b := 1313) (by simp) (by omega) (by omega))) (q k hk hp e)
theorem kp_ko {p : Int} {u : ac_U} (h : kpI u) : koI p u := fun k hk _ e => h k hk e
theorem kp_get {u : ac_U} {i v : Int32} (h : kpI u) (hi : 0 ≤ i.toInt ∧ i.toInt ≤ 1) (e : u.1 104 i.toNatClampNeg = v) (hv : v.toInt ≠ 0) : kgI i.toInt u := by
  have h1 := i_cl hi.1
  rw [← e] at hv
  have h2 := h i.toNatClampNeg (by omega) hv
  rw [h1] at h2
  exact h2
/-- what is kept comes back -/
def rcI (p n : Int) (u : ac_U) : Prop := ∀ j : Nat, (j : Int) < n → j < 657 → u.1 87 j = u.1 102 (657 * p.toNat + j)
theorem rc_0 {p n : Int} {u : ac_U} (h : n ≤ 0) : rcI p n u := fun j hj => by omega
theorem rc_eq {p a b : Int} {u : ac_U} (h : rcI p a u) (e : a = b) : rcI p b u := e ▸ h
theorem rc_w {p : Int} {u : ac_U} {i k v : Int32} (h : rcI p i.toInt u) (hp : 0 ≤ p ∧ p ≤ 1) (hi : 0 ≤ i.toInt ∧ i.toInt < 657) (hk : k.toInt = 657 * p + i.toInt) (e : u.1 102 k.toNatClampNeg = v) : rcI p (i.toInt + 1) (ac_si u 87 (upd (u.1 87) i.toNatClampNeg v)) := by
  intro j hj hj2
  have h1 := i_cl hi.1
  have h2 := i_cl (x := k) (by omega)
  rw [sw_o (c := 87) (d := 102) (by decide)]
  by_cases q : j = i.toNatClampNeg
  · rw [q, sw_e, ← e]
    exact congrArg (u.1 102) (by omega)
  · rw [sw_n q]
    exact h j (by omega) hj2
theorem rc_ms {p n : Int} {u : ac_U} (hg : kgI p u) (h : rcI p n u) (hp : 0 ≤ p ∧ p ≤ 1) (hn : 657 ≤ n) : msI u := by
  obtain ⟨q1, q2, q3, q4⟩ := hg p.toNat (by omega) (by omega)
  have h0 := h 0 (by omega) (by omega)
  rw [Nat.add_zero] at h0
  unfold msI
  rw [h0, h 106 (by omega) (by omega), h 4 (by omega) (by omega), h 1 (by omega) (by omega)]
  exact ⟨q2, q3⟩
theorem rc_cw {p n : Int} {u : ac_U} (hg : kgI p u) (h : rcI p n u) (hp : 0 ≤ p ∧ p ≤ 1) (hn : 657 ≤ n) : cdI u := by
  obtain ⟨q1, q2, q3, q4⟩ := hg p.toNat (by omega) (by omega)
  refine cw_tr (fun j hj => ?_) q4
  rw [h (476 + j) (by omega) (by omega), Nat.add_assoc]
theorem rg_d6 : ∀ m, m < 2 → ∀ x, x < 657 → x ≠ 0 → ((rg 87 x).1 ≤ (rg 102 (657 * m + x)).1 ∧ (rg 102 (657 * m + x)).2 ≤ (rg 87 x).2) := by decide +kernel
theorem rg_d7 : ∀ m, m < 2 → rg 102 (657 * m) = (0, 24) := by decide
theorem rc_rg {p : Int} {u : ac_U} {i k v : Int32} (hR : ac_R rg u) (hg : kgI p u) (hp : 0 ≤ p ∧ p ≤ 1) (hi : 0 ≤ i.toInt ∧ i.toInt < 657) (hk : k.toInt = 657 * p + i.toInt) (e : u.1 102 k.toNatClampNeg = v) : (rg 87 i.toNatClampNeg).1 ≤ v.toInt ∧ v.toInt ≤ (rg 87 i.toNatClampNeg).2 := by
  have h1 := i_cl hi.1
  have h2 := i_cl (x := k) (by omega)
  have hke : k.toNatClampNeg = 657 * p.toNat + i.toNatClampNeg := by omega
  have h3 := hR 102 k.toNatClampNeg
  rw [e] at h3
  by_cases q : i.toNatClampNeg = 0
  · obtain ⟨q1, _⟩ := hg p.toNat (by omega) (by omega)
    rw [hke, q, Nat.add_zero] at e
    rw [e] at q1
    rw [hke, q, Nat.add_zero, rg_d7 p.toNat (by omega)] at h3
    rw [q]
    exact ⟨q1, h3.2⟩
  · have h4 := rg_d6 p.toNat (by omega) i.toNatClampNeg (by omega) q
    rw [hke] at h3
    omega
/-- what is so is kept -/
def icI (p n : Int) (u : ac_U) : Prop := ∀ j : Nat, (j : Int) < n → j < 657 → u.1 102 (657 * p.toNat + j) = u.1 87 j
theorem im_0 {p n : Int} {u : ac_U} (h : n ≤ 0) : icI p n u := fun j hj => by omega
theorem ic_eq {p a b : Int} {u : ac_U} (h : icI p a u) (e : a = b) : icI p b u := e ▸ h
theorem ic_w {p : Int} {u : ac_U} {i k v : Int32} (h : icI p i.toInt u) (hp : 0 ≤ p ∧ p ≤ 1) (hi : 0 ≤ i.toInt ∧ i.toInt < 657) (hk : k.toInt = 657 * p + i.toInt) (e : u.1 87 i.toNatClampNeg = v) : icI p (i.toInt + 1) (ac_si u 102 (upd (u.1 102) k.toNatClampNeg v)) := by
  intro j hj hj2
  have h1 := i_cl hi.1
  have h2 := i_cl (x := k) (by omega)
  rw [sw_o (c := 102) (d := 87) (by decide)]
  by_cases q : j = i.toNatClampNeg
  · rw [show 657 * p.toNat + j = k.toNatClampNeg by omega, sw_e, ← e, q]
  · rw [sw_n (by omega)]
    exact h j (by omega) hj2
theorem ko_w {p : Int} {u : ac_U} {k v : Int32} {x : Int} (h : koI p u) (hp : 0 ≤ p ∧ p ≤ 1) (hx : 0 ≤ x ∧ x < 657) (hk : k.toInt = 657 * p + x) : koI p (ac_si u 102 (upd (u.1 102) k.toNatClampNeg v)) := by
  intro k' hk' hne e
  have h2 := i_cl (x := k) (by omega)
  rw [sw_o (c := 102) (d := 104) (by decide)] at e
  refine kg_tr (fun k2 hk2 e2 j hj => ?_) (h k' hk' hne e)
  exact sw_n (by omega)
theorem ic_kg {p n : Int} {u : ac_U} (h : icI p n u) (hM : msI u) (hC : cdI u) (hR : ac_R rg u) (hn : 657 ≤ n) : kgI p u := by
  intro k hk e
  have hp : p.toNat = k := by omega
  have h0 := h 0 (by omega) (by omega)
  rw [hp, Nat.add_zero] at h0
  have h1 := h 106 (by omega) (by omega)
  have h2 := h 4 (by omega) (by omega)
  have h3 := h 1 (by omega) (by omega)
  rw [hp] at h1 h2 h3
  rw [h0, h1, h2, h3]
  refine ⟨(hR 87 0).1, hM.1, hM.2, cw_tr (fun j hj => ?_) hC⟩
  have h4 := h (476 + j) (by omega) (by omega)
  rw [hp] at h4
  rw [Nat.add_assoc, h4]
theorem ki_new {u : ac_U} {i v : Int32} (h : koI i.toInt u) (hg : kgI i.toInt u) (hi : 0 ≤ i.toInt ∧ i.toInt ≤ 1) : kpI (ac_si u 104 (upd (u.1 104) i.toNatClampNeg v)) := by
  intro k hk e
  have h1 := i_cl hi.1
  refine kg_tr (fun k2 _ _ j _ => sw_o (by decide)) ?_
  by_cases q : (k : Int) = i.toInt
  · rw [q]; exact hg
  · rw [sw_n (by omega)] at e
    exact h k hk q e
/-- a house that is read -/
def hsI (u : ac_U) : Prop := 4 ≤ (u.1 88 0).toInt ∧ (0 < (u.1 88 4).toInt → 0 < (u.1 88 1).toInt)
theorem sp_HI : ac_Sp [(88, 0, 1), (88, 4, 4)] hsI := fun u u' h q => by
  unfold hsI
  rw [h 88 0 (by decide), h 88 4 (by decide), h 88 1 (by decide)]
  exact q
theorem hs_h {u : ac_U} {v : Int32} (h : hsI u) (hv : 4 ≤ v.toInt) : hsI (ac_si u 88 (upd (u.1 88) 0 v)) := by
  unfold hsI
  rw [sw_e, sw_n (by decide), sw_n (by decide)]
  exact ⟨hv, h.2⟩
theorem hs_p {u : ac_U} {v : Int32} (h : hsI u) (hv : 0 < v.toInt) : hsI (ac_si u 88 (upd (u.1 88) 1 v)) := by
  unfold hsI
  rw [sw_e, sw_n (by decide), sw_n (by decide)]
  exact ⟨h.1, fun _ => hv⟩
theorem hs_q {u : ac_U} {v : Int32} (h : hsI u) (hv : 0 < (u.1 88 1).toInt) : hsI (ac_si u 88 (upd (u.1 88) 4 v)) := by
  unfold hsI
  rw [sw_e, sw_n (by decide), sw_n (by decide)]
  exact ⟨h.1, fun _ => hv⟩
theorem hs_0 {u : ac_U} {v : Int32} {n : Int} {z : Int32} (h : flI 88 n z u) (hz : z.toInt = 0) (hn : 106 ≤ n) (hv : v.toInt = 24) : hsI (ac_si u 88 (upd (u.1 88) 0 v)) := by
  unfold hsI
  rw [sw_e, sw_n (by decide), sw_n (by decide), h 4 (by omega), h 1 (by omega)]
  omega
def hcI (n : Int) (u : ac_U) : Prop := ∀ j : Nat, (j : Int) < n → j < 657 → u.1 87 j = if j < 106 then u.1 88 j else 0
theorem hc_0 {n : Int} {u : ac_U} (h : n ≤ 0) : hcI n u := fun j hj => by omega
theorem hc_eq {a b : Int} {u : ac_U} (h : hcI a u) (e : a = b) : hcI b u := e ▸ h
theorem hc_w1 {u : ac_U} {i v : Int32} (h : hcI i.toInt u) (hi : 0 ≤ i.toInt ∧ i.toInt < 106) (e : u.1 88 i.toNatClampNeg = v) : hcI (i.toInt + 1) (ac_si u 87 (upd (u.1 87) i.toNatClampNeg v)) := by
  intro j hj hj2
  have h1 := i_cl hi.1
  rw [sw_o (c := 87) (d := 88) (by decide)]
  by_cases q : j = i.toNatClampNeg
  · rw [q, sw_e, if_pos (by omega), e]
  · rw [sw_n q]
    exact h j (by omega) hj2
theorem hc_w0 {u : ac_U} {i : Int32} (h : hcI i.toInt u) (hi : 106 ≤ i.toInt) : hcI (i.toInt + 1) (ac_si u 87 (upd (u.1 87) i.toNatClampNeg 0)) := by
  intro j hj hj2
  have h1 := i_cl (x := i) (by omega)
  rw [sw_o (c := 87) (d := 88) (by decide)]
  by_cases q : j = i.toNatClampNeg
  · rw [q, sw_e, if_neg (by omega)]
  · rw [sw_n q]
    exact h j (by omega) hj2
theorem hc_ms {n : Int} {u : ac_U} (hg : hsI u) (h : hcI n u) (hn : 657 ≤ n) : msI u := by
  have h0 := h 0 (by omega) (by omega)
  have h1 := h 106 (by omega) (by omega)
  have h2 := h 4 (by omega) (by omega)
  have h3 := h 1 (by omega) (by omega)
  simp only [show ((0 : Nat) < 106) = True by decide, show ((106 : Nat) < 106) = False by decide, show ((4 : Nat) < 106) = True by decide, show ((1 : Nat) < 106) = True by decide, if_true, if_false] at h0 h1 h2 h3
  unfold msI
  rw [h0, h1, h2, h3]
  refine ⟨?_, hg.2⟩
  have h5 := hg.1
  show (0 : Int) ≤ _
  omega
theorem hc_cw {n : Int} {u : ac_U} (h : hcI n u) (hn : 657 ≤ n) : cdI u := by
  intro i hi hl
  have h0 := h 476 (by omega) (by omega)
  rw [if_neg (by decide)] at h0
  rw [h0] at hl
  have h5 : (0 : Int32).toInt = 0 := by decide
  rw [h5] at hl
  omega
theorem rg_d8 : ∀ x, x < 106 → x ≠ 0 → ((rg 87 x).1 ≤ (rg 88 x).1 ∧ (rg 88 x).2 ≤ (rg 87 x).2) := by decide +kernel
theorem rg_d9 : ∀ x, x < 657 → 106 ≤ x → ((rg 87 x).1 ≤ 0 ∧ 0 ≤ (rg 87 x).2) := by decide +kernel
theorem hc_rg1 {u : ac_U} {i v : Int32} (hR : ac_R rg u) (hg : hsI u) (hi : 0 ≤ i.toInt ∧ i.toInt < 106) (e : u.1 88 i.toNatClampNeg = v) : (rg 87 i.toNatClampNeg).1 ≤ v.toInt ∧ v.toInt ≤ (rg 87 i.toNatClampNeg).2 := by
  have h1 := i_cl hi.1
  have h3 := hR 88 i.toNatClampNeg
  rw [e] at h3
  by_cases q : i.toNatClampNeg = 0
  · have q1 := hg.1
    rw [q] at e h3
    rw [e] at q1
    rw [q]
    exact ⟨q1, h3.2⟩
  · have h4 := rg_d8 i.toNatClampNeg (by omega) q
    omega
theorem hc_rg0 {i : Int32} (hi : 106 ≤ i.toInt ∧ i.toInt < 657) : (rg 87 i.toNatClampNeg).1 ≤ (0 : Int32).toInt ∧ (0 : Int32).toInt ≤ (rg 87 i.toNatClampNeg).2 := by
  have h1 := i_cl (x := i) (by omega)
  have h4 := rg_d9 i.toNatClampNeg (by omega) (by omega)
  have h5 : (0 : Int32).toInt = 0 := by decide
  rw [h5]
  exact h4
/-- the lines of the daybook, in the reference -/
def blO (u : ac_U) (k : Nat) : Prop := (0 ≤ (u.1 89 (3 * k)).toInt ∧ (u.1 89 (3 * k)).toInt ≤ 3) ∧ ((u.1 89 (3 * k)).toInt ≤ 2 → (0 ≤ (u.1 89 (3 * k + 1)).toInt ∧ (u.1 89 (3 * k + 1)).toInt ≤ 3) ∧ (0 ≤ (u.1 89 (3 * k + 2)).toInt ∧ (u.1 89 (3 * k + 2)).toInt ≤ 7)) ∧ ((u.1 89 (3 * k)).toInt = 3 → 1 ≤ (u.1 89 (3 * k + 1)).toInt ∧ (u.1 89 (3 * k + 1)).toInt ≤ 99)
def blI (u : ac_U) : Prop := ∀ k : Nat, k < 40 → (k : Int) < (u.1 85 35).toInt → blO u k
def blJ (u : ac_U) : Prop := ∀ k : Nat, k < 40 → (k : Int) ≤ (u.1 85 35).toInt → blO u k
def blA (u : ac_U) : Prop := ∀ k : Nat, k < 40 → (k : Int) = (u.1 85 35).toInt → (u.1 89 (3 * k)).toInt = 3
def blP (u : ac_U) : Prop := ∀ k : Nat, k < 40 → (k : Int) = (u.1 85 35).toInt → 0 ≤ (u.1 89 (3 * k + 1)).toInt ∧ (u.1 89 (3 * k + 1)).toInt ≤ 3
def blQ (u : ac_U) : Prop := ∀ k : Nat, k < 40 → (k : Int) = (u.1 85 35).toInt → 0 ≤ (u.1 89 (3 * k)).toInt ∧ (u.1 89 (3 * k)).toInt ≤ 2
theorem blO_tr {u u' : ac_U} {k : Nat} (h : ∀ j, j < 3 → u'.1 89 (3 * k + j) = u.1 89 (3 * k + j)) (q : blO u k) : blO u' k := by
  have h0 := h 0 (by omega)
  rw [Nat.add_zero] at h0
  unfold blO
  rw [h0, h 1 (by omega), h 2 (by omega)]
  exact q
theorem sp_BLI : ac_Sp [(85, 35, 35), (89, 0, 134)] blI := fun u u' h q k hk hl => by
  rw [h 85 35 (by decide)] at hl
  exact blO_tr (fun j hj => h 89 (3 * k + j) (sp_of (a := 0) (b := 134) (by simp) (by omega) (by omega))) (q k hk hl)
theorem sp_BLJ : ac_Sp [(85, 35, 35), (89, 0, 134)] blJ := fun u u' h q k hk hl => by
  rw [h 85 35 (by decide)] at hl
  exact blO_tr (fun j hj => h 89 (3 * k + j) (sp_of (a := 0) (b := 134) (by simp) (by omega) (by omega))) (q k hk hl)
theorem sp_BLP : ac_Sp [(85, 35, 35), (89, 0, 134)] blP := fun u u' h q k hk hl => by
  rw [h 85 35 (by decide)] at hl
  rw [h 89 (3 * k + 1) (sp_of (a := 0) (b := 134) (by simp) (by omega) (by omega))]
  exact q k hk hl
theorem sp_BLQ : ac_Sp [(85, 35, 35), (89, 0, 134)] blQ := fun u u' h q k hk hl => by
  rw [h 85 35 (by decide)] at hl
  rw [h 89 (3 * k) (sp_of (a := 0) (b := 134) (by simp) (by omega) (by omega))]
  exact q k hk hl
theorem bl_w {u : ac_U} {i v : Int32} (h : blI u) (h0 : 0 ≤ i.toInt) (hi : 3 * (u.1 85 35).toInt ≤ i.toInt) : blI (ac_si u 89 (upd (u.1 89) i.toNatClampNeg v)) := by
  intro k hk hl
  have h1 := i_cl h0
  rw [sw_o (by decide)] at hl
  exact blO_tr (fun j hj => sw_n (by omega)) (h k hk hl)
theorem bl_a {u : ac_U} {i v : Int32} (h0 : 0 ≤ i.toInt) (hi : i.toInt = 3 * (u.1 85 35).toInt) (hv : v.toInt = 3) : blA (ac_si u 89 (upd (u.1 89) i.toNatClampNeg v)) := by
  intro k hk hl
  have h1 := i_cl h0
  rw [sw_o (by decide)] at hl
  rw [show 3 * k = i.toNatClampNeg by omega, sw_e]
  exact hv
theorem bl_p {u : ac_U} {i v : Int32} (h0 : 0 ≤ i.toInt) (hi : i.toInt = 3 * (u.1 85 35).toInt + 1) (hv : 0 ≤ v.toInt ∧ v.toInt ≤ 3) : blP (ac_si u 89 (upd (u.1 89) i.toNatClampNeg v)) := by
  intro k hk hl
  have h1 := i_cl h0
  rw [sw_o (by decide)] at hl
  rw [show 3 * k + 1 = i.toNatClampNeg by omega, sw_e]
  exact hv
theorem bl_pw {u : ac_U} {i v : Int32} (h : blP u) (h0 : 0 ≤ i.toInt) (hi : i.toInt = 3 * (u.1 85 35).toInt) : blP (ac_si u 89 (upd (u.1 89) i.toNatClampNeg v)) := by
  intro k hk hl
  have h1 := i_cl h0
  rw [sw_o (by decide)] at hl
  rw [sw_n (by omega)]
  exact h k hk hl
theorem bl_q {u : ac_U} {i v : Int32} (h0 : 0 ≤ i.toInt) (hi : i.toInt = 3 * (u.1 85 35).toInt) (hv : 0 ≤ v.toInt ∧ v.toInt ≤ 2) : blQ (ac_si u 89 (upd (u.1 89) i.toNatClampNeg v)) := by
  intro k hk hl
  have h1 := i_cl h0
  rw [sw_o (by decide)] at hl
  rw [show 3 * k = i.toNatClampNeg by omega, sw_e]
  exact hv
theorem bl_j1 {u : ac_U} {i v : Int32} (h : blI u) (ha : blA u) (h0 : 0 ≤ i.toInt) (hi : i.toInt = 3 * (u.1 85 35).toInt + 1) (hv : 1 ≤ v.toInt ∧ v.toInt ≤ 99) : blJ (ac_si u 89 (upd (u.1 89) i.toNatClampNeg v)) := by
  intro k hk hl
  have h1 := i_cl h0
  rw [sw_o (by decide)] at hl
  by_cases q : (k : Int) = (u.1 85 35).toInt
  · have h2 := ha k hk q
    unfold blO
    rw [show 3 * k + 1 = i.toNatClampNeg by omega, sw_e, sw_n (by omega), h2]
    omega
  · exact blO_tr (fun j hj => sw_n (by omega)) (h k hk (by omega))
theorem bl_j2 {u : ac_U} {i v : Int32} (h : blI u) (hp : blP u) (hq : blQ u) (h0 : 0 ≤ i.toInt) (hi : i.toInt = 3 * (u.1 85 35).toInt + 2) (hv : 0 ≤ v.toInt ∧ v.toInt ≤ 7) : blJ (ac_si u 89 (upd (u.1 89) i.toNatClampNeg v)) := by
  intro k hk hl
  have h1 := i_cl h0
  rw [sw_o (by decide)] at hl
  by_cases q : (k : Int) = (u.1 85 35).toInt
  · have h2 := hp k hk q
    have h3 := hq k hk q
    unfold blO
    rw [show 3 * k + 2 = i.toNatClampNeg by omega, sw_e, sw_n (by omega), sw_n (by omega)]
    omega
  · exact blO_tr (fun j hj => sw_n (by omega)) (h k hk (by omega))
theorem bl_s {u : ac_U} {i v : Int32} (h : blJ u) (e : u.1 85 35 = i) (hv : v.toInt = i.toInt + 1) : blI (ac_si u 85 (upd (u.1 85) 35 v)) := fun k hk hl => by
  rw [sw_e, hv] at hl
  exact blO_tr (fun j hj => sw_o (by decide)) (h k hk (by rw [e]; omega))
theorem bl_0D {A : Nat → Prop} {ad : Nat → Nat} {cA : Nat → ClassId} {T : List ac_T} {u : ac_U} {v : Int32} (_ : va_D A (ac_w ad cA T (ac_si u 85 (upd (u.1 85) 35 v)))) (hv : v.toInt = 0) : blI (ac_si u 85 (upd (u.1 85) 35 v)) := fun k hk hl => by
  rw [sw_e, hv] at hl
  omega
theorem bl_k {u : ac_U} {p i v : Int32} (h : blI u) (hp : 0 ≤ p.toInt ∧ p.toInt < 3 * (u.1 85 35).toInt ∧ p.toInt % 3 = 0 ∧ p.toInt ≤ 117) (hi : i.toInt = p.toInt + 1) (e : u.1 89 i.toNatClampNeg = v) : 0 ≤ v.toInt ∧ v.toInt ≤ 99 := by
  have h1 := i_cl (x := i) (by omega)
  have h2 := h (p.toInt / 3).toNat (by omega) (by omega)
  obtain ⟨h3, h4, h5⟩ := h2
  rw [show 3 * (p.toInt / 3).toNat + 1 = i.toNatClampNeg by omega, e] at h4 h5
  omega
theorem bl_get {u : ac_U} {p i j x y z : Int32} (h : blI u) (hp : 0 ≤ p.toInt ∧ p.toInt < 3 * (u.1 85 35).toInt ∧ p.toInt % 3 = 0 ∧ p.toInt ≤ 117) (hi : i.toInt = p.toInt + 1) (hj : j.toInt = p.toInt + 2) (ex : u.1 89 p.toNatClampNeg = x) (ey : u.1 89 i.toNatClampNeg = y) (ez : u.1 89 j.toNatClampNeg = z) : (0 ≤ x.toInt ∧ x.toInt ≤ 3) ∧ (x.toInt ≤ 2 → (0 ≤ y.toInt ∧ y.toInt ≤ 3) ∧ (0 ≤ z.toInt ∧ z.toInt ≤ 7)) ∧ (x.toInt = 3 → 1 ≤ y.toInt ∧ y.toInt ≤ 99) := by
  have h0 := i_cl hp.1
  have h1 := i_cl (x := i) (by omega)
  have h2 := i_cl (x := j) (by omega)
  have h3 := h (p.toInt / 3).toNat (by omega) (by omega)
  unfold blO at h3
  rw [show 3 * (p.toInt / 3).toNat + 1 = i.toNatClampNeg by omega, show 3 * (p.toInt / 3).toNat + 2 = j.toNatClampNeg by omega, show 3 * (p.toInt / 3).toNat = p.toNatClampNeg by omega, ex, ey, ez] at h3
  exact h3
