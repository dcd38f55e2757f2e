/-! Where people are: at a place that there is (or at the first); in what is so, undone, tried, kept, told. -/
def atO (x n : Int32) : Prop := x.toInt ≤ 0 ∨ x.toInt < n.toInt
def apI (u : ac_U) : Prop := ∀ k : Nat, k < 4 → atO (u.1 87 (107 + k)) (u.1 87 1)
theorem sp_AP : ac_Sp [(87, 1, 1), (87, 107, 110)] apI := fun u u' h q k hk => by
  rw [h 87 (107 + k) (sp_of (a := 107) (b := 110) (by simp) (by omega) (by omega)), h 87 1 (by decide)]
  exact q k hk
theorem ap_w {u : ac_U} {i v : Int32} (h : apI u) (hi : 2 ≤ i.toInt) (hv : 107 ≤ i.toInt ∧ i.toInt ≤ 110 → atO v (u.1 87 1)) : apI (ac_si u 87 (upd (u.1 87) i.toNatClampNeg v)) := by
  intro k hk
  have h1 := i_cl (x := i) (by omega)
  rw [sw_n (k := i.toNatClampNeg) (j := 1) (by omega)]
  by_cases q : 107 + k = i.toNatClampNeg
  · rw [q, sw_e]
    exact hv (by omega)
  · rw [sw_n q]
    exact h k hk
theorem at_lt {x n t : Int32} (e : n = t) (h : x.toInt < t.toInt) : atO x n := Or.inr (by rw [e]; exact h)
theorem ap_get {u : ac_U} {i v : Int32} {p : Int} (h : apI u) (hp : 0 ≤ p ∧ p ≤ 3) (hi : i.toInt = 107 + p) (e : u.1 87 i.toNatClampNeg = v) : v.toInt ≤ 0 ∨ v.toInt < (u.1 87 1).toInt := by
  have h1 := i_cl (x := i) (by omega)
  rw [← e, show i.toNatClampNeg = 107 + p.toNat by omega]
  exact h _ (by omega)
def auI (u : ac_U) : Prop := ∀ j : Nat, j < 8 → (j : Int) < (u.1 85 24).toInt → ∀ k : Nat, k < 4 → atO (u.1 93 (370 * j + 1 + k)) (u.1 87 1)
def aeI (u : ac_U) : Prop := ∀ j : Nat, j < 8 → (j : Int) ≤ (u.1 85 24).toInt → ∀ k : Nat, k < 4 → atO (u.1 93 (370 * j + 1 + k)) (u.1 87 1)
def akwI (n : Int) (u : ac_U) : Prop := ∀ k : Nat, k < 4 → (1 + k : Int) < n → ∀ j : Nat, j < 8 → (j : Int) = (u.1 85 24).toInt → atO (u.1 93 (370 * j + 1 + k)) (u.1 87 1)
theorem sp_AU : ac_Sp [(85, 24, 24), (87, 1, 1), (93, 0, 2959)] auI := fun u u' h q j hj hl k hk => by
  rw [h 93 (370 * j + 1 + k) (sp_of (a := 0) (b := 2959) (by simp) (by omega) (by omega)), h 87 1 (by decide)]
  rw [h 85 24 (by decide)] at hl
  exact q j hj hl k hk
theorem sp_AE : ac_Sp [(85, 24, 24), (87, 1, 1), (93, 0, 2959)] aeI := fun u u' h q j hj hl k hk => by
  rw [h 93 (370 * j + 1 + k) (sp_of (a := 0) (b := 2959) (by simp) (by omega) (by omega)), h 87 1 (by decide)]
  rw [h 85 24 (by decide)] at hl
  exact q j hj hl k hk
theorem au_sh {u : ac_U} {i i' v : Int32} (h : auI u) (hm : (u.1 85 24).toInt = 8) (hi : 0 ≤ i.toInt ∧ i.toInt < 2590) (hi' : i'.toInt = i.toInt + 370) (e : u.1 93 i'.toNatClampNeg = v) : auI (ac_si u 93 (upd (u.1 93) i.toNatClampNeg v)) := by
  intro j hj hl k hk
  have h1 := i_cl (x := i) (by omega)
  have h2 := i_cl (x := i') (by omega)
  rw [sw_o (c := 93) (d := 85) (by decide)] at hl
  rw [sw_o (c := 93) (d := 87) (by decide)]
  by_cases q : 370 * j + 1 + k = i.toNatClampNeg
  · rw [q, sw_e, ← e, show i'.toNatClampNeg = 370 * (j + 1) + 1 + k by omega]
    exact h (j + 1) (by omega) (by omega) k hk
  · rw [sw_n q]
    exact h j hj hl k hk
theorem au_dec {u : ac_U} {v : Int32} (h : auI u) (hv : v.toInt ≤ (u.1 85 24).toInt) : auI (ac_si u 85 (upd (u.1 85) 24 v)) := by
  intro j hj hl k hk
  rw [sw_e] at hl
  rw [sw_o (by decide), sw_o (by decide)]
  exact h j hj (by omega) k hk
theorem au_w2 {u : ac_U} {i v : Int32} (h : auI u) (h0 : 0 ≤ i.toInt) (hi : 370 * (u.1 85 24).toInt ≤ i.toInt) : auI (ac_si u 93 (upd (u.1 93) i.toNatClampNeg v)) := by
  intro j hj hl k hk
  have h1 := i_cl h0
  rw [sw_o (c := 93) (d := 85) (by decide)] at hl
  rw [sw_o (c := 93) (d := 87) (by decide)]
  rw [sw_n (by omega)]
  exact h j hj hl k hk
theorem au_w3 {u : ac_U} {i v : Int32} {x : Int} (h : auI u) (hx : 0 ≤ x ∧ x < 370) (hu : 1 ≤ (u.1 85 24).toInt) (hi : i.toInt = 370 * ((u.1 85 24).toInt - 1) + x) (hv : 1 ≤ x ∧ x ≤ 4 → atO v (u.1 87 1)) : auI (ac_si u 93 (upd (u.1 93) i.toNatClampNeg v)) := by
  intro j hj hl k hk
  have h1 := i_cl (x := i) (by omega)
  rw [sw_o (c := 93) (d := 85) (by decide)] at hl
  rw [sw_o (c := 93) (d := 87) (by decide)]
  by_cases q : 370 * j + 1 + k = i.toNatClampNeg
  · rw [q, sw_e]
    exact hv (by omega)
  · rw [sw_n q]
    exact h j hj hl k hk
theorem akw_0 {n : Int} {u : ac_U} (h : n ≤ 1) : akwI n u := fun k hk q => by omega
theorem akw_eq {a b : Int} {u : ac_U} (h : akwI a u) (e : a = b) : akwI b u := e ▸ h
theorem akw_keep {u : ac_U} {i k v : Int32} {x : Int} (h : akwI x u) (hM : apI u) (hx : 0 ≤ x ∧ x < 370) (hu : 0 ≤ (u.1 85 24).toInt) (hi : i.toInt = 370 * (u.1 85 24).toInt + x) (hk : k.toInt = 106 + x) (e : u.1 87 k.toNatClampNeg = v) : akwI (x + 1) (ac_si u 93 (upd (u.1 93) i.toNatClampNeg v)) := by
  intro z hz hn j hj hl
  have h1 := i_cl (x := i) (by omega)
  have h2 := i_cl (x := k) (by omega)
  rw [sw_o (c := 93) (d := 85) (by decide)] at hl
  rw [sw_o (c := 93) (d := 87) (by decide)]
  by_cases q : 370 * j + 1 + z = i.toNatClampNeg
  · rw [q, sw_e, ← e, show k.toNatClampNeg = 107 + z by omega]
    exact hM z hz
  · rw [sw_n q]
    exact h z hz (by omega) j hj hl
theorem au_inc {u : ac_U} {v : Int32} {n : Int} (h : auI u) (hk : akwI n u) (hn : 5 ≤ n) (hv : v.toInt = (u.1 85 24).toInt + 1) : auI (ac_si u 85 (upd (u.1 85) 24 v)) := by
  intro j hj hl k hk9
  rw [sw_e] at hl
  rw [sw_o (by decide), sw_o (by decide)]
  by_cases q : (j : Int) = (u.1 85 24).toInt
  · exact hk k hk9 (by omega) j hj q
  · exact h j hj (by omega) k hk9
theorem ae_dec2 {u : ac_U} {t v : Int32} (h : auI u) (e : u.1 85 24 = t) (hv : v.toInt = t.toInt - 1) : aeI (ac_si u 85 (upd (u.1 85) 24 v)) := by
  intro j hj hl k hk
  rw [sw_e] at hl
  rw [sw_o (by decide), sw_o (by decide)]
  exact h j hj (by rw [e]; omega) k hk
theorem ae_lt {u : ac_U} (h : aeI u) : auI u := fun j hj hl => h j hj (by omega)
theorem ae_get {u : ac_U} {i v : Int32} {x : Int} (h : aeI u) (hu : 0 ≤ (u.1 85 24).toInt ∧ (u.1 85 24).toInt < 8) (hx : 1 ≤ x ∧ x ≤ 4) (hi : i.toInt = 370 * (u.1 85 24).toInt + x) (e : u.1 93 i.toNatClampNeg = v) : atO v (u.1 87 1) := by
  have h1 := i_cl (x := i) (by omega)
  rw [← e, show i.toNatClampNeg = 370 * (u.1 85 24).toInt.toNat + 1 + (x - 1).toNat by omega]
  exact h _ (by omega) (by omega) _ (by omega)
theorem au_0D {A : Nat → Prop} {ad : Nat → Nat} {cA : Nat → ClassId} {T : List ac_T} {u : ac_U} {v : Int32} (_ : va_D A (ac_w ad cA T (ac_si u 85 (upd (u.1 85) 24 v)))) (hv : v.toInt = 0) : auI (ac_si u 85 (upd (u.1 85) 24 v)) := fun j hj hl => by
  rw [sw_e] at hl
  omega
def abI (u : ac_U) : Prop := ∀ k : Nat, k < 4 → atO (u.1 94 (1 + k)) (u.1 87 1)
theorem sp_AB : ac_Sp [(87, 1, 1), (94, 1, 4)] abI := fun u u' h q k hk => by
  rw [h 94 (1 + k) (sp_of (a := 1) (b := 4) (by simp) (by omega) (by omega)), h 87 1 (by decide)]
  exact q k hk
def abkI (n : Int) (u : ac_U) : Prop := ∀ k : Nat, k < 4 → (1 + k : Int) < n → atO (u.1 94 (1 + k)) (u.1 87 1)
theorem abk_0 {n : Int} {u : ac_U} (h : n ≤ 1) : abkI n u := fun k hk q => by omega
theorem abk_eq {a b : Int} {u : ac_U} (h : abkI a u) (e : a = b) : abkI b u := e ▸ h
theorem abk_w {u : ac_U} {i k v : Int32} (h : abkI i.toInt u) (hM : apI u) (hi : 0 ≤ i.toInt ∧ i.toInt < 370) (hk : k.toInt = 106 + i.toInt) (e : u.1 87 k.toNatClampNeg = v) : abkI (i.toInt + 1) (ac_si u 94 (upd (u.1 94) i.toNatClampNeg v)) := by
  intro z hz hn
  have h1 := i_cl (x := i) (by omega)
  have h2 := i_cl (x := k) (by omega)
  rw [sw_o (c := 94) (d := 87) (by decide)]
  by_cases q : 1 + z = i.toNatClampNeg
  · rw [q, sw_e, ← e, show k.toNatClampNeg = 107 + z by omega]
    exact hM z hz
  · rw [sw_n q]
    exact h z hz (by omega)
theorem ab_of {n : Int} {u : ac_U} (h : abkI n u) (hn : 5 ≤ n) : abI u := fun k hk => h k hk (by omega)
theorem ab_get {u : ac_U} {i v : Int32} (h : abI u) (e : u.1 94 i.toNatClampNeg = v) (hi : 1 ≤ i.toInt ∧ i.toInt ≤ 4) : atO v (u.1 87 1) := by
  have h1 := i_cl (x := i) (by omega)
  rw [← e, show i.toNatClampNeg = 1 + (i.toNatClampNeg - 1) by omega]
  exact h _ (by omega)
/-- kept blocks -/
def agI (p : Int) (u : ac_U) : Prop := ∀ k : Nat, k < 2 → (k : Int) = p → ∀ j : Nat, j < 4 → atO (u.1 102 (657 * k + 107 + j)) (u.1 102 (657 * k + 1))
def akI (u : ac_U) : Prop := ∀ k : Nat, k < 2 → (u.1 104 k).toInt ≠ 0 → agI k u
def aoI (p : Int) (u : ac_U) : Prop := ∀ k : Nat, k < 2 → (k : Int) ≠ p → (u.1 104 k).toInt ≠ 0 → agI k u
theorem ag_tr {p : Int} {u u' : ac_U} (h : ∀ k : Nat, k < 2 → (k : Int) = p → ∀ j, j < 657 → u'.1 102 (657 * k + j) = u.1 102 (657 * k + j)) (q : agI p u) : agI p u' := by
  intro k hk e j hj
  have q9 := q k hk e j hj
  rw [show 657 * k + 107 + j = 657 * k + (107 + j) by omega] at q9 ⊢
  rw [h k hk e (107 + j) (by omega), h k hk e 1 (by omega)]
  exact q9
theorem sp_AG (p : Int) : ac_Sp [(102, 0, 1313)] (agI p) := fun u u' h q => ag_tr (fun k hk _ j hj => h 102 (657 * k + j) (sp_of (a := 0) (b := 1313) (by simp) (by omega) (by omega))) q
theorem sp_AK : ac_Sp [(102, 0, 1313), (104, 0, 1)] akI := fun u u' h q k hk e => by
  rw [h 104 k (sp_of (a := 0) (b := 1) (by simp) (by omega) (by omega))] at e
  exact ag_tr (fun k hk _ j hj => h 102 (657 * k + j) (sp_of (a := 0) (b := 1313) (by simp) (by omega) (by omega))) (q k hk e)
theorem sp_AO (p : Int) : ac_Sp [(102, 0, 1313), (104, 0, 1)] (aoI p) := fun u u' h q k hk hp e => by
  rw [h 104 k (sp_of (a := 0) (b := 1) (by simp) (by omega) (by omega))] at e
  exact ag_tr (fun k hk _ j hj => h 102 (657 * k + j) (sp_of (a := 0) (b := 1313) (by simp) (by omega) (by omega))) (q k hk hp e)
theorem ak_ao {p : Int} {u : ac_U} (h : akI u) : aoI p u := fun k hk _ e => h k hk e
theorem ak_get {u : ac_U} {i v : Int32} (h : akI u) (hi : 0 ≤ i.toInt ∧ i.toInt ≤ 1) (e : u.1 104 i.toNatClampNeg = v) (hv : v.toInt ≠ 0) : agI i.toInt u := by
  have h1 := i_cl hi.1
  rw [← e] at hv
  have h2 := h i.toNatClampNeg (by omega) hv
  rw [h1] at h2
  exact h2
theorem rc_ap {p n : Int} {u : ac_U} (hg : agI p u) (h : rcI p n u) (hp : 0 ≤ p ∧ p ≤ 1) (hn : 657 ≤ n) : apI u := by
  intro k hk
  have q := hg p.toNat (by omega) (by omega) k hk
  rw [h (107 + k) (by omega) (by omega), h 1 (by omega) (by omega), show 657 * p.toNat + (107 + k) = 657 * p.toNat + 107 + k by omega]
  exact q
theorem ao_w {p : Int} {u : ac_U} {k v : Int32} {x : Int} (h : aoI p u) (hp : 0 ≤ p ∧ p ≤ 1) (hx : 0 ≤ x ∧ x < 657) (hk : k.toInt = 657 * p + x) : aoI p (ac_si u 102 (upd (u.1 102) k.toNatClampNeg v)) := by
  intro k' hk' hne e
  have h2 := i_cl (x := k) (by omega)
  rw [sw_o (c := 102) (d := 104) (by decide)] at e
  refine ag_tr (fun k2 hk2 e2 j hj => ?_) (h k' hk' hne e)
  exact sw_n (by omega)
theorem ic_ag {p n : Int} {u : ac_U} (h : icI p n u) (hM : apI u) (hn : 657 ≤ n) : agI p u := by
  intro k hk e j hj
  have hp : p.toNat = k := by omega
  have h1 := h (107 + j) (by omega) (by omega)
  have h3 := h 1 (by omega) (by omega)
  rw [hp] at h1 h3
  rw [show 657 * k + 107 + j = 657 * k + (107 + j) by omega, h1, h3]
  exact hM j hj
theorem ak_new {u : ac_U} {i v : Int32} (h : aoI i.toInt u) (hg : agI i.toInt u) (hi : 0 ≤ i.toInt ∧ i.toInt ≤ 1) : akI (ac_si u 104 (upd (u.1 104) i.toNatClampNeg v)) := by
  intro k hk e
  have h1 := i_cl hi.1
  refine ag_tr (fun k2 _ _ j _ => sw_o (by decide)) ?_
  by_cases q : (k : Int) = i.toInt
  · rw [q]; exact hg
  · rw [sw_n (by omega)] at e
    exact h k hk q e
/-- a house that is read: homes -/
def ahI (u : ac_U) : Prop := ∀ k : Nat, k < 4 → atO (u.1 88 (22 + k)) (u.1 88 1)
theorem sp_AH : ac_Sp [(88, 1, 1), (88, 22, 25)] ahI := fun u u' h q k hk => by
  rw [h 88 (22 + k) (sp_of (a := 22) (b := 25) (by simp) (by omega) (by omega)), h 88 1 (by decide)]
  exact q k hk
theorem ah_p {u : ac_U} {v x : Int32} (h : ahI u) (e : u.1 88 1 = x) (hv : v.toInt = x.toInt + 1) : ahI (ac_si u 88 (upd (u.1 88) 1 v)) := by
  intro k hk
  rw [sw_e, sw_n (by omega)]
  rcases h k hk with q | q
  · exact Or.inl q
  · exact Or.inr (by rw [e] at q; omega)
theorem ah_s {u : ac_U} {i v t : Int32} (h : ahI u) (hi : 22 ≤ i.toInt) (e : u.1 88 1 = t) (hv : v.toInt < t.toInt) : ahI (ac_si u 88 (upd (u.1 88) i.toNatClampNeg v)) := by
  intro k hk
  have h1 := i_cl (x := i) (by omega)
  rw [sw_n (k := i.toNatClampNeg) (j := 1) (by omega)]
  by_cases q : 22 + k = i.toNatClampNeg
  · rw [q, sw_e]
    exact at_lt e hv
  · rw [sw_n q]
    exact h k hk
theorem ah_0 {u : ac_U} {v : Int32} {n : Int} {z : Int32} (h : flI 88 n z u) (hz : z.toInt = 0) (hn : 106 ≤ n) : ahI (ac_si u 88 (upd (u.1 88) 0 v)) := by
  intro k hk
  rw [sw_n (k := 0) (j := 22 + k) (by omega), h (22 + k) (by omega)]
  exact Or.inl (by omega)
def asI (u : ac_U) : Prop := ∀ k : Nat, k < 4 → atO (u.1 87 (22 + k)) (u.1 87 1)
theorem sp_AS : ac_Sp [(87, 1, 1), (87, 22, 25)] asI := fun u u' h q k hk => by
  rw [h 87 (22 + k) (sp_of (a := 22) (b := 25) (by simp) (by omega) (by omega)), h 87 1 (by decide)]
  exact q k hk
theorem hc_ap {n : Int} {u : ac_U} (h : hcI n u) (hn : 657 ≤ n) : apI u := by
  intro k hk
  have h1 := h (107 + k) (by omega) (by omega)
  rw [if_neg (by omega)] at h1
  rw [h1]
  exact Or.inl (by decide)
theorem hc_as {n : Int} {u : ac_U} (hg : ahI u) (h : hcI n u) (hn : 657 ≤ n) : asI u := by
  intro k hk
  have h1 := h (22 + k) (by omega) (by omega)
  have h2 := h 1 (by omega) (by omega)
  rw [if_pos (by omega)] at h1
  rw [if_pos (by decide)] at h2
  rw [h1, h2]
  exact hg k hk
theorem as_get {u : ac_U} {i v : Int32} (h : asI u) (e : u.1 87 i.toNatClampNeg = v) (hi : 22 ≤ i.toInt ∧ i.toInt ≤ 25) : atO v (u.1 87 1) := by
  have h1 := i_cl (x := i) (by omega)
  rw [← e, show i.toNatClampNeg = 22 + (i.toNatClampNeg - 22) by omega]
  exact h _ (by omega)
/-- lines of the daybook that go: to a place that there is -/
def bgO (u : ac_U) (k : Nat) : Prop := (u.1 89 (3 * k)).toInt = 0 → (u.1 89 (3 * k + 2)).toInt < (u.1 87 1).toInt
def bgI (u : ac_U) : Prop := ∀ k : Nat, k < 40 → (k : Int) < (u.1 85 35).toInt → bgO u k
def bgJ (u : ac_U) : Prop := ∀ k : Nat, k < 40 → (k : Int) ≤ (u.1 85 35).toInt → bgO u k
def bgV (w : Int) (u : ac_U) : Prop := ∀ k : Nat, k < 40 → (k : Int) = (u.1 85 35).toInt → (u.1 89 (3 * k)).toInt = w
theorem bgO_tr {u u' : ac_U} {k : Nat} (h : ∀ j, j < 3 → u'.1 89 (3 * k + j) = u.1 89 (3 * k + j)) (h2 : u'.1 87 1 = u.1 87 1) (q : bgO u k) : bgO u' k := by
  have h0 := h 0 (by decide)
  rw [Nat.add_zero] at h0
  unfold bgO
  rw [h0, h 2 (by decide), h2]
  exact q
theorem sp_BG : ac_Sp [(85, 35, 35), (87, 1, 1), (89, 0, 134)] bgI := fun u u' h q k hk hl => by
  rw [h 85 35 (by decide)] at hl
  exact bgO_tr (fun j hj => h 89 (3 * k + j) (sp_of (a := 0) (b := 134) (by simp) (by omega) (by omega))) (h 87 1 (by decide)) (q k hk hl)
theorem sp_BH : ac_Sp [(85, 35, 35), (87, 1, 1), (89, 0, 134)] bgJ := fun u u' h q k hk hl => by
  rw [h 85 35 (by decide)] at hl
  exact bgO_tr (fun j hj => h 89 (3 * k + j) (sp_of (a := 0) (b := 134) (by simp) (by omega) (by omega))) (h 87 1 (by decide)) (q k hk hl)
theorem sp_bv (w : Int) : ac_Sp [(85, 35, 35), (89, 0, 134)] (bgV w) := fun u u' h q k hk hl => by
  rw [h 85 35 (by decide)] at hl
  rw [h 89 (3 * k) (sp_of (a := 0) (b := 134) (by simp) (by omega) (by omega))]
  exact q k hk hl
section BGX
variable {A : Nat → Prop} {ad : Nat → Nat} {cA : Nat → ClassId} {T : List ac_T} {u : ac_U} {i v t : Int32}
theorem bg_w (h : bgI u) (e : u.1 85 35 = t) (h0 : 0 ≤ i.toInt) (hi : 3 * t.toInt ≤ i.toInt) : bgI (ac_si u 89 (upd (u.1 89) i.toNatClampNeg v)) := fun k hk hl => by
  have h1 := i_cl h0
  rw [sw_o (c := 89) (d := 85) (by decide), e] at hl
  exact bgO_tr (fun j hj => sw_n (by omega)) (sw_o (by decide)) (h k hk (by rw [e]; exact hl))
theorem bg_j1 (h : bgI u) (ha : blA u) (e : u.1 85 35 = t) (h0 : 0 ≤ i.toInt) (hi : i.toInt = 3 * t.toInt + 1) : bgJ (ac_si u 89 (upd (u.1 89) i.toNatClampNeg v)) := fun k hk hl => by
  have h1 := i_cl h0
  rw [sw_o (c := 89) (d := 85) (by decide)] at hl
  by_cases q : (k : Int) = (u.1 85 35).toInt
  · intro z
    rw [sw_n (by rw [e] at q; omega)] at z
    have := ha k hk q
    omega
  · rw [e] at hl q
    exact bgO_tr (fun j hj => sw_n (by omega)) (sw_o (by decide)) (h k hk (by rw [e]; omega))
theorem bg_v (_ : va_D A (ac_w ad cA T (ac_si u 89 (upd (u.1 89) i.toNatClampNeg v)))) (e : u.1 85 35 = t) (h0 : 0 ≤ i.toInt) (hi : i.toInt = 3 * t.toInt) : bgV v.toInt (ac_si u 89 (upd (u.1 89) i.toNatClampNeg v)) := fun k hk hl => by
  have h1 := i_cl h0
  rw [sw_o (c := 89) (d := 85) (by decide), e] at hl
  rw [show 3 * k = i.toNatClampNeg by omega, sw_e]
theorem bg_j2 {w : Int} {n : Int32} (h : bgI u) (hw : bgV w u) (e : u.1 85 35 = t) (h0 : 0 ≤ i.toInt) (hi : i.toInt = 3 * t.toInt + 2) (e1 : u.1 87 1 = n) (hv : w = 0 → v.toInt < n.toInt) : bgJ (ac_si u 89 (upd (u.1 89) i.toNatClampNeg v)) := fun k hk hl => by
  have h1 := i_cl h0
  rw [sw_o (c := 89) (d := 85) (by decide)] at hl
  by_cases q : (k : Int) = (u.1 85 35).toInt
  · intro z
    rw [sw_n (by rw [e] at q; omega), hw k hk q] at z
    rw [sw_o (c := 89) (d := 87) (by decide), e1, show 3 * k + 2 = i.toNatClampNeg by rw [e] at q; omega, sw_e]
    exact hv z
  · rw [e] at hl q
    exact bgO_tr (fun j hj => sw_n (by omega)) (sw_o (by decide)) (h k hk (by rw [e]; omega))
theorem bg_s (h : bgJ u) (e : u.1 85 35 = i) (hv : v.toInt = i.toInt + 1) : bgI (ac_si u 85 (upd (u.1 85) 35 v)) := fun k hk hl => by
  rw [sw_e, hv] at hl
  exact bgO_tr (fun j hj => sw_o (by decide)) (sw_o (by decide)) (h k hk (by rw [e]; omega))
theorem bg_0D (_ : va_D A (ac_w ad cA T (ac_si u 85 (upd (u.1 85) 35 v)))) (hv : v.toInt = 0) : bgI (ac_si u 85 (upd (u.1 85) 35 v)) := fun k hk hl => by
  rw [sw_e] at hl
  omega
theorem bg_get {p x z : Int32} {j : Int32} (h : bgI u) (hp : 0 ≤ p.toInt ∧ p.toInt < 3 * (u.1 85 35).toInt ∧ p.toInt % 3 = 0 ∧ p.toInt ≤ 117) (hj : j.toInt = p.toInt + 2) (ex : u.1 89 p.toNatClampNeg = x) (ez : u.1 89 j.toNatClampNeg = z) : x.toInt = 0 → z.toInt < (u.1 87 1).toInt := by
  have h1 := i_cl (x := p) (by omega)
  have h2 := i_cl (x := j) (by omega)
  have h3 := h (p.toInt / 3).toNat (by omega) (by omega)
  unfold bgO at h3
  rw [show 3 * (p.toInt / 3).toNat = p.toNatClampNeg by omega, show p.toNatClampNeg + 2 = j.toNatClampNeg by omega, ex, ez] at h3
  exact h3
end BGX
