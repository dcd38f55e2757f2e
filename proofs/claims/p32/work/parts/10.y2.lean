/-! Sentences in the reference: the codes that are written, the stack, what is said of a promise. -/
theorem ac_nm {A : Nat → Prop} {ad : Nat → Nat} {cA : Nat → ClassId} {T : List ac_T} {u : ac_U} (_ : va_D A (ac_w ad cA T u)) : ∃ w : ac_U, w = u := ⟨u, rfl⟩
theorem i_trP {x y : Int32} (e : x = y) (h : 0 < y.toInt) : 0 < x.toInt := e ▸ h
def rdG (u : ac_U) (j : Nat) : Int32 := u.1 89 (j - 1)
def bcS (st : Nat → Int32) : Nat → Int
  | 0 => 0
  | n + 1 => bcS st n + (if (st n).toInt = 21 ∨ (st n).toInt = 22 then 1 else 0)
theorem bcS_nn {st : Nat → Int32} : ∀ n, 0 ≤ bcS st n := by
  intro n
  induction n with
  | zero => exact Int.le_refl 0
  | succ n ih =>
    simp only [bcS]
    split <;> omega
theorem bcS_tr {st st' : Nat → Int32} : ∀ n, (∀ j, j < n → st' j = st j) → bcS st' n = bcS st n := by
  intro n
  induction n with
  | zero => intro _; rfl
  | succ n ih =>
    intro h
    simp only [bcS]
    rw [ih (fun j hj => h j (by omega)), h n (by omega)]
def nC (u : ac_U) : Nat := (u.1 85 39).toInt.toNat
def nT (u : ac_U) : Nat := (u.1 85 41).toInt.toNat
def swI (w : Int) (u : ac_U) : Prop := (∀ i : Nat, i < 45 → i < nC u → cwO (rdG u) 0 i) ∧ cwD (rdG u) 0 (nC u) = bcS (u.1 100) (nT u) + w ∧ nC u ≤ 45 ∧ nT u ≤ 45
def swW (u : ac_U) : Prop := swI (u.1 85 43).toInt u
theorem sw_tr {w w' : Int} {u u' : ac_U} (hc : u'.1 85 39 = u.1 85 39) (ht : u'.1 85 41 = u.1 85 41) (hr : ∀ j, j < 135 → u'.1 89 j = u.1 89 j) (hs : ∀ j, j < 45 → u'.1 100 j = u.1 100 j) (e : w' = w) (q : swI w u) : swI w' u' := by
  have h1 : nC u' = nC u := by unfold nC; rw [hc]
  have h2 : nT u' = nT u := by unfold nT; rw [ht]
  obtain ⟨q1, q2, q3, q4⟩ := q
  have hg : ∀ j, 1 ≤ j → j < 136 → rdG u' j = rdG u j := fun j h0 hj => hr (j - 1) (by omega)
  have hD : ∀ i, i ≤ 45 → cwD (rdG u') 0 i = cwD (rdG u) 0 i := by
    intro i
    induction i with
    | zero => intro _; rfl
    | succ i ih =>
      intro hi
      simp only [cwD]
      rw [ih (by omega), hg (0 + 1 + 3 * i) (by omega) (by omega)]
  unfold swI
  rw [h1, h2, hD _ q3, bcS_tr (nT u) (fun j hj => hs j (by omega)), e]
  refine ⟨fun i hi hl => ?_, q2, q3, q4⟩
  have := q1 i hi hl
  unfold cwO at this ⊢
  rw [hg (0 + 1 + 3 * i) (by omega) (by omega), hD i (by omega)]
  exact this
theorem sp_sw (w : Int) : ac_Sp [(85, 39, 39), (85, 41, 41), (89, 0, 134), (100, 0, 44)] (swI w) := fun u u' h q => sw_tr (h 85 39 (by decide)) (h 85 41 (by decide)) (fun j hj => h 89 j (sp_of (a := 0) (b := 134) (by simp) (by omega) (by omega))) (fun j hj => h 100 j (sp_of (a := 0) (b := 44) (by simp) (by omega) (by omega))) rfl q
theorem sp_SWW : ac_Sp [(85, 39, 39), (85, 41, 41), (85, 43, 43), (89, 0, 134), (100, 0, 44)] swW := fun u u' h q => sw_tr (h 85 39 (by decide)) (h 85 41 (by decide)) (fun j hj => h 89 j (sp_of (a := 0) (b := 134) (by simp) (by omega) (by omega))) (fun j hj => h 100 j (sp_of (a := 0) (b := 44) (by simp) (by omega) (by omega))) (congrArg Int32.toInt (h 85 43 (by decide))) q
theorem sw_of {w : Int} {u : ac_U} (h : swW u) (e : (u.1 85 43).toInt = w) : swI w u := e ▸ h
theorem sw_to {w : Int} {u : ac_U} (h : swI w u) (e : (u.1 85 43).toInt = w) : swW u := by
  unfold swW
  rw [e]
  exact h
def cdl (x : Int) : Int := if x = 20 then 0 else if x = 21 ∨ x = 22 then -1 else 1
/-- what one code does -/
def cdE (x : Int) (u u' : ac_U) : Prop := ∀ w : Int, swI w u → (x = 20 → 1 ≤ bcS (u.1 100) (nT u) + w) → (x = 21 ∨ x = 22 → 2 ≤ bcS (u.1 100) (nT u) + w) → swI (w + cdl x) u'
theorem cd_code {u u' : ac_U} {x : Int32} (hc : u'.1 85 39 = u.1 85 39 + 1) (h0 : 0 ≤ (u.1 85 39).toInt ∧ (u.1 85 39).toInt ≤ 44) (ht : u'.1 85 41 = u.1 85 41) (hr : ∀ j, j < 3 * nC u → u'.1 89 j = u.1 89 j) (hx : u'.1 89 (3 * nC u) = x) (hs : ∀ j, j < 45 → u'.1 100 j = u.1 100 j) : cdE x.toInt u u' := by
  intro w q c1 c2
  have h1 : nC u' = nC u + 1 := by
    unfold nC
    rw [hc, i_add rfl (by decide : (1 : Int32).toInt = 1) (by omega)]
    omega
  have h2 : nT u' = nT u := by unfold nT; rw [ht]
  have hn : nC u ≤ 44 := by unfold nC; omega
  obtain ⟨q1, q2, q3, q4⟩ := q
  have hg : ∀ j, 1 ≤ j → j ≤ 3 * nC u → rdG u' j = rdG u j := fun j _ hj => hr (j - 1) (by omega)
  have hgx : rdG u' (0 + 1 + 3 * nC u) = x := by
    show u'.1 89 (0 + 1 + 3 * nC u - 1) = x
    rw [show 0 + 1 + 3 * nC u - 1 = 3 * nC u by omega]
    exact hx
  have hD : ∀ i, i ≤ nC u → cwD (rdG u') 0 i = cwD (rdG u) 0 i := by
    intro i
    induction i with
    | zero => intro _; rfl
    | succ i ih =>
      intro hi
      simp only [cwD]
      rw [ih (by omega), hg (0 + 1 + 3 * i) (by omega) (by omega)]
  unfold swI
  rw [h1, h2, bcS_tr (nT u) (fun j hj => hs j (by omega))]
  refine ⟨fun i hi hl => ?_, ?_, by omega, q4⟩
  · by_cases z : i = nC u
    · rw [z]
      unfold cwO
      rw [hgx, hD _ (Nat.le_refl _), q2]
      exact ⟨c1, c2⟩
    · have := q1 i hi (by omega)
      unfold cwO at this ⊢
      rw [hg (0 + 1 + 3 * i) (by omega) (by omega), hD i (by omega)]
      exact this
  · simp only [cwD]
    rw [hgx, hD _ (Nat.le_refl _), q2]
    unfold cdl
    omega
theorem cd_codeD {A : Nat → Prop} {ad : Nat → Nat} {cA : Nat → ClassId} {T : List ac_T} {u u1 u2 u3 u4 : ac_U} {i j k x y z v : Int32} (_ : va_D A (ac_w ad cA T u4)) (e4 : u4 = ac_si u3 85 (upd (u3.1 85) 39 v)) (e3 : u3 = ac_si u2 89 (upd (u2.1 89) k.toNatClampNeg z)) (e2 : u2 = ac_si u1 89 (upd (u1.1 89) j.toNatClampNeg y)) (e1 : u1 = ac_si u 89 (upd (u.1 89) i.toNatClampNeg x))
    (h0 : 0 ≤ (u.1 85 39).toInt ∧ (u.1 85 39).toInt ≤ 44) (hi : i.toInt = 3 * (u.1 85 39).toInt) (hj : j.toInt = 3 * (u.1 85 39).toInt + 1) (hk : k.toInt = 3 * (u.1 85 39).toInt + 2) (hv : v.toInt = (u.1 85 39).toInt + 1) : cdE x.toInt u u4 := by
  have n1 := i_cl (x := i) (by omega)
  have n2 := i_cl (x := j) (by omega)
  have n3 := i_cl (x := k) (by omega)
  have hC : (nC u : Int) = (u.1 85 39).toInt := by unfold nC; omega
  have hv2 : v = u.1 85 39 + 1 := by
    apply Int32.toInt_inj.mp
    rw [hv, i_add rfl (by decide : (1 : Int32).toInt = 1) (by omega)]
  have hrd : ∀ q, u4.1 89 q = u3.1 89 q := fun q => by rw [e4]; exact sw_o (by decide)
  refine cd_code ?_ h0 ?_ (fun q hq => ?_) ?_ (fun q hq => ?_)
  · rw [e4, sw_e]; exact hv2
  · rw [e4, sw_n (by decide), e3, sw_o (by decide), e2, sw_o (by decide), e1, sw_o (by decide)]
  · rw [hrd, e3, sw_n (by omega), e2, sw_n (by omega), e1, sw_n (by omega)]
  · rw [hrd, e3, sw_n (by omega), e2, sw_n (by omega), e1, show 3 * nC u = i.toNatClampNeg by omega, sw_e]
  · rw [e4, sw_o (by decide), e3, sw_o (by decide), e2, sw_o (by decide), e1, sw_o (by decide)]
/-- one is taken from the stack -/
theorem sw_pop {w : Int} {u : ac_U} {i v x : Int32} (h : swI w u) (ht : 1 ≤ (u.1 85 41).toInt ∧ (u.1 85 41).toInt ≤ 45) (hi : i.toInt = (u.1 85 41).toInt - 1) (e : u.1 100 i.toNatClampNeg = x) (hv : v.toInt = (u.1 85 41).toInt - 1) : swI (w + (if x.toInt = 21 ∨ x.toInt = 22 then 1 else 0)) (ac_si u 85 (upd (u.1 85) 41 v)) := by
  have n1 := i_cl (x := i) (by omega)
  obtain ⟨q1, q2, q3, q4⟩ := h
  have h1 : nC (ac_si u 85 (upd (u.1 85) 41 v)) = nC u := by unfold nC; rw [sw_n (by decide)]
  have h2 : nT u = nT (ac_si u 85 (upd (u.1 85) 41 v)) + 1 := by unfold nT; rw [sw_e, hv]; omega
  have h3 : nT (ac_si u 85 (upd (u.1 85) 41 v)) = i.toNatClampNeg := by unfold nT; rw [sw_e, hv]; omega
  have hg : rdG (ac_si u 85 (upd (u.1 85) 41 v)) = rdG u := by
    funext j
    exact sw_o (by decide)
  have hs : (ac_si u 85 (upd (u.1 85) 41 v)).1 100 = u.1 100 := (ac_si_o 100 (by decide)).1
  unfold swI
  rw [h1, hg, hs]
  refine ⟨q1, ?_, q3, by omega⟩
  rw [q2, h2]
  simp only [bcS]
  rw [h3, e]
  omega
/-- one is put upon the stack -/
theorem sw_psh {w : Int} {u u1 u2 : ac_U} {i x v : Int32} (h : swI w u) (h0 : 0 ≤ (u.1 85 41).toInt ∧ (u.1 85 41).toInt ≤ 44) (hi : i.toInt = (u.1 85 41).toInt) (hv : v.toInt = (u.1 85 41).toInt + 1) (e1 : u1 = ac_si u 100 (upd (u.1 100) i.toNatClampNeg x)) (e2 : u2 = ac_si u1 85 (upd (u1.1 85) 41 v)) : swI (w - (if x.toInt = 21 ∨ x.toInt = 22 then 1 else 0)) u2 := by
  have n1 := i_cl (x := i) (by omega)
  obtain ⟨q1, q2, q3, q4⟩ := h
  have h1 : nC u2 = nC u := by unfold nC; rw [e2, sw_n (by decide), e1, sw_o (by decide)]
  have h2 : nT u2 = nT u + 1 := by unfold nT; rw [e2, sw_e, hv]; omega
  have h3 : nT u = i.toNatClampNeg := by unfold nT; omega
  have hg : rdG u2 = rdG u := by
    funext j
    show u2.1 89 (j - 1) = u.1 89 (j - 1)
    rw [e2, sw_o (by decide), e1, sw_o (by decide)]
  have hs : ∀ j, j ≠ i.toNatClampNeg → u2.1 100 j = u.1 100 j := fun j hj => by rw [e2, sw_o (by decide), e1, sw_n hj]
  have hx : u2.1 100 i.toNatClampNeg = x := by rw [e2, sw_o (by decide), e1, sw_e]
  unfold swI
  rw [h1, h2, hg]
  have hn : nT u ≤ 44 := by unfold nT; omega
  refine ⟨q1, ?_, q3, by omega⟩
  rw [q2]
  simp only [bcS]
  rw [bcS_tr (nT u) (fun j hj => hs j (by omega)), h3, hx]
  omega
theorem sw_cast {a b : Int} {u : ac_U} (h : swI a u) (e : a = b) : swI b u := e ▸ h
theorem cdl_b {x : Int} (h : x = 21 ∨ x = 22) : cdl x = -1 := by unfold cdl; omega
theorem cdl_n {x : Int} (h : x = 20) : cdl x = 0 := by unfold cdl; omega
theorem cdl_l {x : Int} (h : x < 20) : cdl x = 1 := by unfold cdl; omega
theorem sw_0 {u : ac_U} (hc : (u.1 85 39).toInt = 0) (ht : (u.1 85 41).toInt = 0) : swI 0 u := by
  have h1 : nC u = 0 := by unfold nC; rw [hc]; rfl
  have h2 : nT u = 0 := by unfold nT; rw [ht]; rfl
  unfold swI
  rw [h1, h2]
  exact ⟨fun i _ hi => by omega, rfl, by omega, by omega⟩
/-- the codes come into the row -/
def scI (n : Int) (u : ac_U) : Prop := u.1 87 476 = u.1 85 39 ∧ ∀ j : Nat, (j : Int) < n → j < 135 → u.1 87 (477 + j) = u.1 89 j
theorem sc_0 {u : ac_U} {n : Int} {v : Int32} (e : u.1 85 39 = v) (hn : n ≤ 0) : scI n (ac_si u 87 (upd (u.1 87) 476 v)) := by
  refine ⟨?_, fun j hj => by omega⟩
  rw [sw_e, sw_o (by decide), e]
theorem sc_le {a b : Int} {u : ac_U} (h : scI a u) (e : b ≤ a) : scI b u := ⟨h.1, fun j hj hj2 => h.2 j (by omega) hj2⟩
theorem sc_w {u : ac_U} {i k v : Int32} (h : scI i.toInt u) (hi : 0 ≤ i.toInt ∧ i.toInt < 135) (hk : k.toInt = 477 + i.toInt) (e : u.1 89 i.toNatClampNeg = v) : scI (i.toInt + 1) (ac_si u 87 (upd (u.1 87) k.toNatClampNeg v)) := by
  have n1 := i_cl hi.1
  have n2 := i_cl (x := k) (by omega)
  refine ⟨?_, fun j hj hj2 => ?_⟩
  · rw [sw_n (by omega), sw_o (by decide)]
    exact h.1
  · rw [sw_o (c := 87) (d := 89) (by decide)]
    by_cases q : j = i.toNatClampNeg
    · rw [show 477 + j = k.toNatClampNeg by omega, sw_e, q, e]
    · rw [sw_n (by omega)]
      exact h.2 j (by omega) hj2
theorem sc_cw {w n : Int} {u : ac_U} (h : swI w u) (hs : scI n u) (h0 : 0 ≤ (u.1 85 39).toInt ∧ (u.1 85 39).toInt ≤ 45) (hn : 3 * (u.1 85 39).toInt ≤ n) : cdI u := by
  obtain ⟨q1, q2, q3, q4⟩ := h
  have hC : (nC u : Int) = (u.1 85 39).toInt := by unfold nC; omega
  have hg : ∀ i, i < nC u → u.1 87 (476 + 1 + 3 * i) = rdG u (0 + 1 + 3 * i) := fun i hi => by
    have := hs.2 (3 * i) (by omega) (by omega)
    rw [show 476 + 1 + 3 * i = 477 + 3 * i by omega, this]
    show u.1 89 (3 * i) = u.1 89 (0 + 1 + 3 * i - 1)
    exact congrArg (u.1 89) (by omega)
  have hD : ∀ i, i ≤ nC u → cwD (u.1 87) 476 i = cwD (rdG u) 0 i := by
    intro i
    induction i with
    | zero => intro _; rfl
    | succ i ih =>
      intro hi
      simp only [cwD]
      rw [ih (by omega), hg i (by omega)]
  intro i hi hl
  rw [hs.1] at hl
  have := q1 i hi (by omega)
  unfold cwO at this ⊢
  rw [hg i (by omega), hD i (by omega)]
  exact this
/-- the depth when a sentence is said of a promise -/
def dpI (i n : Int) (u : ac_U) : Prop := n = cwD (u.1 87) 476 i.toNat
theorem sp_dp (i n : Int) (hi : i ≤ 45) : ac_Sp [(87, 476, 656)] (dpI i n) := fun u u' h q => by
  unfold dpI
  rw [cwD_tr (fun j hj => h 87 (476 + j) (sp_of (a := 476) (b := 656) (by simp) (by omega) (by omega))) _ (by omega)]
  exact q
theorem dp_0 {i n : Int} {u : ac_U} (hi : i = 0) (hn : n = 0) : dpI i n u := by
  unfold dpI
  rw [hi, hn]
  rfl
theorem dp_eq {i j n m : Int} {u : ac_U} (h : dpI i n u) (hi : i = j) (hn : n = m) : dpI j m u := by
  rw [← hi, ← hn]
  exact h
theorem dp_get {u : ac_U} {i k v : Int32} {n : Int} (h : cdI u) (hd : dpI i.toInt n u) (hi : 0 ≤ i.toInt ∧ i.toInt < (u.1 87 476).toInt ∧ i.toInt < 45) (hk : k.toInt = 477 + 3 * i.toInt) (e : u.1 87 k.toNatClampNeg = v) : (v.toInt = 20 → 1 ≤ n) ∧ (v.toInt = 21 ∨ v.toInt = 22 → 2 ≤ n) ∧ dpI (i.toInt + 1) (n + cdl v.toInt) u := by
  have n1 := i_cl hi.1
  have n2 := i_cl (x := k) (by omega)
  have h1 := h i.toNatClampNeg (by omega) (by omega)
  unfold cwO at h1
  have hke : 476 + 1 + 3 * i.toNatClampNeg = k.toNatClampNeg := by omega
  rw [hke, e] at h1
  have hin : i.toInt.toNat = i.toNatClampNeg := by omega
  unfold dpI at hd ⊢
  rw [hin] at hd
  rw [show (i.toInt + 1).toNat = i.toNatClampNeg + 1 by omega]
  simp only [cwD]
  rw [hke, e, ← hd]
  rw [← hd] at h1
  refine ⟨h1.1, h1.2, ?_⟩
  unfold cdl
  rfl
section BLX
variable {A : Nat → Prop} {ad : Nat → Nat} {cA : Nat → ClassId} {T : List ac_T} {u : ac_U} {i v t : Int32}
theorem bx_w (h : blI u) (e : u.1 85 35 = t) (h0 : 0 ≤ i.toInt) (hi : 3 * t.toInt ≤ i.toInt) : blI (ac_si u 89 (upd (u.1 89) i.toNatClampNeg v)) := bl_w h h0 (by rw [e]; exact hi)
theorem bx_a (_ : va_D A (ac_w ad cA T (ac_si u 89 (upd (u.1 89) i.toNatClampNeg v)))) (e : u.1 85 35 = t) (h0 : 0 ≤ i.toInt) (hi : i.toInt = 3 * t.toInt) (hv : v.toInt = 3) : blA (ac_si u 89 (upd (u.1 89) i.toNatClampNeg v)) := bl_a h0 (by rw [e]; exact hi) hv
theorem bx_p (_ : va_D A (ac_w ad cA T (ac_si u 89 (upd (u.1 89) i.toNatClampNeg v)))) (e : u.1 85 35 = t) (h0 : 0 ≤ i.toInt) (hi : i.toInt = 3 * t.toInt + 1) (hv : 0 ≤ v.toInt ∧ v.toInt ≤ 3) : blP (ac_si u 89 (upd (u.1 89) i.toNatClampNeg v)) := bl_p h0 (by rw [e]; exact hi) hv
theorem bx_pw (h : blP u) (e : u.1 85 35 = t) (h0 : 0 ≤ i.toInt) (hi : i.toInt = 3 * t.toInt) : blP (ac_si u 89 (upd (u.1 89) i.toNatClampNeg v)) := bl_pw h h0 (by rw [e]; exact hi)
theorem bx_q (_ : va_D A (ac_w ad cA T (ac_si u 89 (upd (u.1 89) i.toNatClampNeg v)))) (e : u.1 85 35 = t) (h0 : 0 ≤ i.toInt) (hi : i.toInt = 3 * t.toInt) (hv : 0 ≤ v.toInt ∧ v.toInt ≤ 2) : blQ (ac_si u 89 (upd (u.1 89) i.toNatClampNeg v)) := bl_q h0 (by rw [e]; exact hi) hv
theorem bx_j1 (h : blI u) (ha : blA u) (e : u.1 85 35 = t) (h0 : 0 ≤ i.toInt) (hi : i.toInt = 3 * t.toInt + 1) (hv : 1 ≤ v.toInt ∧ v.toInt ≤ 99) : blJ (ac_si u 89 (upd (u.1 89) i.toNatClampNeg v)) := bl_j1 h ha h0 (by rw [e]; exact hi) hv
theorem bx_j2 (h : blI u) (hp : blP u) (hq : blQ u) (e : u.1 85 35 = t) (h0 : 0 ≤ i.toInt) (hi : i.toInt = 3 * t.toInt + 2) (hv : 0 ≤ v.toInt ∧ v.toInt ≤ 7) : blJ (ac_si u 89 (upd (u.1 89) i.toNatClampNeg v)) := bl_j2 h hp hq h0 (by rw [e]; exact hi) hv
end BLX
def tmI (v u : ac_U) : Prop := u.1 87 106 = v.1 87 106 ∧ u.1 87 0 = v.1 87 0
theorem sp_tm (v : ac_U) : ac_Sp [(87, 0, 0), (87, 106, 106)] (tmI v) := fun u u' h q => ⟨(h 87 106 (by decide)).trans q.1, (h 87 0 (by decide)).trans q.2⟩
theorem ue_dec2 {u : ac_U} {v t : Int32} (h : unI u) (e : u.1 85 24 = t) (hv : v.toInt = t.toInt - 1) : ueI (ac_si u 85 (upd (u.1 85) 24 v)) := ue_dec h (by rw [e]; exact hv)
/-- how much of a house is told -/
def sumI (u : ac_U) : Int := (u.1 88 1).toInt + (u.1 88 2).toInt + (u.1 88 3).toInt + (u.1 88 4).toInt + (u.1 88 5).toInt + (u.1 88 6).toInt + (u.1 88 7).toInt + (u.1 85 20).toInt
def s7I (v u : ac_U) : Prop := (u.1 88 1 = v.1 88 1 ∧ u.1 88 2 = v.1 88 2 ∧ u.1 88 3 = v.1 88 3 ∧ u.1 88 4 = v.1 88 4 ∧ u.1 88 5 = v.1 88 5 ∧ u.1 88 6 = v.1 88 6 ∧ u.1 88 7 = v.1 88 7) ∧ u.1 85 20 = v.1 85 20
def s7P (v u : ac_U) : Prop := sumI u = sumI v + 1
theorem s7_rf {u : ac_U} : s7I u u := ⟨⟨rfl, rfl, rfl, rfl, rfl, rfl, rfl⟩, rfl⟩
theorem sp_s7 (v : ac_U) : ac_Sp [(85, 20, 20), (88, 1, 7)] (s7I v) := fun u u' h q => by
  unfold s7I
  rw [h 88 1 (by decide), h 88 2 (by decide), h 88 3 (by decide), h 88 4 (by decide), h 88 5 (by decide), h 88 6 (by decide), h 88 7 (by decide), h 85 20 (by decide)]
  exact q
theorem sp_s7p (v : ac_U) : ac_Sp [(85, 20, 20), (88, 1, 7)] (s7P v) := fun u u' h q => by
  unfold s7P sumI
  rw [h 88 1 (by decide), h 88 2 (by decide), h 88 3 (by decide), h 88 4 (by decide), h 88 5 (by decide), h 88 6 (by decide), h 88 7 (by decide), h 85 20 (by decide)]
  exact q
theorem s7_inc {w u : ac_U} {k : Nat} {v x : Int32} (h : s7I w u) (hk : k = 1 ∨ k = 2 ∨ k = 3 ∨ k = 4 ∨ k = 5 ∨ k = 6 ∨ k = 7) (e : u.1 88 k = x) (hv : v.toInt = x.toInt + 1) : s7P w (ac_si u 88 (upd (u.1 88) k v)) := by
  obtain ⟨⟨h1, h2, h3, h4, h5, h6, h7⟩, h8⟩ := h
  unfold s7P sumI
  rw [sw_o (c := 88) (d := 85) (by decide), h8]
  rcases hk with q | q | q | q | q | q | q <;> subst q
  · rw [sw_e, sw_n (k := 1) (j := 2) (by decide), sw_n (k := 1) (j := 3) (by decide), sw_n (k := 1) (j := 4) (by decide), sw_n (k := 1) (j := 5) (by decide), sw_n (k := 1) (j := 6) (by decide), sw_n (k := 1) (j := 7) (by decide), h2, h3, h4, h5, h6, h7, ← h1, e]; omega
  · rw [sw_e, sw_n (k := 2) (j := 1) (by decide), sw_n (k := 2) (j := 3) (by decide), sw_n (k := 2) (j := 4) (by decide), sw_n (k := 2) (j := 5) (by decide), sw_n (k := 2) (j := 6) (by decide), sw_n (k := 2) (j := 7) (by decide), h1, h3, h4, h5, h6, h7, ← h2, e]; omega
  · rw [sw_e, sw_n (k := 3) (j := 1) (by decide), sw_n (k := 3) (j := 2) (by decide), sw_n (k := 3) (j := 4) (by decide), sw_n (k := 3) (j := 5) (by decide), sw_n (k := 3) (j := 6) (by decide), sw_n (k := 3) (j := 7) (by decide), h1, h2, h4, h5, h6, h7, ← h3, e]; omega
  · rw [sw_e, sw_n (k := 4) (j := 1) (by decide), sw_n (k := 4) (j := 2) (by decide), sw_n (k := 4) (j := 3) (by decide), sw_n (k := 4) (j := 5) (by decide), sw_n (k := 4) (j := 6) (by decide), sw_n (k := 4) (j := 7) (by decide), h1, h2, h3, h5, h6, h7, ← h4, e]; omega
  · rw [sw_e, sw_n (k := 5) (j := 1) (by decide), sw_n (k := 5) (j := 2) (by decide), sw_n (k := 5) (j := 3) (by decide), sw_n (k := 5) (j := 4) (by decide), sw_n (k := 5) (j := 6) (by decide), sw_n (k := 5) (j := 7) (by decide), h1, h2, h3, h4, h6, h7, ← h5, e]; omega
  · rw [sw_e, sw_n (k := 6) (j := 1) (by decide), sw_n (k := 6) (j := 2) (by decide), sw_n (k := 6) (j := 3) (by decide), sw_n (k := 6) (j := 4) (by decide), sw_n (k := 6) (j := 5) (by decide), sw_n (k := 6) (j := 7) (by decide), h1, h2, h3, h4, h5, h7, ← h6, e]; omega
  · rw [sw_e, sw_n (k := 7) (j := 1) (by decide), sw_n (k := 7) (j := 2) (by decide), sw_n (k := 7) (j := 3) (by decide), sw_n (k := 7) (j := 4) (by decide), sw_n (k := 7) (j := 5) (by decide), sw_n (k := 7) (j := 6) (by decide), h1, h2, h3, h4, h5, h6, ← h7, e]; omega
theorem s7_h {w u : ac_U} {v x : Int32} (h : s7I w u) (e : u.1 85 20 = x) (hx : x.toInt = 0) (hv : v.toInt = 1) : s7P w (ac_si u 85 (upd (u.1 85) 20 v)) := by
  obtain ⟨⟨h1, h2, h3, h4, h5, h6, h7⟩, h8⟩ := h
  unfold s7P sumI
  rw [sw_e, sw_o (c := 85) (d := 88) (by decide), sw_o (c := 85) (d := 88) (by decide), sw_o (c := 85) (d := 88) (by decide), sw_o (c := 85) (d := 88) (by decide), sw_o (c := 85) (d := 88) (by decide), sw_o (c := 85) (d := 88) (by decide), sw_o (c := 85) (d := 88) (by decide), h1, h2, h3, h4, h5, h6, h7, ← h8, e]
  omega
