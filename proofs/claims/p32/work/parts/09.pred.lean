/-! Predicates over the state, held up by some places: they stay where nothing else is written. -/
def sp_in (S : List (Nat × Nat × Nat)) (c k : Nat) : Bool := S.any (fun t => t.1 == c && (decide (t.2.1 ≤ k) && decide (k ≤ t.2.2)))
def ac_Sp (S : List (Nat × Nat × Nat)) (P : ac_U → Prop) : Prop := ∀ u u' : ac_U, (∀ c k, sp_in S c k = true → u'.1 c k = u.1 c k) → P u → P u'
theorem sp_mem {S : List (Nat × Nat × Nat)} {c k : Nat} (h : sp_in S c k = true) : ∃ t ∈ S, t.1 = c ∧ t.2.1 ≤ k ∧ k ≤ t.2.2 := by
  obtain ⟨t, h1, h2⟩ := List.any_eq_true.mp h
  simp only [Bool.and_eq_true, beq_iff_eq, decide_eq_true_eq] at h2
  exact ⟨t, h1, h2.1, h2.2.1, h2.2.2⟩
theorem sp_of {S : List (Nat × Nat × Nat)} {c a b k : Nat} (h : (c, a, b) ∈ S) (h1 : a ≤ k) (h2 : k ≤ b) : sp_in S c k = true :=
  List.any_eq_true.mpr ⟨(c, a, b), h, by simp [h1, h2]⟩
def sp_nc (S : List (Nat × Nat × Nat)) (c : Nat) : Bool := S.all (fun t => !(t.1 == c))
theorem sp_ncn {S : List (Nat × Nat × Nat)} {c k : Nat} (h : sp_nc S c = true) : ¬ sp_in S c k = true := by
  intro q
  obtain ⟨t, h1, h2, _⟩ := sp_mem q
  have h3 := List.all_eq_true.mp h t h1
  rw [h2] at h3
  simp at h3
theorem sp_sg {S : List (Nat × Nat × Nat)} {P : ac_U → Prop} (h : ac_Sp S P) {u : ac_U} (hP : P u) {c : Nat} {g : Nat → Int32} (hc : sp_nc S c = true) : P (ac_si u c g) := by
  refine h u _ (fun d k q => ?_) hP
  by_cases e : d = c
  · rw [e] at q; exact absurd q (sp_ncn hc)
  · exact congrFun (ac_si_o d e).1 k
theorem sp_sgD {A : Nat → Prop} {ad : Nat → Nat} {cA : Nat → ClassId} {T : List ac_T} {S : List (Nat × Nat × Nat)} {P : ac_U → Prop} (h : ac_Sp S P) {u : ac_U} {c : Nat} {g : Nat → Int32} (_ : va_D A (ac_w ad cA T (ac_si u c g))) (hP : P u) (hc : sp_nc S c = true) : P (ac_si u c g) := sp_sg h hP hc
theorem sp_si {S : List (Nat × Nat × Nat)} {P : ac_U → Prop} (h : ac_Sp S P) {u : ac_U} (hP : P u) {c k : Nat} {v : Int32} (hc : ∀ j, sp_in S c j = true → j ≠ k) : P (ac_si u c (upd (u.1 c) k v)) := by
  refine h u _ (fun d j q => ?_) hP
  by_cases e : d = c
  · rw [e] at q
    rw [e, ac_si_s]
    exact if_neg (hc j q)
  · exact congrFun (ac_si_o d e).1 j
theorem sp_sl {A : Nat → Prop} {ad : Nat → Nat} {cA : Nat → ClassId} {T : List ac_T} {S : List (Nat × Nat × Nat)} {P : ac_U → Prop} (h : ac_Sp S P) {u : ac_U} {c : Nat} {g : Nat → Int64} (_ : va_D A (ac_w ad cA T (ac_sl u c g))) (hP : P u) : P (ac_sl u c g) := h u _ (fun _ _ _ => rfl) hP
def sp_dj (S : List (Nat × Nat × Nat)) (L : List (Nat × Option Nat)) : Bool := S.all (fun t => L.all (fun e => !(e.1 == t.1) || (match e.2 with | none => false | some j => decide (j < t.2.1) || decide (t.2.2 < j))))
theorem sp_fr {S : List (Nat × Nat × Nat)} {P : ac_U → Prop} (h : ac_Sp S P) {L : List (Nat × Option Nat)} {u u' : ac_U} (hF : ac_Fr L u u') (hd : sp_dj S L = true) (hP : P u) : P u' := by
  refine h u _ (fun c k q => hF c k ?_) hP
  obtain ⟨t, h1, h2, h3, h4⟩ := sp_mem q
  cases hq : ac_cv L c k with
  | false => rfl
  | true =>
    obtain ⟨e, e1, e2⟩ := List.any_eq_true.mp hq
    have h5 := List.all_eq_true.mp (List.all_eq_true.mp hd t h1) e e1
    obtain ⟨e3, e4⟩ := e
    cases e4 with
    | none =>
      simp only [Bool.and_true, beq_iff_eq] at e2
      rw [e2, h2] at h5
      simp at h5
    | some j =>
      simp only [Bool.and_eq_true, beq_iff_eq] at e2
      rw [e2.1, h2] at h5
      simp at h5
      omega
theorem i_trB {x y : Int32} {lo hi : Int} (e : x = y) (h : lo ≤ y.toInt ∧ y.toInt ≤ hi) : lo ≤ x.toInt ∧ x.toInt ≤ hi := e ▸ h
theorem i_trL {x y : Int32} {lo : Int} (e : x = y) (h : lo ≤ y.toInt) : lo ≤ x.toInt := e ▸ h
theorem i_trH {x y : Int32} {hi : Int} (e : x = y) (h : y.toInt ≤ hi) : x.toInt ≤ hi := e ▸ h
/-- names: who is a person has a number up to 3 -/
def nmI (a b : Nat) (u : ac_U) : Prop := ∀ k : Nat, k < 26 → (u.1 a k).toInt = 1 → (u.1 b k).toInt ≤ 3
theorem sp_nm (a b : Nat) : ac_Sp [(a, 0, 25), (b, 0, 25)] (nmI a b) := fun u u' h q k hk e => by
  have h1 := h a k (sp_of (a := 0) (b := 25) (by simp) (by omega) (by omega))
  have h2 := h b k (sp_of (a := 0) (b := 25) (by simp) (by omega) (by omega))
  rw [h2]
  exact q k hk (by rw [← h1]; exact e)
theorem nm_add {a b : Nat} {w : ac_U} (hab : a ≠ b) (h : nmI a b w) {k : Nat} {x y : Int32} (hxy : x.toInt = 1 → y.toInt ≤ 3) : nmI a b (ac_si (ac_si w a (upd (w.1 a) k x)) b (upd ((ac_si w a (upd (w.1 a) k x)).1 b) k y)) := by
  intro j hj e
  rw [ac_si_s]
  rw [(ac_si_o (u := ac_si w a (upd (w.1 a) k x)) (c := b) a hab).1, ac_si_s] at e
  rw [(ac_si_o (u := w) (c := a) b (fun q => hab q.symm)).1]
  by_cases q : j = k
  · subst q
    simp only [upd, if_true] at e ⊢
    exact hxy e
  · rw [show upd (w.1 b) k y j = w.1 b j from if_neg q]
    rw [show upd (w.1 a) k x j = w.1 a j from if_neg q] at e
    exact h j hj e
/-- two rows alike -/
def eqI (a b n : Nat) (u : ac_U) : Prop := ∀ k, k < n → u.1 a k = u.1 b k
theorem sp_eq (a b n : Nat) : ac_Sp [(a, 0, n), (b, 0, n)] (eqI a b n) := fun u u' h q k hk => by
  rw [h a k (sp_of (a := 0) (b := n) (by simp) (by omega) (by omega)), h b k (sp_of (a := 0) (b := n) (by simp) (by omega) (by omega))]
  exact q k hk
theorem eq_cp {a b n : Nat} {u : ac_U} (hab : b ≠ a) : eqI a b n (ac_si u a (va_cpy (u.1 b) (u.1 a) 0 0 n)) := by
  intro k hk
  rw [ac_si_s, (ac_si_o b hab).1]
  unfold va_cpy
  rw [if_pos (by omega)]
  exact congrArg (u.1 b) (by omega)
theorem eq_cpD {A : Nat → Prop} {ad : Nat → Nat} {cA : Nat → ClassId} {T : List ac_T} {a b n x y z : Nat} {u : ac_U} (hab : b ≠ a) (hx : x = 0) (hy : y = 0) (hz : z = n) (_ : va_D A (ac_w ad cA T (ac_si u a (va_cpy (u.1 b) (u.1 a) x y z)))) : eqI a b n (ac_si u a (va_cpy (u.1 b) (u.1 a) x y z)) := by
  subst hx
  subst hy
  subst hz
  exact eq_cp hab
theorem nm_cp {a b a' b' : Nat} {u : ac_U} (h : nmI a b u) (h1 : eqI a' a 26 u) (h2 : eqI b' b 26 u) : nmI a' b' u := fun k hk e => by
  rw [h2 k hk]
  exact h k hk (by rw [← h1 k hk]; exact e)
theorem nm_get {a b : Nat} {u : ac_U} {i x y : Int32} (h : nmI a b u) (hi : 0 ≤ i.toInt ∧ i.toInt < 26) (ex : u.1 a i.toNatClampNeg = x) (ey : u.1 b i.toNatClampNeg = y) : x.toInt = 1 → y.toInt ≤ 3 := by
  have h1 := i_cl (x := i) hi.1
  intro e
  rw [← ey]
  exact h _ (by omega) (by rw [ex]; exact e)
abbrev sp_N4 := sp_nm 11 12
abbrev sp_N13 := sp_nm 20 21
abbrev sp_N55 := sp_nm 62 63
abbrev sp_N64 := sp_nm 71 72
abbrev sp_ES_4_13 := sp_eq 11 20 26
abbrev sp_ES_4_55 := sp_eq 11 62 26
abbrev sp_ES_4_64 := sp_eq 11 71 26
abbrev sp_ES_55_4 := sp_eq 62 11 26
abbrev sp_ES_64_4 := sp_eq 71 11 26
theorem sp_imp {S : List (Nat × Nat × Nat)} {P : ac_U → Prop} {c : Prop} (h : ac_Sp S P) : ac_Sp S (fun u => c → P u) := fun u u' q hu hc => h u u' q (hu hc)
/-- the lines of the daybook -/
def lnO (u : ac_U) (k : Nat) : Prop := 110 ≤ (u.1 41 k).toInt ∧ (u.1 41 k).toInt ≤ 112 → 0 ≤ (u.1 40 k).toInt ∧ (u.1 40 k).toInt ≤ 3 ∧ (u.1 42 k).toInt ≤ 7
def dbI (u : ac_U) : Prop := ∀ k : Nat, k < 40 → (k : Int) < (u.1 39 6).toInt → lnO u k
def dbJ (u : ac_U) : Prop := ∀ k : Nat, k < 40 → (k : Int) ≤ (u.1 39 6).toInt → lnO u k
def dbV (u : ac_U) : Prop := ∀ k : Nat, k < 40 → (k : Int) = (u.1 39 6).toInt → ¬ (110 ≤ (u.1 41 k).toInt ∧ (u.1 41 k).toInt ≤ 112)
def dbW (u : ac_U) : Prop := ∀ k : Nat, k < 40 → (k : Int) = (u.1 39 6).toInt → 0 ≤ (u.1 40 k).toInt ∧ (u.1 40 k).toInt ≤ 3
def dbT (u : ac_U) : Prop := ∀ k : Nat, k < 40 → (k : Int) = (u.1 39 6).toInt → (u.1 42 k).toInt ≤ 7
theorem sp_DBI : ac_Sp [(39, 6, 6), (40, 0, 39), (41, 0, 39), (42, 0, 39)] dbI := fun u u' h q k hk e => by
  have h0 := h 39 6 (by decide)
  have h1 := h 40 k (sp_of (a := 0) (b := 39) (by simp) (by omega) (by omega))
  have h2 := h 41 k (sp_of (a := 0) (b := 39) (by simp) (by omega) (by omega))
  have h3 := h 42 k (sp_of (a := 0) (b := 39) (by simp) (by omega) (by omega))
  unfold lnO
  rw [h1, h2, h3]
  exact q k hk (by rw [← h0]; exact e)
theorem sp_DBJ : ac_Sp [(39, 6, 6), (40, 0, 39), (41, 0, 39), (42, 0, 39)] dbJ := fun u u' h q k hk e => by
  have h0 := h 39 6 (by decide)
  have h1 := h 40 k (sp_of (a := 0) (b := 39) (by simp) (by omega) (by omega))
  have h2 := h 41 k (sp_of (a := 0) (b := 39) (by simp) (by omega) (by omega))
  have h3 := h 42 k (sp_of (a := 0) (b := 39) (by simp) (by omega) (by omega))
  unfold lnO
  rw [h1, h2, h3]
  exact q k hk (by rw [← h0]; exact e)
theorem sp_DBV : ac_Sp [(39, 6, 6), (41, 0, 39)] dbV := fun u u' h q k hk e => by
  have h0 := h 39 6 (by decide)
  have h2 := h 41 k (sp_of (a := 0) (b := 39) (by simp) (by omega) (by omega))
  rw [h2]
  exact q k hk (by rw [← h0]; exact e)
theorem sp_DBW : ac_Sp [(39, 6, 6), (40, 0, 39)] dbW := fun u u' h q k hk e => by
  have h0 := h 39 6 (by decide)
  have h2 := h 40 k (sp_of (a := 0) (b := 39) (by simp) (by omega) (by omega))
  rw [h2]
  exact q k hk (by rw [← h0]; exact e)
theorem upd_ne {f : Nat → Int32} {k j : Nat} {v : Int32} (h : j ≠ k) : upd f k v j = f j := if_neg h
theorem upd_eq {f : Nat → Int32} {k : Nat} {v : Int32} : upd f k v k = v := if_pos rfl
/-- a write at the line that isn't there yet -/
theorem db_w {c : Nat} {u : ac_U} {i v : Int32} (h : dbI u) (hi : 0 ≤ i.toInt) (hc : c ≠ 39) (e : u.1 39 6 = i) : dbI (ac_si u c (upd (u.1 c) i.toNatClampNeg v)) := by
  intro k hk hl
  have h1 := i_cl hi
  have h0 : (ac_si u c (upd (u.1 c) i.toNatClampNeg v)).1 39 6 = u.1 39 6 := congrFun (ac_si_o 39 (fun q => hc q.symm)).1 6
  rw [h0] at hl
  have hne : k ≠ i.toNatClampNeg := by intro q; rw [e] at hl; omega
  have hq : ∀ d, (ac_si u c (upd (u.1 c) i.toNatClampNeg v)).1 d k = u.1 d k := by
    intro d
    by_cases hd : d = c
    · rw [hd, ac_si_s, upd_ne hne]
    · exact congrFun (ac_si_o d hd).1 k
  unfold lnO
  rw [hq, hq, hq]
  exact h k hk hl
theorem db_v {u : ac_U} {i v : Int32} (hi : 0 ≤ i.toInt) (e : u.1 39 6 = i) (hv : v.toInt = 113) : dbV (ac_si u 41 (upd (u.1 41) i.toNatClampNeg v)) := by
  intro k hk hl
  have h1 := i_cl hi
  have h0 : (ac_si u 41 (upd (u.1 41) i.toNatClampNeg v)).1 39 6 = u.1 39 6 := congrFun (ac_si_o 39 (by decide)).1 6
  rw [h0, e] at hl
  rw [ac_si_s, show k = i.toNatClampNeg by omega, upd_eq]
  omega
theorem db_wh {u : ac_U} {i v : Int32} (hi : 0 ≤ i.toInt) (e : u.1 39 6 = i) (hv : 0 ≤ v.toInt ∧ v.toInt ≤ 3) : dbW (ac_si u 40 (upd (u.1 40) i.toNatClampNeg v)) := by
  intro k hk hl
  have h1 := i_cl hi
  have h0 : (ac_si u 40 (upd (u.1 40) i.toNatClampNeg v)).1 39 6 = u.1 39 6 := congrFun (ac_si_o 39 (by decide)).1 6
  rw [h0, e] at hl
  rw [ac_si_s, show k = i.toNatClampNeg by omega, upd_eq]
  exact hv
theorem db_t {u : ac_U} {i v : Int32} (hi : 0 ≤ i.toInt) (e : u.1 39 6 = i) (hv : v.toInt ≤ 7) : dbT (ac_si u 42 (upd (u.1 42) i.toNatClampNeg v)) := by
  intro k hk hl
  have h1 := i_cl hi
  have h0 : (ac_si u 42 (upd (u.1 42) i.toNatClampNeg v)).1 39 6 = u.1 39 6 := congrFun (ac_si_o 39 (by decide)).1 6
  rw [h0, e] at hl
  rw [ac_si_s, show k = i.toNatClampNeg by omega, upd_eq]
  exact hv
theorem db_j1 {u : ac_U} (h : dbI u) (hv : dbV u) : dbJ u := fun k hk hl => by
  by_cases q : (k : Int) = (u.1 39 6).toInt
  · exact fun z => absurd z (hv k hk q)
  · exact h k hk (by omega)
theorem db_j2 {u : ac_U} (h : dbI u) (hw : dbW u) (ht : dbT u) : dbJ u := fun k hk hl => by
  by_cases q : (k : Int) = (u.1 39 6).toInt
  · exact fun z => ⟨(hw k hk q).1, (hw k hk q).2, ht k hk q⟩
  · exact h k hk (by omega)
theorem db_0 {u : ac_U} {v : Int32} (hv : v.toInt = 0) : dbI (ac_si u 39 (upd (u.1 39) 6 v)) := fun k hk hl => by
  rw [ac_si_s, upd_eq, hv] at hl
  omega
theorem db_s {u : ac_U} {i v : Int32} (h : dbJ u) (e : u.1 39 6 = i) (hv : v.toInt = i.toInt + 1) : dbI (ac_si u 39 (upd (u.1 39) 6 v)) := fun k hk hl => by
  rw [ac_si_s, upd_eq, hv] at hl
  have hq : ∀ d, d ≠ 39 → (ac_si u 39 (upd (u.1 39) 6 v)).1 d k = u.1 d k := fun d hd => congrFun (ac_si_o d hd).1 k
  unfold lnO
  rw [hq 40 (by decide), hq 41 (by decide), hq 42 (by decide)]
  exact h k hk (by rw [e]; omega)
theorem db_get {u : ac_U} {i x y z : Int32} (h : dbI u) (hi : 0 ≤ i.toInt ∧ i.toInt ≤ 39) (hl : i.toInt < (u.1 39 6).toInt) (ex : u.1 41 i.toNatClampNeg = x) (ey : u.1 40 i.toNatClampNeg = y) (ez : u.1 42 i.toNatClampNeg = z) : 110 ≤ x.toInt ∧ x.toInt ≤ 112 → 0 ≤ y.toInt ∧ y.toInt ≤ 3 ∧ z.toInt ≤ 7 := by
  have h1 := i_cl hi.1
  rw [← ex, ← ey, ← ez]
  exact h _ (by omega) (by omega)
/-- counts up to n -/
def cntI (n : Int) (u : ac_U) : Prop := ∀ k : Nat, k < 20 → 0 ≤ (u.1 30 k).toInt ∧ (u.1 30 k).toInt ≤ n
theorem sp_cnt (n : Int) : ac_Sp [(30, 0, 19)] (cntI n) := fun u u' h q k hk => by
  rw [h 30 k (sp_of (a := 0) (b := 19) (by simp) (by omega) (by omega))]
  exact q k hk
theorem cnt_le {a b : Int} {u : ac_U} (h : cntI a u) (hab : a ≤ b) : cntI b u := fun k hk => ⟨(h k hk).1, Int.le_trans (h k hk).2 hab⟩
theorem cnt_inc {a : Int} {u : ac_U} {k : Nat} {x v : Int32} (h : cntI a u) (hk : k < 20) (e : u.1 30 k = x) (hv : v.toInt = x.toInt + 1) : cntI (a + 1) (ac_si u 30 (upd (u.1 30) k v)) := fun j hj => by
  rw [ac_si_s]
  by_cases q : j = k
  · rw [q, upd_eq]
    have := h k hk
    rw [e] at this
    omega
  · rw [upd_ne q]
    have := h j hj
    omega
theorem cnt_get {a : Int} {u : ac_U} {i x : Int32} (h : cntI a u) (hi : 0 ≤ i.toInt ∧ i.toInt < 20) (e : u.1 30 i.toNatClampNeg = x) : 0 ≤ x.toInt ∧ x.toInt ≤ a := by
  have h1 := i_cl hi.1
  rw [← e]
  exact h _ (by omega)
/-- a row is filled up to n -/
def flI (c : Nat) (n : Int) (x : Int32) (u : ac_U) : Prop := ∀ k : Nat, (k : Int) < n → u.1 c k = x
theorem fl_0 {c : Nat} {n : Int} {x : Int32} {u : ac_U} (h : n ≤ 0) : flI c n x u := fun k hk => by omega
theorem fl_s {c : Nat} {n : Int} {x : Int32} {u : ac_U} {i : Int32} (h : flI c n x u) (hi : 0 ≤ i.toInt) (hn : n = i.toInt) : flI c (n + 1) x (ac_si u c (upd (u.1 c) i.toNatClampNeg x)) := fun k hk => by
  have h1 := i_cl hi
  rw [ac_si_s]
  by_cases q : k = i.toNatClampNeg
  · rw [q, upd_eq]
  · rw [upd_ne q]
    exact h k (by omega)
theorem fl_cnt {x : Int32} {u : ac_U} (h : flI 30 20 x u) (hx : x.toInt = 0) : cntI 0 u := fun k hk => by
  rw [h k (by omega)]
  omega
theorem fl_le {c : Nat} {n m : Int} {x : Int32} {u : ac_U} (h : flI c n x u) (hm : m ≤ n) : flI c m x u := fun k hk => h k (by omega)
theorem db_0D {A : Nat → Prop} {ad : Nat → Nat} {cA : Nat → ClassId} {T : List ac_T} {u : ac_U} {v : Int32} (_ : va_D A (ac_w ad cA T (ac_si u 39 (upd (u.1 39) 6 v)))) (hv : v.toInt = 0) : dbI (ac_si u 39 (upd (u.1 39) 6 v)) := db_0 hv
