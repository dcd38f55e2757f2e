/-! The reference's plans: what its small methods answer, what the table holds. -/
theorem i_nI {x : Int32} {b : Int} (h : x.toInt = b) (h0 : 0 ≤ b) : x = nI b.toNat := by
  have h1 := i_hi x
  apply Int32.toInt_inj.mp
  rw [nI_toInt (by omega), h]
  omega
def sG (u : ac_U) (z : Int) : Int := (u.1 87 z.toNat).toInt
def dG (u : ac_U) (z : Int) : Int := (u.1 96 z.toNat).toInt
def gG (u : ac_U) (z : Int) : Int32 := u.1 95 z.toNat
theorem sG_of {u : ac_U} {i v : Int32} {z : Int} (e : u.1 87 i.toNatClampNeg = v) (h : i.toInt = z) : v.toInt = sG u z := by
  unfold sG
  rw [← h, ← e]
  rfl
theorem dG_of {u : ac_U} {i v : Int32} {z : Int} (e : u.1 96 i.toNatClampNeg = v) (h : i.toInt = z) : v.toInt = dG u z := by
  unfold dG
  rw [← h, ← e]
  rfl
theorem gG_of {u : ac_U} {i v : Int32} {z : Int} (e : u.1 95 i.toNatClampNeg = v) (h : i.toInt = z) : v = gG u z := by
  unfold gG
  rw [← h, ← e]
  rfl
def btZ (a k : Int) : Int := ((Int32.ofInt a >>> (Int32.ofInt k &&& 31)) &&& 1).toInt
theorem bt_i {x k v : Int32} (e : v = ((x >>> (k &&& 31)) &&& (1 : Int32))) : v.toInt = btZ x.toInt k.toInt ∧ (0 ≤ v.toInt ∧ v.toInt ≤ 1) := by
  refine ⟨?_, ?_⟩
  · unfold btZ
    rw [e, Int32.ofInt_toInt, Int32.ofInt_toInt]
  · rw [e]
    exact i_and ic_1 (by decide)
theorem bt_0 {p : Int} (h : p = 0) : btZ p 0 = 0 := by
  subst h
  decide
def laS (u : ac_U) (k : Int) : Int := min ((u.1 87 0).toInt - 1) (sG u (58 + k))
def p4 (i : Int) : Int := 4 ^ i.toNat
def lfS (v i : Int) : Int := v / p4 i % 4
theorem p4_p {n : Int} : 1 ≤ p4 n := by
  unfold p4
  have h : (0 : Int) < 4 ^ n.toNat := Int.pow_pos (by decide)
  omega
theorem p4_d : ∀ n, n < 5 → (4 : Int) ^ n ≤ 256 := by decide
theorem p4_h {n : Int} (h : n ≤ 4) : p4 n ≤ 256 := by
  unfold p4
  exact p4_d _ (by omega)
theorem lf_le {v i : Int} (hv : 0 ≤ v) (h : 0 < lfS v i) : p4 i ≤ v := by
  unfold lfS at h
  have h1 := p4_p (n := i)
  by_cases q : v < p4 i
  · rw [Int.ediv_eq_zero_of_lt hv q] at h
    exact absurd h (by decide)
  · omega
theorem lf_d : ∀ v, v < 256 → ∀ i, i < 4 → ((nI v >>> (nI (2 * i) &&& 31)) &&& 3).toInt = (v : Int) / 4 ^ i % 4 := by decide +kernel
theorem lf_i {c y v : Int32} {i : Int} (hc : 0 ≤ c.toInt ∧ c.toInt ≤ 255) (hi : 0 ≤ i ∧ i ≤ 3) (hy : y.toInt = 2 * i) (e : v = ((c >>> (y &&& 31)) &&& (3 : Int32))) : v.toInt = lfS c.toInt i ∧ (0 ≤ v.toInt ∧ v.toInt ≤ 3) := by
  refine ⟨?_, ?_⟩
  · have h1 := i_nI (rfl : c.toInt = _) hc.1
    have h2 := i_nI hy (by omega)
    rw [e, h2, h1, show (2 * i).toNat = 2 * i.toNat by omega, lf_d _ (by omega) _ (by omega)]
    unfold lfS p4
    rw [← h1]
    rw [Int.toNat_of_nonneg hc.1]
  · rw [e]
    exact i_and ic_3 (by decide)
theorem sh_i {y v : Int32} {i : Int} (hi : 0 ≤ i ∧ i ≤ 4) (hy : y.toInt = 2 * i) (e : v = ((1 : Int32) <<< (y &&& 31))) : v.toInt = p4 i ∧ (1 ≤ v.toInt ∧ v.toInt ≤ 256) := by
  have h2 := i_nI hy (by omega)
  have h3 : v.toInt = p4 i := by
    rw [e, h2, i_shl1 _ (by omega)]
    unfold p4
    rw [show (2 * i).toNat = 2 * i.toNat by omega, Int.pow_mul]
    rfl
  have h4 := p4_p (n := i)
  have h5 := p4_h hi.2
  omega
/-- after a deed -/
abbrev afC (u : ac_U) (h p d n v : Int) : Prop := 0 < lfS v n ∧ sG u (34 + dG u n) = d ∧ sG u (42 + dG u n) = p ∧ sG u (50 + dG u n) ≤ h ∧ h ≤ laS u (dG u n)
def afN (u : ac_U) (c h p d : Int) : Nat → Int
  | 0 => c
  | n + 1 => if afC u h p d n (afN u c h p d n) then afN u c h p d n - p4 n else afN u c h p d n
def afS (u : ac_U) (c h p d : Int) : Int := afN u c h p d (u.1 85 28).toInt.toNat
theorem af_b {u : ac_U} {c h p d : Int} (hc : 0 ≤ c) : ∀ n, 0 ≤ afN u c h p d n ∧ afN u c h p d n ≤ c := by
  intro n
  induction n with
  | zero => exact ⟨hc, Int.le_refl _⟩
  | succ n ih =>
    simp only [afN]
    by_cases q : afC u h p d n (afN u c h p d n)
    · rw [if_pos q]
      have h1 := lf_le ih.1 q.1
      have h2 := p4_p (n := (n : Int))
      omega
    · rw [if_neg q]
      exact ih
theorem af_bS {u : ac_U} {c h p d : Int} (hc : 0 ≤ c) : 0 ≤ afS u c h p d ∧ afS u c h p d ≤ c := af_b hc _
theorem af_no {u : ac_U} {c h p d x i j : Int} (q : x = afN u c h p d i.toNat) (hi : 0 ≤ i) (hj : j = i + 1) (hn : ¬ afC u h p d i x) : x = afN u c h p d j.toNat := by
  rw [show j.toNat = i.toNat + 1 by omega]
  simp only [afN]
  rw [← q, show ((i.toNat : Nat) : Int) = i by omega, if_neg hn]
theorem af_yes {u : ac_U} {c h p d x y i j : Int} (q : x = afN u c h p d i.toNat) (hi : 0 ≤ i) (hj : j = i + 1) (hn : afC u h p d i x) (hy : y = x - p4 i) : y = afN u c h p d j.toNat := by
  rw [show j.toNat = i.toNat + 1 by omega]
  simp only [afN]
  rw [← q, show ((i.toNat : Nat) : Int) = i by omega, if_pos hn, hy]
/-- choices -/
def chS (u : ac_U) (i : Int) : Int := if i = 0 then 0 else if i ≤ (u.1 87 1).toInt then 99 + i else 199 + i - (u.1 87 1).toInt
theorem ch_c {u : ac_U} {i : Int} (hi : 0 ≤ i) : chS u i = 0 ∨ 100 ≤ chS u i := by
  unfold chS
  omega
def gbZ (u : ac_U) (h p c ch : Int) : Int := if ch = 0 then (gG u (2048 * (h + 1) + 256 * p + c)).toInt else if ch < 200 then (if btZ (sG u (8 + p)) (ch - 100) = 1 then ((1 : Int32) + gG u (2048 * (h + 1) + 256 * (ch - 100) + c)).toInt else 1000) else (gG u (2048 * (h + 1) + 256 * p + afS u c h p (ch - 200))).toInt
def exG (u : ac_U) (h p c b : Int) : Prop := ∃ i : Int, 0 ≤ i ∧ i < 1 + (u.1 87 1).toInt + (u.1 87 5).toInt ∧ gbZ u h p c (chS u i) = b
def fiO (u : ac_U) (h p c : Int) : Prop := (gG u (2048 * h + 256 * p + c)).toInt ≤ 1000 ∧ (h < (u.1 87 0).toInt → exG u h p c (gG u (2048 * h + 256 * p + c)).toInt)
def flI' (H P L : Int) (u : ac_U) : Prop := ∀ h p c : Int, 0 ≤ h → h ≤ (u.1 87 0).toInt → 0 ≤ p → p < (u.1 87 1).toInt → 0 ≤ c → c < p4 (u.1 85 28).toInt → (H < h ∨ h = H ∧ (p < P ∨ p = P ∧ c < L)) → fiO u h p c
def frS (u : ac_U) : Int := (u.1 87 106).toInt.tmod (u.1 87 0).toInt
def feI (u : ac_U) : Prop := ∀ h p c : Int, 0 ≤ h → frS u ≤ h → h ≤ (u.1 87 0).toInt → 0 ≤ p → p < (u.1 87 1).toInt → 0 ≤ c → c < p4 (u.1 85 28).toInt → fiO u h p c
/-- states that agree in what is told -/
def agU (u u' : ac_U) : Prop := (∀ k : Nat, k ≤ 5000000000 → u'.1 87 k = u.1 87 k) ∧ (∀ k : Nat, k < 4 → u'.1 96 k = u.1 96 k) ∧ u'.1 85 28 = u.1 85 28
theorem ag_s {u u' : ac_U} (h : agU u u') {z : Int} (hz : z ≤ 5000000000) : sG u' z = sG u z := by
  unfold sG
  rw [h.1 z.toNat (by omega)]
theorem ag_d {u u' : ac_U} (h : agU u u') {z : Int} (hz : z < 4) : dG u' z = dG u z := by
  unfold dG
  rw [h.2.1 z.toNat (by omega)]
theorem dG_h {u : ac_U} {z : Int} : dG u z ≤ 2147483647 := i_hi _
theorem ag_la {u u' : ac_U} (h : agU u u') {z : Int} (hz : z ≤ 2147483647) : laS u' z = laS u z := by
  unfold laS
  rw [h.1 0 (by decide), ag_s h (by omega)]
theorem ag_af {u u' : ac_U} (g : agU u u') {c h p d : Int} : ∀ n, n ≤ 4 → afN u' c h p d n = afN u c h p d n := by
  intro n
  induction n with
  | zero => intro _; rfl
  | succ n ih =>
    intro hn
    have hd := ag_d g (z := (n : Int)) (by omega)
    have hb := dG_h (u := u) (z := (n : Int))
    simp only [afN]
    rw [ih (by omega)]
    have e : afC u' h p d n (afN u c h p d n) = afC u h p d n (afN u c h p d n) := by
      unfold afC
      rw [hd, ag_s g (by omega), ag_s g (by omega), ag_s g (by omega), ag_la g hb]
    simp only [e]
theorem ag_afS {u u' : ac_U} (g : agU u u') {c h p d : Int} (h4 : (u.1 85 28).toInt ≤ 4) : afS u' c h p d = afS u c h p d := by
  unfold afS
  rw [g.2.2]
  exact ag_af g _ (by omega)
theorem ag_ch {u u' : ac_U} (g : agU u u') {i : Int} : chS u' i = chS u i := by
  unfold chS
  rw [g.1 1 (by decide)]
theorem ag_gb {u u' : ac_U} (g : agU u u') {h p c ch : Int} (h4 : (u.1 85 28).toInt ≤ 4) (hp : 0 ≤ p ∧ p ≤ 100) (hc : 0 ≤ c) (hch : ch = 0 ∨ 100 ≤ ch) (hG : ∀ z : Int, 2048 * (h + 1) ≤ z → z ≤ 2048 * (h + 1) + 256 * (p + 100) + c → gG u' z = gG u z) : gbZ u' h p c ch = gbZ u h p c ch := by
  have h1 := af_bS (u := u) (h := h) (p := p) (d := ch - 200) hc
  unfold gbZ
  by_cases q : ch = 0
  · rw [if_pos q, if_pos q, hG _ (by omega) (by omega)]
  · rw [if_neg q, if_neg q]
    by_cases q2 : ch < 200
    · rw [if_pos q2, if_pos q2, ag_s g (by omega), hG _ (by omega) (by omega)]
    · rw [if_neg q2, if_neg q2, ag_afS g h4, hG _ (by omega) (by omega)]
theorem ag_fi {u u' : ac_U} (g : agU u u') {h p c : Int} (h4 : (u.1 85 28).toInt ≤ 4) (hp : 0 ≤ p ∧ p ≤ 100) (hc : 0 ≤ c) (hG : ∀ z : Int, 2048 * (h + 1) ≤ z → z ≤ 2048 * (h + 1) + 256 * (p + 100) + c → gG u' z = gG u z) (h0 : gG u' (2048 * h + 256 * p + c) = gG u (2048 * h + 256 * p + c)) (q : fiO u h p c) : fiO u' h p c := by
  unfold fiO exG
  rw [h0, g.1 0 (by decide), g.1 1 (by decide), g.1 5 (by decide)]
  refine ⟨q.1, fun hh => ?_⟩
  obtain ⟨i, i1, i2, i3⟩ := q.2 hh
  refine ⟨i, i1, i2, ?_⟩
  rw [ag_ch g, ag_gb g h4 hp hc (ch_c i1) hG]
  exact i3
def FLs : List (Nat × Nat × Nat) := [(85, 28, 28), (87, 0, 5000000000), (95, 0, 5000000000), (96, 0, 3)]
theorem fl_ag {u u' : ac_U} (h : ∀ c k, sp_in FLs c k = true → u'.1 c k = u.1 c k) : agU u u' ∧ ∀ z : Int, z ≤ 5000000000 → gG u' z = gG u z :=
  ⟨⟨fun k hk => h 87 k (sp_of (a := 0) (b := 5000000000) (by simp [FLs]) (by omega) hk), fun k hk => h 96 k (sp_of (a := 0) (b := 3) (by simp [FLs]) (by omega) (by omega)), h 85 28 (by decide)⟩, fun z hz => h 95 z.toNat (sp_of (a := 0) (b := 5000000000) (by simp [FLs]) (by omega) (by omega))⟩
def feR (u : ac_U) : Prop := (u.1 85 28).toInt ≤ 4 ∧ (u.1 87 0).toInt ≤ 24 ∧ (u.1 87 1).toInt ≤ 8 ∧ feI u
theorem sp_FE : ac_Sp FLs feR := fun u u' h q => by
  obtain ⟨g, hG⟩ := fl_ag h
  obtain ⟨q1, q2, q3, q4⟩ := q
  unfold feR feI frS
  rw [g.2.2, g.1 0 (by decide), g.1 1 (by decide), g.1 106 (by decide)]
  refine ⟨q1, q2, q3, fun z p c h0 hf h1 h2 h3 h4 h5 => ?_⟩
  have h6 := p4_h q1
  exact ag_fi g q1 (by omega) h4 (fun z _ hz => hG z (by omega)) (hG _ (by omega)) (q4 z p c h0 hf h1 h2 h3 h4 h5)
def flR (H P L : Int) (u : ac_U) : Prop := (u.1 85 28).toInt ≤ 4 ∧ (u.1 87 0).toInt ≤ 24 ∧ (u.1 87 1).toInt ≤ 8 ∧ flI' H P L u
section FLW
variable {A : Nat → Prop} {ad : Nat → Nat} {cA : Nat → ClassId} {T : List ac_T} {u : ac_U}
theorem fr_0 (_ : va_D A (ac_w ad cA T u)) (hR : ac_R rg u) {H : Int} (hH : (u.1 87 0).toInt ≤ H) : flR H 0 0 u := ⟨(hR 85 28).2, (hR 87 0).2, (hR 87 1).2, fun h p c _ h1 h2 _ h4 _ hf => by omega⟩
theorem fr_l {H P L P' : Int} (h : flR H P L u) (hL : p4 (u.1 85 28).toInt ≤ L) (hP : P' = P + 1) : flR H P' 0 u := ⟨h.1, h.2.1, h.2.2.1, fun z p c h0 h1 h2 h3 h4 h5 hf => h.2.2.2 z p c h0 h1 h2 h3 h4 h5 (by omega)⟩
theorem fr_p {H P H' : Int} (h : flR H P 0 u) (hL : (u.1 87 1).toInt ≤ P) (hP : H' = H - 1) : flR H' 0 0 u := ⟨h.1, h.2.1, h.2.2.1, fun z p c h0 h1 h2 h3 h4 h5 hf => h.2.2.2 z p c h0 h1 h2 h3 h4 h5 (by omega)⟩
theorem fr_e {H P L H' P' L' : Int} (h : flR H P L u) (e1 : H = H') (e2 : P = P') (e3 : L = L') : flR H' P' L' u := by
  subst e1
  subst e2
  subst e3
  exact h
theorem fr_d {H : Int} {x : Int} (h : flR H 0 0 u) (hx : x = frS u) (hH : H < x) : feR u := ⟨h.1, h.2.1, h.2.2.1, fun z p c h0 hf h1 h2 h3 h4 h5 => h.2.2.2 z p c h0 h1 h2 h3 h4 h5 (by omega)⟩
/-- the least so far, of the choices below n -/
def bsI (H P L b n : Int) (u : ac_U) : Prop := b ≤ 1000 ∧ (H < (u.1 87 0).toInt → (b = 1000 ∨ exG u H P L b) ∧ (1 ≤ n → b ≤ gbZ u H P L 0))
theorem bs_0 {H P L b n : Int} (hb : b ≤ 1000) (hn : n = 0) (h : H < (u.1 87 0).toInt → b = 1000) : bsI H P L b n u := ⟨hb, fun q => ⟨Or.inl (h q), fun q2 => by omega⟩⟩
theorem bs_s {H P L b n b' n' g : Int} (h : bsI H P L b n u) (hH : H < (u.1 87 0).toInt) (hn : 0 ≤ n ∧ n < 1 + (u.1 87 1).toInt + (u.1 87 5).toInt) (hg : g = gbZ u H P L (chS u n)) (hb : b' = min b g) (hn' : n' = n + 1) : bsI H P L b' n' u := by
  have h1 := h.1
  obtain ⟨h2, h3⟩ := h.2 hH
  refine ⟨by omega, fun _ => ⟨?_, fun _ => ?_⟩⟩
  · by_cases q : g < b
    · exact Or.inr ⟨n, hn.1, hn.2, by rw [← hg]; omega⟩
    · rw [show b' = b by omega]
      exact h2
  · by_cases q : n = 0
    · have e : chS u n = 0 := by unfold chS; rw [if_pos q]
      rw [e] at hg
      omega
    · have := h3 (by omega)
      omega
theorem bs_e {H P L b n : Int} (h : bsI H P L b n u) (hf : flR H P L u) (hn : H < (u.1 87 0).toInt → 1 ≤ n) (h0 : 0 ≤ H ∧ 0 ≤ P ∧ P < (u.1 87 1).toInt ∧ 0 ≤ L ∧ L < p4 (u.1 85 28).toInt ∧ 0 ≤ (u.1 87 5).toInt) (hH : H < (u.1 87 0).toInt) : exG u H P L b := by
  obtain ⟨h2, h3⟩ := h.2 hH
  rcases h2 with h2 | h2
  · have h4 := h3 (hn hH)
    have h5 := (hf.2.2.2 (H + 1) P L (by omega) (by omega) (by omega) (by omega) (by omega) (by omega) (by omega)).1
    refine ⟨0, by omega, by omega, ?_⟩
    have e : chS u 0 = 0 := by unfold chS; rw [if_pos rfl]
    have e2 : gbZ u H P L 0 = (gG u (2048 * (H + 1) + 256 * P + L)).toInt := by unfold gbZ; rw [if_pos rfl]
    rw [e]
    omega
  · exact h2
theorem fr_w {H P L : Int} {i v : Int32} {b n : Int} (h : flR H P L u) (hs : bsI H P L b n u) (hn : H < (u.1 87 0).toInt → 1 ≤ n) (h0 : 0 ≤ H ∧ 0 ≤ P ∧ P < (u.1 87 1).toInt ∧ 0 ≤ L ∧ L < p4 (u.1 85 28).toInt ∧ 0 ≤ (u.1 87 5).toInt) (hi : i.toInt = 2048 * H + 256 * P + L) (hv : v.toInt = min b 1000) : flR H P (L + 1) (ac_si u 95 (upd (u.1 95) i.toNatClampNeg v)) := by
  have n1 := i_cl (x := i) (by omega)
  have hb := hs.1
  have q8 : ∀ k, (ac_si u 95 (upd (u.1 95) i.toNatClampNeg v)).1 87 k = u.1 87 k := fun k => sw_o (by decide)
  have g : agU u (ac_si u 95 (upd (u.1 95) i.toNatClampNeg v)) := ⟨fun k _ => q8 k, fun k _ => sw_o (by decide), sw_o (by decide)⟩
  have hG : ∀ z : Int, 0 ≤ z → z ≠ i.toInt → gG (ac_si u 95 (upd (u.1 95) i.toNatClampNeg v)) z = gG u z := fun z hz hne => sw_n (by omega)
  have hE : gG (ac_si u 95 (upd (u.1 95) i.toNatClampNeg v)) i.toInt = v := by
    unfold gG
    rw [show i.toInt.toNat = i.toNatClampNeg from rfl, sw_e]
  have hx := bs_e hs h hn h0
  obtain ⟨q1, q2, q3, q4⟩ := h
  have h6 := p4_h q1
  unfold flR flI'
  rw [g.2.2, q8, q8]
  refine ⟨q1, q2, q3, fun z p c z0 z1 z2 z3 z4 z5 hf => ?_⟩
  by_cases q : z = H ∧ p = P ∧ c = L
  · obtain ⟨e1, e2, e3⟩ := q
    subst e1
    subst e2
    subst e3
    have hvb : v.toInt = b := by omega
    unfold fiO exG
    rw [← hi, hE, q8, q8, q8, hvb]
    refine ⟨hb, fun hh => ?_⟩
    obtain ⟨j, j1, j2, j3⟩ := hx hh
    refine ⟨j, j1, j2, ?_⟩
    rw [ag_ch g, ag_gb g q1 (by omega) z4 (ch_c j1) (fun z a _ => hG z (by omega) (by omega)), j3]
  · exact ag_fi g q1 (by omega) z4 (fun y a _ => hG y (by omega) (by omega)) (hG _ (by omega) (by omega)) (q4 z p c z0 z1 z2 z3 z4 z5 (by omega))
end FLW
/-- bits of a set -/
def pcN (s : Int) : Nat → Int
  | 0 => 0
  | n + 1 => pcN s n + btZ s n
def pcZ (s k : Int) : Int := pcN s k.toNat
def popS (s : Int) : Int := pcN s 8
theorem bt_r {s k : Int} : 0 ≤ btZ s k ∧ btZ s k ≤ 1 := by
  unfold btZ
  exact i_and ic_1 (by decide)
theorem pc_m {s : Int} : ∀ n m, pcN s n ≤ pcN s (n + m) := by
  intro n m
  induction m with
  | zero => exact Int.le_refl _
  | succ m ih =>
    have h1 := bt_r (s := s) (k := ((n + m : Nat) : Int))
    show pcN s n ≤ pcN s (n + m) + btZ s ((n + m : Nat) : Int)
    omega
theorem pc_lt {s k : Int} (hk : 0 ≤ k ∧ k < 8) (hp : popS s ≤ 4) (hb : btZ s k = 1) : pcZ s k ≤ 3 ∧ pcZ s (k + 1) = pcZ s k + 1 := by
  have e : pcZ s (k + 1) = pcZ s k + 1 := by
    unfold pcZ
    rw [show (k + 1).toNat = k.toNat + 1 by omega]
    show pcN s k.toNat + btZ s ((k.toNat : Nat) : Int) = _
    rw [show ((k.toNat : Nat) : Int) = k by omega, hb]
  have h1 := pc_m (s := s) (k + 1).toNat (8 - (k + 1).toNat)
  rw [show (k + 1).toNat + (8 - (k + 1).toNat) = 8 by omega] at h1
  have h2 : pcZ s (k + 1) ≤ popS s := h1
  omega
theorem pc_no {s k : Int} (hk : 0 ≤ k ∧ k < 8) (hp : popS s ≤ 4) (hb : btZ s k = 0) : pcZ s k ≤ 4 ∧ pcZ s (k + 1) = pcZ s k := by
  have e : pcZ s (k + 1) = pcZ s k := by
    unfold pcZ
    rw [show (k + 1).toNat = k.toNat + 1 by omega]
    show pcN s k.toNat + btZ s ((k.toNat : Nat) : Int) = _
    rw [show ((k.toNat : Nat) : Int) = k by omega, hb]
    omega
  have h1 := pc_m (s := s) k.toNat (8 - k.toNat)
  rw [show k.toNat + (8 - k.toNat) = 8 by omega] at h1
  have h2 : pcZ s k ≤ popS s := h1
  omega
theorem pc_0 {s k : Int} (h : k = 0) : pcZ s k = 0 := by
  subst h
  rfl
theorem pop_d : ∀ n, n < 256 → n ≠ 0 → popS (nI n &&& (nI n - 1)).toInt = popS n - 1 := by decide +kernel
theorem pop_s {x : Int32} (h : 1 ≤ x.toInt ∧ x.toInt ≤ 255) : popS (x &&& (x - (1 : Int32))).toInt = popS x.toInt - 1 := by
  have h1 := i_nI (rfl : x.toInt = _) (by omega)
  have h2 := pop_d x.toInt.toNat (by omega) (by omega)
  rw [← h1, Int.toNat_of_nonneg (by omega)] at h2
  exact h2
theorem pop_0 : popS 0 = 0 := by decide
theorem pop_b {s : Int} : 0 ≤ popS s := by
  have := pc_m (s := s) 0 8
  exact this
theorem qs_d : ∀ a, a < 256 → ∀ s, s < 256 → (nI s &&& (nI a ^^^ (-1))).toInt = 0 → popS s ≤ popS a := by decide +kernel
theorem qs_s {x a v : Int32} (hx : 0 ≤ x.toInt ∧ x.toInt ≤ 255) (ha : 0 ≤ a.toInt ∧ a.toInt ≤ 255) (e : v = (x &&& (a ^^^ (-1 : Int32)))) : v.toInt = 0 → popS x.toInt ≤ popS a.toInt := by
  intro h
  have h1 := i_nI (rfl : x.toInt = _) hx.1
  have h2 := i_nI (rfl : a.toInt = _) ha.1
  have h3 := qs_d a.toInt.toNat (by omega) x.toInt.toNat (by omega)
  rw [← h1, ← h2, Int.toNat_of_nonneg hx.1, Int.toNat_of_nonneg ha.1] at h3
  exact h3 (by rw [← e]; exact h)
theorem or_d : ∀ n, n < 4 → ∀ c, c < 4 ^ n → ∀ l, l < 4 → ((nI c ||| (nI l <<< (nI (2 * n) &&& 31))).toInt < 4 ^ (n + 1) ∧ 0 ≤ (nI c ||| (nI l <<< (nI (2 * n) &&& 31))).toInt) := by decide +kernel
theorem or_i {c l y z : Int32} {n : Int} (hn : 0 ≤ n ∧ n ≤ 3) (hc : 0 ≤ c.toInt ∧ c.toInt < p4 n) (hl : 0 ≤ l.toInt ∧ l.toInt ≤ 3) (hy : y.toInt = 2 * n) (e : z = (c ||| (l <<< (y &&& 31)))) : (0 ≤ z.toInt ∧ z.toInt < p4 (n + 1)) ∧ z.toInt ≤ 255 := by
  have h1 := i_nI (rfl : c.toInt = _) hc.1
  have h2 := i_nI (rfl : l.toInt = _) hl.1
  have h3 := i_nI hy (by omega)
  have hc2 : c.toInt.toNat < 4 ^ n.toNat := by
    have := hc.2
    unfold p4 at this
    have e4 : ((4 ^ n.toNat : Nat) : Int) = 4 ^ n.toNat := by simp
    omega
  have h4 := or_d n.toNat (by omega) c.toInt.toNat hc2 l.toInt.toNat (by omega)
  rw [show 2 * n.toNat = (2 * n).toNat by omega, ← h1, ← h2, ← h3, ← e] at h4
  have h5 : z.toInt < p4 (n + 1) := by
    unfold p4
    rw [show (n + 1).toNat = n.toNat + 1 by omega]
    exact h4.1
  have h6 := p4_h (n := n + 1) (by omega)
  omega
/-- what is due -/
def duS (u : ac_U) (k : Int) : Int := (sG u (124 + k) - 1).tdiv (u.1 87 0).toInt + (if (sG u (124 + k) - 1).tmod (u.1 87 0).toInt ≤ laS u k then 0 else 1)
def idS (u : ac_U) (k : Int) : Int := if sG u (132 + k) = 1 ∧ (u.1 87 106).toInt ≠ 20 * (u.1 87 0).toInt ∧ (duS u k = (u.1 87 106).toInt.tdiv (u.1 87 0).toInt ∨ duS u k < (u.1 87 106).toInt.tdiv (u.1 87 0).toInt ∧ sG u (74 + k) = 1) then 1 else 0
def dqN (u : ac_U) (p : Int) : Nat → Int32
  | 0 => 0
  | n + 1 => dqN u p n ||| (if sG u (26 + n) = p ∧ idS u n = 1 then ((1 : Int32) <<< (nI n &&& 31)) else 0)
def dqS (u : ac_U) (p : Int) : Int := (dqN u p (u.1 87 6).toInt.toNat).toInt
theorem dq_no {u : ac_U} {p k j : Int} {x z : Int32} (h : x = dqN u p k.toNat) (hk : 0 ≤ k) (hj : j = k + 1) (hn : ¬ (sG u (26 + k) = p ∧ idS u k = 1)) (e : z = (x ||| (0 : Int32))) : z = dqN u p j.toNat := by
  rw [show j.toNat = k.toNat + 1 by omega]
  simp only [dqN]
  rw [← h, show ((k.toNat : Nat) : Int) = k by omega, if_neg hn]
  exact e
theorem dq_yes {u : ac_U} {p k j : Int} {x y z : Int32} (h : x = dqN u p k.toNat) (hk : 0 ≤ k) (hj : j = k + 1) (hn : sG u (26 + k) = p ∧ idS u k = 1) (hy : y.toInt = k) (e : z = (x ||| ((1 : Int32) <<< (y &&& 31)))) : z = dqN u p j.toNat := by
  rw [show j.toNat = k.toNat + 1 by omega]
  simp only [dqN]
  rw [← h, show ((k.toNat : Nat) : Int) = k by omega, if_pos hn, ← i_nI hy hk]
  exact e
theorem tm_eq {p : Program} {l : Launch} {e : Env} {R : Room} {s : State} {m : MethodId} {args : Array Value} {below : List Frame} {meth : Method} {c : Code} {H : Heap} {locs : List Loc} {cells slots : Nat} {Q : State → Prop} {cc : ByteArray} {pc : Nat} {ls : Array Slot} {rest : List Value} {D : va_G} {cl : List vw_C} {tys : List (ClassId × FieldType)} {own : String} {Ts : List Cond} {x y : Int32} {a b : Int} (F : ac_X p s m args c cc own Ts D cl tys) (hdg : decode cc pc = .ok (.irem, 1)) (hx : x.toInt = a) (hy : y.toInt = b) (hb : 0 < b) (k : ∀ v : Int32, v.toInt = a.tmod b → ((0 ≤ a → 0 ≤ v.toInt ∧ v.toInt < b ∧ v.toInt ≤ a) ∧ (a ≤ 0 → -b < v.toInt ∧ v.toInt ≤ 0)) → W p l e R s m args below meth c H locs cells slots Q (F0 m (pc + 1) ls (.int v :: rest))) : W p l e R s m args below meth c H locs cells slots Q (F0 m pc ls (.int y :: .int x :: rest)) := by
  refine lv_irem F.1 F.2.1 hdg (fun h => ?_) (k _ ?_ ?_)
  · rw [h] at hy
    have : (0 : Int32).toInt = 0 := rfl
    omega
  · rw [i_rem0 hx hy hb, Int.tmod_def, Int.mul_comm]
  · rw [i_rem0 hx hy hb]
    exact i_tmod hb
theorem ch_r {u : ac_U} {i : Int} (hi : 0 ≤ i ∧ i ≤ 14) (h1 : 0 ≤ (u.1 87 1).toInt ∧ (u.1 87 1).toInt ≤ 8) : chS u i = 0 ∨ (100 ≤ chS u i ∧ chS u i - 100 < (u.1 87 1).toInt) ∨ (200 ≤ chS u i ∧ chS u i ≤ 300) := by
  unfold chS
  omega
/-- one of the choices from n on is the one that the table holds -/
def wtI (h p c n : Int) (u : ac_U) : Prop := ∃ i : Int, n ≤ i ∧ 0 ≤ i ∧ i < 1 + (u.1 87 1).toInt + (u.1 87 5).toInt ∧ gbZ u h p c (chS u i) = (gG u (2048 * h + 256 * p + c)).toInt
theorem wt_0 {h p c n : Int} {u : ac_U} (q : feR u) (hn : n = 0) (h0 : 0 ≤ h ∧ frS u ≤ h ∧ h < (u.1 87 0).toInt ∧ 0 ≤ p ∧ p < (u.1 87 1).toInt ∧ 0 ≤ c ∧ c < p4 (u.1 85 28).toInt) : wtI h p c n u := by
  obtain ⟨i, i1, i2, i3⟩ := (q.2.2.2 h p c (by omega) (by omega) (by omega) (by omega) (by omega) (by omega) (by omega)).2 h0.2.2.1
  exact ⟨i, by omega, i1, i2, i3⟩
theorem wt_s {h p c n n' g v : Int} {u : ac_U} (q : wtI h p c n u) (hg : g = gbZ u h p c (chS u n)) (hv : v = (gG u (2048 * h + 256 * p + c)).toInt) (hne : g ≠ v) (hn : n' = n + 1) : wtI h p c n' u := by
  obtain ⟨i, i0, i1, i2, i3⟩ := q
  refine ⟨i, ?_, i1, i2, i3⟩
  by_cases e : i = n
  · rw [e, ← hg, ← hv] at i3
    exact absurd i3 hne
  · omega
theorem wt_b {h p c n : Int} {u : ac_U} (q : wtI h p c n u) : n < 1 + (u.1 87 1).toInt + (u.1 87 5).toInt := by
  obtain ⟨i, i0, i1, i2, i3⟩ := q
  omega
theorem pop_h {s : Int} : popS s ≤ 8 := by
  have h : ∀ n : Nat, pcN s n ≤ n := by
    intro n
    induction n with
    | zero => exact Int.le_refl _
    | succ n ih =>
      have h1 := bt_r (s := s) (k := (n : Int))
      show pcN s n + btZ s n ≤ _
      omega
  exact h 8
theorem sk_d : ∀ k, k < 8 → (0 ≤ ((1 : Int32) <<< (nI k &&& 31)).toInt ∧ ((1 : Int32) <<< (nI k &&& 31)).toInt < 256) := by decide +kernel
theorem or_k {x y z : Int32} (hx : 0 ≤ x.toInt ∧ x.toInt ≤ 255) (hy : 0 ≤ y.toInt ∧ y.toInt ≤ 7) (e : z = (x ||| ((1 : Int32) <<< (y &&& 31)))) : 0 ≤ z.toInt ∧ z.toInt ≤ 255 := by
  have h1 := i_nI (rfl : y.toInt = _) hy.1
  have h2 := sk_d y.toInt.toNat (by omega)
  rw [← h1] at h2
  rw [e]
  have h3 := i_or (x := x) (y := ((1 : Int32) <<< (y &&& 31))) (n := 8) (m := 256) rfl rfl (by decide) (by decide) (by omega) h2
  omega
theorem or_z {x z : Int32} (hx : 0 ≤ x.toInt ∧ x.toInt ≤ 255) (e : z = (x ||| (0 : Int32))) : 0 ≤ z.toInt ∧ z.toInt ≤ 255 := by
  rw [e]
  have h3 := i_or (x := x) (y := (0 : Int32)) (n := 8) (m := 256) rfl ic_0 (by decide) (by decide) (by omega) (by decide)
  omega
def bxI (H P L b : Int) (u : ac_U) : Prop := ∃ n : Int, bsI H P L b n u ∧ (H < (u.1 87 0).toInt → 1 ≤ n)
theorem fr_w2 {H P L : Int} {u : ac_U} {i v : Int32} {b : Int} (h : flR H P L u) (hs : bxI H P L b u) (h0 : 0 ≤ H ∧ 0 ≤ P ∧ P < (u.1 87 1).toInt ∧ 0 ≤ L ∧ L < p4 (u.1 85 28).toInt ∧ 0 ≤ (u.1 87 5).toInt) (hi : i.toInt = 2048 * H + 256 * P + L) (hv : v.toInt = min b 1000) : flR H P (L + 1) (ac_si u 95 (upd (u.1 95) i.toNatClampNeg v)) := by
  obtain ⟨n, h1, h2⟩ := hs
  exact fr_w h h1 h2 h0 hi hv
