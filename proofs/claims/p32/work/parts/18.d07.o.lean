/-! Pure: the promise line. -/
def Bd (q : ac_U × Int32) (F : ac_U → ac_U × Int32) : ac_U × Int32 := if q.2.toInt ≠ 0 then F q.1 else (q.1, 0)
theorem Bd_flip (q : ac_U × Int32) (X : ac_U × Int32) : (if q.2.toInt = 0 then (q.1, (0 : Int32)) else X) = (if q.2.toInt ≠ 0 then X else (q.1, 0)) := by
  by_cases h : q.2.toInt = 0
  · rw [if_pos h, if_neg (fun z => z h)]
  · rw [if_neg h, if_pos h]
theorem Bd_assoc (q : ac_U × Int32) (F G : ac_U → ac_U × Int32) : Bd (Bd q F) G = Bd q (fun u => Bd (F u) G) := by
  unfold Bd
  by_cases h : q.2.toInt ≠ 0
  · rw [if_pos h, if_pos h]
  · rw [if_neg h, if_neg h, if_neg n0]
theorem Bd_ret (u : ac_U) (F : ac_U → ac_U × Int32) : Bd (u, 1) F = F u := if_pos n1
theorem Tw.bind {q r : ac_U × Int32} {P P' : ac_U → ac_U → Prop} {F G : ac_U → ac_U × Int32} (h : Tw q r P) (hs : ∀ u' w', P u' w' → Tw (F u') (G w') P') : Tw (Bd q F) (Bd r G) P' := by
  unfold Bd
  rcases h with ⟨h1, h2, h3⟩ | ⟨h1, h2, h3⟩
  · rw [h1, h2, if_pos n1, if_pos n1]; exact hs _ _ h3
  · rw [h1, h2, if_neg n0, if_neg n0]; exact Or.inr ⟨rfl, rfl, h3⟩
theorem Tw.mono {q r : ac_U × Int32} {P P' : ac_U → ac_U → Prop} (h : Tw q r P) (hs : ∀ u' w', P u' w' → P' u' w') : Tw q r P' := by
  rcases h with ⟨h1, h2, h3⟩ | h
  · exact Or.inl ⟨h1, h2, hs _ _ h3⟩
  · exact Or.inr h
theorem lineS_Bd (w : ac_U) : lineS w = Bd (f_X12_line_85 w) (fun w1 => f_X12_sign_85 w1 (59 : Int32)) := by
  unfold lineS Bd
  exact Bd_flip _ _
theorem www_Bd (u : ac_U) : f_X3_readWhoWhatWhere_22 u = Bd (f_X10_takeKnown_1_13 u (1 : Int32)) (fun u1 => Bd (f_X10_takeKnown_1_13 (pI u1 23 0 (u1.1 1 9)) (2 : Int32)) (fun u4 => Bd (f_X10_takeKnown_1_13 (pI u4 23 1 (u4.1 1 9)) (0 : Int32)) (fun u7 => (pI u7 23 2 (u7.1 1 9), 1)))) := rfl
theorem who_Bd (u : ac_U) : f_X3_readWhenHowOften_22 u = Bd (f_X10_takeNumber_1 u (0 : Int32) (23 : Int32)) (fun u1 => Bd (f_X10_takeNumber_1 (pI u1 23 3 (u1.1 1 8)) (u1.1 1 8) (23 : Int32)) (fun u3 => Bd (f_X10_takeNumber_1 (pI u3 23 4 (u3.1 1 8)) (1 : Int32) (3 : Int32)) (fun u5 => (pI u5 23 5 (u5.1 1 8), 1)))) := rfl
theorem prom_Bd (u : ac_U) (h : (u.1 13 6).toInt < 8) : f_X3_readPromise_22 u = Bd (f_X10_takeNew_1_13 u) (fun u3 => Bd (f_X3_readWhoWhatWhere_22 u3) (fun u5 => Bd (f_X3_readWhenHowOften_22 u5) (fun u7 => Bd (f_X3_readEachUnless_22 u7) (fun u9 => (f_X2_addPromise_13_23 u9 (u3.2 1 7), 1))))) := by
  simp only [f_X3_readPromise_22, K_X3_readPromise_22_66, vl, bd, Bd]
  rw [if_pos h]
  simp only [Bd_flip]
/-- the reference's last steps of a promise, with the sign -/
def tailR (w : ac_U) : ac_U × Int32 := f_X12_sign_85 (pI w 88 6 (w.1 88 6 + 1)) (59 : Int32)
def unlR (w : ac_U) (x1 : Int32) : ac_U × Int32 := if (f_X12_isWord_85 (pI w 88 (82 + x1).toNatClampNeg 0) (129117125440371 : Int64)).toInt = 0 then tailR (pI w 88 (82 + x1).toNatClampNeg 0) else Bd (f_X12_takesName_85 (f_X12_next_85 (pI w 88 (82 + x1).toNatClampNeg 0)) (38 : Int32) ((f_X12_next_85 (pI w 88 (82 + x1).toNatClampNeg 0)).1 88 5)) (fun w9 => tailR (pI w9 88 (82 + x1).toNatClampNeg (w9.1 85 18 + 1)))
def eachR (w : ac_U) (x1 z1 z2 : Int32) : ac_U × Int32 := if (f_X12_isWord_85 (pI w 88 z1.toNatClampNeg z2) (1700881256 : Int64)).toInt = 0 then unlR (pI w 88 z1.toNatClampNeg z2) x1 else unlR (f_X12_next_85 (pI w 88 z1.toNatClampNeg z2)) x1
theorem unl_Bd (w0 w : ac_U) (x1 : Int32) : Bd (K_X12_readPromise_85_245 w0 w x1) (fun w1 => f_X12_sign_85 w1 (59 : Int32)) = unlR w x1 := by
  simp only [K_X12_readPromise_85_245, K_X12_readPromise_85_301, vl, bd, unlR, tailR]
  by_cases h : (f_X12_isWord_85 (pI w 88 (82 + x1).toNatClampNeg 0) (129117125440371 : Int64)).toInt = 0
  · rw [if_pos h, if_pos h]
    exact Bd_ret _ _
  · rw [if_neg h, if_neg h]
    generalize f_X12_takesName_85 (f_X12_next_85 (pI w 88 (82 + x1).toNatClampNeg 0)) (38 : Int32) ((f_X12_next_85 (pI w 88 (82 + x1).toNatClampNeg 0)).1 88 5) = q
    by_cases h2 : q.2.toInt ≠ 0
    · rw [if_pos h2]
      unfold Bd
      rw [if_pos n1, if_pos h2]
    · rw [if_neg h2]
      unfold Bd
      rw [if_neg n0, if_neg h2]
theorem each_Bd (w0 w : ac_U) (x1 z1 z2 : Int32) : Bd (K_X12_readPromise_85_230 w0 w x1 z1 z2) (fun w1 => f_X12_sign_85 w1 (59 : Int32)) = eachR w x1 z1 z2 := by
  simp only [K_X12_readPromise_85_230, vl, eachR]
  by_cases h : (f_X12_isWord_85 (pI w 88 z1.toNatClampNeg z2) (1700881256 : Int64)).toInt = 0
  · rw [if_pos h, if_pos h]; exact unl_Bd _ _ _
  · rw [if_neg h, if_neg h]; exact unl_Bd _ _ _
