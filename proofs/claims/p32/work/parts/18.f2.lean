theorem qz1362 : Cond.classLink RX11 145 "java/util/NoSuchElementException" ∈ TB := tb_of (List.mem_append_right _ (List.mem_append_right _ (List.mem_append_right _ (List.mem_append_right _ (List.mem_append_right _ (List.mem_append_right _ (List.mem_append_left _ (List.mem_of_getElem? (i := 162) rfl)))))))) (by decide +kernel)
theorem qz23 : Cond.initialized "java/util/NoSuchElementException" ∈ TB := tb_of (List.mem_append_right _ (List.mem_append_left _ (List.mem_of_getElem? (i := 23) rfl))) (by decide +kernel)
/-! x.promise: it answers, or it throws; the law's promise() takes the throw. -/
abbrev nsE : String := "java/util/NoSuchElementException"
def rmP (d : Nat) : Room := { frames := d, cells := 1, slots := 6, locals := 100 * d }
def dcl (c : String) : Cond := .declares ⟨c, "<init>", "()V"⟩
def thW (U : State) : Prop := va_Nw (dcl "java/lang/RuntimeException") U ∧ va_Nw (dcl "java/lang/Exception") U ∧ va_Nw (dcl "java/lang/Throwable") U ∧ va_Nw (.castable nsE nsE) U
theorem thW.warm {s U : State} (hW : s.WarmedH U.vm) (h : thW s) : thW U := ⟨va_Nw.warmD hW h.1, va_Nw.warmD hW h.2.1, va_Nw.warmD hW h.2.2.1, va_Nw.warmC hW h.2.2.2⟩
theorem thW.same {s U : State} (hv : s.vm = U.vm) (h : thW s) : thW U := ⟨va_Nw.same rfl hv h.1, va_Nw.same rfl hv h.2.1, va_Nw.same rfl hv h.2.2.1, va_Nw.same rfl hv h.2.2.2⟩
def thS (A : Nat → Prop) (U : State) (H : Heap) : Prop := thW U ∧ vx_Zq Bundle.tN "UNASSIGNED_STACK" Bundle.steD A U H ∧ vx_Zq Bundle.tN "SUPPRESSED_SENTINEL" Bundle.listD A U H
theorem thS.to {A B : Nat → Prop} {s U : State} {H : Heap} (h : thS A s s.heap) (hW : s.WarmedH U.vm) (hq : ∀ a : Nat, a < s.heap.size → ¬ A a → H[a]? = s.heap[a]?) (hAB : ∀ q, B q → A q) : thS B U H :=
  ⟨thW.warm hW h.1, vx_Zq.moved hW.alike ((h.2.1.kept hq).narrow hAB), vx_Zq.moved hW.alike ((h.2.2.kept hq).narrow hAB)⟩
theorem thS.call {A : Nat → Prop} {U V : State} {H : Heap} (hv : V.vm = U.vm) (h : thS A U H) : thS A V H := by
  have hv2 : U.vm.Alike V.vm := by rw [hv]; exact Vm.Alike.refl U.vm
  exact ⟨thW.same hv.symm h.1, vx_Zq.moved hv2 h.2.1, vx_Zq.moved hv2 h.2.2⟩
def vxl : List Cond := vx_at0 RX11 147 nsE ["java/lang/RuntimeException", "java/lang/Exception"]
theorem pr_g : ∀ w ∈ vxl.filter goodWord, w ∈ TB := by decide +kernel
theorem pr_n : ∀ w ∈ vxl.filter (fun w => !goodWord w), w ∈ [dcl "java/lang/RuntimeException", dcl "java/lang/Exception", dcl "java/lang/Throwable", .castable nsE nsE] := by decide +kernel
theorem pr_at {args : Array Value} {s : State} (hts : ∀ w ∈ TB, w.before args s = true) (h : thW s) : ∀ w ∈ vxl, w.before args s = true :=
  vx_hat (fun w hw => hts w (pr_g w hw)) pr_n (vx_c (va_Nw.use rfl h.1) (vx_c (va_Nw.use rfl h.2.1) (vx_c (va_Nw.use rfl h.2.2.1) (vx_c (va_Nw.use rfl h.2.2.2) vx_n))))
theorem pr_ot : ∀ w ∈ Cond.classLink RX11 145 nsE :: Cond.initialized nsE :: vxl, vx_ot w = true := by decide +kernel
def xp_P (D : va_G) (cA : Nat → ClassId) (nF : Nat) (ad : Nat → Nat) (u : ac_U) (av : List Value) (sz : Nat) : Array Value → State → Prop := va_Pc av (fun U => U.heap.size = sz ∧ va_P D vwCl (ac_w ad cA (TT nF) u) U.heap ∧ va_K D vwCl (ac_ty cA) U ∧ va_D (fun _ => True) (ac_w ad cA (TT nF) u) ∧ thS (va_A (ac_w ad cA (TT nF) u) sz) U U.heap)
theorem xp_blind {D : va_G} {cA : Nat → ClassId} {nF : Nat} {ad : Nat → Nat} {u : ac_U} {av : List Value} {sz : Nat} : FrameBlind (xp_P D cA nF ad u av sz) := by
  intro a U g mk q
  obtain ⟨q0, q1, qP, qK, qD, qT⟩ := q
  exact ⟨q0, q1, qP, va_K.moved (u := U) (U := U.calling g mk a) (Vm.Alike.refl U.vm) qK, qD, thS.call (U := U) (V := U.calling g mk a) rfl qT⟩
abbrev xp_X (D : va_G) (cA : Nat → ClassId) (nF : Nat) (ad : Nat → Nat) (u : ac_U) (A : Nat → Prop) : String → State → State → Prop := vx_X (fun v : ac_U => v = u) (fun E v t => E = nsE ∧ ac_B D vwCl (ac_ty cA) ad cA (TT nF) A v t) A
set_option maxHeartbeats 4000000 in
theorem xp_M (l : Launch) (hfl : l.stackTraces = false) (dC : Nat → ClassId) (dI : Nat → Nat → Nat) (cA : Nat → ClassId) (nF : Nat) (ad : Nat → Nat) (u0 : ac_U) (p0 p1 : Int32) (hR : ac_R rg u0) (sz : Nat) : vx_Met l yX11_promise (.code yX11_promise cX11_promise 3 (some .int) :: TB) (rmP 9) (xp_P (dC, dI) cA nF ad u0 [.ref (ad 0), .int p0, .int p1] sz) (va_Qi (fun (_ : Int32) (u : ac_U) => u = u0) (ac_B (dC, dI) vwCl (ac_ty cA) ad cA (TT nF) (va_A (ac_w ad cA (TT nF) u0) sz)) (va_A (ac_w ad cA (TT nF) u0) sz)) (xp_X (dC, dI) cA nF ad u0 (va_A (ac_w ad cA (TT nF) u0) sz)) 1 6 (va_A (ac_w ad cA (TT nF) u0) sz) := by
  refine vx_ofW (cc := cX11_promise) (maxL := 3) (ret := some .int) (by decide) rfl ?_
  intro p e s m args below meth c s₁ B hml htab hv
  obtain ⟨rfl, hsz, hP, hK, hD0, hT⟩ := hv
  subst hsz
  have hl := lv_entry ([.ref (ad 0), .int p0, .int p1]) (n := 3) (Nat.le_of_ble_eq_true rfl)
  rw [lg_entry_eq]
  generalize (lg_sl ([.ref (ad 0), .int p0, .int p1]) ++ List.replicate (3 - (lg_sl ([.ref (ad 0), .int p0, .int p1])).length) Slot.unset).toArray = ls at hl ⊢
  have hl : lv_has ls 3 [(0, .ref (ad 0)), (1, .int p0), (2, .int p1)] := hl
  have hts := atoms_spec (ws := (.code yX11_promise cX11_promise 3 (some .int) :: TB)) B.pre
  have F : ac_X p s m [.ref (ad 0), .int p0, .int p1].toArray c cX11_promise RX11 TB (dC, dI) vwCl (ac_ty cA) := ⟨B.exec, B.bytes, fun w h => hts w (List.mem_cons_of_mem _ h), findClass_of_methodNamed B.named, hK⟩
  have hr := B.returns
  have hlocks := B.notSynchronized
  have hA : ∀ q : Nat, s.heap.size ≤ q → va_A (ac_w ad cA (TT nF) u0) s.heap.size q := fun q h => Or.inr h
  have hD := hD0.self (sz := s.heap.size)
  have hS : va_S (va_A (ac_w ad cA (TT nF) u0) s.heap.size) s.heap s.heap [] := va_S.rf
  have RT : ∀ (H : Heap) (locs : List Loc) (ls : Array Slot) (pc : Nat) (r : Int32), decode cX11_promise pc = .ok (.ireturn, 1) → va_P (dC, dI) vwCl (ac_w ad cA (TT nF) u0) H → va_D (va_A (ac_w ad cA (TT nF) u0) s.heap.size) (ac_w ad cA (TT nF) u0) → va_S (va_A (ac_w ad cA (TT nF) u0) s.heap.size) s.heap H locs → W p l e (rmP 9) s m [.ref (ad 0), .int p0, .int p1].toArray below meth c H locs 0 0 (vx_MQ below (va_Qi (fun (_ : Int32) (u : ac_U) => u = u0) (ac_B (dC, dI) vwCl (ac_ty cA) ad cA (TT nF) (va_A (ac_w ad cA (TT nF) u0) s.heap.size)) (va_A (ac_w ad cA (TT nF) u0) s.heap.size)) (xp_X (dC, dI) cA nF ad u0 (va_A (ac_w ad cA (TT nF) u0) s.heap.size)) [.ref (ad 0), .int p0, .int p1].toArray s 1 6 (va_A (ac_w ad cA (TT nF) u0) s.heap.size)) (F0 m pc ls [.int r]) := by
    intro H locs ls pc r hd hP hD hS
    exact vx_ret (W.widen (k := 1) (n := 6) (by decide) (by decide) (a_reti F hr hlocks hP hD hS hd rfl))
  have TH : ∀ (H : Heap) (locs : List Loc) (ls : Array Slot), ls.size = 3 → va_P (dC, dI) vwCl (ac_w ad cA (TT nF) u0) H → va_D (va_A (ac_w ad cA (TT nF) u0) s.heap.size) (ac_w ad cA (TT nF) u0) → va_S (va_A (ac_w ad cA (TT nF) u0) s.heap.size) s.heap H locs → W p l e (rmP 9) s m [.ref (ad 0), .int p0, .int p1].toArray below meth c H locs 0 0 (vx_MQ below (va_Qi (fun (_ : Int32) (u : ac_U) => u = u0) (ac_B (dC, dI) vwCl (ac_ty cA) ad cA (TT nF) (va_A (ac_w ad cA (TT nF) u0) s.heap.size)) (va_A (ac_w ad cA (TT nF) u0) s.heap.size)) (xp_X (dC, dI) cA nF ad u0 (va_A (ac_w ad cA (TT nF) u0) s.heap.size)) [.ref (ad 0), .int p0, .int p1].toArray s 1 6 (va_A (ac_w ad cA (TT nF) u0) s.heap.size)) (F0 m 21 ls []) := by
    intro H locs ls hls hP hD hS
    refine vx_throw0 F.1 F.2.1 hfl (own := RX11) (cls := nsE) (names := ["java/lang/RuntimeException", "java/lang/Exception"]) (ik := 145) (ic := 147) (A := va_A (ac_w ad cA (TT nF) u0) s.heap.size) F.2.2.2.1 (by decide +kernel) (by decide +kernel) (F.2.2.1 _ qz1362) (F.2.2.1 _ qz23) (pr_at F.2.2.1 hT.1) pr_ot hT.2.1 hT.2.2 hS (hls.trans hml.symm) dX11_promise_21 dX11_promise_24 dX11_promise_25 dX11_promise_28 (fun x hx => (htab x hx).elim) (by decide) (by decide) (by decide) (by decide) hlocks (fun t hvm h1 h2 => ?_) hS.2.2 (by decide) (by decide)
    refine ⟨u0, rfl, ⟨rfl, hP.kept (fun k q hk => h2 q.1 (hP k q hk).lt), va_K.moved hvm F.2.2.2.2, hD⟩, ⟨Nat.le_trans hS.1 h1, fun q h3 h4 => ?_⟩⟩
    rw [h2 q (Nat.lt_of_lt_of_le h3 hS.1)]
    exact hS.2.1 q h3 h4
  refine lv_aload_n F.1 F.2.1 dX11_promise_0 rfl (lv_at hl 0 rfl) ?_
  refine a_getr F inX11 hP 0 1 tc_0 rfl rfl (by decide) q504 (fun _ h9 => h9) dX11_promise_1 ?_
  refine lv_iload_n F.1 F.2.1 dX11_promise_4 rfl (lv_at hl 1 rfl) ?_
  refine a_Vi F hml hl.1 hA hP hD hS (As := [.int p0]) (c_X2_isPromise_4 l dC dI ad cA nF _ p0 hR) (cs_RX11_141 (d := 1) F.2.2.1 (by decide)) tc_4 rfl rfl rfl rfl (Nat.le_of_ble_eq_true rfl) dX11_promise_5 ⟨Nat.zero_le _, Nat.zero_le _⟩ (fun r1 uN1 H locs hq hP hD hS => ?_)
  obtain ⟨hu1, gr1, xr1⟩ := hq
  rw [hu1] at hP hD
  refine z_eq F 21 dX11_promise_8 (by decide) rfl (fun c3 => ?_) (fun c3 => ?_)
  · exact TH _ _ _ hl.1 hP hD hS
  have x1 := xr1 c3
  refine lv_iload_n F.1 F.2.1 dX11_promise_11 rfl (lv_at hl 2 rfl) ?_
  refine z_lt F 21 dX11_promise_12 (by decide) rfl (fun c4 => ?_) (fun c4 => ?_)
  · exact TH _ _ _ hl.1 hP hD hS
  refine lv_iload_n F.1 F.2.1 dX11_promise_15 rfl (lv_at hl 2 rfl) ?_
  refine a_bp F (9 : Int32) dX11_promise_16 (by decide) ?_
  refine b_le F 29 dX11_promise_18 (by decide) rfl ic_9 (fun c5 => ?_) (fun c5 => ?_)
  · refine lv_iload_n F.1 F.2.1 dX11_promise_29 rfl (lv_at hl 2 rfl) ?_
    refine a_bp F (8 : Int32) dX11_promise_30 (by decide) ?_
    refine b_ge F 45 dX11_promise_32 (by decide) rfl ic_8 (fun c6 => ?_) (fun c6 => ?_)
    · refine lv_iload_n F.1 F.2.1 dX11_promise_45 rfl (lv_at hl 2 rfl) ?_
      refine a_bp F (8 : Int32) dX11_promise_46 (by decide) ?_
      refine b_ne F 64 dX11_promise_48 (by decide) rfl ic_8 (fun c7 => ?_) (fun c7 => ?_)
      · refine lv_aload_n F.1 F.2.1 dX11_promise_64 rfl (lv_at hl 0 rfl) ?_
        refine a_getr F inX11 hP 0 4 tc_0 rfl rfl (by decide) q507 (fun _ h9 => h9) dX11_promise_65 ?_
        refine lv_iload_n F.1 F.2.1 dX11_promise_68 rfl (lv_at hl 1 rfl) ?_
        refine a_Vi F hml hl.1 hA hP hD hS (As := [.int p0]) (c_X6_isBound_24 l dC dI ad cA nF _ p0 hR (by omega)) (cs_RX11_156 (d := 2) F.2.2.1 (by decide)) tc_24 rfl rfl rfl rfl (Nat.le_of_ble_eq_true rfl) dX11_promise_69 ⟨Nat.zero_le _, Nat.zero_le _⟩ (fun r2 uN2 H locs hq hP hD hS => ?_)
        obtain ⟨hu2, gr2⟩ := hq
        rw [hu2] at hP hD
        refine z_eq F 79 dX11_promise_72 (by decide) rfl (fun c8 => ?_) (fun c8 => ?_)
        · refine a_ic F (0 : Int32) dX11_promise_79 (by decide) ?_
          exact RT _ _ _ 80 _ dX11_promise_80 hP hD hS
        · refine a_ic F (1 : Int32) dX11_promise_75 (by decide) ?_
          refine lv_goto (tgt := 80) F.1 F.2.1 dX11_promise_76 (by decide) ?_
          exact RT _ _ _ 80 _ dX11_promise_80 hP hD hS
      · refine lv_aload_n F.1 F.2.1 dX11_promise_51 rfl (lv_at hl 0 rfl) ?_
        refine a_getr F inX11 hP 0 4 tc_0 rfl rfl (by decide) q507 (fun _ h9 => h9) dX11_promise_52 ?_
        refine a_getr F inX6 hP 24 1 tc_24 rfl rfl (by decide) q276 (fun _ h9 => h9) dX11_promise_55 ?_
        refine a_bp F (15 : Int32) dX11_promise_58 (by decide) ?_
        refine lv_iload_n F.1 F.2.1 dX11_promise_60 rfl (lv_at hl 1 rfl) ?_
        refine a_iadd F dX11_promise_61 ic_15 rfl (by omega) (fun v1 hv1 => ?_)
        refine a_iald F hP 25 tc_25 rfl (i_in hv1 (by omega)) dX11_promise_62 (fun v4 ev4 => ?_)
        exact RT _ _ _ 63 _ dX11_promise_63 hP hD hS
    · refine lv_aload_n F.1 F.2.1 dX11_promise_35 rfl (lv_at hl 0 rfl) ?_
      refine a_getr F inX11 hP 0 1 tc_0 rfl rfl (by decide) q504 (fun _ h9 => h9) dX11_promise_36 ?_
      refine lv_iload_n F.1 F.2.1 dX11_promise_39 rfl (lv_at hl 1 rfl) ?_
      refine lv_iload_n F.1 F.2.1 dX11_promise_40 rfl (lv_at hl 2 rfl) ?_
      refine a_Vi F hml hl.1 hA hP hD hS (As := [.int p0, .int p1]) (c_X2_term_4 l dC dI ad cA nF _ p0 p1 hR (by omega) (by omega)) (cs_RX11_148 (d := 1) F.2.2.1 (by decide)) tc_4 rfl rfl rfl rfl (Nat.le_of_ble_eq_true rfl) dX11_promise_41 ⟨Nat.zero_le _, Nat.zero_le _⟩ (fun r2 uN2 H locs hq hP hD hS => ?_)
      obtain ⟨hu2, gr2⟩ := hq
      rw [hu2] at hP hD
      exact RT _ _ _ 44 _ dX11_promise_44 hP hD hS
  · exact TH _ _ _ hl.1 hP hD hS
