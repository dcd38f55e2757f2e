theorem qz39 : Cond.methodLink RX10 3 objectInit ∈ TB := tb_of (List.mem_append_right _ (List.mem_append_left _ (List.mem_of_getElem? (i := 39) rfl))) (by decide +kernel)
theorem qz93 : Cond.fieldLink RX10 9 "WellPromises$Tape" "bytes" "[B" ∈ TB := tb_of (List.mem_append_right _ (List.mem_append_left _ (List.mem_of_getElem? (i := 93) rfl))) (by decide +kernel)
theorem qz94 : Cond.fieldLink RX10 15 "WellPromises$Tape" "toldWords" "[J" ∈ TB := tb_of (List.mem_append_right _ (List.mem_append_left _ (List.mem_of_getElem? (i := 94) rfl))) (by decide +kernel)
theorem qz95 : Cond.fieldLink RX10 19 "WellPromises$Tape" "length" "I" ∈ TB := tb_of (List.mem_append_right _ (List.mem_append_left _ (List.mem_of_getElem? (i := 95) rfl))) (by decide +kernel)
theorem qz97 : Cond.fieldLink RX10 23 "WellPromises$Tape" "most" "I" ∈ TB := tb_of (List.mem_append_right _ (List.mem_append_left _ (List.mem_of_getElem? (i := 97) rfl))) (by decide +kernel)
theorem qz98 : Cond.fieldLink RX10 26 "WellPromises$Tape" "at" "I" ∈ TB := tb_of (List.mem_append_right _ (List.mem_append_left _ (List.mem_of_getElem? (i := 98) rfl))) (by decide +kernel)
theorem qz99 : Cond.fieldLink RX10 29 "WellPromises$Tape" "begin" "I" ∈ TB := tb_of (List.mem_append_right _ (List.mem_append_left _ (List.mem_of_getElem? (i := 99) rfl))) (by decide +kernel)
theorem qz100 : Cond.fieldLink RX10 32 "WellPromises$Tape" "kind" "I" ∈ TB := tb_of (List.mem_append_right _ (List.mem_append_left _ (List.mem_of_getElem? (i := 100) rfl))) (by decide +kernel)
theorem qz104 : Cond.fieldLink RX10 35 "WellPromises$Tape" "word" "J" ∈ TB := tb_of (List.mem_append_right _ (List.mem_append_left _ (List.mem_of_getElem? (i := 104) rfl))) (by decide +kernel)
theorem qz106 : Cond.fieldLink RX10 39 "WellPromises$Tape" "number" "I" ∈ TB := tb_of (List.mem_append_right _ (List.mem_append_left _ (List.mem_of_getElem? (i := 106) rfl))) (by decide +kernel)
theorem qz110 : Cond.fieldLink RX10 42 "WellPromises$Tape" "found" "I" ∈ TB := tb_of (List.mem_append_right _ (List.mem_append_left _ (List.mem_of_getElem? (i := 110) rfl))) (by decide +kernel)
theorem qz114 : Cond.fieldLink RX10 45 "WellPromises$Tape" "fault" "I" ∈ TB := tb_of (List.mem_append_right _ (List.mem_append_left _ (List.mem_of_getElem? (i := 114) rfl))) (by decide +kernel)
theorem qz116 : Cond.fieldLink RX10 48 "WellPromises$Tape" "faultAt" "I" ∈ TB := tb_of (List.mem_append_right _ (List.mem_append_left _ (List.mem_of_getElem? (i := 116) rfl))) (by decide +kernel)
theorem qz44 : Cond.code yJ0_length_8abf5 cJ0_length_8abf5 1 (some .int) ∈ TB := tb_of (List.mem_append_right _ (List.mem_append_left _ (List.mem_of_getElem? (i := 44) rfl))) (by decide +kernel)
theorem qz41 : Cond.methodLink RX10 53 yJ0_length_8abf5 ∈ TB := tb_of (List.mem_append_right _ (List.mem_append_left _ (List.mem_of_getElem? (i := 41) rfl))) (by decide +kernel)
theorem qz42 : Cond.instanceMethod yJ0_length_8abf5 ∈ TB := tb_of (List.mem_append_right _ (List.mem_append_left _ (List.mem_of_getElem? (i := 42) rfl))) (by decide +kernel)
theorem qz43 : Cond.selects RJ0 yJ0_length_8abf5 yJ0_length_8abf5 ∈ TB := tb_of (List.mem_append_right _ (List.mem_append_left _ (List.mem_of_getElem? (i := 43) rfl))) (by decide +kernel)
theorem qz54 : Cond.code yJ0_charAt_5068e cJ0_charAt_5068e 2 (some .char) ∈ TB := tb_of (List.mem_append_right _ (List.mem_append_left _ (List.mem_of_getElem? (i := 54) rfl))) (by decide +kernel)
theorem qz51 : Cond.methodLink RX10 58 yJ0_charAt_5068e ∈ TB := tb_of (List.mem_append_right _ (List.mem_append_left _ (List.mem_of_getElem? (i := 51) rfl))) (by decide +kernel)
theorem qz52 : Cond.instanceMethod yJ0_charAt_5068e ∈ TB := tb_of (List.mem_append_right _ (List.mem_append_left _ (List.mem_of_getElem? (i := 52) rfl))) (by decide +kernel)
theorem qz53 : Cond.selects RJ0 yJ0_charAt_5068e yJ0_charAt_5068e ∈ TB := tb_of (List.mem_append_right _ (List.mem_append_left _ (List.mem_of_getElem? (i := 53) rfl))) (by decide +kernel)
theorem qz91 : Cond.code yX10_withLetter cX10_withLetter 3 (some .long) ∈ TB := tb_of (List.mem_append_right _ (List.mem_append_left _ (List.mem_of_getElem? (i := 91) rfl))) (by decide +kernel)
theorem qz2 : Cond.initialized RX10 ∈ TB := tb_of (List.mem_append_right _ (List.mem_append_left _ (List.mem_of_getElem? (i := 2) rfl))) (by decide +kernel)
theorem qz89 : Cond.methodLink RX10 62 yX10_withLetter ∈ TB := tb_of (List.mem_append_right _ (List.mem_append_left _ (List.mem_of_getElem? (i := 89) rfl))) (by decide +kernel)
theorem qz90 : Cond.static yX10_withLetter ∈ TB := tb_of (List.mem_append_right _ (List.mem_append_left _ (List.mem_of_getElem? (i := 90) rfl))) (by decide +kernel)
theorem qz92 : Cond.constantLong RX10 66 32 ∈ TB := tb_of (List.mem_append_right _ (List.mem_append_left _ (List.mem_of_getElem? (i := 92) rfl))) (by decide +kernel)
def tapeB : List Int32 := [104, 111, 117, 114, 115, 32, 112, 108, 97, 99, 101, 32, 119, 97, 121, 32, 102, 114, 111, 103, 32, 112, 101, 114, 115, 111, 110, 32, 100, 101, 101, 100, 32, 112, 114, 111, 109, 105, 115, 101, 32, 101, 97, 99, 104, 32, 117, 110, 108, 101, 115, 115, 32, 118, 111, 119, 32, 103, 111, 101, 115, 32, 100, 111, 101, 115, 32, 115, 97, 121, 115, 32, 104, 111, 117, 114, 32, 111, 114, 32, 97, 110, 100, 32, 110, 111, 116, 32, 98, 111, 117, 110, 100, 32, 111, 112, 101, 110, 32, 107, 101, 112, 116, 32, 111, 102, 102, 32, 98, 114, 111, 107, 101, 110, 32, 111, 102, 32, 102, 114, 111, 109, 32, 116, 105, 108, 108, 32, 116, 105, 109, 101, 115, 32, 110, 117, 109, 98, 101, 114, 32]
def tpK (i : Nat) : Nat := ([0, 0, 0, 0, 0, 0, 1, 1, 1, 1, 1, 1, 2, 2, 2, 2, 3, 3, 3, 3, 3, 4, 4, 4, 4, 4, 4, 4, 5, 5, 5, 5, 5, 6, 6, 6, 6, 6, 6, 6, 6, 7, 7, 7, 7, 7, 8, 8, 8, 8, 8, 8, 8, 9, 9, 9, 9, 10, 10, 10, 10, 10, 11, 11, 11, 11, 11, 12, 12, 12, 12, 12, 13, 13, 13, 13, 13, 14, 14, 14, 15, 15, 15, 15, 16, 16, 16, 16, 17, 17, 17, 17, 17, 17, 18, 18, 18, 18, 18, 19, 19, 19, 19, 19, 20, 20, 20, 20, 21, 21, 21, 21, 21, 21, 21, 22, 22, 22, 23, 23, 23, 23, 23, 24, 24, 24, 24, 24, 25, 25, 25, 25, 25, 25, 26, 26, 26, 26, 26, 26, 26, 27] : List Nat).getD i 0
def tpW (i : Nat) : Nat := ([0, 8, 271, 8693, 278194, 8902227, 0, 16, 524, 16769, 536611, 17171557, 0, 23, 737, 23609, 0, 6, 210, 6735, 215527, 0, 16, 517, 16562, 530003, 16960111, 542723566, 0, 4, 133, 4261, 136356, 0, 16, 530, 16975, 543213, 17382825, 556250419, 17800013413, 0, 5, 161, 5155, 164968, 0, 21, 686, 21964, 702853, 22491315, 719722099, 0, 22, 719, 23031, 0, 7, 239, 7653, 244915, 0, 4, 143, 4581, 146611, 0, 19, 609, 19513, 624435, 0, 8, 271, 8693, 278194, 0, 15, 498, 0, 1, 46, 1476, 0, 14, 463, 14836, 0, 2, 79, 2549, 81582, 2610628, 0, 15, 496, 15877, 508078, 0, 11, 357, 11440, 366100, 0, 15, 486, 15558, 0, 2, 82, 2639, 84459, 2702693, 86486190, 0, 15, 486, 0, 6, 210, 6735, 215533, 0, 20, 649, 20780, 664972, 0, 20, 649, 20781, 664997, 21279923, 0, 14, 469, 15021, 480674, 15381573, 492210354, 0] : List Nat).getD i 0
def gK (k : Nat) : Nat → Int64 := fun j => if j < k then Int64.ofNat (toldN j) else 0
/-- where the loop over the letters stands -/
def tpI (i : Nat) (k : Int32) (w : Int64) (g : Nat → Int64) : Prop := k.toInt = tpK i ∧ w = Int64.ofNat (tpW i) ∧ g = gK (tpK i)
theorem tp_all : ∀ i, i < 141 → ((tapeB.getD i 0).toInt = 32 → tpW i = toldN (tpK i) ∧ tpK (i + 1) = tpK i + 1 ∧ tpW (i + 1) = 0) ∧ ((tapeB.getD i 0).toInt ≠ 32 → (97 ≤ (tapeB.getD i 0).toInt ∧ (tapeB.getD i 0).toInt ≤ 122) ∧ tpK (i + 1) = tpK i ∧ tpW (i + 1) = tpW i * 32 + ((tapeB.getD i 0).toInt - 96).toNat) := by decide +kernel
theorem tp_26 : ∀ i, i < 141 → tpK i ≤ 26 := by decide +kernel
theorem tp_ch : ∀ i, i < 141 → jch (tapeB.getD i 0) = tapeB.getD i 0 := by decide +kernel
theorem tpz_0 : tpI (0 : Int32).toNatClampNeg (0 : Int32) (0 : Int64) (fun _ => 0) := ⟨by decide, by decide, by funext j; rfl⟩
theorem tp_end {i : Nat} {k : Int32} {w : Int64} {g : Nat → Int64} (h : tpI i k w g) (hi : i = 141) : g = ctA := by
  subst hi
  rw [h.2.2]
  funext j
  show (if j < 27 then Int64.ofNat (toldN j) else 0) = Int64.ofNat (toldN j)
  by_cases q : j < 27
  · rw [if_pos q]
  · rw [if_neg q]
    unfold toldN
    rw [List.getD_eq_getElem?_getD, List.getElem?_eq_none (by simpa using q)]
    rfl
theorem tp_l {w : Nat} {r : Int32} (h : 97 ≤ r.toInt ∧ r.toInt ≤ 122) : Int64.ofNat w * 32 + (r - 97 + 1).toInt64 = Int64.ofNat (w * 32 + (r.toInt - 96).toNat) := by
  have h1 : (r - 97).toInt = r.toInt - 97 := i_sub rfl (by decide) (by omega)
  have h2 : (r - 97 + 1).toInt = r.toInt - 97 + 1 := i_add h1 (by decide) (by omega)
  have h3 : (r - 97 + 1).toInt64 = Int64.ofNat (r.toInt - 96).toNat := by
    apply Int64.toInt_inj.mp
    rw [Int64.toInt_ofNat_of_lt (by omega), Int32.toInt_toInt64]
    omega
  rw [h3, Int64.ofNat_add, Int64.ofNat_mul]
  rfl
theorem tp_let {i : Nat} {k r : Int32} {w w2 : Int64} {g : Nat → Int64} (h : tpI i k w g) (hi : i < 141) (hr : r = tapeB.getD i 0) (hc : r.toInt ≠ 32) (h2 : w2 = w * 32 + (r - 97 + 1).toInt64) : tpI (i + 1) k w2 g := by
  obtain ⟨a, b, c⟩ := (tp_all i hi).2 (by rw [← hr]; exact hc)
  refine ⟨by rw [b]; exact h.1, ?_, by rw [b]; exact h.2.2⟩
  rw [h2, h.2.1, c, ← hr]
  rw [← hr] at a
  exact tp_l a
theorem tp_spc {i : Nat} {k r z : Int32} {w : Int64} {g : Nat → Int64} (h : tpI i k w g) (hi : i < 141) (hr : r = tapeB.getD i 0) (hc : r.toInt = 32) (hz : z.toInt = k.toInt + 1) : tpI (i + 1) z (0 : Int64) (vp_updL g k.toNatClampNeg w) := by
  obtain ⟨a, b, c⟩ := (tp_all i hi).1 (by rw [← hr]; exact hc)
  have hk := i_cl (x := k) (by rw [h.1]; omega)
  have hkk : k.toNatClampNeg = tpK i := by have := h.1; omega
  refine ⟨by rw [b, hz, h.1]; omega, by rw [c]; rfl, ?_⟩
  rw [b, h.2.2, h.2.1, hkk, a]
  funext j
  show (if j = tpK i then Int64.ofNat (toldN (tpK i)) else (if j < tpK i then Int64.ofNat (toldN j) else 0)) = (if j < tpK i + 1 then Int64.ofNat (toldN j) else 0)
  by_cases q : j = tpK i
  · rw [if_pos q, if_pos (by omega), q]
  · rw [if_neg q]
    by_cases q2 : j < tpK i
    · rw [if_pos q2, if_pos (by omega)]
    · rw [if_neg q2, if_neg (by omega)]
def strX (A : Nat → Prop) (U : State) : Prop := ∃ (a v : Nat) (f : Nat → Int32), (∀ j, f j = tapeB.getD j 0) ∧ stD a v f A U U.heap
theorem strX_b : ct_KB strX := fun A U V h1 h2 ⟨a, v, f, qf, q1, q2, q3, q4, q5, q6, q7⟩ => by
  have hv : U.vm.Alike V.vm := by rw [h1]; exact Vm.Alike.refl U.vm
  refine ⟨a, v, f, qf, vk_R.same h1 q1, ?_⟩
  rw [h2]
  exact ⟨va_O.moved hv q2, va_OF.moved hv q3, va_OF.moved hv q4, va_T.moved hv q5, va_Z.moved hv q6, va_Zq.moved hv q7⟩
def jl_M (l : Launch) (y : MethodName) (ws : List Cond) (d : Nat) (av : List Value) (post : Int64 → Prop) : Prop :=
  ∀ sz : Nat, Met l y ws (ct_rm d 0 0) (va_Pc av (fun U => U.heap.size = sz)) (va_Ql (fun r (_ : Unit) => post r) (fun _ _ => True) (fun q => sz ≤ q)) 0 0 (fun q => sz ≤ q)
theorem jl_callS {p : Program} {l : Launch} {e : Env} {R : Room} {s : State} {m : MethodId} {args : Array Value} {below : List Frame} {meth : Method} {c : Code} {H : Heap} {locs : List Loc} {cells slots : Nat} {Q : State → Prop} {cc : ByteArray} {pc : Nat} {ls : Array Slot} {rest st0 As : List Value} {D : va_G} {cl : List vw_C} {tys : List (ClassId × FieldType)} {A : Nat → Prop} {own : String} {index nL maxL n d : Nat} {ws : List Cond} {y : MethodName} {bytes : ByteArray} {ret : Option FieldType} (F : ac_X p s m args c cc own TB D cl tys) (hml : c.maxLocals = nL) (hsz : ls.size = nL) (hA : ∀ q : Nat, s.heap.size ≤ q → A q) (hS : va_S A s.heap H locs)
    {post : Int64 → Prop} (hM : jl_M l y ws d As post) (cw : CallB R s args own index y bytes maxL ret ws (ct_rm d 0 0) 0 0 n ∧ (Cond.static y).before args s = true) (hn : As.length = n) (hst : st0 = As.reverse ++ rest) (hW : (rest.map fun v => v.category).sum ≤ 8) (hdg : decode cc pc = .ok (.invokestatic index, 3)) (hf : cells ≤ R.cells ∧ slots ≤ R.slots)
    (kk : ∀ (r : Int64) (H1 : Heap) (locs1 : List Loc), post r → (∀ q : Nat, q < H.size → H1[q]? = H[q]?) → va_S A s.heap H1 locs1 → W p l e R s m args below meth c H1 locs1 cells slots Q (F0 m (pc + 3) ls (.long r :: rest))) : W p l e R s m args below meth c H locs cells slots Q (F0 m pc ls st0) := by
  subst hst
  have hin : ∀ q : Nat, H.size ≤ q → A q := fun q h => hA q (Nat.le_trans hS.1 h)
  have hbl : FrameBlind (va_Pc As (fun U : State => U.heap.size = H.size)) := fun a U g mk q => q
  refine va_calll (va_runS (As := As) (rest := rest) (n := n) ⟨F.1, F.2.1, hml, F.2.2.2.1, F.2.2.1⟩ (hM H.size) cw ⟨hbl, fun U hU hW => ⟨rfl, congrArg Array.size hU⟩⟩ rfl hn hsz rfl (lv_room hW) hdg hf) hS (fun q _ h => hin q h) hin (fun r u' t H1 locs1 ht _ hw _ _ hk hS => ?_)
  exact kk r H1 locs1 hw (fun q hq => hk q hq (by omega)) hS
theorem j_withLetter (l : Launch) (w : Int64) (r : Int32) : jl_M l yX10_withLetter (.code yX10_withLetter cX10_withLetter 3 (some .long) :: TB) 1 [.long w, .int r] (fun x => x = w * 32 + (r - 97 + 1).toInt64) := by
  intro sz
  refine Met.ofW (cc := cX10_withLetter) (maxL := 3) (ret := some .long) (by decide) rfl ?_
  intro p e s m args below meth c s₁ B hml hv
  obtain ⟨rfl, hsz⟩ := hv
  subst hsz
  have hl := lv_entry ([.long w, .int r]) (n := 3) (Nat.le_of_ble_eq_true rfl)
  rw [lg_entry_eq]
  generalize (lg_sl ([.long w, .int r]) ++ List.replicate (3 - (lg_sl ([.long w, .int r])).length) Slot.unset).toArray = ls at hl ⊢
  have hl : lv_has ls 3 [(0, .long w), (2, .int r)] := hl
  have hx := B.exec
  have hb := B.bytes
  have hts := atoms_spec (ws := (.code yX10_withLetter cX10_withLetter 3 (some .long) :: TB)) B.pre
  have hown : s.vm.findClass RX10 = some m.cls := findClass_of_methodNamed B.named
  have hS : va_S (fun q => s.heap.size ≤ q) s.heap s.heap [] := va_S.rf
  refine lv_lload_n hx hb dX10_withLetter_0 rfl (lv_at hl 0 rfl) ?_
  refine lv_ldc2 (v := (32 : Int64)) hx hb hown (hts _ (List.mem_cons_of_mem _ qz92)) dX10_withLetter_1 ?_
  refine lv_lmul hx hb dX10_withLetter_4 ?_
  refine lv_iload_n hx hb dX10_withLetter_5 rfl (lv_at hl 1 rfl) ?_
  refine lv_bipush (v := (97 : Int32)) hx hb dX10_withLetter_6 (by decide) ?_
  refine lv_isub hx hb dX10_withLetter_8 ?_
  refine lv_iconst (v := (1 : Int32)) hx hb dX10_withLetter_9 (by decide) ?_
  refine lv_iadd hx hb dX10_withLetter_10 ?_
  refine lv_i2l hx hb dX10_withLetter_11 rfl ?_
  refine lv_ladd hx hb dX10_withLetter_12 ?_
  exact W.lret hx hb B.returns (fun t ht hW => ⟨⟨_, (), rfl, rfl, trivial⟩, hS.F ht⟩) hS.2.2 dX10_withLetter_13 B.notSynchronized
def w_X10_init (cA : Nat → ClassId) (a : Nat) (q : Nat → Nat) (f : Nat → Int64) : va_W := (a, .inr (10, [.ref (q 0), .ref (q 1), .int (0 : Int32), .int (0 : Int32), .int (0 : Int32), .int (0 : Int32), .int (0 : Int32), .long (0 : Int64), .int (0 : Int32), .int (0 : Int32), .int (0 : Int32), .int (0 : Int32)])) :: ([(q 0, aB cA 940)] ++ [(q 1, .inl (cA 2, 27, .inr (.inl ctA)))])
set_option maxHeartbeats 1000000 in
set_option maxRecDepth 100000 in
theorem t_X10_init (l : Launch) (dC : Nat → ClassId) (dI : Nat → Nat → Nat) (cA : Nat → ClassId) (a : Nat) : ct_M l yX10_init (.code yX10_init cX10_init 6 none :: TB) 6 2 967 (dC, dI) cA strX [.ref a] [(a, .inr (10, [.null, .null, .int 0, .int 0, .int 0, .int 0, .int 0, .long 0, .int 0, .int 0, .int 0, .int 0]))] (fun σ : (Nat → Nat) × (Nat → Int64) => w_X10_init cA a σ.1 σ.2) := by
  refine ct_M.of (cc := cX10_init) (maxL := 6) (by decide) rfl (Nat.le_of_ble_eq_true rfl) ?_
  intro p e s m below meth c A ls F hml hr hlocks hin hk hA hP hD hS hl
  have F : ac_X p s m [.ref a].toArray c cX10_init RX10 TB (dC, dI) vwCl (ac_ty cA) := ⟨F.1, F.2.1, fun w h => F.2.2.1 w (List.mem_cons_of_mem _ h), F.2.2.2.1, F.2.2.2.2⟩
  have hl : lv_has ls 6 [(0, .ref a)] := hl
  refine lv_aload_n F.1 F.2.1 dX10_init_0 rfl (lv_at hl 0 rfl) ?_
  refine ct_obj F hml hl.1 qz39 qz32 qz33 dX10_init_1 (Nat.le_of_ble_eq_true rfl) (Nat.le_of_ble_eq_true rfl) ?_
  refine lv_aload_n F.1 F.2.1 dX10_init_4 rfl (lv_at hl 0 rfl) ?_
  refine a_sp F (940 : Int32) dX10_init_5 (by decide) ?_
  refine ct_newB F hA hP hD hS 940 (by decide) (by decide) (Nat.le_of_ble_eq_true rfl) (Nat.le_of_ble_eq_true rfl) (Nat.le_of_ble_eq_true rfl) dX10_init_8 (fun q1 H hP hD hS => ?_)
  have hP : va_P (dC, dI) vwCl ((a, .inr (10, [.null, .null, .int 0, .int 0, .int 0, .int 0, .int 0, .long 0, .int 0, .int 0, .int 0, .int 0])) :: [(q1, aB cA 940)]) H := hP
  have hD : va_D A ((a, .inr (10, [.null, .null, .int 0, .int 0, .int 0, .int 0, .int 0, .long 0, .int 0, .int 0, .int 0, .int 0])) :: [(q1, aB cA 940)]) := hD
  refine va_putF (ci := 10) (v := .ref q1) (C := RX10) (T := TX10) (N := 12) F.1 F.2.1 F.2.2.1 inX10 tyX10 tyX10_ok nmX10 F.2.2.2.1 F.2.2.2.2 hP hD hS 0 rfl rfl 0 (by decide) (F.2.2.1 _ qz93) (fun _ h9 => h9) rfl hin rfl (tyX10_ok 0 (by decide)) rfl rfl (Nat.le_of_ble_eq_true rfl) dX10_init_10 (fun H locs hP hD hS => ?_)
  have hP : va_P (dC, dI) vwCl ((a, .inr (10, [.ref q1, .null, .int 0, .int 0, .int 0, .int 0, .int 0, .long 0, .int 0, .int 0, .int 0, .int 0])) :: [(q1, aB cA 940)]) H := hP
  have hD : va_D A ((a, .inr (10, [.ref q1, .null, .int 0, .int 0, .int 0, .int 0, .int 0, .long 0, .int 0, .int 0, .int 0, .int 0])) :: [(q1, aB cA 940)]) := hD
  refine lv_aload_n F.1 F.2.1 dX10_init_13 rfl (lv_at hl 0 rfl) ?_
  refine a_bp F (27 : Int32) dX10_init_14 (by decide) ?_
  refine ct_newL F hA hP hD hS 27 (by decide) (by decide) (Nat.le_of_ble_eq_true rfl) (Nat.le_of_ble_eq_true rfl) (Nat.le_of_ble_eq_true rfl) dX10_init_16 (fun q2 H hP hD hS => ?_)
  have hP : va_P (dC, dI) vwCl ((a, .inr (10, [.ref q1, .null, .int 0, .int 0, .int 0, .int 0, .int 0, .long 0, .int 0, .int 0, .int 0, .int 0])) :: ([(q1, aB cA 940)] ++ [(q2, aL cA 27)])) H := hP
  have hD : va_D A ((a, .inr (10, [.ref q1, .null, .int 0, .int 0, .int 0, .int 0, .int 0, .long 0, .int 0, .int 0, .int 0, .int 0])) :: ([(q1, aB cA 940)] ++ [(q2, aL cA 27)])) := hD
  refine va_putF (ci := 10) (v := .ref q2) (C := RX10) (T := TX10) (N := 12) F.1 F.2.1 F.2.2.1 inX10 tyX10 tyX10_ok nmX10 F.2.2.2.1 F.2.2.2.2 hP hD hS 0 rfl rfl 1 (by decide) (F.2.2.1 _ qz94) (fun _ h9 => h9) rfl hin rfl (tyX10_ok 1 (by decide)) rfl rfl (Nat.le_of_ble_eq_true rfl) dX10_init_18 (fun H locs hP hD hS => ?_)
  have hP : va_P (dC, dI) vwCl ((a, .inr (10, [.ref q1, .ref q2, .int 0, .int 0, .int 0, .int 0, .int 0, .long 0, .int 0, .int 0, .int 0, .int 0])) :: ([(q1, aB cA 940)] ++ [(q2, aL cA 27)])) H := hP
  have hD : va_D A ((a, .inr (10, [.ref q1, .ref q2, .int 0, .int 0, .int 0, .int 0, .int 0, .long 0, .int 0, .int 0, .int 0, .int 0])) :: ([(q1, aB cA 940)] ++ [(q2, aL cA 27)])) := hD
  refine lv_aload_n F.1 F.2.1 dX10_init_21 rfl (lv_at hl 0 rfl) ?_
  refine a_ic F (0 : Int32) dX10_init_22 (by decide) ?_
  refine va_put (ci := 10) (v := .int (0 : Int32)) (C := RX10) (T := TX10) (N := 12) F.1 F.2.1 F.2.2.1 inX10 tyX10 tyX10_ok nmX10 F.2.2.2.1 F.2.2.2.2 hP hD hS 0 rfl rfl 2 (by decide) (F.2.2.1 _ qz95) (fun _ h9 => h9) rfl (tyX10_ok 2 (by decide)) rfl rfl (Nat.le_of_ble_eq_true rfl) dX10_init_23 (fun H locs hP hD hS => ?_)
  have hP : va_P (dC, dI) vwCl ((a, .inr (10, [.ref q1, .ref q2, .int (0 : Int32), .int 0, .int 0, .int 0, .int 0, .long 0, .int 0, .int 0, .int 0, .int 0])) :: ([(q1, aB cA 940)] ++ [(q2, aL cA 27)])) H := hP
  have hD : va_D A ((a, .inr (10, [.ref q1, .ref q2, .int (0 : Int32), .int 0, .int 0, .int 0, .int 0, .long 0, .int 0, .int 0, .int 0, .int 0])) :: ([(q1, aB cA 940)] ++ [(q2, aL cA 27)])) := hD
  refine lv_aload_n F.1 F.2.1 dX10_init_26 rfl (lv_at hl 0 rfl) ?_
  refine a_ic F (0 : Int32) dX10_init_27 (by decide) ?_
  refine va_put (ci := 10) (v := .int (0 : Int32)) (C := RX10) (T := TX10) (N := 12) F.1 F.2.1 F.2.2.1 inX10 tyX10 tyX10_ok nmX10 F.2.2.2.1 F.2.2.2.2 hP hD hS 0 rfl rfl 3 (by decide) (F.2.2.1 _ qz97) (fun _ h9 => h9) rfl (tyX10_ok 3 (by decide)) rfl rfl (Nat.le_of_ble_eq_true rfl) dX10_init_28 (fun H locs hP hD hS => ?_)
  have hP : va_P (dC, dI) vwCl ((a, .inr (10, [.ref q1, .ref q2, .int (0 : Int32), .int (0 : Int32), .int 0, .int 0, .int 0, .long 0, .int 0, .int 0, .int 0, .int 0])) :: ([(q1, aB cA 940)] ++ [(q2, aL cA 27)])) H := hP
  have hD : va_D A ((a, .inr (10, [.ref q1, .ref q2, .int (0 : Int32), .int (0 : Int32), .int 0, .int 0, .int 0, .long 0, .int 0, .int 0, .int 0, .int 0])) :: ([(q1, aB cA 940)] ++ [(q2, aL cA 27)])) := hD
  refine lv_aload_n F.1 F.2.1 dX10_init_31 rfl (lv_at hl 0 rfl) ?_
  refine a_ic F (0 : Int32) dX10_init_32 (by decide) ?_
  refine va_put (ci := 10) (v := .int (0 : Int32)) (C := RX10) (T := TX10) (N := 12) F.1 F.2.1 F.2.2.1 inX10 tyX10 tyX10_ok nmX10 F.2.2.2.1 F.2.2.2.2 hP hD hS 0 rfl rfl 4 (by decide) (F.2.2.1 _ qz98) (fun _ h9 => h9) rfl (tyX10_ok 4 (by decide)) rfl rfl (Nat.le_of_ble_eq_true rfl) dX10_init_33 (fun H locs hP hD hS => ?_)
  have hP : va_P (dC, dI) vwCl ((a, .inr (10, [.ref q1, .ref q2, .int (0 : Int32), .int (0 : Int32), .int (0 : Int32), .int 0, .int 0, .long 0, .int 0, .int 0, .int 0, .int 0])) :: ([(q1, aB cA 940)] ++ [(q2, aL cA 27)])) H := hP
  have hD : va_D A ((a, .inr (10, [.ref q1, .ref q2, .int (0 : Int32), .int (0 : Int32), .int (0 : Int32), .int 0, .int 0, .long 0, .int 0, .int 0, .int 0, .int 0])) :: ([(q1, aB cA 940)] ++ [(q2, aL cA 27)])) := hD
  refine lv_aload_n F.1 F.2.1 dX10_init_36 rfl (lv_at hl 0 rfl) ?_
  refine a_ic F (0 : Int32) dX10_init_37 (by decide) ?_
  refine va_put (ci := 10) (v := .int (0 : Int32)) (C := RX10) (T := TX10) (N := 12) F.1 F.2.1 F.2.2.1 inX10 tyX10 tyX10_ok nmX10 F.2.2.2.1 F.2.2.2.2 hP hD hS 0 rfl rfl 5 (by decide) (F.2.2.1 _ qz99) (fun _ h9 => h9) rfl (tyX10_ok 5 (by decide)) rfl rfl (Nat.le_of_ble_eq_true rfl) dX10_init_38 (fun H locs hP hD hS => ?_)
  have hP : va_P (dC, dI) vwCl ((a, .inr (10, [.ref q1, .ref q2, .int (0 : Int32), .int (0 : Int32), .int (0 : Int32), .int (0 : Int32), .int 0, .long 0, .int 0, .int 0, .int 0, .int 0])) :: ([(q1, aB cA 940)] ++ [(q2, aL cA 27)])) H := hP
  have hD : va_D A ((a, .inr (10, [.ref q1, .ref q2, .int (0 : Int32), .int (0 : Int32), .int (0 : Int32), .int (0 : Int32), .int 0, .long 0, .int 0, .int 0, .int 0, .int 0])) :: ([(q1, aB cA 940)] ++ [(q2, aL cA 27)])) := hD
  refine lv_aload_n F.1 F.2.1 dX10_init_41 rfl (lv_at hl 0 rfl) ?_
  refine a_ic F (0 : Int32) dX10_init_42 (by decide) ?_
  refine va_put (ci := 10) (v := .int (0 : Int32)) (C := RX10) (T := TX10) (N := 12) F.1 F.2.1 F.2.2.1 inX10 tyX10 tyX10_ok nmX10 F.2.2.2.1 F.2.2.2.2 hP hD hS 0 rfl rfl 6 (by decide) (F.2.2.1 _ qz100) (fun _ h9 => h9) rfl (tyX10_ok 6 (by decide)) rfl rfl (Nat.le_of_ble_eq_true rfl) dX10_init_43 (fun H locs hP hD hS => ?_)
  have hP : va_P (dC, dI) vwCl ((a, .inr (10, [.ref q1, .ref q2, .int (0 : Int32), .int (0 : Int32), .int (0 : Int32), .int (0 : Int32), .int (0 : Int32), .long 0, .int 0, .int 0, .int 0, .int 0])) :: ([(q1, aB cA 940)] ++ [(q2, aL cA 27)])) H := hP
  have hD : va_D A ((a, .inr (10, [.ref q1, .ref q2, .int (0 : Int32), .int (0 : Int32), .int (0 : Int32), .int (0 : Int32), .int (0 : Int32), .long 0, .int 0, .int 0, .int 0, .int 0])) :: ([(q1, aB cA 940)] ++ [(q2, aL cA 27)])) := hD
  refine lv_aload_n F.1 F.2.1 dX10_init_46 rfl (lv_at hl 0 rfl) ?_
  refine lv_lconst (v := (0 : Int64)) F.1 F.2.1 dX10_init_47 (by decide) ?_
  refine va_put (ci := 10) (v := .long (0 : Int64)) (C := RX10) (T := TX10) (N := 12) F.1 F.2.1 F.2.2.1 inX10 tyX10 tyX10_ok nmX10 F.2.2.2.1 F.2.2.2.2 hP hD hS 0 rfl rfl 7 (by decide) (F.2.2.1 _ qz104) (fun _ h9 => h9) rfl (tyX10_ok 7 (by decide)) rfl rfl (Nat.le_of_ble_eq_true rfl) dX10_init_48 (fun H locs hP hD hS => ?_)
  have hP : va_P (dC, dI) vwCl ((a, .inr (10, [.ref q1, .ref q2, .int (0 : Int32), .int (0 : Int32), .int (0 : Int32), .int (0 : Int32), .int (0 : Int32), .long (0 : Int64), .int 0, .int 0, .int 0, .int 0])) :: ([(q1, aB cA 940)] ++ [(q2, aL cA 27)])) H := hP
  have hD : va_D A ((a, .inr (10, [.ref q1, .ref q2, .int (0 : Int32), .int (0 : Int32), .int (0 : Int32), .int (0 : Int32), .int (0 : Int32), .long (0 : Int64), .int 0, .int 0, .int 0, .int 0])) :: ([(q1, aB cA 940)] ++ [(q2, aL cA 27)])) := hD
  refine lv_aload_n F.1 F.2.1 dX10_init_51 rfl (lv_at hl 0 rfl) ?_
  refine a_ic F (0 : Int32) dX10_init_52 (by decide) ?_
  refine va_put (ci := 10) (v := .int (0 : Int32)) (C := RX10) (T := TX10) (N := 12) F.1 F.2.1 F.2.2.1 inX10 tyX10 tyX10_ok nmX10 F.2.2.2.1 F.2.2.2.2 hP hD hS 0 rfl rfl 8 (by decide) (F.2.2.1 _ qz106) (fun _ h9 => h9) rfl (tyX10_ok 8 (by decide)) rfl rfl (Nat.le_of_ble_eq_true rfl) dX10_init_53 (fun H locs hP hD hS => ?_)
  have hP : va_P (dC, dI) vwCl ((a, .inr (10, [.ref q1, .ref q2, .int (0 : Int32), .int (0 : Int32), .int (0 : Int32), .int (0 : Int32), .int (0 : Int32), .long (0 : Int64), .int (0 : Int32), .int 0, .int 0, .int 0])) :: ([(q1, aB cA 940)] ++ [(q2, aL cA 27)])) H := hP
  have hD : va_D A ((a, .inr (10, [.ref q1, .ref q2, .int (0 : Int32), .int (0 : Int32), .int (0 : Int32), .int (0 : Int32), .int (0 : Int32), .long (0 : Int64), .int (0 : Int32), .int 0, .int 0, .int 0])) :: ([(q1, aB cA 940)] ++ [(q2, aL cA 27)])) := hD
  refine lv_aload_n F.1 F.2.1 dX10_init_56 rfl (lv_at hl 0 rfl) ?_
  refine a_ic F (0 : Int32) dX10_init_57 (by decide) ?_
  refine va_put (ci := 10) (v := .int (0 : Int32)) (C := RX10) (T := TX10) (N := 12) F.1 F.2.1 F.2.2.1 inX10 tyX10 tyX10_ok nmX10 F.2.2.2.1 F.2.2.2.2 hP hD hS 0 rfl rfl 9 (by decide) (F.2.2.1 _ qz110) (fun _ h9 => h9) rfl (tyX10_ok 9 (by decide)) rfl rfl (Nat.le_of_ble_eq_true rfl) dX10_init_58 (fun H locs hP hD hS => ?_)
  have hP : va_P (dC, dI) vwCl ((a, .inr (10, [.ref q1, .ref q2, .int (0 : Int32), .int (0 : Int32), .int (0 : Int32), .int (0 : Int32), .int (0 : Int32), .long (0 : Int64), .int (0 : Int32), .int (0 : Int32), .int 0, .int 0])) :: ([(q1, aB cA 940)] ++ [(q2, aL cA 27)])) H := hP
  have hD : va_D A ((a, .inr (10, [.ref q1, .ref q2, .int (0 : Int32), .int (0 : Int32), .int (0 : Int32), .int (0 : Int32), .int (0 : Int32), .long (0 : Int64), .int (0 : Int32), .int (0 : Int32), .int 0, .int 0])) :: ([(q1, aB cA 940)] ++ [(q2, aL cA 27)])) := hD
  refine lv_aload_n F.1 F.2.1 dX10_init_61 rfl (lv_at hl 0 rfl) ?_
  refine a_ic F (0 : Int32) dX10_init_62 (by decide) ?_
  refine va_put (ci := 10) (v := .int (0 : Int32)) (C := RX10) (T := TX10) (N := 12) F.1 F.2.1 F.2.2.1 inX10 tyX10 tyX10_ok nmX10 F.2.2.2.1 F.2.2.2.2 hP hD hS 0 rfl rfl 10 (by decide) (F.2.2.1 _ qz114) (fun _ h9 => h9) rfl (tyX10_ok 10 (by decide)) rfl rfl (Nat.le_of_ble_eq_true rfl) dX10_init_63 (fun H locs hP hD hS => ?_)
  have hP : va_P (dC, dI) vwCl ((a, .inr (10, [.ref q1, .ref q2, .int (0 : Int32), .int (0 : Int32), .int (0 : Int32), .int (0 : Int32), .int (0 : Int32), .long (0 : Int64), .int (0 : Int32), .int (0 : Int32), .int (0 : Int32), .int 0])) :: ([(q1, aB cA 940)] ++ [(q2, aL cA 27)])) H := hP
  have hD : va_D A ((a, .inr (10, [.ref q1, .ref q2, .int (0 : Int32), .int (0 : Int32), .int (0 : Int32), .int (0 : Int32), .int (0 : Int32), .long (0 : Int64), .int (0 : Int32), .int (0 : Int32), .int (0 : Int32), .int 0])) :: ([(q1, aB cA 940)] ++ [(q2, aL cA 27)])) := hD
  refine lv_aload_n F.1 F.2.1 dX10_init_66 rfl (lv_at hl 0 rfl) ?_
  refine a_ic F (0 : Int32) dX10_init_67 (by decide) ?_
  refine va_put (ci := 10) (v := .int (0 : Int32)) (C := RX10) (T := TX10) (N := 12) F.1 F.2.1 F.2.2.1 inX10 tyX10 tyX10_ok nmX10 F.2.2.2.1 F.2.2.2.2 hP hD hS 0 rfl rfl 11 (by decide) (F.2.2.1 _ qz116) (fun _ h9 => h9) rfl (tyX10_ok 11 (by decide)) rfl rfl (Nat.le_of_ble_eq_true rfl) dX10_init_68 (fun H locs hP hD hS => ?_)
  have hP : va_P (dC, dI) vwCl ((a, .inr (10, [.ref q1, .ref q2, .int (0 : Int32), .int (0 : Int32), .int (0 : Int32), .int (0 : Int32), .int (0 : Int32), .long (0 : Int64), .int (0 : Int32), .int (0 : Int32), .int (0 : Int32), .int (0 : Int32)])) :: ([(q1, aB cA 940)] ++ [(q2, aL cA 27)])) H := hP
  have hD : va_D A ((a, .inr (10, [.ref q1, .ref q2, .int (0 : Int32), .int (0 : Int32), .int (0 : Int32), .int (0 : Int32), .int (0 : Int32), .long (0 : Int64), .int (0 : Int32), .int (0 : Int32), .int (0 : Int32), .int (0 : Int32)])) :: ([(q1, aB cA 940)] ++ [(q2, aL cA 27)])) := hD
  obtain ⟨sa, sv, sf, hsf, hst⟩ := hk
  have hP : va_P (dC, dI) vwCl [(a, .inr (10, [.ref q1, .ref q2, .int (0 : Int32), .int (0 : Int32), .int (0 : Int32), .int (0 : Int32), .int (0 : Int32), .long (0 : Int64), .int (0 : Int32), .int (0 : Int32), .int (0 : Int32), .int (0 : Int32)])), (q1, aB cA 940), (q2, .inl (cA 2, 27, .inr (.inl (fun _ => 0))))] H := hP
  have hD : va_D A [(a, .inr (10, [.ref q1, .ref q2, .int (0 : Int32), .int (0 : Int32), .int (0 : Int32), .int (0 : Int32), .int (0 : Int32), .long (0 : Int64), .int (0 : Int32), .int (0 : Int32), .int (0 : Int32), .int (0 : Int32)])), (q1, aB cA 940), (q2, .inl (cA 2, 27, .inr (.inl (fun _ => 0))))] := hD
  have L78 : ∀ (n : Nat) (i k : Int32) (w : Int64) (g : Nat → Int64) (H : Heap) (locs : List Loc) (ls : Array Slot), 141 - i.toInt < (n : Int) → (0 ≤ i.toInt ∧ i.toInt ≤ 141) → (0 ≤ k.toInt ∧ k.toInt ≤ 27) → tpI i.toNatClampNeg k w g → va_P (dC, dI) vwCl [(a, .inr (10, [.ref q1, .ref q2, .int (0 : Int32), .int (0 : Int32), .int (0 : Int32), .int (0 : Int32), .int (0 : Int32), .long (0 : Int64), .int (0 : Int32), .int (0 : Int32), .int (0 : Int32), .int (0 : Int32)])), (q1, aB cA 940), (q2, .inl (cA 2, 27, .inr (.inl g)))] H → va_D A [(a, .inr (10, [.ref q1, .ref q2, .int (0 : Int32), .int (0 : Int32), .int (0 : Int32), .int (0 : Int32), .int (0 : Int32), .long (0 : Int64), .int (0 : Int32), .int (0 : Int32), .int (0 : Int32), .int (0 : Int32)])), (q1, aB cA 940), (q2, .inl (cA 2, 27, .inr (.inl g)))] → va_S A s.heap H locs → lv_has ls 6 [(4, .int i), (2, .long w), (1, .int k), (0, .ref a)] → W p l e (ct_rm 6 2 967) s m [.ref a].toArray below meth c H locs (0 + 1 + 1) (0 + 940 + 27) (MQ below (va_Qv (fun _ => True) (ct_B (dC, dI) cA A (fun σ : (Nat → Nat) × (Nat → Int64) => w_X10_init cA a σ.1 σ.2)) A) [.ref a].toArray s 2 967 A) (F0 m 78 ls []) := by
    intro n
    induction n with
    | zero => intro i k w g H locs ls hn hi hk hT hP hD hS hl; exfalso; omega
    | succ n ih =>
      intro i k w g H locs ls hn hi hk hT hP hD hS hl
      have hic := i_cl (x := i) (by omega)
      refine lv_iload F.1 F.2.1 dX10_init_78 (lv_at hl 0 rfl) ?_
      refine va_ldcS F.1 F.2.1 F.2.2.2.1 hst.1 dX10_init_80 ?_
      refine js_callV F hml hl.1 hst hA hS (As := []) (j_length l sa sv sf) ⟨callB_of 0 F.2.2.1 (tb_good qz44) rfl rfl rfl (F.2.2.1 _ qz3) (F.2.2.1 _ qz41) (by decide +kernel) (by decide), F.2.2.1 _ qz42, F.2.2.1 _ qz43⟩ rfl rfl (Nat.le_of_ble_eq_true rfl) dX10_init_82 ⟨(Nat.le_of_ble_eq_true rfl), (Nat.le_of_ble_eq_true rfl)⟩ (fun r H1 locs hr0 hk0 hS => ?_)
      subst hr0
      have hP := hP.kept (fun j q hq => hk0 q.1 (hP j q hq).lt)
      refine b_ge F 138 dX10_init_85 (by decide) rfl (show (141 : Int32).toInt = 141 from rfl) (fun c1 => ?_) (fun c1 => ?_)
      · have hg : g = ctA := tp_end hT (by omega)
        rw [hg] at hP hD
        exact ct_ret (((fun i => ([q1, q2] : List Nat).getD i 0), g) : (Nat → Nat) × (Nat → Int64)) F hr hlocks hP hD hS rfl (Nat.le_of_ble_eq_true rfl) (Nat.le_of_ble_eq_true rfl) dX10_init_138
      · refine lv_iload_n F.1 F.2.1 dX10_init_88 rfl (lv_at hl 2 rfl) ?_
        refine a_bp F (27 : Int32) dX10_init_89 (by decide) ?_
        refine b_ge F 138 dX10_init_91 (by decide) rfl ic_27 (fun c2 => ?_) (fun c2 => ?_)
        · exfalso
          have := tp_26 i.toNatClampNeg (by omega)
          have := hT.1
          omega
        · refine va_ldcS F.1 F.2.1 F.2.2.2.1 hst.1 dX10_init_94 ?_
          refine lv_iload F.1 F.2.1 dX10_init_96 (lv_at hl 0 rfl) ?_
          refine js_callV F hml hl.1 hst hA hS (As := [.int i]) (j_charAt l sa sv sf i (by omega)) ⟨callB_of 1 F.2.2.1 (tb_good qz54) rfl rfl rfl (F.2.2.1 _ qz3) (F.2.2.1 _ qz51) (by decide +kernel) (by decide), F.2.2.1 _ qz52, F.2.2.1 _ qz53⟩ rfl rfl (Nat.le_of_ble_eq_true rfl) dX10_init_98 ⟨(Nat.le_of_ble_eq_true rfl), (Nat.le_of_ble_eq_true rfl)⟩ (fun r H2 locs hr1 hk1 hS => ?_)
          have hrB : r = tapeB.getD i.toNatClampNeg 0 := by rw [hr1, hsf]; exact tp_ch _ (by omega)
          have hP := hP.kept (fun j q hq => hk1 q.1 (hP j q hq).lt)
          have L132 : ∀ (k : Int32) (w : Int64) (g : Nat → Int64) (H : Heap) (locs : List Loc) (ls : Array Slot), (0 ≤ k.toInt ∧ k.toInt ≤ 27) → tpI (i.toNatClampNeg + 1) k w g → va_P (dC, dI) vwCl [(a, .inr (10, [.ref q1, .ref q2, .int (0 : Int32), .int (0 : Int32), .int (0 : Int32), .int (0 : Int32), .int (0 : Int32), .long (0 : Int64), .int (0 : Int32), .int (0 : Int32), .int (0 : Int32), .int (0 : Int32)])), (q1, aB cA 940), (q2, .inl (cA 2, 27, .inr (.inl g)))] H → va_D A [(a, .inr (10, [.ref q1, .ref q2, .int (0 : Int32), .int (0 : Int32), .int (0 : Int32), .int (0 : Int32), .int (0 : Int32), .long (0 : Int64), .int (0 : Int32), .int (0 : Int32), .int (0 : Int32), .int (0 : Int32)])), (q1, aB cA 940), (q2, .inl (cA 2, 27, .inr (.inl g)))] → va_S A s.heap H locs → lv_has ls 6 [(4, .int i), (2, .long w), (1, .int k), (0, .ref a)] → W p l e (ct_rm 6 2 967) s m [.ref a].toArray below meth c H locs (0 + 1 + 1) (0 + 940 + 27) (MQ below (va_Qv (fun _ => True) (ct_B (dC, dI) cA A (fun σ : (Nat → Nat) × (Nat → Int64) => w_X10_init cA a σ.1 σ.2)) A) [.ref a].toArray s 2 967 A) (F0 m 132 ls []) := by
            intro k w g H locs ls hk hT hP hD hS hl
            refine a_iinc F (k := 0) (fun z => [(4, .int z), (2, .long w), (1, .int k), (0, .ref a)]) dX10_init_132 hl rfl rfl (by decide) (by omega) (by decide) (fun _ => rfl) (fun z ls hz hl => ?_)
            refine lv_goto (tgt := 78) F.1 F.2.1 dX10_init_135 (by decide) ?_
            exact ih z k w g H locs ls (by omega) (by omega) hk (by have hzc := i_cl (x := z) (by omega); rw [show z.toNatClampNeg = i.toNatClampNeg + 1 by omega]; exact hT) hP hD hS hl
          refine lv_istore (lv' := [(5, .int r), (4, .int i), (2, .long w), (1, .int k), (0, .ref a)]) F.1 F.2.1 dX10_init_101 hl (by decide) rfl (fun ls hl => ?_)
          refine lv_iload F.1 F.2.1 dX10_init_103 (lv_at hl 0 rfl) ?_
          refine a_bp F (32 : Int32) dX10_init_105 (by decide) ?_
          refine b_ne F 125 dX10_init_107 (by decide) rfl ic_32 (fun c3 => ?_) (fun c3 => ?_)
          · refine lv_lload_n F.1 F.2.1 dX10_init_125 rfl (lv_at hl 2 rfl) ?_
            refine lv_iload F.1 F.2.1 dX10_init_126 (lv_at hl 0 rfl) ?_
            refine jl_callS F hml hl.1 hA hS (As := [.long w, .int r]) (j_withLetter l w r) ⟨callB_of 2 F.2.2.1 (tb_good qz91) rfl rfl rfl (F.2.2.1 _ qz2) (F.2.2.1 _ qz89) (by decide +kernel) (by decide), F.2.2.1 _ qz90⟩ rfl rfl (Nat.le_of_ble_eq_true rfl) dX10_init_128 ⟨(Nat.le_of_ble_eq_true rfl), (Nat.le_of_ble_eq_true rfl)⟩ (fun w2 H3 locs hw2 hk2 hS => ?_)
            have hP := hP.kept (fun j q hq => hk2 q.1 (hP j q hq).lt)
            refine lv_lstore_n (lv' := [(2, .long w2), (5, .int r), (4, .int i), (1, .int k), (0, .ref a)]) F.1 F.2.1 dX10_init_131 rfl hl (by decide) rfl (fun ls hl => ?_)
            exact L132 k w2 g _ _ _ hk (tp_let hT (by omega) hrB c3 hw2) hP hD hS (lv_sub hl [2, 0, 3, 4] rfl)
          · refine lv_aload_n F.1 F.2.1 dX10_init_110 rfl (lv_at hl 4 rfl) ?_
            refine va_get (ci := 10) (C := RX10) (T := TX10) (N := 12) F.1 F.2.1 F.2.2.1 inX10 F.2.2.2.1 F.2.2.2.2 hP 0 rfl rfl 1 (by decide) (F.2.2.1 _ qz94) (fun _ h9 => h9) (v := .ref q2) rfl dX10_init_111 ?_
            refine lv_iload_n F.1 F.2.1 dX10_init_114 rfl (lv_at hl 3 rfl) ?_
            refine lv_lload_n F.1 F.2.1 dX10_init_115 rfl (lv_at hl 2 rfl) ?_
            refine va_last F.1 F.2.1 F.2.2.2.2 hP hD hS 2 2 rfl rfl (i_in rfl (by omega)) dX10_init_116 (fun H locs hP hD hS => ?_)
            refine a_iinc F (k := 3) (fun z => [(1, .int z), (5, .int r), (4, .int i), (2, .long w), (0, .ref a)]) dX10_init_117 hl rfl rfl (by decide) (by omega) (by decide) (fun _ => rfl) (fun z ls hz hl => ?_)
            refine lv_lconst (v := (0 : Int64)) F.1 F.2.1 dX10_init_120 (by decide) ?_
            refine lv_lstore_n (lv' := [(2, .long (0 : Int64)), (1, .int z), (5, .int r), (4, .int i), (0, .ref a)]) F.1 F.2.1 dX10_init_121 rfl hl (by decide) rfl (fun ls hl => ?_)
            refine lv_goto (tgt := 132) F.1 F.2.1 dX10_init_122 (by decide) ?_
            exact L132 z (0 : Int64) (vp_updL g k.toNatClampNeg w) _ _ _ (by omega) (tp_spc hT (by omega) hrB c3 hz) hP hD hS (lv_sub hl [3, 0, 1, 4] rfl)
  refine a_ic F (0 : Int32) dX10_init_71 (by decide) ?_
  refine lv_istore_n (lv' := [(1, .int (0 : Int32)), (0, .ref a)]) F.1 F.2.1 dX10_init_72 rfl hl (by decide) rfl (fun ls hl => ?_)
  refine lv_lconst (v := (0 : Int64)) F.1 F.2.1 dX10_init_73 (by decide) ?_
  refine lv_lstore_n (lv' := [(2, .long (0 : Int64)), (1, .int (0 : Int32)), (0, .ref a)]) F.1 F.2.1 dX10_init_74 rfl hl (by decide) rfl (fun ls hl => ?_)
  refine a_ic F (0 : Int32) dX10_init_75 (by decide) ?_
  refine lv_istore (lv' := [(4, .int (0 : Int32)), (2, .long (0 : Int64)), (1, .int (0 : Int32)), (0, .ref a)]) F.1 F.2.1 dX10_init_76 hl (by decide) rfl (fun ls hl => ?_)
  exact L78 142 (0 : Int32) (0 : Int32) (0 : Int64) (fun _ => 0) _ _ _ (by decide) (by decide) (by decide) tpz_0 hP hD hS hl
