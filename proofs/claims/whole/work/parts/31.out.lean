/-! what a throw of ArrayIndexOutOfBoundsException needs, and the two methods 'out' -/
def AX : String := "java/lang/ArrayIndexOutOfBoundsException"
def anL : List String := ["java/lang/IndexOutOfBoundsException", "java/lang/RuntimeException", "java/lang/Exception"]
def ttL : List Cond := [.declares ⟨"java/lang/IndexOutOfBoundsException", "<init>", "(Ljava/lang/String;)V"⟩, .declares ⟨"java/lang/RuntimeException", "<init>", "(Ljava/lang/String;)V"⟩, .declares ⟨"java/lang/Exception", "<init>", "(Ljava/lang/String;)V"⟩, .declares ⟨"java/lang/Throwable", "<init>", "(Ljava/lang/String;)V"⟩, .castable AX AX]
theorem tt_all {P : Cond → Prop} (h : ∀ x, P (.declares x)) (h2 : ∀ a b, P (.castable a b)) : ∀ w ∈ ttL, P w := by
  intro w hw
  rcases List.mem_cons.mp hw with rfl | hw
  · exact h _
  rcases List.mem_cons.mp hw with rfl | hw
  · exact h _
  rcases List.mem_cons.mp hw with rfl | hw
  · exact h _
  rcases List.mem_cons.mp hw with rfl | hw
  · exact h _
  rcases List.mem_cons.mp hw with rfl | hw
  · exact h2 _ _
  · cases hw
def TT (A : Nat → Prop) (U : State) (H : Heap) : Prop := (∃ sa : Nat, vk_R "MessageCodes" 90 "no such octet of OUT" sa U) ∧ (∀ w ∈ ttL, va_Nw w U) ∧ vx_Zq Bundle.tN "UNASSIGNED_STACK" Bundle.steD A U H ∧ vx_Zq Bundle.tN "SUPPRESSED_SENTINEL" Bundle.listD A U H
theorem TT.warm {A : Nat → Prop} {s U : State} {H : Heap} (hW : s.WarmedH U.vm) (h : TT A s H) : TT A U H := by
  obtain ⟨⟨sa, h1⟩, h2, h3, h4⟩ := h
  exact ⟨⟨sa, vk_R.warm hW h1⟩, fun w hw => (tt_all (P := fun w => va_Nw w s → va_Nw w U) (fun _ z => va_Nw.warmD hW z) (fun _ _ z => va_Nw.warmC hW z) w hw) (h2 w hw), h3.moved hW.alike, h4.moved hW.alike⟩
theorem TT.same {A : Nat → Prop} {u U : State} {H : Heap} (e : u.vm = U.vm) (h : TT A u H) : TT A U H := by
  obtain ⟨⟨sa, h1⟩, h2, h3, h4⟩ := h
  have ha : u.vm.Alike U.vm := by rw [e]; exact Vm.Alike.refl _
  exact ⟨⟨sa, vk_R.same e.symm h1⟩, fun w hw => (tt_all (P := fun w => va_Nw w u → va_Nw w U) (fun _ z => va_Nw.same rfl e z) (fun _ _ z => va_Nw.same rfl e z) w hw) (h2 w hw), h3.moved ha, h4.moved ha⟩
theorem TT.kept {A : Nat → Prop} {U : State} {H H1 : Heap} (h : TT A U H) (hq : ∀ a : Nat, a < H.size → ¬ A a → H1[a]? = H[a]?) : TT A U H1 := ⟨h.1, h.2.1, h.2.2.1.kept hq, h.2.2.2.kept hq⟩
theorem TT.narrow {A B : Nat → Prop} {U : State} {H : Heap} (h : TT A U H) (hAB : ∀ q, B q → A q) : TT B U H := ⟨h.1, h.2.1, h.2.2.1.narrow hAB, h.2.2.2.narrow hAB⟩
theorem m_324 : (Jvm.Cond.methodLink "MessageCodesLaw" (39 : Nat) ({ cls := "MessageCodesLaw", name := "out", desc := "(LMessageCodes;I[J)I" } : Jvm.MethodName)) ∈ wB := wB_T 324 (by decide +kernel) (by decide +kernel)
theorem m_325 : (Jvm.Cond.static ({ cls := "MessageCodesLaw", name := "out", desc := "(LMessageCodes;I[J)I" } : Jvm.MethodName)) ∈ wB := wB_T 325 (by decide +kernel) (by decide +kernel)
theorem m_326 : (Jvm.Cond.codeWith ({ cls := "MessageCodesLaw", name := "out", desc := "(LMessageCodes;I[J)I" } : Jvm.MethodName) method_3_code (4 : Nat) (Option.some Jvm.ClassFile.FieldType.int) [((0 : Nat), (9 : Nat), (12 : Nat), (13 : Nat))]) ∈ wB := wB_T 326 (by decide +kernel) (by decide +kernel)
theorem m_327 : (Jvm.Cond.classLink "MessageCodesLaw" (13 : Nat) "java/lang/ArrayIndexOutOfBoundsException") ∈ wB := wB_T 327 (by decide +kernel) (by decide +kernel)
theorem atS_eq : vx_atS "MessageCodes" 92 AX anL = ([9, 392, 349, 352, 355, 357, 393, 394, 22, 23, 343, 348, 353, 360, 386, 361, 387, 362, 388, 344, 346, 389, 341, 342, 359, 389, 329, 330, 331, 332, 378, 332, 333, 334, 335, 380, 335, 336, 337, 338, 382, 338, 339, 340, 341, 384, 407, 328, 376, 385, 351, 367, 369, 373, 365, 358, 390, 363] : List Nat).filterMap (fun i => tables_1[i]?) := by decide +kernel
theorem atS_in : ∀ w ∈ (vx_atS "MessageCodes" 92 AX anL).filter goodWord, w ∈ wB := by
  intro w hw
  have h := List.mem_filter.mp hw
  have h1 := h.1
  rw [atS_eq] at h1
  obtain ⟨i, -, hi⟩ := List.mem_filterMap.mp h1
  exact wB_T i hi h.2
theorem atS_b : ∀ w ∈ (vx_atS "MessageCodes" 92 AX anL).filter (fun w => !goodWord w), w ∈ ttL := by
  have h : ((vx_atS "MessageCodes" 92 AX anL).filter (fun w => !goodWord w)) = ttL := by decide +kernel
  intro w hw
  rw [h] at hw
  exact hw
theorem atS_ot : ∀ w ∈ Cond.classLink "MessageCodes" 88 AX :: Cond.initialized AX :: vx_atS "MessageCodes" 92 AX anL, vx_ot w = true := by
  have h : (Cond.classLink "MessageCodes" 88 AX :: Cond.initialized AX :: vx_atS "MessageCodes" 92 AX anL).all vx_ot = true := by decide +kernel
  exact List.all_eq_true.mp h
theorem tt_ot : ∀ w ∈ ttL, w.onTables = true := tt_all (fun _ => rfl) (fun _ _ => rfl)
abbrev muX4_out : Mu := (cX4_out, 2, RX4, (some .byte), "out", 7, 1, 6, 100)
abbrev muL_out : Mu := (cL_out, 4, RL, (some .int), "out", 8, 1, 6, 130)
def kPcT (E : Ev) (av : List Value) (sz : Nat) (ws : va_W) : Array Value → State → Prop := fun a U => kPc E av sz ws a U ∧ TT (va_A ws sz) U U.heap
def kXo (E : Ev) (sz : Nat) (ws : va_W) (P : Prop) : String → State → State → Prop := fun n st t => n = AX ∧ P ∧ va_P E.1 vwCl ws t.heap ∧ va_F (va_A ws sz) st t
/-- a method that returns as post says, or, where P holds, throws and changes nothing -/
def KX (l : Launch) (E : Ev) (y : MethodName) (u : Mu) (av : List Value) (cx : va_W) (L : List Nat) (F : Nat → va_E) (post : Ps) (P : Prop) : Prop :=
  ∀ sz : Nat, vx_Met l y (wM y u.1 (uL u) (uT u)) (uR u) (kPcT E av sz (cx ++ va_pl L F)) (kQc E sz cx L F post) (kXo E sz (cx ++ va_pl L F) P) (uC u) (uS u) (va_A (cx ++ va_pl L F) sz)
/-- a method with a table of its own that returns -/
def KW (l : Launch) (E : Ev) (y : MethodName) (u : Mu) (hh : List (Nat × Nat × Nat × Nat)) (av : List Value) (cx : va_W) (L : List Nat) (F : Nat → va_E) (post : Ps) : Prop :=
  ∀ sz : Nat, Met l y (.codeWith y u.1 (uL u) (uT u) hh :: wB) (uR u) (kPcT E av sz (cx ++ va_pl L F)) (kQc E sz cx L F post) (uC u) (uS u) (va_A (cx ++ va_pl L F) sz)
def TH (g : Gm) (u : Mu) (E : Ev) (A : Nat → Prop) (QX : State → Prop) (cx : va_W) (L : List Nat) (F : Nat → va_E) (P : Prop) : Prop :=
  ∃ (Qc : Array Value → State → Outcome → State → Prop) (XC : String → State → State → Prop) (free : Addr → Prop), QX = vx_MQ (gb g) Qc XC (ga g) (gs g) (uC u) (uS u) free ∧ (∀ x ∈ (gc g).exceptionTable.toList, False) ∧
    (∀ (H : Heap) (locs : List Loc) (t : State), P → Wd g E A (cx ++ va_pl L F) H locs → H.size ≤ t.heap.size → (∀ q : Nat, q < H.size → t.heap[q]? = H[q]?) → XC AX (gs g) t) ∧ ∀ (H : Heap) (locs : List Loc), va_S A (gs g).heap H locs → ∀ q ∈ locs, free q.base
theorem KX_start {l : Launch} {E : Ev} {y : MethodName} {u : Mu} {av : List Value} {cx : va_W} {L : List Nat} {F : Nat → va_E} {post : Ps} {P : Prop} (hy : plainName y.cls = true) (hcls : y.cls = uO u) (hnm : y.name = uN u) (hlen : (lg_sl av).length ≤ uL u)
    (body : ∀ (g : Gm) (A : Nat → Prop) (Q QX : State → Prop), gl g = l → Cx g u E A → TT A (gs g) (gs g).heap → Rt g u E A Q cx L post → (∀ {ce sl : Nat} {X : va_W} {L : List Nat} {F : Nat → va_E} {pc : Nat} {lv : List (Nat × Value)} {st : List Value}, G g u E A ce sl Q X L F pc lv st → G g u E A ce sl QX X L F pc lv st) → TH g u E A QX cx L F P → G g u E A 0 0 QX cx L F 0 (lv_args 0 av) []) : KX l E y u av cx L F post P := by
  intro sz
  refine vx_ofW (cc := u.1) (maxL := uL u) (ret := uT u) hy rfl ?_
  intro p e s m args below meth c s₁ B hml hnt hv
  obtain ⟨⟨rfl, hsz, hP, hK, hD0, hZ, hN⟩, hTT⟩ := hv
  have hts := atoms_spec (ws := wM y u.1 (uL u) (uT u)) B.pre
  have hown : s.vm.findClass (uO u) = some m.cls := by rw [← hcls]; exact findClass_of_methodNamed B.named
  have hin : meth.name = uN u := by rw [← hnm]; exact (name_of_methodNamed B.named B.method).1
  subst hsz
  have hD := hD0.self (sz := s.heap.size)
  have hl := lv_entry av (n := uL u) hlen
  rw [lg_entry_eq]
  refine body (p, l, e, uR u, s, m, av.toArray, below, meth, c) (va_A (cx ++ va_pl L F) s.heap.size) (MQ below (kQc E s.heap.size cx L F post) av.toArray s (uC u) (uS u) (va_A (cx ++ va_pl L F) s.heap.size)) _ rfl ⟨⟨B.exec, B.bytes, hml, hown, fun w hw => hts w (List.mem_cons_of_mem _ hw)⟩, hK, fun q h => Or.inr h, B.returns, B.notSynchronized, hin, rfl, hZ, hN⟩ hTT ⟨_, _, rfl, ?_, ?_⟩ ?_ ⟨_, _, _, rfl, hnt, ?_, ?_⟩ s.heap [] _ ⟨hP, hD, va_S.rf⟩ hl
  · intro v X' L' F' H locs t h1 h2 h3 h4 h5
    exact ⟨⟨v, X', L', F', rfl, h1, h2, h3, by rw [h5]; exact h4.1, h4.2.1⟩, h4.2.2.F h5⟩
  · intro H locs h q hq
    exact h.2.2 q hq
  · intro ce sl X L' F' pc lv st h H locs ls hw hl
    exact vx_ret (h H locs ls hw hl)
  · intro H locs t hp hw h1 h2
    refine ⟨rfl, hp, p_of (fun q hq => (p_mem hw.1 hq).kept (h2 q.1 (p_mem hw.1 hq).lt)), Nat.le_trans hw.2.2.1 h1, fun q hq hA => ?_⟩
    rw [h2 q (Nat.lt_of_lt_of_le hq hw.2.2.1)]
    exact hw.2.2.2.1 q hq hA
  · intro H locs h q hq
    exact h.2.2 q hq
theorem KW_start {l : Launch} {E : Ev} {y : MethodName} {u : Mu} {hh : List (Nat × Nat × Nat × Nat)} {av : List Value} {cx : va_W} {L : List Nat} {F : Nat → va_E} {post : Ps} (hy : plainName y.cls = true) (hcls : y.cls = uO u) (hnm : y.name = uN u) (hlen : (lg_sl av).length ≤ uL u)
    (body : ∀ (g : Gm) (A : Nat → Prop) (Q : State → Prop), gl g = l → Cx g u E A → TT A (gs g) (gs g).heap → (gc g).exceptionTable.toList = tableOf hh → Rt g u E A Q cx L post → G g u E A 0 0 Q cx L F 0 (lv_args 0 av) []) : KW l E y u hh av cx L F post := by
  intro sz
  refine MetFree.of_bodyS (code := u.1) (maxLocals := uL u) (ret := uT u) hy ?_ ?_
  · intro args s m h hn
    obtain ⟨m9, meth, c, hn9, h1, h2, h3, h4, -, h5, h6, -⟩ := Cond.codeWith_spec (atoms_spec (ws := .codeWith y u.1 (uL u) (uT u) hh :: wB) h _ List.mem_cons_self)
    cases hn.symm.trans hn9
    exact ⟨meth, c, h1, h2, h3, h4, h5, h6⟩
  · intro p e s m args below meth c s₁ B hml hv _
    have hh0 : s₁.heap = s.heap := by rw [B.state]; rfl
    obtain ⟨⟨rfl, hsz, hP, hK, hD0, hZ, hN⟩, hTT⟩ := hv
    have hts := atoms_spec (ws := .codeWith y u.1 (uL u) (uT u) hh :: wB) B.pre
    have htb := vx_table (x := y) B (hts _ List.mem_cons_self)
    have hown : s.vm.findClass (uO u) = some m.cls := by rw [← hcls]; exact findClass_of_methodNamed B.named
    have hin : meth.name = uN u := by rw [← hnm]; exact (name_of_methodNamed B.named B.method).1
    subst hsz
    have hD := hD0.self (sz := s.heap.size)
    have hl := lv_entry av (n := uL u) hlen
    have K : W p l e (uR u) s m av.toArray below meth c s.heap [] 0 0 (MQ below (kQc E s.heap.size cx L F post) av.toArray s (uC u) (uS u) (va_A (cx ++ va_pl L F) s.heap.size)) (entryFrame m av.toArray (uL u)) := by
      rw [lg_entry_eq]
      refine body (p, l, e, uR u, s, m, av.toArray, below, meth, c) (va_A (cx ++ va_pl L F) s.heap.size) _ rfl ⟨⟨B.exec, B.bytes, hml, hown, fun w hw => hts w (List.mem_cons_of_mem _ hw)⟩, hK, fun q h => Or.inr h, B.returns, B.notSynchronized, hin, rfl, hZ, hN⟩ hTT htb ⟨_, _, rfl, ?_, ?_⟩ s.heap [] _ ⟨hP, hD, va_S.rf⟩ hl
      · intro v X' L' F' H locs t h1 h2 h3 h4 h5
        exact ⟨⟨v, X', L', F', rfl, h1, h2, h3, by rw [h5]; exact h4.1, h4.2.1⟩, h4.2.2.F h5⟩
      · intro H locs h q hq
        exact h.2.2 q hq
    obtain ⟨t, a1, o, b1, b2, b3⟩ := K s₁ hh0 (Stand.of_body B)
    exact ⟨t, o, a1, b1, b2, b3⟩
section
variable {g : Gm} {u v : Mu} {E : Ev} {A : Nat → Prop} {ce sl : Nat} {Q : State → Prop} {X cx : va_W} {L : List Nat} {F : Nat → va_E} {pc : Nat} {lv : List (Nat × Value)} {rest st0 : List Value} {y : MethodName} {av As : List Value} {post : Ps} {P : Prop}
theorem g_throw (C : Cx g muX4_out E A) (T : TT A (gs g) (gs g).heap) (hl : (gl g).stackTraces = false) (h : TH g muX4_out E A Q X L F P) (hp : P) : G g muX4_out E A 0 0 Q X L F 12 lv [] := by
  intro H locs ls hw hl8
  obtain ⟨Qc, XC, free, rfl, hnt, hx, hf⟩ := h
  obtain ⟨⟨sa, hsa⟩, hN, hU1, hU2⟩ := T
  have hR' := C.2.2.2.2.2.2.1
  have hat : ∀ w ∈ vx_atS "MessageCodes" 92 AX anL, w.before (ga g) (gs g) = true := vx_hat (B := ttL) (fun w hw => C.1.2.2.2.2 w (atS_in w hw)) atS_b (fun w hw => va_Nw.use (tt_ot w hw) (hN w hw))
  exact vx_throwS (own := "MessageCodes") (cls := AX) (names := anL) (ik := 88) (is := 90) (ic := 92) (sa := sa) (A := A) C.1.1 C.1.2.1 hl C.1.2.2.2.1 (by decide +kernel) (by decide +kernel) (C.1.2.2.2.2 _ m_405) (C.1.2.2.2.2 _ m_13) hsa hat atS_ot hU1 hU2 hw.2.2 (hl8.1.trans C.1.2.2.1.symm) dX4_out_12 dX4_out_15 dX4_out_16 dX4_out_18 dX4_out_21 (fun x hx => (hnt x hx).elim) (by rw [hR']; decide) (by rw [hR']; decide) (by rw [hR']; decide) (by rw [hR']; decide) C.2.2.2.2.1 (fun t _ h1 h2 => hx H locs t hp hw h1 h2) (hf H locs hw.2.2) (Nat.le_refl _) (Nat.le_refl _)
theorem kT_blind {sz : Nat} {ws : va_W} : FrameBlind (kPcT E av sz ws) := fun a U g mk q => ⟨k_blind a U g mk q.1, q.2.same (u := U) (U := U.calling g mk a) rfl⟩
theorem wd_preT (C : Cx g u E A) (T : TT A (gs g) (gs g).heap) {H : Heap} {locs : List Loc} (is : List Nat) (h : Wd g E A (X ++ va_pl L F) H locs) (hC : is.map (fun i => X[i]?) = cx.map some) (hn : va_nd is = true) : ∀ U : State, U.heap = H → (gs g).WarmedH U.vm → kPcT E av H.size (cx ++ va_pl L F) av.toArray U := by
  intro U hU hW
  refine ⟨wd_pre C is h hC hn U hU hW, ?_⟩
  rw [hU]
  exact ((T.kept h.2.2.2.1).narrow (wd_free is h C.2.2.1 hC)).warm hW
/-- a static call of a method with a table -/
theorem g_callSW {hh : List (Nat × Nat × Nat × Nat)} (C : Cx g u E A) (T : TT A (gs g) (gs g).heap) (M : KW (gl g) E y v hh As cx L F post) (is : List Nat) (hC : is.map (fun i => X[i]?) = cx.map some) (hn : va_nd is = true) {index n : Nat} (hG : GoodIn wB (va_wsS (uO u) index y (.codeWith y v.1 (uL v) (uT v) hh :: wB)))
    (hd : y.cls ≠ "java/lang/invoke/MethodHandle" ∧ y.cls ≠ "java/lang/invoke/VarHandle" ∧ (parseMethodDescriptor y.desc).map (fun d => d.parameters.length) = some n) (hR : uF v + 1 ≤ uF u ∧ 8 + (uL v + 11) + uW v ≤ uW u) (hlen : As.length = n) (hst : As.reverse ++ rest = st0) (hcat : (rest.map fun v => v.category).sum ≤ 8) (hf : ce + uC v ≤ uC u ∧ sl + uS v ≤ uS u) (hdg : decode u.1 pc = .ok (.invokestatic index, 3))
    (k : ∀ (r : Option Value) (cx' : va_W) (L' : List Nat) (F' : Nat → va_E), post r cx' L' F' → cx'.map Prod.fst = cx.map Prod.fst → (∃ N, L' = L ++ N) → G g u E A (ce + uC v) (sl + uS v) Q (rp X is cx') L' F' (pc + 3) lv (r.toList ++ rest)) : G g u E A ce sl Q X L F pc lv st0 := by
  refine g_run (v := v) C is hC hn (a := As.toArray) (fun H locs ls hw hl => ?_) k
  have hR' := C.2.2.2.2.2.2.1
  exact vx_runSW ⟨C.1.1, C.1.2.1, C.1.2.2.1, C.1.2.2.2.1, C.1.2.2.2.2⟩ (M H.size) (vx_cwSW n C.1.2.2.2.2 hG rfl rfl rfl hd (by rw [hR']; exact hR)) ⟨kT_blind, wd_preT C T is hw hC hn⟩ rfl hlen hl.1 hst.symm (lv_room hcat) hdg (by rw [hR']; exact hf)
/-- a virtual call of a method that may throw, where the caller's only table row catches it -/
theorem g_callX (C : Cx g u E A) (T : TT A (gs g) (gs g).heap) {b : Nat} (M : KX (gl g) E y v (.ref b :: As) cx L F post P) (is : List Nat) (hC : is.map (fun i => X[i]?) = cx.map some) (hn : va_nd is = true) (q0 : Nat) {ci : Nat} {fs : List Value} (hq : X[q0]? = some (b, .inr (ci, fs))) {r : vw_C} (hc : vwCl[ci]? = some r) {index n : Nat} (hG : GoodIn wB (wsV (uO u) index r.1 y (wM y v.1 (uL v) (uT v))))
    (hd : y.cls = r.1 ∧ y.cls ≠ "java/lang/invoke/MethodHandle" ∧ y.cls ≠ "java/lang/invoke/VarHandle" ∧ (parseMethodDescriptor y.desc).map (fun d => d.parameters.length) = some n) (hR : uF v + 1 ≤ uF u ∧ 8 + (uL v + 11) + uW v ≤ uW u) (hlen : As.length = n) (hst : As.reverse ++ .ref b :: rest = st0) (hcat : (rest.map fun v => v.category).sum ≤ 8) (hf : ce + uC v ≤ uC u ∧ sl + uS v ≤ uS u) (hdg : decode u.1 pc = .ok (.invokevirtual index, 3))
    {s0 e9 h0 c0 : Nat} (htb : (gc g).exceptionTable.toList = tableOf [(s0, e9, h0, c0)]) (hcv : covers ⟨s0, e9, h0, c0⟩ pc = true) (hc0 : c0 ≠ 0) (hlk : Cond.classLink (uO u) c0 AX ∈ wB)
    (kx : ∀ q : Nat, P → G g u E A (ce + uC v) (sl + uS v) Q (rp X is cx) L F h0 lv [.ref q])
    (k : ∀ (r : Option Value) (cx' : va_W) (L' : List Nat) (F' : Nat → va_E), post r cx' L' F' → cx'.map Prod.fst = cx.map Prod.fst → (∃ N, L' = L ++ N) → G g u E A (ce + uC v) (sl + uS v) Q (rp X is cx') L' F' (pc + 3) lv (r.toList ++ rest)) : G g u E A ce sl Q X L F pc lv st0 := by
  intro H locs ls hw hl T9 hT9 XX
  have hR' := C.2.2.2.2.2.2.1
  have hr := vx_runV (C := r.1) ⟨C.1.1, C.1.2.1, C.1.2.2.1, C.1.2.2.2.1, C.1.2.2.2.2⟩ (M H.size) (cwV n C.1.2.2.2.2 hG rfl rfl rfl hd (by rw [hR']; exact hR)) ⟨kT_blind, va_recv C.2.1 hw.1 hc (xL hq), wd_preT C T is hw hC hn⟩ (g := F0 (gm g) pc ls st0) rfl hlen hl.1 hst.symm (lv_room hcat) hdg (by rw [hR']; exact hf) T9 hT9 XX
  have hfr := wd_free is hw C.2.2.1 hC
  rcases hr with ⟨r1, st₀, t, T', Lc, e0, X', hL, e1, e2, ⟨⟨r', cx', L', F', hv, hp, hff, hN, hP1, hD1⟩, hz, hk⟩, st⟩ | ⟨q, st₀, t, T', Lc, nE, cE, e0, X', hL, e1, e2, ⟨hE, hp, hP1, hz, hk⟩, hcE, hvE, hclE, st⟩
  · cases hv
    rw [e0] at hz hk
    rw [← e1] at hz hk hP1
    have hS : va_S A (gs g).heap T'.heap (locs ++ Lc) := ⟨Nat.le_trans hw.2.2.1 hz, fun q h1 h2 => by
      rw [hk q (Nat.lt_of_lt_of_le h1 hw.2.2.1) (fun z => h2 (hfr q z))]; exact hw.2.2.2.1 q h1 h2, fun q hq => by
      rcases List.mem_append.mp hq with h | h
      · exact hw.2.2.2.2 q h
      · exact hfr _ (hL q h)⟩
    obtain ⟨t2, a1, b1⟩ := k r1 cx' L' F' hp hff hN T'.heap (locs ++ Lc) ls (wd_join is hw C.2.2.1 hC hn hff hN hP1 hD1 hk hS) hl T' rfl X'
    exact ⟨t2, st t2 a1, b1⟩
  · subst hE
    rw [e0] at hz hk
    rw [← e1] at hz hk hP1 hcE
    have hS : va_S A (gs g).heap T'.heap (locs ++ Lc) := ⟨Nat.le_trans hw.2.2.1 hz, fun q h1 h2 => by
      rw [hk q (Nat.lt_of_lt_of_le h1 hw.2.2.1) (fun z => h2 (hfr q z))]; exact hw.2.2.2.1 q h1 h2, fun q hq => by
      rcases List.mem_append.mp hq with h | h
      · exact hw.2.2.2.2 q h
      · exact hfr _ (hL q h)⟩
    have hD1 : va_D (va_A (cx ++ va_pl L F) H.size) (cx ++ va_pl L F) := ((wd_preT C T (av := .ref b :: As) is hw hC hn (T9.setVm (gs g).vm) hT9 (State.WarmedH.refl _)).1.2.2.2.2.1).self
    have hW9 := vx_catch (own := uO u) (name := AX) (E := AX) (pc := pc) (rest := rest) C.1.2.2.2.1 [] ⟨s0, e9, h0, c0⟩ [] htb (fun z hz => nomatch hz) hcv hc0 (C.1.2.2.2.2 _ hlk) (va_Nw.use rfl (T.2.1 _ (by decide))) hcE hvE hclE (kx q hp T'.heap (locs ++ Lc) ls (wd_join is hw C.2.2.1 hC hn rfl nN hP1 hD1 hk hS) hl)
    obtain ⟨t2, a1, b1⟩ := hW9 T' rfl X'
    exact ⟨t2, st.trans a1, b1⟩
end
