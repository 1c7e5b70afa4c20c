/-! THE CLAIM OUT OF ONE WALK OF THE LAW'S BODY. Your part is whole_start (and what it stands on); all else here is the same for every law, but numbers. -/
def R_law : String := "MessageCodesLaw"
def lw_P (b : Addr) (xs : List Int32) (args : Array Value) (s : State) : Prop := args = #[.ref b] ∧ s.IntsAt b xs ∧ xs.length ≤ 2560 ∧ (Jvm.Cond.and given_1 narrow_1).before args s = true
def lw_Q (_ : Array Value) (s : State) (o : Outcome) (t : State) : Prop := o = .returned (some (.int 1)) ∧ Framed s o t [] 603072 7190633
def lw_Z (below : List Frame) (a : Array Value) (s : State) : State → Prop := fun t => ∃ o, t.status = .running ∧ Ended t below o ∧ lw_Q a s o t
/-- the law's own end, with 1 on the stack, nothing written that was there before, its room as the claim has it -/
theorem lw_ret {p : Program} {l : Launch} {e : Env} {s : State} {m : MethodId} {below : List Frame} {meth : Method} {c : Code} {b : Nat} (hx : p.tables.exec = Jvm.exec) (hb : c.code = code) (hr : meth.sig.returnType = ret) (hlocks : meth.locks = false) {pc : Nat} {H : Heap} {ls : Array Slot} (hdg : decode code pc = .ok (.ireturn, 1)) : W p l e room_1 s m #[Value.ref b] below meth c H [] 603072 7190633 (lw_Z below #[Value.ref b] s) (F0 m pc ls [.int 1]) := by
  intro T hT X
  obtain ⟨fs, hret, hrun, hended, hW, hframe⟩ := X.leave (v := some (.int 1)) (hlocks := hlocks) (fun h => by rw [hr] at h; cases h)
  have hmeth' : T.vm.method? m = some meth := X.method'
  refine ⟨T.setFrames fs, ?_, .returned (some (.int 1)), hrun, hended, rfl, ⟨_, rfl⟩, hW, hframe⟩
  jvm_step X.here [X.here.top, hx, hb, hdg, hmeth', hr, ret, narrow_b1]
  (try refine ⟨rfl, ?_⟩); (try refine ⟨rfl, ?_⟩)
  first | (intro acts; rw [hret _ acts rfl rfl rfl]) | rw [hret _ _ rfl rfl rfl]
  exact Steps.refl _
/-- what holds at the law's entry: the machine, the code, the tables' words (any of lw_tbl by 'hts w (by decide +kernel)'), the script of L ints xs at the cell b, what the Statement gives of the start (any of its parts by flat_of_before) -/
def lw_At (p : Program) (s : State) (m : MethodId) (meth : Method) (c : Code) (b L : Nat) (xs : Nat → Int32) : Prop :=
  p.tables.exec = Jvm.exec ∧ c.code = code ∧ meth.sig.returnType = ret ∧ c.maxLocals = 7 ∧ s.vm.findClass R_law = some m.cls ∧ (∀ w ∈ lw_tbl, w.before #[Value.ref b] s = true) ∧ va_X b L xs s s.heap ∧ b < s.heap.size ∧ meth.locks = false ∧ (Jvm.Cond.and given_1 narrow_1).before #[Value.ref b] s = true
theorem tbm {w : Cond} (i : Nat) (h : tables_1[i]? = some w) : w ∈ lw_tbl := List.mem_append_right _ (List.mem_of_getElem? h)
theorem inJ0 : ∀ w ∈ u_ws RJ0 TJ0 2, w ∈ wB := wB_u [397, 399] (by decide +kernel) (by decide +kernel)
theorem inJx : ∀ w ∈ u_ws RJx00060 TJx00060 6, w ∈ wB := wB_u [363, 365, 367, 369, 371, 373] (by decide +kernel) (by decide +kernel)
theorem arr_of {s : State} {cA : ClassId} {kA : Class} {comp : ClassId} {ty : FieldType} (h2 : s.vm.classes[cA]? = some kA) (h3 : kA.kind = .array comp ty) : ArrOfT s cA ty := fun n z => ⟨fun k h => (by cases h), kA, h2, comp, h3⟩
theorem mkE {s : State} {args : Array Value} (hts : ∀ w ∈ lw_tbl, w.before args s = true) : ∃ E : Ev, va_K E.1 vwCl (tyE E) s := by
  have hw : ∀ w ∈ wB, w.before args s = true := fun w hw => hts w (List.mem_filter.mp hw).1
  obtain ⟨k0, i0, h0⟩ := u_known hw inJ0 (hw _ m_395)
  obtain ⟨k1, i1, h1⟩ := u_known hw inJx (hw _ m_328)
  obtain ⟨k2, i2, h2⟩ := u_known hw inX0 (hw _ m_29)
  obtain ⟨k3, i3, h3⟩ := u_known hw inX1 (hw _ m_43)
  obtain ⟨k4, i4, h4⟩ := u_known hw inX2 (hw _ m_120)
  obtain ⟨k5, i5, h5⟩ := u_known hw inX3 (hw _ m_62)
  obtain ⟨k6, i6, h6⟩ := u_known hw inX4 (hw _ m_17)
  obtain ⟨k7, i7, h7⟩ := u_known hw inX5 (hw _ m_409)
  obtain ⟨a0, b0, c0, p0, q0, r0⟩ := Cond.arrayClass_spec (type := .int) (hts _ (tbm 41 (by decide +kernel)))
  obtain ⟨a1, b1, c1, p1, q1, r1⟩ := Cond.arrayClass_spec (type := .long) (hts _ (tbm 478 (by decide +kernel)))
  obtain ⟨a2, b2, c2, p2, q2, r2⟩ := Cond.arrayClass_spec (type := .boolean) (hts _ (tbm 479 (by decide +kernel)))
  obtain ⟨c3, a3, b3, o3, -, q3, r3, p3⟩ := Cond.arrayOver_spec (n := "MessageCodes$Key") (hts _ (tbm 25 (by decide +kernel)))
  obtain ⟨c4, a4, b4, o4, -, q4, r4, p4⟩ := Cond.arrayOver_spec (n := "MessageCodes$Sender") (hts _ (tbm 27 (by decide +kernel)))
  refine ⟨((fun c => match c with | 0 => k0 | 1 => k1 | 2 => k2 | 3 => k3 | 4 => k4 | 5 => k5 | 6 => k6 | _ => k7, fun c => match c with | 0 => i0 | 1 => i1 | 2 => i2 | 3 => i3 | 4 => i4 | 5 => i5 | 6 => i6 | _ => i7), (a0, a1, a2, a3, a4)), ?_, ?_⟩
  · intro c q hq
    match c, hq with
    | 0, hq => cases hq; exact h0
    | 1, hq => cases hq; exact h1
    | 2, hq => cases hq; exact h2
    | 3, hq => cases hq; exact h3
    | 4, hq => cases hq; exact h4
    | 5, hq => cases hq; exact h5
    | 6, hq => cases hq; exact h6
    | 7, hq => cases hq; exact h7
    | c + 8, hq => cases hq
  · intro k q hq
    match k, hq with
    | 0, hq => cases hq; exact ⟨arr_of q0 r0, p0⟩
    | 1, hq => cases hq; exact ⟨arr_of q1 r1, p1⟩
    | 2, hq => cases hq; exact ⟨arr_of q2 r2, p2⟩
    | 3, hq => cases hq; exact ⟨arr_of q3 r3, b3, c3, q3, r3, o3, p3⟩
    | 4, hq => cases hq; exact ⟨arr_of q4 r4, b4, c4, q4, r4, o4, p4⟩
    | k + 5, hq => cases hq
theorem tb_eq : ((flatC (Jvm.Cond.and given_1 narrow_1)).drop 7).take 256 = (List.range 256).map (fun j => Cond.eq (.elem (.static "MessageCodes" "SUBSTITUTES" "[I") (.int (Int32.ofNat j))) (.int (TB j))) := by decide +kernel
theorem tb_in {j : Nat} (h : j < 256) : Cond.eq (.elem (.static "MessageCodes" "SUBSTITUTES" "[I") (.int (Int32.ofNat j))) (.int (TB j)) ∈ flatC (Jvm.Cond.and given_1 narrow_1) := by
  have h1 : Cond.eq (.elem (.static "MessageCodes" "SUBSTITUTES" "[I") (.int (Int32.ofNat j))) (.int (TB j)) ∈ (List.range 256).map (fun j => Cond.eq (.elem (.static "MessageCodes" "SUBSTITUTES" "[I") (.int (Int32.ofNat j))) (.int (TB j))) := List.mem_map.mpr ⟨j, List.mem_range.mpr h, rfl⟩
  rw [← tb_eq] at h1
  exact List.mem_of_mem_drop (List.mem_of_mem_take h1)
theorem fl_in {w : Cond} (i : Nat) (h : (flatC (Jvm.Cond.and given_1 narrow_1))[i]? = some w) : w ∈ flatC (Jvm.Cond.and given_1 narrow_1) := List.mem_of_getElem? h
theorem st_of {s : State} {args : Array Value} {A : Nat → Prop} (hts : ∀ w ∈ lw_tbl, w.before args s = true) (hs : ∀ c ∈ flatC (Jvm.Cond.and given_1 narrow_1), c.before args s = true) (hA : ∀ a : Nat, a < s.heap.size → ¬ A a) : Stt A s s.heap := by
  obtain ⟨t, ht, hT⟩ := va_Tof (tm := .static "MessageCodes" "SUBSTITUTES" "[I") (ty := .int) (N := 256) (f := fun j => .int (TB j)) (A := A) (by decide) (hs _ (fl_in 5 (by decide +kernel))) (va_eqt (z := 256) (hs _ (fl_in 6 (by decide +kernel)))) (fun j hj => va_eqt (hs _ (tb_in hj))) hA
  exact ⟨t, va_Zof (hts _ (tbm 174 (by decide +kernel))) (hts _ (tbm 1 (by decide +kernel))) ht hA, hT⟩
theorem nn_eq : nnL = ([175, 170, 30, 121] : List Nat).filterMap (fun i => tables_1[i]?) := by decide +kernel
theorem tt_eq : ttL = ([378, 380, 382, 384, 376] : List Nat).filterMap (fun i => tables_1[i]?) := by decide +kernel
theorem fm_in {w : Cond} {ps : List Nat} (h : w ∈ ps.filterMap (fun i => tables_1[i]?)) : w ∈ lw_tbl := by
  obtain ⟨i, -, hi⟩ := List.mem_filterMap.mp h
  exact tbm i hi
theorem nn_of {s : State} {args : Array Value} (hts : ∀ w ∈ lw_tbl, w.before args s = true) : NN s :=
  ⟨fun w hw => va_Nw.of (nn_all (P := fun w => w.onTables = true) (fun _ _ _ _ => rfl) w hw) (hts w (fm_in (by rw [← nn_eq]; exact hw))), va_AO.of (hts _ (tbm 25 (by decide +kernel))), va_AO.of (hts _ (tbm 27 (by decide +kernel)))⟩
theorem tt_of {s : State} {args : Array Value} {A : Nat → Prop} (hts : ∀ w ∈ lw_tbl, w.before args s = true) (hs : ∀ c ∈ flatC (Jvm.Cond.and given_1 narrow_1), c.before args s = true) (hA : ∀ a : Nat, a < s.heap.size → ¬ A a) : TT A s s.heap := by
  obtain ⟨a, c, cA, kA, q1, -⟩ := Cond.exactly_spec (args := args) (first := s) (o := none) (s := s) (idx := []) (t := .string "MessageCodes" 90) (cls := "java/lang/String") (hs _ (fl_in 271 (by decide +kernel)))
  refine ⟨⟨a, vk_R.of (hts _ (tbm 406 (by decide +kernel))) q1⟩, fun w hw => va_Nw.of (tt_ot w hw) (hts w (fm_in (by rw [← tt_eq]; exact hw))), ?_, ?_⟩
  · exact vx_Zqof (hts _ (tbm 345 (by decide +kernel))) (hts _ (tbm 9 (by decide +kernel))) (hs _ (fl_in 263 (by decide +kernel))) hA
  · exact vx_Zqof (hts _ (tbm 347 (by decide +kernel))) (hts _ (tbm 9 (by decide +kernel))) (hs _ (fl_in 264 (by decide +kernel))) hA
set_option maxHeartbeats 4000000 in
/-- from the entry, for every script of at most 2560 ints, the law comes to its end with true -/
theorem whole_start {p : Program} {e : Env} {s : State} {m : MethodId} {below : List Frame} {meth : Method} {c : Code} (l : Launch) (hl : l.stackTraces = false) {b L : Nat} {xs : Nat → Int32} (hL : L ≤ 2560) (C0 : lw_At p s m meth c b L xs) : W p l e room_1 s m #[Value.ref b] below meth c s.heap [] 0 0 (lw_Z below #[Value.ref b] s) (entryFrame m ([Value.ref b] : List Value).toArray 7) := by
  obtain ⟨hx, hb, hr, hml, hown, hts, hX, hbl, hlk, hgv⟩ := C0
  have hs := flat_of_before _ hgv
  have hA : ∀ a : Nat, a < s.heap.size → ¬ (fun q : Nat => s.heap.size ≤ q) a := fun a h z => absurd h (Nat.not_lt.mpr z)
  obtain ⟨E, hK⟩ := mkE hts
  have C : Cx (p, l, e, room_1, s, m, #[Value.ref b], below, meth, c) (muL meth.name) E (fun q => s.heap.size ≤ q) := ⟨⟨hx, hb, hml, hown, fun w hw => hts w (List.mem_filter.mp hw).1⟩, hK, fun q h => h, hr, hlk, rfl, rfl, st_of hts hs hA, nn_of hts⟩
  have T : TT (fun q : Nat => s.heap.size ≤ q) s s.heap := tt_of hts hs hA
  have hlv := lv_entry ([Value.ref b] : List Value) (n := 7) (Nat.le_of_ble_eq_true rfl)
  rw [lg_entry_eq]
  refine law_start (nm := meth.name) (Q := lw_Z below #[Value.ref b] s) C T hl ⟨hX, hbl, hA b hbl⟩ hL ?_ s.heap [] _ ⟨fun k q h => (by cases h), ⟨fun i j p q h => (by cases h), fun k q h => (by cases h)⟩, va_S.rf⟩ hlv
  intro X L' F lv ce sl h1 h2
  refine g_iconst (v := 1) C dL_law_645 (by decide) ?_
  intro H locs ls hw hl9
  exact va_forget (fun q hq => hw.2.2.2.2 q hq) (W.widen h1 h2 (lw_ret hx hb hr hlk dL_law_646))
