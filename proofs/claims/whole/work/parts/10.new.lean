/-! what is made; what is put elsewhere in the world -/
theorem wd_sub {g : Gm} {E : Ev} {A : Nat → Prop} {ws ws' : va_W} {H : Heap} {locs : List Loc} (hm : ∀ q ∈ ws', q ∈ ws) (hn : (ws'.map Prod.fst).Nodup) (h : Wd g E A ws H locs) : Wd g E A ws' H locs :=
  ⟨p_of (fun q hq => p_mem h.1 (hm q hq)), d_of hn (fun a ha => by
    obtain ⟨q, hq, rfl⟩ := List.mem_map.mp ha
    exact d_A h.2.1 _ (List.mem_map.mpr ⟨q, hm q hq, rfl⟩)), h.2.2⟩
theorem wd_nd {g : Gm} {E : Ev} {A : Nat → Prop} {X : va_W} {L : List Nat} {F : Nat → va_E} {H : Heap} {locs : List Loc} (h : Wd g E A (X ++ va_pl L F) H locs) : (X.map Prod.fst ++ L).Nodup := by
  have := d_nd h.2.1
  rwa [List.map_append, pl_fst] at this
section
variable {g : Gm} {u : Mu} {E : Ev} {A : Nat → Prop} {ce sl : Nat} {Q : State → Prop} {X : va_W} {L : List Nat} {F : Nat → va_E} {pc : Nat} {lv : List (Nat × Value)} {rest : List Value}
/-- the same cells in another order, or fewer -/
theorem g_sub {X' : va_W} {L' : List Nat} {F' : Nat → va_E} {st : List Value} (hm : (X.map Prod.fst ++ L).Nodup → (∀ q ∈ X' ++ va_pl L' F', q ∈ X ++ va_pl L F) ∧ (X'.map Prod.fst ++ L').Nodup) (k : G g u E A ce sl Q X' L' F' pc lv st) : G g u E A ce sl Q X L F pc lv st := fun H locs ls hw hl =>
  k H locs ls (wd_sub (hm (wd_nd hw)).1 (by rw [List.map_append, pl_fst]; exact (hm (wd_nd hw)).2) hw) hl
/-- the addresses are apart -/
theorem g_nd {st : List Value} (k : (X.map Prod.fst ++ L).Nodup → G g u E A ce sl Q X L F pc lv st) : G g u E A ce sl Q X L F pc lv st := fun H locs ls hw hl => k (wd_nd hw) H locs ls hw hl
theorem g_cells {ce' sl' : Nat} {st : List Value} (h1 : ce ≤ ce') (h2 : sl ≤ sl') (k : G g u E A ce' sl' Q X L F pc lv st) : G g u E A ce sl Q X L F pc lv st := fun H locs ls hw hl => W.widen h1 h2 (k H locs ls hw hl)
/-- Object's constructor -/
theorem g_obj (C : Cx g u E A) {index a : Nat} (hlk : Cond.methodLink (uO u) index Lib.objectInit ∈ wB) (hin : Cond.instanceMethod Lib.objectInit ∈ wB) (hcd : Cond.code Lib.objectInit ⟨#[0xb1]⟩ 1 none ∈ wB) (hF : 1 ≤ uF u) (hW : (rest.map fun v => v.category).sum + 12 ≤ uW u) (hdg : decode u.1 pc = .ok (.invokespecial index, 3)) (k : G g u E A ce sl Q X L F (pc + 3) lv rest) : G g u E A ce sl Q X L F pc lv (.ref a :: rest) := fun H locs ls hw hl => by
  have hR := C.2.2.2.2.2.2.1
  exact W.objInit C.1.1 C.1.2.1 C.1.2.2.2.1 (C.1.2.2.2.2 _ hlk) (C.1.2.2.2.2 _ hin) (C.1.2.2.2.2 _ hcd) rfl (by rw [C.1.2.2.1]; exact hl.1) rfl hdg (by rw [hR]; exact hF) (by rw [hR]; show 2 * 0 + _ + 12 ≤ uW u; omega) (k H locs ls hw hl)
theorem app_swap {Y : va_W} {c : Nat × va_E} (q : Nat × va_E) : q ∈ (X ++ [c]) ++ Y ↔ q ∈ (X ++ Y) ++ [c] := by
  simp only [List.mem_append]
  constructor
  · rintro ((h | h) | h)
    · exact Or.inl (Or.inl h)
    · exact Or.inr h
    · exact Or.inl (Or.inr h)
  · rintro ((h | h) | h)
    · exact Or.inl (Or.inl h)
    · exact Or.inr h
    · exact Or.inl (Or.inr h)
theorem wd_swap {c : Nat × va_E} {H : Heap} {locs : List Loc} (hP : va_P E.1 vwCl ((X ++ va_pl L F) ++ [c]) H) (hD : va_D A ((X ++ va_pl L F) ++ [c])) (hS : va_S A (gs g).heap H locs) : Wd g E A ((X ++ [c]) ++ va_pl L F) H locs := ⟨hP.swap, hD.swap, hS⟩
theorem g_new (C : Cx g u E A) (ci : Nat) {Cn : String} {T : u_T} {N : Nat} (hc : vwCl[ci]? = some (Cn, T, N)) (hin : ∀ w ∈ u_ws Cn T N, w ∈ wB) (ty : Nat → FieldType) (hty : ∀ k, k < N → parseFieldDescriptor (T k).2.2.1 = some (ty k)) {index : Nat} (hcl : Cond.classLink (uO u) index Cn ∈ wB) (hinst : Cond.instantiable Cn N ∈ wB) (hini : Cond.initialized Cn ∈ wB) {fs : List Value} (hfs : ∀ j, j < N → defaultValue (ty j) = vp_V fs j) (hcells : ce + 1 ≤ uC u) (hslots : sl + N ≤ uS u) (hdg : decode u.1 pc = .ok (.new index, 3))
    (k : ∀ q : Nat, G g u E A (ce + 1) (sl + N) Q (X ++ [(q, .inr (ci, fs))]) L F (pc + 3) lv (.ref q :: rest)) : G g u E A ce sl Q X L F pc lv rest := fun H locs ls hw hl => by
  have hR := C.2.2.2.2.2.2.1
  exact va_new (D := E.1) C.1.1 C.1.2.1 C.1.2.2.2.2 hin ty hty C.1.2.2.2.1 (C.1.2.2.2.2 _ hcl) (C.1.2.2.2.2 _ hinst) (C.1.2.2.2.2 _ hini) C.2.1 hw.1 hw.2.1 hw.2.2 C.2.2.1 hc hfs (by rw [hR]; exact hcells) (by rw [hR]; exact hslots) hdg (fun q H1 hP hD hS => k q H1 locs ls (wd_swap hP hD hS) hl)
theorem g_newI (C : Cx g u E A) {n : Int32} (N : Nat) (harr : Cond.arrayClass .int ∈ wB) (hn : ¬ n < 0) (hN : n.toNatClampNeg = N) (hb : N * 4 ≤ 536870912) (hcells : ce + 1 ≤ uC u) (hslots : sl + N ≤ uS u) (hdg : decode u.1 pc = .ok (.newarray .int, 2))
    (k : ∀ q : Nat, G g u E A (ce + 1) (sl + N) Q (X ++ [(q, aI E N (fun _ => 0))]) L F (pc + 2) lv (.ref q :: rest)) : G g u E A ce sl Q X L F pc lv (.int n :: rest) := fun H locs ls hw hl => by
  have hR := C.2.2.2.2.2.2.1
  refine va_newa (D := E.1) (a0 := (N, .inl (fun _ => 0))) (atype := .int) (ty := .int) C.1.1 C.1.2.1 (C.1.2.2.2.2 _ harr) rfl C.2.1 hw.1 hw.2.1 hw.2.2 C.2.2.1 (fun cA => rfl) hn hN hb (by rw [hR]; exact hcells) (by rw [hR]; exact hslots) hdg (fun q cA H1 hK hP hD hS => ?_)
  have e : cA = E.2.1 := Option.some.inj (((hK.2 5 (cA, .int) rfl).2 : va_RA (gs g) cA .int).symm.trans (C.2.1.2 0 (E.2.1, .int) rfl).2)
  subst e
  exact k q H1 locs ls (wd_swap hP hD hS) hl
theorem g_newJ (C : Cx g u E A) {n : Int32} (N : Nat) (harr : Cond.arrayClass .long ∈ wB) (hn : ¬ n < 0) (hN : n.toNatClampNeg = N) (hb : N * 8 ≤ 536870912) (hcells : ce + 1 ≤ uC u) (hslots : sl + N ≤ uS u) (hdg : decode u.1 pc = .ok (.newarray .long, 2))
    (k : ∀ q : Nat, G g u E A (ce + 1) (sl + N) Q (X ++ [(q, aJ E N (fun _ => 0))]) L F (pc + 2) lv (.ref q :: rest)) : G g u E A ce sl Q X L F pc lv (.int n :: rest) := fun H locs ls hw hl => by
  have hR := C.2.2.2.2.2.2.1
  refine va_newa (D := E.1) (a0 := (N, .inr (.inl (fun _ => 0)))) (atype := .long) (ty := .long) C.1.1 C.1.2.1 (C.1.2.2.2.2 _ harr) rfl C.2.1 hw.1 hw.2.1 hw.2.2 C.2.2.1 (fun cA => rfl) hn hN hb (by rw [hR]; exact hcells) (by rw [hR]; exact hslots) hdg (fun q cA H1 hK hP hD hS => ?_)
  have e : cA = E.2.2.1 := Option.some.inj (((hK.2 5 (cA, .long) rfl).2 : va_RA (gs g) cA .long).symm.trans (C.2.1.2 1 (E.2.2.1, .long) rfl).2)
  subst e
  exact k q H1 locs ls (wd_swap hP hD hS) hl
theorem g_newZ (C : Cx g u E A) {n : Int32} (N : Nat) (harr : Cond.arrayClass .boolean ∈ wB) (hn : ¬ n < 0) (hN : n.toNatClampNeg = N) (hb : N * 1 ≤ 536870912) (hcells : ce + 1 ≤ uC u) (hslots : sl + N ≤ uS u) (hdg : decode u.1 pc = .ok (.newarray .boolean, 2))
    (k : ∀ q : Nat, G g u E A (ce + 1) (sl + N) Q (X ++ [(q, aZ E N (fun _ => 0))]) L F (pc + 2) lv (.ref q :: rest)) : G g u E A ce sl Q X L F pc lv (.int n :: rest) := fun H locs ls hw hl => by
  have hR := C.2.2.2.2.2.2.1
  refine va_newa (D := E.1) (a0 := (N, .inl (fun _ => 0))) (atype := .boolean) (ty := .boolean) C.1.1 C.1.2.1 (C.1.2.2.2.2 _ harr) rfl C.2.1 hw.1 hw.2.1 hw.2.2 C.2.2.1 (fun cA => rfl) hn hN hb (by rw [hR]; exact hcells) (by rw [hR]; exact hslots) hdg (fun q cA H1 hK hP hD hS => ?_)
  have e : cA = E.2.2.2.1 := Option.some.inj (((hK.2 5 (cA, .boolean) rfl).2 : va_RA (gs g) cA .boolean).symm.trans (C.2.1.2 2 (E.2.2.2.1, .boolean) rfl).2)
  subst e
  exact k q H1 locs ls (wd_swap hP hD hS) hl
theorem ra_o {U : State} {a b : ClassId} {Cn : String} (h1 : va_RA U a (.object Cn)) (h2 : va_RA U b (.object Cn)) : a = b := by
  obtain ⟨_, _, -, -, -, e1⟩ := h1
  obtain ⟨_, _, -, -, -, e2⟩ := h2
  exact Option.some.inj (e1.symm.trans e2)
theorem g_newK (C : Cx g u E A) {n : Int32} (N : Nat) {index : Nat} (hcl : Cond.classLink (uO u) index "MessageCodes$Key" ∈ wB) (hn : ¬ n < 0) (hN : n.toNatClampNeg = N) (hb : N * 4 ≤ 536870912) (hcells : ce + 1 ≤ uC u) (hslots : sl + N ≤ uS u) (hdg : decode u.1 pc = .ok (.anewarray index, 3))
    (k : ∀ q : Nat, G g u E A (ce + 1) (sl + N) Q (X ++ [(q, aK E N (fun _ => none))]) L F (pc + 3) lv (.ref q :: rest)) : G g u E A ce sl Q X L F pc lv (.int n :: rest) := fun H locs ls hw hl => by
  have hR := C.2.2.2.2.2.2.1
  refine va_newq (D := E.1) C.1.1 C.1.2.1 C.1.2.2.2.1 (C.1.2.2.2.2 _ hcl) C.2.2.2.2.2.2.2.2.2.1 C.2.1 hw.1 hw.2.1 hw.2.2 C.2.2.1 hn hN hb (by rw [hR]; exact hcells) (by rw [hR]; exact hslots) hdg (fun q cA H1 hK hP hD hS => ?_)
  have e : cA = E.2.2.2.2.1 := ra_o (hK.2 5 (cA, .object "MessageCodes$Key") rfl).2 (C.2.1.2 3 (E.2.2.2.2.1, .object "MessageCodes$Key") rfl).2
  subst e
  exact k q H1 locs ls (wd_swap hP hD hS) hl
theorem g_newS (C : Cx g u E A) {n : Int32} (N : Nat) {index : Nat} (hcl : Cond.classLink (uO u) index "MessageCodes$Sender" ∈ wB) (hn : ¬ n < 0) (hN : n.toNatClampNeg = N) (hb : N * 4 ≤ 536870912) (hcells : ce + 1 ≤ uC u) (hslots : sl + N ≤ uS u) (hdg : decode u.1 pc = .ok (.anewarray index, 3))
    (k : ∀ q : Nat, G g u E A (ce + 1) (sl + N) Q (X ++ [(q, aS E N (fun _ => none))]) L F (pc + 3) lv (.ref q :: rest)) : G g u E A ce sl Q X L F pc lv (.int n :: rest) := fun H locs ls hw hl => by
  have hR := C.2.2.2.2.2.2.1
  refine va_newq (D := E.1) C.1.1 C.1.2.1 C.1.2.2.2.1 (C.1.2.2.2.2 _ hcl) C.2.2.2.2.2.2.2.2.2.2 C.2.1 hw.1 hw.2.1 hw.2.2 C.2.2.1 hn hN hb (by rw [hR]; exact hcells) (by rw [hR]; exact hslots) hdg (fun q cA H1 hK hP hD hS => ?_)
  have e : cA = E.2.2.2.2.2 := ra_o (hK.2 5 (cA, .object "MessageCodes$Sender") rfl).2 (C.2.1.2 4 (E.2.2.2.2.2, .object "MessageCodes$Sender") rfl).2
  subst e
  exact k q H1 locs ls (wd_swap hP hD hS) hl
/-- an object is put into a row of objects: both are explicit cells -/
theorem g_kastore (C : Cx g u E A) {a v : Nat} (q qk : Nat) {n : Nat} {f : Nat → Option Nat} {vs : List Value} (he : X[q]? = some (a, aK E n f)) (hv : X[qk]? = some (v, .inr (4, vs))) {i : Int32} (hin : vp_in i n) {X' : va_W} (hX : X.set q (a, aK E n (va_up f i.toNatClampNeg (some v))) = X') (hdg : decode u.1 pc = .ok (.aastore, 1))
    (k : G g u E A ce sl Q X' L F (pc + 1) lv rest) : G g u E A ce sl Q X L F pc lv (.ref v :: .int i :: .ref a :: rest) := fun H locs ls hw hl => va_astq (D := E.1) (r := (RX2, TX2, 3)) C.1.1 C.1.2.1 C.2.1 hw.1 hw.2.1 hw.2.2 q 3 qk 4 (xL he) rfl (xL hv) rfl hin hdg (fun H1 locs1 hP hD hS => by
    rw [xS he, hX] at hP hD
    exact k H1 locs1 ls ⟨hP, hD, hS⟩ hl)
theorem g_sastore (C : Cx g u E A) {a v : Nat} (q qk : Nat) {n : Nat} {f : Nat → Option Nat} {vs : List Value} (he : X[q]? = some (a, aS E n f)) (hv : X[qk]? = some (v, .inr (5, vs))) {i : Int32} (hin : vp_in i n) {X' : va_W} (hX : X.set q (a, aS E n (va_up f i.toNatClampNeg (some v))) = X') (hdg : decode u.1 pc = .ok (.aastore, 1))
    (k : G g u E A ce sl Q X' L F (pc + 1) lv rest) : G g u E A ce sl Q X L F pc lv (.ref v :: .int i :: .ref a :: rest) := fun H locs ls hw hl => va_astq (D := E.1) (r := (RX3, TX3, 4)) C.1.1 C.1.2.1 C.2.1 hw.1 hw.2.1 hw.2.2 q 4 qk 5 (xL he) rfl (xL hv) rfl hin hdg (fun H1 locs1 hP hD hS => by
    rw [xS he, hX] at hP hD
    exact k H1 locs1 ls ⟨hP, hD, hS⟩ hl)
end
