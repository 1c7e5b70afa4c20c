/-- machine, launch, environment, room, start, method, arguments, frames below, its record, its code -/
abbrev Gm : Type := Program × Launch × Env × Room × State × MethodId × Array Value × List Frame × Method × Code
abbrev gp (g : Gm) : Program := g.1
abbrev gl (g : Gm) : Launch := g.2.1
abbrev ge (g : Gm) : Env := g.2.2.1
abbrev gR (g : Gm) : Room := g.2.2.2.1
abbrev gs (g : Gm) : State := g.2.2.2.2.1
abbrev gm (g : Gm) : MethodId := g.2.2.2.2.2.1
abbrev ga (g : Gm) : Array Value := g.2.2.2.2.2.2.1
abbrev gb (g : Gm) : List Frame := g.2.2.2.2.2.2.2.1
abbrev gt (g : Gm) : Method := g.2.2.2.2.2.2.2.2.1
abbrev gc (g : Gm) : Code := g.2.2.2.2.2.2.2.2.2
/-- a method: code, locals, class, answer's type, name; frames, cells, slots, locals' words of its room -/
abbrev Mu : Type := ByteArray × Nat × String × Option FieldType × String × Nat × Nat × Nat × Nat
abbrev uL (u : Mu) : Nat := u.2.1
abbrev uO (u : Mu) : String := u.2.2.1
abbrev uT (u : Mu) : Option FieldType := u.2.2.2.1
abbrev uN (u : Mu) : String := u.2.2.2.2.1
abbrev uF (u : Mu) : Nat := u.2.2.2.2.2.1
abbrev uC (u : Mu) : Nat := u.2.2.2.2.2.2.1
abbrev uS (u : Mu) : Nat := u.2.2.2.2.2.2.2.1
abbrev uW (u : Mu) : Nat := u.2.2.2.2.2.2.2.2
abbrev uR (u : Mu) : Room := { frames := uF u, cells := uC u, slots := uS u, locals := uW u }
/-- what is known of the classes: their numbers and slots; the classes of int[], long[], boolean[], Key[], Sender[] -/
abbrev Ev : Type := va_G × (ClassId × ClassId × ClassId × ClassId × ClassId)
abbrev tyE (E : Ev) : List (ClassId × FieldType) := [(E.2.1, .int), (E.2.2.1, .long), (E.2.2.2.1, .boolean), (E.2.2.2.2.1, .object "MessageCodes$Key"), (E.2.2.2.2.2, .object "MessageCodes$Sender")]
abbrev aI (E : Ev) (n : Nat) (f : Nat → Int32) : va_E := .inl (E.2.1, n, .inl f)
abbrev aJ (E : Ev) (n : Nat) (f : Nat → Int64) : va_E := .inl (E.2.2.1, n, .inr (.inl f))
abbrev aZ (E : Ev) (n : Nat) (f : Nat → Int32) : va_E := .inl (E.2.2.2.1, n, .inl f)
abbrev aK (E : Ev) (n : Nat) (f : Nat → Option Nat) : va_E := .inl (E.2.2.2.2.1, n, .inr (.inr (.inr (.inr f))))
abbrev aS (E : Ev) (n : Nat) (f : Nat → Option Nat) : va_E := .inl (E.2.2.2.2.2, n, .inr (.inr (.inr (.inr f))))
/-- the table of the class: S(x) of the document -/
def tbL : List Int32 := [99, 124, 119, 123, 242, 107, 111, 197, 48, 1, 103, 43, 254, 215, 171, 118, 202, 130, 201, 125, 250, 89, 71, 240, 173, 212, 162, 175, 156, 164, 114, 192, 183, 253, 147, 38, 54, 63, 247, 204, 52, 165, 229, 241, 113, 216, 49, 21, 4, 199, 35, 195, 24, 150, 5, 154, 7, 18, 128, 226, 235, 39, 178, 117, 9, 131, 44, 26, 27, 110, 90, 160, 82, 59, 214, 179, 41, 227, 47, 132, 83, 209, 0, 237, 32, 252, 177, 91, 106, 203, 190, 57, 74, 76, 88, 207, 208, 239, 170, 251, 67, 77, 51, 133, 69, 249, 2, 127, 80, 60, 159, 168, 81, 163, 64, 143, 146, 157, 56, 245, 188, 182, 218, 33, 16, 255, 243, 210, 205, 12, 19, 236, 95, 151, 68, 23, 196, 167, 126, 61, 100, 93, 25, 115, 96, 129, 79, 220, 34, 42, 144, 136, 70, 238, 184, 20, 222, 94, 11, 219, 224, 50, 58, 10, 73, 6, 36, 92, 194, 211, 172, 98, 145, 149, 228, 121, 231, 200, 55, 109, 141, 213, 78, 169, 108, 86, 244, 234, 101, 122, 174, 8, 186, 120, 37, 46, 28, 166, 180, 198, 232, 221, 116, 31, 75, 189, 139, 138, 112, 62, 181, 102, 72, 3, 246, 14, 97, 53, 87, 185, 134, 193, 29, 158, 225, 248, 152, 17, 105, 217, 142, 148, 155, 30, 135, 233, 206, 85, 40, 223, 140, 161, 137, 13, 191, 230, 66, 104, 65, 153, 45, 15, 176, 84, 187, 22]
def TB (j : Nat) : Int32 := tbL.getD j 0
def Stt (A : Nat → Prop) (U : State) (H : Heap) : Prop := ∃ t : Nat, va_Z "MessageCodes" "SUBSTITUTES" "[I" (.ref t) A U H ∧ va_T .int t 256 (fun j => .int (TB j)) A U H
def nnL : List Cond := [.methodLinkNest RX0 27 yX4_timesT "MessageCodes", .methodLinkNest RX0 31 yX4_substitute "MessageCodes", .methodLinkNest RX4 33 yX0_init "MessageCodes", .methodLinkNest RX4 54 yX2_init "MessageCodes"]
def NN (U : State) : Prop := (∀ w ∈ nnL, va_Nw w U) ∧ va_AO "MessageCodes$Key" U ∧ va_AO "MessageCodes$Sender" U
theorem nn_all {P : Cond → Prop} (h : ∀ a i x b, P (.methodLinkNest a i x b)) : ∀ w ∈ nnL, P w := by
  intro w hw
  rcases List.mem_cons.mp hw with rfl | hw
  · exact h _ _ _ _
  rcases List.mem_cons.mp hw with rfl | hw
  · exact h _ _ _ _
  rcases List.mem_cons.mp hw with rfl | hw
  · exact h _ _ _ _
  rcases List.mem_cons.mp hw with rfl | hw
  · exact h _ _ _ _
  · cases hw
theorem NN.warm {s U : State} (hW : s.WarmedH U.vm) (h : NN s) : NN U := ⟨fun w hw => (nn_all (P := fun w => va_Nw w s → va_Nw w U) (fun _ _ _ _ z => va_Nw.warmM hW z) w hw) (h.1 w hw), va_AO.moved hW.alike h.2.1, va_AO.moved hW.alike h.2.2⟩
theorem NN.same {u U : State} (e : u.vm = U.vm) (h : NN u) : NN U := ⟨fun w hw => (nn_all (P := fun w => va_Nw w u → va_Nw w U) (fun _ _ _ _ z => va_Nw.same rfl e z) w hw) (h.1 w hw), va_AO.moved (by rw [e]; exact Vm.Alike.refl _) h.2.1, va_AO.moved (by rw [e]; exact Vm.Alike.refl _) h.2.2⟩
theorem Stt.moved {A : Nat → Prop} {u U : State} {H : Heap} (hvm : u.vm.Alike U.vm) (h : Stt A u H) : Stt A U H := by
  obtain ⟨t, h1, h2⟩ := h
  exact ⟨t, va_Z.moved hvm h1, va_T.moved hvm h2⟩
theorem Stt.kept {A : Nat → Prop} {U : State} {H H1 : Heap} (h : Stt A U H) (hq : ∀ a : Nat, a < H.size → ¬ A a → H1[a]? = H[a]?) : Stt A U H1 := by
  obtain ⟨t, h1, h2⟩ := h
  exact ⟨t, h1.kept hq, h2.kept hq⟩
theorem Stt.narrow {A B : Nat → Prop} {U : State} {H : Heap} (h : Stt A U H) (hAB : ∀ q, B q → A q) : Stt B U H := by
  obtain ⟨t, h1, h2⟩ := h
  exact ⟨t, h1.narrow hAB, h2.narrow hAB⟩
/-- a method's surroundings -/
def Cx (g : Gm) (u : Mu) (E : Ev) (A : Nat → Prop) : Prop :=
  ((gp g).tables.exec = Jvm.exec ∧ (gc g).code = u.1 ∧ (gc g).maxLocals = uL u ∧ (gs g).vm.findClass (uO u) = some (gm g).cls ∧ ∀ w ∈ wB, w.before (ga g) (gs g) = true) ∧ va_K E.1 vwCl (tyE E) (gs g) ∧ (∀ q, (gs g).heap.size ≤ q → A q) ∧ (gt g).sig.returnType = uT u ∧ (gt g).locks = false ∧ (gt g).name = uN u ∧ gR g = uR u ∧ Stt A (gs g) (gs g).heap ∧ NN (gs g)
def Wd (g : Gm) (E : Ev) (A : Nat → Prop) (ws : va_W) (H : Heap) (locs : List Loc) : Prop := va_P E.1 vwCl ws H ∧ va_D A ws ∧ va_S A (gs g).heap H locs
/-- from this place, with these locals and this stack, in any heap that holds these cells, the machine comes to Q -/
def G (g : Gm) (u : Mu) (E : Ev) (A : Nat → Prop) (ce sl : Nat) (Q : State → Prop) (X : va_W) (L : List Nat) (F : Nat → va_E) (pc : Nat) (lv : List (Nat × Value)) (st : List Value) : Prop :=
  ∀ (H : Heap) (locs : List Loc) (ls : Array Slot), Wd g E A (X ++ va_pl L F) H locs → lv_has ls (uL u) lv → W (gp g) (gl g) (ge g) (gR g) (gs g) (gm g) (ga g) (gb g) (gt g) (gc g) H locs ce sl Q (F0 (gm g) pc ls st)
def kPc (E : Ev) (av : List Value) (sz : Nat) (ws : va_W) : Array Value → State → Prop := va_Pc av (fun U => U.heap.size = sz ∧ va_P E.1 vwCl ws U.heap ∧ va_K E.1 vwCl (tyE E) U ∧ va_D (fun _ => True) ws ∧ Stt (va_A ws sz) U U.heap ∧ NN U)
abbrev Ps : Type := Option Value → va_W → List Nat → (Nat → va_E) → Prop
def kQc (E : Ev) (sz : Nat) (cx : va_W) (L : List Nat) (F : Nat → va_E) (post : Ps) : Array Value → State → Outcome → State → Prop := fun _ st oc t =>
  (∃ (v : Option Value) (cx' : va_W) (L' : List Nat) (F' : Nat → va_E), oc = .returned v ∧ post v cx' L' F' ∧ cx'.map Prod.fst = cx.map Prod.fst ∧ (∃ N, L' = L ++ N) ∧ va_P E.1 vwCl (cx' ++ va_pl L' F') t.heap ∧ va_D (va_A (cx ++ va_pl L F) sz) (cx' ++ va_pl L' F')) ∧ va_F (va_A (cx ++ va_pl L F) sz) st t
/-- A CONTRACT: with the arguments av, over the cells cx and the pool (L, F), the method returns, and post says what and what holds then -/
def KC (l : Launch) (E : Ev) (y : MethodName) (u : Mu) (av : List Value) (cx : va_W) (L : List Nat) (F : Nat → va_E) (post : Ps) : Prop :=
  ∀ sz : Nat, Met l y (wM y u.1 (uL u) (uT u)) (uR u) (kPc E av sz (cx ++ va_pl L F)) (kQc E sz cx L F post) (uC u) (uS u) (va_A (cx ++ va_pl L F) sz)
/-- leave to return -/
def Rt (g : Gm) (u : Mu) (E : Ev) (A : Nat → Prop) (Q : State → Prop) (cx : va_W) (L : List Nat) (post : Ps) : Prop :=
  ∃ (Qc : Array Value → State → Outcome → State → Prop) (free : Addr → Prop), Q = MQ (gb g) Qc (ga g) (gs g) (uC u) (uS u) free ∧
    (∀ (v : Option Value) (X' : va_W) (L' : List Nat) (F' : Nat → va_E) (H : Heap) (locs : List Loc) (t : State), post v X' L' F' → X'.map Prod.fst = cx.map Prod.fst → (∃ N, L' = L ++ N) → Wd g E A (X' ++ va_pl L' F') H locs → t.heap = H → Qc (ga g) (gs g) (.returned v) t) ∧ ∀ (H : Heap) (locs : List Loc), va_S A (gs g).heap H locs → ∀ q ∈ locs, free q.base
theorem nN {L : List Nat} : ∃ N, L = L ++ N := ⟨[], (List.append_nil L).symm⟩
theorem nNs {L : List Nat} (N : List Nat) : ∃ N', L ++ N = L ++ N' := ⟨N, rfl⟩
theorem K_start {l : Launch} {E : Ev} {y : MethodName} {u : Mu} {av : List Value} {cx : va_W} {L : List Nat} {F : Nat → va_E} {post : Ps} (hy : plainName y.cls = true) (hcls : y.cls = uO u) (hnm : y.name = uN u) (hlen : (lg_sl av).length ≤ uL u)
    (body : ∀ (g : Gm) (A : Nat → Prop) (Q : State → Prop), gl g = l → Cx g u E A → Rt g u E A Q cx L post → G g u E A 0 0 Q cx L F 0 (lv_args 0 av) []) : KC l E y u av cx L F post := by
  intro sz
  refine Met.ofW (cc := u.1) (maxL := uL u) (ret := uT u) hy rfl ?_
  intro p e s m args below meth c s₁ B hml hv
  obtain ⟨rfl, hsz, hP, hK, hD0, hZ, hN⟩ := hv
  have hts := atoms_spec (ws := wM y u.1 (uL u) (uT u)) B.pre
  have hown : s.vm.findClass (uO u) = some m.cls := by rw [← hcls]; exact findClass_of_methodNamed B.named
  have hin : meth.name = uN u := by rw [← hnm]; exact (name_of_methodNamed B.named B.method).1
  subst hsz
  have hD := hD0.self (sz := s.heap.size)
  have hl := lv_entry av (n := uL u) hlen
  rw [lg_entry_eq]
  refine body (p, l, e, uR u, s, m, av.toArray, below, meth, c) (va_A (cx ++ va_pl L F) s.heap.size) _ rfl ⟨⟨B.exec, B.bytes, hml, hown, fun w hw => hts w (List.mem_cons_of_mem _ hw)⟩, hK, fun q h => Or.inr h, B.returns, B.notSynchronized, hin, rfl, hZ, hN⟩ ⟨_, _, rfl, ?_, ?_⟩ s.heap [] _ ⟨hP, hD, va_S.rf⟩ hl
  · intro v X' L' F' H locs t h1 h2 h3 h4 h5
    exact ⟨⟨v, X', L', F', rfl, h1, h2, h3, by rw [h5]; exact h4.1, h4.2.1⟩, h4.2.2.F h5⟩
  · intro H locs h q hq
    exact h.2.2 q hq
section
variable {g : Gm} {u : Mu} {E : Ev} {A : Nat → Prop} {ce sl : Nat} {Q : State → Prop} {X : va_W} {L : List Nat} {F : Nat → va_E} {pc : Nat} {lv : List (Nat × Value)} {rest : List Value}
theorem g_iconst (C : Cx g u E A) {n : Int} {v : Int32} (hdg : decode u.1 pc = .ok (.iconst n, 1)) (hv : Int32.ofInt n = v) (k : G g u E A ce sl Q X L F (pc + 1) lv (.int v :: rest)) : G g u E A ce sl Q X L F pc lv (rest) := fun H locs ls hw hl => lv_iconst C.1.1 C.1.2.1 hdg hv (k H locs ls hw hl)
theorem g_bipush (C : Cx g u E A) {n : Int} {v : Int32} (hdg : decode u.1 pc = .ok (.bipush n, 2)) (hv : (Int8.ofInt n).toInt32 = v) (k : G g u E A ce sl Q X L F (pc + 2) lv (.int v :: rest)) : G g u E A ce sl Q X L F pc lv (rest) := fun H locs ls hw hl => lv_bipush C.1.1 C.1.2.1 hdg hv (k H locs ls hw hl)
theorem g_sipush (C : Cx g u E A) {n : Int} {v : Int32} (hdg : decode u.1 pc = .ok (.sipush n, 3)) (hv : (Int16.ofInt n).toInt32 = v) (k : G g u E A ce sl Q X L F (pc + 3) lv (.int v :: rest)) : G g u E A ce sl Q X L F pc lv (rest) := fun H locs ls hw hl => lv_sipush C.1.1 C.1.2.1 hdg hv (k H locs ls hw hl)
theorem g_lconst (C : Cx g u E A) {n : Fin 2} {v : Int64} (hdg : decode u.1 pc = .ok (.lconst n, 1)) (hv : Int64.ofNat (n : Nat) = v) (k : G g u E A ce sl Q X L F (pc + 1) lv (.long v :: rest)) : G g u E A ce sl Q X L F pc lv (rest) := fun H locs ls hw hl => lv_lconst C.1.1 C.1.2.1 hdg hv (k H locs ls hw hl)
theorem g_iadd (C : Cx g u E A) {x y : Int32} (hdg : decode u.1 pc = .ok (.iadd, 1))  (k : G g u E A ce sl Q X L F (pc + 1) lv (.int (x + y) :: rest)) : G g u E A ce sl Q X L F pc lv (.int y :: .int x :: rest) := fun H locs ls hw hl => lv_iadd C.1.1 C.1.2.1 hdg (k H locs ls hw hl)
theorem g_isub (C : Cx g u E A) {x y : Int32} (hdg : decode u.1 pc = .ok (.isub, 1))  (k : G g u E A ce sl Q X L F (pc + 1) lv (.int (x - y) :: rest)) : G g u E A ce sl Q X L F pc lv (.int y :: .int x :: rest) := fun H locs ls hw hl => lv_isub C.1.1 C.1.2.1 hdg (k H locs ls hw hl)
theorem g_imul (C : Cx g u E A) {x y : Int32} (hdg : decode u.1 pc = .ok (.imul, 1))  (k : G g u E A ce sl Q X L F (pc + 1) lv (.int (x * y) :: rest)) : G g u E A ce sl Q X L F pc lv (.int y :: .int x :: rest) := fun H locs ls hw hl => lv_imul C.1.1 C.1.2.1 hdg (k H locs ls hw hl)
theorem g_iand (C : Cx g u E A) {x y : Int32} (hdg : decode u.1 pc = .ok (.iand, 1))  (k : G g u E A ce sl Q X L F (pc + 1) lv (.int (x &&& y) :: rest)) : G g u E A ce sl Q X L F pc lv (.int y :: .int x :: rest) := fun H locs ls hw hl => lv_iand C.1.1 C.1.2.1 hdg (k H locs ls hw hl)
theorem g_ior (C : Cx g u E A) {x y : Int32} (hdg : decode u.1 pc = .ok (.ior, 1))  (k : G g u E A ce sl Q X L F (pc + 1) lv (.int (x ||| y) :: rest)) : G g u E A ce sl Q X L F pc lv (.int y :: .int x :: rest) := fun H locs ls hw hl => lv_ior C.1.1 C.1.2.1 hdg (k H locs ls hw hl)
theorem g_ixor (C : Cx g u E A) {x y : Int32} (hdg : decode u.1 pc = .ok (.ixor, 1))  (k : G g u E A ce sl Q X L F (pc + 1) lv (.int (x ^^^ y) :: rest)) : G g u E A ce sl Q X L F pc lv (.int y :: .int x :: rest) := fun H locs ls hw hl => lv_ixor C.1.1 C.1.2.1 hdg (k H locs ls hw hl)
theorem g_idiv (C : Cx g u E A) {x y : Int32} (hdg : decode u.1 pc = .ok (.idiv, 1)) (hne : ¬ y = 0) (k : G g u E A ce sl Q X L F (pc + 1) lv (.int (x / y) :: rest)) : G g u E A ce sl Q X L F pc lv (.int y :: .int x :: rest) := fun H locs ls hw hl => lv_idiv C.1.1 C.1.2.1 hdg hne (k H locs ls hw hl)
theorem g_irem (C : Cx g u E A) {x y : Int32} (hdg : decode u.1 pc = .ok (.irem, 1)) (hne : ¬ y = 0) (k : G g u E A ce sl Q X L F (pc + 1) lv (.int (x - x / y * y) :: rest)) : G g u E A ce sl Q X L F pc lv (.int y :: .int x :: rest) := fun H locs ls hw hl => lv_irem C.1.1 C.1.2.1 hdg hne (k H locs ls hw hl)
theorem g_ladd (C : Cx g u E A) {x y : Int64} (hdg : decode u.1 pc = .ok (.ladd, 1))  (k : G g u E A ce sl Q X L F (pc + 1) lv (.long (x + y) :: rest)) : G g u E A ce sl Q X L F pc lv (.long y :: .long x :: rest) := fun H locs ls hw hl => lv_ladd C.1.1 C.1.2.1 hdg (k H locs ls hw hl)
theorem g_lsub (C : Cx g u E A) {x y : Int64} (hdg : decode u.1 pc = .ok (.lsub, 1))  (k : G g u E A ce sl Q X L F (pc + 1) lv (.long (x - y) :: rest)) : G g u E A ce sl Q X L F pc lv (.long y :: .long x :: rest) := fun H locs ls hw hl => lv_lsub C.1.1 C.1.2.1 hdg (k H locs ls hw hl)
theorem g_land (C : Cx g u E A) {x y : Int64} (hdg : decode u.1 pc = .ok (.land, 1))  (k : G g u E A ce sl Q X L F (pc + 1) lv (.long (x &&& y) :: rest)) : G g u E A ce sl Q X L F pc lv (.long y :: .long x :: rest) := fun H locs ls hw hl => lv_land C.1.1 C.1.2.1 hdg (k H locs ls hw hl)
theorem g_lor (C : Cx g u E A) {x y : Int64} (hdg : decode u.1 pc = .ok (.lor, 1))  (k : G g u E A ce sl Q X L F (pc + 1) lv (.long (x ||| y) :: rest)) : G g u E A ce sl Q X L F pc lv (.long y :: .long x :: rest) := fun H locs ls hw hl => lv_lor C.1.1 C.1.2.1 hdg (k H locs ls hw hl)
theorem g_lrem (C : Cx g u E A) {x y : Int64} (hdg : decode u.1 pc = .ok (.lrem, 1)) (hne : ¬ y = 0) (k : G g u E A ce sl Q X L F (pc + 1) lv (.long (x - x / y * y) :: rest)) : G g u E A ce sl Q X L F pc lv (.long y :: .long x :: rest) := fun H locs ls hw hl => lv_lrem C.1.1 C.1.2.1 hdg hne (k H locs ls hw hl)
theorem g_ishl (C : Cx g u E A) {x y : Int32} (hdg : decode u.1 pc = .ok (.ishl, 1))  (k : G g u E A ce sl Q X L F (pc + 1) lv (.int (x <<< (y &&& 31)) :: rest)) : G g u E A ce sl Q X L F pc lv (.int y :: .int x :: rest) := fun H locs ls hw hl => lv_ishl C.1.1 C.1.2.1 hdg (k H locs ls hw hl)
theorem g_ishr (C : Cx g u E A) {x y : Int32} (hdg : decode u.1 pc = .ok (.ishr, 1))  (k : G g u E A ce sl Q X L F (pc + 1) lv (.int (x >>> (y &&& 31)) :: rest)) : G g u E A ce sl Q X L F pc lv (.int y :: .int x :: rest) := fun H locs ls hw hl => lv_ishr C.1.1 C.1.2.1 hdg (k H locs ls hw hl)
theorem g_i2l (C : Cx g u E A) {x : Int32} {v : Int64} (hdg : decode u.1 pc = .ok (.i2l, 1)) (hv : x.toInt64 = v) (k : G g u E A ce sl Q X L F (pc + 1) lv (.long v :: rest)) : G g u E A ce sl Q X L F pc lv (.int x :: rest) := fun H locs ls hw hl => lv_i2l C.1.1 C.1.2.1 hdg hv (k H locs ls hw hl)
theorem g_l2i (C : Cx g u E A) {x : Int64} {v : Int32} (hdg : decode u.1 pc = .ok (.l2i, 1)) (hv : x.toInt32 = v) (k : G g u E A ce sl Q X L F (pc + 1) lv (.int v :: rest)) : G g u E A ce sl Q X L F pc lv (.long x :: rest) := fun H locs ls hw hl => lv_l2i C.1.1 C.1.2.1 hdg hv (k H locs ls hw hl)
theorem g_i2b (C : Cx g u E A) {x : Int32} {v : Int32} (hdg : decode u.1 pc = .ok (.i2b, 1)) (hv : x.toInt8.toInt32 = v) (k : G g u E A ce sl Q X L F (pc + 1) lv (.int v :: rest)) : G g u E A ce sl Q X L F pc lv (.int x :: rest) := fun H locs ls hw hl => lv_i2b C.1.1 C.1.2.1 hdg hv (k H locs ls hw hl)
theorem g_iushr (C : Cx g u E A) {x y v : Int32} (hdg : decode u.1 pc = .ok (.iushr, 1)) (hv : (x.toUInt32 >>> (y.toUInt32 &&& Int32.toUInt32 31)).toInt32 = v) (k : G g u E A ce sl Q X L F (pc + 1) lv (.int v :: rest)) : G g u E A ce sl Q X L F pc lv (.int y :: .int x :: rest) := fun H locs ls hw hl => lv_iushr C.1.1 C.1.2.1 hdg hv (k H locs ls hw hl)
theorem g_lshl (C : Cx g u E A) {x v : Int64} {y : Int32} (hdg : decode u.1 pc = .ok (.lshl, 1)) (hv : x <<< (y.toInt64 &&& 63) = v) (k : G g u E A ce sl Q X L F (pc + 1) lv (.long v :: rest)) : G g u E A ce sl Q X L F pc lv (.int y :: .long x :: rest) := fun H locs ls hw hl => lv_lshl C.1.1 C.1.2.1 hdg hv (k H locs ls hw hl)
theorem g_lshr (C : Cx g u E A) {x v : Int64} {y : Int32} (hdg : decode u.1 pc = .ok (.lshr, 1)) (hv : x >>> (y.toInt64 &&& 63) = v) (k : G g u E A ce sl Q X L F (pc + 1) lv (.long v :: rest)) : G g u E A ce sl Q X L F pc lv (.int y :: .long x :: rest) := fun H locs ls hw hl => lv_lshr C.1.1 C.1.2.1 hdg hv (k H locs ls hw hl)
theorem g_dup (C : Cx g u E A) {va : Value} (hdg : decode u.1 pc = .ok (.dup, 1)) (hva : va.category = 1) (k : G g u E A ce sl Q X L F (pc + 1) lv (va :: va :: rest)) : G g u E A ce sl Q X L F pc lv (va :: rest) := fun H locs ls hw hl => lv_dup C.1.1 C.1.2.1 hdg hva (k H locs ls hw hl)
theorem g_pop (C : Cx g u E A) {va : Value} (hdg : decode u.1 pc = .ok (.pop, 1)) (hva : va.category = 1) (k : G g u E A ce sl Q X L F (pc + 1) lv (rest)) : G g u E A ce sl Q X L F pc lv (va :: rest) := fun H locs ls hw hl => lv_pop C.1.1 C.1.2.1 hdg hva (k H locs ls hw hl)
theorem g_dup2_11 (C : Cx g u E A) {va vb : Value} (hdg : decode u.1 pc = .ok (.dup2, 1)) (hva : va.category = 1) (hvb : vb.category = 1) (k : G g u E A ce sl Q X L F (pc + 1) lv (va :: vb :: va :: vb :: rest)) : G g u E A ce sl Q X L F pc lv (va :: vb :: rest) := fun H locs ls hw hl => lv_dup2_11 C.1.1 C.1.2.1 hdg hva hvb (k H locs ls hw hl)
theorem g_null (C : Cx g u E A) (hdg : decode u.1 pc = .ok (.aconst_null, 1)) (k : G g u E A ce sl Q X L F (pc + 1) lv (.null :: rest)) : G g u E A ce sl Q X L F pc lv rest := fun H locs ls hw hl => lv_null C.1.1 C.1.2.1 hdg (k H locs ls hw hl)
theorem g_ifnonnull (C : Cx g u E A) {x : Nat} {off : Int} {tgt : Nat} (hdg : decode u.1 pc = .ok (.ifnonnull off, 3)) (ht : (pc : Int) + off = (tgt : Int)) (k : G g u E A ce sl Q X L F tgt lv rest) : G g u E A ce sl Q X L F pc lv (.ref x :: rest) := fun H locs ls hw hl => lv_ifnonnull C.1.1 C.1.2.1 hdg ht (k H locs ls hw hl)
theorem g_ifnull (C : Cx g u E A) {x : Nat} {off : Int} (hdg : decode u.1 pc = .ok (.ifnull off, 3)) (k : G g u E A ce sl Q X L F (pc + 3) lv rest) : G g u E A ce sl Q X L F pc lv (.ref x :: rest) := fun H locs ls hw hl => lv_ifnull C.1.1 C.1.2.1 hdg (k H locs ls hw hl)
theorem g_ifnullN (C : Cx g u E A) {off : Int} {tgt : Nat} (hdg : decode u.1 pc = .ok (.ifnull off, 3)) (ht : (pc : Int) + off = (tgt : Int)) (k : G g u E A ce sl Q X L F tgt lv rest) : G g u E A ce sl Q X L F pc lv (.null :: rest) := fun H locs ls hw hl => lv_ifnullN C.1.1 C.1.2.1 hdg ht (k H locs ls hw hl)
theorem g_ifnonnullN (C : Cx g u E A) {off : Int} (hdg : decode u.1 pc = .ok (.ifnonnull off, 3)) (k : G g u E A ce sl Q X L F (pc + 3) lv rest) : G g u E A ce sl Q X L F pc lv (.null :: rest) := fun H locs ls hw hl => lv_ifnonnullN C.1.1 C.1.2.1 hdg (k H locs ls hw hl)
theorem g_goto (C : Cx g u E A) {off : Int} {tgt : Nat} (hdg : decode u.1 pc = .ok (.goto off, 3)) (ht : (pc : Int) + off = (tgt : Int)) (k : G g u E A ce sl Q X L F tgt lv rest) : G g u E A ce sl Q X L F pc lv rest := fun H locs ls hw hl => lv_goto C.1.1 C.1.2.1 hdg ht (k H locs ls hw hl)
theorem g_if_eq (C : Cx g u E A) {x : Int32} {off : Int} {tgt : Nat} (hdg : decode u.1 pc = .ok (.ifCond .eq off, 3)) (ht : (pc : Int) + off = (tgt : Int)) (kt : x = 0 → G g u E A ce sl Q X L F tgt lv rest) (kf : ¬ x = 0 → G g u E A ce sl Q X L F (pc + 3) lv rest) : G g u E A ce sl Q X L F pc lv (.int x :: rest) := fun H locs ls hw hl => lv_if_eq C.1.1 C.1.2.1 hdg ht (fun c => kt c H locs ls hw hl) (fun c => kf c H locs ls hw hl)
theorem g_icmp_eq (C : Cx g u E A) {x y : Int32} {off : Int} {tgt : Nat} (hdg : decode u.1 pc = .ok (.if_icmp .eq off, 3)) (ht : (pc : Int) + off = (tgt : Int)) (kt : x = y → G g u E A ce sl Q X L F tgt lv rest) (kf : ¬ x = y → G g u E A ce sl Q X L F (pc + 3) lv rest) : G g u E A ce sl Q X L F pc lv (.int y :: .int x :: rest) := fun H locs ls hw hl => lv_icmp_eq C.1.1 C.1.2.1 hdg ht (fun c => kt c H locs ls hw hl) (fun c => kf c H locs ls hw hl)
theorem g_if_ne (C : Cx g u E A) {x : Int32} {off : Int} {tgt : Nat} (hdg : decode u.1 pc = .ok (.ifCond .ne off, 3)) (ht : (pc : Int) + off = (tgt : Int)) (kt : ¬ x = 0 → G g u E A ce sl Q X L F tgt lv rest) (kf : x = 0 → G g u E A ce sl Q X L F (pc + 3) lv rest) : G g u E A ce sl Q X L F pc lv (.int x :: rest) := fun H locs ls hw hl => lv_if_ne C.1.1 C.1.2.1 hdg ht (fun c => kt c H locs ls hw hl) (fun c => kf c H locs ls hw hl)
theorem g_icmp_ne (C : Cx g u E A) {x y : Int32} {off : Int} {tgt : Nat} (hdg : decode u.1 pc = .ok (.if_icmp .ne off, 3)) (ht : (pc : Int) + off = (tgt : Int)) (kt : ¬ x = y → G g u E A ce sl Q X L F tgt lv rest) (kf : x = y → G g u E A ce sl Q X L F (pc + 3) lv rest) : G g u E A ce sl Q X L F pc lv (.int y :: .int x :: rest) := fun H locs ls hw hl => lv_icmp_ne C.1.1 C.1.2.1 hdg ht (fun c => kt c H locs ls hw hl) (fun c => kf c H locs ls hw hl)
theorem g_if_lt (C : Cx g u E A) {x : Int32} {off : Int} {tgt : Nat} (hdg : decode u.1 pc = .ok (.ifCond .lt off, 3)) (ht : (pc : Int) + off = (tgt : Int)) (kt : x < 0 → G g u E A ce sl Q X L F tgt lv rest) (kf : ¬ x < 0 → G g u E A ce sl Q X L F (pc + 3) lv rest) : G g u E A ce sl Q X L F pc lv (.int x :: rest) := fun H locs ls hw hl => lv_if_lt C.1.1 C.1.2.1 hdg ht (fun c => kt c H locs ls hw hl) (fun c => kf c H locs ls hw hl)
theorem g_icmp_lt (C : Cx g u E A) {x y : Int32} {off : Int} {tgt : Nat} (hdg : decode u.1 pc = .ok (.if_icmp .lt off, 3)) (ht : (pc : Int) + off = (tgt : Int)) (kt : x < y → G g u E A ce sl Q X L F tgt lv rest) (kf : ¬ x < y → G g u E A ce sl Q X L F (pc + 3) lv rest) : G g u E A ce sl Q X L F pc lv (.int y :: .int x :: rest) := fun H locs ls hw hl => lv_icmp_lt C.1.1 C.1.2.1 hdg ht (fun c => kt c H locs ls hw hl) (fun c => kf c H locs ls hw hl)
theorem g_if_ge (C : Cx g u E A) {x : Int32} {off : Int} {tgt : Nat} (hdg : decode u.1 pc = .ok (.ifCond .ge off, 3)) (ht : (pc : Int) + off = (tgt : Int)) (kt : 0 ≤ x → G g u E A ce sl Q X L F tgt lv rest) (kf : ¬ 0 ≤ x → G g u E A ce sl Q X L F (pc + 3) lv rest) : G g u E A ce sl Q X L F pc lv (.int x :: rest) := fun H locs ls hw hl => lv_if_ge C.1.1 C.1.2.1 hdg ht (fun c => kt c H locs ls hw hl) (fun c => kf c H locs ls hw hl)
theorem g_icmp_ge (C : Cx g u E A) {x y : Int32} {off : Int} {tgt : Nat} (hdg : decode u.1 pc = .ok (.if_icmp .ge off, 3)) (ht : (pc : Int) + off = (tgt : Int)) (kt : y ≤ x → G g u E A ce sl Q X L F tgt lv rest) (kf : ¬ y ≤ x → G g u E A ce sl Q X L F (pc + 3) lv rest) : G g u E A ce sl Q X L F pc lv (.int y :: .int x :: rest) := fun H locs ls hw hl => lv_icmp_ge C.1.1 C.1.2.1 hdg ht (fun c => kt c H locs ls hw hl) (fun c => kf c H locs ls hw hl)
theorem g_if_gt (C : Cx g u E A) {x : Int32} {off : Int} {tgt : Nat} (hdg : decode u.1 pc = .ok (.ifCond .gt off, 3)) (ht : (pc : Int) + off = (tgt : Int)) (kt : 0 < x → G g u E A ce sl Q X L F tgt lv rest) (kf : ¬ 0 < x → G g u E A ce sl Q X L F (pc + 3) lv rest) : G g u E A ce sl Q X L F pc lv (.int x :: rest) := fun H locs ls hw hl => lv_if_gt C.1.1 C.1.2.1 hdg ht (fun c => kt c H locs ls hw hl) (fun c => kf c H locs ls hw hl)
theorem g_icmp_gt (C : Cx g u E A) {x y : Int32} {off : Int} {tgt : Nat} (hdg : decode u.1 pc = .ok (.if_icmp .gt off, 3)) (ht : (pc : Int) + off = (tgt : Int)) (kt : y < x → G g u E A ce sl Q X L F tgt lv rest) (kf : ¬ y < x → G g u E A ce sl Q X L F (pc + 3) lv rest) : G g u E A ce sl Q X L F pc lv (.int y :: .int x :: rest) := fun H locs ls hw hl => lv_icmp_gt C.1.1 C.1.2.1 hdg ht (fun c => kt c H locs ls hw hl) (fun c => kf c H locs ls hw hl)
theorem g_if_le (C : Cx g u E A) {x : Int32} {off : Int} {tgt : Nat} (hdg : decode u.1 pc = .ok (.ifCond .le off, 3)) (ht : (pc : Int) + off = (tgt : Int)) (kt : x ≤ 0 → G g u E A ce sl Q X L F tgt lv rest) (kf : ¬ x ≤ 0 → G g u E A ce sl Q X L F (pc + 3) lv rest) : G g u E A ce sl Q X L F pc lv (.int x :: rest) := fun H locs ls hw hl => lv_if_le C.1.1 C.1.2.1 hdg ht (fun c => kt c H locs ls hw hl) (fun c => kf c H locs ls hw hl)
theorem g_icmp_le (C : Cx g u E A) {x y : Int32} {off : Int} {tgt : Nat} (hdg : decode u.1 pc = .ok (.if_icmp .le off, 3)) (ht : (pc : Int) + off = (tgt : Int)) (kt : x ≤ y → G g u E A ce sl Q X L F tgt lv rest) (kf : ¬ x ≤ y → G g u E A ce sl Q X L F (pc + 3) lv rest) : G g u E A ce sl Q X L F pc lv (.int y :: .int x :: rest) := fun H locs ls hw hl => lv_icmp_le C.1.1 C.1.2.1 hdg ht (fun c => kt c H locs ls hw hl) (fun c => kf c H locs ls hw hl)
theorem g_lcmp (C : Cx g u E A) {x y : Int64} (hdg : decode u.1 pc = .ok (.lcmp, 1)) (k : G g u E A ce sl Q X L F (pc + 1) lv (.int (lg_cmp x y) :: rest)) : G g u E A ce sl Q X L F pc lv (.long y :: .long x :: rest) := fun H locs ls hw hl => W.lcmp C.1.1 C.1.2.1 hdg (k H locs ls hw hl)
theorem g_ldc (C : Cx g u E A) {index : Nat} {v : Int32} (hc : Cond.constant (uO u) index v ∈ wB) (hdg : decode u.1 pc = .ok (.ldc index, 2)) (k : G g u E A ce sl Q X L F (pc + 2) lv (.int v :: rest)) : G g u E A ce sl Q X L F pc lv rest := fun H locs ls hw hl => lv_ldc C.1.1 C.1.2.1 C.1.2.2.2.1 (C.1.2.2.2.2 _ hc) hdg (k H locs ls hw hl)
theorem g_ldc_w (C : Cx g u E A) {index : Nat} {v : Int32} (hc : Cond.constant (uO u) index v ∈ wB) (hdg : decode u.1 pc = .ok (.ldc_w index, 3)) (k : G g u E A ce sl Q X L F (pc + 3) lv (.int v :: rest)) : G g u E A ce sl Q X L F pc lv rest := fun H locs ls hw hl => lv_ldcw C.1.1 C.1.2.1 C.1.2.2.2.1 (C.1.2.2.2.2 _ hc) hdg (k H locs ls hw hl)
theorem g_ldc2_w (C : Cx g u E A) {index : Nat} {v : Int64} (hc : Cond.constantLong (uO u) index v ∈ wB) (hdg : decode u.1 pc = .ok (.ldc2_w index, 3)) (k : G g u E A ce sl Q X L F (pc + 3) lv (.long v :: rest)) : G g u E A ce sl Q X L F pc lv rest := fun H locs ls hw hl => lv_ldc2 C.1.1 C.1.2.1 C.1.2.2.2.1 (C.1.2.2.2.2 _ hc) hdg (k H locs ls hw hl)
theorem g_nmi {x : Int32} (k : ∀ y : Int32, y = x → G g u E A ce sl Q X L F pc lv (.int y :: rest)) : G g u E A ce sl Q X L F pc lv (.int x :: rest) := k x rfl
theorem g_nml {x : Int64} (k : ∀ y : Int64, y = x → G g u E A ce sl Q X L F pc lv (.long y :: rest)) : G g u E A ce sl Q X L F pc lv (.long x :: rest) := k x rfl
/-- the number on top is written otherwise -/
theorem g_asi {x y : Int32} (e : x = y) (k : G g u E A ce sl Q X L F pc lv (.int y :: rest)) : G g u E A ce sl Q X L F pc lv (.int x :: rest) := e ▸ k
theorem g_asl {x y : Int64} (e : x = y) (k : G g u E A ce sl Q X L F pc lv (.long y :: rest)) : G g u E A ce sl Q X L F pc lv (.long x :: rest) := e ▸ k
theorem g_iload_n (C : Cx g u E A) {n : Fin 4} {i : Nat} {x : Int32} (hdg : decode u.1 pc = .ok (.iload_n n, 1)) (hi : (n : Nat) = i) (j : Nat) (hj : lv[j]? = some (i, .int x)) (k : G g u E A ce sl Q X L F (pc + 1) lv (.int x :: rest)) : G g u E A ce sl Q X L F pc lv rest := fun H locs ls hw hl => lv_iload_n C.1.1 C.1.2.1 hdg hi (lv_at hl j hj) (k H locs ls hw hl)
theorem g_iload (C : Cx g u E A) {i : Nat} {x : Int32} (hdg : decode u.1 pc = .ok (.iload i, 2)) (j : Nat) (hj : lv[j]? = some (i, .int x)) (k : G g u E A ce sl Q X L F (pc + 2) lv (.int x :: rest)) : G g u E A ce sl Q X L F pc lv rest := fun H locs ls hw hl => lv_iload C.1.1 C.1.2.1 hdg (lv_at hl j hj) (k H locs ls hw hl)
theorem g_istore_n (C : Cx g u E A) {n : Fin 4} {i : Nat} {x : Int32} (hdg : decode u.1 pc = .ok (.istore_n n, 1)) (hi : (n : Nat) = i) (hn : i < uL u) {lv' : List (Nat × Value)} (hl9 : (i, Value.int x) :: lv.filter (fun q => !(q.1 == i) && !(q.1 + 1 == i && q.2.category == 2)) = lv') (k : G g u E A ce sl Q X L F (pc + 1) lv' rest) : G g u E A ce sl Q X L F pc lv (.int x :: rest) := fun H locs ls hw hl => lv_istore_n C.1.1 C.1.2.1 hdg hi hl hn hl9 (fun ls hl => k H locs ls hw hl)
theorem g_istore (C : Cx g u E A) {i : Nat} {x : Int32} (hdg : decode u.1 pc = .ok (.istore i, 2)) (hn : i < uL u) {lv' : List (Nat × Value)} (hl9 : (i, Value.int x) :: lv.filter (fun q => !(q.1 == i) && !(q.1 + 1 == i && q.2.category == 2)) = lv') (k : G g u E A ce sl Q X L F (pc + 2) lv' rest) : G g u E A ce sl Q X L F pc lv (.int x :: rest) := fun H locs ls hw hl => lv_istore C.1.1 C.1.2.1 hdg hl hn hl9 (fun ls hl => k H locs ls hw hl)
theorem g_lload_n (C : Cx g u E A) {n : Fin 4} {i : Nat} {x : Int64} (hdg : decode u.1 pc = .ok (.lload_n n, 1)) (hi : (n : Nat) = i) (j : Nat) (hj : lv[j]? = some (i, .long x)) (k : G g u E A ce sl Q X L F (pc + 1) lv (.long x :: rest)) : G g u E A ce sl Q X L F pc lv rest := fun H locs ls hw hl => lv_lload_n C.1.1 C.1.2.1 hdg hi (lv_at hl j hj) (k H locs ls hw hl)
theorem g_lload (C : Cx g u E A) {i : Nat} {x : Int64} (hdg : decode u.1 pc = .ok (.lload i, 2)) (j : Nat) (hj : lv[j]? = some (i, .long x)) (k : G g u E A ce sl Q X L F (pc + 2) lv (.long x :: rest)) : G g u E A ce sl Q X L F pc lv rest := fun H locs ls hw hl => lv_lload C.1.1 C.1.2.1 hdg (lv_at hl j hj) (k H locs ls hw hl)
theorem g_lstore_n (C : Cx g u E A) {n : Fin 4} {i : Nat} {x : Int64} (hdg : decode u.1 pc = .ok (.lstore_n n, 1)) (hi : (n : Nat) = i) (hn : i + 1 < uL u) {lv' : List (Nat × Value)} (hl9 : (i, Value.long x) :: lv.filter (fun q => !(q.1 == i) && (!(q.1 == i + 1) && !(q.1 + 1 == i && q.2.category == 2))) = lv') (k : G g u E A ce sl Q X L F (pc + 1) lv' rest) : G g u E A ce sl Q X L F pc lv (.long x :: rest) := fun H locs ls hw hl => lv_lstore_n C.1.1 C.1.2.1 hdg hi hl hn hl9 (fun ls hl => k H locs ls hw hl)
theorem g_lstore (C : Cx g u E A) {i : Nat} {x : Int64} (hdg : decode u.1 pc = .ok (.lstore i, 2)) (hn : i + 1 < uL u) {lv' : List (Nat × Value)} (hl9 : (i, Value.long x) :: lv.filter (fun q => !(q.1 == i) && (!(q.1 == i + 1) && !(q.1 + 1 == i && q.2.category == 2))) = lv') (k : G g u E A ce sl Q X L F (pc + 2) lv' rest) : G g u E A ce sl Q X L F pc lv (.long x :: rest) := fun H locs ls hw hl => lv_lstore C.1.1 C.1.2.1 hdg hl hn hl9 (fun ls hl => k H locs ls hw hl)
theorem g_aload_n (C : Cx g u E A) {n : Fin 4} {i : Nat} {x : Nat} (hdg : decode u.1 pc = .ok (.aload_n n, 1)) (hi : (n : Nat) = i) (j : Nat) (hj : lv[j]? = some (i, .ref x)) (k : G g u E A ce sl Q X L F (pc + 1) lv (.ref x :: rest)) : G g u E A ce sl Q X L F pc lv rest := fun H locs ls hw hl => lv_aload_n C.1.1 C.1.2.1 hdg hi (lv_at hl j hj) (k H locs ls hw hl)
theorem g_aload (C : Cx g u E A) {i : Nat} {x : Nat} (hdg : decode u.1 pc = .ok (.aload i, 2)) (j : Nat) (hj : lv[j]? = some (i, .ref x)) (k : G g u E A ce sl Q X L F (pc + 2) lv (.ref x :: rest)) : G g u E A ce sl Q X L F pc lv rest := fun H locs ls hw hl => lv_aload C.1.1 C.1.2.1 hdg (lv_at hl j hj) (k H locs ls hw hl)
theorem g_astore_n (C : Cx g u E A) {n : Fin 4} {i : Nat} {x : Nat} (hdg : decode u.1 pc = .ok (.astore_n n, 1)) (hi : (n : Nat) = i) (hn : i < uL u) {lv' : List (Nat × Value)} (hl9 : (i, Value.ref x) :: lv.filter (fun q => !(q.1 == i) && !(q.1 + 1 == i && q.2.category == 2)) = lv') (k : G g u E A ce sl Q X L F (pc + 1) lv' rest) : G g u E A ce sl Q X L F pc lv (.ref x :: rest) := fun H locs ls hw hl => lv_astore_n C.1.1 C.1.2.1 hdg hi hl hn hl9 (fun ls hl => k H locs ls hw hl)
theorem g_astore (C : Cx g u E A) {i : Nat} {x : Nat} (hdg : decode u.1 pc = .ok (.astore i, 2)) (hn : i < uL u) {lv' : List (Nat × Value)} (hl9 : (i, Value.ref x) :: lv.filter (fun q => !(q.1 == i) && !(q.1 + 1 == i && q.2.category == 2)) = lv') (k : G g u E A ce sl Q X L F (pc + 2) lv' rest) : G g u E A ce sl Q X L F pc lv (.ref x :: rest) := fun H locs ls hw hl => lv_astore C.1.1 C.1.2.1 hdg hl hn hl9 (fun ls hl => k H locs ls hw hl)
theorem g_aload_nN (C : Cx g u E A) {n : Fin 4} {i : Nat} (hdg : decode u.1 pc = .ok (.aload_n n, 1)) (hi : (n : Nat) = i) (j : Nat) (hj : lv[j]? = some (i, .null)) (k : G g u E A ce sl Q X L F (pc + 1) lv (.null :: rest)) : G g u E A ce sl Q X L F pc lv rest := fun H locs ls hw hl => lv_aload_nN C.1.1 C.1.2.1 hdg hi (lv_at hl j hj) (k H locs ls hw hl)
theorem g_aloadN (C : Cx g u E A) {i : Nat} (hdg : decode u.1 pc = .ok (.aload i, 2)) (j : Nat) (hj : lv[j]? = some (i, .null)) (k : G g u E A ce sl Q X L F (pc + 2) lv (.null :: rest)) : G g u E A ce sl Q X L F pc lv rest := fun H locs ls hw hl => lv_aloadN C.1.1 C.1.2.1 hdg (lv_at hl j hj) (k H locs ls hw hl)
theorem g_astore_nN (C : Cx g u E A) {n : Fin 4} {i : Nat} (hdg : decode u.1 pc = .ok (.astore_n n, 1)) (hi : (n : Nat) = i) (hn : i < uL u) {lv' : List (Nat × Value)} (hl9 : (i, Value.null) :: lv.filter (fun q => !(q.1 == i) && !(q.1 + 1 == i && q.2.category == 2)) = lv') (k : G g u E A ce sl Q X L F (pc + 1) lv' rest) : G g u E A ce sl Q X L F pc lv (.null :: rest) := fun H locs ls hw hl => lv_astore_nN C.1.1 C.1.2.1 hdg hi hl hn hl9 (fun ls hl => k H locs ls hw hl)
theorem g_astoreN (C : Cx g u E A) {i : Nat} (hdg : decode u.1 pc = .ok (.astore i, 2)) (hn : i < uL u) {lv' : List (Nat × Value)} (hl9 : (i, Value.null) :: lv.filter (fun q => !(q.1 == i) && !(q.1 + 1 == i && q.2.category == 2)) = lv') (k : G g u E A ce sl Q X L F (pc + 2) lv' rest) : G g u E A ce sl Q X L F pc lv (.null :: rest) := fun H locs ls hw hl => lv_astoreN C.1.1 C.1.2.1 hdg hl hn hl9 (fun ls hl => k H locs ls hw hl)
theorem g_iinc (C : Cx g u E A) {i : Nat} {n : Int} {x : Int32} (hdg : decode u.1 pc = .ok (.iinc i n, 3)) (j : Nat) (hj : lv[j]? = some (i, .int x)) {v : Int32} (hv : x + Int32.ofInt n = v) (hn : i < uL u) {lv' : List (Nat × Value)} (hl9 : (i, Value.int v) :: lv.filter (fun q => !(q.1 == i) && !(q.1 + 1 == i && q.2.category == 2)) = lv') (k : G g u E A ce sl Q X L F (pc + 3) lv' rest) : G g u E A ce sl Q X L F pc lv rest := fun H locs ls hw hl => lv_iinc C.1.1 C.1.2.1 hdg hl hj hv hn hl9 (fun ls hl => k H locs ls hw hl)
/-- fewer locals, in another order -/
theorem g_lv {lv' : List (Nat × Value)} {st : List Value} (ks : List Nat) (h : lv_pick lv ks = lv') (k : G g u E A ce sl Q X L F pc lv' st) : G g u E A ce sl Q X L F pc lv st := fun H locs ls hw hl => k H locs ls hw (lv_sub hl ks h)
theorem xL {q : Nat} {c : Nat × va_E} (h : X[q]? = some c) : (X ++ va_pl L F)[q]? = some c := by
  rw [List.getElem?_append_left (List.getElem?_eq_some_iff.mp h).1]; exact h
theorem xS {q : Nat} {c c' : Nat × va_E} (h : X[q]? = some c) : (X ++ va_pl L F).set q c' = X.set q c' ++ va_pl L F := List.set_append_left _ _ (List.getElem?_eq_some_iff.mp h).1
/-! memory: explicit cells (X), and cells of the pool (P) -/
theorem g_getX (C : Cx g u E A) {a : Nat} (q : Nat) {ci : Nat} {fs : List Value} (he : X[q]? = some (a, .inr (ci, fs))) {Cn : String} {T : u_T} {N : Nat} (hc : vwCl[ci]? = some (Cn, T, N)) (hin : ∀ w ∈ u_ws Cn T N, w ∈ wB) (j : Nat) (hj : j < N) {index : Nat} (hlink : Cond.fieldLink (uO u) index (T j).1 (T j).2.1 (T j).2.2.1 ∈ wB) {v : Value} (hv : fs[j]? = some v) (hdg : decode u.1 pc = .ok (.getfield index, 3))
    (k : G g u E A ce sl Q X L F (pc + 3) lv (v :: rest)) : G g u E A ce sl Q X L F pc lv (.ref a :: rest) := fun H locs ls hw hl =>
  va_get (D := E.1) C.1.1 C.1.2.1 C.1.2.2.2.2 hin C.1.2.2.2.1 C.2.1 hw.1 q (xL he) hc j hj (C.1.2.2.2.2 _ hlink) (fun _ h => h) hv hdg (k H locs ls hw hl)
theorem g_getP (C : Cx g u E A) {a : Nat} (ha : a ∈ L) {ci : Nat} {fs : List Value} (he : F a = .inr (ci, fs)) {Cn : String} {T : u_T} {N : Nat} (hc : vwCl[ci]? = some (Cn, T, N)) (hin : ∀ w ∈ u_ws Cn T N, w ∈ wB) (j : Nat) (hj : j < N) {index : Nat} (hlink : Cond.fieldLink (uO u) index (T j).1 (T j).2.1 (T j).2.2.1 ∈ wB) {v : Value} (hv : fs[j]? = some v) (hdg : decode u.1 pc = .ok (.getfield index, 3))
    (k : G g u E A ce sl Q X L F (pc + 3) lv (v :: rest)) : G g u E A ce sl Q X L F pc lv (.ref a :: rest) := fun H locs ls hw hl => by
  obtain ⟨q, hq⟩ := va_pl_get (X := X) (f := F) ha
  rw [he] at hq
  exact va_get (D := E.1) C.1.1 C.1.2.1 C.1.2.2.2.2 hin C.1.2.2.2.1 C.2.1 hw.1 q hq hc j hj (C.1.2.2.2.2 _ hlink) (fun _ h => h) hv hdg (k H locs ls hw hl)
theorem g_putX (C : Cx g u E A) {a : Nat} (q : Nat) {ci : Nat} {fs : List Value} (he : X[q]? = some (a, .inr (ci, fs))) {Cn : String} {T : u_T} {N : Nat} (hc : vwCl[ci]? = some (Cn, T, N)) (hin : ∀ w ∈ u_ws Cn T N, w ∈ wB) (ty0 : Nat → FieldType) (hty : ∀ k, k < N → parseFieldDescriptor (T k).2.2.1 = some (ty0 k)) (hnm : ∀ a, a < N → ∀ b, b < N → a ≠ b → (T a).2.1 ≠ (T b).2.1) (j : Nat) (hj : j < N) {index : Nat} (hlink : Cond.fieldLink (uO u) index (T j).1 (T j).2.1 (T j).2.2.1 ∈ wB) (hfin : (T j).2.2.2 = false) {v : Value} (hn : narrow (ty0 j) v = v) (hfit : fits (ty0 j) v = true) (hl8 : j < fs.length) {X' : va_W} (hX : X.set q (a, .inr (ci, fs.set j v)) = X') (hdg : decode u.1 pc = .ok (.putfield index, 3))
    (k : G g u E A ce sl Q X' L F (pc + 3) lv rest) : G g u E A ce sl Q X L F pc lv (v :: .ref a :: rest) := fun H locs ls hw hl =>
  va_put (D := E.1) C.1.1 C.1.2.1 C.1.2.2.2.2 hin ty0 hty hnm C.1.2.2.2.1 C.2.1 hw.1 hw.2.1 hw.2.2 q (xL he) hc j hj (C.1.2.2.2.2 _ hlink) (fun _ h => h) hfin (hty j hj) hn hfit hl8 hdg (fun H1 locs1 hP hD hS => by
    rw [xS he, hX] at hP hD
    exact k H1 locs1 ls ⟨hP, hD, hS⟩ hl)
theorem g_putF (C : Cx g u E A) {a : Nat} (q : Nat) {ci : Nat} {fs : List Value} (he : X[q]? = some (a, .inr (ci, fs))) {Cn : String} {T : u_T} {N : Nat} (hc : vwCl[ci]? = some (Cn, T, N)) (hin : ∀ w ∈ u_ws Cn T N, w ∈ wB) (ty0 : Nat → FieldType) (hty : ∀ k, k < N → parseFieldDescriptor (T k).2.2.1 = some (ty0 k)) (hnm : ∀ a, a < N → ∀ b, b < N → a ≠ b → (T a).2.1 ≠ (T b).2.1) (j : Nat) (hj : j < N) {index : Nat} (hlink : Cond.fieldLink (uO u) index (T j).1 (T j).2.1 (T j).2.2.1 ∈ wB) (hfin : (T j).2.2.2 = true) (hin2 : uN u = "<init>") (hdecl : (T j).1 = uO u) {v : Value} (hn : narrow (ty0 j) v = v) (hfit : fits (ty0 j) v = true) (hl8 : j < fs.length) {X' : va_W} (hX : X.set q (a, .inr (ci, fs.set j v)) = X') (hdg : decode u.1 pc = .ok (.putfield index, 3))
    (k : G g u E A ce sl Q X' L F (pc + 3) lv rest) : G g u E A ce sl Q X L F pc lv (v :: .ref a :: rest) := fun H locs ls hw hl =>
  va_putF (D := E.1) C.1.1 C.1.2.1 C.1.2.2.2.2 hin ty0 hty hnm C.1.2.2.2.1 C.2.1 hw.1 hw.2.1 hw.2.2 q (xL he) hc j hj (C.1.2.2.2.2 _ hlink) (fun _ h => h) hfin (C.2.2.2.2.2.1.trans hin2) hdecl (hty j hj) hn hfit hl8 hdg (fun H1 locs1 hP hD hS => by
    rw [xS he, hX] at hP hD
    exact k H1 locs1 ls ⟨hP, hD, hS⟩ hl)
theorem g_putP (C : Cx g u E A) {a : Nat} (ha : a ∈ L) {ci : Nat} {fs : List Value} (he : F a = .inr (ci, fs)) {Cn : String} {T : u_T} {N : Nat} (hc : vwCl[ci]? = some (Cn, T, N)) (hin : ∀ w ∈ u_ws Cn T N, w ∈ wB) (ty0 : Nat → FieldType) (hty : ∀ k, k < N → parseFieldDescriptor (T k).2.2.1 = some (ty0 k)) (hnm : ∀ a, a < N → ∀ b, b < N → a ≠ b → (T a).2.1 ≠ (T b).2.1) (j : Nat) (hj : j < N) {index : Nat} (hlink : Cond.fieldLink (uO u) index (T j).1 (T j).2.1 (T j).2.2.1 ∈ wB) (hfin : (T j).2.2.2 = false) {v : Value} (hn : narrow (ty0 j) v = v) (hfit : fits (ty0 j) v = true) (hl8 : j < fs.length) {e' : va_E} (hX : Sum.inr (ci, fs.set j v) = e') (hdg : decode u.1 pc = .ok (.putfield index, 3))
    (k : G g u E A ce sl Q X L (va_up F a e') (pc + 3) lv rest) : G g u E A ce sl Q X L F pc lv (v :: .ref a :: rest) := fun H locs ls hw hl => by
  obtain ⟨q, hq⟩ := va_pl_get (X := X) (f := F) ha
  have hq2 := hq
  rw [he] at hq2
  exact va_put (D := E.1) C.1.1 C.1.2.1 C.1.2.2.2.2 hin ty0 hty hnm C.1.2.2.2.1 C.2.1 hw.1 hw.2.1 hw.2.2 q hq2 hc j hj (C.1.2.2.2.2 _ hlink) (fun _ h => h) hfin (hty j hj) hn hfit hl8 hdg (fun H1 locs1 hP hD hS => by
    rw [va_pl_set hw.2.1 ha hq, hX] at hP hD
    exact k H1 locs1 ls ⟨hP, hD, hS⟩ hl)
theorem g_iaload (C : Cx g u E A) {a : Nat} (q : Nat) {n : Nat} {f : Nat → Int32} (he : X[q]? = some (a, aI E n f)) {i : Int32} (hin : vp_in i n) (hdg : decode u.1 pc = .ok (.iaload, 1))
    (k : G g u E A ce sl Q X L F (pc + 1) lv (.int (f i.toNatClampNeg) :: rest)) : G g u E A ce sl Q X L F pc lv (.int i :: .ref a :: rest) := fun H locs ls hw hl => va_iald (D := E.1) C.1.1 C.1.2.1 C.2.1 hw.1 q 0 (xL he) rfl hin hdg (k H locs ls hw hl)
theorem g_ialoadP (C : Cx g u E A) {a : Nat} (ha : a ∈ L) {n : Nat} {f : Nat → Int32} (he : F a = aI E n f) {i : Int32} (hin : vp_in i n) (hdg : decode u.1 pc = .ok (.iaload, 1))
    (k : G g u E A ce sl Q X L F (pc + 1) lv (.int (f i.toNatClampNeg) :: rest)) : G g u E A ce sl Q X L F pc lv (.int i :: .ref a :: rest) := fun H locs ls hw hl => by
  obtain ⟨q, hq⟩ := va_pl_get (X := X) (f := F) ha
  rw [he] at hq
  exact va_iald (D := E.1) C.1.1 C.1.2.1 C.2.1 hw.1 q 0 hq rfl hin hdg (k H locs ls hw hl)
theorem g_laload (C : Cx g u E A) {a : Nat} (q : Nat) {n : Nat} {f : Nat → Int64} (he : X[q]? = some (a, aJ E n f)) {i : Int32} (hin : vp_in i n) (hdg : decode u.1 pc = .ok (.laload, 1))
    (k : G g u E A ce sl Q X L F (pc + 1) lv (.long (f i.toNatClampNeg) :: rest)) : G g u E A ce sl Q X L F pc lv (.int i :: .ref a :: rest) := fun H locs ls hw hl => va_lald (D := E.1) C.1.1 C.1.2.1 C.2.1 hw.1 q 1 (xL he) rfl hin hdg (k H locs ls hw hl)
theorem g_laloadP (C : Cx g u E A) {a : Nat} (ha : a ∈ L) {n : Nat} {f : Nat → Int64} (he : F a = aJ E n f) {i : Int32} (hin : vp_in i n) (hdg : decode u.1 pc = .ok (.laload, 1))
    (k : G g u E A ce sl Q X L F (pc + 1) lv (.long (f i.toNatClampNeg) :: rest)) : G g u E A ce sl Q X L F pc lv (.int i :: .ref a :: rest) := fun H locs ls hw hl => by
  obtain ⟨q, hq⟩ := va_pl_get (X := X) (f := F) ha
  rw [he] at hq
  exact va_lald (D := E.1) C.1.1 C.1.2.1 C.2.1 hw.1 q 1 hq rfl hin hdg (k H locs ls hw hl)
theorem g_zaload (C : Cx g u E A) {a : Nat} (q : Nat) {n : Nat} {f : Nat → Int32} (he : X[q]? = some (a, aZ E n f)) {i : Int32} (hin : vp_in i n) (hdg : decode u.1 pc = .ok (.baload, 1))
    (k : G g u E A ce sl Q X L F (pc + 1) lv (.int (f i.toNatClampNeg) :: rest)) : G g u E A ce sl Q X L F pc lv (.int i :: .ref a :: rest) := fun H locs ls hw hl => va_zald (D := E.1) C.1.1 C.1.2.1 C.2.1 hw.1 q 2 (xL he) rfl hin hdg (k H locs ls hw hl)
theorem g_zaloadP (C : Cx g u E A) {a : Nat} (ha : a ∈ L) {n : Nat} {f : Nat → Int32} (he : F a = aZ E n f) {i : Int32} (hin : vp_in i n) (hdg : decode u.1 pc = .ok (.baload, 1))
    (k : G g u E A ce sl Q X L F (pc + 1) lv (.int (f i.toNatClampNeg) :: rest)) : G g u E A ce sl Q X L F pc lv (.int i :: .ref a :: rest) := fun H locs ls hw hl => by
  obtain ⟨q, hq⟩ := va_pl_get (X := X) (f := F) ha
  rw [he] at hq
  exact va_zald (D := E.1) C.1.1 C.1.2.1 C.2.1 hw.1 q 2 hq rfl hin hdg (k H locs ls hw hl)
theorem g_kaload (C : Cx g u E A) {a : Nat} (q : Nat) {n : Nat} {f : Nat → Option Nat} (he : X[q]? = some (a, aK E n f)) {i : Int32} (hin : vp_in i n) (hdg : decode u.1 pc = .ok (.aaload, 1))
    (k : G g u E A ce sl Q X L F (pc + 1) lv (va_rf (f i.toNatClampNeg) :: rest)) : G g u E A ce sl Q X L F pc lv (.int i :: .ref a :: rest) := fun H locs ls hw hl => va_aldq (D := E.1) C.1.1 C.1.2.1 C.2.1 hw.1 q 3 (xL he) rfl hin hdg (k H locs ls hw hl)
theorem g_kaloadP (C : Cx g u E A) {a : Nat} (ha : a ∈ L) {n : Nat} {f : Nat → Option Nat} (he : F a = aK E n f) {i : Int32} (hin : vp_in i n) (hdg : decode u.1 pc = .ok (.aaload, 1))
    (k : G g u E A ce sl Q X L F (pc + 1) lv (va_rf (f i.toNatClampNeg) :: rest)) : G g u E A ce sl Q X L F pc lv (.int i :: .ref a :: rest) := fun H locs ls hw hl => by
  obtain ⟨q, hq⟩ := va_pl_get (X := X) (f := F) ha
  rw [he] at hq
  exact va_aldq (D := E.1) C.1.1 C.1.2.1 C.2.1 hw.1 q 3 hq rfl hin hdg (k H locs ls hw hl)
theorem g_saload (C : Cx g u E A) {a : Nat} (q : Nat) {n : Nat} {f : Nat → Option Nat} (he : X[q]? = some (a, aS E n f)) {i : Int32} (hin : vp_in i n) (hdg : decode u.1 pc = .ok (.aaload, 1))
    (k : G g u E A ce sl Q X L F (pc + 1) lv (va_rf (f i.toNatClampNeg) :: rest)) : G g u E A ce sl Q X L F pc lv (.int i :: .ref a :: rest) := fun H locs ls hw hl => va_aldq (D := E.1) C.1.1 C.1.2.1 C.2.1 hw.1 q 4 (xL he) rfl hin hdg (k H locs ls hw hl)
theorem g_saloadP (C : Cx g u E A) {a : Nat} (ha : a ∈ L) {n : Nat} {f : Nat → Option Nat} (he : F a = aS E n f) {i : Int32} (hin : vp_in i n) (hdg : decode u.1 pc = .ok (.aaload, 1))
    (k : G g u E A ce sl Q X L F (pc + 1) lv (va_rf (f i.toNatClampNeg) :: rest)) : G g u E A ce sl Q X L F pc lv (.int i :: .ref a :: rest) := fun H locs ls hw hl => by
  obtain ⟨q, hq⟩ := va_pl_get (X := X) (f := F) ha
  rw [he] at hq
  exact va_aldq (D := E.1) C.1.1 C.1.2.1 C.2.1 hw.1 q 4 hq rfl hin hdg (k H locs ls hw hl)
theorem g_iastore (C : Cx g u E A) {a : Nat} (q : Nat) {n : Nat} {f : Nat → Int32} (he : X[q]? = some (a, aI E n f)) {i : Int32} {x : Int32} (hin : vp_in i n) {X' : va_W} (hX : X.set q (a, aI E n (upd f i.toNatClampNeg x)) = X') (hdg : decode u.1 pc = .ok (.iastore, 1))
    (k : G g u E A ce sl Q X' L F (pc + 1) lv rest) : G g u E A ce sl Q X L F pc lv (.int x :: .int i :: .ref a :: rest) := fun H locs ls hw hl => va_iast (D := E.1) C.1.1 C.1.2.1 C.2.1 hw.1 hw.2.1 hw.2.2 q 0 (xL he) rfl hin hdg (fun H1 locs1 hP hD hS => by
    rw [xS he, hX] at hP hD
    exact k H1 locs1 ls ⟨hP, hD, hS⟩ hl)
theorem g_iastoreP (C : Cx g u E A) {a : Nat} (ha : a ∈ L) {n : Nat} {f : Nat → Int32} (he : F a = aI E n f) {i : Int32} {x : Int32} (hin : vp_in i n) (hdg : decode u.1 pc = .ok (.iastore, 1))
    (k : G g u E A ce sl Q X L (va_up F a (aI E n (upd f i.toNatClampNeg x))) (pc + 1) lv rest) : G g u E A ce sl Q X L F pc lv (.int x :: .int i :: .ref a :: rest) := fun H locs ls hw hl => by
  obtain ⟨q, hq⟩ := va_pl_get (X := X) (f := F) ha
  have hq2 := hq
  rw [he] at hq2
  exact va_iast (D := E.1) C.1.1 C.1.2.1 C.2.1 hw.1 hw.2.1 hw.2.2 q 0 hq2 rfl hin hdg (fun H1 locs1 hP hD hS => by
    rw [va_pl_set hw.2.1 ha hq] at hP hD
    exact k H1 locs1 ls ⟨hP, hD, hS⟩ hl)
theorem g_lastore (C : Cx g u E A) {a : Nat} (q : Nat) {n : Nat} {f : Nat → Int64} (he : X[q]? = some (a, aJ E n f)) {i : Int32} {x : Int64} (hin : vp_in i n) {X' : va_W} (hX : X.set q (a, aJ E n (vp_updL f i.toNatClampNeg x)) = X') (hdg : decode u.1 pc = .ok (.lastore, 1))
    (k : G g u E A ce sl Q X' L F (pc + 1) lv rest) : G g u E A ce sl Q X L F pc lv (.long x :: .int i :: .ref a :: rest) := fun H locs ls hw hl => va_last (D := E.1) C.1.1 C.1.2.1 C.2.1 hw.1 hw.2.1 hw.2.2 q 1 (xL he) rfl hin hdg (fun H1 locs1 hP hD hS => by
    rw [xS he, hX] at hP hD
    exact k H1 locs1 ls ⟨hP, hD, hS⟩ hl)
theorem g_lastoreP (C : Cx g u E A) {a : Nat} (ha : a ∈ L) {n : Nat} {f : Nat → Int64} (he : F a = aJ E n f) {i : Int32} {x : Int64} (hin : vp_in i n) (hdg : decode u.1 pc = .ok (.lastore, 1))
    (k : G g u E A ce sl Q X L (va_up F a (aJ E n (vp_updL f i.toNatClampNeg x))) (pc + 1) lv rest) : G g u E A ce sl Q X L F pc lv (.long x :: .int i :: .ref a :: rest) := fun H locs ls hw hl => by
  obtain ⟨q, hq⟩ := va_pl_get (X := X) (f := F) ha
  have hq2 := hq
  rw [he] at hq2
  exact va_last (D := E.1) C.1.1 C.1.2.1 C.2.1 hw.1 hw.2.1 hw.2.2 q 1 hq2 rfl hin hdg (fun H1 locs1 hP hD hS => by
    rw [va_pl_set hw.2.1 ha hq] at hP hD
    exact k H1 locs1 ls ⟨hP, hD, hS⟩ hl)
theorem g_zastore (C : Cx g u E A) {a : Nat} (q : Nat) {n : Nat} {f : Nat → Int32} (he : X[q]? = some (a, aZ E n f)) {i : Int32} {x : Int32} (hin : vp_in i n) {X' : va_W} (hX : X.set q (a, aZ E n (upd f i.toNatClampNeg (vp_nar .boolean x))) = X') (hdg : decode u.1 pc = .ok (.bastore, 1))
    (k : G g u E A ce sl Q X' L F (pc + 1) lv rest) : G g u E A ce sl Q X L F pc lv (.int x :: .int i :: .ref a :: rest) := fun H locs ls hw hl => va_zast (D := E.1) C.1.1 C.1.2.1 C.2.1 hw.1 hw.2.1 hw.2.2 q 2 (xL he) rfl hin hdg (fun H1 locs1 hP hD hS => by
    rw [xS he, hX] at hP hD
    exact k H1 locs1 ls ⟨hP, hD, hS⟩ hl)
theorem g_zastoreP (C : Cx g u E A) {a : Nat} (ha : a ∈ L) {n : Nat} {f : Nat → Int32} (he : F a = aZ E n f) {i : Int32} {x : Int32} (hin : vp_in i n) (hdg : decode u.1 pc = .ok (.bastore, 1))
    (k : G g u E A ce sl Q X L (va_up F a (aZ E n (upd f i.toNatClampNeg (vp_nar .boolean x)))) (pc + 1) lv rest) : G g u E A ce sl Q X L F pc lv (.int x :: .int i :: .ref a :: rest) := fun H locs ls hw hl => by
  obtain ⟨q, hq⟩ := va_pl_get (X := X) (f := F) ha
  have hq2 := hq
  rw [he] at hq2
  exact va_zast (D := E.1) C.1.1 C.1.2.1 C.2.1 hw.1 hw.2.1 hw.2.2 q 2 hq2 rfl hin hdg (fun H1 locs1 hP hD hS => by
    rw [va_pl_set hw.2.1 ha hq] at hP hD
    exact k H1 locs1 ls ⟨hP, hD, hS⟩ hl)
theorem g_alen (C : Cx g u E A) {a : Nat} (q : Nat) {n : Nat} {f : Nat → Int32} (he : X[q]? = some (a, aI E n f)) {v : Int32} (hv : nI n = v) (hdg : decode u.1 pc = .ok (.arraylength, 1))
    (k : G g u E A ce sl Q X L F (pc + 1) lv (.int v :: rest)) : G g u E A ce sl Q X L F pc lv (.ref a :: rest) := fun H locs ls hw hl => va_alen (D := E.1) C.1.1 C.1.2.1 C.2.1 hw.1 q 0 (xL he) rfl hv hdg (k H locs ls hw hl)
/-- the static table: its reference, then a place of it -/
theorem g_tbl (C : Cx g u E A) {index : Nat} {i : Int32} {d1 : Nat} (hlink : Cond.fieldLink (uO u) index "MessageCodes" "SUBSTITUTES" "[I" ∈ wB) (hdg : decode u.1 pc = .ok (.getstatic index, 3)) (k : ∀ t : Nat, (∀ (i : Int32) (pc' : Nat) (lv' : List (Nat × Value)) (X' : va_W) (rest' : List Value), vp_in i 256 → decode u.1 pc' = .ok (.iaload, 1) → G g u E A ce sl Q X' L F (pc' + 1) lv' (.int (TB i.toNatClampNeg) :: rest') → G g u E A ce sl Q X' L F pc' lv' (.int i :: .ref t :: rest')) → G g u E A ce sl Q X L F (pc + 3) lv (.ref t :: rest)) : G g u E A ce sl Q X L F pc lv rest := fun H locs ls hw hl => by
  obtain ⟨t, h1, h2⟩ := C.2.2.2.2.2.2.2.1
  refine va_gets C.1.1 C.1.2.1 h1 hw.2.2 C.1.2.2.2.1 (C.1.2.2.2.2 _ hlink) (fun _ h => h) hdg (k t ?_ H locs ls hw hl)
  intro i pc' lv' X' rest' hi hd kk H locs ls hw hl
  exact va_ti C.1.1 C.1.2.1 h2 hw.2.2 hi rfl hd (kk H locs ls hw hl)
/-! ends -/
theorem g_vret {cx : va_W} {L0 : List Nat} {post : Ps} (C : Cx g u E A) (r : Rt g u E A Q cx L0 post) (hT : uT u = none) (hp : post none X L F) (hX : X.map Prod.fst = cx.map Prod.fst) (hN : ∃ N, L = L0 ++ N) (hdg : decode u.1 pc = .ok (.return_, 1)) : G g u E A (uC u) (uS u) Q X L F pc lv [] := fun H locs ls hw hl => by
  obtain ⟨Qc, free, rfl, h1, h2⟩ := r
  exact W.vret C.1.1 C.1.2.1 (C.2.2.2.1.trans hT) (fun t ht _ => h1 _ X L F H locs t hp hX hN hw ht) (h2 H locs hw.2.2) hdg C.2.2.2.2.1
theorem g_iret {cx : va_W} {L0 : List Nat} {post : Ps} (C : Cx g u E A) (r : Rt g u E A Q cx L0 post) (hT : uT u = some .int) {v : Int32} (hp : post (some (.int v)) X L F) (hX : X.map Prod.fst = cx.map Prod.fst) (hN : ∃ N, L = L0 ++ N) (hdg : decode u.1 pc = .ok (.ireturn, 1)) : G g u E A (uC u) (uS u) Q X L F pc lv [.int v] := fun H locs ls hw hl => by
  obtain ⟨Qc, free, rfl, h1, h2⟩ := r
  exact W.iret C.1.1 C.1.2.1 (C.2.2.2.1.trans hT) (fun t ht _ => h1 _ X L F H locs t hp hX hN hw ht) (h2 H locs hw.2.2) hdg C.2.2.2.2.1
theorem g_zret {cx : va_W} {L0 : List Nat} {post : Ps} (C : Cx g u E A) (r : Rt g u E A Q cx L0 post) {ty : FieldType} (hT : uT u = some ty) {v : Int32} (hn : narrow ty (.int v) = .int v) (hp : post (some (.int v)) X L F) (hX : X.map Prod.fst = cx.map Prod.fst) (hN : ∃ N, L = L0 ++ N) (hdg : decode u.1 pc = .ok (.ireturn, 1)) : G g u E A (uC u) (uS u) Q X L F pc lv [.int v] := fun H locs ls hw hl => by
  obtain ⟨Qc, free, rfl, h1, h2⟩ := r
  exact W.zret C.1.1 C.1.2.1 (C.2.2.2.1.trans hT) hn (fun t ht _ => h1 _ X L F H locs t hp hX hN hw ht) (h2 H locs hw.2.2) hdg C.2.2.2.2.1
theorem g_aret {cx : va_W} {L0 : List Nat} {post : Ps} (C : Cx g u E A) (r : Rt g u E A Q cx L0 post) {n : String} (hT : uT u = some (.object n)) {v : Option Nat} (hp : post (some (va_rf v)) X L F) (hX : X.map Prod.fst = cx.map Prod.fst) (hN : ∃ N, L = L0 ++ N) (hdg : decode u.1 pc = .ok (.areturn, 1)) : G g u E A (uC u) (uS u) Q X L F pc lv [va_rf v] := fun H locs ls hw hl => by
  obtain ⟨Qc, free, rfl, h1, h2⟩ := r
  exact W.aret C.1.1 C.1.2.1 (C.2.2.2.1.trans hT) (Or.inl ⟨n, rfl⟩) (by cases v with | none => exact Or.inl rfl | some a => exact Or.inr ⟨a, rfl⟩) (fun t ht _ => h1 _ X L F H locs t hp hX hN hw ht) (h2 H locs hw.2.2) hdg C.2.2.2.2.1
end
