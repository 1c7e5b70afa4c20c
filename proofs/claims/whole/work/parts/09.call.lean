/-! calls: the callee's cells are cut out of X by their places, what comes back is put there again -/
def rp (X : va_W) : List Nat → va_W → va_W
  | i :: is, c :: cs => rp (X.set i c) is cs
  | _, _ => X
theorem d_nd {A : Nat → Prop} {ws : va_W} (h : va_D A ws) : (ws.map Prod.fst).Nodup := by
  rw [List.Nodup, List.pairwise_iff_getElem]
  intro i j hi hj hij he
  rw [List.length_map] at hi hj
  rw [List.getElem_map, List.getElem_map] at he
  have := h.1 i j _ _ (List.getElem?_eq_getElem hi) (List.getElem?_eq_getElem hj) he
  omega
theorem d_of {A : Nat → Prop} {ws : va_W} (h : (ws.map Prod.fst).Nodup) (hA : ∀ a ∈ ws.map Prod.fst, A a) : va_D A ws := by
  rw [List.Nodup, List.pairwise_iff_getElem] at h
  refine ⟨fun i j p q hp hq he => ?_, fun k q hq => hA q.1 (List.mem_map.mpr ⟨q, List.mem_of_getElem? hq, rfl⟩)⟩
  obtain ⟨hi, rfl⟩ := List.getElem?_eq_some_iff.mp hp
  obtain ⟨hj, rfl⟩ := List.getElem?_eq_some_iff.mp hq
  rcases Nat.lt_trichotomy i j with h1 | h1 | h1
  · exact absurd (by rw [List.getElem_map, List.getElem_map]; exact he) (h i j (by rw [List.length_map]; exact hi) (by rw [List.length_map]; exact hj) h1)
  · exact h1
  · exact absurd (by rw [List.getElem_map, List.getElem_map]; exact he.symm) (h j i (by rw [List.length_map]; exact hj) (by rw [List.length_map]; exact hi) h1)
theorem d_A {A : Nat → Prop} {ws : va_W} (h : va_D A ws) : ∀ a ∈ ws.map Prod.fst, A a := by
  intro a ha
  obtain ⟨q, hq, rfl⟩ := List.mem_map.mp ha
  obtain ⟨k, hk⟩ := List.getElem?_of_mem hq
  exact h.2 k q hk
theorem nd_inj {ws : va_W} (h : (ws.map Prod.fst).Nodup) {p q : Nat × va_E} (hp : p ∈ ws) (hq : q ∈ ws) (he : p.1 = q.1) : p = q := by
  have hD := d_of (A := fun _ => True) h (fun _ _ => trivial)
  obtain ⟨i, hi⟩ := List.getElem?_of_mem hp
  obtain ⟨j, hj⟩ := List.getElem?_of_mem hq
  have e := hD.1 i j p q hi hj he
  subst e
  exact Option.some.inj (hi.symm.trans hj)
theorem p_mem {D : va_G} {cl : List vw_C} {ws : va_W} {H : Heap} (h : va_P D cl ws H) {q : Nat × va_E} (hq : q ∈ ws) : va_at D cl q H := by
  obtain ⟨k, hk⟩ := List.getElem?_of_mem hq
  exact h k q hk
theorem p_of {D : va_G} {cl : List vw_C} {ws : va_W} {H : Heap} (h : ∀ q ∈ ws, va_at D cl q H) : va_P D cl ws H := fun k q hq => h q (List.mem_of_getElem? hq)
theorem set_fst {X : va_W} {i : Nat} {c c0 : Nat × va_E} (h : X[i]? = some c0) (he : c0.1 = c.1) : (X.set i c).map Prod.fst = X.map Prod.fst := by
  rw [List.map_set]
  apply List.ext_getElem?
  intro j
  by_cases hj : i = j
  · subst hj
    have hl := (List.getElem?_eq_some_iff.mp h).1
    rw [List.getElem?_set_self (by rw [List.length_map]; exact hl), List.getElem?_map, h]
    simp [he]
  · rw [List.getElem?_set_ne hj]
theorem rp_spec : ∀ (is : List Nat) (cs : va_W) (X cx : va_W), is.map (fun i => X[i]?) = cx.map some → cs.map Prod.fst = cx.map Prod.fst → (X.map Prod.fst).Nodup → va_nd is = true →
    (rp X is cs).map Prod.fst = X.map Prod.fst ∧ ∀ q ∈ rp X is cs, q ∈ cs ∨ (q ∈ X ∧ q.1 ∉ cs.map Prod.fst)
  | [], [], X, _, _, _, _, _ => ⟨rfl, fun q hq => Or.inr ⟨hq, by simp⟩⟩
  | [], c :: cs, X, cx, h1, h2, _, _ => by
    cases cx with
    | nil => simp at h2
    | cons a b => simp at h1
  | i :: is, [], X, cx, h1, h2, _, _ => by
    cases cx with
    | nil => simp at h1
    | cons a b => simp at h2
  | i :: is, c :: cs, X, cx, h1, h2, h3, h4 => by
    cases cx with
    | nil => simp at h1
    | cons c0 cx =>
      simp only [List.map_cons, List.cons.injEq] at h1 h2
      obtain ⟨hi, his⟩ := h1
      obtain ⟨hc, hcs⟩ := h2
      have hnd : i ∉ is ∧ va_nd is = true := by simpa [va_nd] using h4
      have e1 := set_fst hi hc.symm
      have hs : is.map (fun j => (X.set i c)[j]?) = cx.map some := by
        rw [← his]
        apply List.map_congr_left
        intro j hj
        have hij : i ≠ j := fun e => hnd.1 (by rw [e]; exact hj)
        exact List.getElem?_set_ne hij
      obtain ⟨a1, a2⟩ := rp_spec is cs (X.set i c) cx hs hcs (by rw [e1]; exact h3) hnd.2
      refine ⟨a1.trans e1, fun q hq => ?_⟩
      have hcm : c ∈ X.set i c := List.mem_set (List.getElem?_eq_some_iff.mp hi).1 c
      rcases a2 q hq with h | ⟨h, h'⟩
      · exact Or.inl (List.mem_cons_of_mem _ h)
      · by_cases hqc : q.1 = c.1
        · have : q = c := nd_inj (by rw [e1]; exact h3) h hcm hqc
          subst this
          exact Or.inl List.mem_cons_self
        · rcases List.mem_or_eq_of_mem_set h with h5 | h5
          · refine Or.inr ⟨h5, ?_⟩
            simp only [List.map_cons, List.mem_cons, not_or]
            exact ⟨hqc, h'⟩
          · subst h5
            exact absurd rfl hqc
theorem pl_fst {L : List Nat} {F : Nat → va_E} : (va_pl L F).map Prod.fst = L := by
  unfold va_pl
  rw [List.map_map]
  exact List.map_id L
theorem sub_fst {is : List Nat} {X cx : va_W} (h : is.map (fun i => X[i]?) = cx.map some) {q : Nat × va_E} (hq : q ∈ cx) : q ∈ X := by
  have : some q ∈ cx.map some := List.mem_map.mpr ⟨q, hq, rfl⟩
  rw [← h] at this
  obtain ⟨i, -, hi⟩ := List.mem_map.mp this
  exact List.mem_of_getElem? hi
/-- the world behind a call -/
theorem wd_join {g : Gm} {E : Ev} {A : Nat → Prop} {X cx cx' : va_W} {L L' : List Nat} {F F' : Nat → va_E} {H H1 : Heap} {locs locs1 : List Loc} (is : List Nat) (h : Wd g E A (X ++ va_pl L F) H locs) (hA : ∀ q, (gs g).heap.size ≤ q → A q) (hC : is.map (fun i => X[i]?) = cx.map some) (hn : va_nd is = true)
    (hf : cx'.map Prod.fst = cx.map Prod.fst) (hN : ∃ N, L' = L ++ N) (hP1 : va_P E.1 vwCl (cx' ++ va_pl L' F') H1) (hD1 : va_D (va_A (cx ++ va_pl L F) H.size) (cx' ++ va_pl L' F')) (hk : ∀ q : Nat, q < H.size → ¬ va_A (cx ++ va_pl L F) H.size q → H1[q]? = H[q]?) (hS : va_S A (gs g).heap H1 locs1) : Wd g E A (rp X is cx' ++ va_pl L' F') H1 locs1 := by
  obtain ⟨hP, hD, hS0⟩ := h
  obtain ⟨N, rfl⟩ := hN
  have nd := d_nd hD
  rw [List.map_append, pl_fst] at nd
  have ndX : (X.map Prod.fst).Nodup := (List.nodup_append.mp nd).1
  obtain ⟨e1, e2⟩ := rp_spec is cx' X cx hC hf ndX hn
  have nd1 := d_nd hD1
  rw [List.map_append, pl_fst, hf] at nd1
  have hAin : ∀ q, va_A (cx ++ va_pl L F) H.size q → q ∈ cx.map Prod.fst ∨ q ∈ L ∨ H.size ≤ q := by
    intro q hq
    rcases hq with ⟨k, e, hk⟩ | hq
    · have hm := List.mem_of_getElem? hk
      rcases List.mem_append.mp hm with h | h
      · exact Or.inl (List.mem_map.mpr ⟨_, h, rfl⟩)
      · refine Or.inr (Or.inl ?_)
        have : q ∈ (va_pl L F).map Prod.fst := List.mem_map.mpr ⟨_, h, rfl⟩
        rwa [pl_fst] at this
    · exact Or.inr (Or.inr hq)
  have hlt : ∀ q ∈ X.map Prod.fst, q < H.size := by
    intro q hq
    obtain ⟨c, hc, rfl⟩ := List.mem_map.mp hq
    exact (p_mem hP (List.mem_append_left _ hc)).lt
  have hcX : ∀ q ∈ cx.map Prod.fst, q ∈ X.map Prod.fst := by
    intro q hq
    obtain ⟨c, hc, rfl⟩ := List.mem_map.mp hq
    exact List.mem_map.mpr ⟨c, sub_fst hC hc, rfl⟩
  have hXL : ∀ q ∈ X.map Prod.fst, q ∉ L := fun q h1 h2 => (List.nodup_append.mp nd).2.2 q h1 q h2 rfl
  refine ⟨p_of (fun q hq => ?_), d_of ?_ ?_, hS⟩
  · rcases List.mem_append.mp hq with h | h
    · rcases e2 q h with h | ⟨h, h'⟩
      · exact p_mem hP1 (List.mem_append_left _ h)
      · rw [hf] at h'
        have hm : q.1 ∈ X.map Prod.fst := List.mem_map.mpr ⟨q, h, rfl⟩
        refine (p_mem hP (List.mem_append_left _ h)).kept (hk q.1 (hlt _ hm) fun z => ?_)
        rcases hAin _ z with z | z | z
        · exact h' z
        · exact hXL _ hm z
        · exact absurd (hlt _ hm) (by omega)
    · exact p_mem hP1 (List.mem_append_right _ h)
  · rw [List.map_append, pl_fst, e1]
    rw [List.nodup_append] at nd nd1 ⊢
    refine ⟨nd.1, nd1.2.1, fun a ha b hb e => ?_⟩
    subst e
    rcases List.mem_append.mp hb with hb | hb
    · exact hXL a ha hb
    · have hz : va_A (cx ++ va_pl L F) H.size a := d_A hD1 a (by rw [List.map_append, pl_fst]; exact List.mem_append_right _ (List.mem_append_right _ hb))
      rcases hAin _ hz with z | z | z
      · exact nd1.2.2 a z a (List.mem_append_right _ hb) rfl
      · exact hXL a ha z
      · exact absurd (hlt a ha) (by omega)
  · intro a ha
    rw [List.map_append, pl_fst, e1] at ha
    have hdA := d_A hD
    rw [List.map_append, pl_fst] at hdA
    rcases List.mem_append.mp ha with h | h
    · exact hdA a (List.mem_append_left _ h)
    · have hz : va_A (cx ++ va_pl L F) H.size a := d_A hD1 a (by rw [List.map_append, pl_fst]; exact List.mem_append_right _ h)
      rcases hAin _ hz with z | z | z
      · exact hdA a (List.mem_append_left _ (hcX a z))
      · exact hdA a (List.mem_append_right _ z)
      · exact hA a (Nat.le_trans hS0.1 z)
/-- a callee's cells are free to write -/
theorem wd_free {g : Gm} {E : Ev} {A : Nat → Prop} {X cx : va_W} {L : List Nat} {F : Nat → va_E} {H : Heap} {locs : List Loc} (is : List Nat) (h : Wd g E A (X ++ va_pl L F) H locs) (hA : ∀ q, (gs g).heap.size ≤ q → A q) (hC : is.map (fun i => X[i]?) = cx.map some) : ∀ q, va_A (cx ++ va_pl L F) H.size q → A q := va_freeP h.2.1 h.2.2 hA is hC
theorem wd_pre {g : Gm} {u : Mu} {E : Ev} {A : Nat → Prop} {X cx : va_W} {L : List Nat} {F : Nat → va_E} {H : Heap} {locs : List Loc} {av : List Value} (C : Cx g u E A) (is : List Nat) (h : Wd g E A (X ++ va_pl L F) H locs) (hC : is.map (fun i => X[i]?) = cx.map some) (hn : va_nd is = true) : ∀ U : State, U.heap = H → (gs g).WarmedH U.vm → kPc E av H.size (cx ++ va_pl L F) av.toArray U := by
  intro U hU hW
  have hfr := wd_free is h C.2.2.1 hC
  refine ⟨rfl, by rw [hU], by rw [hU]; exact h.1.part is hC, va_K.moved hW.alike C.2.1, ?_, ?_, C.2.2.2.2.2.2.2.2.warm hW⟩
  · exact (h.2.1.part is hn hC).weaken (fun _ _ _ _ => trivial)
  · rw [hU]
    exact ((C.2.2.2.2.2.2.2.1.kept h.2.2.2.1).narrow hfr).moved hW.alike
theorem k_blind {E : Ev} {av : List Value} {sz : Nat} {ws : va_W} : FrameBlind (kPc E av sz ws) := fun a U g mk q => by
  obtain ⟨q0, q1, q2, q3, q4, q5, q6⟩ := q
  exact ⟨q0, q1, q2, va_K.moved (u := U) (U := U.calling g mk a) (Vm.Alike.refl U.vm) q3, q4, q5.moved (u := U) (U := U.calling g mk a) (Vm.Alike.refl U.vm), q6.same (u := U) (U := U.calling g mk a) rfl⟩
section
variable {g : Gm} {u v : Mu} {E : Ev} {A : Nat → Prop} {ce sl : Nat} {Q : State → Prop} {X cx : va_W} {L : List Nat} {F : Nat → va_E} {pc : Nat} {lv : List (Nat × Value)} {rest st0 : List Value} {y : MethodName} {av As : List Value} {post : Ps}
theorem g_run (C : Cx g u E A) (is : List Nat) (hC : is.map (fun i => X[i]?) = cx.map some) (hn : va_nd is = true) {a : Array Value}
    (hr : ∀ (H : Heap) (locs : List Loc) (ls : Array Slot), Wd g E A (X ++ va_pl L F) H locs → lv_has ls (uL u) lv → va_Run (gp g) (gl g) (ge g) (gR g) (gs g) (gm g) (ga g) (gb g) (gt g) (gc g) H locs ce sl (uC v) (uS v) (F0 (gm g) pc ls st0) rest (kQc E H.size cx L F post a) (va_A (cx ++ va_pl L F) H.size))
    (k : ∀ (r : Option Value) (cx' : va_W) (L' : List Nat) (F' : Nat → va_E), post r cx' L' F' → cx'.map Prod.fst = cx.map Prod.fst → (∃ N, L' = L ++ N) → G g u E A (ce + uC v) (sl + uS v) Q (rp X is cx') L' F' (pc + 3) lv (r.toList ++ rest)) : G g u E A ce sl Q X L F pc lv st0 := by
  intro H locs ls hw hl T hT XX
  obtain ⟨r, st₀, t, T', Lc, h0, X', hL, e1, e2, ⟨⟨r', cx', L', F', hv, hp, hf, hN, hP1, hD1⟩, hz, hk⟩, st⟩ := hr H locs ls hw hl T hT XX
  cases hv
  rw [h0] at hz hk
  rw [← e1] at hz hk hP1
  have hfr := wd_free is hw C.2.2.1 hC
  have hS : va_S A (gs g).heap T'.heap (locs ++ Lc) := ⟨Nat.le_trans hw.2.2.1 hz, fun q h1 h2 => by
      rw [hk q (Nat.lt_of_lt_of_le h1 hw.2.2.1) (fun z => h2 (hfr q z))]; exact hw.2.2.2.1 q h1 h2, fun q hq => by
      rcases List.mem_append.mp hq with h | h
      · exact hw.2.2.2.2 q h
      · exact hfr _ (hL q h)⟩
  obtain ⟨t2, a1, b1⟩ := k r cx' L' F' hp hf hN T'.heap (locs ++ Lc) ls (wd_join is hw C.2.2.1 hC hn hf hN hP1 hD1 hk hS) hl T' rfl X'
  exact ⟨t2, st t2 a1, b1⟩
/-- a virtual call; the receiver is an explicit cell -/
theorem g_callV (C : Cx g u E A) {b : Nat} (M : KC (gl g) E y v (.ref b :: As) cx L F post) (is : List Nat) (hC : is.map (fun i => X[i]?) = cx.map some) (hn : va_nd is = true) (q0 : Nat) {ci : Nat} {fs : List Value} (hq : X[q0]? = some (b, .inr (ci, fs))) {r : vw_C} (hc : vwCl[ci]? = some r) {index n : Nat} (hG : GoodIn wB (wsV (uO u) index r.1 y (wM y v.1 (uL v) (uT v))))
    (hd : y.cls = r.1 ∧ y.cls ≠ "java/lang/invoke/MethodHandle" ∧ y.cls ≠ "java/lang/invoke/VarHandle" ∧ (parseMethodDescriptor y.desc).map (fun d => d.parameters.length) = some n) (hR : uF v + 1 ≤ uF u ∧ 8 + (uL v + 11) + uW v ≤ uW u) (hlen : As.length = n) (hst : As.reverse ++ .ref b :: rest = st0) (hcat : (rest.map fun v => v.category).sum ≤ 8) (hf : ce + uC v ≤ uC u ∧ sl + uS v ≤ uS u) (hdg : decode u.1 pc = .ok (.invokevirtual index, 3))
    (k : ∀ (r : Option Value) (cx' : va_W) (L' : List Nat) (F' : Nat → va_E), post r cx' L' F' → cx'.map Prod.fst = cx.map Prod.fst → (∃ N, L' = L ++ N) → G g u E A (ce + uC v) (sl + uS v) Q (rp X is cx') L' F' (pc + 3) lv (r.toList ++ rest)) : G g u E A ce sl Q X L F pc lv st0 := by
  refine g_run (v := v) C is hC hn (a := (Value.ref b :: As).toArray) (fun H locs ls hw hl => ?_) k
  have hR' := C.2.2.2.2.2.2.1
  exact va_runV (C := r.1) ⟨C.1.1, C.1.2.1, C.1.2.2.1, C.1.2.2.2.1, C.1.2.2.2.2⟩ (M H.size) (cwV n C.1.2.2.2.2 hG rfl rfl rfl hd (by rw [hR']; exact hR)) ⟨k_blind, va_recv C.2.1 hw.1 hc (xL hq), wd_pre C is hw hC hn⟩ rfl hlen hl.1 hst.symm (lv_room hcat) hdg (by rw [hR']; exact hf)
/-- a virtual call; the receiver is in the pool -/
theorem g_callP (C : Cx g u E A) {b : Nat} (M : KC (gl g) E y v (.ref b :: As) cx L F post) (is : List Nat) (hC : is.map (fun i => X[i]?) = cx.map some) (hn : va_nd is = true) (hb : b ∈ L) {ci : Nat} {fs : List Value} (hq : F b = .inr (ci, fs)) {r : vw_C} (hc : vwCl[ci]? = some r) {index n : Nat} (hG : GoodIn wB (wsV (uO u) index r.1 y (wM y v.1 (uL v) (uT v))))
    (hd : y.cls = r.1 ∧ y.cls ≠ "java/lang/invoke/MethodHandle" ∧ y.cls ≠ "java/lang/invoke/VarHandle" ∧ (parseMethodDescriptor y.desc).map (fun d => d.parameters.length) = some n) (hR : uF v + 1 ≤ uF u ∧ 8 + (uL v + 11) + uW v ≤ uW u) (hlen : As.length = n) (hst : As.reverse ++ .ref b :: rest = st0) (hcat : (rest.map fun v => v.category).sum ≤ 8) (hf : ce + uC v ≤ uC u ∧ sl + uS v ≤ uS u) (hdg : decode u.1 pc = .ok (.invokevirtual index, 3))
    (k : ∀ (r : Option Value) (cx' : va_W) (L' : List Nat) (F' : Nat → va_E), post r cx' L' F' → cx'.map Prod.fst = cx.map Prod.fst → (∃ N, L' = L ++ N) → G g u E A (ce + uC v) (sl + uS v) Q (rp X is cx') L' F' (pc + 3) lv (r.toList ++ rest)) : G g u E A ce sl Q X L F pc lv st0 := by
  refine g_run (v := v) C is hC hn (a := (Value.ref b :: As).toArray) (fun H locs ls hw hl => ?_) k
  have hR' := C.2.2.2.2.2.2.1
  obtain ⟨q0, hq0⟩ := va_pl_get (X := X) (f := F) hb
  rw [hq] at hq0
  exact va_runV (C := r.1) ⟨C.1.1, C.1.2.1, C.1.2.2.1, C.1.2.2.2.1, C.1.2.2.2.2⟩ (M H.size) (cwV n C.1.2.2.2.2 hG rfl rfl rfl hd (by rw [hR']; exact hR)) ⟨k_blind, va_recv C.2.1 hw.1 hc hq0, wd_pre C is hw hC hn⟩ rfl hlen hl.1 hst.symm (lv_room hcat) hdg (by rw [hR']; exact hf)
/-- a static call -/
theorem g_callS (C : Cx g u E A) (M : KC (gl g) E y v As cx L F post) (is : List Nat) (hC : is.map (fun i => X[i]?) = cx.map some) (hn : va_nd is = true) {index n : Nat} (hG : GoodIn wB (va_wsS (uO u) index y (wM y v.1 (uL v) (uT v))))
    (hd : y.cls ≠ "java/lang/invoke/MethodHandle" ∧ y.cls ≠ "java/lang/invoke/VarHandle" ∧ (parseMethodDescriptor y.desc).map (fun d => d.parameters.length) = some n) (hR : uF v + 1 ≤ uF u ∧ 8 + (uL v + 11) + uW v ≤ uW u) (hlen : As.length = n) (hst : As.reverse ++ rest = st0) (hcat : (rest.map fun v => v.category).sum ≤ 8) (hf : ce + uC v ≤ uC u ∧ sl + uS v ≤ uS u) (hdg : decode u.1 pc = .ok (.invokestatic index, 3))
    (k : ∀ (r : Option Value) (cx' : va_W) (L' : List Nat) (F' : Nat → va_E), post r cx' L' F' → cx'.map Prod.fst = cx.map Prod.fst → (∃ N, L' = L ++ N) → G g u E A (ce + uC v) (sl + uS v) Q (rp X is cx') L' F' (pc + 3) lv (r.toList ++ rest)) : G g u E A ce sl Q X L F pc lv st0 := by
  refine g_run (v := v) C is hC hn (a := As.toArray) (fun H locs ls hw hl => ?_) k
  have hR' := C.2.2.2.2.2.2.1
  exact va_runS ⟨C.1.1, C.1.2.1, C.1.2.2.1, C.1.2.2.2.1, C.1.2.2.2.2⟩ (M H.size) (va_cwS n C.1.2.2.2.2 hG rfl rfl rfl hd (by rw [hR']; exact hR)) ⟨k_blind, wd_pre C is hw hC hn⟩ rfl hlen hl.1 hst.symm (lv_room hcat) hdg (by rw [hR']; exact hf)
/-- a static call of a nest mate's private method -/
theorem g_callSN (C : Cx g u E A) (M : KC (gl g) E y v As cx L F post) (is : List Nat) (hC : is.map (fun i => X[i]?) = cx.map some) (hn : va_nd is = true) {index n : Nat} (hnn : Cond.methodLinkNest (uO u) index y "MessageCodes" ∈ nnL) (hG : GoodIn wB (wM y v.1 (uL v) (uT v))) (hs : Cond.static y ∈ wB) (hi : Cond.initialized y.cls ∈ wB)
    (hd : y.cls ≠ "java/lang/invoke/MethodHandle" ∧ y.cls ≠ "java/lang/invoke/VarHandle" ∧ (parseMethodDescriptor y.desc).map (fun d => d.parameters.length) = some n) (hR : uF v + 1 ≤ uF u ∧ 8 + (uL v + 11) + uW v ≤ uW u) (hlen : As.length = n) (hst : As.reverse ++ rest = st0) (hcat : (rest.map fun v => v.category).sum ≤ 8) (hf : ce + uC v ≤ uC u ∧ sl + uS v ≤ uS u) (hdg : decode u.1 pc = .ok (.invokestatic index, 3))
    (k : ∀ (r : Option Value) (cx' : va_W) (L' : List Nat) (F' : Nat → va_E), post r cx' L' F' → cx'.map Prod.fst = cx.map Prod.fst → (∃ N, L' = L ++ N) → G g u E A (ce + uC v) (sl + uS v) Q (rp X is cx') L' F' (pc + 3) lv (r.toList ++ rest)) : G g u E A ce sl Q X L F pc lv st0 := by
  refine g_run (v := v) C is hC hn (a := As.toArray) (fun H locs ls hw hl => ?_) k
  have hR' := C.2.2.2.2.2.2.1
  exact va_runSN ⟨C.1.1, C.1.2.1, C.1.2.2.1, C.1.2.2.2.1, C.1.2.2.2.2⟩ (M H.size) ⟨va_cnB n C.1.2.2.2.2 hG rfl rfl rfl (C.2.2.2.2.2.2.2.2.1 _ hnn) (C.1.2.2.2.2 _ hi) hd (by rw [hR']; exact hR), C.1.2.2.2.2 _ hs, trivial⟩ ⟨k_blind, wd_pre C is hw hC hn⟩ rfl hlen hl.1 hst.symm (lv_room hcat) hdg (by rw [hR']; exact hf)
/-- a constructor -/
theorem g_callI (C : Cx g u E A) {b : Nat} (M : KC (gl g) E y v (.ref b :: As) cx L F post) (is : List Nat) (hC : is.map (fun i => X[i]?) = cx.map some) (hn : va_nd is = true) {index n : Nat} (hT : uT v = none) (hlk : Cond.methodLink (uO u) index y ∈ wB) (hG : GoodIn wB (wM y v.1 (uL v) (uT v))) (hs : Cond.instanceMethod y ∈ wB) (hi : Cond.initialized y.cls ∈ wB) (hnm : y.name = "<init>")
    (hd : y.cls ≠ "java/lang/invoke/MethodHandle" ∧ y.cls ≠ "java/lang/invoke/VarHandle" ∧ (parseMethodDescriptor y.desc).map (fun d => d.parameters.length) = some n) (hR : uF v + 1 ≤ uF u ∧ 8 + (uL v + 11) + uW v ≤ uW u) (hlen : As.length = n) (hst : As.reverse ++ .ref b :: rest = st0) (hcat : (rest.map fun v => v.category).sum ≤ 8) (hf : ce + uC v ≤ uC u ∧ sl + uS v ≤ uS u) (hdg : decode u.1 pc = .ok (.invokespecial index, 3))
    (k : ∀ (r : Option Value) (cx' : va_W) (L' : List Nat) (F' : Nat → va_E), post r cx' L' F' → cx'.map Prod.fst = cx.map Prod.fst → (∃ N, L' = L ++ N) → G g u E A (ce + uC v) (sl + uS v) Q (rp X is cx') L' F' (pc + 3) lv (r.toList ++ rest)) : G g u E A ce sl Q X L F pc lv st0 := by
  refine g_run (v := v) C is hC hn (a := (Value.ref b :: As).toArray) (fun H locs ls hw hl => ?_) k
  have hR' := C.2.2.2.2.2.2.1
  have M' := M H.size
  rw [hT] at M' hG
  exact va_runI ⟨C.1.1, C.1.2.1, C.1.2.2.1, C.1.2.2.2.1, C.1.2.2.2.2⟩ M' (cwI n C.1.2.2.2.2 hG rfl rfl rfl (C.1.2.2.2.2 _ hi) (C.1.2.2.2.2 _ hlk) (C.1.2.2.2.2 _ hs) hnm hd (by rw [hR']; exact hR)) ⟨k_blind, wd_pre C is hw hC hn⟩ rfl hlen hl.1 hst.symm (lv_room hcat) hdg (by rw [hR']; exact hf)
/-- a nest mate's private constructor -/
theorem g_callIN (C : Cx g u E A) {b : Nat} (M : KC (gl g) E y v (.ref b :: As) cx L F post) (is : List Nat) (hC : is.map (fun i => X[i]?) = cx.map some) (hn : va_nd is = true) {index n : Nat} (hT : uT v = none) (hnn : Cond.methodLinkNest (uO u) index y "MessageCodes" ∈ nnL) (hG : GoodIn wB (wM y v.1 (uL v) (uT v))) (hs : Cond.instanceMethod y ∈ wB) (hi : Cond.initialized y.cls ∈ wB) (hnm : y.name = "<init>")
    (hd : y.cls ≠ "java/lang/invoke/MethodHandle" ∧ y.cls ≠ "java/lang/invoke/VarHandle" ∧ (parseMethodDescriptor y.desc).map (fun d => d.parameters.length) = some n) (hR : uF v + 1 ≤ uF u ∧ 8 + (uL v + 11) + uW v ≤ uW u) (hlen : As.length = n) (hst : As.reverse ++ .ref b :: rest = st0) (hcat : (rest.map fun v => v.category).sum ≤ 8) (hf : ce + uC v ≤ uC u ∧ sl + uS v ≤ uS u) (hdg : decode u.1 pc = .ok (.invokespecial index, 3))
    (k : ∀ (r : Option Value) (cx' : va_W) (L' : List Nat) (F' : Nat → va_E), post r cx' L' F' → cx'.map Prod.fst = cx.map Prod.fst → (∃ N, L' = L ++ N) → G g u E A (ce + uC v) (sl + uS v) Q (rp X is cx') L' F' (pc + 3) lv (r.toList ++ rest)) : G g u E A ce sl Q X L F pc lv st0 := by
  refine g_run (v := v) C is hC hn (a := (Value.ref b :: As).toArray) (fun H locs ls hw hl => ?_) k
  have hR' := C.2.2.2.2.2.2.1
  have M' := M H.size
  rw [hT] at M' hG
  exact va_runIN ⟨C.1.1, C.1.2.1, C.1.2.2.1, C.1.2.2.2.1, C.1.2.2.2.2⟩ M' ⟨va_cnB n C.1.2.2.2.2 hG rfl rfl rfl (C.2.2.2.2.2.2.2.2.1 _ hnn) (C.1.2.2.2.2 _ hi) hd (by rw [hR']; exact hR), hnm, C.1.2.2.2.2 _ hs⟩ ⟨k_blind, wd_pre C is hw hC hn⟩ rfl hlen hl.1 hst.symm (lv_room hcat) hdg (by rw [hR']; exact hf)
end
