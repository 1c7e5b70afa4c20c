theorem nn_X0_27 : Cond.methodLinkNest RX0 27 yX4_timesT "MessageCodes" ∈ nnL := List.mem_of_getElem? (i := 0) rfl
theorem nn_X0_31 : Cond.methodLinkNest RX0 31 yX4_substitute "MessageCodes" ∈ nnL := List.mem_of_getElem? (i := 1) rfl
theorem nn_X4_33 : Cond.methodLinkNest RX4 33 yX0_init "MessageCodes" ∈ nnL := List.mem_of_getElem? (i := 2) rfl
theorem nn_X4_54 : Cond.methodLinkNest RX4 54 yX2_init "MessageCodes" ∈ nnL := List.mem_of_getElem? (i := 3) rfl
def imin (x y : Int32) : Int32 := if y < x then y else x
def imax (x y : Int32) : Int32 := if x < y then y else x
/-- sum and power of the reference's product behind k steps -/
def prS (x y : Int32) : Nat → Int32 × Int32
  | 0 => (nI 0, x)
  | k + 1 => (if (y >>> (nI k &&& 31)) &&& nI 1 = nI 1 then (prS x y k).1 ^^^ (prS x y k).2 else (prS x y k).1, if (prS x y k).2 ≤ nI 127 then nI 2 * (prS x y k).2 else (nI 2 * (prS x y k).2 - nI 256) ^^^ nI 27)
def pr (x y : Int32) : Int32 := (prS x y 8).1
theorem pr_end {x y a b : Int32} {k : Nat} (hk : k ≤ 8) (c : 8 ≤ k) (h : (a, b) = prS x y k) : a = pr x y := by
  obtain rfl : k = 8 := by omega
  unfold pr
  rw [← h]
theorem mcS {f st : Nat → Int32} {t : Nat} {a b c d w x y z : Int32} (h : mpF f (MC st) st (4 * t) 16) (ht : 4 * t < 16) (ea : a = f (4 * t)) (eb : b = f (4 * t + 1)) (ec : c = f (4 * t + 2)) (ed : d = f (4 * t + 3))
    (hw : w = (a ^^^ (((a ^^^ b) ^^^ c) ^^^ d)) ^^^ tT (a ^^^ b)) (hx : x = (b ^^^ (((a ^^^ b) ^^^ c) ^^^ d)) ^^^ tT (b ^^^ c)) (hy : y = (c ^^^ (((a ^^^ b) ^^^ c) ^^^ d)) ^^^ tT (c ^^^ d)) (hz : z = (d ^^^ (((a ^^^ b) ^^^ c) ^^^ d)) ^^^ tT (d ^^^ a)) :
    mpF (upd (upd (upd (upd f (4 * t) w) (4 * t + 1) x) (4 * t + 2) y) (4 * t + 3) z) (MC st) st (4 * (t + 1)) 16 := by
  rw [mpR h (by omega) (by omega)] at ea eb ec ed
  rw [mc_row] at hw
  rw [mc_row2] at hx
  rw [mc_row3] at hy
  rw [mc_row4] at hz
  have e0 : w = MC st (4 * t) := by
    rw [hw, ea, eb, ec, ed]
    unfold MC
    rw [show 4 * t % 4 = 0 by omega]
    rfl
  have e1 : x = MC st (4 * t + 1) := by
    rw [hx, ea, eb, ec, ed]
    unfold MC
    rw [show (4 * t + 1) % 4 = 1 by omega, show 4 * t + 1 - 1 = 4 * t by omega]
    rfl
  have e2 : y = MC st (4 * t + 2) := by
    rw [hy, ea, eb, ec, ed]
    unfold MC
    rw [show (4 * t + 2) % 4 = 2 by omega, show 4 * t + 2 - 2 = 4 * t by omega]
    rfl
  have e3 : z = MC st (4 * t + 3) := by
    rw [hz, ea, eb, ec, ed]
    unfold MC
    rw [show (4 * t + 3) % 4 = 3 by omega, show 4 * t + 3 - 3 = 4 * t by omega]
    rfl
  exact mpS (mpS (mpS (mpS h e0) e1) e2) e3
theorem g_mmin {g : Gm} {u : Mu} {E : Ev} {A : Nat → Prop} {ce sl : Nat} {Q : State → Prop} {X : va_W} {L : List Nat} {F : Nat → va_E} {pc : Nat} {lv : List (Nat × Value)} {rest : List Value} (C : Cx g u E A) {index : Nat} {x y : Int32} (hlk : Cond.methodLink (uO u) index Lib.Math.min.name ∈ wB) (hst : Cond.static Lib.Math.min.name ∈ wB) (hini : Cond.initialized "java/lang/Math" ∈ wB) (hcd : Cond.code Lib.Math.min.name Lib.Math.min.code 2 (some .int) ∈ wB) (hF : 1 ≤ uF u) (hW : (rest.map fun v => v.category).sum + 13 ≤ uW u) (hc : ce ≤ uC u) (hs : sl ≤ uS u) (hdg : decode u.1 pc = .ok (.invokestatic index, 3))
    (k : G g u E A ce sl Q X L F (pc + 3) lv (.int (imin x y) :: rest)) : G g u E A ce sl Q X L F pc lv (.int y :: .int x :: rest) := fun H locs ls hw hl => by
  have hR := C.2.2.2.2.2.2.1
  exact va_mmin C.1.1 C.1.2.1 (by rw [C.1.2.2.1]; exact hl.1.symm) C.1.2.2.2.1 (C.1.2.2.2.2 _ hlk) (C.1.2.2.2.2 _ hst) (C.1.2.2.2.2 _ hini) (C.1.2.2.2.2 _ hcd) (by rw [hR]; exact hF) (by rw [hR]; exact hW) (by rw [hR]; exact hc) (by rw [hR]; exact hs) hdg (k H locs ls hw hl)
theorem g_mmax {g : Gm} {u : Mu} {E : Ev} {A : Nat → Prop} {ce sl : Nat} {Q : State → Prop} {X : va_W} {L : List Nat} {F : Nat → va_E} {pc : Nat} {lv : List (Nat × Value)} {rest : List Value} (C : Cx g u E A) {index : Nat} {x y : Int32} (hlk : Cond.methodLink (uO u) index Lib.Math.max.name ∈ wB) (hst : Cond.static Lib.Math.max.name ∈ wB) (hini : Cond.initialized "java/lang/Math" ∈ wB) (hcd : Cond.code Lib.Math.max.name Lib.Math.max.code 2 (some .int) ∈ wB) (hF : 1 ≤ uF u) (hW : (rest.map fun v => v.category).sum + 13 ≤ uW u) (hc : ce ≤ uC u) (hs : sl ≤ uS u) (hdg : decode u.1 pc = .ok (.invokestatic index, 3))
    (k : G g u E A ce sl Q X L F (pc + 3) lv (.int (imax x y) :: rest)) : G g u E A ce sl Q X L F pc lv (.int y :: .int x :: rest) := fun H locs ls hw hl => by
  have hR := C.2.2.2.2.2.2.1
  exact va_mmax C.1.1 C.1.2.1 (by rw [C.1.2.2.1]; exact hl.1.symm) C.1.2.2.2.1 (C.1.2.2.2.2 _ hlk) (C.1.2.2.2.2 _ hst) (C.1.2.2.2.2 _ hini) (C.1.2.2.2.2 _ hcd) (by rw [hR]; exact hF) (by rw [hR]; exact hW) (by rw [hR]; exact hc) (by rw [hR]; exact hs) hdg (k H locs ls hw hl)
abbrev muX4_timesT : Mu := (cX4_timesT, 2, RX4, (some .int), "timesT", 0, 0, 0, 0)
theorem hd_X4_timesT : yX4_timesT.cls = RX4 ∧ yX4_timesT.cls ≠ "java/lang/invoke/MethodHandle" ∧ yX4_timesT.cls ≠ "java/lang/invoke/VarHandle" ∧ (parseMethodDescriptor yX4_timesT.desc).map (fun d => d.parameters.length) = some 1 := by decide +kernel
set_option maxHeartbeats 4000000 in
set_option maxRecDepth 100000 in
/-- timesT: an octet times t -/
theorem k_X4_timesT (l : Launch) (E : Ev) (x : Int32) (L : List Nat) (F : Nat → va_E)  : KC l E yX4_timesT muX4_timesT [.int (x)] [] L F (fun r8 cx8 L8 F8 => r8 = some (.int (tT x)) ∧ cx8 = [] ∧ L = L8 ∧ F = F8 ∧ (True)) := by
  refine K_start (by decide) rfl rfl (Nat.le_of_ble_eq_true rfl) (fun g A Q hgl C r => ?_)
  subst hgl
  show G g muX4_timesT E A 0 0 Q [] L F 0 [(0, .int (x))] []
  refine g_iload_n C dX4_timesT_0 rfl 0 rfl ?_
  refine g_iconst (v := nI (1)) C dX4_timesT_1 (by decide) ?_
  refine g_ishl C dX4_timesT_2 ?_
  refine g_istore_n (lv' := [(1, .int (x <<< ((nI (1)) &&& 31))), (0, .int (x))]) C dX4_timesT_3 rfl (by decide) rfl ?_
  refine g_iload_n C dX4_timesT_4 rfl 1 rfl ?_
  refine g_sipush (v := nI (128)) C dX4_timesT_5 (by decide) ?_
  refine g_iand C dX4_timesT_8 ?_
  refine g_if_eq (tgt := 23) C dX4_timesT_9 (by decide) (fun c9 => ?_) (fun c9 => ?_)
  · skip
    refine g_iload_n C dX4_timesT_23 rfl 0 rfl ?_
    refine g_sipush (v := nI (255)) C dX4_timesT_24 (by decide) ?_
    refine g_iand C dX4_timesT_27 ?_
    refine g_asi (show ((x <<< ((nI (1)) &&& 31)) &&& (nI (255))) = (tT x) from (by unfold tT; rw [if_pos c9])) ?_
    exact g_iret C r rfl ⟨rfl, rfl, rfl, rfl, trivial⟩ rfl nN dX4_timesT_28
  · skip
    refine g_iload_n C dX4_timesT_12 rfl 0 rfl ?_
    refine g_bipush (v := nI (27)) C dX4_timesT_13 (by decide) ?_
    refine g_ixor C dX4_timesT_15 ?_
    refine g_sipush (v := nI (255)) C dX4_timesT_16 (by decide) ?_
    refine g_iand C dX4_timesT_19 ?_
    refine g_asi (show (((x <<< ((nI (1)) &&& 31)) ^^^ (nI (27))) &&& (nI (255))) = (tT x) from (by unfold tT; rw [if_neg c9])) ?_
    refine g_goto (tgt := 28) C dX4_timesT_20 (by decide) ?_
    exact g_iret C r rfl ⟨rfl, rfl, rfl, rfl, trivial⟩ rfl nN dX4_timesT_28
abbrev muX4_substitute : Mu := (cX4_substitute, 1, RX4, (some .int), "substitute", 0, 0, 0, 0)
theorem hd_X4_substitute : yX4_substitute.cls = RX4 ∧ yX4_substitute.cls ≠ "java/lang/invoke/MethodHandle" ∧ yX4_substitute.cls ≠ "java/lang/invoke/VarHandle" ∧ (parseMethodDescriptor yX4_substitute.desc).map (fun d => d.parameters.length) = some 1 := by decide +kernel
set_option maxHeartbeats 4000000 in
set_option maxRecDepth 100000 in
theorem k_X4_substitute (l : Launch) (E : Ev) (x : Int32) (L : List Nat) (F : Nat → va_E)  : KC l E yX4_substitute muX4_substitute [.int (x)] [] L F (fun r8 cx8 L8 F8 => r8 = some (.int (sb x)) ∧ cx8 = [] ∧ L = L8 ∧ F = F8 ∧ (True)) := by
  refine K_start (by decide) rfl rfl (Nat.le_of_ble_eq_true rfl) (fun g A Q hgl C r => ?_)
  subst hgl
  show G g muX4_substitute E A 0 0 Q [] L F 0 [(0, .int (x))] []
  refine g_tbl (i := 0) (d1 := 0) C m_173 dX4_substitute_0 (fun t9 ht9 => ?_)
  refine g_iload_n C dX4_substitute_3 rfl 0 rfl ?_
  refine g_sipush (v := nI (255)) C dX4_substitute_4 (by decide) ?_
  refine g_iand C dX4_substitute_7 ?_
  refine ht9 _ _ _ _ _ ((pk_andIn x 8 (by decide) (by omega))) dX4_substitute_8 ?_
  refine g_asi (show (TB (x &&& (nI (255))).toNatClampNeg) = (sb x) from rfl) ?_
  exact g_iret C r rfl ⟨rfl, rfl, rfl, rfl, trivial⟩ rfl nN dX4_substitute_9
abbrev muJ7_fill_53178 : Mu := (cJ7_fill_53178, 4, RJ7, none, "fill", 0, 0, 0, 0)
theorem hd_J7_fill_53178 : yJ7_fill_53178.cls = RJ7 ∧ yJ7_fill_53178.cls ≠ "java/lang/invoke/MethodHandle" ∧ yJ7_fill_53178.cls ≠ "java/lang/invoke/VarHandle" ∧ (parseMethodDescriptor yJ7_fill_53178.desc).map (fun d => d.parameters.length) = some 2 := by decide +kernel
set_option maxHeartbeats 4000000 in
set_option maxRecDepth 100000 in
theorem k_J7_fill_53178 (l : Launch) (E : Ev) (a0 n : Nat) (f : Nat → Int32) (x : Int32) (L : List Nat) (F : Nat → va_E) (hn : n < 2 ^ 31) : KC l E yJ7_fill_53178 muJ7_fill_53178 [.ref a0, .int (x)] [(a0, aI E n (f))] L F (fun r8 cx8 L8 F8 => r8 = none ∧ cx8 = [(a0, aI E n (fun _ => x))] ∧ L = L8 ∧ F = F8 ∧ (True)) := by
  refine K_start (by decide) rfl rfl (Nat.le_of_ble_eq_true rfl) (fun g A Q hgl C r => ?_)
  subst hgl
  show G g muJ7_fill_53178 E A 0 0 Q [(a0, aI E n (f))] L F 0 [(0, .ref a0), (1, .int (x))] []
  refine g_iconst (v := nI (0)) C dJ7_fill_53178_0 (by decide) ?_
  refine g_istore_n (lv' := [(2, .int (nI (0))), (0, .ref a0), (1, .int (x))]) C dJ7_fill_53178_1 rfl (by decide) rfl ?_
  refine g_aload_n C dJ7_fill_53178_2 rfl 1 rfl ?_
  refine g_alen (v := nI (n)) C 0 rfl rfl dJ7_fill_53178_3 ?_
  refine g_istore_n (lv' := [(3, .int (nI (n))), (2, .int (nI (0))), (0, .ref a0), (1, .int (x))]) C dJ7_fill_53178_4 rfl (by decide) rfl ?_
  have lp5 : ∀ (n5 : Nat) (i : Nat) (f1 : Nat → Int32), (i ≤ n) → (pfx f1 (fun _ => x) i) → n + 1 ≤ i + n5 → G g muJ7_fill_53178 E A 0 0 Q [(a0, aI E n (f1))] L F 5 [(0, .ref a0), (1, .int (x)), (2, .int (nI (i))), (3, .int (nI (n)))] [] := by
    intro n5
    induction n5 with
    | zero => intro i f1 hi hf hfu5; exact absurd hfu5 (by omega)
    | succ n5 ih5 =>
      intro i f1 hi hf hfu5
      refine g_iload_n C dJ7_fill_53178_5 rfl 2 rfl ?_
      refine g_iload_n C dJ7_fill_53178_6 rfl 3 rfl ?_
      refine g_nicmp_ge (tgt := 20) C dJ7_fill_53178_7 (by decide) (by omega) (by omega) (fun c7 => ?_) (fun c7 => ?_)
      · skip
        refine g_cgI (f' := fun _ => x) (X' := [(a0, aI E n (fun _ => x))]) 0 rfl (fun j hj => hf j (by omega)) rfl ?_
        exact g_vret C r rfl ⟨rfl, rfl, rfl, rfl, trivial⟩ rfl nN dJ7_fill_53178_20
      · skip
        refine g_aload_n C dJ7_fill_53178_10 rfl 0 rfl ?_
        refine g_iload_n C dJ7_fill_53178_11 rfl 2 rfl ?_
        refine g_iload_n C dJ7_fill_53178_12 rfl 1 rfl ?_
        refine g_iast (X' := [(a0, aI E n (upd f1 i x))]) C 0 rfl (by omega) hn rfl dJ7_fill_53178_13 ?_
        refine g_iinc (v := nI (i + 1)) (lv' := [(2, .int (nI (i + 1))), (0, .ref a0), (1, .int (x)), (3, .int (nI (n)))]) C dJ7_fill_53178_14 2 rfl (nI_inc _ 1) (by decide) rfl ?_
        refine g_goto (tgt := 5) C dJ7_fill_53178_17 (by decide) ?_
        refine g_lv [1, 2, 0, 3] rfl ?_
        exact ih5 (i + 1) (upd f1 i x) (by omega) (pfS hf rfl) (by omega)
  refine g_lv [2, 3, 1, 0] rfl ?_
  exact lp5 (n + 1) 0 f (Nat.zero_le _) pf0 (by omega)
abbrev muX5_product : Mu := (cX5_product, 5, RX5, (some .int), "product", 0, 0, 0, 0)
theorem hd_X5_product : yX5_product.cls = RX5 ∧ yX5_product.cls ≠ "java/lang/invoke/MethodHandle" ∧ yX5_product.cls ≠ "java/lang/invoke/VarHandle" ∧ (parseMethodDescriptor yX5_product.desc).map (fun d => d.parameters.length) = some 2 := by decide +kernel
set_option maxHeartbeats 4000000 in
set_option maxRecDepth 100000 in
theorem k_X5_product (l : Launch) (E : Ev) (x y : Int32) (L : List Nat) (F : Nat → va_E)  : KC l E yX5_product muX5_product [.int (x), .int (y)] [] L F (fun r8 cx8 L8 F8 => r8 = some (.int (pr x y)) ∧ cx8 = [] ∧ L = L8 ∧ F = F8 ∧ (True)) := by
  refine K_start (by decide) rfl rfl (Nat.le_of_ble_eq_true rfl) (fun g A Q hgl C r => ?_)
  subst hgl
  show G g muX5_product E A 0 0 Q [] L F 0 [(0, .int (x)), (1, .int (y))] []
  refine g_iconst (v := nI (0)) C dX5_product_0 (by decide) ?_
  refine g_istore_n (lv' := [(2, .int (nI (0))), (0, .int (x)), (1, .int (y))]) C dX5_product_1 rfl (by decide) rfl ?_
  refine g_iload_n C dX5_product_2 rfl 1 rfl ?_
  refine g_istore_n (lv' := [(3, .int (x)), (2, .int (nI (0))), (0, .int (x)), (1, .int (y))]) C dX5_product_3 rfl (by decide) rfl ?_
  refine g_iconst (v := nI (0)) C dX5_product_4 (by decide) ?_
  refine g_istore (lv' := [(4, .int (nI (0))), (3, .int (x)), (2, .int (nI (0))), (0, .int (x)), (1, .int (y))]) C dX5_product_5 (by decide) rfl ?_
  have lp7 : ∀ (n7 : Nat) (k : Nat) (a b : Int32), (k ≤ 8) → ((a, b) = prS x y k) → 9 ≤ k + n7 → G g muX5_product E A 0 0 Q [] L F 7 [(0, .int (x)), (1, .int (y)), (2, .int (a)), (3, .int (b)), (4, .int (nI (k)))] [] := by
    intro n7
    induction n7 with
    | zero => intro k a b hk hab hfu7; exact absurd hfu7 (by omega)
    | succ n7 ih7 =>
      intro k a b hk hab hfu7
      refine g_iload C dX5_product_7 4 rfl ?_
      refine g_bipush (v := nI (8)) C dX5_product_9 (by decide) ?_
      refine g_nicmp_ge (tgt := 61) C dX5_product_11 (by decide) (by omega) (by omega) (fun c11 => ?_) (fun c11 => ?_)
      · skip
        refine g_iload_n C dX5_product_61 rfl 2 rfl ?_
        refine g_asi (show (a) = (pr x y) from pr_end hk c11 hab) ?_
        exact g_iret C r rfl ⟨rfl, rfl, rfl, rfl, trivial⟩ rfl nN dX5_product_62
      · skip
        refine g_iload_n C dX5_product_14 rfl 1 rfl ?_
        refine g_iload C dX5_product_15 4 rfl ?_
        refine g_ishr C dX5_product_17 ?_
        refine g_iconst (v := nI (1)) C dX5_product_18 (by decide) ?_
        refine g_iand C dX5_product_19 ?_
        refine g_iconst (v := nI (1)) C dX5_product_20 (by decide) ?_
        refine g_icmp_ne (tgt := 30) C dX5_product_21 (by decide) (fun c21 => ?_) (fun c21 => ?_)
        · skip
          refine g_iload_n C dX5_product_30 rfl 2 rfl ?_
          refine g_istore_n (lv' := [(2, .int (a)), (0, .int (x)), (1, .int (y)), (3, .int (b)), (4, .int (nI (k)))]) C dX5_product_31 rfl (by decide) rfl ?_
          refine g_iload_n C dX5_product_32 rfl 3 rfl ?_
          refine g_bipush (v := nI (127)) C dX5_product_33 (by decide) ?_
          refine g_icmp_le (tgt := 51) C dX5_product_35 (by decide) (fun c35 => ?_) (fun c35 => ?_)
          · skip
            refine g_iconst (v := nI (2)) C dX5_product_51 (by decide) ?_
            refine g_iload_n C dX5_product_52 rfl 3 rfl ?_
            refine g_imul C dX5_product_53 ?_
            refine g_istore_n (lv' := [(3, .int ((nI (2)) * b)), (2, .int (a)), (0, .int (x)), (1, .int (y)), (4, .int (nI (k)))]) C dX5_product_54 rfl (by decide) rfl ?_
            refine g_iinc (v := nI (k + 1)) (lv' := [(4, .int (nI (k + 1))), (3, .int ((nI (2)) * b)), (2, .int (a)), (0, .int (x)), (1, .int (y))]) C dX5_product_55 4 rfl (nI_inc _ 1) (by decide) rfl ?_
            refine g_goto (tgt := 7) C dX5_product_58 (by decide) ?_
            refine g_lv [3, 4, 2, 1, 0] rfl ?_
            exact ih7 (k + 1) a ((nI (2)) * b) (by omega) (by simp only [prS, ← hab, if_neg c21, if_pos c35]) (by omega)
          · skip
            refine g_iconst (v := nI (2)) C dX5_product_38 (by decide) ?_
            refine g_iload_n C dX5_product_39 rfl 3 rfl ?_
            refine g_imul C dX5_product_40 ?_
            refine g_sipush (v := nI (256)) C dX5_product_41 (by decide) ?_
            refine g_isub C dX5_product_44 ?_
            refine g_bipush (v := nI (27)) C dX5_product_45 (by decide) ?_
            refine g_ixor C dX5_product_47 ?_
            refine g_goto (tgt := 54) C dX5_product_48 (by decide) ?_
            refine g_istore_n (lv' := [(3, .int ((((nI (2)) * b) - (nI (256))) ^^^ (nI (27)))), (2, .int (a)), (0, .int (x)), (1, .int (y)), (4, .int (nI (k)))]) C dX5_product_54 rfl (by decide) rfl ?_
            refine g_iinc (v := nI (k + 1)) (lv' := [(4, .int (nI (k + 1))), (3, .int ((((nI (2)) * b) - (nI (256))) ^^^ (nI (27)))), (2, .int (a)), (0, .int (x)), (1, .int (y))]) C dX5_product_55 4 rfl (nI_inc _ 1) (by decide) rfl ?_
            refine g_goto (tgt := 7) C dX5_product_58 (by decide) ?_
            refine g_lv [3, 4, 2, 1, 0] rfl ?_
            exact ih7 (k + 1) a ((((nI (2)) * b) - (nI (256))) ^^^ (nI (27))) (by omega) (by simp only [prS, ← hab, if_neg c21, if_neg c35]) (by omega)
        · skip
          refine g_iload_n C dX5_product_24 rfl 2 rfl ?_
          refine g_iload_n C dX5_product_25 rfl 3 rfl ?_
          refine g_ixor C dX5_product_26 ?_
          refine g_goto (tgt := 31) C dX5_product_27 (by decide) ?_
          refine g_istore_n (lv' := [(2, .int (a ^^^ b)), (0, .int (x)), (1, .int (y)), (3, .int (b)), (4, .int (nI (k)))]) C dX5_product_31 rfl (by decide) rfl ?_
          refine g_iload_n C dX5_product_32 rfl 3 rfl ?_
          refine g_bipush (v := nI (127)) C dX5_product_33 (by decide) ?_
          refine g_icmp_le (tgt := 51) C dX5_product_35 (by decide) (fun c35 => ?_) (fun c35 => ?_)
          · skip
            refine g_iconst (v := nI (2)) C dX5_product_51 (by decide) ?_
            refine g_iload_n C dX5_product_52 rfl 3 rfl ?_
            refine g_imul C dX5_product_53 ?_
            refine g_istore_n (lv' := [(3, .int ((nI (2)) * b)), (2, .int (a ^^^ b)), (0, .int (x)), (1, .int (y)), (4, .int (nI (k)))]) C dX5_product_54 rfl (by decide) rfl ?_
            refine g_iinc (v := nI (k + 1)) (lv' := [(4, .int (nI (k + 1))), (3, .int ((nI (2)) * b)), (2, .int (a ^^^ b)), (0, .int (x)), (1, .int (y))]) C dX5_product_55 4 rfl (nI_inc _ 1) (by decide) rfl ?_
            refine g_goto (tgt := 7) C dX5_product_58 (by decide) ?_
            refine g_lv [3, 4, 2, 1, 0] rfl ?_
            exact ih7 (k + 1) (a ^^^ b) ((nI (2)) * b) (by omega) (by simp only [prS, ← hab, if_pos c21, if_pos c35]) (by omega)
          · skip
            refine g_iconst (v := nI (2)) C dX5_product_38 (by decide) ?_
            refine g_iload_n C dX5_product_39 rfl 3 rfl ?_
            refine g_imul C dX5_product_40 ?_
            refine g_sipush (v := nI (256)) C dX5_product_41 (by decide) ?_
            refine g_isub C dX5_product_44 ?_
            refine g_bipush (v := nI (27)) C dX5_product_45 (by decide) ?_
            refine g_ixor C dX5_product_47 ?_
            refine g_goto (tgt := 54) C dX5_product_48 (by decide) ?_
            refine g_istore_n (lv' := [(3, .int ((((nI (2)) * b) - (nI (256))) ^^^ (nI (27)))), (2, .int (a ^^^ b)), (0, .int (x)), (1, .int (y)), (4, .int (nI (k)))]) C dX5_product_54 rfl (by decide) rfl ?_
            refine g_iinc (v := nI (k + 1)) (lv' := [(4, .int (nI (k + 1))), (3, .int ((((nI (2)) * b) - (nI (256))) ^^^ (nI (27)))), (2, .int (a ^^^ b)), (0, .int (x)), (1, .int (y))]) C dX5_product_55 4 rfl (nI_inc _ 1) (by decide) rfl ?_
            refine g_goto (tgt := 7) C dX5_product_58 (by decide) ?_
            refine g_lv [3, 4, 2, 1, 0] rfl ?_
            exact ih7 (k + 1) (a ^^^ b) ((((nI (2)) * b) - (nI (256))) ^^^ (nI (27))) (by omega) (by simp only [prS, ← hab, if_pos c21, if_neg c35]) (by omega)
  refine g_lv [3, 4, 2, 1, 0] rfl ?_
  exact lp7 9 0 (nI 0) x (by omega) rfl (by omega)
abbrev muX0_addRoundKey : Mu := (cX0_addRoundKey, 4, RX0, none, "addRoundKey", 0, 0, 0, 0)
theorem hd_X0_addRoundKey : yX0_addRoundKey.cls = RX0 ∧ yX0_addRoundKey.cls ≠ "java/lang/invoke/MethodHandle" ∧ yX0_addRoundKey.cls ≠ "java/lang/invoke/VarHandle" ∧ (parseMethodDescriptor yX0_addRoundKey.desc).map (fun d => d.parameters.length) = some 2 := by decide +kernel
set_option maxHeartbeats 4000000 in
set_option maxRecDepth 100000 in
theorem k_X0_addRoundKey (l : Launch) (E : Ev) (h0 s0 r0 t0 : Nat) (st rks : Nat → Int32) (j : Nat) (L : List Nat) (F : Nat → va_E) (hj : j ≤ 10) : KC l E yX0_addRoundKey muX0_addRoundKey [.ref h0, .ref s0, .int (nI (j))] [(h0, .inr (2, [.ref r0, .ref t0])), (r0, aI E 176 (rks)), (s0, aI E 16 (st))] L F (fun r8 cx8 L8 F8 => r8 = none ∧ cx8 = [(h0, .inr (2, [.ref r0, .ref t0])), (r0, aI E 176 (rks)), (s0, aI E 16 (fun i => st i ^^^ rks (16 * j + i)))] ∧ L = L8 ∧ F = F8 ∧ (True)) := by
  refine K_start (by decide) rfl rfl (Nat.le_of_ble_eq_true rfl) (fun g A Q hgl C r => ?_)
  subst hgl
  show G g muX0_addRoundKey E A 0 0 Q [(h0, .inr (2, [.ref r0, .ref t0])), (r0, aI E 176 (rks)), (s0, aI E 16 (st))] L F 0 [(0, .ref h0), (1, .ref s0), (2, .int (nI (j)))] []
  refine g_iconst (v := nI (0)) C dX0_addRoundKey_0 (by decide) ?_
  refine g_istore_n (lv' := [(3, .int (nI (0))), (0, .ref h0), (1, .ref s0), (2, .int (nI (j)))]) C dX0_addRoundKey_1 rfl (by decide) rfl ?_
  have lp2 : ∀ (n2 : Nat) (i : Nat) (f : Nat → Int32), (i ≤ 16) → (mpF f (fun i => st i ^^^ rks (16 * j + i)) st i 16) → 17 ≤ i + n2 → G g muX0_addRoundKey E A 0 0 Q [(h0, .inr (2, [.ref r0, .ref t0])), (r0, aI E 176 (rks)), (s0, aI E 16 (f))] L F 2 [(0, .ref h0), (1, .ref s0), (2, .int (nI (j))), (3, .int (nI (i)))] [] := by
    intro n2
    induction n2 with
    | zero => intro i f hi hf hfu2; exact absurd hfu2 (by omega)
    | succ n2 ih2 =>
      intro i f hi hf hfu2
      refine g_iload_n C dX0_addRoundKey_2 rfl 3 rfl ?_
      refine g_bipush (v := nI (16)) C dX0_addRoundKey_3 (by decide) ?_
      refine g_nicmp_ge (tgt := 31) C dX0_addRoundKey_5 (by decide) (by omega) (by omega) (fun c5 => ?_) (fun c5 => ?_)
      · skip
        refine g_cgI (f' := fun i => st i ^^^ rks (16 * j + i)) (X' := [(h0, .inr (2, [.ref r0, .ref t0])), (r0, aI E 176 (rks)), (s0, aI E 16 (fun i => st i ^^^ rks (16 * j + i)))]) 2 rfl (mpE hf c5) rfl ?_
        exact g_vret C r rfl ⟨rfl, rfl, rfl, rfl, trivial⟩ rfl nN dX0_addRoundKey_31
      · skip
        refine g_aload_n C dX0_addRoundKey_8 rfl 1 rfl ?_
        refine g_iload_n C dX0_addRoundKey_9 rfl 3 rfl ?_
        refine g_dup2_11 C dX0_addRoundKey_10 rfl rfl ?_
        refine g_iald C 2 rfl (by omega) (by decide) dX0_addRoundKey_11 ?_
        refine g_aload_n C dX0_addRoundKey_12 rfl 0 rfl ?_
        refine g_getX C 0 rfl rfl inX0 0 (by decide) m_34 rfl dX0_addRoundKey_13 ?_
        refine g_bipush (v := nI (16)) C dX0_addRoundKey_16 (by decide) ?_
        refine g_iload_n C dX0_addRoundKey_18 rfl 2 rfl ?_
        refine g_imul C dX0_addRoundKey_19 ?_
        refine g_asi (pk_mul _ _) ?_
        refine g_iload_n C dX0_addRoundKey_20 rfl 3 rfl ?_
        refine g_iadd C dX0_addRoundKey_21 ?_
        refine g_asi (nI_add _ _) ?_
        refine g_iald C 1 rfl (by omega) (by decide) dX0_addRoundKey_22 ?_
        refine g_ixor C dX0_addRoundKey_23 ?_
        refine g_iast (X' := [(h0, .inr (2, [.ref r0, .ref t0])), (r0, aI E 176 (rks)), (s0, aI E 16 (upd f i ((f i) ^^^ (rks ((16 * j) + i)))))]) C 2 rfl (by omega) (by decide) rfl dX0_addRoundKey_24 ?_
        refine g_iinc (v := nI (i + 1)) (lv' := [(3, .int (nI (i + 1))), (0, .ref h0), (1, .ref s0), (2, .int (nI (j)))]) C dX0_addRoundKey_25 3 rfl (nI_inc _ 1) (by decide) rfl ?_
        refine g_goto (tgt := 2) C dX0_addRoundKey_28 (by decide) ?_
        refine g_lv [1, 2, 3, 0] rfl ?_
        exact ih2 (i + 1) (upd f i ((f i) ^^^ (rks ((16 * j) + i)))) (by omega) (mpS hf (by rw [mpR hf c5 (Nat.le_refl i)])) (by omega)
  refine g_lv [1, 2, 3, 0] rfl ?_
  exact lp2 17 0 st (Nat.zero_le _) mp0 (by omega)
abbrev muX0_substituteAndTurnRows : Mu := (cX0_substituteAndTurnRows, 4, RX0, none, "substituteAndTurnRows", 1, 0, 0, 20)
theorem hd_X0_substituteAndTurnRows : yX0_substituteAndTurnRows.cls = RX0 ∧ yX0_substituteAndTurnRows.cls ≠ "java/lang/invoke/MethodHandle" ∧ yX0_substituteAndTurnRows.cls ≠ "java/lang/invoke/VarHandle" ∧ (parseMethodDescriptor yX0_substituteAndTurnRows.desc).map (fun d => d.parameters.length) = some 1 := by decide +kernel
set_option maxHeartbeats 4000000 in
set_option maxRecDepth 100000 in
theorem k_X0_substituteAndTurnRows (l : Launch) (E : Ev) (h0 s0 r0 t0 : Nat) (st tn : Nat → Int32) (L : List Nat) (F : Nat → va_E)  : KC l E yX0_substituteAndTurnRows muX0_substituteAndTurnRows [.ref h0, .ref s0] [(h0, .inr (2, [.ref r0, .ref t0])), (t0, aI E 16 (tn)), (s0, aI E 16 (st))] L F (fun r8 cx8 L8 F8 => r8 = none ∧ cx8 = [(h0, .inr (2, [.ref r0, .ref t0])), (t0, aI E 16 (SR st)), (s0, aI E 16 (SR st))] ∧ L = L8 ∧ F = F8 ∧ (True)) := by
  refine K_start (by decide) rfl rfl (Nat.le_of_ble_eq_true rfl) (fun g A Q hgl C r => ?_)
  subst hgl
  show G g muX0_substituteAndTurnRows E A 0 0 Q [(h0, .inr (2, [.ref r0, .ref t0])), (t0, aI E 16 (tn)), (s0, aI E 16 (st))] L F 0 [(0, .ref h0), (1, .ref s0)] []
  refine g_iconst (v := nI (0)) C dX0_substituteAndTurnRows_0 (by decide) ?_
  refine g_istore_n (lv' := [(2, .int (nI (0))), (0, .ref h0), (1, .ref s0)]) C dX0_substituteAndTurnRows_1 rfl (by decide) rfl ?_
  have lp2 : ∀ (n2 : Nat) (i : Nat) (f : Nat → Int32), (i ≤ 16) → (pfx f (SR st) i) → 17 ≤ i + n2 → G g muX0_substituteAndTurnRows E A 0 0 Q [(h0, .inr (2, [.ref r0, .ref t0])), (t0, aI E 16 (f)), (s0, aI E 16 (st))] L F 2 [(0, .ref h0), (1, .ref s0), (2, .int (nI (i)))] [] := by
    intro n2
    induction n2 with
    | zero => intro i f hi hf hfu2; exact absurd hfu2 (by omega)
    | succ n2 ih2 =>
      intro i f hi hf hfu2
      refine g_iload_n C dX0_substituteAndTurnRows_2 rfl 2 rfl ?_
      refine g_bipush (v := nI (16)) C dX0_substituteAndTurnRows_3 (by decide) ?_
      refine g_nicmp_ge (tgt := 37) C dX0_substituteAndTurnRows_5 (by decide) (by omega) (by omega) (fun c5 => ?_) (fun c5 => ?_)
      · skip
        refine g_cgI (f' := SR st) (X' := [(h0, .inr (2, [.ref r0, .ref t0])), (t0, aI E 16 (SR st)), (s0, aI E 16 (st))]) 1 rfl (fun j hj => hf j (by omega)) rfl ?_
        refine g_iconst (v := nI (0)) C dX0_substituteAndTurnRows_37 (by decide) ?_
        refine g_istore_n (lv' := [(2, .int (nI (0))), (0, .ref h0), (1, .ref s0)]) C dX0_substituteAndTurnRows_38 rfl (by decide) rfl ?_
        have lp39 : ∀ (n39 : Nat) (i : Nat) (f : Nat → Int32), (i ≤ 16) → (pfx f (SR st) i) → 17 ≤ i + n39 → G g muX0_substituteAndTurnRows E A 0 0 Q [(h0, .inr (2, [.ref r0, .ref t0])), (t0, aI E 16 (SR st)), (s0, aI E 16 (f))] L F 39 [(0, .ref h0), (1, .ref s0), (2, .int (nI (i)))] [] := by
          intro n39
          induction n39 with
          | zero => intro i f hi hf hfu39; exact absurd hfu39 (by omega)
          | succ n39 ih39 =>
            intro i f hi hf hfu39
            refine g_iload_n C dX0_substituteAndTurnRows_39 rfl 2 rfl ?_
            refine g_bipush (v := nI (16)) C dX0_substituteAndTurnRows_40 (by decide) ?_
            refine g_nicmp_ge (tgt := 60) C dX0_substituteAndTurnRows_42 (by decide) (by omega) (by omega) (fun c42 => ?_) (fun c42 => ?_)
            · skip
              refine g_cgI (f' := SR st) (X' := [(h0, .inr (2, [.ref r0, .ref t0])), (t0, aI E 16 (SR st)), (s0, aI E 16 (SR st))]) 2 rfl (fun j hj => hf j (by omega)) rfl ?_
              exact g_vret C r rfl ⟨rfl, rfl, rfl, rfl, trivial⟩ rfl nN dX0_substituteAndTurnRows_60
            · skip
              refine g_aload_n C dX0_substituteAndTurnRows_45 rfl 1 rfl ?_
              refine g_iload_n C dX0_substituteAndTurnRows_46 rfl 2 rfl ?_
              refine g_aload_n C dX0_substituteAndTurnRows_47 rfl 0 rfl ?_
              refine g_getX C 0 rfl rfl inX0 1 (by decide) m_35 rfl dX0_substituteAndTurnRows_48 ?_
              refine g_iload_n C dX0_substituteAndTurnRows_51 rfl 2 rfl ?_
              refine g_iald C 1 rfl (by omega) (by decide) dX0_substituteAndTurnRows_52 ?_
              refine g_iast (X' := [(h0, .inr (2, [.ref r0, .ref t0])), (t0, aI E 16 (SR st)), (s0, aI E 16 (upd f i ((SR st) i)))]) C 2 rfl (by omega) (by decide) rfl dX0_substituteAndTurnRows_53 ?_
              refine g_iinc (v := nI (i + 1)) (lv' := [(2, .int (nI (i + 1))), (0, .ref h0), (1, .ref s0)]) C dX0_substituteAndTurnRows_54 2 rfl (nI_inc _ 1) (by decide) rfl ?_
              refine g_goto (tgt := 39) C dX0_substituteAndTurnRows_57 (by decide) ?_
              refine g_lv [1, 2, 0] rfl ?_
              exact ih39 (i + 1) (upd f i ((SR st) i)) (by omega) (pfS hf rfl) (by omega)
        refine g_lv [1, 2, 0] rfl ?_
        exact lp39 17 0 st (Nat.zero_le _) pf0 (by omega)
      · skip
        refine g_iload_n C dX0_substituteAndTurnRows_8 rfl 2 rfl ?_
        refine g_iconst (v := nI (4)) C dX0_substituteAndTurnRows_9 (by decide) ?_
        refine g_irem C dX0_substituteAndTurnRows_10 (by decide) ?_
        refine g_asi (pk_rem (by omega) (by decide) (by decide)) ?_
        refine g_istore_n (lv' := [(3, .int (nI (i % 4))), (0, .ref h0), (1, .ref s0), (2, .int (nI (i)))]) C dX0_substituteAndTurnRows_11 rfl (by decide) rfl ?_
        refine g_aload_n C dX0_substituteAndTurnRows_12 rfl 1 rfl ?_
        refine g_getX C 0 rfl rfl inX0 1 (by decide) m_35 rfl dX0_substituteAndTurnRows_13 ?_
        refine g_iload_n C dX0_substituteAndTurnRows_16 rfl 3 rfl ?_
        refine g_aload_n C dX0_substituteAndTurnRows_17 rfl 2 rfl ?_
        refine g_iload_n C dX0_substituteAndTurnRows_18 rfl 3 rfl ?_
        refine g_iconst (v := nI (4)) C dX0_substituteAndTurnRows_19 (by decide) ?_
        refine g_iload_n C dX0_substituteAndTurnRows_20 rfl 0 rfl ?_
        refine g_imul C dX0_substituteAndTurnRows_21 ?_
        refine g_asi (pk_mul _ _) ?_
        refine g_iadd C dX0_substituteAndTurnRows_22 ?_
        refine g_asi (nI_add _ _) ?_
        refine g_bipush (v := nI (16)) C dX0_substituteAndTurnRows_23 (by decide) ?_
        refine g_irem C dX0_substituteAndTurnRows_25 (by decide) ?_
        refine g_asi (pk_rem (by omega) (by decide) (by decide)) ?_
        refine g_iald C 2 rfl (by omega) (by decide) dX0_substituteAndTurnRows_26 ?_
        refine g_callSN (v := muX4_substitute) (cx := []) C (k_X4_substitute (gl g) E (st ((i + (4 * (i % 4))) % 16)) L F ) [] rfl (by decide) nn_X0_31 gi_X0_31 gi_X0_31_s gi_X0_31_i hd_X4_substitute.2 ⟨Nat.le_of_ble_eq_true rfl, Nat.le_of_ble_eq_true rfl⟩ rfl rfl (Nat.le_of_ble_eq_true rfl) ⟨Nat.le_of_ble_eq_true rfl, Nat.le_of_ble_eq_true rfl⟩ dX0_substituteAndTurnRows_27 (fun r9 cx9 L9 F9 hp9 hf9 hN9 => ?_)
        obtain ⟨rfl, rfl, rfl, rfl, -⟩ := hp9
        show G g muX0_substituteAndTurnRows E A 0 0 Q [(h0, .inr (2, [.ref r0, .ref t0])), (t0, aI E 16 (f)), (s0, aI E 16 (st))] L F 30 [(3, .int (nI (i % 4))), (0, .ref h0), (1, .ref s0), (2, .int (nI (i)))] [.int (sb (st ((i + (4 * (i % 4))) % 16))), .int (nI (i)), .ref t0]
        refine g_iast (X' := [(h0, .inr (2, [.ref r0, .ref t0])), (t0, aI E 16 (upd f i (sb (st ((i + (4 * (i % 4))) % 16))))), (s0, aI E 16 (st))]) C 1 rfl (by omega) (by decide) rfl dX0_substituteAndTurnRows_30 ?_
        refine g_iinc (v := nI (i + 1)) (lv' := [(2, .int (nI (i + 1))), (3, .int (nI (i % 4))), (0, .ref h0), (1, .ref s0)]) C dX0_substituteAndTurnRows_31 3 rfl (nI_inc _ 1) (by decide) rfl ?_
        refine g_goto (tgt := 2) C dX0_substituteAndTurnRows_34 (by decide) ?_
        refine g_lv [2, 3, 0] rfl ?_
        exact ih2 (i + 1) (upd f i (sb (st ((i + (4 * (i % 4))) % 16)))) (by omega) (pfS hf rfl) (by omega)
  refine g_lv [1, 2, 0] rfl ?_
  exact lp2 17 0 tn (Nat.zero_le _) pf0 (by omega)
abbrev muX0_mixColumns : Mu := (cX0_mixColumns, 7, RX0, none, "mixColumns", 1, 0, 0, 21)
theorem hd_X0_mixColumns : yX0_mixColumns.cls = RX0 ∧ yX0_mixColumns.cls ≠ "java/lang/invoke/MethodHandle" ∧ yX0_mixColumns.cls ≠ "java/lang/invoke/VarHandle" ∧ (parseMethodDescriptor yX0_mixColumns.desc).map (fun d => d.parameters.length) = some 1 := by decide +kernel
set_option maxHeartbeats 4000000 in
set_option maxRecDepth 100000 in
theorem k_X0_mixColumns (l : Launch) (E : Ev) (s0 : Nat) (st : Nat → Int32) (L : List Nat) (F : Nat → va_E)  : KC l E yX0_mixColumns muX0_mixColumns [.ref s0] [(s0, aI E 16 (st))] L F (fun r8 cx8 L8 F8 => r8 = none ∧ cx8 = [(s0, aI E 16 (MC st))] ∧ L = L8 ∧ F = F8 ∧ (True)) := by
  refine K_start (by decide) rfl rfl (Nat.le_of_ble_eq_true rfl) (fun g A Q hgl C r => ?_)
  subst hgl
  show G g muX0_mixColumns E A 0 0 Q [(s0, aI E 16 (st))] L F 0 [(0, .ref s0)] []
  refine g_iconst (v := nI (0)) C dX0_mixColumns_0 (by decide) ?_
  refine g_istore_n (lv' := [(1, .int (nI (0))), (0, .ref s0)]) C dX0_mixColumns_1 rfl (by decide) rfl ?_
  have lp2 : ∀ (n2 : Nat) (t : Nat) (f : Nat → Int32), (t ≤ 4) → (mpF f (MC st) st (4 * t) 16) → 5 ≤ t + n2 → G g muX0_mixColumns E A 0 0 Q [(s0, aI E 16 (f))] L F 2 [(0, .ref s0), (1, .int (nI (4 * t)))] [] := by
    intro n2
    induction n2 with
    | zero => intro t f hi hf hfu2; exact absurd hfu2 (by omega)
    | succ n2 ih2 =>
      intro t f hi hf hfu2
      refine g_iload_n C dX0_mixColumns_2 rfl 1 rfl ?_
      refine g_bipush (v := nI (16)) C dX0_mixColumns_3 (by decide) ?_
      refine g_nicmp_ge (tgt := 117) C dX0_mixColumns_5 (by decide) (by omega) (by omega) (fun c5 => ?_) (fun c5 => ?_)
      · skip
        refine g_cgI (f' := MC st) (X' := [(s0, aI E 16 (MC st))]) 0 rfl (mpE hf (by omega)) rfl ?_
        exact g_vret C r rfl ⟨rfl, rfl, rfl, rfl, trivial⟩ rfl nN dX0_mixColumns_117
      · skip
        refine g_aload_n C dX0_mixColumns_8 rfl 0 rfl ?_
        refine g_iload_n C dX0_mixColumns_9 rfl 1 rfl ?_
        refine g_iald C 0 rfl (by omega) (by decide) dX0_mixColumns_10 ?_
        refine g_nmi (fun a ea => ?_)
        refine g_istore_n (lv' := [(2, .int (a)), (0, .ref s0), (1, .int (nI (4 * t)))]) C dX0_mixColumns_11 rfl (by decide) rfl ?_
        refine g_aload_n C dX0_mixColumns_12 rfl 1 rfl ?_
        refine g_iload_n C dX0_mixColumns_13 rfl 2 rfl ?_
        refine g_iconst (v := nI (1)) C dX0_mixColumns_14 (by decide) ?_
        refine g_iadd C dX0_mixColumns_15 ?_
        refine g_asi (nI_add _ _) ?_
        refine g_iald C 0 rfl (by omega) (by decide) dX0_mixColumns_16 ?_
        refine g_nmi (fun b eb => ?_)
        refine g_istore_n (lv' := [(3, .int (b)), (2, .int (a)), (0, .ref s0), (1, .int (nI (4 * t)))]) C dX0_mixColumns_17 rfl (by decide) rfl ?_
        refine g_aload_n C dX0_mixColumns_18 rfl 2 rfl ?_
        refine g_iload_n C dX0_mixColumns_19 rfl 3 rfl ?_
        refine g_iconst (v := nI (2)) C dX0_mixColumns_20 (by decide) ?_
        refine g_iadd C dX0_mixColumns_21 ?_
        refine g_asi (nI_add _ _) ?_
        refine g_iald C 0 rfl (by omega) (by decide) dX0_mixColumns_22 ?_
        refine g_nmi (fun c ec => ?_)
        refine g_istore (lv' := [(4, .int (c)), (3, .int (b)), (2, .int (a)), (0, .ref s0), (1, .int (nI (4 * t)))]) C dX0_mixColumns_23 (by decide) rfl ?_
        refine g_aload_n C dX0_mixColumns_25 rfl 3 rfl ?_
        refine g_iload_n C dX0_mixColumns_26 rfl 4 rfl ?_
        refine g_iconst (v := nI (3)) C dX0_mixColumns_27 (by decide) ?_
        refine g_iadd C dX0_mixColumns_28 ?_
        refine g_asi (nI_add _ _) ?_
        refine g_iald C 0 rfl (by omega) (by decide) dX0_mixColumns_29 ?_
        refine g_nmi (fun d ed => ?_)
        refine g_istore (lv' := [(5, .int (d)), (4, .int (c)), (3, .int (b)), (2, .int (a)), (0, .ref s0), (1, .int (nI (4 * t)))]) C dX0_mixColumns_30 (by decide) rfl ?_
        refine g_iload_n C dX0_mixColumns_32 rfl 3 rfl ?_
        refine g_iload_n C dX0_mixColumns_33 rfl 2 rfl ?_
        refine g_ixor C dX0_mixColumns_34 ?_
        refine g_iload C dX0_mixColumns_35 1 rfl ?_
        refine g_ixor C dX0_mixColumns_37 ?_
        refine g_iload C dX0_mixColumns_38 0 rfl ?_
        refine g_ixor C dX0_mixColumns_40 ?_
        refine g_istore (lv' := [(6, .int (((a ^^^ b) ^^^ c) ^^^ d)), (5, .int (d)), (4, .int (c)), (3, .int (b)), (2, .int (a)), (0, .ref s0), (1, .int (nI (4 * t)))]) C dX0_mixColumns_41 (by decide) rfl ?_
        refine g_aload_n C dX0_mixColumns_43 rfl 5 rfl ?_
        refine g_iload_n C dX0_mixColumns_44 rfl 6 rfl ?_
        refine g_iload_n C dX0_mixColumns_45 rfl 4 rfl ?_
        refine g_iload C dX0_mixColumns_46 0 rfl ?_
        refine g_ixor C dX0_mixColumns_48 ?_
        refine g_iload_n C dX0_mixColumns_49 rfl 4 rfl ?_
        refine g_iload_n C dX0_mixColumns_50 rfl 3 rfl ?_
        refine g_ixor C dX0_mixColumns_51 ?_
        refine g_callSN (v := muX4_timesT) (cx := []) C (k_X4_timesT (gl g) E (a ^^^ b) L F ) [] rfl (by decide) nn_X0_27 gi_X0_27 gi_X0_27_s gi_X0_27_i hd_X4_timesT.2 ⟨Nat.le_of_ble_eq_true rfl, Nat.le_of_ble_eq_true rfl⟩ rfl rfl (Nat.le_of_ble_eq_true rfl) ⟨Nat.le_of_ble_eq_true rfl, Nat.le_of_ble_eq_true rfl⟩ dX0_mixColumns_52 (fun r9 cx9 L9 F9 hp9 hf9 hN9 => ?_)
        obtain ⟨rfl, rfl, rfl, rfl, -⟩ := hp9
        show G g muX0_mixColumns E A 0 0 Q [(s0, aI E 16 (f))] L F 55 [(6, .int (((a ^^^ b) ^^^ c) ^^^ d)), (5, .int (d)), (4, .int (c)), (3, .int (b)), (2, .int (a)), (0, .ref s0), (1, .int (nI (4 * t)))] [.int (tT (a ^^^ b)), .int (a ^^^ (((a ^^^ b) ^^^ c) ^^^ d)), .int (nI (4 * t)), .ref s0]
        refine g_ixor C dX0_mixColumns_55 ?_
        refine g_iast (X' := [(s0, aI E 16 (upd f (4 * t) ((a ^^^ (((a ^^^ b) ^^^ c) ^^^ d)) ^^^ (tT (a ^^^ b)))))]) C 0 rfl (by omega) (by decide) rfl dX0_mixColumns_56 ?_
        refine g_aload_n C dX0_mixColumns_57 rfl 5 rfl ?_
        refine g_iload_n C dX0_mixColumns_58 rfl 6 rfl ?_
        refine g_iconst (v := nI (1)) C dX0_mixColumns_59 (by decide) ?_
        refine g_iadd C dX0_mixColumns_60 ?_
        refine g_asi (nI_add _ _) ?_
        refine g_iload_n C dX0_mixColumns_61 rfl 3 rfl ?_
        refine g_iload C dX0_mixColumns_62 0 rfl ?_
        refine g_ixor C dX0_mixColumns_64 ?_
        refine g_iload_n C dX0_mixColumns_65 rfl 3 rfl ?_
        refine g_iload C dX0_mixColumns_66 2 rfl ?_
        refine g_ixor C dX0_mixColumns_68 ?_
        refine g_callSN (v := muX4_timesT) (cx := []) C (k_X4_timesT (gl g) E (b ^^^ c) L F ) [] rfl (by decide) nn_X0_27 gi_X0_27 gi_X0_27_s gi_X0_27_i hd_X4_timesT.2 ⟨Nat.le_of_ble_eq_true rfl, Nat.le_of_ble_eq_true rfl⟩ rfl rfl (Nat.le_of_ble_eq_true rfl) ⟨Nat.le_of_ble_eq_true rfl, Nat.le_of_ble_eq_true rfl⟩ dX0_mixColumns_69 (fun r9 cx9 L9 F9 hp9 hf9 hN9 => ?_)
        obtain ⟨rfl, rfl, rfl, rfl, -⟩ := hp9
        show G g muX0_mixColumns E A 0 0 Q [(s0, aI E 16 (upd f (4 * t) ((a ^^^ (((a ^^^ b) ^^^ c) ^^^ d)) ^^^ (tT (a ^^^ b)))))] L F 72 [(6, .int (((a ^^^ b) ^^^ c) ^^^ d)), (5, .int (d)), (4, .int (c)), (3, .int (b)), (2, .int (a)), (0, .ref s0), (1, .int (nI (4 * t)))] [.int (tT (b ^^^ c)), .int (b ^^^ (((a ^^^ b) ^^^ c) ^^^ d)), .int (nI ((4 * t) + 1)), .ref s0]
        refine g_ixor C dX0_mixColumns_72 ?_
        refine g_iast (X' := [(s0, aI E 16 (upd (upd f (4 * t) ((a ^^^ (((a ^^^ b) ^^^ c) ^^^ d)) ^^^ (tT (a ^^^ b)))) ((4 * t) + 1) ((b ^^^ (((a ^^^ b) ^^^ c) ^^^ d)) ^^^ (tT (b ^^^ c)))))]) C 0 rfl (by omega) (by decide) rfl dX0_mixColumns_73 ?_
        refine g_aload_n C dX0_mixColumns_74 rfl 5 rfl ?_
        refine g_iload_n C dX0_mixColumns_75 rfl 6 rfl ?_
        refine g_iconst (v := nI (2)) C dX0_mixColumns_76 (by decide) ?_
        refine g_iadd C dX0_mixColumns_77 ?_
        refine g_asi (nI_add _ _) ?_
        refine g_iload C dX0_mixColumns_78 2 rfl ?_
        refine g_iload C dX0_mixColumns_80 0 rfl ?_
        refine g_ixor C dX0_mixColumns_82 ?_
        refine g_iload C dX0_mixColumns_83 2 rfl ?_
        refine g_iload C dX0_mixColumns_85 1 rfl ?_
        refine g_ixor C dX0_mixColumns_87 ?_
        refine g_callSN (v := muX4_timesT) (cx := []) C (k_X4_timesT (gl g) E (c ^^^ d) L F ) [] rfl (by decide) nn_X0_27 gi_X0_27 gi_X0_27_s gi_X0_27_i hd_X4_timesT.2 ⟨Nat.le_of_ble_eq_true rfl, Nat.le_of_ble_eq_true rfl⟩ rfl rfl (Nat.le_of_ble_eq_true rfl) ⟨Nat.le_of_ble_eq_true rfl, Nat.le_of_ble_eq_true rfl⟩ dX0_mixColumns_88 (fun r9 cx9 L9 F9 hp9 hf9 hN9 => ?_)
        obtain ⟨rfl, rfl, rfl, rfl, -⟩ := hp9
        show G g muX0_mixColumns E A 0 0 Q [(s0, aI E 16 (upd (upd f (4 * t) ((a ^^^ (((a ^^^ b) ^^^ c) ^^^ d)) ^^^ (tT (a ^^^ b)))) ((4 * t) + 1) ((b ^^^ (((a ^^^ b) ^^^ c) ^^^ d)) ^^^ (tT (b ^^^ c)))))] L F 91 [(6, .int (((a ^^^ b) ^^^ c) ^^^ d)), (5, .int (d)), (4, .int (c)), (3, .int (b)), (2, .int (a)), (0, .ref s0), (1, .int (nI (4 * t)))] [.int (tT (c ^^^ d)), .int (c ^^^ (((a ^^^ b) ^^^ c) ^^^ d)), .int (nI ((4 * t) + 2)), .ref s0]
        refine g_ixor C dX0_mixColumns_91 ?_
        refine g_iast (X' := [(s0, aI E 16 (upd (upd (upd f (4 * t) ((a ^^^ (((a ^^^ b) ^^^ c) ^^^ d)) ^^^ (tT (a ^^^ b)))) ((4 * t) + 1) ((b ^^^ (((a ^^^ b) ^^^ c) ^^^ d)) ^^^ (tT (b ^^^ c)))) ((4 * t) + 2) ((c ^^^ (((a ^^^ b) ^^^ c) ^^^ d)) ^^^ (tT (c ^^^ d)))))]) C 0 rfl (by omega) (by decide) rfl dX0_mixColumns_92 ?_
        refine g_aload_n C dX0_mixColumns_93 rfl 5 rfl ?_
        refine g_iload_n C dX0_mixColumns_94 rfl 6 rfl ?_
        refine g_iconst (v := nI (3)) C dX0_mixColumns_95 (by decide) ?_
        refine g_iadd C dX0_mixColumns_96 ?_
        refine g_asi (nI_add _ _) ?_
        refine g_iload C dX0_mixColumns_97 1 rfl ?_
        refine g_iload C dX0_mixColumns_99 0 rfl ?_
        refine g_ixor C dX0_mixColumns_101 ?_
        refine g_iload C dX0_mixColumns_102 1 rfl ?_
        refine g_iload_n C dX0_mixColumns_104 rfl 4 rfl ?_
        refine g_ixor C dX0_mixColumns_105 ?_
        refine g_callSN (v := muX4_timesT) (cx := []) C (k_X4_timesT (gl g) E (d ^^^ a) L F ) [] rfl (by decide) nn_X0_27 gi_X0_27 gi_X0_27_s gi_X0_27_i hd_X4_timesT.2 ⟨Nat.le_of_ble_eq_true rfl, Nat.le_of_ble_eq_true rfl⟩ rfl rfl (Nat.le_of_ble_eq_true rfl) ⟨Nat.le_of_ble_eq_true rfl, Nat.le_of_ble_eq_true rfl⟩ dX0_mixColumns_106 (fun r9 cx9 L9 F9 hp9 hf9 hN9 => ?_)
        obtain ⟨rfl, rfl, rfl, rfl, -⟩ := hp9
        show G g muX0_mixColumns E A 0 0 Q [(s0, aI E 16 (upd (upd (upd f (4 * t) ((a ^^^ (((a ^^^ b) ^^^ c) ^^^ d)) ^^^ (tT (a ^^^ b)))) ((4 * t) + 1) ((b ^^^ (((a ^^^ b) ^^^ c) ^^^ d)) ^^^ (tT (b ^^^ c)))) ((4 * t) + 2) ((c ^^^ (((a ^^^ b) ^^^ c) ^^^ d)) ^^^ (tT (c ^^^ d)))))] L F 109 [(6, .int (((a ^^^ b) ^^^ c) ^^^ d)), (5, .int (d)), (4, .int (c)), (3, .int (b)), (2, .int (a)), (0, .ref s0), (1, .int (nI (4 * t)))] [.int (tT (d ^^^ a)), .int (d ^^^ (((a ^^^ b) ^^^ c) ^^^ d)), .int (nI ((4 * t) + 3)), .ref s0]
        refine g_ixor C dX0_mixColumns_109 ?_
        refine g_iast (X' := [(s0, aI E 16 (upd (upd (upd (upd f (4 * t) ((a ^^^ (((a ^^^ b) ^^^ c) ^^^ d)) ^^^ (tT (a ^^^ b)))) ((4 * t) + 1) ((b ^^^ (((a ^^^ b) ^^^ c) ^^^ d)) ^^^ (tT (b ^^^ c)))) ((4 * t) + 2) ((c ^^^ (((a ^^^ b) ^^^ c) ^^^ d)) ^^^ (tT (c ^^^ d)))) ((4 * t) + 3) ((d ^^^ (((a ^^^ b) ^^^ c) ^^^ d)) ^^^ (tT (d ^^^ a)))))]) C 0 rfl (by omega) (by decide) rfl dX0_mixColumns_110 ?_
        refine g_iinc (v := nI (4 * (t + 1))) (lv' := [(1, .int (nI (4 * (t + 1)))), (6, .int (((a ^^^ b) ^^^ c) ^^^ d)), (5, .int (d)), (4, .int (c)), (3, .int (b)), (2, .int (a)), (0, .ref s0)]) C dX0_mixColumns_111 6 rfl (nI_inc _ 4) (by decide) rfl ?_
        refine g_goto (tgt := 2) C dX0_mixColumns_114 (by decide) ?_
        refine g_lv [6, 0] rfl ?_
        exact ih2 (t + 1) (upd (upd (upd (upd f (4 * t) ((a ^^^ (((a ^^^ b) ^^^ c) ^^^ d)) ^^^ (tT (a ^^^ b)))) ((4 * t) + 1) ((b ^^^ (((a ^^^ b) ^^^ c) ^^^ d)) ^^^ (tT (b ^^^ c)))) ((4 * t) + 2) ((c ^^^ (((a ^^^ b) ^^^ c) ^^^ d)) ^^^ (tT (c ^^^ d)))) ((4 * t) + 3) ((d ^^^ (((a ^^^ b) ^^^ c) ^^^ d)) ^^^ (tT (d ^^^ a)))) (by omega) ((mcS hf (by omega) ea eb ec ed rfl rfl rfl rfl)) (by omega)
  refine g_lv [1, 0] rfl ?_
  exact lp2 5 0 st (Nat.zero_le _) mp0 (by omega)
