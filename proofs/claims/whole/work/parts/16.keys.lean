def ush (x : Int32) (k : Nat) : Int32 := (x.toUInt32 >>> ((nI k).toUInt32 &&& Int32.toUInt32 31)).toInt32
def bc1 (x : Int32) : Int32 := x - (ush x 1 &&& 1431655765)
def bc2 (x : Int32) : Int32 := (x &&& 858993459) + (ush x 2 &&& 858993459)
def bc3 (x : Int32) : Int32 := (x + ush x 4) &&& 252645135
def bc4 (x : Int32) : Int32 := x + ush x 8
def bc5 (x : Int32) : Int32 := x + ush x 16
/-- the JDK's count of bits, as it is written -/
def bc (x : Int32) : Int32 := bc5 (bc4 (bc3 (bc2 (bc1 x)))) &&& nI 63
theorem vu3 {α : Type} (f : Nat → α) {a b : Nat} (x y z : α) : va_up (va_up (va_up f a x) b y) a z = va_up (va_up f b y) a z := by
  funext j
  unfold va_up
  by_cases h : j = a
  · simp [h]
  · simp [h]
theorem b2_t {b : Bool} (h : ¬ b2 b = 0) : b = true := by
  cases b with
  | true => rfl
  | false => exact absurd rfl h
theorem b2_f {b : Bool} (h : b2 b = 0) : b = false := by
  cases b with
  | false => rfl
  | true => exact absurd h (by decide)
def alw (al n : Int32) (on : Bool) : Int32 := if on then al ||| (nI 1 <<< (n &&& 31)) else al &&& ((nI 1 <<< (n &&& 31)) ^^^ (-1))
def mayB (al n : Int32) : Bool := decide (¬ (al &&& (nI 1 <<< (n &&& 31)) = 0))
abbrev muJ6_bitCount_0f7a4 : Mu := (cJ6_bitCount_0f7a4, 1, RJ6, (some .int), "bitCount", 0, 0, 0, 0)
theorem hd_J6_bitCount_0f7a4 : yJ6_bitCount_0f7a4.cls = RJ6 ∧ yJ6_bitCount_0f7a4.cls ≠ "java/lang/invoke/MethodHandle" ∧ yJ6_bitCount_0f7a4.cls ≠ "java/lang/invoke/VarHandle" ∧ (parseMethodDescriptor yJ6_bitCount_0f7a4.desc).map (fun d => d.parameters.length) = some 1 := by decide +kernel
set_option maxHeartbeats 4000000 in
set_option maxRecDepth 100000 in
theorem k_J6_bitCount_0f7a4 (l : Launch) (E : Ev) (x : Int32) (L : List Nat) (F : Nat → va_E)  : KC l E yJ6_bitCount_0f7a4 muJ6_bitCount_0f7a4 [.int (x)] [] L F (fun r8 cx8 L8 F8 => r8 = some (.int (bc x)) ∧ cx8 = [] ∧ L = L8 ∧ F = F8 ∧ (True)) := by
  refine K_start (by decide) rfl rfl (Nat.le_of_ble_eq_true rfl) (fun g A Q hgl C r => ?_)
  subst hgl
  show G g muJ6_bitCount_0f7a4 E A 0 0 Q [] L F 0 [(0, .int (x))] []
  refine g_iload_n C dJ6_bitCount_0f7a4_0 rfl 0 rfl ?_
  refine g_iload_n C dJ6_bitCount_0f7a4_1 rfl 0 rfl ?_
  refine g_iconst (v := nI (1)) C dJ6_bitCount_0f7a4_2 (by decide) ?_
  refine g_iushr (v := (x.toUInt32 >>> ((nI (1)).toUInt32 &&& Int32.toUInt32 31)).toInt32) C dJ6_bitCount_0f7a4_3 rfl ?_
  refine g_asi (show ((x.toUInt32 >>> ((nI (1)).toUInt32 &&& Int32.toUInt32 31)).toInt32) = (ush x 1) from rfl) ?_
  refine g_ldc_w C m_321 dJ6_bitCount_0f7a4_4 ?_
  refine g_iand C dJ6_bitCount_0f7a4_7 ?_
  refine g_isub C dJ6_bitCount_0f7a4_8 ?_
  refine g_asi (show (x - ((ush x 1) &&& 1431655765)) = (bc1 x) from rfl) ?_
  refine g_istore_n (lv' := [(0, .int (bc1 x))]) C dJ6_bitCount_0f7a4_9 rfl (by decide) rfl ?_
  refine g_iload_n C dJ6_bitCount_0f7a4_10 rfl 0 rfl ?_
  refine g_ldc_w C m_322 dJ6_bitCount_0f7a4_11 ?_
  refine g_iand C dJ6_bitCount_0f7a4_14 ?_
  refine g_iload_n C dJ6_bitCount_0f7a4_15 rfl 0 rfl ?_
  refine g_iconst (v := nI (2)) C dJ6_bitCount_0f7a4_16 (by decide) ?_
  refine g_iushr (v := ((bc1 x).toUInt32 >>> ((nI (2)).toUInt32 &&& Int32.toUInt32 31)).toInt32) C dJ6_bitCount_0f7a4_17 rfl ?_
  refine g_asi (show (((bc1 x).toUInt32 >>> ((nI (2)).toUInt32 &&& Int32.toUInt32 31)).toInt32) = (ush (bc1 x) 2) from rfl) ?_
  refine g_ldc_w C m_322 dJ6_bitCount_0f7a4_18 ?_
  refine g_iand C dJ6_bitCount_0f7a4_21 ?_
  refine g_iadd C dJ6_bitCount_0f7a4_22 ?_
  refine g_asi (show (((bc1 x) &&& 858993459) + ((ush (bc1 x) 2) &&& 858993459)) = (bc2 (bc1 x)) from rfl) ?_
  refine g_istore_n (lv' := [(0, .int (bc2 (bc1 x)))]) C dJ6_bitCount_0f7a4_23 rfl (by decide) rfl ?_
  refine g_iload_n C dJ6_bitCount_0f7a4_24 rfl 0 rfl ?_
  refine g_iload_n C dJ6_bitCount_0f7a4_25 rfl 0 rfl ?_
  refine g_iconst (v := nI (4)) C dJ6_bitCount_0f7a4_26 (by decide) ?_
  refine g_iushr (v := ((bc2 (bc1 x)).toUInt32 >>> ((nI (4)).toUInt32 &&& Int32.toUInt32 31)).toInt32) C dJ6_bitCount_0f7a4_27 rfl ?_
  refine g_asi (show (((bc2 (bc1 x)).toUInt32 >>> ((nI (4)).toUInt32 &&& Int32.toUInt32 31)).toInt32) = (ush (bc2 (bc1 x)) 4) from rfl) ?_
  refine g_iadd C dJ6_bitCount_0f7a4_28 ?_
  refine g_ldc_w C m_323 dJ6_bitCount_0f7a4_29 ?_
  refine g_iand C dJ6_bitCount_0f7a4_32 ?_
  refine g_asi (show (((bc2 (bc1 x)) + (ush (bc2 (bc1 x)) 4)) &&& 252645135) = (bc3 (bc2 (bc1 x))) from rfl) ?_
  refine g_istore_n (lv' := [(0, .int (bc3 (bc2 (bc1 x))))]) C dJ6_bitCount_0f7a4_33 rfl (by decide) rfl ?_
  refine g_iload_n C dJ6_bitCount_0f7a4_34 rfl 0 rfl ?_
  refine g_iload_n C dJ6_bitCount_0f7a4_35 rfl 0 rfl ?_
  refine g_bipush (v := nI (8)) C dJ6_bitCount_0f7a4_36 (by decide) ?_
  refine g_iushr (v := ((bc3 (bc2 (bc1 x))).toUInt32 >>> ((nI (8)).toUInt32 &&& Int32.toUInt32 31)).toInt32) C dJ6_bitCount_0f7a4_38 rfl ?_
  refine g_asi (show (((bc3 (bc2 (bc1 x))).toUInt32 >>> ((nI (8)).toUInt32 &&& Int32.toUInt32 31)).toInt32) = (ush (bc3 (bc2 (bc1 x))) 8) from rfl) ?_
  refine g_iadd C dJ6_bitCount_0f7a4_39 ?_
  refine g_asi (show ((bc3 (bc2 (bc1 x))) + (ush (bc3 (bc2 (bc1 x))) 8)) = (bc4 (bc3 (bc2 (bc1 x)))) from rfl) ?_
  refine g_istore_n (lv' := [(0, .int (bc4 (bc3 (bc2 (bc1 x)))))]) C dJ6_bitCount_0f7a4_40 rfl (by decide) rfl ?_
  refine g_iload_n C dJ6_bitCount_0f7a4_41 rfl 0 rfl ?_
  refine g_iload_n C dJ6_bitCount_0f7a4_42 rfl 0 rfl ?_
  refine g_bipush (v := nI (16)) C dJ6_bitCount_0f7a4_43 (by decide) ?_
  refine g_iushr (v := ((bc4 (bc3 (bc2 (bc1 x)))).toUInt32 >>> ((nI (16)).toUInt32 &&& Int32.toUInt32 31)).toInt32) C dJ6_bitCount_0f7a4_45 rfl ?_
  refine g_asi (show (((bc4 (bc3 (bc2 (bc1 x)))).toUInt32 >>> ((nI (16)).toUInt32 &&& Int32.toUInt32 31)).toInt32) = (ush (bc4 (bc3 (bc2 (bc1 x)))) 16) from rfl) ?_
  refine g_iadd C dJ6_bitCount_0f7a4_46 ?_
  refine g_asi (show ((bc4 (bc3 (bc2 (bc1 x)))) + (ush (bc4 (bc3 (bc2 (bc1 x)))) 16)) = (bc5 (bc4 (bc3 (bc2 (bc1 x))))) from rfl) ?_
  refine g_istore_n (lv' := [(0, .int (bc5 (bc4 (bc3 (bc2 (bc1 x))))))]) C dJ6_bitCount_0f7a4_47 rfl (by decide) rfl ?_
  refine g_iload_n C dJ6_bitCount_0f7a4_48 rfl 0 rfl ?_
  refine g_bipush (v := nI (63)) C dJ6_bitCount_0f7a4_49 (by decide) ?_
  refine g_iand C dJ6_bitCount_0f7a4_51 ?_
  refine g_asi (show ((bc5 (bc4 (bc3 (bc2 (bc1 x))))) &&& (nI (63))) = (bc x) from rfl) ?_
  exact g_iret C r rfl ⟨rfl, rfl, rfl, rfl, trivial⟩ rfl nN dJ6_bitCount_0f7a4_52
abbrev muX2_init : Mu := (cX2_init, 1, RX2, none, "<init>", 1, 1, 16, 20)
theorem hd_X2_init : yX2_init.cls = RX2 ∧ yX2_init.cls ≠ "java/lang/invoke/MethodHandle" ∧ yX2_init.cls ≠ "java/lang/invoke/VarHandle" ∧ (parseMethodDescriptor yX2_init.desc).map (fun d => d.parameters.length) = some 0 := by decide +kernel
set_option maxHeartbeats 4000000 in
set_option maxRecDepth 100000 in
theorem k_X2_init (l : Launch) (E : Ev) (k0 : Nat) (L : List Nat) (F : Nat → va_E)  : KC l E yX2_init muX2_init [.ref k0] [(k0, .inr (4, [.null, .int (0), .long (0)]))] L F (fun r8 cx8 L8 F8 => ∃ (o0 : Nat), r8 = none ∧ cx8 = [(k0, .inr (4, [.ref o0, .int (0), .long (0)]))] ∧ L ++ [o0] = L8 ∧ va_up F o0 (aI E 16 (fun _ => 0)) = F8 ∧ (True)) := by
  refine K_start (by decide) rfl rfl (Nat.le_of_ble_eq_true rfl) (fun g A Q hgl C r => ?_)
  subst hgl
  show G g muX2_init E A 0 0 Q [(k0, .inr (4, [.null, .int (0), .long (0)]))] L F 0 [(0, .ref k0)] []
  refine g_aload_n C dX2_init_0 rfl 0 rfl ?_
  refine g_obj C m_124 m_22 m_23 (by decide) (Nat.le_of_ble_eq_true rfl) dX2_init_1 ?_
  refine g_aload_n C dX2_init_4 rfl 0 rfl ?_
  refine g_bipush (v := nI (16)) C dX2_init_5 (by decide) ?_
  refine g_newI C 16 m_41 (by decide) (by decide) (by decide) (by decide) (by decide) dX2_init_7 (fun o0 => ?_)
  show G g muX2_init E A (0 + 1) (0 + 16) Q [(k0, .inr (4, [.null, .int (0), .long (0)])), (o0, aI E 16 (fun _ => 0))] L F 9 [(0, .ref k0)] [.ref o0, .ref k0]
  refine g_putF (X' := [(k0, .inr (4, [.ref o0, .int (0), .long (0)])), (o0, aI E 16 (fun _ => 0))]) C 0 rfl rfl inX2 tyX2 tyX2_ok nmX2 0 (by decide) m_125 rfl rfl rfl rfl rfl (Nat.le_of_ble_eq_true rfl) rfl dX2_init_9 ?_
  refine g_toP (X := [(k0, .inr (4, [.ref o0, .int (0), .long (0)]))]) (a := o0) (c := aI E 16 (fun _ => 0)) ?_
  refine g_cells (ce' := uC muX2_init) (sl' := uS muX2_init) (Nat.le_of_ble_eq_true rfl) (Nat.le_of_ble_eq_true rfl) ?_
  exact g_vret C r rfl ⟨o0, rfl, rfl, rfl, rfl, trivial⟩ rfl (nNs _) dX2_init_12
abbrev muX2_putNext : Mu := (cX2_putNext, 2, RX2, none, "putNext", 0, 0, 0, 0)
theorem hd_X2_putNext : yX2_putNext.cls = RX2 ∧ yX2_putNext.cls ≠ "java/lang/invoke/MethodHandle" ∧ yX2_putNext.cls ≠ "java/lang/invoke/VarHandle" ∧ (parseMethodDescriptor yX2_putNext.desc).map (fun d => d.parameters.length) = some 1 := by decide +kernel
set_option maxHeartbeats 4000000 in
set_option maxRecDepth 100000 in
theorem k_X2_putNext (l : Launch) (E : Ev) (kk oo : Nat) (K : Nat → Int32) (nx : Nat) (cn : Int64) (b : Int32) (L : List Nat) (F : Nat → va_E) (hkL : kk ∈ L) (hkF : F kk = .inr (4, [.ref oo, .int (nI nx), .long cn])) (hoL : oo ∈ L) (hoF : F oo = aI E 16 K) (hnx : nx ≤ 16) : KC l E yX2_putNext muX2_putNext [.ref kk, .int (b)] [] L F (fun r8 cx8 L8 F8 => r8 = none ∧ cx8 = [] ∧ L = L8 ∧ va_up (va_up F oo (aI E 16 (upd K (nx % 16) b))) kk (.inr (4, [.ref oo, .int (nI (nx % 16 + 1)), .long cn])) = F8 ∧ (True)) := by
  refine K_start (by decide) rfl rfl (Nat.le_of_ble_eq_true rfl) (fun g A Q hgl C r => ?_)
  subst hgl
  show G g muX2_putNext E A 0 0 Q [] L F 0 [(0, .ref kk), (1, .int (b))] []
  have hne : oo ≠ kk := fun e => by rw [e, hkF] at hoF; cases hoF
  refine g_aload_n C dX2_putNext_0 rfl 0 rfl ?_
  refine g_getP C hkL hkF rfl inX2 1 (by decide) m_128 rfl dX2_putNext_1 ?_
  refine g_nif_lt (tgt := 16) C dX2_putNext_4 (by decide) (by omega) ?_
  refine g_aload_n C dX2_putNext_7 rfl 0 rfl ?_
  refine g_getP C hkL hkF rfl inX2 1 (by decide) m_128 rfl dX2_putNext_8 ?_
  refine g_bipush (v := nI (16)) C dX2_putNext_11 (by decide) ?_
  refine g_nicmp_lt (tgt := 21) C dX2_putNext_13 (by decide) (by omega) (by omega) (fun c13 => ?_) (fun c13 => ?_)
  · skip
    refine g_aload_n C dX2_putNext_21 rfl 0 rfl ?_
    refine g_getP C hkL hkF rfl inX2 0 (by decide) m_125 rfl dX2_putNext_22 ?_
    refine g_aload_n C dX2_putNext_25 rfl 0 rfl ?_
    refine g_getP C hkL hkF rfl inX2 1 (by decide) m_128 rfl dX2_putNext_26 ?_
    refine g_iload_n C dX2_putNext_29 rfl 1 rfl ?_
    refine g_iasP C hoL hoF (by omega) (by decide) dX2_putNext_30 ?_
    refine g_aload_n C dX2_putNext_31 rfl 0 rfl ?_
    refine g_dup C dX2_putNext_32 rfl ?_
    refine g_getP C hkL ((va_up_ne _ _ hne.symm).trans hkF) rfl inX2 1 (by decide) m_128 rfl dX2_putNext_33 ?_
    refine g_iconst (v := nI (1)) C dX2_putNext_36 (by decide) ?_
    refine g_iadd C dX2_putNext_37 ?_
    refine g_asi (nI_add _ _) ?_
    refine g_asi (show (nI (nx + 1)) = (nI (nx % 16 + 1)) from (by rw [Nat.mod_eq_of_lt c13])) ?_
    refine g_putP (e' := .inr (4, [.ref oo, .int (nI (nx % 16 + 1)), .long (cn)])) C hkL ((va_up_ne _ _ hne.symm).trans hkF) rfl inX2 tyX2 tyX2_ok nmX2 1 (by decide) m_128 rfl rfl rfl (Nat.le_of_ble_eq_true rfl) rfl dX2_putNext_38 ?_
    refine g_cgF (F' := va_up (va_up F oo (aI E 16 (upd K (nx % 16) b))) kk (.inr (4, [.ref oo, .int (nI (nx % 16 + 1)), .long cn]))) (fun a9 _ => congrFun (show va_up (va_up F oo (aI E 16 (upd K nx b))) kk (.inr (4, [.ref oo, .int (nI (nx % 16 + 1)), .long (cn)])) = va_up (va_up F oo (aI E 16 (upd K (nx % 16) b))) kk (.inr (4, [.ref oo, .int (nI (nx % 16 + 1)), .long cn])) from by rw [Nat.mod_eq_of_lt c13]) a9) ?_
    exact g_vret C r rfl ⟨rfl, rfl, rfl, rfl, trivial⟩ rfl nN dX2_putNext_41
  · skip
    refine g_aload_n C dX2_putNext_16 rfl 0 rfl ?_
    refine g_iconst (v := nI (0)) C dX2_putNext_17 (by decide) ?_
    refine g_putP (e' := .inr (4, [.ref oo, .int (nI (0)), .long (cn)])) C hkL hkF rfl inX2 tyX2 tyX2_ok nmX2 1 (by decide) m_128 rfl rfl rfl (Nat.le_of_ble_eq_true rfl) rfl dX2_putNext_18 ?_
    refine g_aload_n C dX2_putNext_21 rfl 0 rfl ?_
    refine g_getP C hkL (va_up_self _ _ _) rfl inX2 0 (by decide) m_125 rfl dX2_putNext_22 ?_
    refine g_aload_n C dX2_putNext_25 rfl 0 rfl ?_
    refine g_getP C hkL (va_up_self _ _ _) rfl inX2 1 (by decide) m_128 rfl dX2_putNext_26 ?_
    refine g_iload_n C dX2_putNext_29 rfl 1 rfl ?_
    refine g_iasP C hoL ((va_up_ne _ _ hne).trans hoF) (by omega) (by decide) dX2_putNext_30 ?_
    refine g_aload_n C dX2_putNext_31 rfl 0 rfl ?_
    refine g_dup C dX2_putNext_32 rfl ?_
    refine g_getP C hkL ((va_up_ne _ _ hne.symm).trans (va_up_self _ _ _)) rfl inX2 1 (by decide) m_128 rfl dX2_putNext_33 ?_
    refine g_iconst (v := nI (1)) C dX2_putNext_36 (by decide) ?_
    refine g_iadd C dX2_putNext_37 ?_
    refine g_asi (nI_add _ _) ?_
    refine g_asi (show (nI (0 + 1)) = (nI (nx % 16 + 1)) from (by rw [show nx % 16 = 0 by omega])) ?_
    refine g_putP (e' := .inr (4, [.ref oo, .int (nI (nx % 16 + 1)), .long (cn)])) C hkL ((va_up_ne _ _ hne.symm).trans (va_up_self _ _ _)) rfl inX2 tyX2 tyX2_ok nmX2 1 (by decide) m_128 rfl rfl rfl (Nat.le_of_ble_eq_true rfl) rfl dX2_putNext_38 ?_
    refine g_cgF (F' := va_up (va_up F oo (aI E 16 (upd K (nx % 16) b))) kk (.inr (4, [.ref oo, .int (nI (nx % 16 + 1)), .long cn]))) (fun a9 _ => congrFun (show va_up (va_up (va_up F kk (.inr (4, [.ref oo, .int (nI (0)), .long (cn)]))) oo (aI E 16 (upd K 0 b))) kk (.inr (4, [.ref oo, .int (nI (nx % 16 + 1)), .long (cn)])) = va_up (va_up F oo (aI E 16 (upd K (nx % 16) b))) kk (.inr (4, [.ref oo, .int (nI (nx % 16 + 1)), .long cn])) from by rw [vu3, show nx % 16 = 0 by omega]) a9) ?_
    exact g_vret C r rfl ⟨rfl, rfl, rfl, rfl, trivial⟩ rfl nN dX2_putNext_41
abbrev muX3_init : Mu := (cX3_init, 2, RX3, none, "<init>", 1, 0, 0, 20)
theorem hd_X3_init : yX3_init.cls = RX3 ∧ yX3_init.cls ≠ "java/lang/invoke/MethodHandle" ∧ yX3_init.cls ≠ "java/lang/invoke/VarHandle" ∧ (parseMethodDescriptor yX3_init.desc).map (fun d => d.parameters.length) = some 1 := by decide +kernel
set_option maxHeartbeats 4000000 in
set_option maxRecDepth 100000 in
theorem k_X3_init (l : Launch) (E : Ev) (s0 : Nat) (id : Int32) (L : List Nat) (F : Nat → va_E)  : KC l E yX3_init muX3_init [.ref s0, .int (id)] [(s0, .inr (5, [.int (0), .long (0), .int (0), .int (0)]))] L F (fun r8 cx8 L8 F8 => r8 = none ∧ cx8 = [(s0, .inr (5, [.int (id), .long (0), .int (0), .int (0)]))] ∧ L = L8 ∧ F = F8 ∧ (True)) := by
  refine K_start (by decide) rfl rfl (Nat.le_of_ble_eq_true rfl) (fun g A Q hgl C r => ?_)
  subst hgl
  show G g muX3_init E A 0 0 Q [(s0, .inr (5, [.int (0), .long (0), .int (0), .int (0)]))] L F 0 [(0, .ref s0), (1, .int (id))] []
  refine g_aload_n C dX3_init_0 rfl 0 rfl ?_
  refine g_obj C m_66 m_22 m_23 (by decide) (Nat.le_of_ble_eq_true rfl) dX3_init_1 ?_
  refine g_aload_n C dX3_init_4 rfl 0 rfl ?_
  refine g_iload_n C dX3_init_5 rfl 1 rfl ?_
  refine g_putF (X' := [(s0, .inr (5, [.int (id), .long (0), .int (0), .int (0)]))]) C 0 rfl rfl inX3 tyX3 tyX3_ok nmX3 0 (by decide) m_67 rfl rfl rfl rfl rfl (Nat.le_of_ble_eq_true rfl) rfl dX3_init_6 ?_
  exact g_vret C r rfl ⟨rfl, rfl, rfl, rfl, trivial⟩ rfl nN dX3_init_9
abbrev muX3_isBlocked : Mu := (cX3_isBlocked, 1, RX3, (some .boolean), "isBlocked", 0, 0, 0, 0)
theorem hd_X3_isBlocked : yX3_isBlocked.cls = RX3 ∧ yX3_isBlocked.cls ≠ "java/lang/invoke/MethodHandle" ∧ yX3_isBlocked.cls ≠ "java/lang/invoke/VarHandle" ∧ (parseMethodDescriptor yX3_isBlocked.desc).map (fun d => d.parameters.length) = some 0 := by decide +kernel
set_option maxHeartbeats 4000000 in
set_option maxRecDepth 100000 in
theorem k_X3_isBlocked (l : Launch) (E : Ev) (s0 : Nat) (id al : Int32) (ct : Int64) (bd : Nat) (L : List Nat) (F : Nat → va_E) (hsL : s0 ∈ L) (hsF : F s0 = .inr (5, [.int id, .long ct, .int (nI bd), .int al])) (hbd : bd ≤ 5) : KC l E yX3_isBlocked muX3_isBlocked [.ref s0] [] L F (fun r8 cx8 L8 F8 => r8 = some (.int (b2 (decide (5 ≤ bd)))) ∧ cx8 = [] ∧ L = L8 ∧ F = F8 ∧ (True)) := by
  refine K_start (by decide) rfl rfl (Nat.le_of_ble_eq_true rfl) (fun g A Q hgl C r => ?_)
  subst hgl
  show G g muX3_isBlocked E A 0 0 Q [] L F 0 [(0, .ref s0)] []
  refine g_aload_n C dX3_isBlocked_0 rfl 0 rfl ?_
  refine g_getP C hsL hsF rfl inX3 2 (by decide) m_71 rfl dX3_isBlocked_1 ?_
  refine g_iconst (v := nI (5)) C dX3_isBlocked_4 (by decide) ?_
  refine g_nicmp_lt (tgt := 12) C dX3_isBlocked_5 (by decide) (by omega) (by omega) (fun c5 => ?_) (fun c5 => ?_)
  · skip
    refine g_iconst (v := nI (0)) C dX3_isBlocked_12 (by decide) ?_
    refine g_asi (show (nI (0)) = (b2 (decide (5 ≤ bd))) from (by rw [decide_eq_false (by omega)]; rfl)) ?_
    exact g_zret C r rfl (b2_nar _) ⟨rfl, rfl, rfl, rfl, trivial⟩ rfl nN dX3_isBlocked_13
  · skip
    refine g_iconst (v := nI (1)) C dX3_isBlocked_8 (by decide) ?_
    refine g_asi (show (nI (1)) = (b2 (decide (5 ≤ bd))) from (by rw [decide_eq_true c5]; rfl)) ?_
    refine g_goto (tgt := 13) C dX3_isBlocked_9 (by decide) ?_
    exact g_zret C r rfl (b2_nar _) ⟨rfl, rfl, rfl, rfl, trivial⟩ rfl nN dX3_isBlocked_13
abbrev muX3_stepsTo : Mu := (cX3_stepsTo, 2, RX3, (some .int), "stepsTo", 0, 0, 0, 0)
theorem hd_X3_stepsTo : yX3_stepsTo.cls = RX3 ∧ yX3_stepsTo.cls ≠ "java/lang/invoke/MethodHandle" ∧ yX3_stepsTo.cls ≠ "java/lang/invoke/VarHandle" ∧ (parseMethodDescriptor yX3_stepsTo.desc).map (fun d => d.parameters.length) = some 1 := by decide +kernel
set_option maxHeartbeats 4000000 in
set_option maxRecDepth 100000 in
theorem k_X3_stepsTo (l : Launch) (E : Ev) (s0 : Nat) (id al : Int32) (ct : Int64) (bd : Nat) (cut : Int32) (L : List Nat) (F : Nat → va_E) (hsL : s0 ∈ L) (hsF : F s0 = .inr (5, [.int id, .long ct, .int (nI bd), .int al])) : KC l E yX3_stepsTo muX3_stepsTo [.ref s0, .int (cut)] [] L F (fun r8 cx8 L8 F8 => r8 = some (.int ((cut - (ct &&& 255).toInt32) &&& nI 255)) ∧ cx8 = [] ∧ L = L8 ∧ F = F8 ∧ (True)) := by
  refine K_start (by decide) rfl rfl (Nat.le_of_ble_eq_true rfl) (fun g A Q hgl C r => ?_)
  subst hgl
  show G g muX3_stepsTo E A 0 0 Q [] L F 0 [(0, .ref s0), (1, .int (cut))] []
  refine g_iload_n C dX3_stepsTo_0 rfl 1 rfl ?_
  refine g_aload_n C dX3_stepsTo_1 rfl 0 rfl ?_
  refine g_getP C hsL hsF rfl inX3 1 (by decide) m_69 rfl dX3_stepsTo_2 ?_
  refine g_ldc2_w C m_252 dX3_stepsTo_5 ?_
  refine g_land C dX3_stepsTo_8 ?_
  refine g_l2i (v := (ct &&& 255).toInt32) C dX3_stepsTo_9 rfl ?_
  refine g_isub C dX3_stepsTo_10 ?_
  refine g_sipush (v := nI (255)) C dX3_stepsTo_11 (by decide) ?_
  refine g_iand C dX3_stepsTo_14 ?_
  exact g_iret C r rfl ⟨rfl, rfl, rfl, rfl, trivial⟩ rfl nN dX3_stepsTo_15
abbrev muX3_endTry : Mu := (cX3_endTry, 4, RX3, (some .int), "endTry", 0, 0, 0, 0)
theorem hd_X3_endTry : yX3_endTry.cls = RX3 ∧ yX3_endTry.cls ≠ "java/lang/invoke/MethodHandle" ∧ yX3_endTry.cls ≠ "java/lang/invoke/VarHandle" ∧ (parseMethodDescriptor yX3_endTry.desc).map (fun d => d.parameters.length) = some 2 := by decide +kernel
set_option maxHeartbeats 4000000 in
set_option maxRecDepth 100000 in
theorem k_X3_endTry (l : Launch) (E : Ev) (s0 : Nat) (id al : Int32) (ct : Int64) (bd : Nat) (tr : Int64) (gd : Bool) (L : List Nat) (F : Nat → va_E) (hsL : s0 ∈ L) (hsF : F s0 = .inr (5, [.int id, .long ct, .int (nI bd), .int al])) : KC l E yX3_endTry muX3_endTry [.ref s0, .long (tr), .int (b2 gd)] [] L F (fun r8 cx8 L8 F8 => r8 = some (.int (b2 gd)) ∧ cx8 = [] ∧ L = L8 ∧ va_up F s0 (.inr (5, [.int id, .long (if gd then tr else ct), .int (nI (if gd then 0 else bd + 1)), .int al])) = F8 ∧ (True)) := by
  refine K_start (by decide) rfl rfl (Nat.le_of_ble_eq_true rfl) (fun g A Q hgl C r => ?_)
  subst hgl
  show G g muX3_endTry E A 0 0 Q [] L F 0 [(0, .ref s0), (1, .long (tr)), (3, .int (b2 gd))] []
  refine g_iload_n C dX3_endTry_0 rfl 2 rfl ?_
  refine g_if_ne (tgt := 16) C dX3_endTry_1 (by decide) (fun c1 => ?_) (fun c1 => ?_)
  · skip
    have hg := b2_t c1
    refine g_aload_n C dX3_endTry_16 rfl 0 rfl ?_
    refine g_lload_n C dX3_endTry_17 rfl 1 rfl ?_
    refine g_putP (e' := .inr (5, [.int (id), .long (tr), .int (nI (bd)), .int (al)])) C hsL hsF rfl inX3 tyX3 tyX3_ok nmX3 1 (by decide) m_69 rfl rfl rfl (Nat.le_of_ble_eq_true rfl) rfl dX3_endTry_18 ?_
    refine g_aload_n C dX3_endTry_21 rfl 0 rfl ?_
    refine g_iconst (v := nI (0)) C dX3_endTry_22 (by decide) ?_
    refine g_putP (e' := .inr (5, [.int (id), .long (tr), .int (nI (0)), .int (al)])) C hsL (va_up_self _ _ _) rfl inX3 tyX3 tyX3_ok nmX3 2 (by decide) m_71 rfl rfl rfl (Nat.le_of_ble_eq_true rfl) rfl dX3_endTry_23 ?_
    refine g_iconst (v := nI (1)) C dX3_endTry_26 (by decide) ?_
    refine g_asi (show (nI (1)) = (b2 gd) from (by rw [hg]; rfl)) ?_
    refine g_cgF (F' := va_up F s0 (.inr (5, [.int id, .long (if gd then tr else ct), .int (nI (if gd then 0 else bd + 1)), .int al]))) (fun a9 _ => congrFun (show va_up (va_up F s0 (.inr (5, [.int (id), .long (tr), .int (nI (bd)), .int (al)]))) s0 (.inr (5, [.int (id), .long (tr), .int (nI (0)), .int (al)])) = va_up F s0 (.inr (5, [.int id, .long (if gd then tr else ct), .int (nI (if gd then 0 else bd + 1)), .int al])) from by rw [bx_uu, hg]; rfl) a9) ?_
    exact g_iret C r rfl ⟨rfl, rfl, rfl, rfl, trivial⟩ rfl nN dX3_endTry_27
  · skip
    have hg := b2_f c1
    refine g_aload_n C dX3_endTry_4 rfl 0 rfl ?_
    refine g_dup C dX3_endTry_5 rfl ?_
    refine g_getP C hsL hsF rfl inX3 2 (by decide) m_71 rfl dX3_endTry_6 ?_
    refine g_iconst (v := nI (1)) C dX3_endTry_9 (by decide) ?_
    refine g_iadd C dX3_endTry_10 ?_
    refine g_asi (nI_add _ _) ?_
    refine g_putP (e' := .inr (5, [.int (id), .long (ct), .int (nI (bd + 1)), .int (al)])) C hsL hsF rfl inX3 tyX3 tyX3_ok nmX3 2 (by decide) m_71 rfl rfl rfl (Nat.le_of_ble_eq_true rfl) rfl dX3_endTry_11 ?_
    refine g_iconst (v := nI (0)) C dX3_endTry_14 (by decide) ?_
    refine g_asi (show (nI (0)) = (b2 gd) from (by rw [hg]; rfl)) ?_
    refine g_cgF (F' := va_up F s0 (.inr (5, [.int id, .long (if gd then tr else ct), .int (nI (if gd then 0 else bd + 1)), .int al]))) (fun a9 _ => congrFun (show va_up F s0 (.inr (5, [.int (id), .long (ct), .int (nI (bd + 1)), .int (al)])) = va_up F s0 (.inr (5, [.int id, .long (if gd then tr else ct), .int (nI (if gd then 0 else bd + 1)), .int al])) from by rw [hg]; rfl) a9) ?_
    exact g_iret C r rfl ⟨rfl, rfl, rfl, rfl, trivial⟩ rfl nN dX3_endTry_15
abbrev muX3_mayUse : Mu := (cX3_mayUse, 2, RX3, (some .boolean), "mayUse", 0, 0, 0, 0)
theorem hd_X3_mayUse : yX3_mayUse.cls = RX3 ∧ yX3_mayUse.cls ≠ "java/lang/invoke/MethodHandle" ∧ yX3_mayUse.cls ≠ "java/lang/invoke/VarHandle" ∧ (parseMethodDescriptor yX3_mayUse.desc).map (fun d => d.parameters.length) = some 1 := by decide +kernel
set_option maxHeartbeats 4000000 in
set_option maxRecDepth 100000 in
theorem k_X3_mayUse (l : Launch) (E : Ev) (s0 : Nat) (id al : Int32) (ct : Int64) (bd : Nat) (n : Int32) (L : List Nat) (F : Nat → va_E) (hsL : s0 ∈ L) (hsF : F s0 = .inr (5, [.int id, .long ct, .int (nI bd), .int al])) : KC l E yX3_mayUse muX3_mayUse [.ref s0, .int (n)] [] L F (fun r8 cx8 L8 F8 => r8 = some (.int (b2 (mayB al n))) ∧ cx8 = [] ∧ L = L8 ∧ F = F8 ∧ (True)) := by
  refine K_start (by decide) rfl rfl (Nat.le_of_ble_eq_true rfl) (fun g A Q hgl C r => ?_)
  subst hgl
  show G g muX3_mayUse E A 0 0 Q [] L F 0 [(0, .ref s0), (1, .int (n))] []
  refine g_aload_n C dX3_mayUse_0 rfl 0 rfl ?_
  refine g_getP C hsL hsF rfl inX3 3 (by decide) m_72 rfl dX3_mayUse_1 ?_
  refine g_iconst (v := nI (1)) C dX3_mayUse_4 (by decide) ?_
  refine g_iload_n C dX3_mayUse_5 rfl 1 rfl ?_
  refine g_ishl C dX3_mayUse_6 ?_
  refine g_iand C dX3_mayUse_7 ?_
  refine g_if_eq (tgt := 15) C dX3_mayUse_8 (by decide) (fun c8 => ?_) (fun c8 => ?_)
  · skip
    refine g_iconst (v := nI (0)) C dX3_mayUse_15 (by decide) ?_
    refine g_asi (show (nI (0)) = (b2 (mayB al n)) from (by unfold mayB; rw [decide_eq_false (fun z => z c8)]; rfl)) ?_
    exact g_zret C r rfl (b2_nar _) ⟨rfl, rfl, rfl, rfl, trivial⟩ rfl nN dX3_mayUse_16
  · skip
    refine g_iconst (v := nI (1)) C dX3_mayUse_11 (by decide) ?_
    refine g_asi (show (nI (1)) = (b2 (mayB al n)) from (by unfold mayB; rw [decide_eq_true c8]; rfl)) ?_
    refine g_goto (tgt := 16) C dX3_mayUse_12 (by decide) ?_
    exact g_zret C r rfl (b2_nar _) ⟨rfl, rfl, rfl, rfl, trivial⟩ rfl nN dX3_mayUse_16
abbrev muX3_allow : Mu := (cX3_allow, 3, RX3, none, "allow", 0, 0, 0, 0)
theorem hd_X3_allow : yX3_allow.cls = RX3 ∧ yX3_allow.cls ≠ "java/lang/invoke/MethodHandle" ∧ yX3_allow.cls ≠ "java/lang/invoke/VarHandle" ∧ (parseMethodDescriptor yX3_allow.desc).map (fun d => d.parameters.length) = some 2 := by decide +kernel
set_option maxHeartbeats 4000000 in
set_option maxRecDepth 100000 in
theorem k_X3_allow (l : Launch) (E : Ev) (s0 : Nat) (id al : Int32) (ct : Int64) (bd : Nat) (n : Int32) (on : Bool) (L : List Nat) (F : Nat → va_E) (hsL : s0 ∈ L) (hsF : F s0 = .inr (5, [.int id, .long ct, .int (nI bd), .int al])) : KC l E yX3_allow muX3_allow [.ref s0, .int (n), .int (b2 on)] [] L F (fun r8 cx8 L8 F8 => r8 = none ∧ cx8 = [] ∧ L = L8 ∧ va_up F s0 (.inr (5, [.int id, .long ct, .int (nI bd), .int (alw al n on)])) = F8 ∧ (True)) := by
  refine K_start (by decide) rfl rfl (Nat.le_of_ble_eq_true rfl) (fun g A Q hgl C r => ?_)
  subst hgl
  show G g muX3_allow E A 0 0 Q [] L F 0 [(0, .ref s0), (1, .int (n)), (2, .int (b2 on))] []
  refine g_iload_n C dX3_allow_0 rfl 2 rfl ?_
  refine g_if_eq (tgt := 19) C dX3_allow_1 (by decide) (fun c1 => ?_) (fun c1 => ?_)
  · skip
    have hg := b2_f c1
    refine g_aload_n C dX3_allow_19 rfl 0 rfl ?_
    refine g_dup C dX3_allow_20 rfl ?_
    refine g_getP C hsL hsF rfl inX3 3 (by decide) m_72 rfl dX3_allow_21 ?_
    refine g_iconst (v := nI (1)) C dX3_allow_24 (by decide) ?_
    refine g_iload_n C dX3_allow_25 rfl 1 rfl ?_
    refine g_ishl C dX3_allow_26 ?_
    refine g_iconst (v := (-1 : Int32)) C dX3_allow_27 (by decide) ?_
    refine g_ixor C dX3_allow_28 ?_
    refine g_iand C dX3_allow_29 ?_
    refine g_asi (show (al &&& (((nI (1)) <<< (n &&& 31)) ^^^ (-1))) = (alw al n on) from (by rw [hg]; rfl)) ?_
    refine g_putP (e' := .inr (5, [.int (id), .long (ct), .int (nI (bd)), .int (alw al n on)])) C hsL hsF rfl inX3 tyX3 tyX3_ok nmX3 3 (by decide) m_72 rfl rfl rfl (Nat.le_of_ble_eq_true rfl) rfl dX3_allow_30 ?_
    exact g_vret C r rfl ⟨rfl, rfl, rfl, rfl, trivial⟩ rfl nN dX3_allow_33
  · skip
    have hg := b2_t c1
    refine g_aload_n C dX3_allow_4 rfl 0 rfl ?_
    refine g_dup C dX3_allow_5 rfl ?_
    refine g_getP C hsL hsF rfl inX3 3 (by decide) m_72 rfl dX3_allow_6 ?_
    refine g_iconst (v := nI (1)) C dX3_allow_9 (by decide) ?_
    refine g_iload_n C dX3_allow_10 rfl 1 rfl ?_
    refine g_ishl C dX3_allow_11 ?_
    refine g_ior C dX3_allow_12 ?_
    refine g_asi (show (al ||| ((nI (1)) <<< (n &&& 31))) = (alw al n on) from (by rw [hg]; rfl)) ?_
    refine g_putP (e' := .inr (5, [.int (id), .long (ct), .int (nI (bd)), .int (alw al n on)])) C hsL hsF rfl inX3 tyX3 tyX3_ok nmX3 3 (by decide) m_72 rfl rfl rfl (Nat.le_of_ble_eq_true rfl) rfl dX3_allow_13 ?_
    refine g_goto (tgt := 33) C dX3_allow_16 (by decide) ?_
    exact g_vret C r rfl ⟨rfl, rfl, rfl, rfl, trivial⟩ rfl nN dX3_allow_33
abbrev muX3_countOfKeys : Mu := (cX3_countOfKeys, 1, RX3, (some .int), "countOfKeys", 1, 0, 0, 20)
theorem hd_X3_countOfKeys : yX3_countOfKeys.cls = RX3 ∧ yX3_countOfKeys.cls ≠ "java/lang/invoke/MethodHandle" ∧ yX3_countOfKeys.cls ≠ "java/lang/invoke/VarHandle" ∧ (parseMethodDescriptor yX3_countOfKeys.desc).map (fun d => d.parameters.length) = some 0 := by decide +kernel
set_option maxHeartbeats 4000000 in
set_option maxRecDepth 100000 in
theorem k_X3_countOfKeys (l : Launch) (E : Ev) (s0 : Nat) (id al : Int32) (ct : Int64) (bd : Nat) (L : List Nat) (F : Nat → va_E) (hsL : s0 ∈ L) (hsF : F s0 = .inr (5, [.int id, .long ct, .int (nI bd), .int al])) : KC l E yX3_countOfKeys muX3_countOfKeys [.ref s0] [] L F (fun r8 cx8 L8 F8 => r8 = some (.int (bc al)) ∧ cx8 = [] ∧ L = L8 ∧ F = F8 ∧ (True)) := by
  refine K_start (by decide) rfl rfl (Nat.le_of_ble_eq_true rfl) (fun g A Q hgl C r => ?_)
  subst hgl
  show G g muX3_countOfKeys E A 0 0 Q [] L F 0 [(0, .ref s0)] []
  refine g_aload_n C dX3_countOfKeys_0 rfl 0 rfl ?_
  refine g_getP C hsL hsF rfl inX3 3 (by decide) m_72 rfl dX3_countOfKeys_1 ?_
  refine g_callS (v := muJ6_bitCount_0f7a4) (cx := []) C (k_J6_bitCount_0f7a4 (gl g) E al L F ) [] rfl (by decide) gi_X3_27 hd_J6_bitCount_0f7a4.2 ⟨Nat.le_of_ble_eq_true rfl, Nat.le_of_ble_eq_true rfl⟩ rfl rfl (Nat.le_of_ble_eq_true rfl) ⟨Nat.le_of_ble_eq_true rfl, Nat.le_of_ble_eq_true rfl⟩ dX3_countOfKeys_4 (fun r9 cx9 L9 F9 hp9 hf9 hN9 => ?_)
  obtain ⟨rfl, rfl, rfl, rfl, -⟩ := hp9
  show G g muX3_countOfKeys E A 0 0 Q [] L F 7 [(0, .ref s0)] [.int (bc al)]
  exact g_iret C r rfl ⟨rfl, rfl, rfl, rfl, trivial⟩ rfl nN dX3_countOfKeys_7
abbrev muX3_beginTrip : Mu := (cX3_beginTrip, 1, RX3, none, "beginTrip", 0, 0, 0, 0)
theorem hd_X3_beginTrip : yX3_beginTrip.cls = RX3 ∧ yX3_beginTrip.cls ≠ "java/lang/invoke/MethodHandle" ∧ yX3_beginTrip.cls ≠ "java/lang/invoke/VarHandle" ∧ (parseMethodDescriptor yX3_beginTrip.desc).map (fun d => d.parameters.length) = some 0 := by decide +kernel
set_option maxHeartbeats 4000000 in
set_option maxRecDepth 100000 in
theorem k_X3_beginTrip (l : Launch) (E : Ev) (s0 : Nat) (id al : Int32) (ct : Int64) (bd : Nat) (L : List Nat) (F : Nat → va_E) (hsL : s0 ∈ L) (hsF : F s0 = .inr (5, [.int id, .long ct, .int (nI bd), .int al])) : KC l E yX3_beginTrip muX3_beginTrip [.ref s0] [] L F (fun r8 cx8 L8 F8 => r8 = none ∧ cx8 = [] ∧ L = L8 ∧ va_up F s0 (.inr (5, [.int id, .long 0, .int (nI 0), .int al])) = F8 ∧ (True)) := by
  refine K_start (by decide) rfl rfl (Nat.le_of_ble_eq_true rfl) (fun g A Q hgl C r => ?_)
  subst hgl
  show G g muX3_beginTrip E A 0 0 Q [] L F 0 [(0, .ref s0)] []
  refine g_aload_n C dX3_beginTrip_0 rfl 0 rfl ?_
  refine g_lconst (v := 0) C dX3_beginTrip_1 (by decide) ?_
  refine g_putP (e' := .inr (5, [.int (id), .long (0), .int (nI (bd)), .int (al)])) C hsL hsF rfl inX3 tyX3 tyX3_ok nmX3 1 (by decide) m_69 rfl rfl rfl (Nat.le_of_ble_eq_true rfl) rfl dX3_beginTrip_2 ?_
  refine g_aload_n C dX3_beginTrip_5 rfl 0 rfl ?_
  refine g_iconst (v := nI (0)) C dX3_beginTrip_6 (by decide) ?_
  refine g_putP (e' := .inr (5, [.int (id), .long (0), .int (nI (0)), .int (al)])) C hsL (va_up_self _ _ _) rfl inX3 tyX3 tyX3_ok nmX3 2 (by decide) m_71 rfl rfl rfl (Nat.le_of_ble_eq_true rfl) rfl dX3_beginTrip_7 ?_
  refine g_cgF (F' := va_up F s0 (.inr (5, [.int id, .long 0, .int (nI 0), .int al]))) (fun a9 _ => congrFun (show va_up (va_up F s0 (.inr (5, [.int (id), .long (0), .int (nI (bd)), .int (al)]))) s0 (.inr (5, [.int (id), .long (0), .int (nI (0)), .int (al)])) = va_up F s0 (.inr (5, [.int id, .long 0, .int (nI 0), .int al])) from by rw [bx_uu]) a9) ?_
  exact g_vret C r rfl ⟨rfl, rfl, rfl, rfl, trivial⟩ rfl nN dX3_beginTrip_10
