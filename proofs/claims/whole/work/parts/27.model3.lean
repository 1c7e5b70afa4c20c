theorem kf_ex {o : Option Nat} (h : o.isNone = false) : ∃ i, o = some i := by
  cases o with
  | none => cases h
  | some i => exact ⟨i, rfl⟩
theorem kf_no {o : Option Nat} (h : o.isNone = true) : o = none := by
  cases o with
  | none => rfl
  | some i => cases h
theorem idx_of {i : Int32} {n : Nat} (h1 : ¬ i < 0) (h2 : i < nI n) (hn : n < 2 ^ 31) : ∃ q, q < n ∧ i = nI q := by
  obtain ⟨j, hj, rfl⟩ := nI_of h1
  exact ⟨j, (nI_ltI hj hn).mp h2, rfl⟩
/-- bits cleared one after the other, from b on -/
def clS (x : Int32) (b : Nat) : Nat → Int32
  | 0 => x
  | m + 1 => clS x b m &&& ((nI 128 >>> (nI ((b + m) % 8) &&& 31)) ^^^ (-1))
theorem clS_mod (x : Int32) (q k : Nat) : ∀ m, clS x (8 * q + k) m = clS x k m := by
  intro m
  induction m with
  | zero => rfl
  | succ m ih => rw [clS, clS, ih, show (8 * q + k + m) % 8 = (k + m) % 8 by omega]
theorem clS_n : ∀ x, x < 256 → ∀ k, k < 9 → k = 0 ∨ clS (nI x) k (8 - k) = nI x &&& ((65280 : Int32) >>> (nI k &&& 31)) := by decide +kernel
theorem ans_lo {src : Nat → Int32} {bi j : Nat} (hb : bi ≤ 128) (h : 8 * j + 8 ≤ bi) (ho : isO (src j)) : ansF src bi j = src j := by
  unfold ansF imax imin
  rw [pk_sub (by omega)]
  have e : (if nI (bi - 8 * j) < nI 8 then nI (bi - 8 * j) else nI 8) = nI 8 := by rw [if_neg (nI_nlt (by omega) (by omega))]
  rw [e, if_pos (by decide)]
  exact ho
theorem ans_hi {src : Nat → Int32} {bi j : Nat} (hb : bi ≤ 128) (h1 : 8 * j < bi) (h2 : bi ≤ 8 * j + 8) (ho : isO (src j)) : clS (src j) bi (8 * (j + 1) - bi) = ansF src bi j := by
  unfold ansF imax imin
  rw [pk_sub (by omega)]
  obtain ⟨x, hx, e⟩ := isO_of ho
  obtain ⟨k, rfl⟩ : ∃ k, bi = 8 * j + k := ⟨bi - 8 * j, by omega⟩
  rw [e, clS_mod, show 8 * (j + 1) - (8 * j + k) = 8 - k by omega, show 8 * j + k - 8 * j = k by omega]
  rcases clS_n x hx k (by omega) with h | h
  · omega
  · rw [h]
    have e2 : (if nI k < nI 8 then nI k else nI 8) = nI k := by
      by_cases h8 : k < 8
      · rw [if_pos (nI_lt h8 (by decide))]
      · rw [if_neg (nI_nlt (by omega) (by omega)), show k = 8 by omega]
    rw [e2, if_pos (nI_lt (by omega) (by omega))]
theorem kf_key {nk i : Nat} {k : Int32} (h : kf nk k = some i) (hn : nk ≤ 16) : i < nk ∧ k = nI (i + 1) := kf_some (by omega) h
theorem MS_z {fco : Nat → Int64} {fbd fmy : Nat → Int32} {sc : Nat → Int64} {sb : Nat → Nat} {sl : Nat → Int32} {i : Nat} (h : MS fco fbd fmy (zsc sc i) (zsb sb i) sl) : MS (vp_updL fco (i + 1) 0) (upd fbd (i + 1) (nI 0)) fmy (zsc sc (i + 1)) (zsb sb (i + 1)) sl := by
  have := MS_cb h (j := i) 0 0
  rwa [zsc_s, zsb_s] at this
theorem MS_e {fco : Nat → Int64} {fbd fmy : Nat → Int32} {sc : Nat → Int64} {sb : Nat → Nat} {sl : Nat → Int32} {i : Nat} (hi : 64 ≤ i) (h : MS fco fbd fmy (zsc sc i) (zsb sb i) sl) : MS fco fbd fmy (fun _ => 0) (fun _ => 0) sl := by
  intro j hj
  obtain ⟨a, b, c⟩ := h j hj
  unfold zsc at a
  unfold zsb at b
  rw [if_pos (by omega)] at a b
  exact ⟨a, b, c⟩
abbrev muX5_key : Mu := (cX5_key, 1, RX5, (some .int), "key", 0, 0, 0, 0)
theorem hd_X5_key : yX5_key.cls = RX5 ∧ yX5_key.cls ≠ "java/lang/invoke/MethodHandle" ∧ yX5_key.cls ≠ "java/lang/invoke/VarHandle" ∧ (parseMethodDescriptor yX5_key.desc).map (fun d => d.parameters.length) = some 0 := by decide +kernel
set_option maxHeartbeats 4000000 in
set_option maxRecDepth 100000 in
theorem k_X5_key (l : Launch) (E : Ev) (mm oc nx ia ms ot my co bd bk oh rd mk rw ss : Nat) (cd : Int32) (nk ln os : Nat) (tp : Int64) (ko : Nat → Nat → Int32) (kn : Nat → Nat) (kc : Nat → Int64) (L : List Nat) (F : Nat → va_E) (hnk : nk ≤ 16) : KC l E yX5_key muX5_key [.ref mm] [(mm, .inr (7, [.int (cd), .int (nI (nk)), .ref oc, .ref nx, .ref ia, .ref ms, .int (nI (ln)), .int (nI (os)), .ref ot, .long (tp), .ref my, .ref co, .ref bd, .ref bk, .ref oh, .ref rd, .ref mk, .ref rw, .ref ss]))] L F (fun r8 cx8 L8 F8 => ∃ (nk1 : Nat), r8 = some (.int ((keyS nk ko kn kc).1)) ∧ cx8 = [(mm, .inr (7, [.int (nI 0), .int (nI (nk1)), .ref oc, .ref nx, .ref ia, .ref ms, .int (nI (ln)), .int (nI (os)), .ref ot, .long (tp), .ref my, .ref co, .ref bd, .ref bk, .ref oh, .ref rd, .ref mk, .ref rw, .ref ss]))] ∧ L = L8 ∧ F = F8 ∧ (nk1 = (keyS nk ko kn kc).2.1)) := by
  refine K_start (by decide) rfl rfl (Nat.le_of_ble_eq_true rfl) (fun g A Q hgl C r => ?_)
  subst hgl
  show G g muX5_key E A 0 0 Q [(mm, .inr (7, [.int (cd), .int (nI (nk)), .ref oc, .ref nx, .ref ia, .ref ms, .int (nI (ln)), .int (nI (os)), .ref ot, .long (tp), .ref my, .ref co, .ref bd, .ref bk, .ref oh, .ref rd, .ref mk, .ref rw, .ref ss]))] L F 0 [(0, .ref mm)] []
  refine g_aload_n C dX5_key_0 rfl 0 rfl ?_
  refine g_iconst (v := nI (0)) C dX5_key_1 (by decide) ?_
  refine g_putX (X' := [(mm, .inr (7, [.int (nI (0)), .int (nI (nk)), .ref oc, .ref nx, .ref ia, .ref ms, .int (nI (ln)), .int (nI (os)), .ref ot, .long (tp), .ref my, .ref co, .ref bd, .ref bk, .ref oh, .ref rd, .ref mk, .ref rw, .ref ss]))]) C 0 rfl rfl inX5 tyX5 tyX5_ok nmX5 0 (by decide) m_420 rfl rfl rfl (Nat.le_of_ble_eq_true rfl) rfl dX5_key_2 ?_
  refine g_aload_n C dX5_key_5 rfl 0 rfl ?_
  refine g_getX C 0 rfl rfl inX5 1 (by decide) m_421 rfl dX5_key_6 ?_
  refine g_bipush (v := nI (16)) C dX5_key_9 (by decide) ?_
  refine g_nicmp_ne (tgt := 17) C dX5_key_11 (by decide) (by omega) (by omega) (fun c11 => ?_) (fun c11 => ?_)
  · skip
    refine g_aload_n C dX5_key_17 rfl 0 rfl ?_
    refine g_dup C dX5_key_18 rfl ?_
    refine g_getX C 0 rfl rfl inX5 1 (by decide) m_421 rfl dX5_key_19 ?_
    refine g_iconst (v := nI (1)) C dX5_key_22 (by decide) ?_
    refine g_iadd C dX5_key_23 ?_
    refine g_asi (nI_add _ _) ?_
    refine g_putX (X' := [(mm, .inr (7, [.int (nI (0)), .int (nI (nk + 1)), .ref oc, .ref nx, .ref ia, .ref ms, .int (nI (ln)), .int (nI (os)), .ref ot, .long (tp), .ref my, .ref co, .ref bd, .ref bk, .ref oh, .ref rd, .ref mk, .ref rw, .ref ss]))]) C 0 rfl rfl inX5 tyX5 tyX5_ok nmX5 1 (by decide) m_421 rfl rfl rfl (Nat.le_of_ble_eq_true rfl) rfl dX5_key_24 ?_
    refine g_aload_n C dX5_key_27 rfl 0 rfl ?_
    refine g_getX C 0 rfl rfl inX5 1 (by decide) m_421 rfl dX5_key_28 ?_
    refine g_asi (show (nI (nk + 1)) = ((keyS nk ko kn kc).1) from (by unfold keyS; rw [if_pos (by omega)])) ?_
    exact g_iret C r rfl ⟨nk + 1, rfl, rfl, rfl, rfl, by unfold keyS; rw [if_pos (by omega)]⟩ rfl nN dX5_key_31
  · skip
    refine g_bipush (v := (-4 : Int32)) C dX5_key_14 (by decide) ?_
    refine g_asi (show (-4) = ((keyS nk ko kn kc).1) from (by unfold keyS; rw [if_neg (by omega)])) ?_
    exact g_iret C r rfl ⟨nk, rfl, rfl, rfl, rfl, by unfold keyS; rw [if_neg (by omega)]⟩ rfl nN dX5_key_16
abbrev muX5_keyByte : Mu := (cX5_keyByte, 3, RX5, none, "keyByte", 1, 0, 0, 21)
theorem hd_X5_keyByte : yX5_keyByte.cls = RX5 ∧ yX5_keyByte.cls ≠ "java/lang/invoke/MethodHandle" ∧ yX5_keyByte.cls ≠ "java/lang/invoke/VarHandle" ∧ (parseMethodDescriptor yX5_keyByte.desc).map (fun d => d.parameters.length) = some 2 := by decide +kernel
set_option maxHeartbeats 4000000 in
set_option maxRecDepth 100000 in
theorem k_X5_keyByte (l : Launch) (E : Ev) (mm oc nx ia ms ot my co bd bk oh rd mk rw ss : Nat) (cd : Int32) (nk ln os : Nat) (tp : Int64) (foc fnx : Nat → Int32) (fis : Nat → Int64) (ko : Nat → Nat → Int32) (kn : Nat → Nat) (kc : Nat → Int64) (k b : Int32) (L : List Nat) (F : Nat → va_E) (hnk : nk ≤ 16) (hMK : MK foc fnx fis nk ko kn kc) : KC l E yX5_keyByte muX5_keyByte [.ref mm, .int (k), .int (b)] [(mm, .inr (7, [.int (cd), .int (nI (nk)), .ref oc, .ref nx, .ref ia, .ref ms, .int (nI (ln)), .int (nI (os)), .ref ot, .long (tp), .ref my, .ref co, .ref bd, .ref bk, .ref oh, .ref rd, .ref mk, .ref rw, .ref ss])), (oc, aI E 272 (foc)), (nx, aI E 17 (fnx))] L F (fun r8 cx8 L8 F8 => ∃ (foc1 fnx1 : Nat → Int32), r8 = none ∧ cx8 = [(mm, .inr (7, [.int (nI 0), .int (nI (nk)), .ref oc, .ref nx, .ref ia, .ref ms, .int (nI (ln)), .int (nI (os)), .ref ot, .long (tp), .ref my, .ref co, .ref bd, .ref bk, .ref oh, .ref rd, .ref mk, .ref rw, .ref ss])), (oc, aI E 272 (foc1)), (nx, aI E 17 (fnx1))] ∧ L = L8 ∧ F = F8 ∧ (MK foc1 fnx1 fis nk (kbS nk ko kn k b).1 (kbS nk ko kn k b).2 kc)) := by
  refine K_start (by decide) rfl rfl (Nat.le_of_ble_eq_true rfl) (fun g A Q hgl C r => ?_)
  subst hgl
  show G g muX5_keyByte E A 0 0 Q [(mm, .inr (7, [.int (cd), .int (nI (nk)), .ref oc, .ref nx, .ref ia, .ref ms, .int (nI (ln)), .int (nI (os)), .ref ot, .long (tp), .ref my, .ref co, .ref bd, .ref bk, .ref oh, .ref rd, .ref mk, .ref rw, .ref ss])), (oc, aI E 272 (foc)), (nx, aI E 17 (fnx))] L F 0 [(0, .ref mm), (1, .int (k)), (2, .int (b))] []
  refine g_aload_n C dX5_keyByte_0 rfl 0 rfl ?_
  refine g_iload_n C dX5_keyByte_1 rfl 1 rfl ?_
  refine g_callV (v := muX5_noKey) (cx := [(mm, .inr (7, [.int (cd), .int (nI (nk)), .ref oc, .ref nx, .ref ia, .ref ms, .int (nI (ln)), .int (nI (os)), .ref ot, .long (tp), .ref my, .ref co, .ref bd, .ref bk, .ref oh, .ref rd, .ref mk, .ref rw, .ref ss]))]) C (k_X5_noKey (gl g) E mm oc nx ia ms ot my co bd bk oh rd mk rw ss cd nk ln os tp k L F ) [0] rfl (by decide) 0 rfl rfl gi_X5_82 hd_X5_noKey ⟨Nat.le_of_ble_eq_true rfl, Nat.le_of_ble_eq_true rfl⟩ rfl rfl (Nat.le_of_ble_eq_true rfl) ⟨Nat.le_of_ble_eq_true rfl, Nat.le_of_ble_eq_true rfl⟩ dX5_keyByte_2 (fun r9 cx9 L9 F9 hp9 hf9 hN9 => ?_)
  obtain ⟨rfl, rfl, rfl, rfl, -⟩ := hp9
  show G g muX5_keyByte E A 0 0 Q [(mm, .inr (7, [.int (nI 0), .int (nI (nk)), .ref oc, .ref nx, .ref ia, .ref ms, .int (nI (ln)), .int (nI (os)), .ref ot, .long (tp), .ref my, .ref co, .ref bd, .ref bk, .ref oh, .ref rd, .ref mk, .ref rw, .ref ss])), (oc, aI E 272 (foc)), (nx, aI E 17 (fnx))] L F 5 [(0, .ref mm), (1, .int (k)), (2, .int (b))] [.int (b2 (kf nk k).isNone)]
  refine g_if_eq (tgt := 9) C dX5_keyByte_5 (by decide) (fun c5 => ?_) (fun c5 => ?_)
  · skip
    obtain ⟨i, hkf⟩ := kf_ex (b2_f c5)
    obtain ⟨hi, hke⟩ := kf_key hkf hnk
    refine g_aload_n C dX5_keyByte_9 rfl 0 rfl ?_
    refine g_getX C 0 rfl rfl inX5 2 (by decide) m_422 rfl dX5_keyByte_10 ?_
    refine g_bipush (v := nI (16)) C dX5_keyByte_13 (by decide) ?_
    refine g_iload_n C dX5_keyByte_15 rfl 1 rfl ?_
    refine g_asi (show (k) = (nI (i + 1)) from hke) ?_
    refine g_imul C dX5_keyByte_16 ?_
    refine g_asi (pk_mul _ _) ?_
    refine g_aload_n C dX5_keyByte_17 rfl 0 rfl ?_
    refine g_getX C 0 rfl rfl inX5 3 (by decide) m_423 rfl dX5_keyByte_18 ?_
    refine g_iload_n C dX5_keyByte_21 rfl 1 rfl ?_
    refine g_asi (show (k) = (nI (i + 1)) from hke) ?_
    refine g_iald C 2 rfl (by omega) (by decide) dX5_keyByte_22 ?_
    refine g_asi (show (fnx (i + 1)) = (nI (kn i % 16)) from (hMK.1 i hi).2.1) ?_
    refine g_iadd C dX5_keyByte_23 ?_
    refine g_asi (nI_add _ _) ?_
    refine g_iload_n C dX5_keyByte_24 rfl 2 rfl ?_
    refine g_sipush (v := nI (255)) C dX5_keyByte_25 (by decide) ?_
    refine g_iand C dX5_keyByte_28 ?_
    refine g_iast (X' := [(mm, .inr (7, [.int (nI 0), .int (nI (nk)), .ref oc, .ref nx, .ref ia, .ref ms, .int (nI (ln)), .int (nI (os)), .ref ot, .long (tp), .ref my, .ref co, .ref bd, .ref bk, .ref oh, .ref rd, .ref mk, .ref rw, .ref ss])), (oc, aI E 272 (upd foc ((16 * (i + 1)) + (kn i % 16)) (b &&& (nI (255))))), (nx, aI E 17 (fnx))]) C 1 rfl (by omega) (by decide) rfl dX5_keyByte_29 ?_
    refine g_aload_n C dX5_keyByte_30 rfl 0 rfl ?_
    refine g_getX C 0 rfl rfl inX5 3 (by decide) m_423 rfl dX5_keyByte_31 ?_
    refine g_iload_n C dX5_keyByte_34 rfl 1 rfl ?_
    refine g_asi (show (k) = (nI (i + 1)) from hke) ?_
    refine g_aload_n C dX5_keyByte_35 rfl 0 rfl ?_
    refine g_getX C 0 rfl rfl inX5 3 (by decide) m_423 rfl dX5_keyByte_36 ?_
    refine g_iload_n C dX5_keyByte_39 rfl 1 rfl ?_
    refine g_asi (show (k) = (nI (i + 1)) from hke) ?_
    refine g_iald C 2 rfl (by omega) (by decide) dX5_keyByte_40 ?_
    refine g_asi (show (fnx (i + 1)) = (nI (kn i % 16)) from (hMK.1 i hi).2.1) ?_
    refine g_iconst (v := nI (1)) C dX5_keyByte_41 (by decide) ?_
    refine g_iadd C dX5_keyByte_42 ?_
    refine g_asi (nI_add _ _) ?_
    refine g_bipush (v := nI (16)) C dX5_keyByte_43 (by decide) ?_
    refine g_irem C dX5_keyByte_45 (by decide) ?_
    refine g_asi (pk_rem (by omega) (by decide) (by decide)) ?_
    refine g_iast (X' := [(mm, .inr (7, [.int (nI 0), .int (nI (nk)), .ref oc, .ref nx, .ref ia, .ref ms, .int (nI (ln)), .int (nI (os)), .ref ot, .long (tp), .ref my, .ref co, .ref bd, .ref bk, .ref oh, .ref rd, .ref mk, .ref rw, .ref ss])), (oc, aI E 272 (upd foc ((16 * (i + 1)) + (kn i % 16)) (b &&& (nI (255))))), (nx, aI E 17 (upd fnx (i + 1) (nI (((kn i % 16) + 1) % 16))))]) C 2 rfl (by omega) (by decide) rfl dX5_keyByte_46 ?_
    exact g_vret C r rfl ⟨upd foc ((16 * (i + 1)) + (kn i % 16)) (b &&& (nI (255))), upd fnx (i + 1) (nI (((kn i % 16) + 1) % 16)), rfl, rfl, rfl, rfl, by unfold kbS; simp only [hkf]; exact MK_kb hMK hi hnk b⟩ rfl nN dX5_keyByte_47
  · skip
    have hkf := kf_no (b2_t c5)
    exact g_vret C r rfl ⟨foc, fnx, rfl, rfl, rfl, rfl, by unfold kbS; simp only [hkf]; exact hMK⟩ rfl nN dX5_keyByte_8
abbrev muX5_octet : Mu := (cX5_octet, 2, RX5, none, "octet", 0, 0, 0, 0)
theorem hd_X5_octet : yX5_octet.cls = RX5 ∧ yX5_octet.cls ≠ "java/lang/invoke/MethodHandle" ∧ yX5_octet.cls ≠ "java/lang/invoke/VarHandle" ∧ (parseMethodDescriptor yX5_octet.desc).map (fun d => d.parameters.length) = some 1 := by decide +kernel
set_option maxHeartbeats 4000000 in
set_option maxRecDepth 100000 in
theorem k_X5_octet (l : Launch) (E : Ev) (mm oc nx ia ms ot my co bd bk oh rd mk rw ss : Nat) (cd : Int32) (nk ln os : Nat) (tp : Int64) (msg : Nat → Int32) (b : Int32) (L : List Nat) (F : Nat → va_E) (hml : ln ≤ 300) : KC l E yX5_octet muX5_octet [.ref mm, .int (b)] [(mm, .inr (7, [.int (cd), .int (nI (nk)), .ref oc, .ref nx, .ref ia, .ref ms, .int (nI (ln)), .int (nI (os)), .ref ot, .long (tp), .ref my, .ref co, .ref bd, .ref bk, .ref oh, .ref rd, .ref mk, .ref rw, .ref ss])), (ms, aI E 300 (msg))] L F (fun r8 cx8 L8 F8 => ∃ (ml1 : Nat) (msg1 : Nat → Int32), r8 = none ∧ cx8 = [(mm, .inr (7, [.int (nI 0), .int (nI (nk)), .ref oc, .ref nx, .ref ia, .ref ms, .int (nI (ml1)), .int (nI (os)), .ref ot, .long (tp), .ref my, .ref co, .ref bd, .ref bk, .ref oh, .ref rd, .ref mk, .ref rw, .ref ss])), (ms, aI E 300 (msg1))] ∧ L = L8 ∧ F = F8 ∧ ((ml1, msg1) = octS ln msg b)) := by
  refine K_start (by decide) rfl rfl (Nat.le_of_ble_eq_true rfl) (fun g A Q hgl C r => ?_)
  subst hgl
  show G g muX5_octet E A 0 0 Q [(mm, .inr (7, [.int (cd), .int (nI (nk)), .ref oc, .ref nx, .ref ia, .ref ms, .int (nI (ln)), .int (nI (os)), .ref ot, .long (tp), .ref my, .ref co, .ref bd, .ref bk, .ref oh, .ref rd, .ref mk, .ref rw, .ref ss])), (ms, aI E 300 (msg))] L F 0 [(0, .ref mm), (1, .int (b))] []
  refine g_aload_n C dX5_octet_0 rfl 0 rfl ?_
  refine g_iconst (v := nI (0)) C dX5_octet_1 (by decide) ?_
  refine g_putX (X' := [(mm, .inr (7, [.int (nI (0)), .int (nI (nk)), .ref oc, .ref nx, .ref ia, .ref ms, .int (nI (ln)), .int (nI (os)), .ref ot, .long (tp), .ref my, .ref co, .ref bd, .ref bk, .ref oh, .ref rd, .ref mk, .ref rw, .ref ss])), (ms, aI E 300 (msg))]) C 0 rfl rfl inX5 tyX5 tyX5_ok nmX5 0 (by decide) m_420 rfl rfl rfl (Nat.le_of_ble_eq_true rfl) rfl dX5_octet_2 ?_
  refine g_aload_n C dX5_octet_5 rfl 0 rfl ?_
  refine g_getX C 0 rfl rfl inX5 6 (by decide) m_426 rfl dX5_octet_6 ?_
  refine g_sipush (v := nI (300)) C dX5_octet_9 (by decide) ?_
  refine g_nicmp_ne (tgt := 16) C dX5_octet_12 (by decide) (by omega) (by omega) (fun c12 => ?_) (fun c12 => ?_)
  · skip
    refine g_aload_n C dX5_octet_16 rfl 0 rfl ?_
    refine g_getX C 0 rfl rfl inX5 5 (by decide) m_425 rfl dX5_octet_17 ?_
    refine g_aload_n C dX5_octet_20 rfl 0 rfl ?_
    refine g_getX C 0 rfl rfl inX5 6 (by decide) m_426 rfl dX5_octet_21 ?_
    refine g_iload_n C dX5_octet_24 rfl 1 rfl ?_
    refine g_sipush (v := nI (255)) C dX5_octet_25 (by decide) ?_
    refine g_iand C dX5_octet_28 ?_
    refine g_iast (X' := [(mm, .inr (7, [.int (nI (0)), .int (nI (nk)), .ref oc, .ref nx, .ref ia, .ref ms, .int (nI (ln)), .int (nI (os)), .ref ot, .long (tp), .ref my, .ref co, .ref bd, .ref bk, .ref oh, .ref rd, .ref mk, .ref rw, .ref ss])), (ms, aI E 300 (upd msg ln (b &&& (nI (255)))))]) C 1 rfl (by omega) (by decide) rfl dX5_octet_29 ?_
    refine g_aload_n C dX5_octet_30 rfl 0 rfl ?_
    refine g_dup C dX5_octet_31 rfl ?_
    refine g_getX C 0 rfl rfl inX5 6 (by decide) m_426 rfl dX5_octet_32 ?_
    refine g_iconst (v := nI (1)) C dX5_octet_35 (by decide) ?_
    refine g_iadd C dX5_octet_36 ?_
    refine g_asi (nI_add _ _) ?_
    refine g_putX (X' := [(mm, .inr (7, [.int (nI (0)), .int (nI (nk)), .ref oc, .ref nx, .ref ia, .ref ms, .int (nI (ln + 1)), .int (nI (os)), .ref ot, .long (tp), .ref my, .ref co, .ref bd, .ref bk, .ref oh, .ref rd, .ref mk, .ref rw, .ref ss])), (ms, aI E 300 (upd msg ln (b &&& (nI (255)))))]) C 0 rfl rfl inX5 tyX5 tyX5_ok nmX5 6 (by decide) m_426 rfl rfl rfl (Nat.le_of_ble_eq_true rfl) rfl dX5_octet_37 ?_
    exact g_vret C r rfl ⟨ln + 1, upd msg ln (b &&& (nI (255))), rfl, rfl, rfl, rfl, by unfold octS; rw [if_pos (by omega)]⟩ rfl nN dX5_octet_40
  · skip
    exact g_vret C r rfl ⟨ln, msg, rfl, rfl, rfl, rfl, by unfold octS; rw [if_neg (by omega)]⟩ rfl nN dX5_octet_15
abbrev muX5_out : Mu := (cX5_out, 2, RX5, (some .byte), "out", 0, 0, 0, 0)
theorem hd_X5_out : yX5_out.cls = RX5 ∧ yX5_out.cls ≠ "java/lang/invoke/MethodHandle" ∧ yX5_out.cls ≠ "java/lang/invoke/VarHandle" ∧ (parseMethodDescriptor yX5_out.desc).map (fun d => d.parameters.length) = some 1 := by decide +kernel
set_option maxHeartbeats 4000000 in
set_option maxRecDepth 100000 in
theorem k_X5_out (l : Launch) (E : Ev) (mm oc nx ia ms ot my co bd bk oh rd mk rw ss : Nat) (cd : Int32) (nk ln os : Nat) (tp : Int64) (fot : Nat → Int32) (x : Int32) (L : List Nat) (F : Nat → va_E) (hos : os ≤ 16) : KC l E yX5_out muX5_out [.ref mm, .int (x)] [(mm, .inr (7, [.int (cd), .int (nI (nk)), .ref oc, .ref nx, .ref ia, .ref ms, .int (nI (ln)), .int (nI (os)), .ref ot, .long (tp), .ref my, .ref co, .ref bd, .ref bk, .ref oh, .ref rd, .ref mk, .ref rw, .ref ss])), (ot, aI E 16 (fot))] L F (fun r8 cx8 L8 F8 => ∃ (r1 cd1 : Int32), r8 = some (.int (r1)) ∧ cx8 = [(mm, .inr (7, [.int (cd1), .int (nI (nk)), .ref oc, .ref nx, .ref ia, .ref ms, .int (nI (ln)), .int (nI (os)), .ref ot, .long (tp), .ref my, .ref co, .ref bd, .ref bk, .ref oh, .ref rd, .ref mk, .ref rw, .ref ss])), (ot, aI E 16 (fot))] ∧ L = L8 ∧ F = F8 ∧ ((cd1 = nI 1 ∧ (x < 0 ∨ ¬ x < nI os)) ∨ (cd1 = nI 0 ∧ ∃ q, q < os ∧ x = nI q ∧ r1 = (fot q).toInt8.toInt32))) := by
  refine K_start (by decide) rfl rfl (Nat.le_of_ble_eq_true rfl) (fun g A Q hgl C r => ?_)
  subst hgl
  show G g muX5_out E A 0 0 Q [(mm, .inr (7, [.int (cd), .int (nI (nk)), .ref oc, .ref nx, .ref ia, .ref ms, .int (nI (ln)), .int (nI (os)), .ref ot, .long (tp), .ref my, .ref co, .ref bd, .ref bk, .ref oh, .ref rd, .ref mk, .ref rw, .ref ss])), (ot, aI E 16 (fot))] L F 0 [(0, .ref mm), (1, .int (x))] []
  refine g_aload_n C dX5_out_0 rfl 0 rfl ?_
  refine g_iload_n C dX5_out_1 rfl 1 rfl ?_
  refine g_if_lt (tgt := 13) C dX5_out_2 (by decide) (fun c2 => ?_) (fun c2 => ?_)
  · skip
    refine g_iconst (v := nI (1)) C dX5_out_13 (by decide) ?_
    refine g_goto (tgt := 18) C dX5_out_14 (by decide) ?_
    refine g_putX (X' := [(mm, .inr (7, [.int (nI (1)), .int (nI (nk)), .ref oc, .ref nx, .ref ia, .ref ms, .int (nI (ln)), .int (nI (os)), .ref ot, .long (tp), .ref my, .ref co, .ref bd, .ref bk, .ref oh, .ref rd, .ref mk, .ref rw, .ref ss])), (ot, aI E 16 (fot))]) C 0 rfl rfl inX5 tyX5 tyX5_ok nmX5 0 (by decide) m_420 rfl rfl rfl (Nat.le_of_ble_eq_true rfl) rfl dX5_out_18 ?_
    refine g_aload_n C dX5_out_21 rfl 0 rfl ?_
    refine g_getX C 0 rfl rfl inX5 0 (by decide) m_420 rfl dX5_out_22 ?_
    refine g_nif_le (tgt := 32) C dX5_out_25 (by decide) (by omega) (fun c25 => ?_) (fun c25 => ?_)
    · skip
      exact absurd c25 (by omega)
    · skip
      refine g_iconst (v := nI (0)) C dX5_out_28 (by decide) ?_
      refine g_goto (tgt := 39) C dX5_out_29 (by decide) ?_
      exact g_zret C r rfl rfl ⟨nI 0, nI 1, rfl, rfl, rfl, rfl, Or.inl ⟨rfl, Or.inl c2⟩⟩ rfl nN dX5_out_39
  · skip
    refine g_iload_n C dX5_out_5 rfl 1 rfl ?_
    refine g_aload_n C dX5_out_6 rfl 0 rfl ?_
    refine g_getX C 0 rfl rfl inX5 7 (by decide) m_427 rfl dX5_out_7 ?_
    refine g_icmp_lt (tgt := 17) C dX5_out_10 (by decide) (fun c10 => ?_) (fun c10 => ?_)
    · skip
      obtain ⟨q, hq, hqe⟩ := idx_of c2 c10 (by omega)
      refine g_iconst (v := nI (0)) C dX5_out_17 (by decide) ?_
      refine g_putX (X' := [(mm, .inr (7, [.int (nI (0)), .int (nI (nk)), .ref oc, .ref nx, .ref ia, .ref ms, .int (nI (ln)), .int (nI (os)), .ref ot, .long (tp), .ref my, .ref co, .ref bd, .ref bk, .ref oh, .ref rd, .ref mk, .ref rw, .ref ss])), (ot, aI E 16 (fot))]) C 0 rfl rfl inX5 tyX5 tyX5_ok nmX5 0 (by decide) m_420 rfl rfl rfl (Nat.le_of_ble_eq_true rfl) rfl dX5_out_18 ?_
      refine g_aload_n C dX5_out_21 rfl 0 rfl ?_
      refine g_getX C 0 rfl rfl inX5 0 (by decide) m_420 rfl dX5_out_22 ?_
      refine g_nif_le (tgt := 32) C dX5_out_25 (by decide) (by omega) (fun c25 => ?_) (fun c25 => ?_)
      · skip
        refine g_aload_n C dX5_out_32 rfl 0 rfl ?_
        refine g_getX C 0 rfl rfl inX5 8 (by decide) m_428 rfl dX5_out_33 ?_
        refine g_iload_n C dX5_out_36 rfl 1 rfl ?_
        refine g_asi (show (x) = (nI (q)) from hqe) ?_
        refine g_iald C 1 rfl (by omega) (by decide) dX5_out_37 ?_
        refine g_i2b (v := (fot q).toInt8.toInt32) C dX5_out_38 rfl ?_
        exact g_zret C r rfl (pk_nb _) ⟨(fot q).toInt8.toInt32, nI 0, rfl, rfl, rfl, rfl, Or.inr ⟨rfl, q, hq, hqe, rfl⟩⟩ rfl nN dX5_out_39
      · skip
        exact absurd c25 (by omega)
    · skip
      refine g_iconst (v := nI (1)) C dX5_out_13 (by decide) ?_
      refine g_goto (tgt := 18) C dX5_out_14 (by decide) ?_
      refine g_putX (X' := [(mm, .inr (7, [.int (nI (1)), .int (nI (nk)), .ref oc, .ref nx, .ref ia, .ref ms, .int (nI (ln)), .int (nI (os)), .ref ot, .long (tp), .ref my, .ref co, .ref bd, .ref bk, .ref oh, .ref rd, .ref mk, .ref rw, .ref ss])), (ot, aI E 16 (fot))]) C 0 rfl rfl inX5 tyX5 tyX5_ok nmX5 0 (by decide) m_420 rfl rfl rfl (Nat.le_of_ble_eq_true rfl) rfl dX5_out_18 ?_
      refine g_aload_n C dX5_out_21 rfl 0 rfl ?_
      refine g_getX C 0 rfl rfl inX5 0 (by decide) m_420 rfl dX5_out_22 ?_
      refine g_nif_le (tgt := 32) C dX5_out_25 (by decide) (by omega) (fun c25 => ?_) (fun c25 => ?_)
      · skip
        exact absurd c25 (by omega)
      · skip
        refine g_iconst (v := nI (0)) C dX5_out_28 (by decide) ?_
        refine g_goto (tgt := 39) C dX5_out_29 (by decide) ?_
        exact g_zret C r rfl rfl ⟨nI 0, nI 1, rfl, rfl, rfl, rfl, Or.inl ⟨rfl, Or.inr c10⟩⟩ rfl nN dX5_out_39
abbrev muX5_check : Mu := (cX5_check, 3, RX5, (some .int), "check", 3, 0, 0, 75)
theorem hd_X5_check : yX5_check.cls = RX5 ∧ yX5_check.cls ≠ "java/lang/invoke/MethodHandle" ∧ yX5_check.cls ≠ "java/lang/invoke/VarHandle" ∧ (parseMethodDescriptor yX5_check.desc).map (fun d => d.parameters.length) = some 1 := by decide +kernel
set_option maxHeartbeats 4000000 in
set_option maxRecDepth 100000 in
theorem k_X5_check (l : Launch) (E : Ev) (mm oc nx ia ms ot my co bd bk oh rd mk rw ss : Nat) (cd : Int32) (nk ln os : Nat) (tp : Int64) (foc fnx frd fbk foh : Nat → Int32) (fis : Nat → Int64) (ko : Nat → Nat → Int32) (kn : Nat → Nat) (kc : Nat → Int64) (k : Int32) (L : List Nat) (F : Nat → va_E) (hnk : nk ≤ 16) (hMK : MK foc fnx fis nk ko kn kc) : KC l E yX5_check muX5_check [.ref mm, .int (k)] [(mm, .inr (7, [.int (cd), .int (nI (nk)), .ref oc, .ref nx, .ref ia, .ref ms, .int (nI (ln)), .int (nI (os)), .ref ot, .long (tp), .ref my, .ref co, .ref bd, .ref bk, .ref oh, .ref rd, .ref mk, .ref rw, .ref ss])), (oc, aI E 272 (foc)), (rd, aI E 176 (frd)), (ss, aI E 256 (TB)), (bk, aI E 16 (fbk)), (oh, aI E 16 (foh))] L F (fun r8 cx8 L8 F8 => ∃ (frd1 fbk1 foh1 : Nat → Int32), r8 = some (.int (ckS nk ko k)) ∧ cx8 = [(mm, .inr (7, [.int (nI 0), .int (nI (nk)), .ref oc, .ref nx, .ref ia, .ref ms, .int (nI (ln)), .int (nI (os)), .ref ot, .long (tp), .ref my, .ref co, .ref bd, .ref bk, .ref oh, .ref rd, .ref mk, .ref rw, .ref ss])), (oc, aI E 272 (foc)), (rd, aI E 176 (frd1)), (ss, aI E 256 (TB)), (bk, aI E 16 (fbk1)), (oh, aI E 16 (foh1))] ∧ L = L8 ∧ F = F8 ∧ (True)) := by
  refine K_start (by decide) rfl rfl (Nat.le_of_ble_eq_true rfl) (fun g A Q hgl C r => ?_)
  subst hgl
  show G g muX5_check E A 0 0 Q [(mm, .inr (7, [.int (cd), .int (nI (nk)), .ref oc, .ref nx, .ref ia, .ref ms, .int (nI (ln)), .int (nI (os)), .ref ot, .long (tp), .ref my, .ref co, .ref bd, .ref bk, .ref oh, .ref rd, .ref mk, .ref rw, .ref ss])), (oc, aI E 272 (foc)), (rd, aI E 176 (frd)), (ss, aI E 256 (TB)), (bk, aI E 16 (fbk)), (oh, aI E 16 (foh))] L F 0 [(0, .ref mm), (1, .int (k))] []
  refine g_aload_n C dX5_check_0 rfl 0 rfl ?_
  refine g_iload_n C dX5_check_1 rfl 1 rfl ?_
  refine g_callV (v := muX5_noKey) (cx := [(mm, .inr (7, [.int (cd), .int (nI (nk)), .ref oc, .ref nx, .ref ia, .ref ms, .int (nI (ln)), .int (nI (os)), .ref ot, .long (tp), .ref my, .ref co, .ref bd, .ref bk, .ref oh, .ref rd, .ref mk, .ref rw, .ref ss]))]) C (k_X5_noKey (gl g) E mm oc nx ia ms ot my co bd bk oh rd mk rw ss cd nk ln os tp k L F ) [0] rfl (by decide) 0 rfl rfl gi_X5_82 hd_X5_noKey ⟨Nat.le_of_ble_eq_true rfl, Nat.le_of_ble_eq_true rfl⟩ rfl rfl (Nat.le_of_ble_eq_true rfl) ⟨Nat.le_of_ble_eq_true rfl, Nat.le_of_ble_eq_true rfl⟩ dX5_check_2 (fun r9 cx9 L9 F9 hp9 hf9 hN9 => ?_)
  obtain ⟨rfl, rfl, rfl, rfl, -⟩ := hp9
  show G g muX5_check E A 0 0 Q [(mm, .inr (7, [.int (nI 0), .int (nI (nk)), .ref oc, .ref nx, .ref ia, .ref ms, .int (nI (ln)), .int (nI (os)), .ref ot, .long (tp), .ref my, .ref co, .ref bd, .ref bk, .ref oh, .ref rd, .ref mk, .ref rw, .ref ss])), (oc, aI E 272 (foc)), (rd, aI E 176 (frd)), (ss, aI E 256 (TB)), (bk, aI E 16 (fbk)), (oh, aI E 16 (foh))] L F 5 [(0, .ref mm), (1, .int (k))] [.int (b2 (kf nk k).isNone)]
  refine g_if_eq (tgt := 10) C dX5_check_5 (by decide) (fun c5 => ?_) (fun c5 => ?_)
  · skip
    obtain ⟨i, hkf⟩ := kf_ex (b2_f c5)
    obtain ⟨hi, hke⟩ := kf_key hkf hnk
    refine g_iconst (v := nI (0)) C dX5_check_10 (by decide) ?_
    refine g_istore_n (lv' := [(2, .int (nI (0))), (0, .ref mm), (1, .int (k))]) C dX5_check_11 rfl (by decide) rfl ?_
    have lp12 : ∀ (n12 : Nat) (n : Nat) (f1 : Nat → Int32), (n ≤ 16) → (pfx f1 (fun _ => nI 0) n) → 17 ≤ n + n12 → G g muX5_check E A 0 0 Q [(mm, .inr (7, [.int (nI 0), .int (nI (nk)), .ref oc, .ref nx, .ref ia, .ref ms, .int (nI (ln)), .int (nI (os)), .ref ot, .long (tp), .ref my, .ref co, .ref bd, .ref bk, .ref oh, .ref rd, .ref mk, .ref rw, .ref ss])), (oc, aI E 272 (foc)), (rd, aI E 176 (frd)), (ss, aI E 256 (TB)), (bk, aI E 16 (f1)), (oh, aI E 16 (foh))] L F 12 [(0, .ref mm), (1, .int (k)), (2, .int (nI (n)))] [] := by
      intro n12
      induction n12 with
      | zero => intro n f1 hn hf hfu12; exact absurd hfu12 (by omega)
      | succ n12 ih12 =>
        intro n f1 hn hf hfu12
        refine g_iload_n C dX5_check_12 rfl 2 rfl ?_
        refine g_bipush (v := nI (16)) C dX5_check_13 (by decide) ?_
        refine g_nicmp_ge (tgt := 31) C dX5_check_15 (by decide) (by omega) (by omega) (fun c15 => ?_) (fun c15 => ?_)
        · skip
          refine g_cgI (f' := fun _ => nI 0) (X' := [(mm, .inr (7, [.int (nI 0), .int (nI (nk)), .ref oc, .ref nx, .ref ia, .ref ms, .int (nI (ln)), .int (nI (os)), .ref ot, .long (tp), .ref my, .ref co, .ref bd, .ref bk, .ref oh, .ref rd, .ref mk, .ref rw, .ref ss])), (oc, aI E 272 (foc)), (rd, aI E 176 (frd)), (ss, aI E 256 (TB)), (bk, aI E 16 (fun _ => nI 0)), (oh, aI E 16 (foh))]) 4 rfl (fun j hj => hf j (by omega)) rfl ?_
          refine g_aload_n C dX5_check_31 rfl 0 rfl ?_
          refine g_bipush (v := nI (16)) C dX5_check_32 (by decide) ?_
          refine g_iload_n C dX5_check_34 rfl 1 rfl ?_
          refine g_asi (show (k) = (nI (i + 1)) from hke) ?_
          refine g_imul C dX5_check_35 ?_
          refine g_asi (pk_mul _ _) ?_
          refine g_callV (v := muX5_cipher) (cx := [(mm, .inr (7, [.int (nI 0), .int (nI (nk)), .ref oc, .ref nx, .ref ia, .ref ms, .int (nI (ln)), .int (nI (os)), .ref ot, .long (tp), .ref my, .ref co, .ref bd, .ref bk, .ref oh, .ref rd, .ref mk, .ref rw, .ref ss])), (oc, aI E 272 (foc)), (rd, aI E 176 (frd)), (ss, aI E 256 (TB)), (bk, aI E 16 (fun _ => nI 0)), (oh, aI E 16 (foh))]) C (k_X5_cipher (gl g) E mm oc nx ia ms ot my co bd bk oh rd mk rw ss (nI 0) nk ln os tp foc frd (fun _ => nI 0) foh (ko i) (16 * (i + 1)) L F (by omega) (fun j hj => ((hMK.1 i hi).1 j hj).1) (fun j hj => ((hMK.1 i hi).1 j hj).2) zero_O) [0, 1, 2, 3, 4, 5] rfl (by decide) 0 rfl rfl gi_X5_76 hd_X5_cipher ⟨Nat.le_of_ble_eq_true rfl, Nat.le_of_ble_eq_true rfl⟩ rfl rfl (Nat.le_of_ble_eq_true rfl) ⟨Nat.le_of_ble_eq_true rfl, Nat.le_of_ble_eq_true rfl⟩ dX5_check_36 (fun r9 cx9 L9 F9 hp9 hf9 hN9 => ?_)
          obtain ⟨fh1, rfl, rfl, rfl, rfl, -⟩ := hp9
          show G g muX5_check E A 0 0 Q [(mm, .inr (7, [.int (nI 0), .int (nI (nk)), .ref oc, .ref nx, .ref ia, .ref ms, .int (nI (ln)), .int (nI (os)), .ref ot, .long (tp), .ref my, .ref co, .ref bd, .ref bk, .ref oh, .ref rd, .ref mk, .ref rw, .ref ss])), (oc, aI E 272 (foc)), (rd, aI E 176 (rk (ko i))), (ss, aI E 256 (TB)), (bk, aI E 16 (ENC (ko i) (fun _ => nI 0))), (oh, aI E 16 (fh1))] L F 39 [(0, .ref mm), (1, .int (k)), (2, .int (nI (n)))] []
          refine g_aload_n C dX5_check_39 rfl 0 rfl ?_
          refine g_getX C 0 rfl rfl inX5 13 (by decide) m_433 rfl dX5_check_40 ?_
          refine g_iconst (v := nI (0)) C dX5_check_43 (by decide) ?_
          refine g_iald C 4 rfl (by omega) (by decide) dX5_check_44 ?_
          refine g_bipush (v := nI (24)) C dX5_check_45 (by decide) ?_
          refine g_ishl C dX5_check_47 ?_
          refine g_aload_n C dX5_check_48 rfl 0 rfl ?_
          refine g_getX C 0 rfl rfl inX5 13 (by decide) m_433 rfl dX5_check_49 ?_
          refine g_iconst (v := nI (1)) C dX5_check_52 (by decide) ?_
          refine g_iald C 4 rfl (by omega) (by decide) dX5_check_53 ?_
          refine g_bipush (v := nI (16)) C dX5_check_54 (by decide) ?_
          refine g_ishl C dX5_check_56 ?_
          refine g_ior C dX5_check_57 ?_
          refine g_aload_n C dX5_check_58 rfl 0 rfl ?_
          refine g_getX C 0 rfl rfl inX5 13 (by decide) m_433 rfl dX5_check_59 ?_
          refine g_iconst (v := nI (2)) C dX5_check_62 (by decide) ?_
          refine g_iald C 4 rfl (by omega) (by decide) dX5_check_63 ?_
          refine g_bipush (v := nI (8)) C dX5_check_64 (by decide) ?_
          refine g_ishl C dX5_check_66 ?_
          refine g_ior C dX5_check_67 ?_
          refine g_aload_n C dX5_check_68 rfl 0 rfl ?_
          refine g_getX C 0 rfl rfl inX5 13 (by decide) m_433 rfl dX5_check_69 ?_
          refine g_iconst (v := nI (3)) C dX5_check_72 (by decide) ?_
          refine g_iald C 4 rfl (by omega) (by decide) dX5_check_73 ?_
          refine g_ior C dX5_check_74 ?_
          refine g_asi (show ((((((ENC (ko i) (fun _ => nI 0)) 0) <<< ((nI (24)) &&& 31)) ||| (((ENC (ko i) (fun _ => nI 0)) 1) <<< ((nI (16)) &&& 31))) ||| (((ENC (ko i) (fun _ => nI 0)) 2) <<< ((nI (8)) &&& 31))) ||| ((ENC (ko i) (fun _ => nI 0)) 3)) = (ckS nk ko k) from (by unfold ckS; rw [hkf]; rfl)) ?_
          exact g_iret C r rfl ⟨rk (ko i), ENC (ko i) (fun _ => nI 0), fh1, rfl, rfl, rfl, rfl, trivial⟩ rfl nN dX5_check_75
        · skip
          refine g_aload_n C dX5_check_18 rfl 0 rfl ?_
          refine g_getX C 0 rfl rfl inX5 13 (by decide) m_433 rfl dX5_check_19 ?_
          refine g_iload_n C dX5_check_22 rfl 2 rfl ?_
          refine g_iconst (v := nI (0)) C dX5_check_23 (by decide) ?_
          refine g_iast (X' := [(mm, .inr (7, [.int (nI 0), .int (nI (nk)), .ref oc, .ref nx, .ref ia, .ref ms, .int (nI (ln)), .int (nI (os)), .ref ot, .long (tp), .ref my, .ref co, .ref bd, .ref bk, .ref oh, .ref rd, .ref mk, .ref rw, .ref ss])), (oc, aI E 272 (foc)), (rd, aI E 176 (frd)), (ss, aI E 256 (TB)), (bk, aI E 16 (upd f1 n (nI (0)))), (oh, aI E 16 (foh))]) C 4 rfl (by omega) (by decide) rfl dX5_check_24 ?_
          refine g_iinc (v := nI (n + 1)) (lv' := [(2, .int (nI (n + 1))), (0, .ref mm), (1, .int (k))]) C dX5_check_25 2 rfl (nI_inc _ 1) (by decide) rfl ?_
          refine g_goto (tgt := 12) C dX5_check_28 (by decide) ?_
          refine g_lv [1, 2, 0] rfl ?_
          exact ih12 (n + 1) (upd f1 n (nI (0))) (by omega) (pfS hf rfl) (by omega)
    refine g_lv [1, 2, 0] rfl ?_
    exact lp12 17 0 fbk (Nat.zero_le _) pf0 (by omega)
  · skip
    have hkf := kf_no (b2_t c5)
    refine g_iconst (v := nI (0)) C dX5_check_8 (by decide) ?_
    refine g_asi (show (nI (0)) = (ckS nk ko k) from (by unfold ckS; rw [hkf])) ?_
    exact g_iret C r rfl ⟨frd, fbk, foh, rfl, rfl, rfl, rfl, trivial⟩ rfl nN dX5_check_9
abbrev muX5_encipher : Mu := (cX5_encipher, 3, RX5, (some .int), "encipher", 3, 0, 0, 75)
theorem hd_X5_encipher : yX5_encipher.cls = RX5 ∧ yX5_encipher.cls ≠ "java/lang/invoke/MethodHandle" ∧ yX5_encipher.cls ≠ "java/lang/invoke/VarHandle" ∧ (parseMethodDescriptor yX5_encipher.desc).map (fun d => d.parameters.length) = some 1 := by decide +kernel
set_option maxHeartbeats 4000000 in
set_option maxRecDepth 100000 in
theorem k_X5_encipher (l : Launch) (E : Ev) (mm oc nx ia ms ot my co bd bk oh rd mk rw ss : Nat) (cd : Int32) (nk ln os : Nat) (tp : Int64) (foc fnx frd fbk foh msg fot ov : Nat → Int32) (fis : Nat → Int64) (ko : Nat → Nat → Int32) (kn : Nat → Nat) (kc : Nat → Int64) (k : Int32) (L : List Nat) (F : Nat → va_E) (hnk : nk ≤ 16) (hMK : MK foc fnx fis nk ko kn kc) (hmsg : ∀ j, j < 300 → isO (msg j)) (hml : ln ≤ 300) (hos : os ≤ 16) (hot : ∀ j, j < os → fot j = ov j) : KC l E yX5_encipher muX5_encipher [.ref mm, .int (k)] [(mm, .inr (7, [.int (cd), .int (nI (nk)), .ref oc, .ref nx, .ref ia, .ref ms, .int (nI (ln)), .int (nI (os)), .ref ot, .long (tp), .ref my, .ref co, .ref bd, .ref bk, .ref oh, .ref rd, .ref mk, .ref rw, .ref ss])), (oc, aI E 272 (foc)), (rd, aI E 176 (frd)), (ss, aI E 256 (TB)), (bk, aI E 16 (fbk)), (oh, aI E 16 (foh)), (ms, aI E 300 (msg)), (ot, aI E 16 (fot))] L F (fun r8 cx8 L8 F8 => ∃ (ml1 on1 : Nat) (frd1 fbk1 foh1 fot1 : Nat → Int32), r8 = some (.int ((ecS nk ko ln msg os ov k).1)) ∧ cx8 = [(mm, .inr (7, [.int (nI 0), .int (nI (nk)), .ref oc, .ref nx, .ref ia, .ref ms, .int (nI (ml1)), .int (nI (on1)), .ref ot, .long (tp), .ref my, .ref co, .ref bd, .ref bk, .ref oh, .ref rd, .ref mk, .ref rw, .ref ss])), (oc, aI E 272 (foc)), (rd, aI E 176 (frd1)), (ss, aI E 256 (TB)), (bk, aI E 16 (fbk1)), (oh, aI E 16 (foh1)), (ms, aI E 300 (msg)), (ot, aI E 16 (fot1))] ∧ L = L8 ∧ F = F8 ∧ (ml1 = (ecS nk ko ln msg os ov k).2.1 ∧ on1 = (ecS nk ko ln msg os ov k).2.2.1 ∧ ∀ j, j < on1 → fot1 j = (ecS nk ko ln msg os ov k).2.2.2 j)) := by
  refine K_start (by decide) rfl rfl (Nat.le_of_ble_eq_true rfl) (fun g A Q hgl C r => ?_)
  subst hgl
  show G g muX5_encipher E A 0 0 Q [(mm, .inr (7, [.int (cd), .int (nI (nk)), .ref oc, .ref nx, .ref ia, .ref ms, .int (nI (ln)), .int (nI (os)), .ref ot, .long (tp), .ref my, .ref co, .ref bd, .ref bk, .ref oh, .ref rd, .ref mk, .ref rw, .ref ss])), (oc, aI E 272 (foc)), (rd, aI E 176 (frd)), (ss, aI E 256 (TB)), (bk, aI E 16 (fbk)), (oh, aI E 16 (foh)), (ms, aI E 300 (msg)), (ot, aI E 16 (fot))] L F 0 [(0, .ref mm), (1, .int (k))] []
  refine g_aload_n C dX5_encipher_0 rfl 0 rfl ?_
  refine g_iload_n C dX5_encipher_1 rfl 1 rfl ?_
  refine g_callV (v := muX5_noKey) (cx := [(mm, .inr (7, [.int (cd), .int (nI (nk)), .ref oc, .ref nx, .ref ia, .ref ms, .int (nI (ln)), .int (nI (os)), .ref ot, .long (tp), .ref my, .ref co, .ref bd, .ref bk, .ref oh, .ref rd, .ref mk, .ref rw, .ref ss]))]) C (k_X5_noKey (gl g) E mm oc nx ia ms ot my co bd bk oh rd mk rw ss cd nk ln os tp k L F ) [0] rfl (by decide) 0 rfl rfl gi_X5_82 hd_X5_noKey ⟨Nat.le_of_ble_eq_true rfl, Nat.le_of_ble_eq_true rfl⟩ rfl rfl (Nat.le_of_ble_eq_true rfl) ⟨Nat.le_of_ble_eq_true rfl, Nat.le_of_ble_eq_true rfl⟩ dX5_encipher_2 (fun r9 cx9 L9 F9 hp9 hf9 hN9 => ?_)
  obtain ⟨rfl, rfl, rfl, rfl, -⟩ := hp9
  show G g muX5_encipher E A 0 0 Q [(mm, .inr (7, [.int (nI 0), .int (nI (nk)), .ref oc, .ref nx, .ref ia, .ref ms, .int (nI (ln)), .int (nI (os)), .ref ot, .long (tp), .ref my, .ref co, .ref bd, .ref bk, .ref oh, .ref rd, .ref mk, .ref rw, .ref ss])), (oc, aI E 272 (foc)), (rd, aI E 176 (frd)), (ss, aI E 256 (TB)), (bk, aI E 16 (fbk)), (oh, aI E 16 (foh)), (ms, aI E 300 (msg)), (ot, aI E 16 (fot))] L F 5 [(0, .ref mm), (1, .int (k))] [.int (b2 (kf nk k).isNone)]
  refine g_if_eq (tgt := 10) C dX5_encipher_5 (by decide) (fun c5 => ?_) (fun c5 => ?_)
  · skip
    obtain ⟨i, hkf⟩ := kf_ex (b2_f c5)
    obtain ⟨hi, hke⟩ := kf_key hkf hnk
    refine g_aload_n C dX5_encipher_10 rfl 0 rfl ?_
    refine g_getX C 0 rfl rfl inX5 6 (by decide) m_426 rfl dX5_encipher_11 ?_
    refine g_bipush (v := nI (16)) C dX5_encipher_14 (by decide) ?_
    refine g_nicmp_eq (tgt := 22) C dX5_encipher_16 (by decide) (by omega) (by omega) (fun c16 => ?_) (fun c16 => ?_)
    · skip
      refine g_iconst (v := nI (0)) C dX5_encipher_22 (by decide) ?_
      refine g_istore_n (lv' := [(2, .int (nI (0))), (0, .ref mm), (1, .int (k))]) C dX5_encipher_23 rfl (by decide) rfl ?_
      have lp24 : ∀ (n24 : Nat) (n : Nat) (f1 : Nat → Int32), (n ≤ 16) → (pfx f1 msg n) → 17 ≤ n + n24 → G g muX5_encipher E A 0 0 Q [(mm, .inr (7, [.int (nI 0), .int (nI (nk)), .ref oc, .ref nx, .ref ia, .ref ms, .int (nI (ln)), .int (nI (os)), .ref ot, .long (tp), .ref my, .ref co, .ref bd, .ref bk, .ref oh, .ref rd, .ref mk, .ref rw, .ref ss])), (oc, aI E 272 (foc)), (rd, aI E 176 (frd)), (ss, aI E 256 (TB)), (bk, aI E 16 (f1)), (oh, aI E 16 (foh)), (ms, aI E 300 (msg)), (ot, aI E 16 (fot))] L F 24 [(0, .ref mm), (1, .int (k)), (2, .int (nI (n)))] [] := by
        intro n24
        induction n24 with
        | zero => intro n f1 hn hf hfu24; exact absurd hfu24 (by omega)
        | succ n24 ih24 =>
          intro n f1 hn hf hfu24
          refine g_iload_n C dX5_encipher_24 rfl 2 rfl ?_
          refine g_bipush (v := nI (16)) C dX5_encipher_25 (by decide) ?_
          refine g_nicmp_ge (tgt := 48) C dX5_encipher_27 (by decide) (by omega) (by omega) (fun c27 => ?_) (fun c27 => ?_)
          · skip
            refine g_cgI (f' := msg) (X' := [(mm, .inr (7, [.int (nI 0), .int (nI (nk)), .ref oc, .ref nx, .ref ia, .ref ms, .int (nI (ln)), .int (nI (os)), .ref ot, .long (tp), .ref my, .ref co, .ref bd, .ref bk, .ref oh, .ref rd, .ref mk, .ref rw, .ref ss])), (oc, aI E 272 (foc)), (rd, aI E 176 (frd)), (ss, aI E 256 (TB)), (bk, aI E 16 (msg)), (oh, aI E 16 (foh)), (ms, aI E 300 (msg)), (ot, aI E 16 (fot))]) 4 rfl (fun j hj => hf j (by omega)) rfl ?_
            refine g_aload_n C dX5_encipher_48 rfl 0 rfl ?_
            refine g_bipush (v := nI (16)) C dX5_encipher_49 (by decide) ?_
            refine g_iload_n C dX5_encipher_51 rfl 1 rfl ?_
            refine g_asi (show (k) = (nI (i + 1)) from hke) ?_
            refine g_imul C dX5_encipher_52 ?_
            refine g_asi (pk_mul _ _) ?_
            refine g_callV (v := muX5_cipher) (cx := [(mm, .inr (7, [.int (nI 0), .int (nI (nk)), .ref oc, .ref nx, .ref ia, .ref ms, .int (nI (ln)), .int (nI (os)), .ref ot, .long (tp), .ref my, .ref co, .ref bd, .ref bk, .ref oh, .ref rd, .ref mk, .ref rw, .ref ss])), (oc, aI E 272 (foc)), (rd, aI E 176 (frd)), (ss, aI E 256 (TB)), (bk, aI E 16 (msg)), (oh, aI E 16 (foh))]) C (k_X5_cipher (gl g) E mm oc nx ia ms ot my co bd bk oh rd mk rw ss (nI 0) nk ln os tp foc frd msg foh (ko i) (16 * (i + 1)) L F (by omega) (fun j hj => ((hMK.1 i hi).1 j hj).1) (fun j hj => ((hMK.1 i hi).1 j hj).2) (fun j hj => hmsg j (by omega))) [0, 1, 2, 3, 4, 5] rfl (by decide) 0 rfl rfl gi_X5_76 hd_X5_cipher ⟨Nat.le_of_ble_eq_true rfl, Nat.le_of_ble_eq_true rfl⟩ rfl rfl (Nat.le_of_ble_eq_true rfl) ⟨Nat.le_of_ble_eq_true rfl, Nat.le_of_ble_eq_true rfl⟩ dX5_encipher_53 (fun r9 cx9 L9 F9 hp9 hf9 hN9 => ?_)
            obtain ⟨fh1, rfl, rfl, rfl, rfl, -⟩ := hp9
            show G g muX5_encipher E A 0 0 Q [(mm, .inr (7, [.int (nI 0), .int (nI (nk)), .ref oc, .ref nx, .ref ia, .ref ms, .int (nI (ln)), .int (nI (os)), .ref ot, .long (tp), .ref my, .ref co, .ref bd, .ref bk, .ref oh, .ref rd, .ref mk, .ref rw, .ref ss])), (oc, aI E 272 (foc)), (rd, aI E 176 (rk (ko i))), (ss, aI E 256 (TB)), (bk, aI E 16 (ENC (ko i) msg)), (oh, aI E 16 (fh1)), (ms, aI E 300 (msg)), (ot, aI E 16 (fot))] L F 56 [(0, .ref mm), (1, .int (k)), (2, .int (nI (n)))] []
            refine g_aload_n C dX5_encipher_56 rfl 0 rfl ?_
            refine g_bipush (v := nI (16)) C dX5_encipher_57 (by decide) ?_
            refine g_callV (v := muX5_tell) (cx := [(mm, .inr (7, [.int (nI 0), .int (nI (nk)), .ref oc, .ref nx, .ref ia, .ref ms, .int (nI (ln)), .int (nI (os)), .ref ot, .long (tp), .ref my, .ref co, .ref bd, .ref bk, .ref oh, .ref rd, .ref mk, .ref rw, .ref ss])), (ot, aI E 16 (fot)), (bk, aI E 16 (ENC (ko i) msg))]) C (k_X5_tell (gl g) E mm oc nx ia ms ot my co bd bk oh rd mk rw ss (nI 0) nk ln os tp fot (ENC (ko i) msg) 16 L F (Nat.le_refl _)) [0, 7, 4] rfl (by decide) 0 rfl rfl gi_X5_96 hd_X5_tell ⟨Nat.le_of_ble_eq_true rfl, Nat.le_of_ble_eq_true rfl⟩ rfl rfl (Nat.le_of_ble_eq_true rfl) ⟨Nat.le_of_ble_eq_true rfl, Nat.le_of_ble_eq_true rfl⟩ dX5_encipher_59 (fun r9 cx9 L9 F9 hp9 hf9 hN9 => ?_)
            obtain ⟨ft1, rfl, rfl, rfl, rfl, hft⟩ := hp9
            show G g muX5_encipher E A 0 0 Q [(mm, .inr (7, [.int (nI 0), .int (nI (nk)), .ref oc, .ref nx, .ref ia, .ref ms, .int (nI (0)), .int (nI (16)), .ref ot, .long (tp), .ref my, .ref co, .ref bd, .ref bk, .ref oh, .ref rd, .ref mk, .ref rw, .ref ss])), (oc, aI E 272 (foc)), (rd, aI E 176 (rk (ko i))), (ss, aI E 256 (TB)), (bk, aI E 16 (ENC (ko i) msg)), (oh, aI E 16 (fh1)), (ms, aI E 300 (msg)), (ot, aI E 16 (ft1))] L F 62 [(0, .ref mm), (1, .int (k)), (2, .int (nI (n)))] [.int (nI (16))]
            refine g_asi (show (nI (16)) = ((ecS nk ko ln msg os ov k).1) from (by unfold ecS; simp only [hkf, if_pos c16])) ?_
            exact g_iret C r rfl ⟨0, 16, rk (ko i), ENC (ko i) msg, fh1, ft1, rfl, rfl, rfl, rfl, by unfold ecS; simp only [hkf, if_pos c16]; exact ⟨trivial, trivial, fun j hj => (hft j hj).trans (ans_lo (Nat.le_refl _) (by omega) (ENC_O (fun q hq => ((hMK.1 i hi).1 q hq).2) (fun q hq => hmsg q (by omega)) j hj)).symm⟩⟩ rfl nN dX5_encipher_62
          · skip
            refine g_aload_n C dX5_encipher_30 rfl 0 rfl ?_
            refine g_getX C 0 rfl rfl inX5 13 (by decide) m_433 rfl dX5_encipher_31 ?_
            refine g_iload_n C dX5_encipher_34 rfl 2 rfl ?_
            refine g_aload_n C dX5_encipher_35 rfl 0 rfl ?_
            refine g_getX C 0 rfl rfl inX5 5 (by decide) m_425 rfl dX5_encipher_36 ?_
            refine g_iload_n C dX5_encipher_39 rfl 2 rfl ?_
            refine g_iald C 6 rfl (by omega) (by decide) dX5_encipher_40 ?_
            refine g_iast (X' := [(mm, .inr (7, [.int (nI 0), .int (nI (nk)), .ref oc, .ref nx, .ref ia, .ref ms, .int (nI (ln)), .int (nI (os)), .ref ot, .long (tp), .ref my, .ref co, .ref bd, .ref bk, .ref oh, .ref rd, .ref mk, .ref rw, .ref ss])), (oc, aI E 272 (foc)), (rd, aI E 176 (frd)), (ss, aI E 256 (TB)), (bk, aI E 16 (upd f1 n (msg n))), (oh, aI E 16 (foh)), (ms, aI E 300 (msg)), (ot, aI E 16 (fot))]) C 4 rfl (by omega) (by decide) rfl dX5_encipher_41 ?_
            refine g_iinc (v := nI (n + 1)) (lv' := [(2, .int (nI (n + 1))), (0, .ref mm), (1, .int (k))]) C dX5_encipher_42 2 rfl (nI_inc _ 1) (by decide) rfl ?_
            refine g_goto (tgt := 24) C dX5_encipher_45 (by decide) ?_
            refine g_lv [1, 2, 0] rfl ?_
            exact ih24 (n + 1) (upd f1 n (msg n)) (by omega) (pfS hf rfl) (by omega)
      refine g_lv [1, 2, 0] rfl ?_
      exact lp24 17 0 fbk (Nat.zero_le _) pf0 (by omega)
    · skip
      refine g_bipush (v := (-3 : Int32)) C dX5_encipher_19 (by decide) ?_
      refine g_asi (show (-3) = ((ecS nk ko ln msg os ov k).1) from (by unfold ecS; simp only [hkf, if_neg c16])) ?_
      exact g_iret C r rfl ⟨ln, os, frd, fbk, foh, fot, rfl, rfl, rfl, rfl, by unfold ecS; simp only [hkf, if_neg c16]; exact ⟨trivial, trivial, hot⟩⟩ rfl nN dX5_encipher_21
  · skip
    have hkf := kf_no (b2_t c5)
    refine g_iconst (v := (-1 : Int32)) C dX5_encipher_8 (by decide) ?_
    refine g_asi (show (-1) = ((ecS nk ko ln msg os ov k).1) from (by unfold ecS; simp only [hkf])) ?_
    exact g_iret C r rfl ⟨ln, os, frd, fbk, foh, fot, rfl, rfl, rfl, rfl, by unfold ecS; simp only [hkf]; exact ⟨trivial, trivial, hot⟩⟩ rfl nN dX5_encipher_9
abbrev muX5_noSender : Mu := (cX5_noSender, 1, RX5, (some .boolean), "noSender", 0, 0, 0, 0)
theorem hd_X5_noSender : yX5_noSender.cls = RX5 ∧ yX5_noSender.cls ≠ "java/lang/invoke/MethodHandle" ∧ yX5_noSender.cls ≠ "java/lang/invoke/VarHandle" ∧ (parseMethodDescriptor yX5_noSender.desc).map (fun d => d.parameters.length) = some 1 := by decide +kernel
set_option maxHeartbeats 4000000 in
set_option maxRecDepth 100000 in
theorem k_X5_noSender (l : Launch) (E : Ev) (id : Int32) (L : List Nat) (F : Nat → va_E)  : KC l E yX5_noSender muX5_noSender [.int (id)] [] L F (fun r8 cx8 L8 F8 => r8 = some (.int (b2 (kf 64 id).isNone)) ∧ cx8 = [] ∧ L = L8 ∧ F = F8 ∧ (True)) := by
  refine K_start (by decide) rfl rfl (Nat.le_of_ble_eq_true rfl) (fun g A Q hgl C r => ?_)
  subst hgl
  show G g muX5_noSender E A 0 0 Q [] L F 0 [(0, .int (id))] []
  refine g_iload_n C dX5_noSender_0 rfl 0 rfl ?_
  refine g_iconst (v := nI (1)) C dX5_noSender_1 (by decide) ?_
  refine g_icmp_lt (tgt := 11) C dX5_noSender_2 (by decide) (fun c2 => ?_) (fun c2 => ?_)
  · skip
    refine g_iconst (v := nI (1)) C dX5_noSender_11 (by decide) ?_
    refine g_asi (show (nI (1)) = (b2 (kf 64 id).isNone) from (by unfold kf; rw [if_pos c2]; rfl)) ?_
    refine g_goto (tgt := 16) C dX5_noSender_12 (by decide) ?_
    exact g_zret C r rfl (b2_nar _) ⟨rfl, rfl, rfl, rfl, trivial⟩ rfl nN dX5_noSender_16
  · skip
    refine g_iload_n C dX5_noSender_5 rfl 0 rfl ?_
    refine g_bipush (v := nI (64)) C dX5_noSender_6 (by decide) ?_
    refine g_icmp_le (tgt := 15) C dX5_noSender_8 (by decide) (fun c8 => ?_) (fun c8 => ?_)
    · skip
      refine g_iconst (v := nI (0)) C dX5_noSender_15 (by decide) ?_
      refine g_asi (show (nI (0)) = (b2 (kf 64 id).isNone) from (by rw [kf_n1 c2 c8]; rfl)) ?_
      exact g_zret C r rfl (b2_nar _) ⟨rfl, rfl, rfl, rfl, trivial⟩ rfl nN dX5_noSender_16
    · skip
      refine g_iconst (v := nI (1)) C dX5_noSender_11 (by decide) ?_
      refine g_asi (show (nI (1)) = (b2 (kf 64 id).isNone) from (by rw [kf_n2 c2 c8]; rfl)) ?_
      refine g_goto (tgt := 16) C dX5_noSender_12 (by decide) ?_
      exact g_zret C r rfl (b2_nar _) ⟨rfl, rfl, rfl, rfl, trivial⟩ rfl nN dX5_noSender_16
abbrev muX5_fresh : Mu := (cX5_fresh, 5, RX5, (some .int), "fresh", 1, 0, 0, 20)
theorem hd_X5_fresh : yX5_fresh.cls = RX5 ∧ yX5_fresh.cls ≠ "java/lang/invoke/MethodHandle" ∧ yX5_fresh.cls ≠ "java/lang/invoke/VarHandle" ∧ (parseMethodDescriptor yX5_fresh.desc).map (fun d => d.parameters.length) = some 2 := by decide +kernel
set_option maxHeartbeats 4000000 in
set_option maxRecDepth 100000 in
theorem k_X5_fresh (l : Launch) (E : Ev) (mm oc nx ia ms ot my co bd bk oh rd mk rw ss : Nat) (cd : Int32) (nk ln os : Nat) (tp : Int64) (fco : Nat → Int64) (fbd fmy : Nat → Int32) (sc : Nat → Int64) (sb : Nat → Nat) (sl : Nat → Int32) (id : Int32) (c : Int64) (L : List Nat) (F : Nat → va_E) (hMS : MS fco fbd fmy sc sb sl) : KC l E yX5_fresh muX5_fresh [.ref mm, .int (id), .long (c)] [(mm, .inr (7, [.int (cd), .int (nI (nk)), .ref oc, .ref nx, .ref ia, .ref ms, .int (nI (ln)), .int (nI (os)), .ref ot, .long (tp), .ref my, .ref co, .ref bd, .ref bk, .ref oh, .ref rd, .ref mk, .ref rw, .ref ss])), (co, aJ E 65 (fco))] L F (fun r8 cx8 L8 F8 => ∃ (fco1 : Nat → Int64), r8 = some (.int ((frS sc id c).1)) ∧ cx8 = [(mm, .inr (7, [.int (nI 0), .int (nI (nk)), .ref oc, .ref nx, .ref ia, .ref ms, .int (nI (ln)), .int (nI (os)), .ref ot, .long (tp), .ref my, .ref co, .ref bd, .ref bk, .ref oh, .ref rd, .ref mk, .ref rw, .ref ss])), (co, aJ E 65 (fco1))] ∧ L = L8 ∧ F = F8 ∧ (MS fco1 fbd fmy (frS sc id c).2 sb sl)) := by
  refine K_start (by decide) rfl rfl (Nat.le_of_ble_eq_true rfl) (fun g A Q hgl C r => ?_)
  subst hgl
  show G g muX5_fresh E A 0 0 Q [(mm, .inr (7, [.int (cd), .int (nI (nk)), .ref oc, .ref nx, .ref ia, .ref ms, .int (nI (ln)), .int (nI (os)), .ref ot, .long (tp), .ref my, .ref co, .ref bd, .ref bk, .ref oh, .ref rd, .ref mk, .ref rw, .ref ss])), (co, aJ E 65 (fco))] L F 0 [(0, .ref mm), (1, .int (id)), (2, .long (c))] []
  refine g_aload_n C dX5_fresh_0 rfl 0 rfl ?_
  refine g_iconst (v := nI (0)) C dX5_fresh_1 (by decide) ?_
  refine g_putX (X' := [(mm, .inr (7, [.int (nI (0)), .int (nI (nk)), .ref oc, .ref nx, .ref ia, .ref ms, .int (nI (ln)), .int (nI (os)), .ref ot, .long (tp), .ref my, .ref co, .ref bd, .ref bk, .ref oh, .ref rd, .ref mk, .ref rw, .ref ss])), (co, aJ E 65 (fco))]) C 0 rfl rfl inX5 tyX5 tyX5_ok nmX5 0 (by decide) m_420 rfl rfl rfl (Nat.le_of_ble_eq_true rfl) rfl dX5_fresh_2 ?_
  refine g_iload_n C dX5_fresh_5 rfl 1 rfl ?_
  refine g_callS (v := muX5_noSender) (cx := []) C (k_X5_noSender (gl g) E id L F ) [] rfl (by decide) gi_X5_99 hd_X5_noSender.2 ⟨Nat.le_of_ble_eq_true rfl, Nat.le_of_ble_eq_true rfl⟩ rfl rfl (Nat.le_of_ble_eq_true rfl) ⟨Nat.le_of_ble_eq_true rfl, Nat.le_of_ble_eq_true rfl⟩ dX5_fresh_6 (fun r9 cx9 L9 F9 hp9 hf9 hN9 => ?_)
  obtain ⟨rfl, rfl, rfl, rfl, -⟩ := hp9
  show G g muX5_fresh E A 0 0 Q [(mm, .inr (7, [.int (nI (0)), .int (nI (nk)), .ref oc, .ref nx, .ref ia, .ref ms, .int (nI (ln)), .int (nI (os)), .ref ot, .long (tp), .ref my, .ref co, .ref bd, .ref bk, .ref oh, .ref rd, .ref mk, .ref rw, .ref ss])), (co, aJ E 65 (fco))] L F 9 [(0, .ref mm), (1, .int (id)), (2, .long (c))] [.int (b2 (kf 64 id).isNone)]
  refine g_if_eq (tgt := 14) C dX5_fresh_9 (by decide) (fun c9 => ?_) (fun c9 => ?_)
  · skip
    obtain ⟨j, hsf⟩ := kf_ex (b2_f c9)
    obtain ⟨hj, hje⟩ := kf_some (by omega) hsf
    refine g_lload_n C dX5_fresh_14 rfl 2 rfl ?_
    refine g_lconst (v := 0) C dX5_fresh_15 (by decide) ?_
    refine g_lcmp C dX5_fresh_16 ?_
    refine g_if_lt (tgt := 28) C dX5_fresh_17 (by decide) (fun c17 => ?_) (fun c17 => ?_)
    · skip
      rw [lg_cmp_lt] at c17
      refine g_bipush (v := (-2 : Int32)) C dX5_fresh_28 (by decide) ?_
      refine g_asi (show (-2) = ((frS sc id c).1) from (by unfold frS; simp only [hsf, if_pos c17])) ?_
      exact g_iret C r rfl ⟨fco, rfl, rfl, rfl, rfl, by unfold frS; simp only [hsf, if_pos c17]; exact hMS⟩ rfl nN dX5_fresh_30
    · skip
      rw [lg_cmp_lt] at c17
      refine g_lload_n C dX5_fresh_20 rfl 2 rfl ?_
      refine g_ldc2_w C m_547 dX5_fresh_21 ?_
      refine g_lcmp C dX5_fresh_24 ?_
      refine g_if_le (tgt := 31) C dX5_fresh_25 (by decide) (fun c25 => ?_) (fun c25 => ?_)
      · skip
        rw [lg_cmp_le] at c25
        refine g_lload_n C dX5_fresh_31 rfl 2 rfl ?_
        refine g_aload_n C dX5_fresh_32 rfl 0 rfl ?_
        refine g_getX C 0 rfl rfl inX5 11 (by decide) m_431 rfl dX5_fresh_33 ?_
        refine g_iload_n C dX5_fresh_36 rfl 1 rfl ?_
        refine g_asi (show (id) = (nI (j + 1)) from hje) ?_
        refine g_lald C 1 rfl (by omega) (by decide) dX5_fresh_37 ?_
        refine g_asl (show (fco (j + 1)) = (sc j) from (hMS j hj).1) ?_
        refine g_lcmp C dX5_fresh_38 ?_
        refine g_if_le (tgt := 46) C dX5_fresh_39 (by decide) (fun c39 => ?_) (fun c39 => ?_)
        · skip
          rw [lg_cmp_le] at c39
          refine g_iconst (v := nI (0)) C dX5_fresh_46 (by decide) ?_
          refine g_istore (lv' := [(4, .int (nI (0))), (0, .ref mm), (1, .int (id)), (2, .long (c))]) C dX5_fresh_47 (by decide) rfl ?_
          refine g_aload_n C dX5_fresh_49 rfl 1 rfl ?_
          refine g_getX C 0 rfl rfl inX5 11 (by decide) m_431 rfl dX5_fresh_50 ?_
          refine g_iload_n C dX5_fresh_53 rfl 2 rfl ?_
          refine g_asi (show (id) = (nI (j + 1)) from hje) ?_
          refine g_iload C dX5_fresh_54 0 rfl ?_
          refine g_nif_eq (tgt := 63) C dX5_fresh_56 (by decide) (by omega) (fun c56 => ?_) (fun c56 => ?_)
          · skip
            refine g_aload_n C dX5_fresh_63 rfl 1 rfl ?_
            refine g_getX C 0 rfl rfl inX5 11 (by decide) m_431 rfl dX5_fresh_64 ?_
            refine g_iload_n C dX5_fresh_67 rfl 2 rfl ?_
            refine g_asi (show (id) = (nI (j + 1)) from hje) ?_
            refine g_lald C 1 rfl (by omega) (by decide) dX5_fresh_68 ?_
            refine g_asl (show (fco (j + 1)) = (sc j) from (hMS j hj).1) ?_
            refine g_last (X' := [(mm, .inr (7, [.int (nI (0)), .int (nI (nk)), .ref oc, .ref nx, .ref ia, .ref ms, .int (nI (ln)), .int (nI (os)), .ref ot, .long (tp), .ref my, .ref co, .ref bd, .ref bk, .ref oh, .ref rd, .ref mk, .ref rw, .ref ss])), (co, aJ E 65 (vp_updL fco (j + 1) (sc j)))]) C 1 rfl (by omega) (by decide) rfl dX5_fresh_69 ?_
            refine g_iload C dX5_fresh_70 0 rfl ?_
            refine g_nif_eq (tgt := 79) C dX5_fresh_72 (by decide) (by omega) (fun c72 => ?_) (fun c72 => ?_)
            · skip
              refine g_iconst (v := nI (0)) C dX5_fresh_79 (by decide) ?_
              refine g_asi (show (nI (0)) = ((frS sc id c).1) from (by unfold frS; simp only [hsf, if_neg c17, if_pos c25, if_neg (l_nlt c39)])) ?_
              exact g_iret C r rfl ⟨vp_updL fco (j + 1) (sc j), rfl, rfl, rfl, rfl, by unfold frS; simp only [hsf, if_neg c17, if_pos c25, if_neg (l_nlt c39)]; have h9 := MS_c hMS (j := j) (sc j); rw [va_up_id] at h9; exact h9⟩ rfl nN dX5_fresh_80
            · skip
              exact absurd rfl c72
          · skip
            exact absurd rfl c56
        · skip
          rw [lg_cmp_le] at c39
          refine g_iconst (v := nI (1)) C dX5_fresh_42 (by decide) ?_
          refine g_goto (tgt := 47) C dX5_fresh_43 (by decide) ?_
          refine g_istore (lv' := [(4, .int (nI (1))), (0, .ref mm), (1, .int (id)), (2, .long (c))]) C dX5_fresh_47 (by decide) rfl ?_
          refine g_aload_n C dX5_fresh_49 rfl 1 rfl ?_
          refine g_getX C 0 rfl rfl inX5 11 (by decide) m_431 rfl dX5_fresh_50 ?_
          refine g_iload_n C dX5_fresh_53 rfl 2 rfl ?_
          refine g_asi (show (id) = (nI (j + 1)) from hje) ?_
          refine g_iload C dX5_fresh_54 0 rfl ?_
          refine g_nif_eq (tgt := 63) C dX5_fresh_56 (by decide) (by omega) (fun c56 => ?_) (fun c56 => ?_)
          · skip
            exact absurd c56 (by omega)
          · skip
            refine g_lload_n C dX5_fresh_59 rfl 3 rfl ?_
            refine g_goto (tgt := 69) C dX5_fresh_60 (by decide) ?_
            refine g_last (X' := [(mm, .inr (7, [.int (nI (0)), .int (nI (nk)), .ref oc, .ref nx, .ref ia, .ref ms, .int (nI (ln)), .int (nI (os)), .ref ot, .long (tp), .ref my, .ref co, .ref bd, .ref bk, .ref oh, .ref rd, .ref mk, .ref rw, .ref ss])), (co, aJ E 65 (vp_updL fco (j + 1) c))]) C 1 rfl (by omega) (by decide) rfl dX5_fresh_69 ?_
            refine g_iload C dX5_fresh_70 0 rfl ?_
            refine g_nif_eq (tgt := 79) C dX5_fresh_72 (by decide) (by omega) (fun c72 => ?_) (fun c72 => ?_)
            · skip
              exact absurd c72 (by omega)
            · skip
              refine g_iconst (v := nI (1)) C dX5_fresh_75 (by decide) ?_
              refine g_asi (show (nI (1)) = ((frS sc id c).1) from (by unfold frS; simp only [hsf, if_neg c17, if_pos c25, if_pos (l_nle c39)])) ?_
              refine g_goto (tgt := 80) C dX5_fresh_76 (by decide) ?_
              exact g_iret C r rfl ⟨vp_updL fco (j + 1) c, rfl, rfl, rfl, rfl, by unfold frS; simp only [hsf, if_neg c17, if_pos c25, if_pos (l_nle c39)]; exact MS_c hMS c⟩ rfl nN dX5_fresh_80
      · skip
        rw [lg_cmp_le] at c25
        refine g_bipush (v := (-2 : Int32)) C dX5_fresh_28 (by decide) ?_
        refine g_asi (show (-2) = ((frS sc id c).1) from (by unfold frS; simp only [hsf, if_neg c17, if_neg c25])) ?_
        exact g_iret C r rfl ⟨fco, rfl, rfl, rfl, rfl, by unfold frS; simp only [hsf, if_neg c17, if_neg c25]; exact hMS⟩ rfl nN dX5_fresh_30
  · skip
    have hsf := kf_no (b2_t c9)
    refine g_iconst (v := (-1 : Int32)) C dX5_fresh_12 (by decide) ?_
    refine g_asi (show (-1) = ((frS sc id c).1) from (by unfold frS; simp only [hsf])) ?_
    exact g_iret C r rfl ⟨fco, rfl, rfl, rfl, rfl, by unfold frS; simp only [hsf]; exact hMS⟩ rfl nN dX5_fresh_13
abbrev muX5_trip : Mu := (cX5_trip, 4, RX5, (some .int), "trip", 0, 0, 0, 0)
theorem hd_X5_trip : yX5_trip.cls = RX5 ∧ yX5_trip.cls ≠ "java/lang/invoke/MethodHandle" ∧ yX5_trip.cls ≠ "java/lang/invoke/VarHandle" ∧ (parseMethodDescriptor yX5_trip.desc).map (fun d => d.parameters.length) = some 1 := by decide +kernel
set_option maxHeartbeats 4000000 in
set_option maxRecDepth 100000 in
theorem k_X5_trip (l : Launch) (E : Ev) (mm oc nx ia ms ot my co bd bk oh rd mk rw ss : Nat) (cd : Int32) (nk ln os : Nat) (tp : Int64) (fco : Nat → Int64) (fbd fmy : Nat → Int32) (sc : Nat → Int64) (sb : Nat → Nat) (sl : Nat → Int32) (n : Int64) (L : List Nat) (F : Nat → va_E) (hMS : MS fco fbd fmy sc sb sl) : KC l E yX5_trip muX5_trip [.ref mm, .long (n)] [(mm, .inr (7, [.int (cd), .int (nI (nk)), .ref oc, .ref nx, .ref ia, .ref ms, .int (nI (ln)), .int (nI (os)), .ref ot, .long (tp), .ref my, .ref co, .ref bd, .ref bk, .ref oh, .ref rd, .ref mk, .ref rw, .ref ss])), (co, aJ E 65 (fco)), (bd, aI E 65 (fbd))] L F (fun r8 cx8 L8 F8 => ∃ (tp1 : Int64) (fco1 : Nat → Int64) (fbd1 : Nat → Int32), r8 = some (.int ((trS tp sc sb n).1)) ∧ cx8 = [(mm, .inr (7, [.int (nI 0), .int (nI (nk)), .ref oc, .ref nx, .ref ia, .ref ms, .int (nI (ln)), .int (nI (os)), .ref ot, .long (tp1), .ref my, .ref co, .ref bd, .ref bk, .ref oh, .ref rd, .ref mk, .ref rw, .ref ss])), (co, aJ E 65 (fco1)), (bd, aI E 65 (fbd1))] ∧ L = L8 ∧ F = F8 ∧ (tp1 = (trS tp sc sb n).2.1 ∧ MS fco1 fbd1 fmy (trS tp sc sb n).2.2.1 (trS tp sc sb n).2.2.2 sl)) := by
  refine K_start (by decide) rfl rfl (Nat.le_of_ble_eq_true rfl) (fun g A Q hgl C r => ?_)
  subst hgl
  show G g muX5_trip E A 0 0 Q [(mm, .inr (7, [.int (cd), .int (nI (nk)), .ref oc, .ref nx, .ref ia, .ref ms, .int (nI (ln)), .int (nI (os)), .ref ot, .long (tp), .ref my, .ref co, .ref bd, .ref bk, .ref oh, .ref rd, .ref mk, .ref rw, .ref ss])), (co, aJ E 65 (fco)), (bd, aI E 65 (fbd))] L F 0 [(0, .ref mm), (1, .long (n))] []
  refine g_aload_n C dX5_trip_0 rfl 0 rfl ?_
  refine g_iconst (v := nI (0)) C dX5_trip_1 (by decide) ?_
  refine g_putX (X' := [(mm, .inr (7, [.int (nI (0)), .int (nI (nk)), .ref oc, .ref nx, .ref ia, .ref ms, .int (nI (ln)), .int (nI (os)), .ref ot, .long (tp), .ref my, .ref co, .ref bd, .ref bk, .ref oh, .ref rd, .ref mk, .ref rw, .ref ss])), (co, aJ E 65 (fco)), (bd, aI E 65 (fbd))]) C 0 rfl rfl inX5 tyX5 tyX5_ok nmX5 0 (by decide) m_420 rfl rfl rfl (Nat.le_of_ble_eq_true rfl) rfl dX5_trip_2 ?_
  refine g_lload_n C dX5_trip_5 rfl 1 rfl ?_
  refine g_lconst (v := 0) C dX5_trip_6 (by decide) ?_
  refine g_lcmp C dX5_trip_7 ?_
  refine g_if_lt (tgt := 19) C dX5_trip_8 (by decide) (fun c8 => ?_) (fun c8 => ?_)
  · skip
    rw [lg_cmp_lt] at c8
    refine g_bipush (v := (-2 : Int32)) C dX5_trip_19 (by decide) ?_
    refine g_asi (show (-2) = ((trS tp sc sb n).1) from (by unfold trS; simp only [if_pos c8])) ?_
    exact g_iret C r rfl ⟨tp, fco, fbd, rfl, rfl, rfl, rfl, by unfold trS; simp only [if_pos c8]; exact ⟨trivial, hMS⟩⟩ rfl nN dX5_trip_21
  · skip
    rw [lg_cmp_lt] at c8
    refine g_lload_n C dX5_trip_11 rfl 1 rfl ?_
    refine g_ldc2_w C m_570 dX5_trip_12 ?_
    refine g_lcmp C dX5_trip_15 ?_
    refine g_if_le (tgt := 22) C dX5_trip_16 (by decide) (fun c16 => ?_) (fun c16 => ?_)
    · skip
      rw [lg_cmp_le] at c16
      refine g_lload_n C dX5_trip_22 rfl 1 rfl ?_
      refine g_aload_n C dX5_trip_23 rfl 0 rfl ?_
      refine g_getX C 0 rfl rfl inX5 9 (by decide) m_429 rfl dX5_trip_24 ?_
      refine g_lcmp C dX5_trip_27 ?_
      refine g_if_gt (tgt := 33) C dX5_trip_28 (by decide) (fun c28 => ?_) (fun c28 => ?_)
      · skip
        rw [lg_cmp_gt] at c28
        refine g_aload_n C dX5_trip_33 rfl 0 rfl ?_
        refine g_lload_n C dX5_trip_34 rfl 1 rfl ?_
        refine g_putX (X' := [(mm, .inr (7, [.int (nI (0)), .int (nI (nk)), .ref oc, .ref nx, .ref ia, .ref ms, .int (nI (ln)), .int (nI (os)), .ref ot, .long (n), .ref my, .ref co, .ref bd, .ref bk, .ref oh, .ref rd, .ref mk, .ref rw, .ref ss])), (co, aJ E 65 (fco)), (bd, aI E 65 (fbd))]) C 0 rfl rfl inX5 tyX5 tyX5_ok nmX5 9 (by decide) m_429 rfl rfl rfl (Nat.le_of_ble_eq_true rfl) rfl dX5_trip_35 ?_
        refine g_iconst (v := nI (1)) C dX5_trip_38 (by decide) ?_
        refine g_istore_n (lv' := [(3, .int (nI (1))), (0, .ref mm), (1, .long (n))]) C dX5_trip_39 rfl (by decide) rfl ?_
        have lp40 : ∀ (n40 : Nat) (i : Nat) (f1 : Nat → Int64) (f2 : Nat → Int32), (i ≤ 64) → (MS f1 f2 fmy (zsc sc i) (zsb sb i) sl) → 65 ≤ i + n40 → G g muX5_trip E A 0 0 Q [(mm, .inr (7, [.int (nI (0)), .int (nI (nk)), .ref oc, .ref nx, .ref ia, .ref ms, .int (nI (ln)), .int (nI (os)), .ref ot, .long (n), .ref my, .ref co, .ref bd, .ref bk, .ref oh, .ref rd, .ref mk, .ref rw, .ref ss])), (co, aJ E 65 (f1)), (bd, aI E 65 (f2))] L F 40 [(0, .ref mm), (1, .long (n)), (3, .int (nI (i + 1)))] [] := by
          intro n40
          induction n40 with
          | zero => intro i f1 f2 hi hP1 hfu40; exact absurd hfu40 (by omega)
          | succ n40 ih40 =>
            intro i f1 f2 hi hP1 hfu40
            refine g_iload_n C dX5_trip_40 rfl 2 rfl ?_
            refine g_bipush (v := nI (65)) C dX5_trip_41 (by decide) ?_
            refine g_nicmp_ge (tgt := 66) C dX5_trip_43 (by decide) (by omega) (by omega) (fun c43 => ?_) (fun c43 => ?_)
            · skip
              refine g_iconst (v := nI (1)) C dX5_trip_66 (by decide) ?_
              refine g_asi (show (nI (1)) = ((trS tp sc sb n).1) from (by unfold trS; simp only [if_neg c8, if_pos c16, if_pos c28])) ?_
              exact g_iret C r rfl ⟨n, f1, f2, rfl, rfl, rfl, rfl, by unfold trS; simp only [if_neg c8, if_pos c16, if_pos c28]; exact ⟨trivial, MS_e (by omega) hP1⟩⟩ rfl nN dX5_trip_67
            · skip
              refine g_aload_n C dX5_trip_46 rfl 0 rfl ?_
              refine g_getX C 0 rfl rfl inX5 11 (by decide) m_431 rfl dX5_trip_47 ?_
              refine g_iload_n C dX5_trip_50 rfl 2 rfl ?_
              refine g_lconst (v := 0) C dX5_trip_51 (by decide) ?_
              refine g_last (X' := [(mm, .inr (7, [.int (nI (0)), .int (nI (nk)), .ref oc, .ref nx, .ref ia, .ref ms, .int (nI (ln)), .int (nI (os)), .ref ot, .long (n), .ref my, .ref co, .ref bd, .ref bk, .ref oh, .ref rd, .ref mk, .ref rw, .ref ss])), (co, aJ E 65 (vp_updL f1 (i + 1) 0)), (bd, aI E 65 (f2))]) C 1 rfl (by omega) (by decide) rfl dX5_trip_52 ?_
              refine g_aload_n C dX5_trip_53 rfl 0 rfl ?_
              refine g_getX C 0 rfl rfl inX5 12 (by decide) m_432 rfl dX5_trip_54 ?_
              refine g_iload_n C dX5_trip_57 rfl 2 rfl ?_
              refine g_iconst (v := nI (0)) C dX5_trip_58 (by decide) ?_
              refine g_iast (X' := [(mm, .inr (7, [.int (nI (0)), .int (nI (nk)), .ref oc, .ref nx, .ref ia, .ref ms, .int (nI (ln)), .int (nI (os)), .ref ot, .long (n), .ref my, .ref co, .ref bd, .ref bk, .ref oh, .ref rd, .ref mk, .ref rw, .ref ss])), (co, aJ E 65 (vp_updL f1 (i + 1) 0)), (bd, aI E 65 (upd f2 (i + 1) (nI (0))))]) C 2 rfl (by omega) (by decide) rfl dX5_trip_59 ?_
              refine g_iinc (v := nI (i + 1 + 1)) (lv' := [(3, .int (nI (i + 1 + 1))), (0, .ref mm), (1, .long (n))]) C dX5_trip_60 2 rfl (nI_inc _ 1) (by decide) rfl ?_
              refine g_goto (tgt := 40) C dX5_trip_63 (by decide) ?_
              refine g_lv [1, 2, 0] rfl ?_
              exact ih40 (i + 1) (vp_updL f1 (i + 1) 0) (upd f2 (i + 1) (nI (0))) (by omega) (MS_z hP1) (by omega)
        refine g_lv [1, 2, 0] rfl ?_
        exact lp40 65 0 fco fbd (Nat.zero_le _) hMS (by omega)
      · skip
        rw [lg_cmp_gt] at c28
        refine g_iconst (v := nI (0)) C dX5_trip_31 (by decide) ?_
        refine g_asi (show (nI (0)) = ((trS tp sc sb n).1) from (by unfold trS; simp only [if_neg c8, if_pos c16, if_neg c28])) ?_
        exact g_iret C r rfl ⟨tp, fco, fbd, rfl, rfl, rfl, rfl, by unfold trS; simp only [if_neg c8, if_pos c16, if_neg c28]; exact ⟨trivial, hMS⟩⟩ rfl nN dX5_trip_32
    · skip
      rw [lg_cmp_le] at c16
      refine g_bipush (v := (-2 : Int32)) C dX5_trip_19 (by decide) ?_
      refine g_asi (show (-2) = ((trS tp sc sb n).1) from (by unfold trS; simp only [if_neg c8, if_neg c16])) ?_
      exact g_iret C r rfl ⟨tp, fco, fbd, rfl, rfl, rfl, rfl, by unfold trS; simp only [if_neg c8, if_neg c16]; exact ⟨trivial, hMS⟩⟩ rfl nN dX5_trip_21
