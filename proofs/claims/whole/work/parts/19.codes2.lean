theorem kf_at {nk i : Nat} (hi : i < nk) (hn : nk < 1000) : kf nk (nI (i + 1)) = some i := by
  unfold kf
  rw [if_neg (nI_nlt (by omega) (by omega)), if_neg (nI_nlt (by omega) (by omega)), pk_sub (by omega), nI_clamp (by omega)]
  rfl
def zsc (sc : Nat → Int64) (i : Nat) : Nat → Int64 := fun j => if j < i then 0 else sc j
def zsb (sb : Nat → Nat) (i : Nat) : Nat → Nat := fun j => if j < i then 0 else sb j
theorem zsc_s (sc : Nat → Int64) (i : Nat) : va_up (zsc sc i) i 0 = zsc sc (i + 1) := by
  funext j
  unfold va_up zsc
  by_cases h : j = i
  · rw [if_pos h, if_pos (by omega)]
  · rw [if_neg h]
    by_cases h2 : j < i
    · rw [if_pos h2, if_pos (by omega)]
    · rw [if_neg h2, if_neg (by omega)]
theorem zsb_s (sb : Nat → Nat) (i : Nat) : va_up (zsb sb i) i 0 = zsb sb (i + 1) := by
  funext j
  unfold va_up zsb
  by_cases h : j = i
  · rw [if_pos h, if_pos (by omega)]
  · rw [if_neg h]
    by_cases h2 : j < i
    · rw [if_pos h2, if_pos (by omega)]
    · rw [if_neg h2, if_neg (by omega)]
theorem ps_z {E : Ev} {L : List Nat} {F : Nat → va_E} {kr sr : Nat → Option Nat} {nk : Nat} {ko : Nat → Nat → Int32} {kn : Nat → Nat} {kc sc : Nat → Int64} {sb : Nat → Nat} {sl : Nat → Int32} {i : Nat} (h : PS E L F kr sr nk ko kn kc (va_up (zsc sc i) i 0) (va_up (zsb sb i) i 0) (va_up sl i (sl i))) : PS E L F kr sr nk ko kn kc (zsc sc (i + 1)) (zsb sb (i + 1)) sl := by rwa [zsc_s, zsb_s, va_up_id] at h
theorem ps_z0 {E : Ev} {L : List Nat} {F : Nat → va_E} {kr sr : Nat → Option Nat} {nk : Nat} {ko : Nat → Nat → Int32} {kn : Nat → Nat} {kc sc : Nat → Int64} {sb : Nat → Nat} {sl : Nat → Int32} (h : PS E L F kr sr nk ko kn kc sc sb sl) : PS E L F kr sr nk ko kn kc (zsc sc 0) (zsb sb 0) sl := h
theorem ps_z64 {E : Ev} {L : List Nat} {F : Nat → va_E} {kr sr : Nat → Option Nat} {nk : Nat} {ko : Nat → Nat → Int32} {kn : Nat → Nat} {kc sc : Nat → Int64} {sb : Nat → Nat} {sl : Nat → Int32} {i : Nat} (hi : 64 ≤ i) (h : PS E L F kr sr nk ko kn kc (zsc sc i) (zsb sb i) sl) : PS E L F kr sr nk ko kn kc (fun _ => 0) (fun _ => 0) sl :=
  h.congr (fun _ _ => ⟨rfl, rfl, rfl⟩) (fun j hj => ⟨by unfold zsc; rw [if_pos (by omega)], by unfold zsb; rw [if_pos (by omega)], rfl⟩)
/-- 8 octets of a number at the end of a block -/
def pneF (t : Nat → Int32) (v : Int64) (j : Nat) : Int32 := if j < 8 then t j else nbv v (15 - j)
theorem pne_s {f t : Nat → Int32} {v : Int64} {i : Nat} (hi : i < 8) (h : ∀ j, j < 16 → f j = if 16 ≤ j + i then nbv v (15 - j) else t j) : ∀ j, j < 16 → upd f (15 - i) (nbv v i) j = if 16 ≤ j + (i + 1) then nbv v (15 - j) else t j := by
  intro j hj
  by_cases e : j = 15 - i
  · subst e
    rw [pk_us, if_pos (by omega), show 15 - (15 - i) = i by omega]
  · rw [pk_un e, h j hj]
    by_cases h2 : 16 ≤ j + i
    · rw [if_pos h2, if_pos (by omega)]
    · rw [if_neg h2, if_neg (by omega)]
theorem pne_e {f t : Nat → Int32} {v : Int64} {i : Nat} (hi : i ≤ 8) (h8 : 8 ≤ i) (h : ∀ j, j < 16 → f j = if 16 ≤ j + i then nbv v (15 - j) else t j) : ∀ j, j < 16 → f j = pneF t v j := by
  intro j hj
  obtain rfl : i = 8 := by omega
  rw [h j hj]
  unfold pneF
  by_cases h2 : j < 8
  · rw [if_pos h2, if_neg (by omega)]
  · rw [if_neg h2, if_pos (by omega)]
/-- the row that is coded when a key comes wrapped -/
def wrM (c : Int64) (msg : Nat → Int32) (j : Nat) : Int32 := if j < 8 then nbv c (7 - j) else msg (j - 8)
/-- the row that is coded when a message comes -/
def cdM (id : Int32) (tr c : Int64) (msg : Nat → Int32) (j : Nat) : Int32 := if j < 1 then nbv id.toInt64 0 else if j < 5 then nbv tr (4 - j) else if j < 13 then nbv c (12 - j) else msg (j - 13)
def wrB (K : Nat → Int32) (c : Int64) (msg : Nat → Int32) : Bool := eqN (CMAC K (wrM c msg) 24) (fun j => msg (16 + j)) 8
def cdB (K : Nat → Int32) (id : Int32) (tr c : Int64) (msg : Nat → Int32) (ml : Nat) : Bool := eqN (CMAC K (cdM id tr c msg) (13 + (ml - 8))) (fun q => msg (ml - 8 + q)) 8
def dS (cut : Int32) (c : Int64) : Int32 := (cut - (c &&& 255).toInt32) &&& nI 255
def vfS (nk : Nat) (ko : Nat → Nat → Int32) (ml : Nat) (msg : Nat → Int32) (tr : Int64) (sc : Nat → Int64) (sb : Nat → Nat) (sl : Nat → Int32) (k id cut : Int32) : Int32 × Nat × (Nat → Int64) × (Nat → Nat) := match kf nk k with
  | none => (-1, ml, sc, sb)
  | some i => match kf 64 id with
    | none => (-1, ml, sc, sb)
    | some j => if cut < 0 then (-2, ml, sc, sb) else if cut ≤ nI 255 then
        (if mayB (sl j) k then (if 5 ≤ sb j then (-3, ml, sc, sb) else if 8 ≤ ml then
          (if dS cut (sc j) = 0 then (nI 0, 0, sc, sb) else if nI 64 < dS cut (sc j) then (nI 2, 0, sc, sb) else if sc j + (dS cut (sc j)).toInt64 ≤ 4611686018427387904 then
            (b2 (cdB (ko i) (nI (j + 1)) tr (sc j + (dS cut (sc j)).toInt64) msg ml), 0, va_up sc j (if cdB (ko i) (nI (j + 1)) tr (sc j + (dS cut (sc j)).toInt64) msg ml then sc j + (dS cut (sc j)).toInt64 else sc j), va_up sb j (if cdB (ko i) (nI (j + 1)) tr (sc j + (dS cut (sc j)).toInt64) msg ml then 0 else sb j + 1))
          else (nI 2, 0, sc, sb))
        else (-3, ml, sc, sb)) else (-3, ml, sc, sb))
      else (-2, ml, sc, sb)
def isS (nk : Nat) (ko : Nat → Nat → Int32) (kn : Nat → Nat) (kc : Nat → Int64) (ml : Nat) (msg : Nat → Int32) (k w : Int32) (c : Int64) : Int32 × Nat × (Nat → Nat → Int32) × (Nat → Nat) × (Nat → Int64) := match kf nk k with
  | none => (-1, ml, ko, kn, kc)
  | some i => match kf nk w with
    | none => (-1, ml, ko, kn, kc)
    | some q => if 0 ≤ c then (if ml = 24 then (if c ≤ kc i then (nI 0, 0, ko, kn, kc) else if wrB (ko q) c msg then (nI 1, 0, va_up ko i (fun j => msg j ^^^ ENC (ko q) (pneF (fun _ => nI 0) c) j), va_up kn i 0, va_up kc i c) else (nI 0, 0, ko, kn, kc)) else (-3, ml, ko, kn, kc)) else (-2, ml, ko, kn, kc)
theorem ps_3 {E : Ev} {L : List Nat} {F : Nat → va_E} {kr sr : Nat → Option Nat} {nk : Nat} {ko : Nat → Nat → Int32} {kn : Nat → Nat} {kc sc : Nat → Int64} {sb : Nat → Nat} {sl : Nat → Int32} {i : Nat} (h : PS E L F kr sr nk ko kn kc sc sb (va_up sl i (sl i))) : PS E L F kr sr nk ko kn kc sc sb sl := by rwa [va_up_id] at h
abbrev muX4_trip : Mu := (cX4_trip, 5, RX4, (some .int), "trip", 1, 0, 0, 21)
theorem hd_X4_trip : yX4_trip.cls = RX4 ∧ yX4_trip.cls ≠ "java/lang/invoke/MethodHandle" ∧ yX4_trip.cls ≠ "java/lang/invoke/VarHandle" ∧ (parseMethodDescriptor yX4_trip.desc).map (fun d => d.parameters.length) = some 1 := by decide +kernel
set_option maxHeartbeats 4000000 in
set_option maxRecDepth 100000 in
theorem k_X4_trip (l : Launch) (E : Ev) (xx ka sa ma oa ba h0 c0 nk ml on : Nat) (tr : Int64) (kr sr : Nat → Option Nat) (ko : Nat → Nat → Int32) (kn : Nat → Nat) (kc sc : Nat → Int64) (sb : Nat → Nat) (sl : Nat → Int32) (n : Int64) (L : List Nat) (F : Nat → va_E) (hPS : PS E L F kr sr nk ko kn kc sc sb sl) : KC l E yX4_trip muX4_trip [.ref xx, .long (n)] [(xx, .inr (6, [.ref ka, .int (nI (nk)), .ref sa, .long (tr), .ref ma, .int (nI (ml)), .ref oa, .int (nI (on)), .ref ba, .ref h0, .ref c0])), (sa, aS E 64 (sr))] L F (fun r8 cx8 L8 F8 => ∃ (r1 : Int32) (tr1 : Int64) (F1 : Nat → va_E) (sc1 : Nat → Int64) (sb1 : Nat → Nat), r8 = some (.int (r1)) ∧ cx8 = [(xx, .inr (6, [.ref ka, .int (nI (nk)), .ref sa, .long (tr1), .ref ma, .int (nI (ml)), .ref oa, .int (nI (on)), .ref ba, .ref h0, .ref c0])), (sa, aS E 64 (sr))] ∧ L = L8 ∧ F1 = F8 ∧ (PS E L F1 kr sr nk ko kn kc sc1 sb1 sl ∧ (r1, tr1, sc1, sb1) = trS tr sc sb n)) := by
  refine K_start (by decide) rfl rfl (Nat.le_of_ble_eq_true rfl) (fun g A Q hgl C r => ?_)
  subst hgl
  show G g muX4_trip E A 0 0 Q [(xx, .inr (6, [.ref ka, .int (nI (nk)), .ref sa, .long (tr), .ref ma, .int (nI (ml)), .ref oa, .int (nI (on)), .ref ba, .ref h0, .ref c0])), (sa, aS E 64 (sr))] L F 0 [(0, .ref xx), (1, .long (n))] []
  refine g_lload_n C dX4_trip_0 rfl 1 rfl ?_
  refine g_lconst (v := 0) C dX4_trip_1 (by decide) ?_
  refine g_lcmp C dX4_trip_2 ?_
  refine g_if_lt (tgt := 14) C dX4_trip_3 (by decide) (fun c3 => ?_) (fun c3 => ?_)
  · skip
    rw [lg_cmp_lt] at c3
    refine g_bipush (v := (-2 : Int32)) C dX4_trip_14 (by decide) ?_
    exact g_iret C r rfl ⟨-2, tr, F, sc, sb, rfl, rfl, rfl, rfl, hPS, by unfold trS; simp only [if_pos c3]⟩ rfl nN dX4_trip_16
  · skip
    rw [lg_cmp_lt] at c3
    refine g_lload_n C dX4_trip_6 rfl 1 rfl ?_
    refine g_ldc2_w C m_297 dX4_trip_7 ?_
    refine g_lcmp C dX4_trip_10 ?_
    refine g_if_le (tgt := 17) C dX4_trip_11 (by decide) (fun c11 => ?_) (fun c11 => ?_)
    · skip
      rw [lg_cmp_le] at c11
      refine g_lload_n C dX4_trip_17 rfl 1 rfl ?_
      refine g_aload_n C dX4_trip_18 rfl 0 rfl ?_
      refine g_getX C 0 rfl rfl inX4 3 (by decide) m_85 rfl dX4_trip_19 ?_
      refine g_lcmp C dX4_trip_22 ?_
      refine g_if_gt (tgt := 28) C dX4_trip_23 (by decide) (fun c23 => ?_) (fun c23 => ?_)
      · skip
        rw [lg_cmp_gt] at c23
        refine g_aload_n C dX4_trip_28 rfl 0 rfl ?_
        refine g_lload_n C dX4_trip_29 rfl 1 rfl ?_
        refine g_putX (X' := [(xx, .inr (6, [.ref ka, .int (nI (nk)), .ref sa, .long (n), .ref ma, .int (nI (ml)), .ref oa, .int (nI (on)), .ref ba, .ref h0, .ref c0])), (sa, aS E 64 (sr))]) C 0 rfl rfl inX4 tyX4 tyX4_ok nmX4 3 (by decide) m_85 rfl rfl rfl (Nat.le_of_ble_eq_true rfl) rfl dX4_trip_30 ?_
        refine g_iconst (v := nI (1)) C dX4_trip_33 (by decide) ?_
        refine g_istore_n (lv' := [(3, .int (nI (1))), (0, .ref xx), (1, .long (n))]) C dX4_trip_34 rfl (by decide) rfl ?_
        have lp35 : ∀ (n35 : Nat) (i : Nat) (F1 : Nat → va_E), (i ≤ 64) → (PS E L F1 kr sr nk ko kn kc (zsc sc i) (zsb sb i) sl) → 65 ≤ i + n35 → G g muX4_trip E A 0 0 Q [(xx, .inr (6, [.ref ka, .int (nI (nk)), .ref sa, .long (n), .ref ma, .int (nI (ml)), .ref oa, .int (nI (on)), .ref ba, .ref h0, .ref c0])), (sa, aS E 64 (sr))] L F1 35 [(0, .ref xx), (1, .long (n)), (3, .int (nI (i + 1)))] [] := by
          intro n35
          induction n35 with
          | zero => intro i F1 hi hP1 hfu35; exact absurd hfu35 (by omega)
          | succ n35 ih35 =>
            intro i F1 hi hP1 hfu35
            refine g_iload_n C dX4_trip_35 rfl 2 rfl ?_
            refine g_bipush (v := nI (64)) C dX4_trip_36 (by decide) ?_
            refine g_nicmp_gt (tgt := 64) C dX4_trip_38 (by decide) (by omega) (by omega) (fun c38 => ?_) (fun c38 => ?_)
            · skip
              refine g_iconst (v := nI (1)) C dX4_trip_64 (by decide) ?_
              exact g_iret C r rfl ⟨nI 1, n, F1, fun _ => 0, fun _ => 0, rfl, rfl, rfl, rfl, ps_z64 (by omega) hP1, by unfold trS; simp only [if_neg c3, if_pos c11, if_pos c23]⟩ rfl nN dX4_trip_65
            · skip
              refine g_aload_n C dX4_trip_41 rfl 0 rfl ?_
              refine g_iload_n C dX4_trip_42 rfl 2 rfl ?_
              refine g_callV (v := muX4_findSender) (cx := [(xx, .inr (6, [.ref ka, .int (nI (nk)), .ref sa, .long (n), .ref ma, .int (nI (ml)), .ref oa, .int (nI (on)), .ref ba, .ref h0, .ref c0])), (sa, aS E 64 (sr))]) C (k_X4_findSender (gl g) E xx ka sa ma oa ba h0 c0 nk ml on n sr (nI (i + 1)) L F1 ) [0, 1] rfl (by decide) 0 rfl rfl gi_X4_95 hd_X4_findSender ⟨Nat.le_of_ble_eq_true rfl, Nat.le_of_ble_eq_true rfl⟩ rfl rfl (Nat.le_of_ble_eq_true rfl) ⟨Nat.le_of_ble_eq_true rfl, Nat.le_of_ble_eq_true rfl⟩ dX4_trip_43 (fun r9 cx9 L9 F9 hp9 hf9 hN9 => ?_)
              obtain ⟨rfl, rfl, rfl, rfl, -⟩ := hp9
              show G g muX4_trip E A 0 0 Q [(xx, .inr (6, [.ref ka, .int (nI (nk)), .ref sa, .long (n), .ref ma, .int (nI (ml)), .ref oa, .int (nI (on)), .ref ba, .ref h0, .ref c0])), (sa, aS E 64 (sr))] L F1 46 [(0, .ref xx), (1, .long (n)), (3, .int (nI (i + 1)))] [va_rf ((kf 64 (nI (i + 1))).bind sr)]
              rcases hsf : kf 64 (nI (i + 1)) with _ | j
              · skip
                exact absurd hsf (by rw [kf_at (by omega) (by omega)]; exact Option.some_ne_none _)
              · skip
                obtain rfl : i = j := Option.some.inj ((kf_at (by omega) (by omega)).symm.trans hsf)
                obtain ⟨b9, hsr_b9, hsL_b9, hsF_b9, sset_b9⟩ := hP1.sender (show i < 64 by omega)
                rw [show Option.bind (some i) sr = some b9 from hsr_b9]
                show G g muX4_trip E A 0 0 Q [(xx, .inr (6, [.ref ka, .int (nI (nk)), .ref sa, .long (n), .ref ma, .int (nI (ml)), .ref oa, .int (nI (on)), .ref ba, .ref h0, .ref c0])), (sa, aS E 64 (sr))] L F1 46 [(0, .ref xx), (1, .long (n)), (3, .int (nI (i + 1)))] [.ref b9]
                refine g_astore (lv' := [(4, .ref b9), (0, .ref xx), (1, .long (n)), (3, .int (nI (i + 1)))]) C dX4_trip_46 (by decide) rfl ?_
                refine g_aload C dX4_trip_48 0 rfl ?_
                refine g_ifnull C dX4_trip_50 ?_
                refine g_aload C dX4_trip_53 0 rfl ?_
                refine g_callP (v := muX3_beginTrip) (cx := []) C (k_X3_beginTrip (gl g) E b9 (nI (i + 1)) (sl i) (zsc sc i i) (zsb sb i i) L F1 hsL_b9 hsF_b9) [] rfl (by decide) hsL_b9 hsF_b9 rfl gi_X4_151 hd_X3_beginTrip ⟨Nat.le_of_ble_eq_true rfl, Nat.le_of_ble_eq_true rfl⟩ rfl rfl (Nat.le_of_ble_eq_true rfl) ⟨Nat.le_of_ble_eq_true rfl, Nat.le_of_ble_eq_true rfl⟩ dX4_trip_55 (fun r9 cx9 L9 F9 hp9 hf9 hN9 => ?_)
                obtain ⟨rfl, rfl, rfl, rfl, -⟩ := hp9
                show G g muX4_trip E A 0 0 Q [(xx, .inr (6, [.ref ka, .int (nI (nk)), .ref sa, .long (n), .ref ma, .int (nI (ml)), .ref oa, .int (nI (on)), .ref ba, .ref h0, .ref c0])), (sa, aS E 64 (sr))] L (va_up F1 b9 (.inr (5, [.int (nI (i + 1)), .long 0, .int (nI 0), .int (sl i)]))) 58 [(4, .ref b9), (0, .ref xx), (1, .long (n)), (3, .int (nI (i + 1)))] []
                refine g_iinc (v := nI (i + 1 + 1)) (lv' := [(3, .int (nI (i + 1 + 1))), (4, .ref b9), (0, .ref xx), (1, .long (n))]) C dX4_trip_58 3 rfl (nI_inc _ 1) (by decide) rfl ?_
                refine g_goto (tgt := 35) C dX4_trip_61 (by decide) ?_
                refine g_lv [2, 3, 0] rfl ?_
                exact ih35 (i + 1) (va_up F1 b9 (.inr (5, [.int (nI (i + 1)), .long 0, .int (nI 0), .int (sl i)]))) (by omega) (ps_z (sset_b9 0 0 (sl i))) (by omega)
        refine g_lv [1, 2, 0] rfl ?_
        exact lp35 65 0 F (Nat.zero_le _) (ps_z0 hPS) (by omega)
      · skip
        rw [lg_cmp_gt] at c23
        refine g_iconst (v := nI (0)) C dX4_trip_26 (by decide) ?_
        exact g_iret C r rfl ⟨nI 0, tr, F, sc, sb, rfl, rfl, rfl, rfl, hPS, by unfold trS; simp only [if_neg c3, if_pos c11, if_neg c23]⟩ rfl nN dX4_trip_27
    · skip
      rw [lg_cmp_le] at c11
      refine g_bipush (v := (-2 : Int32)) C dX4_trip_14 (by decide) ?_
      exact g_iret C r rfl ⟨-2, tr, F, sc, sb, rfl, rfl, rfl, rfl, hPS, by unfold trS; simp only [if_neg c3, if_neg c11]⟩ rfl nN dX4_trip_16
abbrev muX4_putNumberAtEnd : Mu := (cX4_putNumberAtEnd, 4, RX4, none, "putNumberAtEnd", 0, 0, 0, 0)
theorem hd_X4_putNumberAtEnd : yX4_putNumberAtEnd.cls = RX4 ∧ yX4_putNumberAtEnd.cls ≠ "java/lang/invoke/MethodHandle" ∧ yX4_putNumberAtEnd.cls ≠ "java/lang/invoke/VarHandle" ∧ (parseMethodDescriptor yX4_putNumberAtEnd.desc).map (fun d => d.parameters.length) = some 2 := by decide +kernel
set_option maxHeartbeats 4000000 in
set_option maxRecDepth 100000 in
theorem k_X4_putNumberAtEnd (l : Launch) (E : Ev) (q0 : Nat) (t : Nat → Int32) (v : Int64) (L : List Nat) (F : Nat → va_E)  : KC l E yX4_putNumberAtEnd muX4_putNumberAtEnd [.ref q0, .long (v)] [(q0, aI E 16 (t))] L F (fun r8 cx8 L8 F8 => r8 = none ∧ cx8 = [(q0, aI E 16 (pneF t v))] ∧ L = L8 ∧ F = F8 ∧ (True)) := by
  refine K_start (by decide) rfl rfl (Nat.le_of_ble_eq_true rfl) (fun g A Q hgl C r => ?_)
  subst hgl
  show G g muX4_putNumberAtEnd E A 0 0 Q [(q0, aI E 16 (t))] L F 0 [(0, .ref q0), (1, .long (v))] []
  refine g_iconst (v := nI (0)) C dX4_putNumberAtEnd_0 (by decide) ?_
  refine g_istore_n (lv' := [(3, .int (nI (0))), (0, .ref q0), (1, .long (v))]) C dX4_putNumberAtEnd_1 rfl (by decide) rfl ?_
  have lp2 : ∀ (n2 : Nat) (i : Nat) (f : Nat → Int32), (i ≤ 8) → (∀ j, j < 16 → f j = if 16 ≤ j + i then nbv v (15 - j) else t j) → 9 ≤ i + n2 → G g muX4_putNumberAtEnd E A 0 0 Q [(q0, aI E 16 (f))] L F 2 [(0, .ref q0), (1, .long (v)), (3, .int (nI (i)))] [] := by
    intro n2
    induction n2 with
    | zero => intro i f hi hf hfu2; exact absurd hfu2 (by omega)
    | succ n2 ih2 =>
      intro i f hi hf hfu2
      refine g_iload_n C dX4_putNumberAtEnd_2 rfl 2 rfl ?_
      refine g_bipush (v := nI (8)) C dX4_putNumberAtEnd_3 (by decide) ?_
      refine g_nicmp_ge (tgt := 31) C dX4_putNumberAtEnd_5 (by decide) (by omega) (by omega) (fun c5 => ?_) (fun c5 => ?_)
      · skip
        refine g_cgI (f' := pneF t v) (X' := [(q0, aI E 16 (pneF t v))]) 0 rfl (pne_e hi c5 hf) rfl ?_
        exact g_vret C r rfl ⟨rfl, rfl, rfl, rfl, trivial⟩ rfl nN dX4_putNumberAtEnd_31
      · skip
        refine g_aload_n C dX4_putNumberAtEnd_8 rfl 0 rfl ?_
        refine g_bipush (v := nI (15)) C dX4_putNumberAtEnd_9 (by decide) ?_
        refine g_iload_n C dX4_putNumberAtEnd_11 rfl 2 rfl ?_
        refine g_isub C dX4_putNumberAtEnd_12 ?_
        refine g_asi (pk_sub (by omega)) ?_
        refine g_lload_n C dX4_putNumberAtEnd_13 rfl 1 rfl ?_
        refine g_bipush (v := nI (8)) C dX4_putNumberAtEnd_14 (by decide) ?_
        refine g_iload_n C dX4_putNumberAtEnd_16 rfl 2 rfl ?_
        refine g_imul C dX4_putNumberAtEnd_17 ?_
        refine g_asi (pk_mul _ _) ?_
        refine g_lshr (v := v >>> ((nI (8 * i)).toInt64 &&& 63)) C dX4_putNumberAtEnd_18 rfl ?_
        refine g_ldc2_w C m_286 dX4_putNumberAtEnd_19 ?_
        refine g_land C dX4_putNumberAtEnd_22 ?_
        refine g_l2i (v := ((v >>> ((nI (8 * i)).toInt64 &&& 63)) &&& 255).toInt32) C dX4_putNumberAtEnd_23 rfl ?_
        refine g_asi (show (((v >>> ((nI (8 * i)).toInt64 &&& 63)) &&& 255).toInt32) = (nbv v i) from rfl) ?_
        refine g_iast (X' := [(q0, aI E 16 (upd f (15 - i) (nbv v i)))]) C 0 rfl (by omega) (by decide) rfl dX4_putNumberAtEnd_24 ?_
        refine g_iinc (v := nI (i + 1)) (lv' := [(3, .int (nI (i + 1))), (0, .ref q0), (1, .long (v))]) C dX4_putNumberAtEnd_25 2 rfl (nI_inc _ 1) (by decide) rfl ?_
        refine g_goto (tgt := 2) C dX4_putNumberAtEnd_28 (by decide) ?_
        refine g_lv [1, 2, 0] rfl ?_
        exact ih2 (i + 1) (upd f (15 - i) (nbv v i)) (by omega) (pne_s c5 hf) (by omega)
  refine g_lv [1, 2, 0] rfl ?_
  exact lp2 9 0 t (Nat.zero_le _) (fun j hj => by rw [if_neg (by omega)]) (by omega)
abbrev muX4_unwrap : Mu := (cX4_unwrap, 6, RX4, none, "unwrap", 3, 0, 0, 69)
theorem hd_X4_unwrap : yX4_unwrap.cls = RX4 ∧ yX4_unwrap.cls ≠ "java/lang/invoke/MethodHandle" ∧ yX4_unwrap.cls ≠ "java/lang/invoke/VarHandle" ∧ (parseMethodDescriptor yX4_unwrap.desc).map (fun d => d.parameters.length) = some 3 := by decide +kernel
set_option maxHeartbeats 4000000 in
set_option maxRecDepth 100000 in
theorem k_X4_unwrap (l : Launch) (E : Ev) (xx ka sa ma oa ba h0 c0 nk ml on : Nat) (tr : Int64) (kr sr : Nat → Option Nat) (ko : Nat → Nat → Int32) (kn : Nat → Nat) (kc sc : Nat → Int64) (sb : Nat → Nat) (sl : Nat → Int32) (r0 t0 : Nat) (f tn bl msg : Nat → Int32) (a b i q : Nat) (c : Int64) (L : List Nat) (F : Nat → va_E) (hPS : PS E L F kr sr nk ko kn kc sc sb sl) (hi : i < nk) (hq : q < nk) (ha : kr i = some a) (hb : kr q = some b) : KC l E yX4_unwrap muX4_unwrap [.ref xx, .ref a, .ref b, .long (c)] [(xx, .inr (6, [.ref ka, .int (nI (nk)), .ref sa, .long (tr), .ref ma, .int (nI (ml)), .ref oa, .int (nI (on)), .ref ba, .ref h0, .ref c0])), (ma, aI E 300 (msg)), (ba, aI E 16 (bl)), (h0, .inr (2, [.ref r0, .ref t0])), (r0, aI E 176 (f)), (t0, aI E 16 (tn))] L F (fun r8 cx8 L8 F8 => ∃ (F1 : Nat → va_E) (f1 tn1 bl1 : Nat → Int32), r8 = none ∧ cx8 = [(xx, .inr (6, [.ref ka, .int (nI (nk)), .ref sa, .long (tr), .ref ma, .int (nI (ml)), .ref oa, .int (nI (on)), .ref ba, .ref h0, .ref c0])), (ma, aI E 300 (msg)), (ba, aI E 16 (bl1)), (h0, .inr (2, [.ref r0, .ref t0])), (r0, aI E 176 (f1)), (t0, aI E 16 (tn1))] ∧ L = L8 ∧ F1 = F8 ∧ (PS E L F1 kr sr nk (va_up ko i (fun j => msg j ^^^ ENC (ko q) (pneF (fun _ => nI 0) c) j)) (va_up kn i 0) (va_up kc i c) sc sb sl)) := by
  refine K_start (by decide) rfl rfl (Nat.le_of_ble_eq_true rfl) (fun g A Q hgl C r => ?_)
  subst hgl
  show G g muX4_unwrap E A 0 0 Q [(xx, .inr (6, [.ref ka, .int (nI (nk)), .ref sa, .long (tr), .ref ma, .int (nI (ml)), .ref oa, .int (nI (on)), .ref ba, .ref h0, .ref c0])), (ma, aI E 300 (msg)), (ba, aI E 16 (bl)), (h0, .inr (2, [.ref r0, .ref t0])), (r0, aI E 176 (f)), (t0, aI E 16 (tn))] L F 0 [(0, .ref xx), (1, .ref a), (2, .ref b), (3, .long (c))] []
  obtain ⟨a9, o, hkr_a, hkL_a, hkF_a, hoL_a, hoF_a, hkn_a, hne_a, hset⟩ := hPS.key hi
  obtain rfl : a = a9 := Option.some.inj (ha.symm.trans hkr_a)
  obtain ⟨b9, p, hkr_b, hkL_b, hkF_b, hoL_b, hoF_b, hkn_b, hne_b, -⟩ := hPS.key hq
  obtain rfl : b = b9 := Option.some.inj (hb.symm.trans hkr_b)
  refine g_aload_n C dX4_unwrap_0 rfl 0 rfl ?_
  refine g_getX C 0 rfl rfl inX4 8 (by decide) m_90 rfl dX4_unwrap_1 ?_
  refine g_iconst (v := nI (0)) C dX4_unwrap_4 (by decide) ?_
  refine g_callS (v := muJ7_fill_53178) (cx := [(ba, aI E 16 (bl))]) C (k_J7_fill_53178 (gl g) E ba 16 bl (nI 0) L F (by decide)) [2] rfl (by decide) gi_X4_134 hd_J7_fill_53178.2 ⟨Nat.le_of_ble_eq_true rfl, Nat.le_of_ble_eq_true rfl⟩ rfl rfl (Nat.le_of_ble_eq_true rfl) ⟨Nat.le_of_ble_eq_true rfl, Nat.le_of_ble_eq_true rfl⟩ dX4_unwrap_5 (fun r9 cx9 L9 F9 hp9 hf9 hN9 => ?_)
  obtain ⟨rfl, rfl, rfl, rfl, -⟩ := hp9
  show G g muX4_unwrap E A 0 0 Q [(xx, .inr (6, [.ref ka, .int (nI (nk)), .ref sa, .long (tr), .ref ma, .int (nI (ml)), .ref oa, .int (nI (on)), .ref ba, .ref h0, .ref c0])), (ma, aI E 300 (msg)), (ba, aI E 16 (fun _ => (nI 0))), (h0, .inr (2, [.ref r0, .ref t0])), (r0, aI E 176 (f)), (t0, aI E 16 (tn))] L F 8 [(0, .ref xx), (1, .ref a), (2, .ref b), (3, .long (c))] []
  refine g_aload_n C dX4_unwrap_8 rfl 0 rfl ?_
  refine g_getX C 0 rfl rfl inX4 8 (by decide) m_90 rfl dX4_unwrap_9 ?_
  refine g_lload_n C dX4_unwrap_12 rfl 3 rfl ?_
  refine g_callS (v := muX4_putNumberAtEnd) (cx := [(ba, aI E 16 (fun _ => (nI 0)))]) C (k_X4_putNumberAtEnd (gl g) E ba (fun _ => nI 0) c L F ) [2] rfl (by decide) gi_X4_183 hd_X4_putNumberAtEnd.2 ⟨Nat.le_of_ble_eq_true rfl, Nat.le_of_ble_eq_true rfl⟩ rfl rfl (Nat.le_of_ble_eq_true rfl) ⟨Nat.le_of_ble_eq_true rfl, Nat.le_of_ble_eq_true rfl⟩ dX4_unwrap_13 (fun r9 cx9 L9 F9 hp9 hf9 hN9 => ?_)
  obtain ⟨rfl, rfl, rfl, rfl, -⟩ := hp9
  show G g muX4_unwrap E A 0 0 Q [(xx, .inr (6, [.ref ka, .int (nI (nk)), .ref sa, .long (tr), .ref ma, .int (nI (ml)), .ref oa, .int (nI (on)), .ref ba, .ref h0, .ref c0])), (ma, aI E 300 (msg)), (ba, aI E 16 (pneF (fun _ => nI 0) c)), (h0, .inr (2, [.ref r0, .ref t0])), (r0, aI E 176 (f)), (t0, aI E 16 (tn))] L F 16 [(0, .ref xx), (1, .ref a), (2, .ref b), (3, .long (c))] []
  refine g_aload_n C dX4_unwrap_16 rfl 0 rfl ?_
  refine g_getX C 0 rfl rfl inX4 9 (by decide) m_91 rfl dX4_unwrap_17 ?_
  refine g_aload_n C dX4_unwrap_20 rfl 2 rfl ?_
  refine g_callV (v := muX0_useKey) (cx := [(h0, .inr (2, [.ref r0, .ref t0])), (r0, aI E 176 (f))]) C (k_X0_useKey (gl g) E h0 r0 t0 b p f (ko q) (nI (kn q)) (kc q) L F hkL_b hkF_b hoL_b hoF_b) [3, 4] rfl (by decide) 3 rfl rfl gi_X4_139 hd_X0_useKey ⟨Nat.le_of_ble_eq_true rfl, Nat.le_of_ble_eq_true rfl⟩ rfl rfl (Nat.le_of_ble_eq_true rfl) ⟨Nat.le_of_ble_eq_true rfl, Nat.le_of_ble_eq_true rfl⟩ dX4_unwrap_21 (fun r9 cx9 L9 F9 hp9 hf9 hN9 => ?_)
  obtain ⟨rfl, rfl, rfl, rfl, -⟩ := hp9
  show G g muX4_unwrap E A 0 0 Q [(xx, .inr (6, [.ref ka, .int (nI (nk)), .ref sa, .long (tr), .ref ma, .int (nI (ml)), .ref oa, .int (nI (on)), .ref ba, .ref h0, .ref c0])), (ma, aI E 300 (msg)), (ba, aI E 16 (pneF (fun _ => nI 0) c)), (h0, .inr (2, [.ref r0, .ref t0])), (r0, aI E 176 (rk (ko q))), (t0, aI E 16 (tn))] L F 24 [(0, .ref xx), (1, .ref a), (2, .ref b), (3, .long (c))] []
  refine g_aload_n C dX4_unwrap_24 rfl 0 rfl ?_
  refine g_getX C 0 rfl rfl inX4 9 (by decide) m_91 rfl dX4_unwrap_25 ?_
  refine g_aload_n C dX4_unwrap_28 rfl 0 rfl ?_
  refine g_getX C 0 rfl rfl inX4 8 (by decide) m_90 rfl dX4_unwrap_29 ?_
  refine g_callV (v := muX0_apply) (cx := [(h0, .inr (2, [.ref r0, .ref t0])), (r0, aI E 176 (rk (ko q))), (t0, aI E 16 (tn)), (ba, aI E 16 (pneF (fun _ => nI 0) c))]) C (k_X0_apply (gl g) E h0 ba r0 t0 (ko q) (pneF (fun _ => nI 0) c) tn L F ) [3, 4, 5, 2] rfl (by decide) 3 rfl rfl gi_X4_142 hd_X0_apply ⟨Nat.le_of_ble_eq_true rfl, Nat.le_of_ble_eq_true rfl⟩ rfl rfl (Nat.le_of_ble_eq_true rfl) ⟨Nat.le_of_ble_eq_true rfl, Nat.le_of_ble_eq_true rfl⟩ dX4_unwrap_32 (fun r9 cx9 L9 F9 hp9 hf9 hN9 => ?_)
  obtain ⟨tn2, rfl, rfl, rfl, rfl, -⟩ := hp9
  show G g muX4_unwrap E A 0 0 Q [(xx, .inr (6, [.ref ka, .int (nI (nk)), .ref sa, .long (tr), .ref ma, .int (nI (ml)), .ref oa, .int (nI (on)), .ref ba, .ref h0, .ref c0])), (ma, aI E 300 (msg)), (ba, aI E 16 (ENC (ko q) (pneF (fun _ => nI 0) c))), (h0, .inr (2, [.ref r0, .ref t0])), (r0, aI E 176 (rk (ko q))), (t0, aI E 16 (tn2))] L F 35 [(0, .ref xx), (1, .ref a), (2, .ref b), (3, .long (c))] []
  refine g_cgF (F' := va_up F o (aI E 16 (ko i))) (fun a9 _ => congrFun (show F = va_up F o (aI E 16 (ko i)) from by rw [← hoF_a, va_up_id]) a9) ?_
  refine g_iconst (v := nI (0)) C dX4_unwrap_35 (by decide) ?_
  refine g_istore (lv' := [(5, .int (nI (0))), (0, .ref xx), (1, .ref a), (2, .ref b), (3, .long (c))]) C dX4_unwrap_36 (by decide) rfl ?_
  have lp38 : ∀ (n38 : Nat) (n : Nat) (g1 : Nat → Int32), (n ≤ 16) → (pfx g1 (fun j => msg j ^^^ ENC (ko q) (pneF (fun _ => nI 0) c) j) n) → 17 ≤ n + n38 → G g muX4_unwrap E A 0 0 Q [(xx, .inr (6, [.ref ka, .int (nI (nk)), .ref sa, .long (tr), .ref ma, .int (nI (ml)), .ref oa, .int (nI (on)), .ref ba, .ref h0, .ref c0])), (ma, aI E 300 (msg)), (ba, aI E 16 (ENC (ko q) (pneF (fun _ => nI 0) c))), (h0, .inr (2, [.ref r0, .ref t0])), (r0, aI E 176 (rk (ko q))), (t0, aI E 16 (tn2))] L (va_up F o (aI E 16 (g1))) 38 [(0, .ref xx), (1, .ref a), (3, .long (c)), (5, .int (nI (n)))] [] := by
    intro n38
    induction n38 with
    | zero => intro n g1 hn hf hfu38; exact absurd hfu38 (by omega)
    | succ n38 ih38 =>
      intro n g1 hn hf hfu38
      refine g_iload C dX4_unwrap_38 3 rfl ?_
      refine g_bipush (v := nI (16)) C dX4_unwrap_40 (by decide) ?_
      refine g_nicmp_ge (tgt := 73) C dX4_unwrap_42 (by decide) (by omega) (by omega) (fun c42 => ?_) (fun c42 => ?_)
      · skip
        refine g_cgP (y := (16, .inl (fun j => msg j ^^^ ENC (ko q) (pneF (fun _ => nI 0) c) j))) hoL_a (va_up_self _ _ _) (vc_i (fun j hj => hf j (by omega))) ?_
        refine g_cgF (F' := va_up F o (aI E 16 (fun j => msg j ^^^ ENC (ko q) (pneF (fun _ => nI 0) c) j))) (fun a9 _ => congrFun (show va_up (va_up F o (aI E 16 (g1))) o (.inl (E.2.1, 16, .inl (fun j => msg j ^^^ ENC (ko q) (pneF (fun _ => nI 0) c) j))) = va_up F o (aI E 16 (fun j => msg j ^^^ ENC (ko q) (pneF (fun _ => nI 0) c) j)) from by rw [bx_uu]) a9) ?_
        refine g_aload_n C dX4_unwrap_73 rfl 1 rfl ?_
        refine g_iconst (v := nI (0)) C dX4_unwrap_74 (by decide) ?_
        refine g_putP (e' := .inr (4, [.ref o, .int (nI (0)), .long (kc i)])) C hkL_a ((va_up_ne _ _ hne_a.symm).trans hkF_a) rfl inX2 tyX2 tyX2_ok nmX2 1 (by decide) m_129 rfl rfl rfl (Nat.le_of_ble_eq_true rfl) rfl dX4_unwrap_75 ?_
        refine g_aload_n C dX4_unwrap_78 rfl 1 rfl ?_
        refine g_lload_n C dX4_unwrap_79 rfl 2 rfl ?_
        refine g_putP (e' := .inr (4, [.ref o, .int (nI (0)), .long (c)])) C hkL_a (va_up_self _ _ _) rfl inX2 tyX2 tyX2_ok nmX2 2 (by decide) m_130 rfl rfl rfl (Nat.le_of_ble_eq_true rfl) rfl dX4_unwrap_80 ?_
        refine g_cgF (F' := va_up (va_up F o (aI E 16 (fun j => msg j ^^^ ENC (ko q) (pneF (fun _ => nI 0) c) j))) a (.inr (4, [.ref o, .int (nI 0), .long c]))) (fun a9 _ => congrFun (show va_up (va_up (va_up F o (aI E 16 (fun j => msg j ^^^ ENC (ko q) (pneF (fun _ => nI 0) c) j))) a (.inr (4, [.ref o, .int (nI (0)), .long (kc i)]))) a (.inr (4, [.ref o, .int (nI (0)), .long (c)])) = va_up (va_up F o (aI E 16 (fun j => msg j ^^^ ENC (ko q) (pneF (fun _ => nI 0) c) j))) a (.inr (4, [.ref o, .int (nI 0), .long c])) from by rw [bx_uu]) a9) ?_
        exact g_vret C r rfl ⟨va_up (va_up F o (aI E 16 (fun j => msg j ^^^ ENC (ko q) (pneF (fun _ => nI 0) c) j))) a (.inr (4, [.ref o, .int (nI 0), .long c])), rk (ko q), tn2, ENC (ko q) (pneF (fun _ => nI 0) c), rfl, rfl, rfl, rfl, hset _ 0 c (by omega)⟩ rfl nN dX4_unwrap_83
      · skip
        refine g_aload_n C dX4_unwrap_45 rfl 1 rfl ?_
        refine g_getP C hkL_a ((va_up_ne _ _ hne_a.symm).trans hkF_a) rfl inX2 0 (by decide) m_127 rfl dX4_unwrap_46 ?_
        refine g_iload C dX4_unwrap_49 3 rfl ?_
        refine g_aload_n C dX4_unwrap_51 rfl 0 rfl ?_
        refine g_getX C 0 rfl rfl inX4 4 (by decide) m_86 rfl dX4_unwrap_52 ?_
        refine g_iload C dX4_unwrap_55 3 rfl ?_
        refine g_iald C 1 rfl (by omega) (by decide) dX4_unwrap_57 ?_
        refine g_aload_n C dX4_unwrap_58 rfl 0 rfl ?_
        refine g_getX C 0 rfl rfl inX4 8 (by decide) m_90 rfl dX4_unwrap_59 ?_
        refine g_iload C dX4_unwrap_62 3 rfl ?_
        refine g_iald C 2 rfl (by omega) (by decide) dX4_unwrap_64 ?_
        refine g_ixor C dX4_unwrap_65 ?_
        refine g_iasP C hoL_a (va_up_self _ _ _) (by omega) (by decide) dX4_unwrap_66 ?_
        refine g_cgF (F' := va_up F o (aI E 16 (upd g1 n ((msg n) ^^^ ((ENC (ko q) (pneF (fun _ => nI 0) c)) n))))) (fun a9 _ => congrFun (show va_up (va_up F o (aI E 16 (g1))) o (aI E 16 (upd g1 n ((msg n) ^^^ ((ENC (ko q) (pneF (fun _ => nI 0) c)) n)))) = va_up F o (aI E 16 (upd g1 n ((msg n) ^^^ ((ENC (ko q) (pneF (fun _ => nI 0) c)) n)))) from by rw [bx_uu]) a9) ?_
        refine g_iinc (v := nI (n + 1)) (lv' := [(5, .int (nI (n + 1))), (0, .ref xx), (1, .ref a), (3, .long (c))]) C dX4_unwrap_67 3 rfl (nI_inc _ 1) (by decide) rfl ?_
        refine g_goto (tgt := 38) C dX4_unwrap_70 (by decide) ?_
        refine g_lv [1, 2, 3, 0] rfl ?_
        exact ih38 (n + 1) (upd g1 n ((msg n) ^^^ ((ENC (ko q) (pneF (fun _ => nI 0) c)) n))) (by omega) (pfS hf rfl) (by omega)
  refine g_lv [1, 2, 4, 0] rfl ?_
  exact lp38 17 0 (ko i) (Nat.zero_le _) pf0 (by omega)
abbrev muX4_isWrappedKey : Mu := (cX4_isWrappedKey, 4, RX4, (some .boolean), "isWrappedKey", 5, 0, 0, 114)
theorem hd_X4_isWrappedKey : yX4_isWrappedKey.cls = RX4 ∧ yX4_isWrappedKey.cls ≠ "java/lang/invoke/MethodHandle" ∧ yX4_isWrappedKey.cls ≠ "java/lang/invoke/VarHandle" ∧ (parseMethodDescriptor yX4_isWrappedKey.desc).map (fun d => d.parameters.length) = some 2 := by decide +kernel
set_option maxHeartbeats 4000000 in
set_option maxRecDepth 100000 in
theorem k_X4_isWrappedKey (l : Launch) (E : Ev) (xx ka sa ma oa ba h0 c0 nk ml on : Nat) (tr : Int64) (r0 t0 k0 x0 : Nat) (f tn sk res : Nat → Int32) (fi : Int32) (msg : Nat → Int32) (kk oo : Nat) (K : Nat → Int32) (nx : Int32) (cn : Int64) (c : Int64) (L : List Nat) (F : Nat → va_E) (hkL : kk ∈ L) (hkF : F kk = .inr (4, [.ref oo, .int nx, .long cn])) (hoL : oo ∈ L) (hoF : F oo = aI E 16 K) : KC l E yX4_isWrappedKey muX4_isWrappedKey [.ref xx, .ref kk, .long (c)] [(xx, .inr (6, [.ref ka, .int (nI (nk)), .ref sa, .long (tr), .ref ma, .int (nI (ml)), .ref oa, .int (nI (on)), .ref ba, .ref h0, .ref c0])), (ma, aI E 300 (msg)), (h0, .inr (2, [.ref r0, .ref t0])), (r0, aI E 176 (f)), (t0, aI E 16 (tn)), (c0, .inr (3, [.ref h0, .ref k0, .ref x0, .int (fi)])), (k0, aI E 16 (sk)), (x0, aI E 16 (res))] L F (fun r8 cx8 L8 F8 => ∃ (f1 tn1 sk1 res1 : Nat → Int32) (fi1 : Int32), r8 = some (.int (b2 (wrB K c msg))) ∧ cx8 = [(xx, .inr (6, [.ref ka, .int (nI (nk)), .ref sa, .long (tr), .ref ma, .int (nI (ml)), .ref oa, .int (nI (on)), .ref ba, .ref h0, .ref c0])), (ma, aI E 300 (msg)), (h0, .inr (2, [.ref r0, .ref t0])), (r0, aI E 176 (f1)), (t0, aI E 16 (tn1)), (c0, .inr (3, [.ref h0, .ref k0, .ref x0, .int (fi1)])), (k0, aI E 16 (sk1)), (x0, aI E 16 (res1))] ∧ L = L8 ∧ F = F8 ∧ (True)) := by
  refine K_start (by decide) rfl rfl (Nat.le_of_ble_eq_true rfl) (fun g A Q hgl C r => ?_)
  subst hgl
  show G g muX4_isWrappedKey E A 0 0 Q [(xx, .inr (6, [.ref ka, .int (nI (nk)), .ref sa, .long (tr), .ref ma, .int (nI (ml)), .ref oa, .int (nI (on)), .ref ba, .ref h0, .ref c0])), (ma, aI E 300 (msg)), (h0, .inr (2, [.ref r0, .ref t0])), (r0, aI E 176 (f)), (t0, aI E 16 (tn)), (c0, .inr (3, [.ref h0, .ref k0, .ref x0, .int (fi)])), (k0, aI E 16 (sk)), (x0, aI E 16 (res))] L F 0 [(0, .ref xx), (1, .ref kk), (2, .long (c))] []
  refine g_aload_n C dX4_isWrappedKey_0 rfl 0 rfl ?_
  refine g_getX C 0 rfl rfl inX4 10 (by decide) m_92 rfl dX4_isWrappedKey_1 ?_
  refine g_aload_n C dX4_isWrappedKey_4 rfl 1 rfl ?_
  refine g_callV (v := muX1_begin) (cx := [(c0, .inr (3, [.ref h0, .ref k0, .ref x0, .int (fi)])), (h0, .inr (2, [.ref r0, .ref t0])), (r0, aI E 176 (f)), (x0, aI E 16 (res))]) C (k_X1_begin (gl g) E c0 h0 k0 x0 r0 t0 kk oo f K res nx fi cn L F hkL hkF hoL hoF) [5, 2, 3, 7] rfl (by decide) 5 rfl rfl gi_X4_65 hd_X1_begin ⟨Nat.le_of_ble_eq_true rfl, Nat.le_of_ble_eq_true rfl⟩ rfl rfl (Nat.le_of_ble_eq_true rfl) ⟨Nat.le_of_ble_eq_true rfl, Nat.le_of_ble_eq_true rfl⟩ dX4_isWrappedKey_5 (fun r9 cx9 L9 F9 hp9 hf9 hN9 => ?_)
  obtain ⟨rfl, rfl, rfl, rfl, -⟩ := hp9
  show G g muX4_isWrappedKey E A 0 0 Q [(xx, .inr (6, [.ref ka, .int (nI (nk)), .ref sa, .long (tr), .ref ma, .int (nI (ml)), .ref oa, .int (nI (on)), .ref ba, .ref h0, .ref c0])), (ma, aI E 300 (msg)), (h0, .inr (2, [.ref r0, .ref t0])), (r0, aI E 176 (rk K)), (t0, aI E 16 (tn)), (c0, .inr (3, [.ref h0, .ref k0, .ref x0, .int (nI (0))])), (k0, aI E 16 (sk)), (x0, aI E 16 (fun _ => nI 0))] L F 8 [(0, .ref xx), (1, .ref kk), (2, .long (c))] []
  refine g_aload_n C dX4_isWrappedKey_8 rfl 0 rfl ?_
  refine g_getX C 0 rfl rfl inX4 10 (by decide) m_92 rfl dX4_isWrappedKey_9 ?_
  refine g_lload_n C dX4_isWrappedKey_12 rfl 2 rfl ?_
  refine g_bipush (v := nI (8)) C dX4_isWrappedKey_13 (by decide) ?_
  refine g_callV (v := muX1_addNumber) (cx := [(c0, .inr (3, [.ref h0, .ref k0, .ref x0, .int (nI (0))])), (h0, .inr (2, [.ref r0, .ref t0])), (r0, aI E 176 (rk K)), (t0, aI E 16 (tn)), (x0, aI E 16 (fun _ => nI 0))]) C (k_X1_addNumber (gl g) E c0 h0 k0 x0 r0 t0 K (wrM c msg) tn 0 8 c L F (by omega) (fun j hj => by unfold wrM; rw [if_pos (by omega), show 7 - (0 + j) = 8 - j - 1 by omega])) [5, 2, 3, 4, 7] rfl (by decide) 5 rfl rfl gi_X4_175 hd_X1_addNumber ⟨Nat.le_of_ble_eq_true rfl, Nat.le_of_ble_eq_true rfl⟩ rfl rfl (Nat.le_of_ble_eq_true rfl) ⟨Nat.le_of_ble_eq_true rfl, Nat.le_of_ble_eq_true rfl⟩ dX4_isWrappedKey_15 (fun r9 cx9 L9 F9 hp9 hf9 hN9 => ?_)
  obtain ⟨tn2, rfl, rfl, rfl, rfl, -⟩ := hp9
  show G g muX4_isWrappedKey E A 0 0 Q [(xx, .inr (6, [.ref ka, .int (nI (nk)), .ref sa, .long (tr), .ref ma, .int (nI (ml)), .ref oa, .int (nI (on)), .ref ba, .ref h0, .ref c0])), (ma, aI E 300 (msg)), (h0, .inr (2, [.ref r0, .ref t0])), (r0, aI E 176 (rk K)), (t0, aI E 16 (tn2)), (c0, .inr (3, [.ref h0, .ref k0, .ref x0, .int (nI (fl (0 + 8)))])), (k0, aI E 16 (sk)), (x0, aI E 16 (acc K (wrM c msg) (0 + 8)))] L F 18 [(0, .ref xx), (1, .ref kk), (2, .long (c))] []
  refine g_aload_n C dX4_isWrappedKey_18 rfl 0 rfl ?_
  refine g_getX C 0 rfl rfl inX4 10 (by decide) m_92 rfl dX4_isWrappedKey_19 ?_
  refine g_aload_n C dX4_isWrappedKey_22 rfl 0 rfl ?_
  refine g_getX C 0 rfl rfl inX4 4 (by decide) m_86 rfl dX4_isWrappedKey_23 ?_
  refine g_bipush (v := nI (16)) C dX4_isWrappedKey_26 (by decide) ?_
  refine g_callV (v := muX1_addOctets) (cx := [(c0, .inr (3, [.ref h0, .ref k0, .ref x0, .int (nI (fl (0 + 8)))])), (h0, .inr (2, [.ref r0, .ref t0])), (r0, aI E 176 (rk K)), (t0, aI E 16 (tn2)), (x0, aI E 16 (acc K (wrM c msg) (0 + 8))), (ma, aI E 300 (msg))]) C (k_X1_addOctets (gl g) E c0 h0 k0 x0 r0 t0 ma K (wrM c msg) tn2 msg (0 + 8) 16 L F (by omega) (fun j hj => by unfold wrM; rw [if_neg (by omega), show 0 + 8 + j - 8 = j by omega])) [5, 2, 3, 4, 7, 1] rfl (by decide) 5 rfl rfl gi_X4_69 hd_X1_addOctets ⟨Nat.le_of_ble_eq_true rfl, Nat.le_of_ble_eq_true rfl⟩ rfl rfl (Nat.le_of_ble_eq_true rfl) ⟨Nat.le_of_ble_eq_true rfl, Nat.le_of_ble_eq_true rfl⟩ dX4_isWrappedKey_28 (fun r9 cx9 L9 F9 hp9 hf9 hN9 => ?_)
  obtain ⟨tn3, rfl, rfl, rfl, rfl, -⟩ := hp9
  show G g muX4_isWrappedKey E A 0 0 Q [(xx, .inr (6, [.ref ka, .int (nI (nk)), .ref sa, .long (tr), .ref ma, .int (nI (ml)), .ref oa, .int (nI (on)), .ref ba, .ref h0, .ref c0])), (ma, aI E 300 (msg)), (h0, .inr (2, [.ref r0, .ref t0])), (r0, aI E 176 (rk K)), (t0, aI E 16 (tn3)), (c0, .inr (3, [.ref h0, .ref k0, .ref x0, .int (nI (fl ((0 + 8) + 16)))])), (k0, aI E 16 (sk)), (x0, aI E 16 (acc K (wrM c msg) ((0 + 8) + 16)))] L F 31 [(0, .ref xx), (1, .ref kk), (2, .long (c))] []
  refine g_aload_n C dX4_isWrappedKey_31 rfl 0 rfl ?_
  refine g_getX C 0 rfl rfl inX4 10 (by decide) m_92 rfl dX4_isWrappedKey_32 ?_
  refine g_callV (v := muX1_finish) (cx := [(c0, .inr (3, [.ref h0, .ref k0, .ref x0, .int (nI (fl ((0 + 8) + 16)))])), (h0, .inr (2, [.ref r0, .ref t0])), (r0, aI E 176 (rk K)), (t0, aI E 16 (tn3)), (k0, aI E 16 (sk)), (x0, aI E 16 (acc K (wrM c msg) ((0 + 8) + 16)))]) C (k_X1_finish (gl g) E c0 h0 k0 x0 r0 t0 K (wrM c msg) tn3 sk (0 + 8 + 16) L F ) [5, 2, 3, 4, 6, 7] rfl (by decide) 5 rfl rfl gi_X4_73 hd_X1_finish ⟨Nat.le_of_ble_eq_true rfl, Nat.le_of_ble_eq_true rfl⟩ rfl rfl (Nat.le_of_ble_eq_true rfl) ⟨Nat.le_of_ble_eq_true rfl, Nat.le_of_ble_eq_true rfl⟩ dX4_isWrappedKey_35 (fun r9 cx9 L9 F9 hp9 hf9 hN9 => ?_)
  obtain ⟨tn4, sk4, rfl, rfl, rfl, rfl, -⟩ := hp9
  show G g muX4_isWrappedKey E A 0 0 Q [(xx, .inr (6, [.ref ka, .int (nI (nk)), .ref sa, .long (tr), .ref ma, .int (nI (ml)), .ref oa, .int (nI (on)), .ref ba, .ref h0, .ref c0])), (ma, aI E 300 (msg)), (h0, .inr (2, [.ref r0, .ref t0])), (r0, aI E 176 (rk K)), (t0, aI E 16 (tn4)), (c0, .inr (3, [.ref h0, .ref k0, .ref x0, .int (nI (fl (0 + 8 + 16)))])), (k0, aI E 16 (sk4)), (x0, aI E 16 (CMAC K (wrM c msg) (0 + 8 + 16)))] L F 38 [(0, .ref xx), (1, .ref kk), (2, .long (c))] []
  refine g_aload_n C dX4_isWrappedKey_38 rfl 0 rfl ?_
  refine g_getX C 0 rfl rfl inX4 10 (by decide) m_92 rfl dX4_isWrappedKey_39 ?_
  refine g_aload_n C dX4_isWrappedKey_42 rfl 0 rfl ?_
  refine g_getX C 0 rfl rfl inX4 4 (by decide) m_86 rfl dX4_isWrappedKey_43 ?_
  refine g_bipush (v := nI (16)) C dX4_isWrappedKey_46 (by decide) ?_
  refine g_callV (v := muX1_beginsLike) (cx := [(c0, .inr (3, [.ref h0, .ref k0, .ref x0, .int (nI (fl (0 + 8 + 16)))])), (x0, aI E 16 (CMAC K (wrM c msg) (0 + 8 + 16))), (ma, aI E 300 (msg))]) C (k_X1_beginsLike (gl g) E c0 h0 k0 x0 ma 16 (nI (fl (0 + 8 + 16))) (CMAC K (wrM c msg) (0 + 8 + 16)) msg L F (by omega)) [5, 7, 1] rfl (by decide) 5 rfl rfl gi_X4_179 hd_X1_beginsLike ⟨Nat.le_of_ble_eq_true rfl, Nat.le_of_ble_eq_true rfl⟩ rfl rfl (Nat.le_of_ble_eq_true rfl) ⟨Nat.le_of_ble_eq_true rfl, Nat.le_of_ble_eq_true rfl⟩ dX4_isWrappedKey_48 (fun r9 cx9 L9 F9 hp9 hf9 hN9 => ?_)
  obtain ⟨rfl, rfl, rfl, rfl, -⟩ := hp9
  show G g muX4_isWrappedKey E A 0 0 Q [(xx, .inr (6, [.ref ka, .int (nI (nk)), .ref sa, .long (tr), .ref ma, .int (nI (ml)), .ref oa, .int (nI (on)), .ref ba, .ref h0, .ref c0])), (ma, aI E 300 (msg)), (h0, .inr (2, [.ref r0, .ref t0])), (r0, aI E 176 (rk K)), (t0, aI E 16 (tn4)), (c0, .inr (3, [.ref h0, .ref k0, .ref x0, .int (nI (fl (0 + 8 + 16)))])), (k0, aI E 16 (sk4)), (x0, aI E 16 (CMAC K (wrM c msg) (0 + 8 + 16)))] L F 51 [(0, .ref xx), (1, .ref kk), (2, .long (c))] [.int (b2 (eqN (CMAC K (wrM c msg) (0 + 8 + 16)) (fun j => msg (16 + j)) 8))]
  refine g_asi (show (b2 (eqN (CMAC K (wrM c msg) (0 + 8 + 16)) (fun j => msg (16 + j)) 8)) = (b2 (wrB K c msg)) from rfl) ?_
  exact g_zret C r rfl (b2_nar _) ⟨rk K, tn4, sk4, CMAC K (wrM c msg) (0 + 8 + 16), nI (fl (0 + 8 + 16)), rfl, rfl, rfl, rfl, trivial⟩ rfl nN dX4_isWrappedKey_51
abbrev muX4_isCodedRow : Mu := (cX4_isCodedRow, 6, RX4, (some .boolean), "isCodedRow", 5, 0, 0, 114)
theorem hd_X4_isCodedRow : yX4_isCodedRow.cls = RX4 ∧ yX4_isCodedRow.cls ≠ "java/lang/invoke/MethodHandle" ∧ yX4_isCodedRow.cls ≠ "java/lang/invoke/VarHandle" ∧ (parseMethodDescriptor yX4_isCodedRow.desc).map (fun d => d.parameters.length) = some 3 := by decide +kernel
set_option maxHeartbeats 4000000 in
set_option maxRecDepth 100000 in
theorem k_X4_isCodedRow (l : Launch) (E : Ev) (xx ka sa ma oa ba h0 c0 nk ml on : Nat) (tr : Int64) (r0 t0 k0 x0 : Nat) (f tn sk res : Nat → Int32) (fi : Int32) (msg : Nat → Int32) (kk oo : Nat) (K : Nat → Int32) (nx : Int32) (cn : Int64) (ss : Nat) (id al : Int32) (ct : Int64) (bd : Nat) (c : Int64) (L : List Nat) (F : Nat → va_E) (hml : ml ≤ 300) (hm8 : 8 ≤ ml) (hkL : kk ∈ L) (hkF : F kk = .inr (4, [.ref oo, .int nx, .long cn])) (hoL : oo ∈ L) (hoF : F oo = aI E 16 K) (hsL : ss ∈ L) (hsF : F ss = .inr (5, [.int id, .long ct, .int (nI bd), .int al])) : KC l E yX4_isCodedRow muX4_isCodedRow [.ref xx, .ref kk, .ref ss, .long (c)] [(xx, .inr (6, [.ref ka, .int (nI (nk)), .ref sa, .long (tr), .ref ma, .int (nI (ml)), .ref oa, .int (nI (on)), .ref ba, .ref h0, .ref c0])), (ma, aI E 300 (msg)), (h0, .inr (2, [.ref r0, .ref t0])), (r0, aI E 176 (f)), (t0, aI E 16 (tn)), (c0, .inr (3, [.ref h0, .ref k0, .ref x0, .int (fi)])), (k0, aI E 16 (sk)), (x0, aI E 16 (res))] L F (fun r8 cx8 L8 F8 => ∃ (f1 tn1 sk1 res1 : Nat → Int32) (fi1 : Int32), r8 = some (.int (b2 (cdB K id tr c msg ml))) ∧ cx8 = [(xx, .inr (6, [.ref ka, .int (nI (nk)), .ref sa, .long (tr), .ref ma, .int (nI (ml)), .ref oa, .int (nI (on)), .ref ba, .ref h0, .ref c0])), (ma, aI E 300 (msg)), (h0, .inr (2, [.ref r0, .ref t0])), (r0, aI E 176 (f1)), (t0, aI E 16 (tn1)), (c0, .inr (3, [.ref h0, .ref k0, .ref x0, .int (fi1)])), (k0, aI E 16 (sk1)), (x0, aI E 16 (res1))] ∧ L = L8 ∧ F = F8 ∧ (True)) := by
  refine K_start (by decide) rfl rfl (Nat.le_of_ble_eq_true rfl) (fun g A Q hgl C r => ?_)
  subst hgl
  show G g muX4_isCodedRow E A 0 0 Q [(xx, .inr (6, [.ref ka, .int (nI (nk)), .ref sa, .long (tr), .ref ma, .int (nI (ml)), .ref oa, .int (nI (on)), .ref ba, .ref h0, .ref c0])), (ma, aI E 300 (msg)), (h0, .inr (2, [.ref r0, .ref t0])), (r0, aI E 176 (f)), (t0, aI E 16 (tn)), (c0, .inr (3, [.ref h0, .ref k0, .ref x0, .int (fi)])), (k0, aI E 16 (sk)), (x0, aI E 16 (res))] L F 0 [(0, .ref xx), (1, .ref kk), (2, .ref ss), (3, .long (c))] []
  refine g_aload_n C dX4_isCodedRow_0 rfl 0 rfl ?_
  refine g_getX C 0 rfl rfl inX4 5 (by decide) m_87 rfl dX4_isCodedRow_1 ?_
  refine g_bipush (v := nI (8)) C dX4_isCodedRow_4 (by decide) ?_
  refine g_isub C dX4_isCodedRow_6 ?_
  refine g_asi (pk_sub (by omega)) ?_
  refine g_istore (lv' := [(5, .int (nI (ml - 8))), (0, .ref xx), (1, .ref kk), (2, .ref ss), (3, .long (c))]) C dX4_isCodedRow_7 (by decide) rfl ?_
  refine g_aload_n C dX4_isCodedRow_9 rfl 1 rfl ?_
  refine g_getX C 0 rfl rfl inX4 10 (by decide) m_92 rfl dX4_isCodedRow_10 ?_
  refine g_aload_n C dX4_isCodedRow_13 rfl 2 rfl ?_
  refine g_callV (v := muX1_begin) (cx := [(c0, .inr (3, [.ref h0, .ref k0, .ref x0, .int (fi)])), (h0, .inr (2, [.ref r0, .ref t0])), (r0, aI E 176 (f)), (x0, aI E 16 (res))]) C (k_X1_begin (gl g) E c0 h0 k0 x0 r0 t0 kk oo f K res nx fi cn L F hkL hkF hoL hoF) [5, 2, 3, 7] rfl (by decide) 5 rfl rfl gi_X4_65 hd_X1_begin ⟨Nat.le_of_ble_eq_true rfl, Nat.le_of_ble_eq_true rfl⟩ rfl rfl (Nat.le_of_ble_eq_true rfl) ⟨Nat.le_of_ble_eq_true rfl, Nat.le_of_ble_eq_true rfl⟩ dX4_isCodedRow_14 (fun r9 cx9 L9 F9 hp9 hf9 hN9 => ?_)
  obtain ⟨rfl, rfl, rfl, rfl, -⟩ := hp9
  show G g muX4_isCodedRow E A 0 0 Q [(xx, .inr (6, [.ref ka, .int (nI (nk)), .ref sa, .long (tr), .ref ma, .int (nI (ml)), .ref oa, .int (nI (on)), .ref ba, .ref h0, .ref c0])), (ma, aI E 300 (msg)), (h0, .inr (2, [.ref r0, .ref t0])), (r0, aI E 176 (rk K)), (t0, aI E 16 (tn)), (c0, .inr (3, [.ref h0, .ref k0, .ref x0, .int (nI (0))])), (k0, aI E 16 (sk)), (x0, aI E 16 (fun _ => nI 0))] L F 17 [(5, .int (nI (ml - 8))), (0, .ref xx), (1, .ref kk), (2, .ref ss), (3, .long (c))] []
  refine g_aload_n C dX4_isCodedRow_17 rfl 1 rfl ?_
  refine g_getX C 0 rfl rfl inX4 10 (by decide) m_92 rfl dX4_isCodedRow_18 ?_
  refine g_aload_n C dX4_isCodedRow_21 rfl 3 rfl ?_
  refine g_getP C hsL hsF rfl inX3 0 (by decide) m_68 rfl dX4_isCodedRow_22 ?_
  refine g_i2l (v := (id).toInt64) C dX4_isCodedRow_25 rfl ?_
  refine g_iconst (v := nI (1)) C dX4_isCodedRow_26 (by decide) ?_
  refine g_callV (v := muX1_addNumber) (cx := [(c0, .inr (3, [.ref h0, .ref k0, .ref x0, .int (nI (0))])), (h0, .inr (2, [.ref r0, .ref t0])), (r0, aI E 176 (rk K)), (t0, aI E 16 (tn)), (x0, aI E 16 (fun _ => nI 0))]) C (k_X1_addNumber (gl g) E c0 h0 k0 x0 r0 t0 K (cdM id tr c msg) tn 0 1 id.toInt64 L F (by omega) (fun j hj => by unfold cdM; rw [if_pos (by omega), show 1 - j - 1 = 0 by omega])) [5, 2, 3, 4, 7] rfl (by decide) 5 rfl rfl gi_X4_175 hd_X1_addNumber ⟨Nat.le_of_ble_eq_true rfl, Nat.le_of_ble_eq_true rfl⟩ rfl rfl (Nat.le_of_ble_eq_true rfl) ⟨Nat.le_of_ble_eq_true rfl, Nat.le_of_ble_eq_true rfl⟩ dX4_isCodedRow_27 (fun r9 cx9 L9 F9 hp9 hf9 hN9 => ?_)
  obtain ⟨tn2, rfl, rfl, rfl, rfl, -⟩ := hp9
  show G g muX4_isCodedRow E A 0 0 Q [(xx, .inr (6, [.ref ka, .int (nI (nk)), .ref sa, .long (tr), .ref ma, .int (nI (ml)), .ref oa, .int (nI (on)), .ref ba, .ref h0, .ref c0])), (ma, aI E 300 (msg)), (h0, .inr (2, [.ref r0, .ref t0])), (r0, aI E 176 (rk K)), (t0, aI E 16 (tn2)), (c0, .inr (3, [.ref h0, .ref k0, .ref x0, .int (nI (fl (0 + 1)))])), (k0, aI E 16 (sk)), (x0, aI E 16 (acc K (cdM id tr c msg) (0 + 1)))] L F 30 [(5, .int (nI (ml - 8))), (0, .ref xx), (1, .ref kk), (2, .ref ss), (3, .long (c))] []
  refine g_aload_n C dX4_isCodedRow_30 rfl 1 rfl ?_
  refine g_getX C 0 rfl rfl inX4 10 (by decide) m_92 rfl dX4_isCodedRow_31 ?_
  refine g_aload_n C dX4_isCodedRow_34 rfl 1 rfl ?_
  refine g_getX C 0 rfl rfl inX4 3 (by decide) m_85 rfl dX4_isCodedRow_35 ?_
  refine g_iconst (v := nI (4)) C dX4_isCodedRow_38 (by decide) ?_
  refine g_callV (v := muX1_addNumber) (cx := [(c0, .inr (3, [.ref h0, .ref k0, .ref x0, .int (nI (fl (0 + 1)))])), (h0, .inr (2, [.ref r0, .ref t0])), (r0, aI E 176 (rk K)), (t0, aI E 16 (tn2)), (x0, aI E 16 (acc K (cdM id tr c msg) (0 + 1)))]) C (k_X1_addNumber (gl g) E c0 h0 k0 x0 r0 t0 K (cdM id tr c msg) tn2 (0 + 1) 4 tr L F (by omega) (fun j hj => by unfold cdM; rw [if_neg (by omega), if_pos (by omega), show 4 - (0 + 1 + j) = 4 - j - 1 by omega])) [5, 2, 3, 4, 7] rfl (by decide) 5 rfl rfl gi_X4_175 hd_X1_addNumber ⟨Nat.le_of_ble_eq_true rfl, Nat.le_of_ble_eq_true rfl⟩ rfl rfl (Nat.le_of_ble_eq_true rfl) ⟨Nat.le_of_ble_eq_true rfl, Nat.le_of_ble_eq_true rfl⟩ dX4_isCodedRow_39 (fun r9 cx9 L9 F9 hp9 hf9 hN9 => ?_)
  obtain ⟨tn3, rfl, rfl, rfl, rfl, -⟩ := hp9
  show G g muX4_isCodedRow E A 0 0 Q [(xx, .inr (6, [.ref ka, .int (nI (nk)), .ref sa, .long (tr), .ref ma, .int (nI (ml)), .ref oa, .int (nI (on)), .ref ba, .ref h0, .ref c0])), (ma, aI E 300 (msg)), (h0, .inr (2, [.ref r0, .ref t0])), (r0, aI E 176 (rk K)), (t0, aI E 16 (tn3)), (c0, .inr (3, [.ref h0, .ref k0, .ref x0, .int (nI (fl ((0 + 1) + 4)))])), (k0, aI E 16 (sk)), (x0, aI E 16 (acc K (cdM id tr c msg) ((0 + 1) + 4)))] L F 42 [(5, .int (nI (ml - 8))), (0, .ref xx), (1, .ref kk), (2, .ref ss), (3, .long (c))] []
  refine g_aload_n C dX4_isCodedRow_42 rfl 1 rfl ?_
  refine g_getX C 0 rfl rfl inX4 10 (by decide) m_92 rfl dX4_isCodedRow_43 ?_
  refine g_lload_n C dX4_isCodedRow_46 rfl 4 rfl ?_
  refine g_bipush (v := nI (8)) C dX4_isCodedRow_47 (by decide) ?_
  refine g_callV (v := muX1_addNumber) (cx := [(c0, .inr (3, [.ref h0, .ref k0, .ref x0, .int (nI (fl ((0 + 1) + 4)))])), (h0, .inr (2, [.ref r0, .ref t0])), (r0, aI E 176 (rk K)), (t0, aI E 16 (tn3)), (x0, aI E 16 (acc K (cdM id tr c msg) ((0 + 1) + 4)))]) C (k_X1_addNumber (gl g) E c0 h0 k0 x0 r0 t0 K (cdM id tr c msg) tn3 (0 + 1 + 4) 8 c L F (by omega) (fun j hj => by unfold cdM; rw [if_neg (by omega), if_neg (by omega), if_pos (by omega), show 12 - (0 + 1 + 4 + j) = 8 - j - 1 by omega])) [5, 2, 3, 4, 7] rfl (by decide) 5 rfl rfl gi_X4_175 hd_X1_addNumber ⟨Nat.le_of_ble_eq_true rfl, Nat.le_of_ble_eq_true rfl⟩ rfl rfl (Nat.le_of_ble_eq_true rfl) ⟨Nat.le_of_ble_eq_true rfl, Nat.le_of_ble_eq_true rfl⟩ dX4_isCodedRow_49 (fun r9 cx9 L9 F9 hp9 hf9 hN9 => ?_)
  obtain ⟨tn4, rfl, rfl, rfl, rfl, -⟩ := hp9
  show G g muX4_isCodedRow E A 0 0 Q [(xx, .inr (6, [.ref ka, .int (nI (nk)), .ref sa, .long (tr), .ref ma, .int (nI (ml)), .ref oa, .int (nI (on)), .ref ba, .ref h0, .ref c0])), (ma, aI E 300 (msg)), (h0, .inr (2, [.ref r0, .ref t0])), (r0, aI E 176 (rk K)), (t0, aI E 16 (tn4)), (c0, .inr (3, [.ref h0, .ref k0, .ref x0, .int (nI (fl ((0 + 1 + 4) + 8)))])), (k0, aI E 16 (sk)), (x0, aI E 16 (acc K (cdM id tr c msg) ((0 + 1 + 4) + 8)))] L F 52 [(5, .int (nI (ml - 8))), (0, .ref xx), (1, .ref kk), (2, .ref ss), (3, .long (c))] []
  refine g_aload_n C dX4_isCodedRow_52 rfl 1 rfl ?_
  refine g_getX C 0 rfl rfl inX4 10 (by decide) m_92 rfl dX4_isCodedRow_53 ?_
  refine g_aload_n C dX4_isCodedRow_56 rfl 1 rfl ?_
  refine g_getX C 0 rfl rfl inX4 4 (by decide) m_86 rfl dX4_isCodedRow_57 ?_
  refine g_iload C dX4_isCodedRow_60 0 rfl ?_
  refine g_callV (v := muX1_addOctets) (cx := [(c0, .inr (3, [.ref h0, .ref k0, .ref x0, .int (nI (fl ((0 + 1 + 4) + 8)))])), (h0, .inr (2, [.ref r0, .ref t0])), (r0, aI E 176 (rk K)), (t0, aI E 16 (tn4)), (x0, aI E 16 (acc K (cdM id tr c msg) ((0 + 1 + 4) + 8))), (ma, aI E 300 (msg))]) C (k_X1_addOctets (gl g) E c0 h0 k0 x0 r0 t0 ma K (cdM id tr c msg) tn4 msg (0 + 1 + 4 + 8) (ml - 8) L F (by omega) (fun j hj => by unfold cdM; rw [if_neg (by omega), if_neg (by omega), if_neg (by omega), show 0 + 1 + 4 + 8 + j - 13 = j by omega])) [5, 2, 3, 4, 7, 1] rfl (by decide) 5 rfl rfl gi_X4_69 hd_X1_addOctets ⟨Nat.le_of_ble_eq_true rfl, Nat.le_of_ble_eq_true rfl⟩ rfl rfl (Nat.le_of_ble_eq_true rfl) ⟨Nat.le_of_ble_eq_true rfl, Nat.le_of_ble_eq_true rfl⟩ dX4_isCodedRow_62 (fun r9 cx9 L9 F9 hp9 hf9 hN9 => ?_)
  obtain ⟨tn5, rfl, rfl, rfl, rfl, -⟩ := hp9
  show G g muX4_isCodedRow E A 0 0 Q [(xx, .inr (6, [.ref ka, .int (nI (nk)), .ref sa, .long (tr), .ref ma, .int (nI (ml)), .ref oa, .int (nI (on)), .ref ba, .ref h0, .ref c0])), (ma, aI E 300 (msg)), (h0, .inr (2, [.ref r0, .ref t0])), (r0, aI E 176 (rk K)), (t0, aI E 16 (tn5)), (c0, .inr (3, [.ref h0, .ref k0, .ref x0, .int (nI (fl ((0 + 1 + 4 + 8) + (ml - 8))))])), (k0, aI E 16 (sk)), (x0, aI E 16 (acc K (cdM id tr c msg) ((0 + 1 + 4 + 8) + (ml - 8))))] L F 65 [(5, .int (nI (ml - 8))), (0, .ref xx), (1, .ref kk), (2, .ref ss), (3, .long (c))] []
  refine g_aload_n C dX4_isCodedRow_65 rfl 1 rfl ?_
  refine g_getX C 0 rfl rfl inX4 10 (by decide) m_92 rfl dX4_isCodedRow_66 ?_
  refine g_callV (v := muX1_finish) (cx := [(c0, .inr (3, [.ref h0, .ref k0, .ref x0, .int (nI (fl ((0 + 1 + 4 + 8) + (ml - 8))))])), (h0, .inr (2, [.ref r0, .ref t0])), (r0, aI E 176 (rk K)), (t0, aI E 16 (tn5)), (k0, aI E 16 (sk)), (x0, aI E 16 (acc K (cdM id tr c msg) ((0 + 1 + 4 + 8) + (ml - 8))))]) C (k_X1_finish (gl g) E c0 h0 k0 x0 r0 t0 K (cdM id tr c msg) tn5 sk (0 + 1 + 4 + 8 + (ml - 8)) L F ) [5, 2, 3, 4, 6, 7] rfl (by decide) 5 rfl rfl gi_X4_73 hd_X1_finish ⟨Nat.le_of_ble_eq_true rfl, Nat.le_of_ble_eq_true rfl⟩ rfl rfl (Nat.le_of_ble_eq_true rfl) ⟨Nat.le_of_ble_eq_true rfl, Nat.le_of_ble_eq_true rfl⟩ dX4_isCodedRow_69 (fun r9 cx9 L9 F9 hp9 hf9 hN9 => ?_)
  obtain ⟨tn6, sk6, rfl, rfl, rfl, rfl, -⟩ := hp9
  show G g muX4_isCodedRow E A 0 0 Q [(xx, .inr (6, [.ref ka, .int (nI (nk)), .ref sa, .long (tr), .ref ma, .int (nI (ml)), .ref oa, .int (nI (on)), .ref ba, .ref h0, .ref c0])), (ma, aI E 300 (msg)), (h0, .inr (2, [.ref r0, .ref t0])), (r0, aI E 176 (rk K)), (t0, aI E 16 (tn6)), (c0, .inr (3, [.ref h0, .ref k0, .ref x0, .int (nI (fl (0 + 1 + 4 + 8 + (ml - 8))))])), (k0, aI E 16 (sk6)), (x0, aI E 16 (CMAC K (cdM id tr c msg) (0 + 1 + 4 + 8 + (ml - 8))))] L F 72 [(5, .int (nI (ml - 8))), (0, .ref xx), (1, .ref kk), (2, .ref ss), (3, .long (c))] []
  refine g_aload_n C dX4_isCodedRow_72 rfl 1 rfl ?_
  refine g_getX C 0 rfl rfl inX4 10 (by decide) m_92 rfl dX4_isCodedRow_73 ?_
  refine g_aload_n C dX4_isCodedRow_76 rfl 1 rfl ?_
  refine g_getX C 0 rfl rfl inX4 4 (by decide) m_86 rfl dX4_isCodedRow_77 ?_
  refine g_iload C dX4_isCodedRow_80 0 rfl ?_
  refine g_callV (v := muX1_beginsLike) (cx := [(c0, .inr (3, [.ref h0, .ref k0, .ref x0, .int (nI (fl (0 + 1 + 4 + 8 + (ml - 8))))])), (x0, aI E 16 (CMAC K (cdM id tr c msg) (0 + 1 + 4 + 8 + (ml - 8)))), (ma, aI E 300 (msg))]) C (k_X1_beginsLike (gl g) E c0 h0 k0 x0 ma (ml - 8) (nI (fl (0 + 1 + 4 + 8 + (ml - 8)))) (CMAC K (cdM id tr c msg) (0 + 1 + 4 + 8 + (ml - 8))) msg L F (by omega)) [5, 7, 1] rfl (by decide) 5 rfl rfl gi_X4_179 hd_X1_beginsLike ⟨Nat.le_of_ble_eq_true rfl, Nat.le_of_ble_eq_true rfl⟩ rfl rfl (Nat.le_of_ble_eq_true rfl) ⟨Nat.le_of_ble_eq_true rfl, Nat.le_of_ble_eq_true rfl⟩ dX4_isCodedRow_82 (fun r9 cx9 L9 F9 hp9 hf9 hN9 => ?_)
  obtain ⟨rfl, rfl, rfl, rfl, -⟩ := hp9
  show G g muX4_isCodedRow E A 0 0 Q [(xx, .inr (6, [.ref ka, .int (nI (nk)), .ref sa, .long (tr), .ref ma, .int (nI (ml)), .ref oa, .int (nI (on)), .ref ba, .ref h0, .ref c0])), (ma, aI E 300 (msg)), (h0, .inr (2, [.ref r0, .ref t0])), (r0, aI E 176 (rk K)), (t0, aI E 16 (tn6)), (c0, .inr (3, [.ref h0, .ref k0, .ref x0, .int (nI (fl (0 + 1 + 4 + 8 + (ml - 8))))])), (k0, aI E 16 (sk6)), (x0, aI E 16 (CMAC K (cdM id tr c msg) (0 + 1 + 4 + 8 + (ml - 8))))] L F 85 [(5, .int (nI (ml - 8))), (0, .ref xx), (1, .ref kk), (2, .ref ss), (3, .long (c))] [.int (b2 (eqN (CMAC K (cdM id tr c msg) (0 + 1 + 4 + 8 + (ml - 8))) (fun j => msg ((ml - 8) + j)) 8))]
  refine g_asi (show (b2 (eqN (CMAC K (cdM id tr c msg) (0 + 1 + 4 + 8 + (ml - 8))) (fun j => msg ((ml - 8) + j)) 8)) = (b2 (cdB K id tr c msg ml)) from rfl) ?_
  exact g_zret C r rfl (b2_nar _) ⟨rk K, tn6, sk6, CMAC K (cdM id tr c msg) (0 + 1 + 4 + 8 + (ml - 8)), nI (fl (0 + 1 + 4 + 8 + (ml - 8))), rfl, rfl, rfl, rfl, trivial⟩ rfl nN dX4_isCodedRow_85
