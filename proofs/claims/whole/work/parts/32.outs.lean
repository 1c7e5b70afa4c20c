theorem hd_X4_out : yX4_out.cls = RX4 ∧ yX4_out.cls ≠ "java/lang/invoke/MethodHandle" ∧ yX4_out.cls ≠ "java/lang/invoke/VarHandle" ∧ (parseMethodDescriptor yX4_out.desc).map (fun d => d.parameters.length) = some 1 := by decide +kernel
theorem hd_L_out : yL_out.cls ≠ "java/lang/invoke/MethodHandle" ∧ yL_out.cls ≠ "java/lang/invoke/VarHandle" ∧ (parseMethodDescriptor yL_out.desc).map (fun d => d.parameters.length) = some 3 := by decide +kernel
theorem gi_L_39 : GoodIn wB (va_wsS RL 39 yL_out (.codeWith yL_out cL_out 4 (some .int) [(0, 9, 12, 13)] :: wB)) := wB_g3 m_324 m_325 m_0 m_326
set_option maxHeartbeats 4000000 in
set_option maxRecDepth 100000 in
/-- out(x) of the class -/
theorem k_X4_out (l : Launch) (hl : l.stackTraces = false) (E : Ev) (xx ka sa ma oa ba h0 c0 nk ml on : Nat) (tr : Int64) (ov : Nat → Int32) (x : Int32) (L : List Nat) (F : Nat → va_E) (hon : on ≤ 16) : KX l E yX4_out muX4_out [.ref xx, .int (x)] [(xx, .inr (6, [.ref ka, .int (nI (nk)), .ref sa, .long (tr), .ref ma, .int (nI (ml)), .ref oa, .int (nI (on)), .ref ba, .ref h0, .ref c0])), (oa, aI E 16 (ov))] L F (fun r8 cx8 L8 F8 => ∃ (q : Nat), r8 = some (.int ((ov q).toInt8.toInt32)) ∧ cx8 = [(xx, .inr (6, [.ref ka, .int (nI (nk)), .ref sa, .long (tr), .ref ma, .int (nI (ml)), .ref oa, .int (nI (on)), .ref ba, .ref h0, .ref c0])), (oa, aI E 16 (ov))] ∧ L = L8 ∧ F = F8 ∧ (q < on ∧ x = nI q)) (x < 0 ∨ ¬ x < nI on) := by
  refine KX_start (by decide) rfl rfl (Nat.le_of_ble_eq_true rfl) (fun g A Q QX hgl C T r lift th => ?_)
  subst hgl
  show G g muX4_out E A 0 0 QX [(xx, .inr (6, [.ref ka, .int (nI (nk)), .ref sa, .long (tr), .ref ma, .int (nI (ml)), .ref oa, .int (nI (on)), .ref ba, .ref h0, .ref c0])), (oa, aI E 16 (ov))] L F 0 [(0, .ref xx), (1, .int (x))] []
  refine g_iload_n C dX4_out_0 rfl 1 rfl ?_
  refine g_if_lt (tgt := 12) C dX4_out_1 (by decide) (fun c1 => ?_) (fun c1 => ?_)
  · exact g_throw C T hl th (Or.inl c1)
  · refine g_iload_n C dX4_out_4 rfl 1 rfl ?_
    refine g_aload_n C dX4_out_5 rfl 0 rfl ?_
    refine g_getX C 0 rfl rfl inX4 7 (by decide) m_89 rfl dX4_out_6 ?_
    refine g_icmp_lt (tgt := 22) C dX4_out_9 (by decide) (fun c9 => ?_) (fun c9 => ?_)
    · obtain ⟨q, hq, hqe⟩ := idx_of c1 c9 (by omega)
      refine lift ?_
      refine g_aload_n C dX4_out_22 rfl 0 rfl ?_
      refine g_getX C 0 rfl rfl inX4 6 (by decide) m_88 rfl dX4_out_23 ?_
      refine g_iload_n C dX4_out_26 rfl 1 rfl ?_
      refine g_asi (show (x) = (nI (q)) from hqe) ?_
      refine g_iald C 1 rfl (by omega) (by decide) dX4_out_27 ?_
      refine g_i2b (v := (ov q).toInt8.toInt32) C dX4_out_28 rfl ?_
      refine g_cells (Nat.zero_le 1) (Nat.zero_le 6) ?_
      exact g_zret C r rfl (pk_nb _) ⟨q, rfl, rfl, rfl, rfl, hq, hqe⟩ rfl nN dX4_out_29
    · exact g_throw C T hl th (Or.inr c9)
set_option maxHeartbeats 4000000 in
set_option maxRecDepth 100000 in
/-- the law's out: 1 where the class throws, 0 and the answer in the row where it doesn't -/
theorem k_L_out (l : Launch) (hl : l.stackTraces = false) (E : Ev) (xx ka sa ma oa ba h0 c0 nk ml on : Nat) (tr : Int64) (la : Nat) (ov : Nat → Int32) (fl : Nat → Int64) (x : Int32) (L : List Nat) (F : Nat → va_E) (hon : on ≤ 16) : KW l E yL_out muL_out [(0, 9, 12, 13)] [.ref xx, .int (x), .ref la] [(xx, .inr (6, [.ref ka, .int (nI (nk)), .ref sa, .long (tr), .ref ma, .int (nI (ml)), .ref oa, .int (nI (on)), .ref ba, .ref h0, .ref c0])), (oa, aI E 16 (ov)), (la, aJ E 1 (fl))] L F (fun r8 cx8 L8 F8 => ∃ (r1 : Int32) (fl1 : Nat → Int64), r8 = some (.int (r1)) ∧ cx8 = [(xx, .inr (6, [.ref ka, .int (nI (nk)), .ref sa, .long (tr), .ref ma, .int (nI (ml)), .ref oa, .int (nI (on)), .ref ba, .ref h0, .ref c0])), (oa, aI E 16 (ov)), (la, aJ E 1 (fl1))] ∧ L = L8 ∧ F = F8 ∧ ((r1 = nI 1 ∧ (x < 0 ∨ ¬ x < nI on)) ∨ (r1 = nI 0 ∧ ∃ q, q < on ∧ x = nI q ∧ fl1 0 = ((ov q).toInt8.toInt32).toInt64))) := by
  refine KW_start (by decide) rfl rfl (Nat.le_of_ble_eq_true rfl) (fun g A Q hgl C T htb r => ?_)
  subst hgl
  show G g muL_out E A 0 0 Q [(xx, .inr (6, [.ref ka, .int (nI (nk)), .ref sa, .long (tr), .ref ma, .int (nI (ml)), .ref oa, .int (nI (on)), .ref ba, .ref h0, .ref c0])), (oa, aI E 16 (ov)), (la, aJ E 1 (fl))] L F 0 [(0, .ref xx), (1, .int (x)), (2, .ref la)] []
  refine g_aload_n C dL_out_0 rfl 2 rfl ?_
  refine g_iconst (v := nI (0)) C dL_out_1 (by decide) ?_
  refine g_aload_n C dL_out_2 rfl 0 rfl ?_
  refine g_iload_n C dL_out_3 rfl 1 rfl ?_
  refine g_callX (v := muX4_out) (cx := [(xx, .inr (6, [.ref ka, .int (nI (nk)), .ref sa, .long (tr), .ref ma, .int (nI (ml)), .ref oa, .int (nI (on)), .ref ba, .ref h0, .ref c0])), (oa, aI E 16 (ov))]) C T (k_X4_out (gl g) hl E xx ka sa ma oa ba h0 c0 nk ml on tr ov x L F hon) [0, 1] rfl (by decide) 0 rfl rfl gi_L_7 hd_X4_out ⟨Nat.le_of_ble_eq_true rfl, Nat.le_of_ble_eq_true rfl⟩ rfl rfl (Nat.le_of_ble_eq_true rfl) ⟨Nat.le_of_ble_eq_true rfl, Nat.le_of_ble_eq_true rfl⟩ dL_out_4 htb (by decide) (by decide) m_327 (fun q9 hp9 => ?_) (fun r9 cx9 L9 F9 hp9 hf9 hN9 => ?_)
  · show G g muL_out E A 1 6 Q [(xx, .inr (6, [.ref ka, .int (nI (nk)), .ref sa, .long (tr), .ref ma, .int (nI (ml)), .ref oa, .int (nI (on)), .ref ba, .ref h0, .ref c0])), (oa, aI E 16 (ov)), (la, aJ E 1 (fl))] L F 12 [(0, .ref xx), (1, .int (x)), (2, .ref la)] [.ref q9]
    refine g_astore_n (lv' := [(3, .ref q9), (0, .ref xx), (1, .int (x)), (2, .ref la)]) C dL_out_12 rfl (by decide) rfl ?_
    refine g_iconst (v := nI (1)) C dL_out_13 (by decide) ?_
    exact g_zret C r rfl rfl ⟨nI 1, fl, rfl, rfl, rfl, rfl, Or.inl ⟨rfl, hp9⟩⟩ rfl nN dL_out_14
  · obtain ⟨q, rfl, rfl, rfl, rfl, hq, hqe⟩ := hp9
    show G g muL_out E A 1 6 Q [(xx, .inr (6, [.ref ka, .int (nI (nk)), .ref sa, .long (tr), .ref ma, .int (nI (ml)), .ref oa, .int (nI (on)), .ref ba, .ref h0, .ref c0])), (oa, aI E 16 (ov)), (la, aJ E 1 (fl))] L F 7 [(0, .ref xx), (1, .int (x)), (2, .ref la)] [.int ((ov q).toInt8.toInt32), .int (nI (0)), .ref la]
    refine g_i2l (v := ((ov q).toInt8.toInt32).toInt64) C dL_out_7 rfl ?_
    refine g_last (X' := [(xx, .inr (6, [.ref ka, .int (nI (nk)), .ref sa, .long (tr), .ref ma, .int (nI (ml)), .ref oa, .int (nI (on)), .ref ba, .ref h0, .ref c0])), (oa, aI E 16 (ov)), (la, aJ E 1 (vp_updL fl 0 (((ov q).toInt8.toInt32).toInt64)))]) C 2 rfl (by omega) (by decide) rfl dL_out_8 ?_
    refine g_goto (tgt := 15) C dL_out_9 (by decide) ?_
    refine g_iconst (v := nI (0)) C dL_out_15 (by decide) ?_
    exact g_zret C r rfl rfl ⟨nI 0, vp_updL fl 0 (((ov q).toInt8.toInt32).toInt64), rfl, rfl, rfl, rfl, Or.inr ⟨rfl, q, hq, hqe, pk_uLs⟩⟩ rfl nN dL_out_16
